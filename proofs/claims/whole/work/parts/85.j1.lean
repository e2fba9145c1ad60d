/-! both sides together: the calls that only ask -/
/-- the script stays -/
def s_lo (M M' : ew_Mem) : Prop := ∀ a j : Nat, a < 4 → M' a j = M a j
theorem s_lo_tr {M M' M'' : ew_Mem} (h : s_lo M M') (h' : s_lo M' M'') : s_lo M M'' := fun a j q => (h' a j q).trans (h a j q)
theorem s_lo_Fr {M M' : ew_Mem} (h : s_Fr M M') : s_lo M M' := fun a j q => h a j (s_scr_n (by omega) j)
/-- a call on both sides: the same answer, the picture kept -/
def s_CL (t k k' : Nat) (A : List ew_AV) (c n : Nat) (M : ew_Mem) : Prop := ew_C k ((2, 4) :: A) n M (fun r n1 M1 => s_lo M M1 ∧ ∃ x : Int, r = some (t, x) ∧ ew_C k' ((2, 38) :: A) n1 M1 (fun r2 n2 M2 => r2 = some (t, x) ∧ s_J (c + 1) n2 M2 ∧ s_lo M M2))
theorem J_pure {t k k' : Nat} {A : List ew_AV} {c n : Nat} {M : ew_Mem} {x : Int} (hJ : s_J c n M) (h1 : ew_C k ((2, 4) :: A) n M (s_QF (t, x) n M)) (h2 : ∀ (M1 : ew_Mem) (h : Int → Nat), s_RM h M M1 → s_M (s_V M) n M1 → ew_C k' ((2, 38) :: A) n M1 (s_QF (t, x) n M1)) : s_CL t k k' A c n M := by
  refine ew_Cm h1 ?_
  rintro r n1 M1 ⟨rfl, e, f⟩
  obtain rfl := e.symm
  have hJ1 := s_J_fr f hJ
  obtain ⟨hK, h, hR⟩ := hJ
  have hR1 : s_RM h M M1 := s_R_ag hK s_aC_rf (fun a i _ q => f a i q) hR
  have hM := s_R_M hK hR1 hJ1.1.2.2.1 hK.1
  refine ⟨s_lo_Fr f, x, rfl, ew_Cm (h2 M1 h hR1 hM) ?_⟩
  rintro r2 n2 M2 ⟨rfl, e2, f2⟩
  obtain rfl := e2.symm
  exact ⟨rfl, s_J_c (s_J_fr f2 hJ1), s_lo_tr (s_lo_Fr f) (s_lo_Fr f2)⟩
set_option maxRecDepth 20000 in
theorem cx_lay_o {n : Nat} {M : ew_Mem} (hn : 59 ≤ n) (hp : ew_Pm M) {t i w : Int} (ht : ew_in t) (hi : ew_in i) (hw : ew_in w) (ho : ¬ (0 ≤ t ∧ t < 4)) : ew_FM 136 [(2, 4), (0, t), (0, i), (0, w)] n M (0, -1) n M := by
  have hc := ew_c_136
  show ew_X 136 0 [(2, 4), (0, t), (0, i), (0, w), (5, 0), (5, 0)] [] n M _
  refine xr_go hc rfl rfl ?_
  refine xr_go hc rfl rfl ?_
  refine xr_v_2 hc rfl rfl (ew_own_p hn rfl) (c_trayN0 hn hp ht ho) ?_
  refine xr_s1_4 hc rfl rfl rfl ?_
  refine xr_go hc rfl rfl ?_
  refine xr_null hc rfl (fun c1 => ?_) (fun c1 => by exfalso; omega)
  refine xr_go hc rfl rfl ?_
  refine xr_ret hc rfl rfl ?_
  exact ⟨rfl, rfl, rfl⟩

set_option maxRecDepth 20000 in
theorem cx_laid_o {n : Nat} {M : ew_Mem} (hn : 59 ≤ n) (hp : ew_Pm M) {t i x : Int} (ht : ew_in t) (hi : ew_in i) (hx : ew_in x) (ho : ¬ (0 ≤ t ∧ t < 4)) : ew_FM 137 [(2, 4), (0, t), (0, i), (0, x)] n M (0, -1) n M := by
  have hc := ew_c_137
  show ew_X 137 0 [(2, 4), (0, t), (0, i), (0, x), (5, 0), (5, 0)] [] n M _
  refine xr_go hc rfl rfl ?_
  refine xr_go hc rfl rfl ?_
  refine xr_v_2 hc rfl rfl (ew_own_p hn rfl) (c_trayN0 hn hp ht ho) ?_
  refine xr_s1_4 hc rfl rfl rfl ?_
  refine xr_go hc rfl rfl ?_
  refine xr_null hc rfl (fun c1 => ?_) (fun c1 => by exfalso; omega)
  refine xr_go hc rfl rfl ?_
  refine xr_ret hc rfl rfl ?_
  exact ⟨rfl, rfl, rfl⟩

def s_a_ldo (kd x : Int) : Int := if 0 ≤ x ∧ x ≤ 3 then (if kd = -1 then -11 else -12) else -1
set_option maxRecDepth 20000 in
theorem cx_laid_i {n : Nat} {M : ew_Mem} (hn : 59 ≤ n) (hp : ew_Pm M) {t i x : Int} (ht : ew_in t) (hi : ew_in i) (hx : ew_in x) (hq : 0 ≤ t ∧ t < 4) (hk : -1 ≤ M (12 + 2 * t.toNat) 1 ∧ M (12 + 2 * t.toNat) 1 ≤ 4) (hs : 0 ≤ M (12 + 2 * t.toNat) 2 ∧ M (12 + 2 * t.toNat) 2 ≤ 12) (hio : ¬ (0 ≤ i ∧ i < (M (12 + 2 * t.toNat) 2))) : ew_FM 137 [(2, 4), (0, t), (0, i), (0, x)] n M (0, s_a_ldo (M (12 + 2 * t.toNat) 1) x) n M := by
  have hTT := s_tr hn hp (u := t.toNat) (by omega)
  obtain ⟨hT1, hT2, hT3, hT4, hT5⟩ := hTT
  have hc := ew_c_137
  show ew_X 137 0 [(2, 4), (0, t), (0, i), (0, x), (5, 0), (5, 0)] [] n M _
  refine xr_go hc rfl rfl ?_
  refine xr_go hc rfl rfl ?_
  refine xr_v_2 hc rfl rfl (ew_own_p hn rfl) (c_trayN hn hp hq) ?_
  refine xr_s1_4 hc rfl rfl rfl ?_
  refine xr_go hc rfl rfl ?_
  refine xr_null hc rfl (fun c1 => by exfalso; omega) (fun c1 => ?_)
  refine xr_go hc rfl rfl ?_
  refine xr_if_lt hc rfl (by omega) (fun c2 => ?_) (fun c2 => ?_)
  · skip
    refine xr_go hc rfl rfl ?_
    refine xr_ret hc rfl rfl ?_
    first
      | (exfalso; omega)
      | (refine ⟨?_, rfl, rfl⟩
         unfold s_a_ldo
         repeat' split
         all_goals first
           | rfl
           | (exfalso; omega)
           | (congr 2; omega))
  · skip
    refine xr_go hc rfl rfl ?_
    refine xr_go hc rfl rfl ?_
    refine xr_icmp_le hc rfl (by omega) (by decide) (fun c3 => ?_) (fun c3 => ?_)
    · skip
      refine xr_go hc rfl rfl ?_
      refine xr_v_1 hc rfl rfl hT1 (c_tMiss hn hp (u := t.toNat) (by omega) hk) ?_
      refine xr_if_eq hc rfl (by split <;> omega) (fun c4 => ?_) (fun c4 => ?_)
      · skip
        refine xr_go hc rfl rfl ?_
        refine xr_go hc rfl rfl ?_
        refine xr_v_2 hc rfl rfl hT1 (c_tHas hn hp (u := t.toNat) (by omega) hs hi) ?_
        refine xr_if_ne hc rfl (by split <;> omega) (fun c5 => ?_) (fun c5 => ?_)
        · exfalso; omega
        · skip
          refine xr_go hc rfl rfl ?_
          refine xr_ret hc rfl rfl ?_
          first
            | (exfalso; omega)
            | (refine ⟨?_, rfl, rfl⟩
               unfold s_a_ldo
               repeat' split
               all_goals first
                 | rfl
                 | (exfalso; omega)
                 | (congr 2; omega))
      · skip
        refine xr_go hc rfl rfl ?_
        refine xr_ret hc rfl rfl ?_
        first
          | (exfalso; omega)
          | (refine ⟨?_, rfl, rfl⟩
             unfold s_a_ldo
             repeat' split
             all_goals first
               | rfl
               | (exfalso; omega)
               | (congr 2; omega))
    · skip
      refine xr_go hc rfl rfl ?_
      refine xr_ret hc rfl rfl ?_
      first
        | (exfalso; omega)
        | (refine ⟨?_, rfl, rfl⟩
           unfold s_a_ldo
           repeat' split
           all_goals first
             | rfl
             | (exfalso; omega)
             | (congr 2; omega))

set_option maxRecDepth 20000 in
theorem cx_like_o {n : Nat} {M : ew_Mem} (hn : 59 ≤ n) (hp : ew_Pm M) {t o : Int} (ht : ew_in t) (ho : ew_in o) (ho2 : ¬ (0 ≤ o ∧ o < 4)) : ew_FM 138 [(2, 4), (0, t), (0, o)] n M (0, -1) n M := by
  have hc := ew_c_138
  show ew_X 138 0 [(2, 4), (0, t), (0, o), (5, 0), (5, 0)] [] n M _
  refine xr_go hc rfl rfl ?_
  refine xr_go hc rfl rfl ?_
  by_cases hq : 0 ≤ t ∧ t < 4
  · skip
    refine xr_v_2 hc rfl rfl (ew_own_p hn rfl) (c_trayN hn hp hq) ?_
    first
      | (have hTT := s_tr hn hp (u := t.toNat) (by omega)
         obtain ⟨hT1, hT2, hT3, hT4, hT5⟩ := hTT)
      | skip
    refine xr_s1_3 hc rfl rfl rfl ?_
    refine xr_go hc rfl rfl ?_
    refine xr_go hc rfl rfl ?_
    refine xr_v_2 hc rfl rfl (ew_own_p hn rfl) (c_trayN0 hn hp ho ho2) ?_
    refine xr_s1_4 hc rfl rfl rfl ?_
    refine xr_go hc rfl rfl ?_
    refine xr_null hc rfl (fun c1 => by exfalso; omega) (fun c1 => ?_)
    refine xr_go hc rfl rfl ?_
    refine xr_nonnull hc rfl (fun c2 => by exfalso; omega) (fun c2 => ?_)
    refine xr_go hc rfl rfl ?_
    refine xr_ret hc rfl rfl ?_
    exact ⟨rfl, rfl, rfl⟩
  · skip
    refine xr_v_2 hc rfl rfl (ew_own_p hn rfl) (c_trayN0 hn hp ht hq) ?_
    first
      | (have hTT := s_tr hn hp (u := t.toNat) (by omega)
         obtain ⟨hT1, hT2, hT3, hT4, hT5⟩ := hTT)
      | skip
    refine xr_s1_3 hc rfl rfl rfl ?_
    refine xr_go hc rfl rfl ?_
    refine xr_go hc rfl rfl ?_
    refine xr_v_2 hc rfl rfl (ew_own_p hn rfl) (c_trayN0 hn hp ho ho2) ?_
    refine xr_s1_4 hc rfl rfl rfl ?_
    refine xr_go hc rfl rfl ?_
    refine xr_null hc rfl (fun c3 => ?_) (fun c3 => by exfalso; omega)
    refine xr_go hc rfl rfl ?_
    refine xr_ret hc rfl rfl ?_
    exact ⟨rfl, rfl, rfl⟩

set_option maxRecDepth 20000 in
theorem cx_put_o {n : Nat} {M : ew_Mem} (hn : 59 ≤ n) (hp : ew_Pm M) {t i : Int} (ht : ew_in t) (hi : ew_in i) {v : Int} (ho : ¬ (0 ≤ t ∧ t < 3)) : ew_FM 141 [(2, 4), (0, t), (0, i), (1, v)] n M (0, -1) n M := by
  have hc := ew_c_141
  show ew_X 141 0 [(2, 4), (0, t), (0, i), (1, v), (5, 0), (5, 0)] [] n M _
  refine xr_go hc rfl rfl ?_
  refine xr_go hc rfl rfl ?_
  refine xr_v_2 hc rfl rfl (ew_own_p hn rfl) (c_listN0 hn hp ht ho) ?_
  refine xr_s1_5 hc rfl rfl rfl ?_
  refine xr_go hc rfl rfl ?_
  refine xr_nonnull hc rfl (fun c1 => by exfalso; omega) (fun c1 => ?_)
  refine xr_go hc rfl rfl ?_
  refine xr_ret hc rfl rfl ?_
  exact ⟨rfl, rfl, rfl⟩

set_option maxRecDepth 20000 in
theorem cx_get_o {n : Nat} {M : ew_Mem} (hn : 59 ≤ n) (hp : ew_Pm M) {t i : Int} (ht : ew_in t) (hi : ew_in i) (ho : ¬ (0 ≤ t ∧ t < 3)) : ew_FM 142 [(2, 4), (0, t), (0, i)] n M (1, s_NO) n M := by
  have hc := ew_c_142
  show ew_X 142 0 [(2, 4), (0, t), (0, i), (5, 0)] [] n M _
  refine xr_go hc rfl rfl ?_
  refine xr_go hc rfl rfl ?_
  refine xr_v_2 hc rfl rfl (ew_own_p hn rfl) (c_listN0 hn hp ht ho) ?_
  refine xr_s1_3 hc rfl rfl rfl ?_
  refine xr_go hc rfl rfl ?_
  refine xr_nonnull hc rfl (fun c1 => by exfalso; omega) (fun c1 => ?_)
  refine xr_go hc rfl rfl ?_
  refine xr_go hc rfl rfl ?_
  refine xr_ret hc rfl rfl ?_
  exact ⟨rfl, rfl, rfl⟩

set_option maxRecDepth 20000 in
theorem cx_fill_o {n : Nat} {M : ew_Mem} (hn : 59 ≤ n) (hp : ew_Pm M) {t m : Int} (ht : ew_in t) (hm : ew_in m) (ho : ¬ (0 ≤ t ∧ t < 3)) : ew_FM 143 [(2, 4), (0, t), (0, m)] n M (0, -1) n M := by
  have hc := ew_c_143
  show ew_X 143 0 [(2, 4), (0, t), (0, m), (5, 0), (5, 0), (5, 0)] [] n M _
  refine xr_go hc rfl rfl ?_
  refine xr_go hc rfl rfl ?_
  refine xr_v_2 hc rfl rfl (ew_own_p hn rfl) (c_listN0 hn hp ht ho) ?_
  refine xr_s1_3 hc rfl rfl rfl ?_
  refine xr_go hc rfl rfl ?_
  refine xr_nonnull hc rfl (fun c1 => by exfalso; omega) (fun c1 => ?_)
  refine xr_go hc rfl rfl ?_
  refine xr_ret hc rfl rfl ?_
  exact ⟨rfl, rfl, rfl⟩

set_option maxRecDepth 20000 in
theorem cx_judge_o {n : Nat} {M : ew_Mem} (hn : 59 ≤ n) (hp : ew_Pm M) {t m : Int} (ht : ew_in t) (hm : ew_in m) (ho : ¬ (0 ≤ t ∧ t < 3)) : ew_FM 144 [(2, 4), (0, t), (0, m)] n M (0, -1) n M := by
  have hc := ew_c_144
  show ew_X 144 0 [(2, 4), (0, t), (0, m), (5, 0), (5, 0), (5, 0)] [] n M _
  refine xr_go hc rfl rfl ?_
  refine xr_go hc rfl rfl ?_
  refine xr_v_2 hc rfl rfl (ew_own_p hn rfl) (c_listN0 hn hp ht ho) ?_
  refine xr_s1_3 hc rfl rfl rfl ?_
  refine xr_go hc rfl rfl ?_
  refine xr_nonnull hc rfl (fun c1 => by exfalso; omega) (fun c1 => ?_)
  refine xr_go hc rfl rfl ?_
  refine xr_ret hc rfl rfl ?_
  exact ⟨rfl, rfl, rfl⟩

set_option maxRecDepth 20000 in
theorem mx_lay_o {n : Nat} {M : ew_Mem} (hn : 59 ≤ n) (hp : ew_Pm M) {t i w : Int} (ht : ew_in t) (hi : ew_in i) (hw : ew_in w) (ho : ¬ (0 ≤ t ∧ t < 4)) : ew_FM 226 [(2, 38), (0, t), (0, i), (0, w)] n M (0, -1) n M := by
  have hz : ew_FM 225 [(0, t)] n M (0, 0) n M := by
    have g := m_isTray (n := n) (M := M) ht
    rw [if_neg (by omega)] at g
    exact g
  have hc := ew_c_226
  show ew_X 226 0 [(2, 38), (0, t), (0, i), (0, w)] [] n M _
  refine xr_go hc rfl rfl ?_
  refine xr_s_1 hc rfl rfl hz ?_
  refine xr_if_eq hc rfl (by decide) (fun c1 => ?_) (fun c1 => by exfalso; omega)
  refine xr_go hc rfl rfl ?_
  refine xr_ret hc rfl rfl ?_
  exact ⟨rfl, rfl, rfl⟩

set_option maxRecDepth 20000 in
theorem mx_laid_o {n : Nat} {M : ew_Mem} (hn : 59 ≤ n) (hp : ew_Pm M) {t i x : Int} (ht : ew_in t) (hi : ew_in i) (hx : ew_in x) (ho : ¬ (0 ≤ t ∧ t < 4)) : ew_FM 228 [(2, 38), (0, t), (0, i), (0, x)] n M (0, -1) n M := by
  have hz : ew_FM 225 [(0, t)] n M (0, 0) n M := by
    have g := m_isTray (n := n) (M := M) ht
    rw [if_neg (by omega)] at g
    exact g
  have hc := ew_c_228
  show ew_X 228 0 [(2, 38), (0, t), (0, i), (0, x), (5, 0)] [] n M _
  refine xr_go hc rfl rfl ?_
  refine xr_s_1 hc rfl rfl hz ?_
  refine xr_if_eq hc rfl (by decide) (fun c1 => ?_) (fun c1 => by exfalso; omega)
  refine xr_go hc rfl rfl ?_
  refine xr_ret hc rfl rfl ?_
  exact ⟨rfl, rfl, rfl⟩

set_option maxRecDepth 20000 in
theorem mx_get_o {n : Nat} {M : ew_Mem} (hn : 59 ≤ n) (hp : ew_Pm M) {t i : Int} (ht : ew_in t) (hi : ew_in i) (ho : ¬ (0 ≤ t ∧ t < 3)) : ew_FM 233 [(2, 38), (0, t), (0, i)] n M (1, s_NO) n M := by
  have hz : ew_FM 231 [(0, t)] n M (0, 0) n M := by
    have g := m_isList (n := n) (M := M) ht
    rw [if_neg (by omega)] at g
    exact g
  have hc := ew_c_233
  show ew_X 233 0 [(2, 38), (0, t), (0, i)] [] n M _
  refine xr_go hc rfl rfl ?_
  refine xr_s_1 hc rfl rfl hz ?_
  refine xr_if_eq hc rfl (by decide) (fun c1 => ?_) (fun c1 => by exfalso; omega)
  refine xr_go hc rfl rfl ?_
  refine xr_ret hc rfl rfl ?_
  exact ⟨rfl, rfl, rfl⟩

set_option maxRecDepth 20000 in
theorem mx_fill_o {n : Nat} {M : ew_Mem} (hn : 59 ≤ n) (hp : ew_Pm M) {t m : Int} (ht : ew_in t) (hm : ew_in m) (ho : ¬ (0 ≤ t ∧ t < 3)) : ew_FM 234 [(2, 38), (0, t), (0, m)] n M (0, -1) n M := by
  have hz : ew_FM 231 [(0, t)] n M (0, 0) n M := by
    have g := m_isList (n := n) (M := M) ht
    rw [if_neg (by omega)] at g
    exact g
  have hc := ew_c_234
  show ew_X 234 0 [(2, 38), (0, t), (0, m), (5, 0), (5, 0)] [] n M _
  refine xr_go hc rfl rfl ?_
  refine xr_s_1 hc rfl rfl hz ?_
  refine xr_if_ne hc rfl (by decide) (fun c1 => by exfalso; omega) (fun c1 => ?_)
  refine xr_go hc rfl rfl ?_
  refine xr_ret hc rfl rfl ?_
  exact ⟨rfl, rfl, rfl⟩

set_option maxRecDepth 20000 in
theorem mx_judge_o {n : Nat} {M : ew_Mem} (hn : 59 ≤ n) (hp : ew_Pm M) {t m : Int} (ht : ew_in t) (hm : ew_in m) (ho : ¬ (0 ≤ t ∧ t < 3)) : ew_FM 235 [(2, 38), (0, t), (0, m)] n M (0, -1) n M := by
  have hz : ew_FM 231 [(0, t)] n M (0, 0) n M := by
    have g := m_isList (n := n) (M := M) ht
    rw [if_neg (by omega)] at g
    exact g
  have hc := ew_c_235
  show ew_X 235 0 [(2, 38), (0, t), (0, m), (5, 0), (5, 0)] [] n M _
  refine xr_go hc rfl rfl ?_
  refine xr_s_1 hc rfl rfl hz ?_
  refine xr_if_ne hc rfl (by decide) (fun c1 => by exfalso; omega) (fun c1 => ?_)
  refine xr_go hc rfl rfl ?_
  refine xr_ret hc rfl rfl ?_
  exact ⟨rfl, rfl, rfl⟩

set_option maxRecDepth 20000 in
theorem mx_put_o {n : Nat} {M : ew_Mem} (hn : 59 ≤ n) (hp : ew_Pm M) {t i : Int} (ht : ew_in t) (hi : ew_in i) {v : Int} (ho : ¬ (0 ≤ t ∧ t < 3)) : ew_FM 232 [(2, 38), (0, t), (0, i), (1, v)] n M (0, -1) n M := by
  have hz : ew_FM 231 [(0, t)] n M (0, 0) n M := by
    have g := m_isList (n := n) (M := M) ht
    rw [if_neg (by omega)] at g
    exact g
  have hc := ew_c_232
  show ew_X 232 0 [(2, 38), (0, t), (0, i), (1, v), (5, 0)] [] n M _
  refine xr_go hc rfl rfl ?_
  refine xr_s_1 hc rfl rfl hz ?_
  refine xr_if_ne hc rfl (by decide) (fun c1 => by exfalso; omega) (fun c1 => ?_)
  refine xr_go hc rfl rfl ?_
  refine xr_ret hc rfl rfl ?_
  exact ⟨rfl, rfl, rfl⟩

theorem J_of {c n : Nat} {M : ew_Mem} (hJ : s_J c n M) {v0 v1 : Int} (h0 : ew_in v0) (h1 : ew_in v1) : s_CL 0 90 155 [(0, v0), (0, v1)] c n M := J_pure hJ (s_QF_of (cx_of (s_K_C hJ.1) h0 h1)) (fun _ _ _ hM => s_QF_of (mx_of hM h0 h1))
theorem J_at {c n : Nat} {M : ew_Mem} (hJ : s_J c n M) {v0 v1 : Int} (h0 : ew_in v0) (h1 : ew_in v1) : s_CL 0 93 163 [(0, v0), (0, v1)] c n M := J_pure hJ (s_QF_of (cx_at (s_K_C hJ.1) h0 h1)) (fun _ _ _ hM => s_QF_of (mx_at hM h0 h1))
theorem J_rounds {c n : Nat} {M : ew_Mem} (hJ : s_J c n M) {v0 v1 : Int} (h0 : ew_in v0) (h1 : ew_in v1) : s_CL 1 95 165 [(0, v0), (0, v1)] c n M := J_pure hJ (s_QF_of (cx_rounds (s_K_C hJ.1) h0 h1)) (fun _ _ _ hM => s_QF_of (mx_rounds hM h0 h1))
theorem J_eclipse {c n : Nat} {M : ew_Mem} (hJ : s_J c n M) {v0 v1 : Int} (h0 : ew_in v0) (h1 : ew_in v1) : s_CL 0 98 170 [(0, v0), (0, v1)] c n M := J_pure hJ (s_QF_of (cx_eclipse (s_K_C hJ.1) h0 h1)) (fun _ _ _ hM => s_QF_of (mx_eclipse hM h0 h1))
theorem J_eclipses {c n : Nat} {M : ew_Mem} (hJ : s_J c n M) {v0 v1 v2 : Int} (h0 : ew_in v0) (h1 : ew_in v1) (h2 : ew_in v2) : s_CL 0 99 177 [(0, v0), (0, v1), (0, v2)] c n M := J_pure hJ (s_QF_of (cx_eclipses (s_K_C hJ.1) h0 h1 h2)) (fun _ _ _ hM => s_QF_of (mx_eclipses hM h0 h1 h2))
theorem J_next {c n : Nat} {M : ew_Mem} (hJ : s_J c n M) {v0 v1 : Int} (h0 : ew_in v0) (h1 : ew_in v1) : s_CL 0 101 179 [(0, v0), (0, v1)] c n M := J_pure hJ (s_QF_of (cx_next (s_K_C hJ.1) h0 h1)) (fun _ _ _ hM => s_QF_of (mx_next hM h0 h1))
theorem J_family {c n : Nat} {M : ew_Mem} (hJ : s_J c n M) {v0 v1 v2 : Int} (h0 : ew_in v0) (h1 : ew_in v1) (h2 : ew_in v2) : s_CL 0 102 180 [(0, v0), (0, v1), (0, v2)] c n M := J_pure hJ (s_QF_of (cx_family (s_K_C hJ.1) h0 h1 h2)) (fun _ _ _ hM => s_QF_of (mx_family hM h0 h1 h2))
theorem J_roll {c n : Nat} {M : ew_Mem} (hJ : s_J c n M) {v0 v1 v2 v3 : Int} (h0 : ew_in v0) (h1 : ew_in v1) (h2 : ew_in v2) (h3 : ew_in v3) : s_CL 0 104 183 [(0, v0), (0, v1), (0, v2), (0, v3)] c n M := J_pure hJ (cx_roll (s_K_C hJ.1) h0 h1 h2 h3) (fun _ _ _ hM => mx_roll hM h0 h1 h2 h3)
theorem J_drift {c n : Nat} {M : ew_Mem} (hJ : s_J c n M) {v0 v1 : Int} (h0 : ew_in v0) (h1 : ew_in v1) : s_CL 0 107 184 [(0, v0), (0, v1)] c n M := J_pure hJ (s_QF_of (cx_drift (s_K_C hJ.1) h0 h1)) (fun _ _ _ hM => s_QF_of (mx_drift hM h0 h1))
theorem J_records {c n : Nat} {M : ew_Mem} (hJ : s_J c n M) {v0 v1 : Int} (h0 : ew_in v0) (h1 : ew_in v1) : s_CL 0 108 186 [(0, v0), (0, v1)] c n M := J_pure hJ (cx_records (s_K_C hJ.1) h0 h1) (fun _ _ _ hM => mx_records hM h0 h1)
theorem J_record {c n : Nat} {M : ew_Mem} (hJ : s_J c n M) {v0 v1 : Int} (h0 : ew_in v0) (h1 : ew_in v1) : s_CL 0 110 188 [(0, v0), (0, v1)] c n M := J_pure hJ (cx_record (s_K_C hJ.1) h0 h1) (fun _ _ _ hM => mx_record hM h0 h1)
theorem J_terms {c n : Nat} {M : ew_Mem} (hJ : s_J c n M) {v0 : Int} (h0 : ew_in v0) : s_CL 0 111 189 [(0, v0)] c n M := J_pure hJ (s_QF_of (cx_terms (s_K_C hJ.1) h0)) (fun _ _ _ hM => mx_terms hM h0)
theorem J_term {c n : Nat} {M : ew_Mem} (hJ : s_J c n M) {v0 v1 : Int} (h0 : ew_in v0) (h1 : ew_in v1) : s_CL 0 112 191 [(0, v0), (0, v1)] c n M := J_pure hJ (s_QF_of (cx_term (s_K_C hJ.1) h0 h1)) (fun _ _ _ hM => mx_term hM h0 h1)
theorem J_convergent {c n : Nat} {M : ew_Mem} (hJ : s_J c n M) {v0 v1 v2 : Int} (h0 : ew_in v0) (h1 : ew_in v1) (h2 : ew_in v2) : s_CL 1 113 192 [(0, v0), (0, v1), (0, v2)] c n M := J_pure hJ (s_QF_of (cx_cvg (s_K_C hJ.1) h0 h1 h2)) (fun _ _ _ hM => mx_cvg hM h0 h1 h2)
theorem J_nearest {c n : Nat} {M : ew_Mem} (hJ : s_J c n M) {v0 v1 : Int} (h0 : ew_in v0) (h1 : ew_in v1) : s_CL 0 114 193 [(0, v0), (0, v1)] c n M := J_pure hJ (s_QF_of (cx_nearest (s_K_C hJ.1) h0 h1)) (fun _ _ _ hM => s_QF_of (mx_nearest hM h0 h1))
theorem J_date {c n : Nat} {M : ew_Mem} (hJ : s_J c n M) {v0 v1 : Int} (h0 : ew_in v0) (h1 : ew_in v1) : s_CL 1 115 194 [(0, v0), (0, v1)] c n M := J_pure hJ (s_QF_of (cx_date (s_K_C hJ.1) h0 h1)) (fun _ _ _ hM => s_QF_of (mx_date hM h0 h1))
theorem J_month {c n : Nat} {M : ew_Mem} (hJ : s_J c n M) {v0 : Int} (h0 : ew_in v0) : s_CL 0 116 196 [(0, v0)] c n M := J_pure hJ (s_QF_of (cx_month (s_K_C hJ.1) h0)) (fun _ _ _ hM => s_QF_of (mx_month hM h0))
theorem J_angle {c n : Nat} {M : ew_Mem} (hJ : s_J c n M) {v0 v1 : Int} (h0 : ew_in v0) (h1 : ew_in v1) : s_CL 1 117 197 [(0, v0), (0, v1)] c n M := J_pure hJ (s_QF_of (cx_angle (s_K_C hJ.1) h0 h1)) (fun _ _ _ hM => s_QF_of (mx_angle hM h0 h1))
theorem J_size {c n : Nat} {M : ew_Mem} (hJ : s_J c n M) {v0 v1 : Int} (h0 : ew_in v0) (h1 : ew_in v1) : s_CL 0 118 198 [(0, v0), (0, v1)] c n M := J_pure hJ (s_QF_of (cx_size (s_K_C hJ.1) h0 h1)) (fun _ _ _ hM => s_QF_of (mx_size hM h0 h1))
theorem J_most {c n : Nat} {M : ew_Mem} (hJ : s_J c n M) {v0 v1 v2 v3 v4 : Int} (h0 : ew_in v0) (h1 : ew_in v1) (h2 : ew_in v2) (h3 : ew_in v3) (h4 : ew_in v4) : s_CL 0 119 200 [(0, v0), (0, v1), (0, v2), (0, v3), (0, v4)] c n M := J_pure hJ (s_QF_of (cx_most (s_K_C hJ.1) h0 h1 h2 h3 h4)) (fun _ _ _ hM => mx_most hM h0 h1 h2 h3 h4)
theorem J_period {c n : Nat} {M : ew_Mem} (hJ : s_J c n M) {v0 : Int} (h0 : ew_in v0) : s_CL 1 120 201 [(0, v0)] c n M := J_pure hJ (s_QF_of (cx_period (s_K_C hJ.1) h0)) (fun _ _ _ hM => s_QF_of (mx_period hM h0))
theorem J_allRound {c n : Nat} {M : ew_Mem} (hJ : s_J c n M) {v0 : Int} (h0 : ew_in v0) : s_CL 1 121 205 [(0, v0)] c n M := J_pure hJ (s_QF_of (cx_allRound (s_K_C hJ.1) h0)) (fun _ _ _ hM => s_QF_of (mx_allRound hM h0))
theorem J_meeting {c n : Nat} {M : ew_Mem} (hJ : s_J c n M) {v0 v1 v2 v3 : Int} (h0 : ew_in v0) (h1 : ew_in v1) (h2 : ew_in v2) (h3 : ew_in v3) : s_CL 0 122 206 [(0, v0), (0, v1), (0, v2), (0, v3)] c n M := J_pure hJ (s_QF_of (cx_meeting (s_K_C hJ.1) h0 h1 h2 h3)) (fun _ _ _ hM => s_QF_of (mx_meeting hM h0 h1 h2 h3))
theorem J_spell {c n : Nat} {M : ew_Mem} (hJ : s_J c n M) {v0 : Int} (h0 : ew_in v0) : s_CL 0 123 207 [(0, v0)] c n M := J_pure hJ (cx_spell (s_K_C hJ.1) h0) (fun _ _ _ hM => mx_spell hM h0)
theorem J_paper {c n : Nat} {M : ew_Mem} (hJ : s_J c n M) {v0 v1 : Int} (h0 : ew_in v0) (h1 : ew_in v1) : s_CL 0 127 211 [(0, v0), (0, v1)] c n M := J_pure hJ (cx_paper (s_K_C hJ.1) h0 h1) (fun _ _ _ hM => mx_paper hM h0 h1)
theorem J_gap {c n : Nat} {M : ew_Mem} (hJ : s_J c n M) {v0 v1 v2 : Int} (h0 : ew_in v0) (h1 : ew_in v1) (h2 : ew_in v2) : s_CL 0 128 212 [(0, v0), (0, v1), (0, v2)] c n M := J_pure hJ (cx_gap (s_K_C hJ.1) h0 h1 h2) (fun _ _ _ hM => mx_gap hM h0 h1 h2)
theorem J_count {c n : Nat} {M : ew_Mem} (hJ : s_J c n M) {x : Int} (hx : ew_in x) : s_CL 0 145 236 [(0, x)] c n M := J_pure hJ (s_QF_of (cx_count (s_K_C hJ.1) hx rfl rfl)) (fun _ _ hR hM => s_QF_of (mx_count hM hx hR.2.2.2.2.1.1 hR.2.2.2.2.1.2.2))
theorem J_get {c n : Nat} {M : ew_Mem} (hJ : s_J c n M) {t i : Int} (ht : ew_in t) (hi : ew_in i) : s_CL 1 142 233 [(0, t), (0, i)] c n M := by
  obtain ⟨k0, k1, k2, k3, k4, k5, k6, k7, k8, k9, k10, k11⟩ := id hJ.1
  by_cases ho : 0 ≤ t ∧ t < 3
  · have hb := (k7 t.toNat (by omega)).1
    refine J_pure hJ (s_QF_of (cx_get k0 k2 ht hi rfl hb)) (fun M1 h hR hM => s_QF_of (mx_get hM.1 hM.2.1 ht hi ((hR.2.2.2.1 t.toNat (by omega)).1) hb (fun _ q => ?_)))
    have g := (hR.2.2.2.1 t.toNat (by omega)).2 i.toNat (by omega)
    rw [show (40 * t + i).toNat = 40 * t.toNat + i.toNat by omega]
    exact g
  · exact J_pure hJ (s_QF_of (cx_get_o k0 k2 ht hi ho)) (fun M1 h hR hM => s_QF_of (mx_get_o hM.1 hM.2.1 ht hi ho))
theorem J_judge {c n : Nat} {M : ew_Mem} (hJ : s_J c n M) {t m : Int} (ht : ew_in t) (hm : ew_in m) : s_CL 0 144 235 [(0, t), (0, m)] c n M := by
  obtain ⟨k0, k1, k2, k3, k4, k5, k6, k7, k8, k9, k10, k11⟩ := id hJ.1
  by_cases ho : 0 ≤ t ∧ t < 3
  · have hb := (k7 t.toNat (by omega)).1
    have hI := (k7 t.toNat (by omega)).2
    exact J_pure hJ (cx_judge (s_K_C hJ.1) ht hm rfl hb (fun _ => hI)) (fun M1 h hR hM => s_QF_of (mx_judge hM ht hm ((hR.2.2.2.1 t.toNat (by omega)).1) hb (fun _ i hi => ⟨(hR.2.2.2.1 t.toNat (by omega)).2 i hi, hI i hi⟩)))
  · exact J_pure hJ (s_QF_of (cx_judge_o k0 k2 ht hm ho)) (fun M1 h hR hM => s_QF_of (mx_judge_o hM.1 hM.2.1 ht hm ho))
theorem s_ob_WF {n : Nat} {X : ew_Mem} {a : Int} (h : s_OB n X a) : s_WF a n X (s_ob X a) := ⟨h.1, rfl, rfl, rfl, rfl, rfl⟩
theorem J_laid {c n : Nat} {M : ew_Mem} (hJ : s_J c n M) {t i x : Int} (ht : ew_in t) (hi : ew_in i) (hx : ew_in x) : s_CL 0 137 228 [(0, t), (0, i), (0, x)] c n M := by
  obtain ⟨k0, k1, k2, k3, k4, k5, k6, k7, k8, k9, k10, k11⟩ := id hJ.1
  by_cases ho : 0 ≤ t ∧ t < 4
  · obtain ⟨⟨hk1, hk2, hk3⟩, hb⟩ := k6 t.toNat (by omega)
    by_cases hio : 0 ≤ i ∧ i < M (12 + 2 * t.toNat) 2
    · have hOB := hb i.toNat (by omega)
      have h0 : 0 ≤ M (13 + 2 * t.toNat) i.toNat := by
        rcases hOB with g | g
        · omega
        · have := s_OB_w g
          omega
      refine J_pure hJ (s_QF_of (cx_laid k0 k2 ht hi hx hk1 ⟨hk2, hk3⟩ (W := s_ob M (M (13 + 2 * t.toNat) i.toNat)) (fun q _ => ?_) (fun _ => h0))) (fun M1 h hR hM => s_QF_of (mx_laid hM.1 hM.2.1 ht hi hx ((hR.2.2.1 t.toNat (by omega)).1) ((hR.2.2.1 t.toNat (by omega)).2) hk1 ⟨hk2, hk3⟩ (g := h (M (13 + 2 * t.toNat) i.toNat)) (fun _ _ => ?_) (fun q => ?_)))
      · rcases hOB with g | g
        · exact absurd g q
        · exact ⟨s_ob_WF g, g.2⟩
      · have g := hR.2.1.2.1 t.toNat i.toNat (by omega) (by omega)
        rw [show (12 * t + i).toNat = 12 * t.toNat + i.toNat by omega]
        exact g
      · have g := hR.2.1.2.2.1 _ (Or.inr ⟨t.toNat, i.toNat, by omega, by omega, rfl, q⟩)
        exact ⟨g.1, g.2.1, g.2.2.1, g.2.2.2.1, g.2.2.2.2.1⟩
    · have e : ∀ (th : Int) (W : Nat → Int), s_a_laid (M (12 + 2 * t.toNat) 1) (M (12 + 2 * t.toNat) 2) th W t i x = s_a_ldo (M (12 + 2 * t.toNat) 1) x := by
        intro th W
        unfold s_a_laid s_a_ldo
        by_cases h1 : 0 ≤ x ∧ x ≤ 3
        · rw [if_pos ⟨ho, h1⟩, if_pos h1, if_neg hio]
        · rw [if_neg (fun q => h1 q.2), if_neg h1]
      refine J_pure hJ (s_QF_of (cx_laid_i k0 k2 ht hi hx ho hk1 ⟨hk2, hk3⟩ hio)) (fun M1 h hR hM => ?_)
      have g := mx_laid hM.1 hM.2.1 ht hi hx ((hR.2.2.1 t.toNat (by omega)).1) ((hR.2.2.1 t.toNat (by omega)).2) hk1 ⟨hk2, hk3⟩ (th := 0) (g := 0) (W := fun _ => 0) (fun _ q => absurd q hio) (fun q => absurd rfl q)
      rw [e] at g
      exact s_QF_of g
  · exact J_pure hJ (s_QF_of (cx_laid_o k0 k2 ht hi hx ho)) (fun M1 h hR hM => s_QF_of (mx_laid_o hM.1 hM.2.1 ht hi hx ho))

