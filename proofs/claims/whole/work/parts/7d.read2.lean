/-! the class reads a text -/
/-- the i-th statement's rows from T on -/
def s_TL (M : ew_Mem) : Nat → List s_ST → Prop
  | _, [] => True
  | i, t :: T => (M 29 i = (t.1 : Int) ∧ M 30 i = t.2.1 ∧ M 31 (3 * i + 0) = t.2.2.1 ∧ (¬ s_kd t.2.1 = -1 → M 31 (3 * i + 1) = t.2.2.2.1 ∧ M 31 (3 * i + 2) = t.2.2.2.2)) ∧ s_TL M (i + 1) T
theorem s_TL_ag {M M' : ew_Mem} (e : ∀ a j : Nat, a = 29 ∨ a = 30 ∨ a = 31 → M' a j = M a j) : ∀ (T : List s_ST) (i : Nat), s_TL M i T → s_TL M' i T
  | [], _, _ => trivial
  | t :: T, i, h => by
    obtain ⟨⟨h1, h2, h3, h4⟩, h5⟩ := h
    refine ⟨⟨?_, ?_, ?_, fun q => ?_⟩, s_TL_ag e T (i + 1) h5⟩
    · rw [e _ _ (by omega)]; exact h1
    · rw [e _ _ (by omega)]; exact h2
    · rw [e _ _ (by omega)]; exact h3
    · rw [e _ _ (by omega), e _ _ (by omega)]; exact h4 q
/-- rows below i stay, and all but the reader's own -/
def s_fr (i : Nat) (M M' : ew_Mem) : Prop := ∀ a j : Nat, ¬ (a = 27 ∧ 5 ≤ j ∧ j ≤ 7) → ¬ ((a = 29 ∨ a = 30) ∧ i ≤ j) → ¬ (a = 31 ∧ 3 * i ≤ j) → M' a j = M a j
abbrev s_tOK (t : s_ST) : Prop := s_isL t.2.1 ∧ (-1 ≤ t.2.1 ∧ t.2.1 ≤ 127) ∧ (0 ≤ t.2.2.1 ∧ t.2.2.1 < 1000000) ∧ (0 ≤ t.2.2.2.1 ∧ t.2.2.2.1 < 1000000) ∧ (0 ≤ t.2.2.2.2 ∧ t.2.2.2.2 < 1000000) ∧ t.1 ≤ 80
theorem s_z0 : (0 : Int) ≤ 0 ∧ (0 : Int) < 1000000 := by decide
theorem s_wh_bd {B : Nat → Int} {z p : Nat} (hp : p ≤ z) : p ≤ (s_wh B z p).2.1 ∧ (s_wh B z p).2.1 ≤ z ∧ (0 ≤ (s_wh B z p).2.2.1 ∧ (s_wh B z p).2.2.1 < 1000000) ∧ 0 ≤ (s_wh B z p).2.2.2 ∧ (s_wh B z p).2.2.2 < 1000000 := by
  have h1 := s_nm_6 (B := B) (z := z) (p := p + 1)
  have h2 := s_nm_6 (B := B) (z := z) (p := (s_nm B z 6 (p + 1) 0).1 + 1)
  unfold s_wh
  split
  · rename_i g1
    have hz1 : p < z := s_hr_z (by rw [g1]; decide)
    have hq := s_nm_pz (B := B) (z := z) 6 (p + 1) 0 (by omega)
    split
    · split
      · rename_i g3
        have hz2 : (s_nm B z 6 (p + 1) 0).1 < z := s_hr_z (by rw [g3]; decide)
        have hq2 := s_nm_pz (B := B) (z := z) 6 ((s_nm B z 6 (p + 1) 0).1 + 1) 0 (by omega)
        exact ⟨by show p ≤ (s_nm B z 6 ((s_nm B z 6 (p + 1) 0).1 + 1) 0).1; omega, hq2, ⟨h1.2.1, h1.2.2⟩, h2.2.1, h2.2.2⟩
      · exact ⟨by show p ≤ (s_nm B z 6 (p + 1) 0).1; omega, hq, ⟨h1.2.1, h1.2.2⟩, s_z0.1, s_z0.2⟩
    · exact ⟨Nat.le_succ p, by show p + 1 ≤ z; omega, s_z0, s_z0.1, s_z0.2⟩
  · exact ⟨Nat.le_refl p, hp, s_z0, s_z0.1, s_z0.2⟩
theorem s_st_bd {B : Nat → Int} {z p : Nat} (hz : z ≤ 80) (hB : ∀ i : Nat, i < 80 → 0 ≤ B i ∧ B i ≤ 127) (hp : p ≤ z) : (s_st B z p).2.1 ≤ z ∧ ((s_st B z p).1 = true → s_tOK (p, s_hr B z p, (s_st B z p).2.2) ∧ p + 2 ≤ (s_st B z p).2.1) := by
  have h1 := s_nm_6 (B := B) (z := z) (p := p + 1)
  have hb := s_hr_bd (B := B) hz hB p
  unfold s_st
  split
  · rename_i g1
    have hz1 := s_isL_z g1
    have hq := s_nm_pz (B := B) (z := z) 6 (p + 1) 0 (by omega)
    split
    · rename_i g2
      have hpo := s_nm_pos g2
      split
      · exact ⟨hq, fun _ => ⟨⟨g1, hb, ⟨h1.2.1, h1.2.2⟩, s_z0, s_z0, by show p ≤ 80; omega⟩, by show p + 2 ≤ (s_nm B z 6 (p + 1) 0).1; omega⟩⟩
      · have hw := s_wh_bd (B := B) (z := z) (p := (s_nm B z 6 (p + 1) 0).1) hq
        exact ⟨hw.2.1, fun _ => ⟨⟨g1, hb, ⟨h1.2.1, h1.2.2⟩, hw.2.2.1, hw.2.2.2, by show p ≤ 80; omega⟩, by show p + 2 ≤ (s_wh B z (s_nm B z 6 (p + 1) 0).1).2.1; omega⟩⟩
    · exact ⟨by show p + 1 ≤ z; omega, fun h => by cases h⟩
  · exact ⟨hp, fun h => by cases h⟩
theorem s_ps_bd {B : Nat → Int} {z : Nat} (hz : z ≤ 80) (hB : ∀ i : Nat, i < 80 → 0 ≤ B i ∧ B i ≤ 127) : ∀ (f p : Nat), p ≤ z → (s_ps B z f p).2.1 ≤ z ∧ (s_ps B z f p).2.2.length ≤ f ∧ ∀ t ∈ (s_ps B z f p).2.2, s_tOK t
  | 0, p, hp => ⟨hp, Nat.le_refl _, fun t h => by cases h⟩
  | f + 1, p, hp => by
    have h1 := s_st_bd hz hB hp
    unfold s_ps
    split
    · rename_i g1
      have h2 := h1.2 g1
      split
      · rename_i g2
        have hlt : (s_st B z p).2.1 < z := s_hr_z (by rw [g2]; decide)
        have ih := s_ps_bd hz hB f ((s_st B z p).2.1 + 1) (by omega)
        refine ⟨ih.1, by simp only [List.length_cons]; omega, fun t ht => ?_⟩
        rcases List.mem_cons.mp ht with rfl | ht
        · exact h2.1
        · exact ih.2.2 t ht
      · refine ⟨h1.1, by simp, fun t ht => ?_⟩
        rcases List.mem_cons.mp ht with rfl | ht
        · exact h2.1
        · cases ht
    · exact ⟨h1.1, by simp, fun t h => by cases h⟩
/-- whether a statement can be done, where w wheels are -/
def s_cb (w : Int) (t : s_ST) : Bool := decide (if t.2.1 = 110 ∨ t.2.1 = 97 then t.2.2.1 < w else if t.2.1 = 111 then s_rok 0 t.2.2.1 = true else if t.2.1 = 105 then s_rok 1 t.2.2.1 = true else w < 6 ∧ (0 ≤ s_kd t.2.1 ∧ s_kd t.2.1 ≤ 4) ∧ s_AB t.2.2.2.1 t.2.2.1 t.2.2.2.2)
def s_fa : List s_ST → Int → Int
  | [], _ => 0
  | t :: T, w => if s_cb w t = true then s_fa T (if s_kd t.2.1 = -1 then w else w + 1) else -300 - (t.1 : Int)
/-- a statement done -/
def s_do (t : s_ST) (n : Nat) (X : ew_Mem) : Nat × ew_Mem :=
  if t.2.1 = 110 then (n, ew_wr X 5 3 t.2.2.1) else if t.2.1 = 97 then (n, ew_wr X 5 4 t.2.2.1) else if t.2.1 = 111 then (n, ew_wr X 7 0 t.2.2.1) else if t.2.1 = 105 then (n, ew_wr X 7 1 t.2.2.1) else (n + 1, s_ad X n (s_kd t.2.1) t.2.2.2.1 t.2.2.1 t.2.2.2.2 (s_md (s_kd t.2.1) t.2.2.2.2 (if X 5 2 = 0 then 1 else 0)) (X 5 2))
def s_dos : List s_ST → Nat → ew_Mem → Nat × ew_Mem
  | [], n, X => (n, X)
  | t :: T, n, X => s_dos T (s_do t n X).1 (s_do t n X).2
theorem s_nr {M : ew_Mem} {a i b j : Nat} {v : Int} (h : ¬ (b = a ∧ j = i)) : ew_wr M a i v b j = M b j := by
  by_cases e : b = a
  · subst e
    exact s_ne_ri (fun q => h ⟨rfl, q⟩)
  · exact s_ne_rd e
set_option maxRecDepth 20000 in
theorem c_ps2 {n : Nat} {M : ew_Mem} {B : Nat → Int} {z p : Nat} (hn : 59 ≤ n) (hT : s_TP B z M) (hpz : p ≤ 190) (hp8 : p ≤ 80) {i : Nat} (hi : i < 27) (h2 : s_dg9 (s_hr B z (p + 1))) {ot : ew_AV} : ew_X 51 75 [(2, 27), (0, (i : Int)), (0, (s_hr B z p)), (0, 0), ot] [] n (s_Q M p 0) (fun r a b => r = none ∧ a = n ∧ b = (s_Q (ew_wr (ew_wr (ew_wr (ew_wr M 30 i (s_hr B z p)) 29 i (p : Int)) 31 (3 * i + 0) (s_nm B z 6 (p + 1) 0).2) 27 5 ((i : Int) + 1)) (s_nm B z 6 (p + 1) 0).1 0)) := by
  obtain ⟨hp0, hz1, hz8, hB28, hB⟩ := id hT
  have hp : ew_Pm (s_Q M p 0) := s_Q_pm hp0
  have hkx : ¬ s_kd (s_hr B z p) = -1 → ¬ (s_hr B z p = 110 ∨ s_hr B z p = 97 ∨ s_hr B z p = 111 ∨ s_hr B z p = 105) := by
    intro q g
    apply q
    rcases g with g | g | g | g <;> rw [g] <;> decide
  have hbd := s_hr_bd (B := B) (z := z) hz8 hB p
  have hkb := s_kd_bd (s_hr B z p)
  have hq1 := s_nm_le (B := B) (z := z) 6 (p + 1) 0
  have hpn := c_pn hn (M := (ew_wr (ew_wr M 30 i (s_hr B z p)) 29 i (p : Int))) (s_TP_wr (s_TP_wr hT (by omega)) (by omega)) (p := p + 1) (by omega) (by omega)
  rw [if_pos h2] at hpn
  have hc := ew_c_51
  refine xr_go hc rfl rfl ?_
  refine xr_gf2 (A := 27) (w := 30) rfl hc rfl (ew_own_p hn rfl) (ew_pm hp rfl) ?_
  refine xr_go hc rfl rfl ?_
  refine xr_go hc rfl rfl ?_
  refine xr_iast (A := 30) (N := 27) rfl rfl hc rfl (ew_own_p hn rfl) (by omega) (by omega) ?_
  rw [Int.toNat_natCast, s_Q_w (by omega)]
  refine xr_go hc rfl rfl ?_
  refine xr_gf2 (A := 27) (w := 29) rfl hc rfl (ew_own_p hn rfl) (ew_pm hp rfl) ?_
  refine xr_go hc rfl rfl ?_
  refine xr_go hc rfl rfl ?_
  refine xr_gf0 (A := 27) rfl hc rfl (ew_own_p hn rfl) (show _ = _ from s_Q_p) ?_
  refine xr_iast (A := 29) (N := 27) rfl rfl hc rfl (ew_own_p hn rfl) (by omega) (by omega) ?_
  rw [Int.toNat_natCast, s_Q_w (by omega)]
  refine xr_go hc rfl rfl ?_
  refine xr_go hc rfl rfl ?_
  refine xr_gf0 (A := 27) rfl hc rfl (ew_own_p hn rfl) (show _ = _ from s_Q_p) ?_
  refine xr_go hc rfl rfl ?_
  refine xr_go hc rfl rfl ?_
  refine xr_pf (A := 27) rfl hc rfl (ew_own_p hn rfl) ?_
  rw [s_Q_6 (q := p + 1) (by omega)]
  refine xr_go hc rfl rfl ?_
  refine xr_go hc rfl rfl ?_
  refine xr_go hc rfl rfl ?_
  refine xr_go hc rfl rfl ?_
  refine xr_v_1 hc rfl rfl (ew_own_p hn rfl) (hpn) ?_
  refine xr_vv_4 (v := (0, 0)) hc rfl rfl (ew_own_p hn rfl) (c_sn0 hn (s_TP_wr (s_TP_wr hT (by omega)) (by omega)) (by omega) hi) ?_
  refine xr_go hc rfl rfl ?_
  refine xr_if_eq hc rfl (by decide) (fun c1 => ?_) (fun c1 => by exfalso; omega)
  refine xr_go hc rfl rfl ?_
  refine xr_go hc rfl rfl ?_
  refine xr_go hc rfl rfl ?_
  refine xr_go hc rfl rfl ?_
  refine xr_pf (A := 27) rfl hc rfl (ew_own_p hn rfl) ?_
  refine xr_ret hc rfl rfl ?_
  exact ⟨rfl, rfl, s_Q_w (by omega)⟩

set_option maxRecDepth 20000 in
theorem c_ps1 {n : Nat} {M : ew_Mem} {B : Nat → Int} {z p : Nat} (hn : 59 ≤ n) (hT : s_TP B z M) (hpz : p ≤ 190) (hp8 : p ≤ 80) {i : Nat} (hi : i < 27) (h2 : ¬ s_dg9 (s_hr B z (p + 1))) {ot : ew_AV} : ew_X 51 75 [(2, 27), (0, (i : Int)), (0, (s_hr B z p)), (0, 0), ot] [] n (s_Q M p 0) (fun r a b => r = none ∧ a = n ∧ b = (s_Q (ew_wr (ew_wr (ew_wr (ew_wr M 30 i (s_hr B z p)) 29 i (p : Int)) 31 (3 * i + 0) (s_nm B z 6 (p + 1) 0).2) 27 5 ((i : Int) + 1)) (p + 1) 1)) := by
  obtain ⟨hp0, hz1, hz8, hB28, hB⟩ := id hT
  have hp : ew_Pm (s_Q M p 0) := s_Q_pm hp0
  have hkx : ¬ s_kd (s_hr B z p) = -1 → ¬ (s_hr B z p = 110 ∨ s_hr B z p = 97 ∨ s_hr B z p = 111 ∨ s_hr B z p = 105) := by
    intro q g
    apply q
    rcases g with g | g | g | g <;> rw [g] <;> decide
  have hbd := s_hr_bd (B := B) (z := z) hz8 hB p
  have hkb := s_kd_bd (s_hr B z p)
  have hq1 := s_nm_le (B := B) (z := z) 6 (p + 1) 0
  have hpn := c_pn hn (M := (ew_wr (ew_wr M 30 i (s_hr B z p)) 29 i (p : Int))) (s_TP_wr (s_TP_wr hT (by omega)) (by omega)) (p := p + 1) (by omega) (by omega)
  rw [if_neg h2] at hpn
  have e1 : s_nm B z 6 (p + 1) 0 = (p + 1, 0) := s_nm_0 h2
  rw [e1] at hpn ⊢
  have hc := ew_c_51
  refine xr_go hc rfl rfl ?_
  refine xr_gf2 (A := 27) (w := 30) rfl hc rfl (ew_own_p hn rfl) (ew_pm hp rfl) ?_
  refine xr_go hc rfl rfl ?_
  refine xr_go hc rfl rfl ?_
  refine xr_iast (A := 30) (N := 27) rfl rfl hc rfl (ew_own_p hn rfl) (by omega) (by omega) ?_
  rw [Int.toNat_natCast, s_Q_w (by omega)]
  refine xr_go hc rfl rfl ?_
  refine xr_gf2 (A := 27) (w := 29) rfl hc rfl (ew_own_p hn rfl) (ew_pm hp rfl) ?_
  refine xr_go hc rfl rfl ?_
  refine xr_go hc rfl rfl ?_
  refine xr_gf0 (A := 27) rfl hc rfl (ew_own_p hn rfl) (show _ = _ from s_Q_p) ?_
  refine xr_iast (A := 29) (N := 27) rfl rfl hc rfl (ew_own_p hn rfl) (by omega) (by omega) ?_
  rw [Int.toNat_natCast, s_Q_w (by omega)]
  refine xr_go hc rfl rfl ?_
  refine xr_go hc rfl rfl ?_
  refine xr_gf0 (A := 27) rfl hc rfl (ew_own_p hn rfl) (show _ = _ from s_Q_p) ?_
  refine xr_go hc rfl rfl ?_
  refine xr_go hc rfl rfl ?_
  refine xr_pf (A := 27) rfl hc rfl (ew_own_p hn rfl) ?_
  rw [s_Q_6 (q := p + 1) (by omega)]
  refine xr_go hc rfl rfl ?_
  refine xr_go hc rfl rfl ?_
  refine xr_go hc rfl rfl ?_
  refine xr_go hc rfl rfl ?_
  refine xr_v_1 hc rfl rfl (ew_own_p hn rfl) (hpn) ?_
  refine xr_vv_4 (v := (0, 0)) hc rfl rfl (ew_own_p hn rfl) (c_sn0 hn (s_TP_wr (s_TP_wr hT (by omega)) (by omega)) (by omega) hi) ?_
  refine xr_go hc rfl rfl ?_
  refine xr_if_eq hc rfl (by decide) (fun c1 => ?_) (fun c1 => by exfalso; omega)
  refine xr_go hc rfl rfl ?_
  refine xr_go hc rfl rfl ?_
  refine xr_go hc rfl rfl ?_
  refine xr_go hc rfl rfl ?_
  refine xr_pf (A := 27) rfl hc rfl (ew_own_p hn rfl) ?_
  refine xr_ret hc rfl rfl ?_
  exact ⟨rfl, rfl, s_Q_w (by omega)⟩

set_option maxRecDepth 20000 in
theorem c_ps3 {n : Nat} {M : ew_Mem} {B : Nat → Int} {z p : Nat} (hn : 59 ≤ n) (hT : s_TP B z M) (hpz : p ≤ 190) (hp8 : p ≤ 80) {i : Nat} (hi : i < 27) (h2 : s_dg9 (s_hr B z (p + 1))) {ot : ew_AV} : ew_X 51 75 [(2, 27), (0, (i : Int)), (0, (s_hr B z p)), (0, 1), ot] [] n (s_Q M p 0) (fun r a b => r = none ∧ a = n ∧ b = (s_Q (ew_wr (s_wm (ew_wr (ew_wr (ew_wr M 30 i (s_hr B z p)) 29 i (p : Int)) 31 (3 * i + 0) (s_nm B z 6 (p + 1) 0).2) i (s_wh B z (s_nm B z 6 (p + 1) 0).1).2.2.1 (s_wh B z (s_nm B z 6 (p + 1) 0).1).2.2.2) 27 5 ((i : Int) + 1)) (s_wh B z (s_nm B z 6 (p + 1) 0).1).2.1 (if (s_wh B z (s_nm B z 6 (p + 1) 0).1).1 = true then 0 else 1))) := by
  obtain ⟨hp0, hz1, hz8, hB28, hB⟩ := id hT
  have hp : ew_Pm (s_Q M p 0) := s_Q_pm hp0
  have hkx : ¬ s_kd (s_hr B z p) = -1 → ¬ (s_hr B z p = 110 ∨ s_hr B z p = 97 ∨ s_hr B z p = 111 ∨ s_hr B z p = 105) := by
    intro q g
    apply q
    rcases g with g | g | g | g <;> rw [g] <;> decide
  have hbd := s_hr_bd (B := B) (z := z) hz8 hB p
  have hkb := s_kd_bd (s_hr B z p)
  have hq1 := s_nm_le (B := B) (z := z) 6 (p + 1) 0
  have hpn := c_pn hn (M := (ew_wr (ew_wr M 30 i (s_hr B z p)) 29 i (p : Int))) (s_TP_wr (s_TP_wr hT (by omega)) (by omega)) (p := p + 1) (by omega) (by omega)
  rw [if_pos h2] at hpn
  have hpw := c_pw hn (M := (ew_wr (ew_wr (ew_wr M 30 i (s_hr B z p)) 29 i (p : Int)) 31 (3 * i + 0) (s_nm B z 6 (p + 1) 0).2)) (s_TP_wr (s_TP_wr (s_TP_wr hT (by omega)) (by omega)) (by omega)) (p := (s_nm B z 6 (p + 1) 0).1) (by omega) (by omega) hi
  have hc := ew_c_51
  refine xr_go hc rfl rfl ?_
  refine xr_gf2 (A := 27) (w := 30) rfl hc rfl (ew_own_p hn rfl) (ew_pm hp rfl) ?_
  refine xr_go hc rfl rfl ?_
  refine xr_go hc rfl rfl ?_
  refine xr_iast (A := 30) (N := 27) rfl rfl hc rfl (ew_own_p hn rfl) (by omega) (by omega) ?_
  rw [Int.toNat_natCast, s_Q_w (by omega)]
  refine xr_go hc rfl rfl ?_
  refine xr_gf2 (A := 27) (w := 29) rfl hc rfl (ew_own_p hn rfl) (ew_pm hp rfl) ?_
  refine xr_go hc rfl rfl ?_
  refine xr_go hc rfl rfl ?_
  refine xr_gf0 (A := 27) rfl hc rfl (ew_own_p hn rfl) (show _ = _ from s_Q_p) ?_
  refine xr_iast (A := 29) (N := 27) rfl rfl hc rfl (ew_own_p hn rfl) (by omega) (by omega) ?_
  rw [Int.toNat_natCast, s_Q_w (by omega)]
  refine xr_go hc rfl rfl ?_
  refine xr_go hc rfl rfl ?_
  refine xr_gf0 (A := 27) rfl hc rfl (ew_own_p hn rfl) (show _ = _ from s_Q_p) ?_
  refine xr_go hc rfl rfl ?_
  refine xr_go hc rfl rfl ?_
  refine xr_pf (A := 27) rfl hc rfl (ew_own_p hn rfl) ?_
  rw [s_Q_6 (q := p + 1) (by omega)]
  refine xr_go hc rfl rfl ?_
  refine xr_go hc rfl rfl ?_
  refine xr_go hc rfl rfl ?_
  refine xr_go hc rfl rfl ?_
  refine xr_v_1 hc rfl rfl (ew_own_p hn rfl) (hpn) ?_
  refine xr_vv_4 (v := (0, 0)) hc rfl rfl (ew_own_p hn rfl) (c_sn0 hn (s_TP_wr (s_TP_wr hT (by omega)) (by omega)) (by omega) hi) ?_
  refine xr_go hc rfl rfl ?_
  refine xr_if_eq hc rfl (by decide) (fun c1 => by exfalso; omega) (fun c1 => ?_)
  refine xr_go hc rfl rfl ?_
  refine xr_go hc rfl rfl ?_
  refine xr_vv_2 (v := (0, 0)) hc rfl rfl (ew_own_p hn rfl) (hpw) ?_
  refine xr_go hc rfl rfl ?_
  refine xr_go hc rfl rfl ?_
  refine xr_go hc rfl rfl ?_
  refine xr_go hc rfl rfl ?_
  refine xr_pf (A := 27) rfl hc rfl (ew_own_p hn rfl) ?_
  refine xr_ret hc rfl rfl ?_
  exact ⟨rfl, rfl, s_Q_w (by omega)⟩

set_option maxRecDepth 20000 in
theorem c_ps1w {n : Nat} {M : ew_Mem} {B : Nat → Int} {z p : Nat} (hn : 59 ≤ n) (hT : s_TP B z M) (hpz : p ≤ 190) (hp8 : p ≤ 80) {i : Nat} (hi : i < 27) (h2 : ¬ s_dg9 (s_hr B z (p + 1))) {ot : ew_AV} : ew_X 51 75 [(2, 27), (0, (i : Int)), (0, (s_hr B z p)), (0, 1), ot] [] n (s_Q M p 0) (fun r a b => r = none ∧ a = n ∧ b = (s_Q (ew_wr (s_wm (ew_wr (ew_wr (ew_wr M 30 i (s_hr B z p)) 29 i (p : Int)) 31 (3 * i + 0) (s_nm B z 6 (p + 1) 0).2) i 0 0) 27 5 ((i : Int) + 1)) (p + 1) 1)) := by
  obtain ⟨hp0, hz1, hz8, hB28, hB⟩ := id hT
  have hp : ew_Pm (s_Q M p 0) := s_Q_pm hp0
  have hkx : ¬ s_kd (s_hr B z p) = -1 → ¬ (s_hr B z p = 110 ∨ s_hr B z p = 97 ∨ s_hr B z p = 111 ∨ s_hr B z p = 105) := by
    intro q g
    apply q
    rcases g with g | g | g | g <;> rw [g] <;> decide
  have hbd := s_hr_bd (B := B) (z := z) hz8 hB p
  have hkb := s_kd_bd (s_hr B z p)
  have hq1 := s_nm_le (B := B) (z := z) 6 (p + 1) 0
  have hpn := c_pn hn (M := (ew_wr (ew_wr M 30 i (s_hr B z p)) 29 i (p : Int))) (s_TP_wr (s_TP_wr hT (by omega)) (by omega)) (p := p + 1) (by omega) (by omega)
  rw [if_neg h2] at hpn
  have e1 : s_nm B z 6 (p + 1) 0 = (p + 1, 0) := s_nm_0 h2
  rw [e1] at hpn ⊢
  have hpw := c_pwF hn (M := (ew_wr (ew_wr (ew_wr M 30 i (s_hr B z p)) 29 i (p : Int)) 31 (3 * i + 0) (p + 1, (0 : Int)).2)) (s_TP_wr (s_TP_wr (s_TP_wr hT (by omega)) (by omega)) (by omega)) (p := p + 1) (by omega) (by omega) hi
  have hc := ew_c_51
  refine xr_go hc rfl rfl ?_
  refine xr_gf2 (A := 27) (w := 30) rfl hc rfl (ew_own_p hn rfl) (ew_pm hp rfl) ?_
  refine xr_go hc rfl rfl ?_
  refine xr_go hc rfl rfl ?_
  refine xr_iast (A := 30) (N := 27) rfl rfl hc rfl (ew_own_p hn rfl) (by omega) (by omega) ?_
  rw [Int.toNat_natCast, s_Q_w (by omega)]
  refine xr_go hc rfl rfl ?_
  refine xr_gf2 (A := 27) (w := 29) rfl hc rfl (ew_own_p hn rfl) (ew_pm hp rfl) ?_
  refine xr_go hc rfl rfl ?_
  refine xr_go hc rfl rfl ?_
  refine xr_gf0 (A := 27) rfl hc rfl (ew_own_p hn rfl) (show _ = _ from s_Q_p) ?_
  refine xr_iast (A := 29) (N := 27) rfl rfl hc rfl (ew_own_p hn rfl) (by omega) (by omega) ?_
  rw [Int.toNat_natCast, s_Q_w (by omega)]
  refine xr_go hc rfl rfl ?_
  refine xr_go hc rfl rfl ?_
  refine xr_gf0 (A := 27) rfl hc rfl (ew_own_p hn rfl) (show _ = _ from s_Q_p) ?_
  refine xr_go hc rfl rfl ?_
  refine xr_go hc rfl rfl ?_
  refine xr_pf (A := 27) rfl hc rfl (ew_own_p hn rfl) ?_
  rw [s_Q_6 (q := p + 1) (by omega)]
  refine xr_go hc rfl rfl ?_
  refine xr_go hc rfl rfl ?_
  refine xr_go hc rfl rfl ?_
  refine xr_go hc rfl rfl ?_
  refine xr_v_1 hc rfl rfl (ew_own_p hn rfl) (hpn) ?_
  refine xr_vv_4 (v := (0, 0)) hc rfl rfl (ew_own_p hn rfl) (c_sn0 hn (s_TP_wr (s_TP_wr hT (by omega)) (by omega)) (by omega) hi) ?_
  refine xr_go hc rfl rfl ?_
  refine xr_if_eq hc rfl (by decide) (fun c1 => by exfalso; omega) (fun c1 => ?_)
  refine xr_go hc rfl rfl ?_
  refine xr_go hc rfl rfl ?_
  refine xr_vv_2 (v := (0, 0)) hc rfl rfl (ew_own_p hn rfl) (hpw) ?_
  refine xr_go hc rfl rfl ?_
  refine xr_go hc rfl rfl ?_
  refine xr_go hc rfl rfl ?_
  refine xr_go hc rfl rfl ?_
  refine xr_pf (A := 27) rfl hc rfl (ew_own_p hn rfl) ?_
  refine xr_ret hc rfl rfl ?_
  exact ⟨rfl, rfl, s_Q_w (by omega)⟩

set_option maxRecDepth 20000 in
theorem c_pS0 {n : Nat} {M : ew_Mem} {B : Nat → Int} {z p : Nat} (hn : 59 ≤ n) (hT : s_TP B z M) (hpz : p ≤ 190) (hp8 : p ≤ 80) {i : Nat} (hi : i < 27) (h : ¬ s_isL (s_hr B z p)) : ew_VM 51 [(2, 27), (0, (i : Int))] n (s_Q M p 0) n (s_Q M p 1) := by
  obtain ⟨hp0, hz1, hz8, hB28, hB⟩ := id hT
  have hp : ew_Pm (s_Q M p 0) := s_Q_pm hp0
  have hkx : ¬ s_kd (s_hr B z p) = -1 → ¬ (s_hr B z p = 110 ∨ s_hr B z p = 97 ∨ s_hr B z p = 111 ∨ s_hr B z p = 105) := by
    intro q g
    apply q
    rcases g with g | g | g | g <;> rw [g] <;> decide
  have hbd := s_hr_bd (B := B) (z := z) hz8 hB p
  have hkb := s_kd_bd (s_hr B z p)
  have hq1 := s_nm_le (B := B) (z := z) 6 (p + 1) 0
  have hc := ew_c_51
  show ew_X 51 0 [(2, 27), (0, (i : Int)), (5, 0), (5, 0), (5, 0)] [] n _ _
  refine xr_go hc rfl rfl ?_
  refine xr_v_1 hc rfl rfl (ew_own_p hn rfl) (c_byteHere hn hT hpz) ?_
  refine xr_s1_2 hc rfl rfl rfl ?_
  refine xr_go hc rfl rfl ?_
  refine xr_s_1 hc rfl rfl (c_kindOf (by omega)) ?_
  refine xr_go hc rfl rfl ?_
  refine xr_icmp_eq hc rfl (by omega) (by decide) (fun c1 => ?_) (fun c1 => ?_)
  · try (exfalso; omega)
    all_goals
      refine xr_go hc rfl rfl ?_
      refine xr_s1_3 hc rfl rfl rfl ?_
      refine xr_go hc rfl rfl ?_
      refine xr_go hc rfl rfl ?_
      refine xr_icmp_eq hc rfl (by omega) (by decide) (fun c2 => ?_) (fun c2 => ?_)
      · try (exfalso; omega)
        all_goals
          refine xr_go hc rfl rfl ?_
          refine xr_go hc rfl rfl ?_
          refine xr_s1_4 hc rfl rfl rfl ?_
          refine xr_go hc rfl rfl ?_
          refine xr_if_lt hc rfl (by omega) (fun c3 => ?_) (fun c3 => ?_)
          · exfalso; omega
          · skip
            refine xr_go hc rfl rfl ?_
            refine xr_go hc rfl rfl ?_
            refine xr_icmp_ge hc rfl (by omega) (by decide) (fun c4 => ?_) (fun c4 => ?_)
            · exfalso; omega
            · skip
              refine xr_go hc rfl rfl ?_
              refine xr_if_ne hc rfl (by decide) (fun c5 => by exfalso; omega) (fun c5 => ?_)
              refine xr_go hc rfl rfl ?_
              refine xr_if_ne hc rfl (by decide) (fun c6 => ?_) (fun c6 => by exfalso; omega)
              exfalso; omega
      · try (exfalso; omega)
        all_goals
          refine xr_go hc rfl rfl ?_
          refine xr_go hc rfl rfl ?_
          refine xr_icmp_eq hc rfl (by omega) (by decide) (fun c7 => ?_) (fun c7 => ?_)
          · try (exfalso; omega)
            all_goals
              refine xr_go hc rfl rfl ?_
              refine xr_go hc rfl rfl ?_
              refine xr_s1_4 hc rfl rfl rfl ?_
              refine xr_go hc rfl rfl ?_
              refine xr_if_lt hc rfl (by omega) (fun c8 => ?_) (fun c8 => ?_)
              · exfalso; omega
              · skip
                refine xr_go hc rfl rfl ?_
                refine xr_go hc rfl rfl ?_
                refine xr_icmp_ge hc rfl (by omega) (by decide) (fun c9 => ?_) (fun c9 => ?_)
                · exfalso; omega
                · skip
                  refine xr_go hc rfl rfl ?_
                  refine xr_if_ne hc rfl (by decide) (fun c10 => by exfalso; omega) (fun c10 => ?_)
                  refine xr_go hc rfl rfl ?_
                  refine xr_if_ne hc rfl (by decide) (fun c11 => ?_) (fun c11 => by exfalso; omega)
                  exfalso; omega
          · try (exfalso; omega)
            all_goals
              refine xr_go hc rfl rfl ?_
              refine xr_go hc rfl rfl ?_
              refine xr_icmp_eq hc rfl (by omega) (by decide) (fun c12 => ?_) (fun c12 => ?_)
              · try (exfalso; omega)
                all_goals
                  refine xr_go hc rfl rfl ?_
                  refine xr_go hc rfl rfl ?_
                  refine xr_s1_4 hc rfl rfl rfl ?_
                  refine xr_go hc rfl rfl ?_
                  refine xr_if_lt hc rfl (by omega) (fun c13 => ?_) (fun c13 => ?_)
                  · exfalso; omega
                  · skip
                    refine xr_go hc rfl rfl ?_
                    refine xr_go hc rfl rfl ?_
                    refine xr_icmp_ge hc rfl (by omega) (by decide) (fun c14 => ?_) (fun c14 => ?_)
                    · exfalso; omega
                    · skip
                      refine xr_go hc rfl rfl ?_
                      refine xr_if_ne hc rfl (by decide) (fun c15 => by exfalso; omega) (fun c15 => ?_)
                      refine xr_go hc rfl rfl ?_
                      refine xr_if_ne hc rfl (by decide) (fun c16 => ?_) (fun c16 => by exfalso; omega)
                      exfalso; omega
              · try (exfalso; omega)
                all_goals
                  refine xr_go hc rfl rfl ?_
                  refine xr_go hc rfl rfl ?_
                  refine xr_icmp_ne hc rfl (by omega) (by decide) (fun c17 => ?_) (fun c17 => ?_)
                  · try (exfalso; omega)
                    all_goals
                      refine xr_go hc rfl rfl ?_
                      refine xr_s1_4 hc rfl rfl rfl ?_
                      refine xr_go hc rfl rfl ?_
                      refine xr_if_lt hc rfl (by omega) (fun c18 => ?_) (fun c18 => ?_)
                      · exfalso; omega
                      · skip
                        refine xr_go hc rfl rfl ?_
                        refine xr_go hc rfl rfl ?_
                        refine xr_icmp_ge hc rfl (by omega) (by decide) (fun c19 => ?_) (fun c19 => ?_)
                        · exfalso; omega
                        · skip
                          refine xr_go hc rfl rfl ?_
                          refine xr_if_ne hc rfl (by decide) (fun c20 => by exfalso; omega) (fun c20 => ?_)
                          refine xr_go hc rfl rfl ?_
                          refine xr_if_ne hc rfl (by decide) (fun c21 => by exfalso; omega) (fun c21 => ?_)
                          refine xr_go hc rfl rfl ?_
                          refine xr_go hc rfl rfl ?_
                          refine xr_pfB (A := 27) rfl hc rfl (ew_own_p hn rfl) (by decide) ?_
                          refine xr_ret hc rfl rfl ?_
                          exact ⟨rfl, rfl, s_Q_7⟩
                  · try (exfalso; omega)
                    all_goals
                      refine xr_go hc rfl rfl ?_
                      refine xr_go hc rfl rfl ?_
                      refine xr_s1_4 hc rfl rfl rfl ?_
                      refine xr_go hc rfl rfl ?_
                      refine xr_if_lt hc rfl (by omega) (fun c22 => ?_) (fun c22 => ?_)
                      · exfalso; omega
                      · skip
                        refine xr_go hc rfl rfl ?_
                        refine xr_go hc rfl rfl ?_
                        refine xr_icmp_ge hc rfl (by omega) (by decide) (fun c23 => ?_) (fun c23 => ?_)
                        · exfalso; omega
                        · skip
                          refine xr_go hc rfl rfl ?_
                          refine xr_if_ne hc rfl (by decide) (fun c24 => by exfalso; omega) (fun c24 => ?_)
                          refine xr_go hc rfl rfl ?_
                          refine xr_if_ne hc rfl (by decide) (fun c25 => ?_) (fun c25 => by exfalso; omega)
                          exfalso; omega
  · try (exfalso; omega)
    all_goals
      refine xr_go hc rfl rfl ?_
      refine xr_go hc rfl rfl ?_
      refine xr_s1_3 hc rfl rfl rfl ?_
      refine xr_go hc rfl rfl ?_
      refine xr_go hc rfl rfl ?_
      refine xr_icmp_eq hc rfl (by omega) (by decide) (fun c26 => ?_) (fun c26 => ?_)
      · try (exfalso; omega)
        all_goals
          refine xr_go hc rfl rfl ?_
          refine xr_go hc rfl rfl ?_
          refine xr_s1_4 hc rfl rfl rfl ?_
          refine xr_go hc rfl rfl ?_
          refine xr_if_lt hc rfl (by omega) (fun c27 => ?_) (fun c27 => ?_)
          · exfalso; omega
          · skip
            refine xr_go hc rfl rfl ?_
            refine xr_go hc rfl rfl ?_
            refine xr_icmp_ge hc rfl (by omega) (by decide) (fun c28 => ?_) (fun c28 => ?_)
            · exfalso; omega
            · skip
              refine xr_go hc rfl rfl ?_
              refine xr_if_ne hc rfl (by decide) (fun c29 => ?_) (fun c29 => by exfalso; omega)
              exfalso; omega
      · try (exfalso; omega)
        all_goals
          refine xr_go hc rfl rfl ?_
          refine xr_go hc rfl rfl ?_
          refine xr_icmp_eq hc rfl (by omega) (by decide) (fun c30 => ?_) (fun c30 => ?_)
          · try (exfalso; omega)
            all_goals
              refine xr_go hc rfl rfl ?_
              refine xr_go hc rfl rfl ?_
              refine xr_s1_4 hc rfl rfl rfl ?_
              refine xr_go hc rfl rfl ?_
              refine xr_if_lt hc rfl (by omega) (fun c31 => ?_) (fun c31 => ?_)
              · exfalso; omega
              · skip
                refine xr_go hc rfl rfl ?_
                refine xr_go hc rfl rfl ?_
                refine xr_icmp_ge hc rfl (by omega) (by decide) (fun c32 => ?_) (fun c32 => ?_)
                · exfalso; omega
                · skip
                  refine xr_go hc rfl rfl ?_
                  refine xr_if_ne hc rfl (by decide) (fun c33 => ?_) (fun c33 => by exfalso; omega)
                  exfalso; omega
          · try (exfalso; omega)
            all_goals
              refine xr_go hc rfl rfl ?_
              refine xr_go hc rfl rfl ?_
              refine xr_icmp_eq hc rfl (by omega) (by decide) (fun c34 => ?_) (fun c34 => ?_)
              · try (exfalso; omega)
                all_goals
                  refine xr_go hc rfl rfl ?_
                  refine xr_go hc rfl rfl ?_
                  refine xr_s1_4 hc rfl rfl rfl ?_
                  refine xr_go hc rfl rfl ?_
                  refine xr_if_lt hc rfl (by omega) (fun c35 => ?_) (fun c35 => ?_)
                  · exfalso; omega
                  · skip
                    refine xr_go hc rfl rfl ?_
                    refine xr_go hc rfl rfl ?_
                    refine xr_icmp_ge hc rfl (by omega) (by decide) (fun c36 => ?_) (fun c36 => ?_)
                    · exfalso; omega
                    · skip
                      refine xr_go hc rfl rfl ?_
                      refine xr_if_ne hc rfl (by decide) (fun c37 => ?_) (fun c37 => by exfalso; omega)
                      exfalso; omega
              · try (exfalso; omega)
                all_goals
                  refine xr_go hc rfl rfl ?_
                  refine xr_go hc rfl rfl ?_
                  refine xr_icmp_ne hc rfl (by omega) (by decide) (fun c38 => ?_) (fun c38 => ?_)
                  · try (exfalso; omega)
                    all_goals
                      refine xr_go hc rfl rfl ?_
                      refine xr_s1_4 hc rfl rfl rfl ?_
                      refine xr_go hc rfl rfl ?_
                      refine xr_if_lt hc rfl (by omega) (fun c39 => ?_) (fun c39 => ?_)
                      · exfalso; omega
                      · skip
                        refine xr_go hc rfl rfl ?_
                        refine xr_go hc rfl rfl ?_
                        refine xr_icmp_ge hc rfl (by omega) (by decide) (fun c40 => ?_) (fun c40 => ?_)
                        · exfalso; omega
                        · skip
                          refine xr_go hc rfl rfl ?_
                          refine xr_if_ne hc rfl (by decide) (fun c41 => ?_) (fun c41 => by exfalso; omega)
                          exfalso; omega
                  · try (exfalso; omega)
                    all_goals
                      refine xr_go hc rfl rfl ?_
                      refine xr_go hc rfl rfl ?_
                      refine xr_s1_4 hc rfl rfl rfl ?_
                      refine xr_go hc rfl rfl ?_
                      refine xr_if_lt hc rfl (by omega) (fun c42 => ?_) (fun c42 => ?_)
                      · exfalso; omega
                      · skip
                        refine xr_go hc rfl rfl ?_
                        refine xr_go hc rfl rfl ?_
                        refine xr_icmp_ge hc rfl (by omega) (by decide) (fun c43 => ?_) (fun c43 => ?_)
                        · exfalso; omega
                        · skip
                          refine xr_go hc rfl rfl ?_
                          refine xr_if_ne hc rfl (by decide) (fun c44 => ?_) (fun c44 => by exfalso; omega)
                          exfalso; omega

set_option maxRecDepth 20000 in
theorem c_pS1 {n : Nat} {M : ew_Mem} {B : Nat → Int} {z p : Nat} (hn : 59 ≤ n) (hT : s_TP B z M) (hpz : p ≤ 190) (hp8 : p ≤ 80) {i : Nat} (hi : i < 27) (h : s_isL (s_hr B z p)) (hk : s_kd (s_hr B z p) = -1) (h2 : ¬ s_dg9 (s_hr B z (p + 1))) : ew_VM 51 [(2, 27), (0, (i : Int))] n (s_Q M p 0) n (s_Q (ew_wr (ew_wr (ew_wr (ew_wr M 30 i (s_hr B z p)) 29 i (p : Int)) 31 (3 * i + 0) (s_nm B z 6 (p + 1) 0).2) 27 5 ((i : Int) + 1)) (p + 1) 1) := by
  obtain ⟨hp0, hz1, hz8, hB28, hB⟩ := id hT
  have hp : ew_Pm (s_Q M p 0) := s_Q_pm hp0
  have hkx : ¬ s_kd (s_hr B z p) = -1 → ¬ (s_hr B z p = 110 ∨ s_hr B z p = 97 ∨ s_hr B z p = 111 ∨ s_hr B z p = 105) := by
    intro q g
    apply q
    rcases g with g | g | g | g <;> rw [g] <;> decide
  have hbd := s_hr_bd (B := B) (z := z) hz8 hB p
  have hkb := s_kd_bd (s_hr B z p)
  have hq1 := s_nm_le (B := B) (z := z) 6 (p + 1) 0
  have hc := ew_c_51
  show ew_X 51 0 [(2, 27), (0, (i : Int)), (5, 0), (5, 0), (5, 0)] [] n _ _
  refine xr_go hc rfl rfl ?_
  refine xr_v_1 hc rfl rfl (ew_own_p hn rfl) (c_byteHere hn hT hpz) ?_
  refine xr_s1_2 hc rfl rfl rfl ?_
  refine xr_go hc rfl rfl ?_
  refine xr_s_1 hc rfl rfl (c_kindOf (by omega)) ?_
  refine xr_go hc rfl rfl ?_
  refine xr_icmp_eq hc rfl (by omega) (by decide) (fun c1 => ?_) (fun c1 => ?_)
  · try (exfalso; omega)
    all_goals
      refine xr_go hc rfl rfl ?_
      refine xr_s1_3 hc rfl rfl rfl ?_
      refine xr_go hc rfl rfl ?_
      refine xr_go hc rfl rfl ?_
      refine xr_icmp_eq hc rfl (by omega) (by decide) (fun c2 => ?_) (fun c2 => ?_)
      · try (exfalso; omega)
        all_goals
          refine xr_go hc rfl rfl ?_
          refine xr_go hc rfl rfl ?_
          refine xr_s1_4 hc rfl rfl rfl ?_
          refine xr_go hc rfl rfl ?_
          refine xr_if_lt hc rfl (by omega) (fun c3 => ?_) (fun c3 => ?_)
          · exfalso; omega
          · skip
            refine xr_go hc rfl rfl ?_
            refine xr_go hc rfl rfl ?_
            refine xr_icmp_ge hc rfl (by omega) (by decide) (fun c4 => ?_) (fun c4 => ?_)
            · exfalso; omega
            · skip
              refine xr_go hc rfl rfl ?_
              refine xr_if_ne hc rfl (by decide) (fun c5 => by exfalso; omega) (fun c5 => ?_)
              refine xr_go hc rfl rfl ?_
              refine xr_if_ne hc rfl (by decide) (fun c6 => ?_) (fun c6 => by exfalso; omega)
              exact c_ps1 hn hT hpz hp8 hi h2
      · try (exfalso; omega)
        all_goals
          refine xr_go hc rfl rfl ?_
          refine xr_go hc rfl rfl ?_
          refine xr_icmp_eq hc rfl (by omega) (by decide) (fun c7 => ?_) (fun c7 => ?_)
          · try (exfalso; omega)
            all_goals
              refine xr_go hc rfl rfl ?_
              refine xr_go hc rfl rfl ?_
              refine xr_s1_4 hc rfl rfl rfl ?_
              refine xr_go hc rfl rfl ?_
              refine xr_if_lt hc rfl (by omega) (fun c8 => ?_) (fun c8 => ?_)
              · exfalso; omega
              · skip
                refine xr_go hc rfl rfl ?_
                refine xr_go hc rfl rfl ?_
                refine xr_icmp_ge hc rfl (by omega) (by decide) (fun c9 => ?_) (fun c9 => ?_)
                · exfalso; omega
                · skip
                  refine xr_go hc rfl rfl ?_
                  refine xr_if_ne hc rfl (by decide) (fun c10 => by exfalso; omega) (fun c10 => ?_)
                  refine xr_go hc rfl rfl ?_
                  refine xr_if_ne hc rfl (by decide) (fun c11 => ?_) (fun c11 => by exfalso; omega)
                  exact c_ps1 hn hT hpz hp8 hi h2
          · try (exfalso; omega)
            all_goals
              refine xr_go hc rfl rfl ?_
              refine xr_go hc rfl rfl ?_
              refine xr_icmp_eq hc rfl (by omega) (by decide) (fun c12 => ?_) (fun c12 => ?_)
              · try (exfalso; omega)
                all_goals
                  refine xr_go hc rfl rfl ?_
                  refine xr_go hc rfl rfl ?_
                  refine xr_s1_4 hc rfl rfl rfl ?_
                  refine xr_go hc rfl rfl ?_
                  refine xr_if_lt hc rfl (by omega) (fun c13 => ?_) (fun c13 => ?_)
                  · exfalso; omega
                  · skip
                    refine xr_go hc rfl rfl ?_
                    refine xr_go hc rfl rfl ?_
                    refine xr_icmp_ge hc rfl (by omega) (by decide) (fun c14 => ?_) (fun c14 => ?_)
                    · exfalso; omega
                    · skip
                      refine xr_go hc rfl rfl ?_
                      refine xr_if_ne hc rfl (by decide) (fun c15 => by exfalso; omega) (fun c15 => ?_)
                      refine xr_go hc rfl rfl ?_
                      refine xr_if_ne hc rfl (by decide) (fun c16 => ?_) (fun c16 => by exfalso; omega)
                      exact c_ps1 hn hT hpz hp8 hi h2
              · try (exfalso; omega)
                all_goals
                  refine xr_go hc rfl rfl ?_
                  refine xr_go hc rfl rfl ?_
                  refine xr_icmp_ne hc rfl (by omega) (by decide) (fun c17 => ?_) (fun c17 => ?_)
                  · try (exfalso; omega)
                    all_goals
                      refine xr_go hc rfl rfl ?_
                      refine xr_s1_4 hc rfl rfl rfl ?_
                      refine xr_go hc rfl rfl ?_
                      refine xr_if_lt hc rfl (by omega) (fun c18 => ?_) (fun c18 => ?_)
                      · exfalso; omega
                      · skip
                        refine xr_go hc rfl rfl ?_
                        refine xr_go hc rfl rfl ?_
                        refine xr_icmp_ge hc rfl (by omega) (by decide) (fun c19 => ?_) (fun c19 => ?_)
                        · exfalso; omega
                        · skip
                          refine xr_go hc rfl rfl ?_
                          refine xr_if_ne hc rfl (by decide) (fun c20 => by exfalso; omega) (fun c20 => ?_)
                          refine xr_go hc rfl rfl ?_
                          refine xr_if_ne hc rfl (by decide) (fun c21 => by exfalso; omega) (fun c21 => ?_)
                          refine xr_go hc rfl rfl ?_
                          refine xr_go hc rfl rfl ?_
                          refine xr_pfB (A := 27) rfl hc rfl (ew_own_p hn rfl) (by decide) ?_
                          refine xr_ret hc rfl rfl ?_
                          exfalso; omega
                  · try (exfalso; omega)
                    all_goals
                      refine xr_go hc rfl rfl ?_
                      refine xr_go hc rfl rfl ?_
                      refine xr_s1_4 hc rfl rfl rfl ?_
                      refine xr_go hc rfl rfl ?_
                      refine xr_if_lt hc rfl (by omega) (fun c22 => ?_) (fun c22 => ?_)
                      · exfalso; omega
                      · skip
                        refine xr_go hc rfl rfl ?_
                        refine xr_go hc rfl rfl ?_
                        refine xr_icmp_ge hc rfl (by omega) (by decide) (fun c23 => ?_) (fun c23 => ?_)
                        · exfalso; omega
                        · skip
                          refine xr_go hc rfl rfl ?_
                          refine xr_if_ne hc rfl (by decide) (fun c24 => by exfalso; omega) (fun c24 => ?_)
                          refine xr_go hc rfl rfl ?_
                          refine xr_if_ne hc rfl (by decide) (fun c25 => ?_) (fun c25 => by exfalso; omega)
                          exact c_ps1 hn hT hpz hp8 hi h2
  · try (exfalso; omega)
    all_goals
      refine xr_go hc rfl rfl ?_
      refine xr_go hc rfl rfl ?_
      refine xr_s1_3 hc rfl rfl rfl ?_
      refine xr_go hc rfl rfl ?_
      refine xr_go hc rfl rfl ?_
      refine xr_icmp_eq hc rfl (by omega) (by decide) (fun c26 => ?_) (fun c26 => ?_)
      · try (exfalso; omega)
        all_goals
          refine xr_go hc rfl rfl ?_
          refine xr_go hc rfl rfl ?_
          refine xr_s1_4 hc rfl rfl rfl ?_
          refine xr_go hc rfl rfl ?_
          refine xr_if_lt hc rfl (by omega) (fun c27 => ?_) (fun c27 => ?_)
          · exfalso; omega
          · skip
            refine xr_go hc rfl rfl ?_
            refine xr_go hc rfl rfl ?_
            refine xr_icmp_ge hc rfl (by omega) (by decide) (fun c28 => ?_) (fun c28 => ?_)
            · exfalso; omega
            · skip
              refine xr_go hc rfl rfl ?_
              refine xr_if_ne hc rfl (by decide) (fun c29 => ?_) (fun c29 => by exfalso; omega)
              exact c_ps1 hn hT hpz hp8 hi h2
      · try (exfalso; omega)
        all_goals
          refine xr_go hc rfl rfl ?_
          refine xr_go hc rfl rfl ?_
          refine xr_icmp_eq hc rfl (by omega) (by decide) (fun c30 => ?_) (fun c30 => ?_)
          · try (exfalso; omega)
            all_goals
              refine xr_go hc rfl rfl ?_
              refine xr_go hc rfl rfl ?_
              refine xr_s1_4 hc rfl rfl rfl ?_
              refine xr_go hc rfl rfl ?_
              refine xr_if_lt hc rfl (by omega) (fun c31 => ?_) (fun c31 => ?_)
              · exfalso; omega
              · skip
                refine xr_go hc rfl rfl ?_
                refine xr_go hc rfl rfl ?_
                refine xr_icmp_ge hc rfl (by omega) (by decide) (fun c32 => ?_) (fun c32 => ?_)
                · exfalso; omega
                · skip
                  refine xr_go hc rfl rfl ?_
                  refine xr_if_ne hc rfl (by decide) (fun c33 => ?_) (fun c33 => by exfalso; omega)
                  exact c_ps1 hn hT hpz hp8 hi h2
          · try (exfalso; omega)
            all_goals
              refine xr_go hc rfl rfl ?_
              refine xr_go hc rfl rfl ?_
              refine xr_icmp_eq hc rfl (by omega) (by decide) (fun c34 => ?_) (fun c34 => ?_)
              · try (exfalso; omega)
                all_goals
                  refine xr_go hc rfl rfl ?_
                  refine xr_go hc rfl rfl ?_
                  refine xr_s1_4 hc rfl rfl rfl ?_
                  refine xr_go hc rfl rfl ?_
                  refine xr_if_lt hc rfl (by omega) (fun c35 => ?_) (fun c35 => ?_)
                  · exfalso; omega
                  · skip
                    refine xr_go hc rfl rfl ?_
                    refine xr_go hc rfl rfl ?_
                    refine xr_icmp_ge hc rfl (by omega) (by decide) (fun c36 => ?_) (fun c36 => ?_)
                    · exfalso; omega
                    · skip
                      refine xr_go hc rfl rfl ?_
                      refine xr_if_ne hc rfl (by decide) (fun c37 => ?_) (fun c37 => by exfalso; omega)
                      exact c_ps1 hn hT hpz hp8 hi h2
              · try (exfalso; omega)
                all_goals
                  refine xr_go hc rfl rfl ?_
                  refine xr_go hc rfl rfl ?_
                  refine xr_icmp_ne hc rfl (by omega) (by decide) (fun c38 => ?_) (fun c38 => ?_)
                  · try (exfalso; omega)
                    all_goals
                      refine xr_go hc rfl rfl ?_
                      refine xr_s1_4 hc rfl rfl rfl ?_
                      refine xr_go hc rfl rfl ?_
                      refine xr_if_lt hc rfl (by omega) (fun c39 => ?_) (fun c39 => ?_)
                      · exfalso; omega
                      · skip
                        refine xr_go hc rfl rfl ?_
                        refine xr_go hc rfl rfl ?_
                        refine xr_icmp_ge hc rfl (by omega) (by decide) (fun c40 => ?_) (fun c40 => ?_)
                        · exfalso; omega
                        · skip
                          refine xr_go hc rfl rfl ?_
                          refine xr_if_ne hc rfl (by decide) (fun c41 => ?_) (fun c41 => by exfalso; omega)
                          exact c_ps1 hn hT hpz hp8 hi h2
                  · try (exfalso; omega)
                    all_goals
                      refine xr_go hc rfl rfl ?_
                      refine xr_go hc rfl rfl ?_
                      refine xr_s1_4 hc rfl rfl rfl ?_
                      refine xr_go hc rfl rfl ?_
                      refine xr_if_lt hc rfl (by omega) (fun c42 => ?_) (fun c42 => ?_)
                      · exfalso; omega
                      · skip
                        refine xr_go hc rfl rfl ?_
                        refine xr_go hc rfl rfl ?_
                        refine xr_icmp_ge hc rfl (by omega) (by decide) (fun c43 => ?_) (fun c43 => ?_)
                        · exfalso; omega
                        · skip
                          refine xr_go hc rfl rfl ?_
                          refine xr_if_ne hc rfl (by decide) (fun c44 => ?_) (fun c44 => by exfalso; omega)
                          exact c_ps1 hn hT hpz hp8 hi h2

set_option maxRecDepth 20000 in
theorem c_pS2 {n : Nat} {M : ew_Mem} {B : Nat → Int} {z p : Nat} (hn : 59 ≤ n) (hT : s_TP B z M) (hpz : p ≤ 190) (hp8 : p ≤ 80) {i : Nat} (hi : i < 27) (h : s_isL (s_hr B z p)) (hk : s_kd (s_hr B z p) = -1) (h2 : s_dg9 (s_hr B z (p + 1))) : ew_VM 51 [(2, 27), (0, (i : Int))] n (s_Q M p 0) n (s_Q (ew_wr (ew_wr (ew_wr (ew_wr M 30 i (s_hr B z p)) 29 i (p : Int)) 31 (3 * i + 0) (s_nm B z 6 (p + 1) 0).2) 27 5 ((i : Int) + 1)) (s_nm B z 6 (p + 1) 0).1 0) := by
  obtain ⟨hp0, hz1, hz8, hB28, hB⟩ := id hT
  have hp : ew_Pm (s_Q M p 0) := s_Q_pm hp0
  have hkx : ¬ s_kd (s_hr B z p) = -1 → ¬ (s_hr B z p = 110 ∨ s_hr B z p = 97 ∨ s_hr B z p = 111 ∨ s_hr B z p = 105) := by
    intro q g
    apply q
    rcases g with g | g | g | g <;> rw [g] <;> decide
  have hbd := s_hr_bd (B := B) (z := z) hz8 hB p
  have hkb := s_kd_bd (s_hr B z p)
  have hq1 := s_nm_le (B := B) (z := z) 6 (p + 1) 0
  have hc := ew_c_51
  show ew_X 51 0 [(2, 27), (0, (i : Int)), (5, 0), (5, 0), (5, 0)] [] n _ _
  refine xr_go hc rfl rfl ?_
  refine xr_v_1 hc rfl rfl (ew_own_p hn rfl) (c_byteHere hn hT hpz) ?_
  refine xr_s1_2 hc rfl rfl rfl ?_
  refine xr_go hc rfl rfl ?_
  refine xr_s_1 hc rfl rfl (c_kindOf (by omega)) ?_
  refine xr_go hc rfl rfl ?_
  refine xr_icmp_eq hc rfl (by omega) (by decide) (fun c1 => ?_) (fun c1 => ?_)
  · try (exfalso; omega)
    all_goals
      refine xr_go hc rfl rfl ?_
      refine xr_s1_3 hc rfl rfl rfl ?_
      refine xr_go hc rfl rfl ?_
      refine xr_go hc rfl rfl ?_
      refine xr_icmp_eq hc rfl (by omega) (by decide) (fun c2 => ?_) (fun c2 => ?_)
      · try (exfalso; omega)
        all_goals
          refine xr_go hc rfl rfl ?_
          refine xr_go hc rfl rfl ?_
          refine xr_s1_4 hc rfl rfl rfl ?_
          refine xr_go hc rfl rfl ?_
          refine xr_if_lt hc rfl (by omega) (fun c3 => ?_) (fun c3 => ?_)
          · exfalso; omega
          · skip
            refine xr_go hc rfl rfl ?_
            refine xr_go hc rfl rfl ?_
            refine xr_icmp_ge hc rfl (by omega) (by decide) (fun c4 => ?_) (fun c4 => ?_)
            · exfalso; omega
            · skip
              refine xr_go hc rfl rfl ?_
              refine xr_if_ne hc rfl (by decide) (fun c5 => by exfalso; omega) (fun c5 => ?_)
              refine xr_go hc rfl rfl ?_
              refine xr_if_ne hc rfl (by decide) (fun c6 => ?_) (fun c6 => by exfalso; omega)
              exact c_ps2 hn hT hpz hp8 hi h2
      · try (exfalso; omega)
        all_goals
          refine xr_go hc rfl rfl ?_
          refine xr_go hc rfl rfl ?_
          refine xr_icmp_eq hc rfl (by omega) (by decide) (fun c7 => ?_) (fun c7 => ?_)
          · try (exfalso; omega)
            all_goals
              refine xr_go hc rfl rfl ?_
              refine xr_go hc rfl rfl ?_
              refine xr_s1_4 hc rfl rfl rfl ?_
              refine xr_go hc rfl rfl ?_
              refine xr_if_lt hc rfl (by omega) (fun c8 => ?_) (fun c8 => ?_)
              · exfalso; omega
              · skip
                refine xr_go hc rfl rfl ?_
                refine xr_go hc rfl rfl ?_
                refine xr_icmp_ge hc rfl (by omega) (by decide) (fun c9 => ?_) (fun c9 => ?_)
                · exfalso; omega
                · skip
                  refine xr_go hc rfl rfl ?_
                  refine xr_if_ne hc rfl (by decide) (fun c10 => by exfalso; omega) (fun c10 => ?_)
                  refine xr_go hc rfl rfl ?_
                  refine xr_if_ne hc rfl (by decide) (fun c11 => ?_) (fun c11 => by exfalso; omega)
                  exact c_ps2 hn hT hpz hp8 hi h2
          · try (exfalso; omega)
            all_goals
              refine xr_go hc rfl rfl ?_
              refine xr_go hc rfl rfl ?_
              refine xr_icmp_eq hc rfl (by omega) (by decide) (fun c12 => ?_) (fun c12 => ?_)
              · try (exfalso; omega)
                all_goals
                  refine xr_go hc rfl rfl ?_
                  refine xr_go hc rfl rfl ?_
                  refine xr_s1_4 hc rfl rfl rfl ?_
                  refine xr_go hc rfl rfl ?_
                  refine xr_if_lt hc rfl (by omega) (fun c13 => ?_) (fun c13 => ?_)
                  · exfalso; omega
                  · skip
                    refine xr_go hc rfl rfl ?_
                    refine xr_go hc rfl rfl ?_
                    refine xr_icmp_ge hc rfl (by omega) (by decide) (fun c14 => ?_) (fun c14 => ?_)
                    · exfalso; omega
                    · skip
                      refine xr_go hc rfl rfl ?_
                      refine xr_if_ne hc rfl (by decide) (fun c15 => by exfalso; omega) (fun c15 => ?_)
                      refine xr_go hc rfl rfl ?_
                      refine xr_if_ne hc rfl (by decide) (fun c16 => ?_) (fun c16 => by exfalso; omega)
                      exact c_ps2 hn hT hpz hp8 hi h2
              · try (exfalso; omega)
                all_goals
                  refine xr_go hc rfl rfl ?_
                  refine xr_go hc rfl rfl ?_
                  refine xr_icmp_ne hc rfl (by omega) (by decide) (fun c17 => ?_) (fun c17 => ?_)
                  · try (exfalso; omega)
                    all_goals
                      refine xr_go hc rfl rfl ?_
                      refine xr_s1_4 hc rfl rfl rfl ?_
                      refine xr_go hc rfl rfl ?_
                      refine xr_if_lt hc rfl (by omega) (fun c18 => ?_) (fun c18 => ?_)
                      · exfalso; omega
                      · skip
                        refine xr_go hc rfl rfl ?_
                        refine xr_go hc rfl rfl ?_
                        refine xr_icmp_ge hc rfl (by omega) (by decide) (fun c19 => ?_) (fun c19 => ?_)
                        · exfalso; omega
                        · skip
                          refine xr_go hc rfl rfl ?_
                          refine xr_if_ne hc rfl (by decide) (fun c20 => by exfalso; omega) (fun c20 => ?_)
                          refine xr_go hc rfl rfl ?_
                          refine xr_if_ne hc rfl (by decide) (fun c21 => by exfalso; omega) (fun c21 => ?_)
                          refine xr_go hc rfl rfl ?_
                          refine xr_go hc rfl rfl ?_
                          refine xr_pfB (A := 27) rfl hc rfl (ew_own_p hn rfl) (by decide) ?_
                          refine xr_ret hc rfl rfl ?_
                          exfalso; omega
                  · try (exfalso; omega)
                    all_goals
                      refine xr_go hc rfl rfl ?_
                      refine xr_go hc rfl rfl ?_
                      refine xr_s1_4 hc rfl rfl rfl ?_
                      refine xr_go hc rfl rfl ?_
                      refine xr_if_lt hc rfl (by omega) (fun c22 => ?_) (fun c22 => ?_)
                      · exfalso; omega
                      · skip
                        refine xr_go hc rfl rfl ?_
                        refine xr_go hc rfl rfl ?_
                        refine xr_icmp_ge hc rfl (by omega) (by decide) (fun c23 => ?_) (fun c23 => ?_)
                        · exfalso; omega
                        · skip
                          refine xr_go hc rfl rfl ?_
                          refine xr_if_ne hc rfl (by decide) (fun c24 => by exfalso; omega) (fun c24 => ?_)
                          refine xr_go hc rfl rfl ?_
                          refine xr_if_ne hc rfl (by decide) (fun c25 => ?_) (fun c25 => by exfalso; omega)
                          exact c_ps2 hn hT hpz hp8 hi h2
  · try (exfalso; omega)
    all_goals
      refine xr_go hc rfl rfl ?_
      refine xr_go hc rfl rfl ?_
      refine xr_s1_3 hc rfl rfl rfl ?_
      refine xr_go hc rfl rfl ?_
      refine xr_go hc rfl rfl ?_
      refine xr_icmp_eq hc rfl (by omega) (by decide) (fun c26 => ?_) (fun c26 => ?_)
      · try (exfalso; omega)
        all_goals
          refine xr_go hc rfl rfl ?_
          refine xr_go hc rfl rfl ?_
          refine xr_s1_4 hc rfl rfl rfl ?_
          refine xr_go hc rfl rfl ?_
          refine xr_if_lt hc rfl (by omega) (fun c27 => ?_) (fun c27 => ?_)
          · exfalso; omega
          · skip
            refine xr_go hc rfl rfl ?_
            refine xr_go hc rfl rfl ?_
            refine xr_icmp_ge hc rfl (by omega) (by decide) (fun c28 => ?_) (fun c28 => ?_)
            · exfalso; omega
            · skip
              refine xr_go hc rfl rfl ?_
              refine xr_if_ne hc rfl (by decide) (fun c29 => ?_) (fun c29 => by exfalso; omega)
              exact c_ps2 hn hT hpz hp8 hi h2
      · try (exfalso; omega)
        all_goals
          refine xr_go hc rfl rfl ?_
          refine xr_go hc rfl rfl ?_
          refine xr_icmp_eq hc rfl (by omega) (by decide) (fun c30 => ?_) (fun c30 => ?_)
          · try (exfalso; omega)
            all_goals
              refine xr_go hc rfl rfl ?_
              refine xr_go hc rfl rfl ?_
              refine xr_s1_4 hc rfl rfl rfl ?_
              refine xr_go hc rfl rfl ?_
              refine xr_if_lt hc rfl (by omega) (fun c31 => ?_) (fun c31 => ?_)
              · exfalso; omega
              · skip
                refine xr_go hc rfl rfl ?_
                refine xr_go hc rfl rfl ?_
                refine xr_icmp_ge hc rfl (by omega) (by decide) (fun c32 => ?_) (fun c32 => ?_)
                · exfalso; omega
                · skip
                  refine xr_go hc rfl rfl ?_
                  refine xr_if_ne hc rfl (by decide) (fun c33 => ?_) (fun c33 => by exfalso; omega)
                  exact c_ps2 hn hT hpz hp8 hi h2
          · try (exfalso; omega)
            all_goals
              refine xr_go hc rfl rfl ?_
              refine xr_go hc rfl rfl ?_
              refine xr_icmp_eq hc rfl (by omega) (by decide) (fun c34 => ?_) (fun c34 => ?_)
              · try (exfalso; omega)
                all_goals
                  refine xr_go hc rfl rfl ?_
                  refine xr_go hc rfl rfl ?_
                  refine xr_s1_4 hc rfl rfl rfl ?_
                  refine xr_go hc rfl rfl ?_
                  refine xr_if_lt hc rfl (by omega) (fun c35 => ?_) (fun c35 => ?_)
                  · exfalso; omega
                  · skip
                    refine xr_go hc rfl rfl ?_
                    refine xr_go hc rfl rfl ?_
                    refine xr_icmp_ge hc rfl (by omega) (by decide) (fun c36 => ?_) (fun c36 => ?_)
                    · exfalso; omega
                    · skip
                      refine xr_go hc rfl rfl ?_
                      refine xr_if_ne hc rfl (by decide) (fun c37 => ?_) (fun c37 => by exfalso; omega)
                      exact c_ps2 hn hT hpz hp8 hi h2
              · try (exfalso; omega)
                all_goals
                  refine xr_go hc rfl rfl ?_
                  refine xr_go hc rfl rfl ?_
                  refine xr_icmp_ne hc rfl (by omega) (by decide) (fun c38 => ?_) (fun c38 => ?_)
                  · try (exfalso; omega)
                    all_goals
                      refine xr_go hc rfl rfl ?_
                      refine xr_s1_4 hc rfl rfl rfl ?_
                      refine xr_go hc rfl rfl ?_
                      refine xr_if_lt hc rfl (by omega) (fun c39 => ?_) (fun c39 => ?_)
                      · exfalso; omega
                      · skip
                        refine xr_go hc rfl rfl ?_
                        refine xr_go hc rfl rfl ?_
                        refine xr_icmp_ge hc rfl (by omega) (by decide) (fun c40 => ?_) (fun c40 => ?_)
                        · exfalso; omega
                        · skip
                          refine xr_go hc rfl rfl ?_
                          refine xr_if_ne hc rfl (by decide) (fun c41 => ?_) (fun c41 => by exfalso; omega)
                          exact c_ps2 hn hT hpz hp8 hi h2
                  · try (exfalso; omega)
                    all_goals
                      refine xr_go hc rfl rfl ?_
                      refine xr_go hc rfl rfl ?_
                      refine xr_s1_4 hc rfl rfl rfl ?_
                      refine xr_go hc rfl rfl ?_
                      refine xr_if_lt hc rfl (by omega) (fun c42 => ?_) (fun c42 => ?_)
                      · exfalso; omega
                      · skip
                        refine xr_go hc rfl rfl ?_
                        refine xr_go hc rfl rfl ?_
                        refine xr_icmp_ge hc rfl (by omega) (by decide) (fun c43 => ?_) (fun c43 => ?_)
                        · exfalso; omega
                        · skip
                          refine xr_go hc rfl rfl ?_
                          refine xr_if_ne hc rfl (by decide) (fun c44 => ?_) (fun c44 => by exfalso; omega)
                          exact c_ps2 hn hT hpz hp8 hi h2

set_option maxRecDepth 20000 in
theorem c_pS1w {n : Nat} {M : ew_Mem} {B : Nat → Int} {z p : Nat} (hn : 59 ≤ n) (hT : s_TP B z M) (hpz : p ≤ 190) (hp8 : p ≤ 80) {i : Nat} (hi : i < 27) (h : s_isL (s_hr B z p)) (hk : ¬ s_kd (s_hr B z p) = -1) (h2 : ¬ s_dg9 (s_hr B z (p + 1))) : ew_VM 51 [(2, 27), (0, (i : Int))] n (s_Q M p 0) n (s_Q (ew_wr (s_wm (ew_wr (ew_wr (ew_wr M 30 i (s_hr B z p)) 29 i (p : Int)) 31 (3 * i + 0) (s_nm B z 6 (p + 1) 0).2) i 0 0) 27 5 ((i : Int) + 1)) (p + 1) 1) := by
  obtain ⟨hp0, hz1, hz8, hB28, hB⟩ := id hT
  have hp : ew_Pm (s_Q M p 0) := s_Q_pm hp0
  have hkx : ¬ s_kd (s_hr B z p) = -1 → ¬ (s_hr B z p = 110 ∨ s_hr B z p = 97 ∨ s_hr B z p = 111 ∨ s_hr B z p = 105) := by
    intro q g
    apply q
    rcases g with g | g | g | g <;> rw [g] <;> decide
  have hbd := s_hr_bd (B := B) (z := z) hz8 hB p
  have hkb := s_kd_bd (s_hr B z p)
  have hq1 := s_nm_le (B := B) (z := z) 6 (p + 1) 0
  have hc := ew_c_51
  show ew_X 51 0 [(2, 27), (0, (i : Int)), (5, 0), (5, 0), (5, 0)] [] n _ _
  refine xr_go hc rfl rfl ?_
  refine xr_v_1 hc rfl rfl (ew_own_p hn rfl) (c_byteHere hn hT hpz) ?_
  refine xr_s1_2 hc rfl rfl rfl ?_
  refine xr_go hc rfl rfl ?_
  refine xr_s_1 hc rfl rfl (c_kindOf (by omega)) ?_
  refine xr_go hc rfl rfl ?_
  refine xr_icmp_eq hc rfl (by omega) (by decide) (fun c1 => ?_) (fun c1 => ?_)
  · try (exfalso; omega)
    all_goals
      refine xr_go hc rfl rfl ?_
      refine xr_s1_3 hc rfl rfl rfl ?_
      refine xr_go hc rfl rfl ?_
      refine xr_go hc rfl rfl ?_
      refine xr_icmp_eq hc rfl (by omega) (by decide) (fun c2 => ?_) (fun c2 => ?_)
      · try (exfalso; omega)
        all_goals
          refine xr_go hc rfl rfl ?_
          refine xr_go hc rfl rfl ?_
          refine xr_s1_4 hc rfl rfl rfl ?_
          refine xr_go hc rfl rfl ?_
          refine xr_if_lt hc rfl (by omega) (fun c3 => ?_) (fun c3 => ?_)
          · exfalso; omega
          · skip
            refine xr_go hc rfl rfl ?_
            refine xr_go hc rfl rfl ?_
            refine xr_icmp_ge hc rfl (by omega) (by decide) (fun c4 => ?_) (fun c4 => ?_)
            · exfalso; omega
            · skip
              refine xr_go hc rfl rfl ?_
              refine xr_if_ne hc rfl (by decide) (fun c5 => by exfalso; omega) (fun c5 => ?_)
              refine xr_go hc rfl rfl ?_
              refine xr_if_ne hc rfl (by decide) (fun c6 => ?_) (fun c6 => by exfalso; omega)
              exact c_ps1w hn hT hpz hp8 hi h2
      · try (exfalso; omega)
        all_goals
          refine xr_go hc rfl rfl ?_
          refine xr_go hc rfl rfl ?_
          refine xr_icmp_eq hc rfl (by omega) (by decide) (fun c7 => ?_) (fun c7 => ?_)
          · try (exfalso; omega)
            all_goals
              refine xr_go hc rfl rfl ?_
              refine xr_go hc rfl rfl ?_
              refine xr_s1_4 hc rfl rfl rfl ?_
              refine xr_go hc rfl rfl ?_
              refine xr_if_lt hc rfl (by omega) (fun c8 => ?_) (fun c8 => ?_)
              · exfalso; omega
              · skip
                refine xr_go hc rfl rfl ?_
                refine xr_go hc rfl rfl ?_
                refine xr_icmp_ge hc rfl (by omega) (by decide) (fun c9 => ?_) (fun c9 => ?_)
                · exfalso; omega
                · skip
                  refine xr_go hc rfl rfl ?_
                  refine xr_if_ne hc rfl (by decide) (fun c10 => by exfalso; omega) (fun c10 => ?_)
                  refine xr_go hc rfl rfl ?_
                  refine xr_if_ne hc rfl (by decide) (fun c11 => ?_) (fun c11 => by exfalso; omega)
                  exact c_ps1w hn hT hpz hp8 hi h2
          · try (exfalso; omega)
            all_goals
              refine xr_go hc rfl rfl ?_
              refine xr_go hc rfl rfl ?_
              refine xr_icmp_eq hc rfl (by omega) (by decide) (fun c12 => ?_) (fun c12 => ?_)
              · try (exfalso; omega)
                all_goals
                  refine xr_go hc rfl rfl ?_
                  refine xr_go hc rfl rfl ?_
                  refine xr_s1_4 hc rfl rfl rfl ?_
                  refine xr_go hc rfl rfl ?_
                  refine xr_if_lt hc rfl (by omega) (fun c13 => ?_) (fun c13 => ?_)
                  · exfalso; omega
                  · skip
                    refine xr_go hc rfl rfl ?_
                    refine xr_go hc rfl rfl ?_
                    refine xr_icmp_ge hc rfl (by omega) (by decide) (fun c14 => ?_) (fun c14 => ?_)
                    · exfalso; omega
                    · skip
                      refine xr_go hc rfl rfl ?_
                      refine xr_if_ne hc rfl (by decide) (fun c15 => by exfalso; omega) (fun c15 => ?_)
                      refine xr_go hc rfl rfl ?_
                      refine xr_if_ne hc rfl (by decide) (fun c16 => ?_) (fun c16 => by exfalso; omega)
                      exact c_ps1w hn hT hpz hp8 hi h2
              · try (exfalso; omega)
                all_goals
                  refine xr_go hc rfl rfl ?_
                  refine xr_go hc rfl rfl ?_
                  refine xr_icmp_ne hc rfl (by omega) (by decide) (fun c17 => ?_) (fun c17 => ?_)
                  · try (exfalso; omega)
                    all_goals
                      refine xr_go hc rfl rfl ?_
                      refine xr_s1_4 hc rfl rfl rfl ?_
                      refine xr_go hc rfl rfl ?_
                      refine xr_if_lt hc rfl (by omega) (fun c18 => ?_) (fun c18 => ?_)
                      · exfalso; omega
                      · skip
                        refine xr_go hc rfl rfl ?_
                        refine xr_go hc rfl rfl ?_
                        refine xr_icmp_ge hc rfl (by omega) (by decide) (fun c19 => ?_) (fun c19 => ?_)
                        · exfalso; omega
                        · skip
                          refine xr_go hc rfl rfl ?_
                          refine xr_if_ne hc rfl (by decide) (fun c20 => by exfalso; omega) (fun c20 => ?_)
                          refine xr_go hc rfl rfl ?_
                          refine xr_if_ne hc rfl (by decide) (fun c21 => by exfalso; omega) (fun c21 => ?_)
                          refine xr_go hc rfl rfl ?_
                          refine xr_go hc rfl rfl ?_
                          refine xr_pfB (A := 27) rfl hc rfl (ew_own_p hn rfl) (by decide) ?_
                          refine xr_ret hc rfl rfl ?_
                          exfalso; omega
                  · try (exfalso; omega)
                    all_goals
                      refine xr_go hc rfl rfl ?_
                      refine xr_go hc rfl rfl ?_
                      refine xr_s1_4 hc rfl rfl rfl ?_
                      refine xr_go hc rfl rfl ?_
                      refine xr_if_lt hc rfl (by omega) (fun c22 => ?_) (fun c22 => ?_)
                      · exfalso; omega
                      · skip
                        refine xr_go hc rfl rfl ?_
                        refine xr_go hc rfl rfl ?_
                        refine xr_icmp_ge hc rfl (by omega) (by decide) (fun c23 => ?_) (fun c23 => ?_)
                        · exfalso; omega
                        · skip
                          refine xr_go hc rfl rfl ?_
                          refine xr_if_ne hc rfl (by decide) (fun c24 => by exfalso; omega) (fun c24 => ?_)
                          refine xr_go hc rfl rfl ?_
                          refine xr_if_ne hc rfl (by decide) (fun c25 => ?_) (fun c25 => by exfalso; omega)
                          exact c_ps1w hn hT hpz hp8 hi h2
  · try (exfalso; omega)
    all_goals
      refine xr_go hc rfl rfl ?_
      refine xr_go hc rfl rfl ?_
      refine xr_s1_3 hc rfl rfl rfl ?_
      refine xr_go hc rfl rfl ?_
      refine xr_go hc rfl rfl ?_
      refine xr_icmp_eq hc rfl (by omega) (by decide) (fun c26 => ?_) (fun c26 => ?_)
      · try (exfalso; omega)
        all_goals
          refine xr_go hc rfl rfl ?_
          refine xr_go hc rfl rfl ?_
          refine xr_s1_4 hc rfl rfl rfl ?_
          refine xr_go hc rfl rfl ?_
          refine xr_if_lt hc rfl (by omega) (fun c27 => ?_) (fun c27 => ?_)
          · exfalso; omega
          · skip
            refine xr_go hc rfl rfl ?_
            refine xr_go hc rfl rfl ?_
            refine xr_icmp_ge hc rfl (by omega) (by decide) (fun c28 => ?_) (fun c28 => ?_)
            · exfalso; omega
            · skip
              refine xr_go hc rfl rfl ?_
              refine xr_if_ne hc rfl (by decide) (fun c29 => ?_) (fun c29 => by exfalso; omega)
              exact c_ps1w hn hT hpz hp8 hi h2
      · try (exfalso; omega)
        all_goals
          refine xr_go hc rfl rfl ?_
          refine xr_go hc rfl rfl ?_
          refine xr_icmp_eq hc rfl (by omega) (by decide) (fun c30 => ?_) (fun c30 => ?_)
          · try (exfalso; omega)
            all_goals
              refine xr_go hc rfl rfl ?_
              refine xr_go hc rfl rfl ?_
              refine xr_s1_4 hc rfl rfl rfl ?_
              refine xr_go hc rfl rfl ?_
              refine xr_if_lt hc rfl (by omega) (fun c31 => ?_) (fun c31 => ?_)
              · exfalso; omega
              · skip
                refine xr_go hc rfl rfl ?_
                refine xr_go hc rfl rfl ?_
                refine xr_icmp_ge hc rfl (by omega) (by decide) (fun c32 => ?_) (fun c32 => ?_)
                · exfalso; omega
                · skip
                  refine xr_go hc rfl rfl ?_
                  refine xr_if_ne hc rfl (by decide) (fun c33 => ?_) (fun c33 => by exfalso; omega)
                  exact c_ps1w hn hT hpz hp8 hi h2
          · try (exfalso; omega)
            all_goals
              refine xr_go hc rfl rfl ?_
              refine xr_go hc rfl rfl ?_
              refine xr_icmp_eq hc rfl (by omega) (by decide) (fun c34 => ?_) (fun c34 => ?_)
              · try (exfalso; omega)
                all_goals
                  refine xr_go hc rfl rfl ?_
                  refine xr_go hc rfl rfl ?_
                  refine xr_s1_4 hc rfl rfl rfl ?_
                  refine xr_go hc rfl rfl ?_
                  refine xr_if_lt hc rfl (by omega) (fun c35 => ?_) (fun c35 => ?_)
                  · exfalso; omega
                  · skip
                    refine xr_go hc rfl rfl ?_
                    refine xr_go hc rfl rfl ?_
                    refine xr_icmp_ge hc rfl (by omega) (by decide) (fun c36 => ?_) (fun c36 => ?_)
                    · exfalso; omega
                    · skip
                      refine xr_go hc rfl rfl ?_
                      refine xr_if_ne hc rfl (by decide) (fun c37 => ?_) (fun c37 => by exfalso; omega)
                      exact c_ps1w hn hT hpz hp8 hi h2
              · try (exfalso; omega)
                all_goals
                  refine xr_go hc rfl rfl ?_
                  refine xr_go hc rfl rfl ?_
                  refine xr_icmp_ne hc rfl (by omega) (by decide) (fun c38 => ?_) (fun c38 => ?_)
                  · try (exfalso; omega)
                    all_goals
                      refine xr_go hc rfl rfl ?_
                      refine xr_s1_4 hc rfl rfl rfl ?_
                      refine xr_go hc rfl rfl ?_
                      refine xr_if_lt hc rfl (by omega) (fun c39 => ?_) (fun c39 => ?_)
                      · exfalso; omega
                      · skip
                        refine xr_go hc rfl rfl ?_
                        refine xr_go hc rfl rfl ?_
                        refine xr_icmp_ge hc rfl (by omega) (by decide) (fun c40 => ?_) (fun c40 => ?_)
                        · exfalso; omega
                        · skip
                          refine xr_go hc rfl rfl ?_
                          refine xr_if_ne hc rfl (by decide) (fun c41 => ?_) (fun c41 => by exfalso; omega)
                          exact c_ps1w hn hT hpz hp8 hi h2
                  · try (exfalso; omega)
                    all_goals
                      refine xr_go hc rfl rfl ?_
                      refine xr_go hc rfl rfl ?_
                      refine xr_s1_4 hc rfl rfl rfl ?_
                      refine xr_go hc rfl rfl ?_
                      refine xr_if_lt hc rfl (by omega) (fun c42 => ?_) (fun c42 => ?_)
                      · exfalso; omega
                      · skip
                        refine xr_go hc rfl rfl ?_
                        refine xr_go hc rfl rfl ?_
                        refine xr_icmp_ge hc rfl (by omega) (by decide) (fun c43 => ?_) (fun c43 => ?_)
                        · exfalso; omega
                        · skip
                          refine xr_go hc rfl rfl ?_
                          refine xr_if_ne hc rfl (by decide) (fun c44 => ?_) (fun c44 => by exfalso; omega)
                          exact c_ps1w hn hT hpz hp8 hi h2

set_option maxRecDepth 20000 in
theorem c_pS3 {n : Nat} {M : ew_Mem} {B : Nat → Int} {z p : Nat} (hn : 59 ≤ n) (hT : s_TP B z M) (hpz : p ≤ 190) (hp8 : p ≤ 80) {i : Nat} (hi : i < 27) (h : s_isL (s_hr B z p)) (hk : ¬ s_kd (s_hr B z p) = -1) (h2 : s_dg9 (s_hr B z (p + 1))) : ew_VM 51 [(2, 27), (0, (i : Int))] n (s_Q M p 0) n (s_Q (ew_wr (s_wm (ew_wr (ew_wr (ew_wr M 30 i (s_hr B z p)) 29 i (p : Int)) 31 (3 * i + 0) (s_nm B z 6 (p + 1) 0).2) i (s_wh B z (s_nm B z 6 (p + 1) 0).1).2.2.1 (s_wh B z (s_nm B z 6 (p + 1) 0).1).2.2.2) 27 5 ((i : Int) + 1)) (s_wh B z (s_nm B z 6 (p + 1) 0).1).2.1 (if (s_wh B z (s_nm B z 6 (p + 1) 0).1).1 = true then 0 else 1)) := by
  obtain ⟨hp0, hz1, hz8, hB28, hB⟩ := id hT
  have hp : ew_Pm (s_Q M p 0) := s_Q_pm hp0
  have hkx : ¬ s_kd (s_hr B z p) = -1 → ¬ (s_hr B z p = 110 ∨ s_hr B z p = 97 ∨ s_hr B z p = 111 ∨ s_hr B z p = 105) := by
    intro q g
    apply q
    rcases g with g | g | g | g <;> rw [g] <;> decide
  have hbd := s_hr_bd (B := B) (z := z) hz8 hB p
  have hkb := s_kd_bd (s_hr B z p)
  have hq1 := s_nm_le (B := B) (z := z) 6 (p + 1) 0
  have hc := ew_c_51
  show ew_X 51 0 [(2, 27), (0, (i : Int)), (5, 0), (5, 0), (5, 0)] [] n _ _
  refine xr_go hc rfl rfl ?_
  refine xr_v_1 hc rfl rfl (ew_own_p hn rfl) (c_byteHere hn hT hpz) ?_
  refine xr_s1_2 hc rfl rfl rfl ?_
  refine xr_go hc rfl rfl ?_
  refine xr_s_1 hc rfl rfl (c_kindOf (by omega)) ?_
  refine xr_go hc rfl rfl ?_
  refine xr_icmp_eq hc rfl (by omega) (by decide) (fun c1 => ?_) (fun c1 => ?_)
  · try (exfalso; omega)
    all_goals
      refine xr_go hc rfl rfl ?_
      refine xr_s1_3 hc rfl rfl rfl ?_
      refine xr_go hc rfl rfl ?_
      refine xr_go hc rfl rfl ?_
      refine xr_icmp_eq hc rfl (by omega) (by decide) (fun c2 => ?_) (fun c2 => ?_)
      · try (exfalso; omega)
        all_goals
          refine xr_go hc rfl rfl ?_
          refine xr_go hc rfl rfl ?_
          refine xr_s1_4 hc rfl rfl rfl ?_
          refine xr_go hc rfl rfl ?_
          refine xr_if_lt hc rfl (by omega) (fun c3 => ?_) (fun c3 => ?_)
          · exfalso; omega
          · skip
            refine xr_go hc rfl rfl ?_
            refine xr_go hc rfl rfl ?_
            refine xr_icmp_ge hc rfl (by omega) (by decide) (fun c4 => ?_) (fun c4 => ?_)
            · exfalso; omega
            · skip
              refine xr_go hc rfl rfl ?_
              refine xr_if_ne hc rfl (by decide) (fun c5 => by exfalso; omega) (fun c5 => ?_)
              refine xr_go hc rfl rfl ?_
              refine xr_if_ne hc rfl (by decide) (fun c6 => ?_) (fun c6 => by exfalso; omega)
              exact c_ps3 hn hT hpz hp8 hi h2
      · try (exfalso; omega)
        all_goals
          refine xr_go hc rfl rfl ?_
          refine xr_go hc rfl rfl ?_
          refine xr_icmp_eq hc rfl (by omega) (by decide) (fun c7 => ?_) (fun c7 => ?_)
          · try (exfalso; omega)
            all_goals
              refine xr_go hc rfl rfl ?_
              refine xr_go hc rfl rfl ?_
              refine xr_s1_4 hc rfl rfl rfl ?_
              refine xr_go hc rfl rfl ?_
              refine xr_if_lt hc rfl (by omega) (fun c8 => ?_) (fun c8 => ?_)
              · exfalso; omega
              · skip
                refine xr_go hc rfl rfl ?_
                refine xr_go hc rfl rfl ?_
                refine xr_icmp_ge hc rfl (by omega) (by decide) (fun c9 => ?_) (fun c9 => ?_)
                · exfalso; omega
                · skip
                  refine xr_go hc rfl rfl ?_
                  refine xr_if_ne hc rfl (by decide) (fun c10 => by exfalso; omega) (fun c10 => ?_)
                  refine xr_go hc rfl rfl ?_
                  refine xr_if_ne hc rfl (by decide) (fun c11 => ?_) (fun c11 => by exfalso; omega)
                  exact c_ps3 hn hT hpz hp8 hi h2
          · try (exfalso; omega)
            all_goals
              refine xr_go hc rfl rfl ?_
              refine xr_go hc rfl rfl ?_
              refine xr_icmp_eq hc rfl (by omega) (by decide) (fun c12 => ?_) (fun c12 => ?_)
              · try (exfalso; omega)
                all_goals
                  refine xr_go hc rfl rfl ?_
                  refine xr_go hc rfl rfl ?_
                  refine xr_s1_4 hc rfl rfl rfl ?_
                  refine xr_go hc rfl rfl ?_
                  refine xr_if_lt hc rfl (by omega) (fun c13 => ?_) (fun c13 => ?_)
                  · exfalso; omega
                  · skip
                    refine xr_go hc rfl rfl ?_
                    refine xr_go hc rfl rfl ?_
                    refine xr_icmp_ge hc rfl (by omega) (by decide) (fun c14 => ?_) (fun c14 => ?_)
                    · exfalso; omega
                    · skip
                      refine xr_go hc rfl rfl ?_
                      refine xr_if_ne hc rfl (by decide) (fun c15 => by exfalso; omega) (fun c15 => ?_)
                      refine xr_go hc rfl rfl ?_
                      refine xr_if_ne hc rfl (by decide) (fun c16 => ?_) (fun c16 => by exfalso; omega)
                      exact c_ps3 hn hT hpz hp8 hi h2
              · try (exfalso; omega)
                all_goals
                  refine xr_go hc rfl rfl ?_
                  refine xr_go hc rfl rfl ?_
                  refine xr_icmp_ne hc rfl (by omega) (by decide) (fun c17 => ?_) (fun c17 => ?_)
                  · try (exfalso; omega)
                    all_goals
                      refine xr_go hc rfl rfl ?_
                      refine xr_s1_4 hc rfl rfl rfl ?_
                      refine xr_go hc rfl rfl ?_
                      refine xr_if_lt hc rfl (by omega) (fun c18 => ?_) (fun c18 => ?_)
                      · exfalso; omega
                      · skip
                        refine xr_go hc rfl rfl ?_
                        refine xr_go hc rfl rfl ?_
                        refine xr_icmp_ge hc rfl (by omega) (by decide) (fun c19 => ?_) (fun c19 => ?_)
                        · exfalso; omega
                        · skip
                          refine xr_go hc rfl rfl ?_
                          refine xr_if_ne hc rfl (by decide) (fun c20 => by exfalso; omega) (fun c20 => ?_)
                          refine xr_go hc rfl rfl ?_
                          refine xr_if_ne hc rfl (by decide) (fun c21 => by exfalso; omega) (fun c21 => ?_)
                          refine xr_go hc rfl rfl ?_
                          refine xr_go hc rfl rfl ?_
                          refine xr_pfB (A := 27) rfl hc rfl (ew_own_p hn rfl) (by decide) ?_
                          refine xr_ret hc rfl rfl ?_
                          exfalso; omega
                  · try (exfalso; omega)
                    all_goals
                      refine xr_go hc rfl rfl ?_
                      refine xr_go hc rfl rfl ?_
                      refine xr_s1_4 hc rfl rfl rfl ?_
                      refine xr_go hc rfl rfl ?_
                      refine xr_if_lt hc rfl (by omega) (fun c22 => ?_) (fun c22 => ?_)
                      · exfalso; omega
                      · skip
                        refine xr_go hc rfl rfl ?_
                        refine xr_go hc rfl rfl ?_
                        refine xr_icmp_ge hc rfl (by omega) (by decide) (fun c23 => ?_) (fun c23 => ?_)
                        · exfalso; omega
                        · skip
                          refine xr_go hc rfl rfl ?_
                          refine xr_if_ne hc rfl (by decide) (fun c24 => by exfalso; omega) (fun c24 => ?_)
                          refine xr_go hc rfl rfl ?_
                          refine xr_if_ne hc rfl (by decide) (fun c25 => ?_) (fun c25 => by exfalso; omega)
                          exact c_ps3 hn hT hpz hp8 hi h2
  · try (exfalso; omega)
    all_goals
      refine xr_go hc rfl rfl ?_
      refine xr_go hc rfl rfl ?_
      refine xr_s1_3 hc rfl rfl rfl ?_
      refine xr_go hc rfl rfl ?_
      refine xr_go hc rfl rfl ?_
      refine xr_icmp_eq hc rfl (by omega) (by decide) (fun c26 => ?_) (fun c26 => ?_)
      · try (exfalso; omega)
        all_goals
          refine xr_go hc rfl rfl ?_
          refine xr_go hc rfl rfl ?_
          refine xr_s1_4 hc rfl rfl rfl ?_
          refine xr_go hc rfl rfl ?_
          refine xr_if_lt hc rfl (by omega) (fun c27 => ?_) (fun c27 => ?_)
          · exfalso; omega
          · skip
            refine xr_go hc rfl rfl ?_
            refine xr_go hc rfl rfl ?_
            refine xr_icmp_ge hc rfl (by omega) (by decide) (fun c28 => ?_) (fun c28 => ?_)
            · exfalso; omega
            · skip
              refine xr_go hc rfl rfl ?_
              refine xr_if_ne hc rfl (by decide) (fun c29 => ?_) (fun c29 => by exfalso; omega)
              exact c_ps3 hn hT hpz hp8 hi h2
      · try (exfalso; omega)
        all_goals
          refine xr_go hc rfl rfl ?_
          refine xr_go hc rfl rfl ?_
          refine xr_icmp_eq hc rfl (by omega) (by decide) (fun c30 => ?_) (fun c30 => ?_)
          · try (exfalso; omega)
            all_goals
              refine xr_go hc rfl rfl ?_
              refine xr_go hc rfl rfl ?_
              refine xr_s1_4 hc rfl rfl rfl ?_
              refine xr_go hc rfl rfl ?_
              refine xr_if_lt hc rfl (by omega) (fun c31 => ?_) (fun c31 => ?_)
              · exfalso; omega
              · skip
                refine xr_go hc rfl rfl ?_
                refine xr_go hc rfl rfl ?_
                refine xr_icmp_ge hc rfl (by omega) (by decide) (fun c32 => ?_) (fun c32 => ?_)
                · exfalso; omega
                · skip
                  refine xr_go hc rfl rfl ?_
                  refine xr_if_ne hc rfl (by decide) (fun c33 => ?_) (fun c33 => by exfalso; omega)
                  exact c_ps3 hn hT hpz hp8 hi h2
          · try (exfalso; omega)
            all_goals
              refine xr_go hc rfl rfl ?_
              refine xr_go hc rfl rfl ?_
              refine xr_icmp_eq hc rfl (by omega) (by decide) (fun c34 => ?_) (fun c34 => ?_)
              · try (exfalso; omega)
                all_goals
                  refine xr_go hc rfl rfl ?_
                  refine xr_go hc rfl rfl ?_
                  refine xr_s1_4 hc rfl rfl rfl ?_
                  refine xr_go hc rfl rfl ?_
                  refine xr_if_lt hc rfl (by omega) (fun c35 => ?_) (fun c35 => ?_)
                  · exfalso; omega
                  · skip
                    refine xr_go hc rfl rfl ?_
                    refine xr_go hc rfl rfl ?_
                    refine xr_icmp_ge hc rfl (by omega) (by decide) (fun c36 => ?_) (fun c36 => ?_)
                    · exfalso; omega
                    · skip
                      refine xr_go hc rfl rfl ?_
                      refine xr_if_ne hc rfl (by decide) (fun c37 => ?_) (fun c37 => by exfalso; omega)
                      exact c_ps3 hn hT hpz hp8 hi h2
              · try (exfalso; omega)
                all_goals
                  refine xr_go hc rfl rfl ?_
                  refine xr_go hc rfl rfl ?_
                  refine xr_icmp_ne hc rfl (by omega) (by decide) (fun c38 => ?_) (fun c38 => ?_)
                  · try (exfalso; omega)
                    all_goals
                      refine xr_go hc rfl rfl ?_
                      refine xr_s1_4 hc rfl rfl rfl ?_
                      refine xr_go hc rfl rfl ?_
                      refine xr_if_lt hc rfl (by omega) (fun c39 => ?_) (fun c39 => ?_)
                      · exfalso; omega
                      · skip
                        refine xr_go hc rfl rfl ?_
                        refine xr_go hc rfl rfl ?_
                        refine xr_icmp_ge hc rfl (by omega) (by decide) (fun c40 => ?_) (fun c40 => ?_)
                        · exfalso; omega
                        · skip
                          refine xr_go hc rfl rfl ?_
                          refine xr_if_ne hc rfl (by decide) (fun c41 => ?_) (fun c41 => by exfalso; omega)
                          exact c_ps3 hn hT hpz hp8 hi h2
                  · try (exfalso; omega)
                    all_goals
                      refine xr_go hc rfl rfl ?_
                      refine xr_go hc rfl rfl ?_
                      refine xr_s1_4 hc rfl rfl rfl ?_
                      refine xr_go hc rfl rfl ?_
                      refine xr_if_lt hc rfl (by omega) (fun c42 => ?_) (fun c42 => ?_)
                      · exfalso; omega
                      · skip
                        refine xr_go hc rfl rfl ?_
                        refine xr_go hc rfl rfl ?_
                        refine xr_icmp_ge hc rfl (by omega) (by decide) (fun c43 => ?_) (fun c43 => ?_)
                        · exfalso; omega
                        · skip
                          refine xr_go hc rfl rfl ?_
                          refine xr_if_ne hc rfl (by decide) (fun c44 => ?_) (fun c44 => by exfalso; omega)
                          exact c_ps3 hn hT hpz hp8 hi h2

/-- behind a statement -/
theorem c_pS {n : Nat} {M : ew_Mem} {B : Nat → Int} {z p : Nat} (hn : 59 ≤ n) (hT : s_TP B z M) (hpz : p ≤ 190) (hp8 : p ≤ 80) {i : Nat} (hi : i < 27) : ∃ M2, ew_VM 51 [(2, 27), (0, (i : Int))] n (s_Q M p 0) n (s_Q M2 (s_st B z p).2.1 (if (s_st B z p).1 = true then 0 else 1)) ∧ s_TP B z M2 ∧ s_fr i M M2 ∧ (∀ a j : Nat, (a = 29 ∨ a = 30) → ¬ j = i → M2 a j = M a j) ∧ ((s_st B z p).1 = true → M2 27 5 = (i : Int) + 1 ∧ M2 29 i = (p : Int) ∧ M2 30 i = s_hr B z p ∧ M2 31 (3 * i + 0) = (s_st B z p).2.2.1 ∧ (¬ s_kd (s_hr B z p) = -1 → M2 31 (3 * i + 1) = (s_st B z p).2.2.2.1 ∧ M2 31 (3 * i + 2) = (s_st B z p).2.2.2.2)) := by
  by_cases h : s_isL (s_hr B z p)
  · by_cases h2 : s_dg9 (s_hr B z (p + 1))
    · by_cases hk : s_kd (s_hr B z p) = -1
      · have e : s_st B z p = (true, (s_nm B z 6 (p + 1) 0).1, (s_nm B z 6 (p + 1) 0).2, 0, 0) := by
          unfold s_st
          rw [if_pos h, if_pos h2, if_pos hk]
        rw [e]
        refine ⟨_, c_pS2 hn hT hpz hp8 hi h hk h2, s_TP_wr (s_TP_wr (s_TP_wr (s_TP_wr hT (by omega)) (by omega)) (by omega)) (by omega), fun a j g1 g2 g3 => ?_, fun a j g1 g2 => ?_, fun _ => ⟨?_, ?_, ?_, ?_, fun q => absurd hk q⟩⟩
        · first
            | rfl
            | ((repeat first | rw [s_eq_rd] | rw [s_ne_rd (by omega)] | rw [s_ne_ri (by omega)] | rw [s_nr (by omega)]); done)
        · first
            | rfl
            | ((repeat first | rw [s_eq_rd] | rw [s_ne_rd (by omega)] | rw [s_ne_ri (by omega)] | rw [s_nr (by omega)]); done)
        · first
            | rfl
            | ((repeat first | rw [s_eq_rd] | rw [s_ne_rd (by omega)] | rw [s_ne_ri (by omega)] | rw [s_nr (by omega)]); done)
        · first
            | rfl
            | ((repeat first | rw [s_eq_rd] | rw [s_ne_rd (by omega)] | rw [s_ne_ri (by omega)] | rw [s_nr (by omega)]); done)
        · first
            | rfl
            | ((repeat first | rw [s_eq_rd] | rw [s_ne_rd (by omega)] | rw [s_ne_ri (by omega)] | rw [s_nr (by omega)]); done)
        · first
            | rfl
            | ((repeat first | rw [s_eq_rd] | rw [s_ne_rd (by omega)] | rw [s_ne_ri (by omega)] | rw [s_nr (by omega)]); done)
      · have e : s_st B z p = ((s_wh B z (s_nm B z 6 (p + 1) 0).1).1, (s_wh B z (s_nm B z 6 (p + 1) 0).1).2.1, (s_nm B z 6 (p + 1) 0).2, (s_wh B z (s_nm B z 6 (p + 1) 0).1).2.2) := by
          unfold s_st
          rw [if_pos h, if_pos h2, if_neg hk]
        rw [e]
        refine ⟨_, c_pS3 hn hT hpz hp8 hi h hk h2, s_TP_wr (s_TP_wr (s_TP_wr (s_TP_wr (s_TP_wr (s_TP_wr hT (by omega)) (by omega)) (by omega)) (by omega)) (by omega)) (by omega), fun a j g1 g2 g3 => ?_, fun a j g1 g2 => ?_, fun _ => ⟨?_, ?_, ?_, ?_, fun q => ⟨?_, ?_⟩⟩⟩
        · unfold s_wm
          first
            | rfl
            | ((repeat first | rw [s_eq_rd] | rw [s_ne_rd (by omega)] | rw [s_ne_ri (by omega)] | rw [s_nr (by omega)]); done)
        · unfold s_wm
          first
            | rfl
            | ((repeat first | rw [s_eq_rd] | rw [s_ne_rd (by omega)] | rw [s_ne_ri (by omega)] | rw [s_nr (by omega)]); done)
        · unfold s_wm
          first
            | rfl
            | ((repeat first | rw [s_eq_rd] | rw [s_ne_rd (by omega)] | rw [s_ne_ri (by omega)] | rw [s_nr (by omega)]); done)
        · unfold s_wm
          first
            | rfl
            | ((repeat first | rw [s_eq_rd] | rw [s_ne_rd (by omega)] | rw [s_ne_ri (by omega)] | rw [s_nr (by omega)]); done)
        · unfold s_wm
          first
            | rfl
            | ((repeat first | rw [s_eq_rd] | rw [s_ne_rd (by omega)] | rw [s_ne_ri (by omega)] | rw [s_nr (by omega)]); done)
        · unfold s_wm
          first
            | rfl
            | ((repeat first | rw [s_eq_rd] | rw [s_ne_rd (by omega)] | rw [s_ne_ri (by omega)] | rw [s_nr (by omega)]); done)
        · unfold s_wm
          first
            | rfl
            | ((repeat first | rw [s_eq_rd] | rw [s_ne_rd (by omega)] | rw [s_ne_ri (by omega)] | rw [s_nr (by omega)]); done)
        · unfold s_wm
          first
            | rfl
            | ((repeat first | rw [s_eq_rd] | rw [s_ne_rd (by omega)] | rw [s_ne_ri (by omega)] | rw [s_nr (by omega)]); done)
    · by_cases hk : s_kd (s_hr B z p) = -1
      · have e : s_st B z p = (false, p + 1, 0, 0, 0) := by
          unfold s_st
          rw [if_pos h, if_neg h2]
        rw [e]
        refine ⟨_, c_pS1 hn hT hpz hp8 hi h hk h2, s_TP_wr (s_TP_wr (s_TP_wr (s_TP_wr hT (by omega)) (by omega)) (by omega)) (by omega), fun a j g1 g2 g3 => ?_, fun a j g1 g2 => ?_, fun q => by cases q⟩
        · first
            | rfl
            | ((repeat first | rw [s_eq_rd] | rw [s_ne_rd (by omega)] | rw [s_ne_ri (by omega)] | rw [s_nr (by omega)]); done)
        · first
            | rfl
            | ((repeat first | rw [s_eq_rd] | rw [s_ne_rd (by omega)] | rw [s_ne_ri (by omega)] | rw [s_nr (by omega)]); done)
      · have e : s_st B z p = (false, p + 1, 0, 0, 0) := by
          unfold s_st
          rw [if_pos h, if_neg h2]
        rw [e]
        refine ⟨_, c_pS1w hn hT hpz hp8 hi h hk h2, s_TP_wr (s_TP_wr (s_TP_wr (s_TP_wr (s_TP_wr (s_TP_wr hT (by omega)) (by omega)) (by omega)) (by omega)) (by omega)) (by omega), fun a j g1 g2 g3 => ?_, fun a j g1 g2 => ?_, fun q => by cases q⟩
        · unfold s_wm
          first
            | rfl
            | ((repeat first | rw [s_eq_rd] | rw [s_ne_rd (by omega)] | rw [s_ne_ri (by omega)] | rw [s_nr (by omega)]); done)
        · unfold s_wm
          first
            | rfl
            | ((repeat first | rw [s_eq_rd] | rw [s_ne_rd (by omega)] | rw [s_ne_ri (by omega)] | rw [s_nr (by omega)]); done)
  · have e : s_st B z p = (false, p, 0, 0, 0) := by
      unfold s_st
      rw [if_neg h]
    rw [e]
    exact ⟨M, c_pS0 hn hT hpz hp8 hi h, hT, fun a j _ _ _ => rfl, fun a j _ _ => rfl, fun q => by cases q⟩
