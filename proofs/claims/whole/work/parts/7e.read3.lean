/-! the class reads and does a text -/
theorem s_fr_tr {i j : Nat} {M M' M'' : ew_Mem} (hij : i ≤ j) (h : s_fr i M M') (h' : s_fr j M' M'') : s_fr i M M'' := fun a b g1 g2 g3 => (h' a b g1 (by omega) (by omega)).trans (h a b g1 g2 g3)
theorem s_fr_Q {i p : Nat} {f : Int} {M M' : ew_Mem} (h : s_fr i M M') : s_fr i M (s_Q M' p f) := fun a b g1 g2 g3 => (s_Q_o (by omega)).trans (h a b g1 g2 g3)
/-- what the reader leaves -/
def s_PR (B : Nat → Int) (z j i p : Nat) (M : ew_Mem) (r : Option ew_AV) (b : ew_Mem) : Prop := s_fr i M b ∧ ((s_ps B z j p).1 = true → r = some (0, 0) ∧ s_TL b i (s_ps B z j p).2.2 ∧ b 27 5 = (i : Int) + ((s_ps B z j p).2.2.length : Int)) ∧ ((s_ps B z j p).1 = false → r = some (0, -100 - ((s_ps B z j p).2.1 : Int)))
theorem s_dos_len : ∀ (T : List s_ST) (n : Nat) (X : ew_Mem), n ≤ (s_dos T n X).1
  | [], n, X => Nat.le_refl _
  | t :: T, n, X => by
    have h := s_dos_len T (s_do t n X).1 (s_do t n X).2
    have h2 : n ≤ (s_do t n X).1 := by
      unfold s_do
      repeat' split
      all_goals first
        | exact Nat.le_refl _
        | exact Nat.le_succ _
    exact Nat.le_trans h2 h
set_option maxRecDepth 20000 in
theorem c_ff_62 {n : Nat} {M : ew_Mem} {B : Nat → Int} {z p : Nat} (hn : 59 ≤ n) (hT : s_TP B z M) (hpz : p ≤ 190) {f : Int} (hf : f = 0 ∨ f = 1) {q1 q2 : ew_AV} : ew_X 50 62 [(2, 27), q1, q2] [] n (s_Q M p f) (fun r a b => r = some (0, if f = 1 ∨ p < z then -100 - (p : Int) else 0) ∧ a = n ∧ b = s_Q M p f) := by
  obtain ⟨hp0, hz1, hz8, hB28, hB⟩ := id hT
  have hc := ew_c_50
  refine xr_go hc rfl rfl ?_
  refine xr_gf0 (A := 27) rfl hc rfl (ew_own_p hn rfl) (show _ = _ from s_Q_f) ?_
  refine xr_if_ne hc rfl (by omega) (fun c1 => ?_) (fun c1 => ?_)
  · skip
    refine xr_go hc rfl rfl ?_
    refine xr_go hc rfl rfl ?_
    refine xr_gf0 (A := 27) rfl hc rfl (ew_own_p hn rfl) (show _ = _ from s_Q_p) ?_
    refine xr_go hc rfl rfl ?_
    refine xr_go hc rfl rfl ?_
    refine xr_ret hc rfl rfl ?_
    refine ⟨?_, rfl, rfl⟩
    first
      | (rw [if_pos (by omega)]; done)
      | (rw [if_neg (by omega)]; done)
      | (exfalso; omega)
  · skip
    refine xr_go hc rfl rfl ?_
    refine xr_gf0 (A := 27) rfl hc rfl (ew_own_p hn rfl) (show _ = _ from s_Q_p) ?_
    refine xr_go hc rfl rfl ?_
    refine xr_gf0 (A := 27) rfl hc rfl (ew_own_p hn rfl) (show _ = (z : Int) from (s_Q_o (by decide)).trans hz1) ?_
    refine xr_icmp_ge hc rfl (by omega) (by omega) (fun c2 => ?_) (fun c2 => ?_)
    · skip
      refine xr_go hc rfl rfl ?_
      refine xr_ret hc rfl rfl ?_
      refine ⟨?_, rfl, rfl⟩
      first
        | (rw [if_pos (by omega)]; done)
        | (rw [if_neg (by omega)]; done)
        | (exfalso; omega)
    · skip
      refine xr_go hc rfl rfl ?_
      refine xr_go hc rfl rfl ?_
      refine xr_gf0 (A := 27) rfl hc rfl (ew_own_p hn rfl) (show _ = _ from s_Q_p) ?_
      refine xr_go hc rfl rfl ?_
      refine xr_go hc rfl rfl ?_
      refine xr_ret hc rfl rfl ?_
      refine ⟨?_, rfl, rfl⟩
      first
        | (rw [if_pos (by omega)]; done)
        | (rw [if_neg (by omega)]; done)
        | (exfalso; omega)

set_option maxRecDepth 20000 in
theorem c_ff_x {n : Nat} {M : ew_Mem} {B : Nat → Int} {z p : Nat} (hn : 59 ≤ n) (hT : s_TP B z M) (hpz : p ≤ 190) {f : Int} (hf : f = 0 ∨ f = 1) {i : Int} (hi : 0 ≤ i ∧ i ≤ 27) : ew_X 50 19 [(2, 27), (0, 0), (0, i)] [] n (s_Q M p f) (fun r a b => r = some (0, if f = 1 ∨ p < z then -100 - (p : Int) else 0) ∧ a = n ∧ b = s_Q M p f) := by
  have hc := ew_c_50
  refine xr_go hc rfl rfl ?_
  refine xr_go hc rfl rfl ?_
  refine xr_icmp_ge hc rfl (by omega) (by decide) (fun c1 => ?_) (fun c1 => ?_)
  · skip
    exact c_ff_62 hn hT hpz hf
  · skip
    refine xr_go hc rfl rfl ?_
    refine xr_if_eq hc rfl (by decide) (fun c2 => ?_) (fun c2 => by exfalso; omega)
    exact c_ff_62 hn hT hpz hf

set_option maxRecDepth 20000 in
theorem c_ff_1 {n : Nat} {B : Nat → Int} {z : Nat} (hn : 59 ≤ n) : ∀ (j i p : Nat) (M : ew_Mem), i + j = 27 → s_TP B z M → p ≤ z → z < p + 3 * j →
    ew_X 50 19 [(2, 27), (0, 1), (0, (i : Int))] [] n (s_Q M p 0) (fun r a b => a = n ∧ s_PR B z j i p M r b) := by
  intro j
  induction j with
  | zero =>
    intro i p M hj hT hpz hzj
    omega
  | succ j ih =>
    intro i p M hj hT hpz hzj
    obtain ⟨hp0, hz1, hz8, hB28, hB⟩ := id hT
    have hc := ew_c_50
    obtain ⟨M2, hS, hT2, hfr, hlo, hok⟩ := c_pS hn hT (p := p) (by omega) (by omega) (i := i) (by omega)
    obtain ⟨hsz, hst⟩ := s_st_bd (B := B) hz8 hB hpz
    by_cases h1 : (s_st B z p).1 = true
    · obtain ⟨w1, w2, w3, w4, w5⟩ := hok h1
      rw [if_pos h1] at hS
      have hpp := (hst h1).2
      by_cases h2 : s_hr B z (s_st B z p).2.1 = 59
      · have hlt : (s_st B z p).2.1 < z := s_hr_z (by rw [h2]; decide)
        have e : s_ps B z (j + 1) p = ((s_ps B z j ((s_st B z p).2.1 + 1)).1, (s_ps B z j ((s_st B z p).2.1 + 1)).2.1, (p, s_hr B z p, (s_st B z p).2.2) :: (s_ps B z j ((s_st B z p).2.1 + 1)).2.2) := by
          rw [s_ps, if_pos h1, if_pos h2]
        refine xr_go hc rfl rfl ?_
        refine xr_go hc rfl rfl ?_
        refine xr_icmp_ge hc rfl (by omega) (by decide) (fun c1 => ?_) (fun c1 => ?_)
        · exfalso; omega
        · skip
          refine xr_go hc rfl rfl ?_
          refine xr_if_eq hc rfl (by decide) (fun c2 => by exfalso; omega) (fun c2 => ?_)
          refine xr_go hc rfl rfl ?_
          refine xr_go hc rfl rfl ?_
          refine xr_vv_2 (v := (0, 0)) hc rfl rfl (ew_own_p hn rfl) hS ?_
          refine xr_go hc rfl rfl ?_
          refine xr_gf0 (A := 27) rfl hc rfl (ew_own_p hn rfl) (show _ = (0 : Int) from s_Q_f) ?_
          refine xr_if_ne hc rfl (by decide) (fun c3 => ?_) (fun c3 => ?_)
          · exfalso; omega
          · skip
            refine xr_go hc rfl rfl ?_
            refine xr_go hc rfl rfl ?_
            refine xr_v_2 hc rfl rfl (ew_own_p hn rfl) (c_acc1 hn hT2 (by omega) (by decide) h2) ?_
            refine xr_if_eq hc rfl (by decide) (fun c4 => by exfalso; omega) (fun c4 => ?_)
            refine xr_go hc rfl rfl ?_
            refine xr_go hc rfl rfl ?_
            refine xr_s1_1 hc rfl rfl rfl ?_
            refine xr_inc_2 hc rfl ?_
            refine xr_go hc rfl rfl ?_
            rw [s_n1]
            refine ew_X.mono (ih (i + 1) ((s_st B z p).2.1 + 1) M2 (by omega) hT2 (by omega) (by omega)) ?_
            rintro r a b ⟨rfl, f1, f2, f3⟩
            refine ⟨rfl, s_fr_tr (Nat.le_succ i) hfr f1, ?_, ?_⟩
            · intro q
              rw [e] at q ⊢
              obtain ⟨r1, r2, r3⟩ := f2 q
              refine ⟨r1, ⟨⟨?_, ?_, ?_, fun qq => ?_⟩, r2⟩, ?_⟩
              · rw [f1 _ _ (by omega) (by omega) (by omega)]; exact w2
              · rw [f1 _ _ (by omega) (by omega) (by omega)]; exact w3
              · rw [f1 _ _ (by omega) (by omega) (by omega)]; exact w4
              · rw [f1 _ _ (by omega) (by omega) (by omega), f1 _ _ (by omega) (by omega) (by omega)]; exact w5 qq
              · rw [r3, List.length_cons]
                omega
            · intro q
              rw [e] at q ⊢
              exact f3 q
      · have e : s_ps B z (j + 1) p = (decide (z ≤ (s_st B z p).2.1), (s_st B z p).2.1, [(p, s_hr B z p, (s_st B z p).2.2)]) := by
          rw [s_ps, if_pos h1, if_neg h2]
        refine xr_go hc rfl rfl ?_
        refine xr_go hc rfl rfl ?_
        refine xr_icmp_ge hc rfl (by omega) (by decide) (fun c1 => ?_) (fun c1 => ?_)
        · exfalso; omega
        · skip
          refine xr_go hc rfl rfl ?_
          refine xr_if_eq hc rfl (by decide) (fun c2 => by exfalso; omega) (fun c2 => ?_)
          refine xr_go hc rfl rfl ?_
          refine xr_go hc rfl rfl ?_
          refine xr_vv_2 (v := (0, 0)) hc rfl rfl (ew_own_p hn rfl) hS ?_
          refine xr_go hc rfl rfl ?_
          refine xr_gf0 (A := 27) rfl hc rfl (ew_own_p hn rfl) (show _ = (0 : Int) from s_Q_f) ?_
          refine xr_if_ne hc rfl (by decide) (fun c3 => ?_) (fun c3 => ?_)
          · exfalso; omega
          · skip
            refine xr_go hc rfl rfl ?_
            refine xr_go hc rfl rfl ?_
            refine xr_v_2 hc rfl rfl (ew_own_p hn rfl) (c_acc0 hn hT2 (by omega) (by decide) h2) ?_
            refine xr_if_eq hc rfl (by decide) (fun c4 => ?_) (fun c4 => by exfalso; omega)
            refine xr_go hc rfl rfl ?_
            refine xr_s1_1 hc rfl rfl rfl ?_
            refine xr_inc_2 hc rfl ?_
            refine xr_go hc rfl rfl ?_
            rw [s_n1]
            refine ew_X.mono (c_ff_x hn hT2 (by omega) (Or.inl rfl) (by omega)) ?_
            rintro r a b ⟨rfl, rfl, rfl⟩
            refine ⟨rfl, s_fr_Q hfr, ?_, ?_⟩
            · intro q
              rw [e] at q ⊢
              have q2 := of_decide_eq_true q
              refine ⟨by rw [if_neg (by omega)], ⟨⟨?_, ?_, ?_, fun qq => ?_⟩, trivial⟩, ?_⟩
              · rw [s_Q_o (by omega)]; exact w2
              · rw [s_Q_o (by omega)]; exact w3
              · rw [s_Q_o (by omega)]; exact w4
              · rw [s_Q_o (by omega), s_Q_o (by omega)]; exact w5 qq
              · rw [s_Q_o (by omega), w1]
                rfl
            · intro q
              rw [e] at q ⊢
              have q2 := of_decide_eq_false q
              rw [if_pos (by omega)]
    · have e : s_ps B z (j + 1) p = (false, (s_st B z p).2.1, []) := by
        rw [s_ps, if_neg h1]
      rw [if_neg h1] at hS
      refine xr_go hc rfl rfl ?_
      refine xr_go hc rfl rfl ?_
      refine xr_icmp_ge hc rfl (by omega) (by decide) (fun c1 => ?_) (fun c1 => ?_)
      · exfalso; omega
      · skip
        refine xr_go hc rfl rfl ?_
        refine xr_if_eq hc rfl (by decide) (fun c2 => by exfalso; omega) (fun c2 => ?_)
        refine xr_go hc rfl rfl ?_
        refine xr_go hc rfl rfl ?_
        refine xr_vv_2 (v := (0, 0)) hc rfl rfl (ew_own_p hn rfl) hS ?_
        refine xr_go hc rfl rfl ?_
        refine xr_gf0 (A := 27) rfl hc rfl (ew_own_p hn rfl) (show _ = (1 : Int) from s_Q_f) ?_
        refine xr_if_ne hc rfl (by decide) (fun c3 => ?_) (fun c3 => ?_)
        · skip
          refine xr_go hc rfl rfl ?_
          refine xr_s1_1 hc rfl rfl rfl ?_
          refine xr_inc_2 hc rfl ?_
          refine xr_go hc rfl rfl ?_
          rw [s_n1]
          refine ew_X.mono (c_ff_x hn hT2 (by omega) (Or.inr rfl) (by omega)) ?_
          rintro r a b ⟨rfl, rfl, rfl⟩
          refine ⟨rfl, s_fr_Q hfr, ?_, ?_⟩
          · intro q
            rw [e] at q
            cases q
          · intro q
            rw [e, if_pos (Or.inl rfl)]
        · exfalso; omega

set_option maxRecDepth 20000 in
theorem c_ff {n : Nat} {M : ew_Mem} {B : Nat → Int} {z : Nat} (hn : 59 ≤ n) (hT : s_TP B z M) : ew_C 50 [(2, 27)] n M (fun r a b => a = n ∧ s_PR B z 27 0 0 M r b) := by
  obtain ⟨hp0, hz1, hz8, hB28, hB⟩ := id hT
  have hc := ew_c_50
  show ew_X 50 0 [(2, 27), (5, 0), (5, 0)] [] n _ _
  refine xr_go hc rfl rfl ?_
  refine xr_go hc rfl rfl ?_
  refine xr_pf (A := 27) rfl hc rfl (ew_own_p hn rfl) ?_
  refine xr_go hc rfl rfl ?_
  refine xr_go hc rfl rfl ?_
  refine xr_pf (A := 27) rfl hc rfl (ew_own_p hn rfl) ?_
  refine xr_go hc rfl rfl ?_
  refine xr_go hc rfl rfl ?_
  refine xr_pfB (A := 27) rfl hc rfl (ew_own_p hn rfl) (by decide) ?_
  refine xr_go hc rfl rfl ?_
  refine xr_s1_1 hc rfl rfl rfl ?_
  refine xr_go hc rfl rfl ?_
  refine xr_s1_2 hc rfl rfl rfl ?_
  have hT2 : s_TP B z (ew_wr M 27 5 0) := s_TP_wr hT (by omega)
  have hg := c_ff_1 hn 27 0 0 (ew_wr M 27 5 0) rfl hT2 (Nat.zero_le _) (by omega)
  refine ew_X.mono hg ?_
  rintro r a b ⟨rfl, f1, f2, f3⟩
  exact ⟨rfl, fun a b g1 g2 g3 => (f1 a b g1 g2 g3).trans (s_nr (by omega)), f2, f3⟩

set_option maxRecDepth 20000 in
theorem c_no0 {n : Nat} {M : ew_Mem} (hn : 59 ≤ n) (hp : ew_Pm M) {i : Nat} (hi : i < 27) {v : Int} (e : M 31 (3 * i + 0) = v) : ew_FM 61 [(2, 27), (0, (i : Int)), (0, 0)] n M (0, v) n M := by
  have hc := ew_c_61
  show ew_X 61 0 [(2, 27), (0, (i : Int)), (0, 0), (5, 0)] [] n _ _
  refine xr_go hc rfl rfl ?_
  refine xr_go hc rfl rfl ?_
  refine xr_go hc rfl rfl ?_
  refine xr_go hc rfl rfl ?_
  refine xr_go hc rfl rfl ?_
  refine xr_s1_3 hc rfl rfl rfl ?_
  refine xr_go hc rfl rfl ?_
  refine xr_if_lt hc rfl (by omega) (fun c1 => ?_) (fun c1 => ?_)
  · skip
    refine xr_go hc rfl rfl ?_
    refine xr_ret hc rfl rfl ?_
    first
      | exact ⟨rfl, rfl, rfl⟩
      | (exfalso; omega)
  · skip
    refine xr_go hc rfl rfl ?_
    refine xr_go hc rfl rfl ?_
    refine xr_gf2 (A := 27) (w := 31) rfl hc rfl (ew_own_p hn rfl) (ew_pm hp rfl) ?_
    refine xr_alen (A := 31) (N := 81) (t := 20) rfl rfl hc rfl (ew_ok_p hn rfl) (by decide) ?_
    refine xr_icmp_ge hc rfl (by omega) (by decide) (fun c2 => ?_) (fun c2 => ?_)
    · skip
      refine xr_go hc rfl rfl ?_
      refine xr_ret hc rfl rfl ?_
      first
        | exact ⟨rfl, rfl, rfl⟩
        | (exfalso; omega)
    · skip
      refine xr_go hc rfl rfl ?_
      refine xr_gf2 (A := 27) (w := 31) rfl hc rfl (ew_own_p hn rfl) (ew_pm hp rfl) ?_
      refine xr_go hc rfl rfl ?_
      refine xr_iald (A := 31) (N := 81) rfl rfl hc rfl (ew_ok_p hn rfl) (by omega) (by omega) (show _ = v by rw [show ((i : Int) * 3 + 0).toNat = 3 * i + 0 by omega]; exact e) ?_
      refine xr_go hc rfl rfl ?_
      refine xr_ret hc rfl rfl ?_
      first
        | exact ⟨rfl, rfl, rfl⟩
        | (exfalso; omega)

set_option maxRecDepth 20000 in
theorem c_no1 {n : Nat} {M : ew_Mem} (hn : 59 ≤ n) (hp : ew_Pm M) {i : Nat} (hi : i < 27) {v : Int} (e : M 31 (3 * i + 1) = v) : ew_FM 61 [(2, 27), (0, (i : Int)), (0, 1)] n M (0, v) n M := by
  have hc := ew_c_61
  show ew_X 61 0 [(2, 27), (0, (i : Int)), (0, 1), (5, 0)] [] n _ _
  refine xr_go hc rfl rfl ?_
  refine xr_go hc rfl rfl ?_
  refine xr_go hc rfl rfl ?_
  refine xr_go hc rfl rfl ?_
  refine xr_go hc rfl rfl ?_
  refine xr_s1_3 hc rfl rfl rfl ?_
  refine xr_go hc rfl rfl ?_
  refine xr_if_lt hc rfl (by omega) (fun c1 => ?_) (fun c1 => ?_)
  · skip
    refine xr_go hc rfl rfl ?_
    refine xr_ret hc rfl rfl ?_
    first
      | exact ⟨rfl, rfl, rfl⟩
      | (exfalso; omega)
  · skip
    refine xr_go hc rfl rfl ?_
    refine xr_go hc rfl rfl ?_
    refine xr_gf2 (A := 27) (w := 31) rfl hc rfl (ew_own_p hn rfl) (ew_pm hp rfl) ?_
    refine xr_alen (A := 31) (N := 81) (t := 20) rfl rfl hc rfl (ew_ok_p hn rfl) (by decide) ?_
    refine xr_icmp_ge hc rfl (by omega) (by decide) (fun c2 => ?_) (fun c2 => ?_)
    · skip
      refine xr_go hc rfl rfl ?_
      refine xr_ret hc rfl rfl ?_
      first
        | exact ⟨rfl, rfl, rfl⟩
        | (exfalso; omega)
    · skip
      refine xr_go hc rfl rfl ?_
      refine xr_gf2 (A := 27) (w := 31) rfl hc rfl (ew_own_p hn rfl) (ew_pm hp rfl) ?_
      refine xr_go hc rfl rfl ?_
      refine xr_iald (A := 31) (N := 81) rfl rfl hc rfl (ew_ok_p hn rfl) (by omega) (by omega) (show _ = v by rw [show ((i : Int) * 3 + 1).toNat = 3 * i + 1 by omega]; exact e) ?_
      refine xr_go hc rfl rfl ?_
      refine xr_ret hc rfl rfl ?_
      first
        | exact ⟨rfl, rfl, rfl⟩
        | (exfalso; omega)

set_option maxRecDepth 20000 in
theorem c_no2 {n : Nat} {M : ew_Mem} (hn : 59 ≤ n) (hp : ew_Pm M) {i : Nat} (hi : i < 27) {v : Int} (e : M 31 (3 * i + 2) = v) : ew_FM 61 [(2, 27), (0, (i : Int)), (0, 2)] n M (0, v) n M := by
  have hc := ew_c_61
  show ew_X 61 0 [(2, 27), (0, (i : Int)), (0, 2), (5, 0)] [] n _ _
  refine xr_go hc rfl rfl ?_
  refine xr_go hc rfl rfl ?_
  refine xr_go hc rfl rfl ?_
  refine xr_go hc rfl rfl ?_
  refine xr_go hc rfl rfl ?_
  refine xr_s1_3 hc rfl rfl rfl ?_
  refine xr_go hc rfl rfl ?_
  refine xr_if_lt hc rfl (by omega) (fun c1 => ?_) (fun c1 => ?_)
  · skip
    refine xr_go hc rfl rfl ?_
    refine xr_ret hc rfl rfl ?_
    first
      | exact ⟨rfl, rfl, rfl⟩
      | (exfalso; omega)
  · skip
    refine xr_go hc rfl rfl ?_
    refine xr_go hc rfl rfl ?_
    refine xr_gf2 (A := 27) (w := 31) rfl hc rfl (ew_own_p hn rfl) (ew_pm hp rfl) ?_
    refine xr_alen (A := 31) (N := 81) (t := 20) rfl rfl hc rfl (ew_ok_p hn rfl) (by decide) ?_
    refine xr_icmp_ge hc rfl (by omega) (by decide) (fun c2 => ?_) (fun c2 => ?_)
    · skip
      refine xr_go hc rfl rfl ?_
      refine xr_ret hc rfl rfl ?_
      first
        | exact ⟨rfl, rfl, rfl⟩
        | (exfalso; omega)
    · skip
      refine xr_go hc rfl rfl ?_
      refine xr_gf2 (A := 27) (w := 31) rfl hc rfl (ew_own_p hn rfl) (ew_pm hp rfl) ?_
      refine xr_go hc rfl rfl ?_
      refine xr_iald (A := 31) (N := 81) rfl rfl hc rfl (ew_ok_p hn rfl) (by omega) (by omega) (show _ = v by rw [show ((i : Int) * 3 + 2).toNat = 3 * i + 2 by omega]; exact e) ?_
      refine xr_go hc rfl rfl ?_
      refine xr_ret hc rfl rfl ?_
      first
        | exact ⟨rfl, rfl, rfl⟩
        | (exfalso; omega)

set_option maxRecDepth 20000 in
theorem c_leo {n : Nat} {M : ew_Mem} (hn : 59 ≤ n) (hp : ew_Pm M) {i : Nat} (hi : i < 27) {v : Int} (e : M 30 i = v) : ew_FM 62 [(2, 27), (0, (i : Int))] n M (0, v) n M := by
  have hc := ew_c_62
  show ew_X 62 0 [(2, 27), (0, (i : Int))] [] n _ _
  refine xr_go hc rfl rfl ?_
  refine xr_if_lt hc rfl (by omega) (fun c1 => ?_) (fun c1 => ?_)
  · skip
    refine xr_go hc rfl rfl ?_
    refine xr_ret hc rfl rfl ?_
    first
      | exact ⟨rfl, rfl, rfl⟩
      | (exfalso; omega)
  · skip
    refine xr_go hc rfl rfl ?_
    refine xr_go hc rfl rfl ?_
    refine xr_icmp_ge hc rfl (by omega) (by decide) (fun c2 => ?_) (fun c2 => ?_)
    · skip
      refine xr_go hc rfl rfl ?_
      refine xr_ret hc rfl rfl ?_
      first
        | exact ⟨rfl, rfl, rfl⟩
        | (exfalso; omega)
    · skip
      refine xr_go hc rfl rfl ?_
      refine xr_gf2 (A := 27) (w := 30) rfl hc rfl (ew_own_p hn rfl) (ew_pm hp rfl) ?_
      refine xr_go hc rfl rfl ?_
      refine xr_iald (A := 30) (N := 27) rfl rfl hc rfl (ew_ok_p hn rfl) (by omega) (by omega) (show _ = v from e) ?_
      refine xr_go hc rfl rfl ?_
      refine xr_ret hc rfl rfl ?_
      first
        | exact ⟨rfl, rfl, rfl⟩
        | (exfalso; omega)

set_option maxRecDepth 20000 in
theorem c_cbd {n : Nat} {M : ew_Mem} (hn : 59 ≤ n) (hp : ew_Pm M) {i : Nat} (hi : i < 27) {t : s_ST} (ht : s_tOK t) (e : M 29 i = (t.1 : Int) ∧ M 30 i = t.2.1 ∧ M 31 (3 * i + 0) = t.2.2.1 ∧ (¬ s_kd t.2.1 = -1 → M 31 (3 * i + 1) = t.2.2.2.1 ∧ M 31 (3 * i + 2) = t.2.2.2.2)) {w : Int} (hw : 0 ≤ w ∧ w ≤ 100) : ew_FM 60 [(2, 27), (0, (i : Int)), (0, w)] n M (0, s_b (s_cb w t)) n M := by
  obtain ⟨p0, l, a0, b0, c0⟩ := t
  dsimp only at ht e
  obtain ⟨t1, t2, t3, t4, t5, t6⟩ := ht
  dsimp only at t1 t2 t3 t4 t5 t6
  obtain ⟨e1, e2, e3, e4⟩ := e
  have hkd : ¬ l = 97 → ¬ l = 105 → ¬ l = 110 → ¬ l = 111 → ¬ s_kd l = -1 := by
    intro g1 g2 g3 g4
    rcases t1 with h | h | h | h | h
    · exact h
    · exact absurd h g3
    · exact absurd h g1
    · exact absurd h g4
    · exact absurd h g2
  have hkb := s_kd_bd l
  have hc := ew_c_60
  show ew_X 60 0 [(2, 27), (0, (i : Int)), (0, w), (5, 0)] [] n _ _
  refine xr_go hc rfl rfl ?_
  refine xr_go hc rfl rfl ?_
  refine xr_go hc rfl rfl ?_
  refine xr_v_3 hc rfl rfl (ew_own_p hn rfl) (c_no0 hn hp hi e3) ?_
  refine xr_s1_3 hc rfl rfl rfl ?_
  refine xr_go hc rfl rfl ?_
  refine xr_go hc rfl rfl ?_
  refine xr_v_2 hc rfl rfl (ew_own_p hn rfl) (c_leo hn hp hi e2) ?_
  by_cases c1_0 : l = 97
  · subst c1_0
    refine xr_ls hc rfl (by decide) 67 (by decide) ?_
    refine xr_go hc rfl rfl ?_
    refine xr_go hc rfl rfl ?_
    refine xr_icmp_ge hc rfl (by omega) (by omega) (fun c2 => ?_) (fun c2 => ?_)
    · skip
      refine xr_go hc rfl rfl ?_
      refine xr_ret hc rfl rfl ?_
      refine ⟨?_, rfl, rfl⟩
      unfold s_cb s_b
      dsimp only
      first
        | (rw [if_pos (decide_eq_true (by rw [if_pos (by decide)]; omega))]; done)
        | (rw [if_neg (fun q => absurd (of_decide_eq_true q) (by rw [if_pos (by decide)]; omega))]; done)
        | (rw [if_pos (decide_eq_true (by rw [if_neg (by omega), if_neg (by omega), if_neg (by omega)]; exact ⟨by omega, by omega, by omega⟩))]; done)
        | (rw [if_neg (fun q => absurd (of_decide_eq_true q) (by rw [if_neg (by omega), if_neg (by omega), if_neg (by omega)]; exact fun g => by have := g.1; have := g.2.1; have := g.2.2; omega))]; done)
    · skip
      refine xr_go hc rfl rfl ?_
      refine xr_go hc rfl rfl ?_
      refine xr_ret hc rfl rfl ?_
      refine ⟨?_, rfl, rfl⟩
      unfold s_cb s_b
      dsimp only
      first
        | (rw [if_pos (decide_eq_true (by rw [if_pos (by decide)]; omega))]; done)
        | (rw [if_neg (fun q => absurd (of_decide_eq_true q) (by rw [if_pos (by decide)]; omega))]; done)
        | (rw [if_pos (decide_eq_true (by rw [if_neg (by omega), if_neg (by omega), if_neg (by omega)]; exact ⟨by omega, by omega, by omega⟩))]; done)
        | (rw [if_neg (fun q => absurd (of_decide_eq_true q) (by rw [if_neg (by omega), if_neg (by omega), if_neg (by omega)]; exact fun g => by have := g.1; have := g.2.1; have := g.2.2; omega))]; done)
  by_cases c1_1 : l = 105
  · subst c1_1
    refine xr_ls hc rfl (by decide) 84 (by decide) ?_
    refine xr_go hc rfl rfl ?_
    refine xr_go hc rfl rfl ?_
    refine xr_s_2 hc rfl rfl (c_isWithin hn hp (by decide) (by omega)) ?_
    refine xr_retB hc rfl (s_b_01 _) ?_
    refine ⟨?_, rfl, rfl⟩
    unfold s_cb
    dsimp only
    first
      | (congr 3
         simp; done)
  by_cases c1_2 : l = 110
  · subst c1_2
    refine xr_ls hc rfl (by decide) 56 (by decide) ?_
    refine xr_go hc rfl rfl ?_
    refine xr_go hc rfl rfl ?_
    refine xr_icmp_ge hc rfl (by omega) (by omega) (fun c3 => ?_) (fun c3 => ?_)
    · skip
      refine xr_go hc rfl rfl ?_
      refine xr_ret hc rfl rfl ?_
      refine ⟨?_, rfl, rfl⟩
      unfold s_cb s_b
      dsimp only
      first
        | (rw [if_pos (decide_eq_true (by rw [if_pos (by decide)]; omega))]; done)
        | (rw [if_neg (fun q => absurd (of_decide_eq_true q) (by rw [if_pos (by decide)]; omega))]; done)
        | (rw [if_pos (decide_eq_true (by rw [if_neg (by omega), if_neg (by omega), if_neg (by omega)]; exact ⟨by omega, by omega, by omega⟩))]; done)
        | (rw [if_neg (fun q => absurd (of_decide_eq_true q) (by rw [if_neg (by omega), if_neg (by omega), if_neg (by omega)]; exact fun g => by have := g.1; have := g.2.1; have := g.2.2; omega))]; done)
    · skip
      refine xr_go hc rfl rfl ?_
      refine xr_go hc rfl rfl ?_
      refine xr_ret hc rfl rfl ?_
      refine ⟨?_, rfl, rfl⟩
      unfold s_cb s_b
      dsimp only
      first
        | (rw [if_pos (decide_eq_true (by rw [if_pos (by decide)]; omega))]; done)
        | (rw [if_neg (fun q => absurd (of_decide_eq_true q) (by rw [if_pos (by decide)]; omega))]; done)
        | (rw [if_pos (decide_eq_true (by rw [if_neg (by omega), if_neg (by omega), if_neg (by omega)]; exact ⟨by omega, by omega, by omega⟩))]; done)
        | (rw [if_neg (fun q => absurd (of_decide_eq_true q) (by rw [if_neg (by omega), if_neg (by omega), if_neg (by omega)]; exact fun g => by have := g.1; have := g.2.1; have := g.2.2; omega))]; done)
  by_cases c1_3 : l = 111
  · subst c1_3
    refine xr_ls hc rfl (by decide) 78 (by decide) ?_
    refine xr_go hc rfl rfl ?_
    refine xr_go hc rfl rfl ?_
    refine xr_s_2 hc rfl rfl (c_isWithin hn hp (by decide) (by omega)) ?_
    refine xr_retB hc rfl (s_b_01 _) ?_
    refine ⟨?_, rfl, rfl⟩
    unfold s_cb
    dsimp only
    first
      | (congr 3
         simp; done)
  refine xr_ls hc rfl (by omega) 90 (by show (12 : Int) + Op.lookupswitch.offset [(97, 55), (105, 72), (110, 44), (111, 66)] 78 l = _; rw [Op.lookupswitch.offset_cons, if_neg (fun q => c1_0 q.symm), Op.lookupswitch.offset_cons, if_neg (fun q => c1_1 q.symm), Op.lookupswitch.offset_cons, if_neg (fun q => c1_2 q.symm), Op.lookupswitch.offset_cons, if_neg (fun q => c1_3 q.symm)]; rfl) ?_
  refine xr_go hc rfl rfl ?_
  refine xr_go hc rfl rfl ?_
  refine xr_icmp_ge hc rfl (by omega) (by decide) (fun c4 => ?_) (fun c4 => ?_)
  · skip
    refine xr_go hc rfl rfl ?_
    refine xr_ret hc rfl rfl ?_
    refine ⟨?_, rfl, rfl⟩
    unfold s_cb s_b
    dsimp only
    first
      | (rw [if_pos (decide_eq_true (by rw [if_pos (by decide)]; omega))]; done)
      | (rw [if_neg (fun q => absurd (of_decide_eq_true q) (by rw [if_pos (by decide)]; omega))]; done)
      | (rw [if_pos (decide_eq_true (by rw [if_neg (by omega), if_neg (by omega), if_neg (by omega)]; exact ⟨by omega, by omega, by omega⟩))]; done)
      | (rw [if_neg (fun q => absurd (of_decide_eq_true q) (by rw [if_neg (by omega), if_neg (by omega), if_neg (by omega)]; exact fun g => by have := g.1; have := g.2.1; have := g.2.2; omega))]; done)
  · skip
    refine xr_go hc rfl rfl ?_
    refine xr_go hc rfl rfl ?_
    refine xr_v_2 hc rfl rfl (ew_own_p hn rfl) (c_leo hn hp hi e2) ?_
    refine xr_s_1 hc rfl rfl (c_kindOf (by omega)) ?_
    refine xr_go hc rfl rfl ?_
    refine xr_go hc rfl rfl ?_
    refine xr_go hc rfl rfl ?_
    refine xr_v_3 hc rfl rfl (ew_own_p hn rfl) (c_no1 hn hp hi (e4 (hkd (by assumption) (by assumption) (by assumption) (by assumption))).1) ?_
    refine xr_go hc rfl rfl ?_
    refine xr_go hc rfl rfl ?_
    refine xr_go hc rfl rfl ?_
    refine xr_go hc rfl rfl ?_
    refine xr_v_3 hc rfl rfl (ew_own_p hn rfl) (c_no2 hn hp hi (e4 (hkd (by assumption) (by assumption) (by assumption) (by assumption))).2) ?_
    refine xr_s_4 hc rfl rfl (c_canBe (by omega) (by omega) (by omega) (by omega)) ?_
    refine xr_if_eq hc rfl (by split <;> omega) (fun c5 => ?_) (fun c5 => ?_)
    · skip
      refine xr_go hc rfl rfl ?_
      refine xr_ret hc rfl rfl ?_
      refine ⟨?_, rfl, rfl⟩
      unfold s_cb s_b
      dsimp only
      first
        | (rw [if_pos (decide_eq_true (by rw [if_pos (by decide)]; omega))]; done)
        | (rw [if_neg (fun q => absurd (of_decide_eq_true q) (by rw [if_pos (by decide)]; omega))]; done)
        | (rw [if_pos (decide_eq_true (by rw [if_neg (by omega), if_neg (by omega), if_neg (by omega)]; exact ⟨by omega, by omega, by omega⟩))]; done)
        | (rw [if_neg (fun q => absurd (of_decide_eq_true q) (by rw [if_neg (by omega), if_neg (by omega), if_neg (by omega)]; exact fun g => by have := g.1; have := g.2.1; have := g.2.2; omega))]; done)
    · skip
      refine xr_go hc rfl rfl ?_
      refine xr_go hc rfl rfl ?_
      refine xr_ret hc rfl rfl ?_
      refine ⟨?_, rfl, rfl⟩
      unfold s_cb s_b
      dsimp only
      first
        | (rw [if_pos (decide_eq_true (by rw [if_pos (by decide)]; omega))]; done)
        | (rw [if_neg (fun q => absurd (of_decide_eq_true q) (by rw [if_pos (by decide)]; omega))]; done)
        | (rw [if_pos (decide_eq_true (by rw [if_neg (by omega), if_neg (by omega), if_neg (by omega)]; exact ⟨by omega, by omega, by omega⟩))]; done)
        | (rw [if_neg (fun q => absurd (of_decide_eq_true q) (by rw [if_neg (by omega), if_neg (by omega), if_neg (by omega)]; exact fun g => by have := g.1; have := g.2.1; have := g.2.2; omega))]; done)

set_option maxRecDepth 20000 in
theorem c_df_1 {n : Nat} {M : ew_Mem} (hn : 59 ≤ n) (hp : ew_Pm M) {w0 : Int} : ∀ (T : List s_ST) (i : Nat) (w : Int), s_TL M i T → (∀ t ∈ T, s_tOK t) → M 27 5 = (i : Int) + (T.length : Int) → i + T.length ≤ 27 → (0 ≤ w ∧ w + (T.length : Int) ≤ 100) →
    ew_X 59 4 [(2, 27), (0, w0), (0, w), (0, (i : Int))] [] n M (fun r a b => r = some (0, s_fa T w) ∧ a = n ∧ b = M) := by
  intro T
  induction T with
  | nil =>
    intro i w hTL hOK h5 hl hw
    rw [List.length_nil] at h5 hl
    have hc := ew_c_59
    refine xr_go hc rfl rfl ?_
    refine xr_go hc rfl rfl ?_
    refine xr_gf0 (A := 27) rfl hc rfl (ew_own_p hn rfl) h5 ?_
    refine xr_icmp_ge hc rfl (by omega) (by omega) (fun c1 => ?_) (fun c1 => ?_)
    · skip
      refine xr_go hc rfl rfl ?_
      refine xr_ret hc rfl rfl ?_
      exact ⟨rfl, rfl, rfl⟩
    · exfalso; omega
  | cons t T ih =>
    intro i w hTL hOK h5 hl hw
    rw [List.length_cons] at h5 hl hw
    obtain ⟨hT1, hT2⟩ := hTL
    have hc := ew_c_59
    have ht := hOK t List.mem_cons_self
    have hkb := s_kd_bd t.2.1
    have htl := ht.2.1
    have ht6 := ht.2.2.2.2.2
    refine xr_go hc rfl rfl ?_
    refine xr_go hc rfl rfl ?_
    refine xr_gf0 (A := 27) rfl hc rfl (ew_own_p hn rfl) h5 ?_
    refine xr_icmp_ge hc rfl (by omega) (by omega) (fun c1 => ?_) (fun c1 => ?_)
    · exfalso; omega
    · skip
      refine xr_go hc rfl rfl ?_
      refine xr_go hc rfl rfl ?_
      refine xr_icmp_ge hc rfl (by omega) (by decide) (fun c2 => ?_) (fun c2 => ?_)
      · exfalso; omega
      · skip
        refine xr_go hc rfl rfl ?_
        refine xr_go hc rfl rfl ?_
        refine xr_go hc rfl rfl ?_
        refine xr_v_3 hc rfl rfl (ew_own_p hn rfl) (c_cbd hn hp (by omega) ht hT1 (by omega)) ?_
        refine xr_if_ne hc rfl (s_b_in _) (fun c3 => ?_) (fun c3 => ?_)
        · skip
          refine xr_go hc rfl rfl ?_
          refine xr_gf2 (A := 27) (w := 30) rfl hc rfl (ew_own_p hn rfl) (ew_pm hp rfl) ?_
          refine xr_go hc rfl rfl ?_
          refine xr_iald (A := 30) (N := 27) rfl rfl hc rfl (ew_ok_p hn rfl) (by omega) (by omega) hT1.2.1 ?_
          refine xr_s_1 hc rfl rfl (c_kindOf (by omega)) ?_
          refine xr_go hc rfl rfl ?_
          refine xr_icmp_eq hc rfl (by omega) (by decide) (fun c4 => ?_) (fun c4 => ?_)
          · skip
            refine xr_inc_3 hc rfl ?_
            refine xr_go hc rfl rfl ?_
            rw [s_n1]
            have hcb : s_cb w t = true := s_b_t (by omega)
            rw [s_fa, if_pos hcb]
            first
              | (rw [if_pos (by omega)]
                 exact ih (i + 1) w hT2 (fun t h => hOK t (List.mem_cons_of_mem _ h)) (by omega) (by omega) (by omega))
              | (rw [if_neg (by omega)]
                 exact ih (i + 1) (w + 1) hT2 (fun t h => hOK t (List.mem_cons_of_mem _ h)) (by omega) (by omega) (by omega))
          · skip
            refine xr_inc_2 hc rfl ?_
            refine xr_inc_3 hc rfl ?_
            refine xr_go hc rfl rfl ?_
            rw [s_n1]
            have hcb : s_cb w t = true := s_b_t (by omega)
            rw [s_fa, if_pos hcb]
            first
              | (rw [if_pos (by omega)]
                 exact ih (i + 1) w hT2 (fun t h => hOK t (List.mem_cons_of_mem _ h)) (by omega) (by omega) (by omega))
              | (rw [if_neg (by omega)]
                 exact ih (i + 1) (w + 1) hT2 (fun t h => hOK t (List.mem_cons_of_mem _ h)) (by omega) (by omega) (by omega))
        · skip
          refine xr_go hc rfl rfl ?_
          refine xr_go hc rfl rfl ?_
          refine xr_gf2 (A := 27) (w := 29) rfl hc rfl (ew_own_p hn rfl) (ew_pm hp rfl) ?_
          refine xr_go hc rfl rfl ?_
          refine xr_iald (A := 29) (N := 27) rfl rfl hc rfl (ew_ok_p hn rfl) (by omega) (by omega) hT1.1 ?_
          refine xr_go hc rfl rfl ?_
          refine xr_ret hc rfl rfl ?_
          refine ⟨?_, rfl, rfl⟩
          have hcb : ¬ s_cb w t = true := fun q => by
            unfold s_b at c3
            rw [if_pos q] at c3
            omega
          rw [s_fa, if_neg hcb]

set_option maxRecDepth 20000 in
theorem c_df {n : Nat} {M : ew_Mem} (hn : 59 ≤ n) (hp : ew_Pm M) {T : List s_ST} {w : Int} (hTL : s_TL M 0 T) (hOK : ∀ t ∈ T, s_tOK t) (h5 : M 27 5 = (T.length : Int)) (hl : T.length ≤ 27) (hw : 0 ≤ w ∧ w ≤ 6) : ew_FM 59 [(2, 27), (0, w)] n M (0, s_fa T w) n M := by
  have hc := ew_c_59
  show ew_X 59 0 [(2, 27), (0, w), (5, 0), (5, 0)] [] n _ _
  refine xr_go hc rfl rfl ?_
  refine xr_s1_2 hc rfl rfl rfl ?_
  refine xr_go hc rfl rfl ?_
  refine xr_s1_3 hc rfl rfl rfl ?_
  exact c_df_1 hn hp T 0 w hTL hOK (by omega) (by omega) (by omega)

set_option maxRecDepth 20000 in
theorem c_doS {n : Nat} {M : ew_Mem} (hC : s_C (s_V M) n M) {i : Nat} (hi : i < 27) {t : s_ST} (ht : s_tOK t) (e : M 29 i = (t.1 : Int) ∧ M 30 i = t.2.1 ∧ M 31 (3 * i + 0) = t.2.2.1 ∧ (¬ s_kd t.2.1 = -1 → M 31 (3 * i + 1) = t.2.2.2.1 ∧ M 31 (3 * i + 2) = t.2.2.2.2)) (hcb : s_cb (M 5 2) t = true) : ew_VM 133 [(2, 4), (0, (i : Int))] n M (s_do t n M).1 (s_do t n M).2 := by
  obtain ⟨hn, hp, hV, v0, v1, v2, v3, v4⟩ := id hC
  obtain ⟨p0, l, a0, b0, c0⟩ := t
  dsimp only at ht e
  obtain ⟨t1, t2, t3, t4, t5, t6⟩ := ht
  dsimp only at t1 t2 t3 t4 t5 t6
  obtain ⟨e1, e2, e3, e4⟩ := e
  have hkd : ¬ l = 97 → ¬ l = 105 → ¬ l = 110 → ¬ l = 111 → ¬ s_kd l = -1 := by
    intro g1 g2 g3 g4
    rcases t1 with h | h | h | h | h
    · exact h
    · exact absurd h g3
    · exact absurd h g1
    · exact absurd h g4
    · exact absurd h g2
  have hkb := s_kd_bd l
  have hcb2 := of_decide_eq_true hcb
  dsimp only at hcb2
  have hdef : ¬ l = 97 → ¬ l = 105 → ¬ l = 110 → ¬ l = 111 → M 5 2 < 6 ∧ (0 ≤ s_kd l ∧ s_kd l ≤ 4) ∧ s_AB b0 a0 c0 := by
    intro g1 g2 g3 g4
    rw [if_neg (by omega), if_neg g4, if_neg g2] at hcb2
    exact hcb2
  have hc := ew_c_133
  show ew_X 133 0 [(2, 4), (0, (i : Int)), (5, 0), (5, 0)] [] n _ _
  refine xr_go hc rfl rfl ?_
  refine xr_gf2 (A := 4) (w := 27) rfl hc rfl (ew_own_p hn rfl) (ew_pm hp rfl) ?_
  refine xr_go hc rfl rfl ?_
  refine xr_v_2 hc rfl rfl (ew_own_p hn rfl) (c_leo hn hp hi e2) ?_
  refine xr_s1_2 hc rfl rfl rfl ?_
  refine xr_go hc rfl rfl ?_
  refine xr_gf2 (A := 4) (w := 27) rfl hc rfl (ew_own_p hn rfl) (ew_pm hp rfl) ?_
  refine xr_go hc rfl rfl ?_
  refine xr_go hc rfl rfl ?_
  refine xr_v_3 hc rfl rfl (ew_own_p hn rfl) (c_no0 hn hp hi e3) ?_
  refine xr_s1_3 hc rfl rfl rfl ?_
  refine xr_go hc rfl rfl ?_
  by_cases c1_0 : l = 97
  · subst c1_0
    refine xr_ls hc rfl (by decide) 75 (by decide) ?_
    refine xr_go hc rfl rfl ?_
    refine xr_gf2 (A := 4) (w := 5) rfl hc rfl (ew_own_p hn rfl) (ew_pm hp rfl) ?_
    refine xr_go hc rfl rfl ?_
    refine xr_pf (A := 5) rfl hc rfl (ew_own_p hn rfl) ?_
    refine xr_go hc rfl rfl ?_
    refine xr_ret hc rfl rfl ?_
    first
      | (refine ⟨rfl, ?_, ?_⟩
         · unfold s_do
           dsimp only
           first
             | (rw [if_pos rfl]; done)
             | (rw [if_neg (by decide), if_pos rfl]; done)
             | (rw [if_neg (by decide), if_neg (by decide), if_pos rfl]; done)
             | (rw [if_neg (by decide), if_neg (by decide), if_neg (by decide), if_pos rfl]; done)
             | (rw [if_neg (show ¬ l = 110 by omega), if_neg (show ¬ l = 97 by omega), if_neg (show ¬ l = 111 by omega), if_neg (show ¬ l = 105 by omega)]; done)
         · unfold s_do
           dsimp only
           first
             | (rw [if_pos rfl]; done)
             | (rw [if_neg (by decide), if_pos rfl]; done)
             | (rw [if_neg (by decide), if_neg (by decide), if_pos rfl]; rfl)
             | (rw [if_neg (by decide), if_neg (by decide), if_neg (by decide), if_pos rfl]; rfl)
             | (rw [if_neg (show ¬ l = 110 by omega), if_neg (show ¬ l = 97 by omega), if_neg (show ¬ l = 111 by omega), if_neg (show ¬ l = 105 by omega)]; rfl))
  by_cases c1_1 : l = 105
  · subst c1_1
    refine xr_ls hc rfl (by decide) 98 (by decide) ?_
    refine xr_go hc rfl rfl ?_
    refine xr_gf2 (A := 4) (w := 5) rfl hc rfl (ew_own_p hn rfl) (ew_pm hp rfl) ?_
    refine xr_go hc rfl rfl ?_
    refine xr_go hc rfl rfl ?_
    refine xr_vv_3 (v := (0, 0)) hc rfl rfl (ew_own_p hn rfl) (c_setRule hn hp (by decide)) ?_
    refine xr_go hc rfl rfl ?_
    refine xr_ret hc rfl rfl ?_
    first
      | (refine ⟨rfl, ?_, ?_⟩
         · unfold s_do
           dsimp only
           first
             | (rw [if_pos rfl]; done)
             | (rw [if_neg (by decide), if_pos rfl]; done)
             | (rw [if_neg (by decide), if_neg (by decide), if_pos rfl]; done)
             | (rw [if_neg (by decide), if_neg (by decide), if_neg (by decide), if_pos rfl]; done)
             | (rw [if_neg (show ¬ l = 110 by omega), if_neg (show ¬ l = 97 by omega), if_neg (show ¬ l = 111 by omega), if_neg (show ¬ l = 105 by omega)]; done)
         · unfold s_do
           dsimp only
           first
             | (rw [if_pos rfl]; done)
             | (rw [if_neg (by decide), if_pos rfl]; done)
             | (rw [if_neg (by decide), if_neg (by decide), if_pos rfl]; rfl)
             | (rw [if_neg (by decide), if_neg (by decide), if_neg (by decide), if_pos rfl]; rfl)
             | (rw [if_neg (show ¬ l = 110 by omega), if_neg (show ¬ l = 97 by omega), if_neg (show ¬ l = 111 by omega), if_neg (show ¬ l = 105 by omega)]; rfl))
  by_cases c1_2 : l = 110
  · subst c1_2
    refine xr_ls hc rfl (by decide) 64 (by decide) ?_
    refine xr_go hc rfl rfl ?_
    refine xr_gf2 (A := 4) (w := 5) rfl hc rfl (ew_own_p hn rfl) (ew_pm hp rfl) ?_
    refine xr_go hc rfl rfl ?_
    refine xr_pf (A := 5) rfl hc rfl (ew_own_p hn rfl) ?_
    refine xr_go hc rfl rfl ?_
    refine xr_ret hc rfl rfl ?_
    first
      | (refine ⟨rfl, ?_, ?_⟩
         · unfold s_do
           dsimp only
           first
             | (rw [if_pos rfl]; done)
             | (rw [if_neg (by decide), if_pos rfl]; done)
             | (rw [if_neg (by decide), if_neg (by decide), if_pos rfl]; done)
             | (rw [if_neg (by decide), if_neg (by decide), if_neg (by decide), if_pos rfl]; done)
             | (rw [if_neg (show ¬ l = 110 by omega), if_neg (show ¬ l = 97 by omega), if_neg (show ¬ l = 111 by omega), if_neg (show ¬ l = 105 by omega)]; done)
         · unfold s_do
           dsimp only
           first
             | (rw [if_pos rfl]; done)
             | (rw [if_neg (by decide), if_pos rfl]; done)
             | (rw [if_neg (by decide), if_neg (by decide), if_pos rfl]; rfl)
             | (rw [if_neg (by decide), if_neg (by decide), if_neg (by decide), if_pos rfl]; rfl)
             | (rw [if_neg (show ¬ l = 110 by omega), if_neg (show ¬ l = 97 by omega), if_neg (show ¬ l = 111 by omega), if_neg (show ¬ l = 105 by omega)]; rfl))
  by_cases c1_3 : l = 111
  · subst c1_3
    refine xr_ls hc rfl (by decide) 86 (by decide) ?_
    refine xr_go hc rfl rfl ?_
    refine xr_gf2 (A := 4) (w := 5) rfl hc rfl (ew_own_p hn rfl) (ew_pm hp rfl) ?_
    refine xr_go hc rfl rfl ?_
    refine xr_go hc rfl rfl ?_
    refine xr_vv_3 (v := (0, 0)) hc rfl rfl (ew_own_p hn rfl) (c_setRule hn hp (by decide)) ?_
    refine xr_go hc rfl rfl ?_
    refine xr_ret hc rfl rfl ?_
    first
      | (refine ⟨rfl, ?_, ?_⟩
         · unfold s_do
           dsimp only
           first
             | (rw [if_pos rfl]; done)
             | (rw [if_neg (by decide), if_pos rfl]; done)
             | (rw [if_neg (by decide), if_neg (by decide), if_pos rfl]; done)
             | (rw [if_neg (by decide), if_neg (by decide), if_neg (by decide), if_pos rfl]; done)
             | (rw [if_neg (show ¬ l = 110 by omega), if_neg (show ¬ l = 97 by omega), if_neg (show ¬ l = 111 by omega), if_neg (show ¬ l = 105 by omega)]; done)
         · unfold s_do
           dsimp only
           first
             | (rw [if_pos rfl]; done)
             | (rw [if_neg (by decide), if_pos rfl]; done)
             | (rw [if_neg (by decide), if_neg (by decide), if_pos rfl]; rfl)
             | (rw [if_neg (by decide), if_neg (by decide), if_neg (by decide), if_pos rfl]; rfl)
             | (rw [if_neg (show ¬ l = 110 by omega), if_neg (show ¬ l = 97 by omega), if_neg (show ¬ l = 111 by omega), if_neg (show ¬ l = 105 by omega)]; rfl))
  refine xr_ls hc rfl (by omega) 110 (by show (20 : Int) + Op.lookupswitch.offset [(97, 55), (105, 78), (110, 44), (111, 66)] 90 l = _; rw [Op.lookupswitch.offset_cons, if_neg (fun q => c1_0 q.symm), Op.lookupswitch.offset_cons, if_neg (fun q => c1_1 q.symm), Op.lookupswitch.offset_cons, if_neg (fun q => c1_2 q.symm), Op.lookupswitch.offset_cons, if_neg (fun q => c1_3 q.symm)]; rfl) ?_
  refine xr_go hc rfl rfl ?_
  refine xr_gf2 (A := 4) (w := 5) rfl hc rfl (ew_own_p hn rfl) (ew_pm hp rfl) ?_
  refine xr_go hc rfl rfl ?_
  refine xr_s_1 hc rfl rfl (c_kindOf (by omega)) ?_
  refine xr_go hc rfl rfl ?_
  refine xr_gf2 (A := 4) (w := 27) rfl hc rfl (ew_own_p hn rfl) (ew_pm hp rfl) ?_
  refine xr_go hc rfl rfl ?_
  refine xr_go hc rfl rfl ?_
  refine xr_v_3 hc rfl rfl (ew_own_p hn rfl) (c_no1 hn hp hi (e4 (hkd (by assumption) (by assumption) (by assumption) (by assumption))).1) ?_
  refine xr_go hc rfl rfl ?_
  refine xr_go hc rfl rfl ?_
  refine xr_gf2 (A := 4) (w := 27) rfl hc rfl (ew_own_p hn rfl) (ew_pm hp rfl) ?_
  refine xr_go hc rfl rfl ?_
  refine xr_go hc rfl rfl ?_
  refine xr_v_3 hc rfl rfl (ew_own_p hn rfl) (c_no2 hn hp hi (e4 (hkd (by assumption) (by assumption) (by assumption) (by assumption))).2) ?_
  refine xr_v_5 hc rfl rfl (ew_own_p hn rfl) (c_addWheel hC (hdef (by assumption) (by assumption) (by assumption) (by assumption)).2.1 (hdef (by assumption) (by assumption) (by assumption) (by assumption)).2.2 (hdef (by assumption) (by assumption) (by assumption) (by assumption)).1) ?_
  refine xr_go hc rfl rfl ?_
  refine xr_ret hc rfl rfl ?_
  first
    | (refine ⟨rfl, ?_, ?_⟩
       · unfold s_do
         dsimp only
         first
           | (rw [if_pos rfl]; done)
           | (rw [if_neg (by decide), if_pos rfl]; done)
           | (rw [if_neg (by decide), if_neg (by decide), if_pos rfl]; done)
           | (rw [if_neg (by decide), if_neg (by decide), if_neg (by decide), if_pos rfl]; done)
           | (rw [if_neg (show ¬ l = 110 by omega), if_neg (show ¬ l = 97 by omega), if_neg (show ¬ l = 111 by omega), if_neg (show ¬ l = 105 by omega)]; done)
       · unfold s_do
         dsimp only
         first
           | (rw [if_pos rfl]; done)
           | (rw [if_neg (by decide), if_pos rfl]; done)
           | (rw [if_neg (by decide), if_neg (by decide), if_pos rfl]; rfl)
           | (rw [if_neg (by decide), if_neg (by decide), if_neg (by decide), if_pos rfl]; rfl)
           | (rw [if_neg (show ¬ l = 110 by omega), if_neg (show ¬ l = 97 by omega), if_neg (show ¬ l = 111 by omega), if_neg (show ¬ l = 105 by omega)]; rfl))

