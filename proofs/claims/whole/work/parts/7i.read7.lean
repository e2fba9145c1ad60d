/-! the reference reads and does a text: both passes -/
set_option maxRecDepth 20000 in
theorem m_ra_1 {n : Nat} {B : Nat → Int} {z : Nat} (hn : 59 ≤ n) {Q : Option ew_AV → Nat → ew_Mem → Prop} : ∀ (j p : Nat) (M : ew_Mem), s_TM B z M → M 38 23 = (p : Int) → p ≤ z → z < p + 3 * j →
    (∀ M', s_SM M M' → (s_ps B z j p).1 = true → ew_X 217 48 [(2, 38), (5, 0), (5, 0), (5, 0), (5, 0), (5, 0), (5, 0), (5, 0), (5, 0)] [] n M' Q) → (∀ M', s_SM M M' → (s_ps B z j p).1 = false → Q (some (0, -100 - ((s_ps B z j p).2.1 : Int))) n M') → ew_X 217 5 [(2, 38), (5, 0), (5, 0), (5, 0), (5, 0), (5, 0), (5, 0), (5, 0), (5, 0)] [] n M Q := by
  intro j
  induction j with
  | zero =>
    intro p M hT hrd hpz hzj
    omega
  | succ j ih =>
    intro p M hT hrd hpz hzj K1 K2
    obtain ⟨hp, hz1, hz8, hB53, hB⟩ := id hT
    obtain ⟨hsz, hst⟩ := s_st_bd (B := B) hz8 hB hpz
    have hc := ew_c_217
    refine xr_go hc rfl rfl ?_
    refine xr_vC_1 hc rfl rfl (ew_own_p hn rfl) (m_st hn hT hrd (by omega) (by omega)) ?_
    rintro r n2 M2 ⟨e0, e1, e2, e3, e4⟩
    obtain rfl := e0.symm
    have hT2 := s_SM_TM e2 hT
    by_cases hs : (s_st B z p).1 = true
    · rw [if_pos hs] at e1
      subst e1
      have hpp := (hst hs).2
      by_cases h59 : s_hr B z (s_st B z p).2.1 = 59
      · have hlt : (s_st B z p).2.1 < z := s_hr_z (by rw [h59]; decide)
        have e : s_ps B z (j + 1) p = ((s_ps B z j ((s_st B z p).2.1 + 1)).1, (s_ps B z j ((s_st B z p).2.1 + 1)).2.1, (p, s_hr B z p, (s_st B z p).2.2) :: (s_ps B z j ((s_st B z p).2.1 + 1)).2.2) := by
          rw [s_ps, if_pos hs, if_pos h59]
        have hz2 : M2 38 21 = (z : Int) := (e2 38 21 (by omega)).trans hz1
        show ew_X 217 9 _ [(0, 1)] _ _ _
        refine xr_if_ne hc rfl (by decide) (fun c1 => ?_) (fun c1 => by exfalso; omega)
        refine xr_go hc rfl rfl ?_
        refine xr_go hc rfl rfl ?_
        refine xr_v_2 hc rfl rfl (ew_own_p hn rfl) (m_takes1 hn hT2 e3 (by omega) (by decide) h59) ?_
        refine xr_if_ne hc rfl (by decide) (fun c2 => ?_) (fun c2 => by exfalso; omega)
        refine ih ((s_st B z p).2.1 + 1) (ew_wr M2 38 23 (((s_st B z p).2.1 + 1 : Nat) : Int)) (s_TM_wr hT2 (by decide)) rfl (by omega) (by omega) (fun M' g1 g2 => ?_) (fun M' g1 g2 => ?_)
        · exact K1 M' (s_SM_tr (s_SM_wr e2 (by decide)) g1) (by rw [e]; exact g2)
        · have hg := K2 M' (s_SM_tr (s_SM_wr e2 (by decide)) g1) (by rw [e]; exact g2)
          rw [e] at hg
          exact hg
      · have e : s_ps B z (j + 1) p = (decide (z ≤ (s_st B z p).2.1), (s_st B z p).2.1, [(p, s_hr B z p, (s_st B z p).2.2)]) := by
          rw [s_ps, if_pos hs, if_neg h59]
        have hz2 : M2 38 21 = (z : Int) := (e2 38 21 (by omega)).trans hz1
        show ew_X 217 9 _ [(0, 1)] _ _ _
        refine xr_if_ne hc rfl (by decide) (fun c1 => ?_) (fun c1 => by exfalso; omega)
        refine xr_go hc rfl rfl ?_
        refine xr_go hc rfl rfl ?_
        refine xr_v_2 hc rfl rfl (ew_own_p hn rfl) (m_takes0 hn hT2 e3 (by omega) (by decide) h59) ?_
        refine xr_if_ne hc rfl (by decide) (fun c2 => by exfalso; omega) (fun c2 => ?_)
        refine xr_go hc rfl rfl ?_
        refine xr_gf0 (A := 38) rfl hc rfl (ew_own_p hn rfl) (show _ = (((s_st B z p).2.1 : Nat) : Int) from e3) ?_
        refine xr_go hc rfl rfl ?_
        refine xr_gf0 (A := 38) rfl hc rfl (ew_own_p hn rfl) (show _ = (z : Int) from hz2) ?_
        refine xr_icmp_ge hc rfl (by omega) (by omega) (fun c3 => ?_) (fun c3 => ?_)
        · skip
          refine K1 M2 e2 ?_
          rw [e]
          exact decide_eq_true (by omega)
        · skip
          refine xr_go hc rfl rfl ?_
          refine xr_go hc rfl rfl ?_
          refine xr_gf0 (A := 38) rfl hc rfl (ew_own_p hn rfl) (show _ = (((s_st B z p).2.1 : Nat) : Int) from e3) ?_
          refine xr_go hc rfl rfl ?_
          refine xr_ret hc rfl rfl ?_
          have hg := K2 M2 e2 (by rw [e]; exact decide_eq_false (by omega))
          rw [e] at hg
          exact hg
    · rw [if_neg hs] at e1
      subst e1
      have hz2 : M2 38 21 = (z : Int) := (e2 38 21 (by omega)).trans hz1
      show ew_X 217 9 _ [(0, 0)] _ _ _
      refine xr_if_ne hc rfl (by decide) (fun c1 => by exfalso; omega) (fun c1 => ?_)
      refine xr_go hc rfl rfl ?_
      refine xr_go hc rfl rfl ?_
      refine xr_gf0 (A := 38) rfl hc rfl (ew_own_p hn rfl) (show _ = (((s_st B z p).2.1 : Nat) : Int) from e3) ?_
      refine xr_go hc rfl rfl ?_
      refine xr_ret hc rfl rfl ?_
      have e : s_ps B z (j + 1) p = (false, (s_st B z p).2.1, []) := by
        rw [s_ps, if_neg hs]
      have hg := K2 M2 e2 (by rw [e])
      rw [e] at hg
      exact hg

set_option maxRecDepth 20000 in
theorem m_ra_90 {n : Nat} {M X0 : ew_Mem} (hn : 59 ≤ n) (hp : ew_Pm M) {kk : Int} {l8 : ew_AV} : ew_X 217 90 [(2, 38), (0, X0 5 2), (0, X0 5 3), (0, X0 5 4), (0, X0 7 0), (0, X0 7 1), (0, kk), (0, 0), l8] [] n M (fun r a b => r = some (0, kk) ∧ a = n ∧ b = ew_wr M 38 22 (M 38 22 + 1)) := by
  have hc := ew_c_217
  refine xr_go hc rfl rfl ?_
  refine xr_if_eq hc rfl (by decide) (fun c1 => ?_) (fun c1 => by exfalso; omega)
  refine xr_go hc rfl rfl ?_
  refine xr_go hc rfl rfl ?_
  refine xr_gf0 (A := 38) rfl hc rfl (ew_own_p hn rfl) rfl ?_
  refine xr_go hc rfl rfl ?_
  refine xr_go hc rfl rfl ?_
  refine xr_pf (A := 38) rfl hc rfl (ew_own_p hn rfl) ?_
  refine xr_go hc rfl rfl ?_
  refine xr_ret hc rfl rfl ?_
  exact ⟨rfl, rfl, rfl⟩

set_option maxRecDepth 20000 in
theorem m_ra_2 {n : Nat} {B : Nat → Int} {z : Nat} (hn : 59 ≤ n) {c0 n0 : Nat} {X0 : ew_Mem} {h0 : Int → Nat} (hK0 : s_K c0 n0 X0) : ∀ (j p c nX : Nat) (X M : ew_Mem) (h : Int → Nat) (kk : Int) (l8 : ew_AV), s_K c nX X → s_RM h X M → s_BK h0 X0 M → X0 5 2 ≤ X 5 2 → s_TM B z M → M 38 23 = (p : Int) → p ≤ z → (s_ps B z j p).1 = true →
    ew_X 217 90 [(2, 38), (0, X0 5 2), (0, X0 5 3), (0, X0 5 4), (0, X0 7 0), (0, X0 7 1), (0, kk), (0, 1), l8] [] n M (fun r a b => a = n ∧ (s_fa (s_ps B z j p).2.2 (X 5 2) = 0 → r = some (0, kk + ((s_ps B z j p).2.2.length : Int)) ∧ ∃ (h2 : Int → Nat) (M2 : ew_Mem), s_RM h2 (s_dos (s_ps B z j p).2.2 nX X).2 M2 ∧ ew_Pm M2 ∧ b = ew_wr M2 38 22 (M2 38 22 + 1)) ∧ (¬ s_fa (s_ps B z j p).2.2 (X 5 2) = 0 → r = some (0, s_fa (s_ps B z j p).2.2 (X 5 2)) ∧ s_RM h0 X0 b ∧ ew_Pm b) ∧ ∀ a j : Nat, (a < 38 ∨ 59 ≤ a) → b a j = M a j) := by
  intro j
  induction j with
  | zero =>
    intro p c nX X M h kk l8 hK hR hB hle hT hrd hpz hok
    cases hok
  | succ j ih =>
    intro p c nX X M h kk l8 hK hR hB hle hT hrd hpz hok
    obtain ⟨hp, hz1, hz8, hB53, hBb⟩ := id hT
    obtain ⟨hsz, hst⟩ := s_st_bd (B := B) hz8 hBb hpz
    have hs : (s_st B z p).1 = true := by
      refine Classical.byContradiction (fun q => ?_)
      rw [s_ps, if_neg q] at hok
      cases hok
    have ht := (hst hs).1
    have hpp := (hst hs).2
    have hc := ew_c_217
    refine xr_go hc rfl rfl ?_
    refine xr_if_eq hc rfl (by decide) (fun c1 => by exfalso; omega) (fun c1 => ?_)
    refine xr_go hc rfl rfl ?_
    refine xr_gf0 (A := 38) rfl hc rfl (ew_own_p hn rfl) (show _ = ((p : Nat) : Int) from hrd) ?_
    refine xr_s1_8 hc rfl rfl rfl ?_
    refine xr_go hc rfl rfl ?_
    refine xr_vC_1 hc rfl rfl (ew_own_p hn rfl) (m_st hn hT hrd (by omega) (by omega)) ?_
    rintro r n2 M2 ⟨e0, e1, e2, e3, e4⟩
    obtain rfl := e0.symm
    rw [if_pos hs] at e1
    subst e1
    obtain ⟨f1, f2, f3⟩ := e4 hs
    have hT2 := s_SM_TM e2 hT
    have hp2 := hT2.1
    have hR2 := s_SM_R hK e2 hR
    have hB2 := s_BK_SM hK0 e2 hB
    show ew_X 217 105 _ [(0, 1)] _ _ _
    by_cases hcb : s_cb (X 5 2) (p, s_hr B z p, (s_st B z p).2.2) = true
    · obtain ⟨M3, h3, hD, hR3, hB3, ag3, hp3⟩ := m_dn1 hK hR2 hp2 hn ht f1 f2 f3 hcb hK0 hle hB2
      have hT3 : s_TM B z M3 := ⟨hp3, (ag3 38 21 (by omega)).trans hT2.2.1, hz8, fun i hi => (ag3 53 i (by omega)).trans (hT2.2.2.2.1 i hi), hBb⟩
      have e3' : M3 38 23 = (((s_st B z p).2.1 : Nat) : Int) := (ag3 38 23 (by omega)).trans e3
      by_cases h59 : s_hr B z (s_st B z p).2.1 = 59
      · have hlt : (s_st B z p).2.1 < z := s_hr_z (by rw [h59]; decide)
        have e : s_ps B z (j + 1) p = ((s_ps B z j ((s_st B z p).2.1 + 1)).1, (s_ps B z j ((s_st B z p).2.1 + 1)).2.1, (p, s_hr B z p, (s_st B z p).2.2) :: (s_ps B z j ((s_st B z p).2.1 + 1)).2.2) := by
          rw [s_ps, if_pos hs, if_pos h59]
        refine xr_go hc rfl rfl ?_
        refine xr_go hc rfl rfl ?_
        refine xr_v_1 hc rfl rfl (ew_own_p hn rfl) hD ?_
        refine xr_if_ne hc rfl (by decide) (fun c1 => ?_) (fun c1 => by exfalso; omega)
        refine xr_inc_6 hc rfl ?_
        refine xr_go hc rfl rfl ?_
        refine xr_go hc rfl rfl ?_
        refine xr_v_2 hc rfl rfl (ew_own_p hn rfl) (m_takes1 hn hT3 e3' (by omega) (by decide) h59) ?_
        refine xr_s1_7 hc rfl rfl rfl ?_
        refine xr_go hc rfl rfl ?_
        have hg := ih ((s_st B z p).2.1 + 1) (c + 1) (s_do (p, s_hr B z p, (s_st B z p).2.2) nX X).1 (s_do (p, s_hr B z p, (s_st B z p).2.2) nX X).2 (ew_wr M3 38 23 (((s_st B z p).2.1 + 1 : Nat) : Int)) h3 (kk + 1) (0, (p : Int)) (K_do hK ht hcb) (s_SM_R (K_do hK ht hcb) (s_SM_wr s_SM_rf (by decide)) hR3) (s_BK_SM hK0 (s_SM_wr s_SM_rf (by decide)) hB3) (by rw [s_do_5 ht]; split <;> omega) (s_TM_wr hT3 (by decide)) rfl (by omega) (by rw [e] at hok; exact hok)
        refine ew_X.mono hg ?_
        rintro r a b ⟨q0, q1, q2, q9⟩
        rw [e]
        have e1' : s_fa ((p, s_hr B z p, (s_st B z p).2.2) :: (s_ps B z j ((s_st B z p).2.1 + 1)).2.2) (X 5 2) = s_fa (s_ps B z j ((s_st B z p).2.1 + 1)).2.2 ((s_do (p, s_hr B z p, (s_st B z p).2.2) nX X).2 5 2) := by
          rw [s_fa, if_pos hcb, s_do_5 ht]
        refine ⟨q0, fun q => ?_, fun q => ?_, fun x y hx => (q9 x y hx).trans ((s_nr (by omega)).trans ((ag3 x y (by omega)).trans (e2 x y (by omega))))⟩
        · rw [e1'] at q
          obtain ⟨r1, r2⟩ := q1 q
          refine ⟨?_, r2⟩
          rw [r1, List.length_cons]
          congr 2
          omega
        · rw [e1'] at q ⊢
          exact q2 q
      · have e : s_ps B z (j + 1) p = (decide (z ≤ (s_st B z p).2.1), (s_st B z p).2.1, [(p, s_hr B z p, (s_st B z p).2.2)]) := by
          rw [s_ps, if_pos hs, if_neg h59]
        refine xr_go hc rfl rfl ?_
        refine xr_go hc rfl rfl ?_
        refine xr_v_1 hc rfl rfl (ew_own_p hn rfl) hD ?_
        refine xr_if_ne hc rfl (by decide) (fun c1 => ?_) (fun c1 => by exfalso; omega)
        refine xr_inc_6 hc rfl ?_
        refine xr_go hc rfl rfl ?_
        refine xr_go hc rfl rfl ?_
        refine xr_v_2 hc rfl rfl (ew_own_p hn rfl) (m_takes0 hn hT3 e3' (by omega) (by decide) h59) ?_
        refine xr_s1_7 hc rfl rfl rfl ?_
        refine xr_go hc rfl rfl ?_
        refine ew_X.mono (m_ra_90 hn hp3) ?_
        rintro r a b ⟨q0, q1, q2⟩
        rw [e]
        have e1' : s_fa [(p, s_hr B z p, (s_st B z p).2.2)] (X 5 2) = 0 := by
          rw [s_fa, if_pos hcb, s_fa]
        refine ⟨q1, fun _ => ⟨q0, h3, M3, hR3, hp3, q2⟩, fun q => absurd e1' q, fun x y hx => ?_⟩
        rw [q2, s_nr (by omega)]
        exact (ag3 x y (by omega)).trans (e2 x y (by omega))
    · have hD0 := m_dn0 hK hR2 hp2 hn ht f1 f2 f3 hcb
      refine xr_go hc rfl rfl ?_
      refine xr_go hc rfl rfl ?_
      refine xr_v_1 hc rfl rfl (ew_own_p hn rfl) hD0 ?_
      refine xr_if_ne hc rfl (by decide) (fun c1 => by exfalso; omega) (fun c1 => ?_)
      refine xr_go hc rfl rfl ?_
      refine xr_go hc rfl rfl ?_
      refine xr_pf (A := 38) rfl hc rfl (ew_own_p hn rfl) ?_
      refine xr_go hc rfl rfl ?_
      refine xr_go hc rfl rfl ?_
      refine xr_pf (A := 38) rfl hc rfl (ew_own_p hn rfl) ?_
      refine xr_go hc rfl rfl ?_
      refine xr_go hc rfl rfl ?_
      refine xr_pf (A := 38) rfl hc rfl (ew_own_p hn rfl) ?_
      refine xr_go hc rfl rfl ?_
      refine xr_gf2 (A := 38) rfl hc rfl (ew_own_p hn rfl) (ew_pm (v := 45) hp2 rfl) ?_
      refine xr_go hc rfl rfl ?_
      refine xr_go hc rfl rfl ?_
      refine xr_iast (A := 45) (N := 6) rfl rfl hc rfl (ew_own_p hn rfl) (by omega) (by omega) ?_
      refine xr_go hc rfl rfl ?_
      refine xr_gf2 (A := 38) rfl hc rfl (ew_own_p hn rfl) (ew_pm (v := 45) hp2 rfl) ?_
      refine xr_go hc rfl rfl ?_
      refine xr_go hc rfl rfl ?_
      refine xr_iast (A := 45) (N := 6) rfl rfl hc rfl (ew_own_p hn rfl) (by omega) (by omega) ?_
      refine xr_go hc rfl rfl ?_
      refine xr_go hc rfl rfl ?_
      refine xr_go hc rfl rfl ?_
      refine xr_ret hc rfl rfl ?_
      have e1' : ∃ T, (s_ps B z (j + 1) p).2.2 = (p, s_hr B z p, (s_st B z p).2.2) :: T := by
        by_cases h59 : s_hr B z (s_st B z p).2.1 = 59
        · rw [s_ps, if_pos hs, if_pos h59]
          exact ⟨_, rfl⟩
        · rw [s_ps, if_pos hs, if_neg h59]
          exact ⟨_, rfl⟩
      obtain ⟨T, e⟩ := e1'
      rw [e]
      have e2' : s_fa ((p, s_hr B z p, (s_st B z p).2.2) :: T) (X 5 2) = -300 - (p : Int) := by
        rw [s_fa, if_neg hcb]
      rw [e2']
      exact ⟨rfl, fun q => by exfalso; omega, fun _ => ⟨rfl, s_BK_SM hK0 e2 hB, s_rs_pm hp2⟩, fun x y hx => (s_rs_a (X := X0) (M := M2) (a := x) (j := y) (by omega)).trans (e2 x y (by omega))⟩
    

set_option maxRecDepth 20000 in
theorem m_rA {c nX n : Nat} {X M : ew_Mem} {h : Int → Nat} (hK : s_K c nX X) (hR : s_RM h X M) (hn : 59 ≤ n) {B : Nat → Int} {z : Nat} (hT : s_TM B z M) : ew_C 217 [(2, 38)] n M (fun r a b => a = n ∧ (((s_ps B z 27 0).1 = true ∧ s_fa (s_ps B z 27 0).2.2 (X 5 2) = 0) → r = some (0, ((s_ps B z 27 0).2.2.length : Int)) ∧ ∃ (h2 : Int → Nat) (M2 : ew_Mem), s_RM h2 (s_dos (s_ps B z 27 0).2.2 nX X).2 M2 ∧ ew_Pm M2 ∧ b = ew_wr M2 38 22 (M2 38 22 + 1)) ∧ (¬ ((s_ps B z 27 0).1 = true ∧ s_fa (s_ps B z 27 0).2.2 (X 5 2) = 0) → r = some (0, s_rf (s_ps B z 27 0) (X 5 2)) ∧ ∃ M2, s_RM h X M2 ∧ ew_Pm M2 ∧ b = M2) ∧ ∀ a j : Nat, (a < 38 ∨ 59 ≤ a) → b a j = M a j) := by
  obtain ⟨hp, hz1, hz8, hB53, hB⟩ := id hT
  have hc := ew_c_217
  show ew_X 217 0 [(2, 38), (5, 0), (5, 0), (5, 0), (5, 0), (5, 0), (5, 0), (5, 0), (5, 0)] [] n _ _
  refine xr_go hc rfl rfl ?_
  refine xr_go hc rfl rfl ?_
  refine xr_pf (A := 38) rfl hc rfl (ew_own_p hn rfl) ?_
  refine m_ra_1 hn 27 0 (ew_wr M 38 23 0) (s_TM_wr hT (by decide)) rfl (Nat.zero_le _) (by omega) (fun M' g1 g2 => ?_) (fun M' g1 g2 => ?_)
  · have g1 : s_SM M M' := s_SM_tr (s_SM_wr s_SM_rf (by decide)) g1
    have g3 : s_SM M (ew_wr M' 38 23 0) := s_SM_wr g1 (by decide)
    have hp2 := s_SM_pm g1 hp
    refine xr_go hc rfl rfl ?_
    refine xr_gf0 (A := 38) rfl hc rfl (ew_own_p hn rfl) (show _ = X 5 2 from (g1 38 5 (by omega)).trans hR.1.1) ?_
    refine xr_s1_1 hc rfl rfl rfl ?_
    refine xr_go hc rfl rfl ?_
    refine xr_gf0 (A := 38) rfl hc rfl (ew_own_p hn rfl) (show _ = X 5 3 from (g1 38 7 (by omega)).trans hR.1.2.1) ?_
    refine xr_s1_2 hc rfl rfl rfl ?_
    refine xr_go hc rfl rfl ?_
    refine xr_gf0 (A := 38) rfl hc rfl (ew_own_p hn rfl) (show _ = X 5 4 from (g1 38 8 (by omega)).trans hR.1.2.2.1) ?_
    refine xr_s1_3 hc rfl rfl rfl ?_
    refine xr_go hc rfl rfl ?_
    refine xr_gf2 (A := 38) rfl hc rfl (ew_own_p hn rfl) (ew_pm (v := 45) hp2 rfl) ?_
    refine xr_go hc rfl rfl ?_
    refine xr_iald (A := 45) (N := 6) rfl rfl hc rfl (ew_ok_p hn rfl) (by decide) (by decide) (show _ = X 7 0 from (g1 45 0 (by omega)).trans (hR.1.2.2.2 0 (by decide))) ?_
    refine xr_s1_4 hc rfl rfl rfl ?_
    refine xr_go hc rfl rfl ?_
    refine xr_gf2 (A := 38) rfl hc rfl (ew_own_p hn rfl) (ew_pm (v := 45) hp2 rfl) ?_
    refine xr_go hc rfl rfl ?_
    refine xr_iald (A := 45) (N := 6) rfl rfl hc rfl (ew_ok_p hn rfl) (by decide) (by decide) (show _ = X 7 1 from (g1 45 1 (by omega)).trans (hR.1.2.2.2 1 (by decide))) ?_
    refine xr_s1_5 hc rfl rfl rfl ?_
    refine xr_go hc rfl rfl ?_
    refine xr_s1_6 hc rfl rfl rfl ?_
    refine xr_go hc rfl rfl ?_
    refine xr_go hc rfl rfl ?_
    refine xr_pf (A := 38) rfl hc rfl (ew_own_p hn rfl) ?_
    refine xr_go hc rfl rfl ?_
    refine xr_s1_7 hc rfl rfl rfl ?_
    have hg := m_ra_2 hn hK 27 0 c nX X (ew_wr M' 38 23 0) h 0 (5, 0) hK (s_SM_R hK g3 hR) (s_BK_0 hK (s_SM_R hK g3 hR)) (Int.le_refl _) (s_SM_TM g3 hT) rfl (Nat.zero_le _) g2
    refine ew_X.mono hg ?_
    rintro r a b ⟨q0, q1, q2, q9⟩
    refine ⟨q0, fun q => ?_, fun q => ?_, fun x y hx => (q9 x y hx).trans (g3 x y (by omega))⟩
    · have q3 := q1 q.2
      rw [Int.zero_add] at q3
      exact q3
    · have q3 := q2 (fun qq => q ⟨g2, qq⟩)
      unfold s_rf
      rw [if_pos g2]
      exact ⟨q3.1, b, q3.2.1, q3.2.2, rfl⟩
  · have g1 : s_SM M M' := s_SM_tr (s_SM_wr s_SM_rf (by decide)) g1
    refine ⟨rfl, fun q => ?_, fun _ => ⟨?_, M', s_SM_R hK g1 hR, s_SM_pm g1 hp, rfl⟩, fun x y hx => g1 x y (by omega)⟩
    · rw [g2] at q
      cases q.1
    · unfold s_rf
      rw [g2]
      rfl

set_option maxRecDepth 20000 in
theorem mx_read {c nX n : Nat} {X M : ew_Mem} {h : Int → Nat} (hK : s_K c nX X) (hR : s_RM h X M) (hn : 59 ≤ n) {B : Nat → Int} {z : Nat} (hT : s_TM B z M) : ew_C 216 [(2, 38)] n M (fun r a b => a = n ∧ (((s_ps B z 27 0).1 = true ∧ s_fa (s_ps B z 27 0).2.2 (X 5 2) = 0) → r = some (0, ((s_ps B z 27 0).2.2.length : Int)) ∧ ∃ (h2 : Int → Nat) (M2 : ew_Mem), s_RM h2 (s_dos (s_ps B z 27 0).2.2 nX X).2 M2 ∧ ew_Pm M2 ∧ b = ew_wr (ew_wr M2 38 22 (M2 38 22 + 1)) 38 21 0) ∧ (¬ ((s_ps B z 27 0).1 = true ∧ s_fa (s_ps B z 27 0).2.2 (X 5 2) = 0) → r = some (0, s_rf (s_ps B z 27 0) (X 5 2)) ∧ ∃ M2, s_RM h X M2 ∧ ew_Pm M2 ∧ b = ew_wr M2 38 21 0) ∧ ∀ a j : Nat, (a < 38 ∨ 59 ≤ a) → b a j = M a j) := by
  have hp := hT.1
  have hc := ew_c_216
  show ew_X 216 0 [(2, 38), (5, 0)] [] n _ _
  refine xr_go hc rfl rfl ?_
  refine xr_vC_1 hc rfl rfl (ew_own_p hn rfl) (m_rA hK hR hn hT) ?_
  rintro w n2 M9 ⟨e0, e1, e2, e3⟩
  obtain rfl := e0.symm
  have e4 : ∀ a j : Nat, (a < 38 ∨ 59 ≤ a) → ew_wr M9 38 21 0 a j = M a j := fun a j q => (s_nr (by omega)).trans (e3 a j q)
  by_cases hq : (s_ps B z 27 0).1 = true ∧ s_fa (s_ps B z 27 0).2.2 (X 5 2) = 0
  · obtain ⟨r1, h2, M2, r2, r3, r4⟩ := e1 hq
    subst r1
    show ew_X 216 4 _ [(0, ((s_ps B z 27 0).2.2.length : Int))] _ _ _
    refine xr_s1_1 hc rfl rfl rfl ?_
    refine xr_go hc rfl rfl ?_
    refine xr_go hc rfl rfl ?_
    refine xr_pf (A := 38) rfl hc rfl (ew_own_p hn rfl) ?_
    refine xr_go hc rfl rfl ?_
    refine xr_ret hc rfl rfl ?_
    exact ⟨rfl, fun _ => ⟨rfl, h2, M2, r2, r3, by rw [r4]⟩, fun q => absurd hq q, e4⟩
  · obtain ⟨r1, M2, r2, r3, r4⟩ := e2 hq
    subst r1
    show ew_X 216 4 _ [(0, s_rf (s_ps B z 27 0) (X 5 2))] _ _ _
    refine xr_s1_1 hc rfl rfl rfl ?_
    refine xr_go hc rfl rfl ?_
    refine xr_go hc rfl rfl ?_
    refine xr_pf (A := 38) rfl hc rfl (ew_own_p hn rfl) ?_
    refine xr_go hc rfl rfl ?_
    refine xr_ret hc rfl rfl ?_
    exact ⟨rfl, fun q => absurd q hq, fun _ => ⟨rfl, M2, r2, r3, by rw [r4]⟩, e4⟩
  

