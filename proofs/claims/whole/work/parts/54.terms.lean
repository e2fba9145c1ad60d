/-! the reference: terms, convergents -/
set_option maxRecDepth 20000 in
theorem m_terms_1 {n : Nat} {M : ew_Mem} {w : Int} (hn : 59 ≤ n) (hp : ew_Pm M) : ∀ (f : Nat) (x y : Int) (P : List Int) (q : ew_AV), (0 ≤ x ∧ x < 2147483648) → (0 ≤ y ∧ y < 2147483648) → s_EB f x y → P.length + f ≤ 64 →
    ew_X 190 27 [(2, 38), (0, w), (0, x), (0, y), (0, (P.length : Int)), q] [] n (s_put M 49 P) (fun r a b => r = some (0, ((P ++ s_tl f x y).length : Int)) ∧ a = n ∧ b = s_put M 49 (P ++ s_tl f x y)) := by
  have hc := ew_c_190
  intro f
  induction f with
  | zero =>
    intro x y P q hx hy hE hl
    have hy0 : y = 0 := hE
    refine xr_go hc rfl rfl ?_
    refine xr_if_le hc rfl (by omega) (fun c1 => ?_) (fun c1 => ?_)
    · skip
      refine xr_go hc rfl rfl ?_
      refine xr_ret hc rfl rfl ?_
      exact ⟨by rw [s_tl, List.append_nil], rfl, by rw [s_tl, List.append_nil]⟩
    · exfalso; omega
  | succ f ih =>
    intro x y P q hx hy hE hl
    have hp2 : ew_Pm (s_put M 49 P) := s_Fr_pm (s_put_fr s_Fr_rfl (s_scr_c rfl)) hp
    by_cases hy0 : y = 0
    · skip
      refine xr_go hc rfl rfl ?_
      refine xr_if_le hc rfl (by omega) (fun c1 => ?_) (fun c1 => ?_)
      · skip
        refine xr_go hc rfl rfl ?_
        refine xr_ret hc rfl rfl ?_
        exact ⟨by rw [s_tl, if_neg (by omega), List.append_nil], rfl, by rw [s_tl, if_neg (by omega), List.append_nil]⟩
      · exfalso; omega
    · have hE2 : 0 < y ∧ s_EB f y (x % y) := hE.elim (fun h => absurd h hy0) id
      have g1 := Int.emod_nonneg x hy0
      have g2 := Int.emod_lt_of_pos x hE2.1
      refine xr_go hc rfl rfl ?_
      refine xr_if_le hc rfl (by omega) (fun c1 => ?_) (fun c1 => ?_)
      · exfalso; omega
      · skip
        refine xr_go hc rfl rfl ?_
        refine xr_gf2 (A := 38) rfl hc rfl (ew_own_p hn rfl) (ew_pm (v := 49) hp2 rfl) ?_
        refine xr_go hc rfl rfl ?_
        refine xr_go hc rfl rfl ?_
        refine xr_go hc rfl rfl ?_
        refine xr_idiv hc rfl (by omega) (by omega) ?_
        refine xr_iast (A := 49) (N := 64) rfl rfl hc rfl (ew_own_p hn rfl) (by omega) (by omega) ?_
        refine xr_go hc rfl rfl ?_
        refine xr_go hc rfl rfl ?_
        refine xr_irem hc rfl (by omega) (by omega) ?_
        refine xr_s1_5 hc rfl rfl rfl ?_
        refine xr_go hc rfl rfl ?_
        refine xr_s1_2 hc rfl rfl rfl ?_
        refine xr_go hc rfl rfl ?_
        refine xr_s1_3 hc rfl rfl rfl ?_
        refine xr_inc_4 hc rfl ?_
        refine xr_go hc rfl rfl ?_
        rw [Int.toNat_natCast, s_put_wr, show ((P.length : Int) + 1) = (((P ++ [x / y]).length : Nat) : Int) by simp, s_tl, if_pos hE2.1, show P ++ x / y :: s_tl f y (x % y) = (P ++ [x / y]) ++ s_tl f y (x % y) by simp]
        exact ih y (x % y) (P ++ [x / y]) _ (by omega) (by omega) hE2.2 (by simp; omega)

set_option maxRecDepth 20000 in
theorem m_termsOf {V : ew_Mem} {n : Nat} {M : ew_Mem} (hM : s_M V n M) {w : Int} (hw : 0 ≤ w ∧ w < V 6 0)  : ew_FM 190 [(2, 38), (0, w)] n M (0, ((s_T (V w.toNat)).length : Int)) n (s_put M 49 (s_T (V w.toNat))) := by
  obtain ⟨hn, hp, hV, u0, u1, u2, u3, u4⟩ := id hM
  obtain ⟨hc6, hVW, hnd, hap, hr0, hr1, hr2, hr3, hr4, hr5⟩ := id hV
  have hc := ew_c_190
  obtain ⟨q0, q1, q2, q3, q4, q5⟩ := u4 w.toNat (by omega)
  have hWO := hVW w.toNat (by omega)
  obtain ⟨k0, k1, k2, k3, k4⟩ := id hWO
  show ew_X 190 0 [(2, 38), (0, w), (5, 0), (5, 0), (5, 0), (5, 0)] [] n M _
  refine xr_go hc rfl rfl ?_
  refine xr_gf2 (A := 38) (w := 41) rfl hc rfl (ew_own_p hn rfl) (ew_pm hp rfl) ?_
  refine xr_go hc rfl rfl ?_
  refine xr_gf2 (A := 38) (w := 44) rfl hc rfl (ew_own_p hn rfl) (ew_pm hp rfl) ?_
  refine xr_go hc rfl rfl ?_
  refine xr_iald (A := 44) (N := 6) rfl rfl hc rfl (ew_ok_p hn rfl) (by omega) (by omega) rfl ?_
  refine xr_iald (A := 41) (N := 64) rfl rfl hc rfl (ew_ok_p hn rfl) (by omega) (by omega) q3 ?_
  refine xr_s1_2 hc rfl rfl rfl ?_
  refine xr_go hc rfl rfl ?_
  refine xr_gf2 (A := 38) (w := 40) rfl hc rfl (ew_own_p hn rfl) (ew_pm hp rfl) ?_
  refine xr_go hc rfl rfl ?_
  refine xr_gf2 (A := 38) (w := 44) rfl hc rfl (ew_own_p hn rfl) (ew_pm hp rfl) ?_
  refine xr_go hc rfl rfl ?_
  refine xr_iald (A := 44) (N := 6) rfl rfl hc rfl (ew_ok_p hn rfl) (by omega) (by omega) rfl ?_
  refine xr_iald (A := 40) (N := 64) rfl rfl hc rfl (ew_ok_p hn rfl) (by omega) (by omega) q2 ?_
  refine xr_s1_3 hc rfl rfl rfl ?_
  refine xr_go hc rfl rfl ?_
  refine xr_s1_4 hc rfl rfl rfl ?_
  have hE : s_EB 64 (V w.toNat 2) (V w.toNat 1) := s_EB_le (by decide) (s_EB_of 17 k2.1 (by omega) (by omega))
  have h := m_terms_1 (w := w) hn hp 64 (V w.toNat 2) (V w.toNat 1) [] (5, 0) (by omega) (by omega) hE (by decide)
  rw [s_put_nil, List.nil_append] at h
  exact h

set_option maxRecDepth 20000 in
theorem mx_terms {V : ew_Mem} {n : Nat} {M : ew_Mem} (hM : s_M V n M) {w : Int} (hw : ew_in w) : ew_C 189 [(2, 38), (0, w)] n M (s_QF (0, s_a_terms V w) n M) := by
  obtain ⟨hn, hp, hV, u0, u1, u2, u3, u4⟩ := id hM
  obtain ⟨hc6, hVW, hnd, hap, hr0, hr1, hr2, hr3, hr4, hr5⟩ := id hV
  have hc := ew_c_189
  show ew_X 189 0 [(2, 38), (0, w)] [] n M _
  refine xr_go hc rfl rfl ?_
  refine xr_go hc rfl rfl ?_
  refine xr_v_2 hc rfl rfl (ew_own_p hn rfl) (m_isWheel hM hw) ?_
  refine xr_if_eq hc rfl (by split <;> omega) (fun c1 => ?_) (fun c1 => ?_)
  · skip
    refine xr_go hc rfl rfl ?_
    refine xr_ret hc rfl rfl ?_
    refine ⟨?_, rfl, ?_⟩
    focus
      unfold s_a_terms
      repeat' split
      all_goals first
        | rfl
        | (exfalso; omega)
    first
      | exact s_Fr_rfl
      | exact s_put_fr s_Fr_rfl (s_scr_c rfl)
  · skip
    refine xr_go hc rfl rfl ?_
    refine xr_go hc rfl rfl ?_
    refine xr_v_2 hc rfl rfl (ew_own_p hn rfl) (m_termsOf hM (by omega)) ?_
    refine xr_go hc rfl rfl ?_
    refine xr_ret hc rfl rfl ?_
    refine ⟨?_, rfl, ?_⟩
    focus
      unfold s_a_terms
      repeat' split
      all_goals first
        | rfl
        | (exfalso; omega)
    first
      | exact s_Fr_rfl
      | exact s_put_fr s_Fr_rfl (s_scr_c rfl)

set_option maxRecDepth 20000 in
theorem mx_term {V : ew_Mem} {n : Nat} {M : ew_Mem} (hM : s_M V n M) {w i : Int} (hw : ew_in w) (hi : ew_in i) : ew_C 191 [(2, 38), (0, w), (0, i)] n M (s_QF (0, s_a_term V w i) n M) := by
  obtain ⟨hn, hp, hV, u0, u1, u2, u3, u4⟩ := id hM
  obtain ⟨hc6, hVW, hnd, hap, hr0, hr1, hr2, hr3, hr4, hr5⟩ := id hV
  have hc := ew_c_191
  show ew_X 191 0 [(2, 38), (0, w), (0, i)] [] n M _
  refine xr_go hc rfl rfl ?_
  refine xr_go hc rfl rfl ?_
  refine xr_v_2 hc rfl rfl (ew_own_p hn rfl) (m_isWheel hM hw) ?_
  refine xr_if_eq hc rfl (by split <;> omega) (fun c1 => ?_) (fun c1 => ?_)
  · skip
    refine xr_go hc rfl rfl ?_
    refine xr_ret hc rfl rfl ?_
    refine ⟨?_, rfl, ?_⟩
    focus
      unfold s_a_term
      first
        | (rw [if_pos (by omega)]; done)
        | (rw [if_neg (by omega)]; done)
        | (rw [if_pos (by omega), s_nth_outI (by omega)]; done)
    first
      | exact s_Fr_rfl
      | exact s_put_fr s_Fr_rfl (s_scr_c rfl)
  · skip
    refine xr_go hc rfl rfl ?_
    refine xr_i2l hc rfl (by omega) ?_
    refine xr_go hc rfl rfl ?_
    refine xr_go hc rfl rfl ?_
    refine xr_go hc rfl rfl ?_
    refine xr_v_2 hc rfl rfl (ew_own_p hn rfl) (m_termsOf hM (by omega)) ?_
    have hfr : s_Fr M (s_put M 49 (s_T (V w.toNat))) := s_put_fr s_Fr_rfl (s_scr_c rfl)
    have hp2 : ew_Pm (s_put M 49 (s_T (V w.toNat))) := s_Fr_pm hfr hp
    have hlen := s_tl_len 64 (V w.toNat 2) (V w.toNat 1)
    have hlen2 : (s_T (V w.toNat)).length ≤ 64 := hlen
    refine xr_go hc rfl rfl ?_
    refine xr_go hc rfl rfl ?_
    refine xr_i2l hc rfl (by omega) ?_
    refine xr_s_3 hc rfl rfl (c_in (by omega) (by decide) (by omega)) ?_
    refine xr_if_eq hc rfl (by split <;> omega) (fun c2 => ?_) (fun c2 => ?_)
    · skip
      refine xr_go hc rfl rfl ?_
      refine xr_ret hc rfl rfl ?_
      refine ⟨?_, rfl, ?_⟩
      focus
        unfold s_a_term
        first
          | (rw [if_pos (by omega)]; done)
          | (rw [if_neg (by omega)]; done)
          | (rw [if_pos (by omega), s_nth_outI (by omega)]; done)
      first
        | exact s_Fr_rfl
        | exact s_put_fr s_Fr_rfl (s_scr_c rfl)
    · skip
      refine xr_go hc rfl rfl ?_
      refine xr_gf2 (A := 38) rfl hc rfl (ew_own_p hn rfl) (ew_pm (v := 49) hp2 rfl) ?_
      refine xr_go hc rfl rfl ?_
      refine xr_iald (A := 49) (N := 64) rfl rfl hc rfl (ew_ok_p hn rfl) (by omega) (by omega) (s_nth_put (by omega)) ?_
      refine xr_go hc rfl rfl ?_
      refine xr_ret hc rfl rfl ?_
      refine ⟨?_, rfl, ?_⟩
      focus
        unfold s_a_term
        first
          | (rw [if_pos (by omega)]; done)
          | (rw [if_neg (by omega)]; done)
          | (rw [if_pos (by omega), s_nth_outI (by omega)]; done)
      first
        | exact s_Fr_rfl
        | exact s_put_fr s_Fr_rfl (s_scr_c rfl)

theorem s_cv_rd {M : ew_Mem} {T : List Int} {t : Nat} (h : t < T.length) : s_put M 49 T 49 (((t + 1 : Nat) : Int) - 1).toNat = s_nth T (t : Int) := by
  rw [show (((t + 1 : Nat) : Int) - 1) = (t : Int) by omega]
  exact s_nth_put (by omega)
theorem s_nth_inT {T : List Int} (hT : ∀ a ∈ T, 0 ≤ a ∧ a < 2147483648) {i : Int} (h : 0 ≤ i ∧ i < (T.length : Int)) : ew_in (s_nth T i) := by
  have e : s_nth T i = T[i.toNat]'(by omega) := by
    unfold s_nth
    rw [if_pos h.1, List.getD_eq_getElem?_getD, List.getElem?_eq_getElem (by omega)]
    rfl
  have := hT _ (List.getElem_mem (show i.toNat < T.length by omega))
  rw [e]
  exact ⟨by omega, by omega⟩
set_option maxRecDepth 20000 in
theorem mx_cvg_1 {n : Nat} {M : ew_Mem} {T : List Int} {w i x : Int} (hn : 59 ≤ n) (hp2 : ew_Pm (s_put M 49 T)) (hi : 0 ≤ i ∧ i < (T.length : Int)) (hl : T.length ≤ 64) (hT : ∀ a ∈ T, 0 ≤ a ∧ a < 2147483648) (hx : x = 0 ∨ x = 1) : ∀ (t : Nat) (q : ew_AV), (t : Int) ≤ i →
    ew_X 192 56 [(2, 38), (0, w), (0, i), (0, x), (1, (s_bw (s_sl T i.toNat t)).1), (5, 0), (1, (s_bw (s_sl T i.toNat t)).2), (5, 0), (0, (t : Int) - 1), q, (5, 0)] [] n (s_put M 49 T) (fun r a b => r = some (1, s_cvg T i.toNat x) ∧ a = n ∧ b = s_put M 49 T) := by
  have hc := ew_c_192
  intro t
  induction t with
  | zero =>
    intro q ht
    refine xr_go hc rfl rfl ?_
    refine xr_if_lt hc rfl (by omega) (fun c1 => ?_) (fun c1 => ?_)
    · skip
      refine xr_go hc rfl rfl ?_
      refine xr_if_ne hc rfl (by omega) (fun c2 => ?_) (fun c2 => ?_)
      · skip
        refine xr_go hc rfl rfl ?_
        refine xr_ret hc rfl rfl ?_
        refine ⟨?_, rfl, rfl⟩
        unfold s_cvg
        first
          | rw [if_pos (by omega)]
          | rw [if_neg (by omega)]
      · skip
        refine xr_go hc rfl rfl ?_
        refine xr_go hc rfl rfl ?_
        refine xr_ret hc rfl rfl ?_
        refine ⟨?_, rfl, rfl⟩
        unfold s_cvg
        first
          | rw [if_pos (by omega)]
          | rw [if_neg (by omega)]
    · exfalso; omega
  | succ t ih =>
    intro q ht
    have hsl := s_sl_cons (T := T) (t := i.toNat) (j := t) (by omega) (by omega)
    have hb : s_bw (s_sl T i.toNat t) = (s_nth T (t : Int) * (s_bw (s_sl T i.toNat (t + 1))).1 + (s_bw (s_sl T i.toNat (t + 1))).2, (s_bw (s_sl T i.toNat (t + 1))).1) := by rw [hsl, s_bw]
    rw [hb] at ih
    have hnb := s_nth_inT hT (i := (t : Int)) (by omega)
    refine xr_go hc rfl rfl ?_
    refine xr_if_lt hc rfl (by omega) (fun c1 => ?_) (fun c1 => ?_)
    · exfalso; omega
    · skip
      refine xr_go hc rfl rfl ?_
      refine xr_s2_9 hc rfl rfl rfl ?_
      refine xr_go hc rfl rfl ?_
      refine xr_gf2 (A := 38) rfl hc rfl (ew_own_p hn rfl) (ew_pm (v := 49) hp2 rfl) ?_
      refine xr_go hc rfl rfl ?_
      refine xr_iald (A := 49) (N := 64) rfl rfl hc rfl (ew_ok_p hn rfl) (by omega) (by omega) (s_cv_rd (by omega)) ?_
      refine xr_i2l hc rfl hnb ?_
      refine xr_go hc rfl rfl ?_
      refine xr_go hc rfl rfl ?_
      refine xr_go hc rfl rfl ?_
      refine xr_go hc rfl rfl ?_
      refine xr_s2_4 hc rfl rfl rfl ?_
      refine xr_go hc rfl rfl ?_
      refine xr_s2_6 hc rfl rfl rfl ?_
      refine xr_inc_8 hc rfl ?_
      refine xr_go hc rfl rfl ?_
      rw [show ((t + 1 : Nat) : Int) - 1 + -1 = (t : Int) - 1 by omega]
      exact ih _ (by omega)

set_option maxRecDepth 20000 in
theorem mx_cvg {V : ew_Mem} {n : Nat} {M : ew_Mem} (hM : s_M V n M) {w i x : Int} (hw : ew_in w) (hi : ew_in i) (hx : ew_in x) : ew_C 192 [(2, 38), (0, w), (0, i), (0, x)] n M (s_QF (1, s_a_cvg V w i x) n M) := by
  obtain ⟨hn, hp, hV, u0, u1, u2, u3, u4⟩ := id hM
  obtain ⟨hc6, hVW, hnd, hap, hr0, hr1, hr2, hr3, hr4, hr5⟩ := id hV
  have hc := ew_c_192
  show ew_X 192 0 [(2, 38), (0, w), (0, i), (0, x), (5, 0), (5, 0), (5, 0), (5, 0), (5, 0), (5, 0), (5, 0)] [] n M _
  refine xr_go hc rfl rfl ?_
  refine xr_go hc rfl rfl ?_
  refine xr_v_2 hc rfl rfl (ew_own_p hn rfl) (m_isWheel hM hw) ?_
  refine xr_if_eq hc rfl (by split <;> omega) (fun c1 => ?_) (fun c1 => ?_)
  · skip
    refine xr_go hc rfl rfl ?_
    refine xr_ret hc rfl rfl ?_
    refine ⟨?_, rfl, ?_⟩
    focus
      unfold s_a_cvg
      rw [if_neg (by omega)]
      rfl
    first
      | exact s_Fr_rfl
      | exact s_put_fr s_Fr_rfl (s_scr_c rfl)
  · skip
    refine xr_go hc rfl rfl ?_
    refine xr_i2l hc rfl (by omega) ?_
    refine xr_go hc rfl rfl ?_
    refine xr_go hc rfl rfl ?_
    refine xr_go hc rfl rfl ?_
    refine xr_v_2 hc rfl rfl (ew_own_p hn rfl) (m_termsOf hM (by omega)) ?_
    have hfr : s_Fr M (s_put M 49 (s_T (V w.toNat))) := s_put_fr s_Fr_rfl (s_scr_c rfl)
    have hp2 : ew_Pm (s_put M 49 (s_T (V w.toNat))) := s_Fr_pm hfr hp
    have hlen := s_tl_len 64 (V w.toNat 2) (V w.toNat 1)
    have hlen2 : (s_T (V w.toNat)).length ≤ 64 := hlen
    refine xr_go hc rfl rfl ?_
    refine xr_go hc rfl rfl ?_
    refine xr_i2l hc rfl (by omega) ?_
    refine xr_s_3 hc rfl rfl (c_in (by omega) (by decide) (by omega)) ?_
    refine xr_if_eq hc rfl (by split <;> omega) (fun c2 => ?_) (fun c2 => ?_)
    · skip
      refine xr_go hc rfl rfl ?_
      refine xr_ret hc rfl rfl ?_
      refine ⟨?_, rfl, ?_⟩
      focus
        unfold s_a_cvg
        rw [if_neg (by omega)]
        rfl
      first
        | exact s_Fr_rfl
        | exact s_put_fr s_Fr_rfl (s_scr_c rfl)
    · skip
      refine xr_go hc rfl rfl ?_
      refine xr_i2l hc rfl (by omega) ?_
      refine xr_go hc rfl rfl ?_
      refine xr_go hc rfl rfl ?_
      refine xr_s_3 hc rfl rfl (c_in (by omega) (by decide) (by omega)) ?_
      refine xr_if_ne hc rfl (by split <;> omega) (fun c3 => ?_) (fun c3 => ?_)
      · skip
        have hTb := s_T_bd (hVW w.toNat (by omega))
        have hnb := s_nth_inT hTb (i := i) (by omega)
        refine xr_go hc rfl rfl ?_
        refine xr_gf2 (A := 38) rfl hc rfl (ew_own_p hn rfl) (ew_pm (v := 49) hp2 rfl) ?_
        refine xr_go hc rfl rfl ?_
        refine xr_iald (A := 49) (N := 64) rfl rfl hc rfl (ew_ok_p hn rfl) (by omega) (by omega) (s_nth_put (by omega)) ?_
        refine xr_i2l hc rfl hnb ?_
        refine xr_s2_4 hc rfl rfl rfl ?_
        refine xr_go hc rfl rfl ?_
        refine xr_s2_6 hc rfl rfl rfl ?_
        refine xr_go hc rfl rfl ?_
        refine xr_go hc rfl rfl ?_
        refine xr_go hc rfl rfl ?_
        refine xr_s1_8 hc rfl rfl rfl ?_
        have h := mx_cvg_1 (w := w) (i := i) (x := x) (M := M) hn hp2 (by omega) hlen2 hTb (by omega) i.toNat (5, 0) (by omega)
        rw [s_sl_cons (Nat.le_refl _) (by omega), s_sl_nil, Int.toNat_of_nonneg (by omega)] at h
        unfold s_a_cvg
        rw [if_pos (by omega)]
        have e1 : (s_bw [s_nth (s_T (V w.toNat)) i]).1 = s_nth (s_T (V w.toNat)) i := by show _ * 1 + 0 = _; omega
        have e2 : (s_bw [s_nth (s_T (V w.toNat)) i]).2 = 1 := rfl
        rw [e1, e2] at h
        exact ew_X.mono h (fun r n' M' q => ⟨q.1, q.2.1, by rw [q.2.2]; exact hfr⟩)
      · skip
        refine xr_go hc rfl rfl ?_
        refine xr_ret hc rfl rfl ?_
        refine ⟨?_, rfl, ?_⟩
        focus
          unfold s_a_cvg
          rw [if_neg (by omega)]
          rfl
        first
          | exact s_Fr_rfl
          | exact s_put_fr s_Fr_rfl (s_scr_c rfl)

