/-! the reference: the nearest fraction, periods, meetings -/
theorem s_by_min {W : Nat → Int} (h : 2 ≤ W 1) (d : Int) : s_by W d = min (W 2 * d % W 1) (W 1 - W 2 * d % W 1) := by
  have g1 := Int.emod_nonneg (W 2 * d) (show W 1 ≠ 0 by omega)
  have g2 := Int.emod_lt_of_pos (W 2 * d) (show 0 < W 1 by omega)
  have h1 := s_nege (x := W 2 * d % W 1) (y := W 1) (by omega)
  have h2 : W 2 * d % W 1 % W 1 = W 2 * d % W 1 := Int.emod_eq_of_lt g1 g2
  unfold s_by s_near
  rw [Int.sub_zero, Int.zero_sub, h1, h2]
  split <;> omega
theorem s_j3 (j : Nat) : (j : Int) + 2 + 1 = ((j + 1 : Nat) : Int) + 2 := by omega
set_option maxRecDepth 20000 in
theorem m_nst_1 {V : ew_Mem} {n : Nat} {M : ew_Mem} (hM : s_M V n M) {w : Int} (hw : 0 ≤ w ∧ w < V 6 0) {most : Int} (hm : 1 ≤ most ∧ most ≤ 1000) : ∀ (jj j : Nat) (q q2 : ew_AV), ((j : Int) + 1) + (jj : Int) = most →
    ew_X 193 49 [(2, 38), (0, w), (0, most), (1, V w.toNat 1), (5, 0), (0, (s_nst (V w.toNat) j).1), (1, (s_nst (V w.toNat) j).2), (5, 0), (0, (j : Int) + 2), q, (5, 0), q2, (5, 0)] [] n M (fun r a b => r = some (0, (s_nst (V w.toNat) (most - 1).toNat).1) ∧ a = n ∧ b = M) := by
  obtain ⟨hn, hp, hV, u0, u1, u2, u3, u4⟩ := id hM
  obtain ⟨hc6, hVW, hnd, hap, hr0, hr1, hr2, hr3, hr4, hr5⟩ := id hV
  obtain ⟨q0, q1, q2, q3, q4, q5⟩ := u4 w.toNat (by omega)
  have hWO := hVW w.toNat (by omega)
  obtain ⟨k0, k1, k2, k3, k4⟩ := id hWO
  have hc := ew_c_193
  intro jj
  induction jj with
  | zero =>
    intro j q q2 hj
    obtain ⟨hb1, hb2⟩ := s_nst_bd hWO j
    refine xr_go hc rfl rfl ?_
    refine xr_go hc rfl rfl ?_
    refine xr_icmp_gt hc rfl (by omega) (by omega) (fun c1 => ?_) (fun c1 => ?_)
    · skip
      refine xr_go hc rfl rfl ?_
      refine xr_ret hc rfl rfl ?_
      exact ⟨by rw [show (most - 1).toNat = j by omega], rfl, rfl⟩
    · exfalso; omega
  | succ jj ih =>
    intro j q q2 hj
    obtain ⟨hb1, hb2⟩ := s_nst_bd hWO j
    have hx1 := s_mul_bd (a := (s_nst (V w.toNat) j).2) (b := ((j : Int) + 2)) (A := 100000) (B := 1001) (by omega) (by omega)
    have hx2 := s_mul_bd (a := min (V w.toNat 2 * ((j : Int) + 2) % V w.toNat 1) (V w.toNat 1 - V w.toNat 2 * ((j : Int) + 2) % V w.toNat 1)) (b := (s_nst (V w.toNat) j).1) (A := 100000) (B := 1001) (by have g1 := Int.emod_nonneg (V w.toNat 2 * ((j : Int) + 2)) (show V w.toNat 1 ≠ 0 by omega); have g2 := Int.emod_lt_of_pos (V w.toNat 2 * ((j : Int) + 2)) (show 0 < V w.toNat 1 by omega); omega) (by omega)
    have hby := s_by_min (W := V w.toNat) (by omega) ((j : Int) + 2)
    have g1 := Int.emod_nonneg (V w.toNat 2 * ((j : Int) + 2)) (show V w.toNat 1 ≠ 0 by omega)
    have g2 := Int.emod_lt_of_pos (V w.toNat 2 * ((j : Int) + 2)) (show 0 < V w.toNat 1 by omega)
    have hm0 := Int.mul_nonneg k2.1 (show 0 ≤ ((j : Int) + 2) by omega)
    have hmul := s_mul_bd (a := V w.toNat 2) (b := ((j : Int) + 2)) (A := 99999) (B := 1001) k2 (by omega)
    refine xr_go hc rfl rfl ?_
    refine xr_go hc rfl rfl ?_
    refine xr_icmp_gt hc rfl (by omega) (by omega) (fun c1 => ?_) (fun c1 => ?_)
    · exfalso; omega
    · skip
      refine xr_go hc rfl rfl ?_
      refine xr_gf2 (A := 38) (w := 41) rfl hc rfl (ew_own_p hn rfl) (ew_pm hp rfl) ?_
      refine xr_go hc rfl rfl ?_
      refine xr_gf2 (A := 38) (w := 44) rfl hc rfl (ew_own_p hn rfl) (ew_pm hp rfl) ?_
      refine xr_go hc rfl rfl ?_
      refine xr_iald (A := 44) (N := 6) rfl rfl hc rfl (ew_ok_p hn rfl) (by omega) (by omega) rfl ?_
      refine xr_iald (A := 41) (N := 64) rfl rfl hc rfl (ew_ok_p hn rfl) (by omega) (by omega) q3 ?_
      refine xr_i2l hc rfl (by omega) ?_
      refine xr_go hc rfl rfl ?_
      refine xr_i2l hc rfl (by omega) ?_
      refine xr_go hc rfl rfl ?_
      refine xr_go hc rfl rfl ?_
      refine xr_lremN hc rfl (by omega) (by omega) ?_
      refine xr_s2_9 hc rfl rfl rfl ?_
      refine xr_go hc rfl rfl ?_
      refine xr_go hc rfl rfl ?_
      refine xr_go hc rfl rfl ?_
      refine xr_go hc rfl rfl ?_
      refine xr_s_2 hc rfl rfl (c_minJ (by omega) (by omega)) ?_
      refine xr_s2_11 hc rfl rfl rfl ?_
      refine xr_go hc rfl rfl ?_
      refine xr_go hc rfl rfl ?_
      refine xr_l_lt hc rfl rfl (by omega) (by decide) (fun c2 => ?_) (fun c2 => ?_)
      · exfalso; omega
      · skip
        refine xr_go hc rfl rfl ?_
        refine xr_go hc rfl rfl ?_
        refine xr_i2l hc rfl (by omega) ?_
        refine xr_go hc rfl rfl ?_
        refine xr_go hc rfl rfl ?_
        refine xr_go hc rfl rfl ?_
        refine xr_i2l hc rfl (by omega) ?_
        refine xr_go hc rfl rfl ?_
        refine xr_l_ge hc rfl rfl (by omega) (by omega) (fun c3 => ?_) (fun c3 => ?_)
        · skip
          refine xr_inc_8 hc rfl ?_
          refine xr_go hc rfl rfl ?_
          rw [s_j3]
          have hnx : s_nst (V w.toNat) (j + 1) = if s_by (V w.toNat) ((j : Int) + 2) * (s_nst (V w.toNat) j).1 < (s_nst (V w.toNat) j).2 * ((j : Int) + 2) then ((j : Int) + 2, s_by (V w.toNat) ((j : Int) + 2)) else s_nst (V w.toNat) j := rfl
          have ih2 := fun q1 q2 => ih (j + 1) q1 q2 (by omega)
          rw [hnx] at ih2
          first
            | (rw [if_pos (by rw [hby]; omega), hby] at ih2
               exact ih2 _ _)
            | (rw [if_neg (by rw [hby]; omega)] at ih2
               exact ih2 _ _)
        · skip
          refine xr_go hc rfl rfl ?_
          refine xr_s2_6 hc rfl rfl rfl ?_
          refine xr_go hc rfl rfl ?_
          refine xr_s1_5 hc rfl rfl rfl ?_
          refine xr_inc_8 hc rfl ?_
          refine xr_go hc rfl rfl ?_
          rw [s_j3]
          have hnx : s_nst (V w.toNat) (j + 1) = if s_by (V w.toNat) ((j : Int) + 2) * (s_nst (V w.toNat) j).1 < (s_nst (V w.toNat) j).2 * ((j : Int) + 2) then ((j : Int) + 2, s_by (V w.toNat) ((j : Int) + 2)) else s_nst (V w.toNat) j := rfl
          have ih2 := fun q1 q2 => ih (j + 1) q1 q2 (by omega)
          rw [hnx] at ih2
          first
            | (rw [if_pos (by rw [hby]; omega), hby] at ih2
               exact ih2 _ _)
            | (rw [if_neg (by rw [hby]; omega)] at ih2
               exact ih2 _ _)

set_option maxRecDepth 20000 in
theorem m_nst_0 {V : ew_Mem} {n : Nat} {M : ew_Mem} (hM : s_M V n M) {w : Int} (hw : 0 ≤ w ∧ w < V 6 0) {most : Int} (hm : 1 ≤ most ∧ most ≤ 1000) :
    ew_X 193 49 [(2, 38), (0, w), (0, most), (1, V w.toNat 1), (5, 0), (0, 1), (1, -1), (5, 0), (0, 1), (5, 0), (5, 0), (5, 0), (5, 0)] [] n M (fun r a b => r = some (0, (s_nst (V w.toNat) (most - 1).toNat).1) ∧ a = n ∧ b = M) := by
  obtain ⟨hn, hp, hV, u0, u1, u2, u3, u4⟩ := id hM
  obtain ⟨hc6, hVW, hnd, hap, hr0, hr1, hr2, hr3, hr4, hr5⟩ := id hV
  obtain ⟨q0, q1, q2, q3, q4, q5⟩ := u4 w.toNat (by omega)
  have hWO := hVW w.toNat (by omega)
  obtain ⟨k0, k1, k2, k3, k4⟩ := id hWO
  have hc := ew_c_193
  have hby := s_by_min (W := V w.toNat) (by omega) 1
  have g1 := Int.emod_nonneg (V w.toNat 2 * 1) (show V w.toNat 1 ≠ 0 by omega)
  have g2 := Int.emod_lt_of_pos (V w.toNat 2 * 1) (show 0 < V w.toNat 1 by omega)
  have hm0 := Int.mul_nonneg k2.1 (show 0 ≤ 1 by omega)
  have hmul := s_mul_bd (a := V w.toNat 2) (b := 1) (A := 99999) (B := 1001) k2 (by omega)
  refine xr_go hc rfl rfl ?_
  refine xr_go hc rfl rfl ?_
  refine xr_icmp_gt hc rfl (by omega) (by omega) (fun c1 => ?_) (fun c1 => ?_)
  · exfalso; omega
  · skip
    refine xr_go hc rfl rfl ?_
    refine xr_gf2 (A := 38) (w := 41) rfl hc rfl (ew_own_p hn rfl) (ew_pm hp rfl) ?_
    refine xr_go hc rfl rfl ?_
    refine xr_gf2 (A := 38) (w := 44) rfl hc rfl (ew_own_p hn rfl) (ew_pm hp rfl) ?_
    refine xr_go hc rfl rfl ?_
    refine xr_iald (A := 44) (N := 6) rfl rfl hc rfl (ew_ok_p hn rfl) (by omega) (by omega) rfl ?_
    refine xr_iald (A := 41) (N := 64) rfl rfl hc rfl (ew_ok_p hn rfl) (by omega) (by omega) q3 ?_
    refine xr_i2l hc rfl (by omega) ?_
    refine xr_go hc rfl rfl ?_
    refine xr_i2l hc rfl (by omega) ?_
    refine xr_go hc rfl rfl ?_
    refine xr_go hc rfl rfl ?_
    refine xr_lremN hc rfl (by omega) (by omega) ?_
    refine xr_s2_9 hc rfl rfl rfl ?_
    refine xr_go hc rfl rfl ?_
    refine xr_go hc rfl rfl ?_
    refine xr_go hc rfl rfl ?_
    refine xr_go hc rfl rfl ?_
    refine xr_s_2 hc rfl rfl (c_minJ (by omega) (by omega)) ?_
    refine xr_s2_11 hc rfl rfl rfl ?_
    refine xr_go hc rfl rfl ?_
    refine xr_go hc rfl rfl ?_
    refine xr_l_lt hc rfl rfl (by omega) (by decide) (fun c2 => ?_) (fun c2 => ?_)
    · skip
      refine xr_go hc rfl rfl ?_
      refine xr_s2_6 hc rfl rfl rfl ?_
      refine xr_go hc rfl rfl ?_
      refine xr_s1_5 hc rfl rfl rfl ?_
      refine xr_inc_8 hc rfl ?_
      refine xr_go hc rfl rfl ?_
      have h := m_nst_1 hM hw hm (most - 1).toNat 0
      have e0 : s_nst (V w.toNat) 0 = (1, s_by (V w.toNat) 1) := rfl
      rw [e0, hby] at h
      exact h _ _ (by omega)
    · exfalso; omega

set_option maxRecDepth 20000 in
theorem mx_nearest {V : ew_Mem} {n : Nat} {M : ew_Mem} (hM : s_M V n M) {w most : Int} (hw : ew_in w) (hmost : ew_in most) : ew_FM 193 [(2, 38), (0, w), (0, most)] n M (0, s_a_nearest V w most) n M := by
  obtain ⟨hn, hp, hV, u0, u1, u2, u3, u4⟩ := id hM
  obtain ⟨hc6, hVW, hnd, hap, hr0, hr1, hr2, hr3, hr4, hr5⟩ := id hV
  have hc := ew_c_193
  show ew_X 193 0 [(2, 38), (0, w), (0, most), (5, 0), (5, 0), (5, 0), (5, 0), (5, 0), (5, 0), (5, 0), (5, 0), (5, 0), (5, 0)] [] n M _
  refine xr_go hc rfl rfl ?_
  refine xr_go hc rfl rfl ?_
  refine xr_v_2 hc rfl rfl (ew_own_p hn rfl) (m_isWheel hM hw) ?_
  refine xr_if_ne hc rfl (by split <;> omega) (fun c1 => ?_) (fun c1 => ?_)
  · skip
    refine xr_go hc rfl rfl ?_
    refine xr_i2l hc rfl (by omega) ?_
    refine xr_go hc rfl rfl ?_
    refine xr_go hc rfl rfl ?_
    refine xr_s_3 hc rfl rfl (c_in (by omega) (by decide) (by decide)) ?_
    refine xr_if_ne hc rfl (by split <;> omega) (fun c2 => ?_) (fun c2 => ?_)
    · skip
      obtain ⟨q0, q1, q2, q3, q4, q5⟩ := u4 w.toNat (by omega)
      obtain ⟨k0, k1, k2, k3, k4⟩ := hVW w.toNat (by omega)
      refine xr_go hc rfl rfl ?_
      refine xr_gf2 (A := 38) (w := 40) rfl hc rfl (ew_own_p hn rfl) (ew_pm hp rfl) ?_
      refine xr_go hc rfl rfl ?_
      refine xr_gf2 (A := 38) (w := 44) rfl hc rfl (ew_own_p hn rfl) (ew_pm hp rfl) ?_
      refine xr_go hc rfl rfl ?_
      refine xr_iald (A := 44) (N := 6) rfl rfl hc rfl (ew_ok_p hn rfl) (by omega) (by omega) rfl ?_
      refine xr_iald (A := 40) (N := 64) rfl rfl hc rfl (ew_ok_p hn rfl) (by omega) (by omega) q2 ?_
      refine xr_i2l hc rfl (by omega) ?_
      refine xr_s2_3 hc rfl rfl rfl ?_
      refine xr_go hc rfl rfl ?_
      refine xr_s1_5 hc rfl rfl rfl ?_
      refine xr_go hc rfl rfl ?_
      refine xr_s2_6 hc rfl rfl rfl ?_
      refine xr_go hc rfl rfl ?_
      refine xr_s1_8 hc rfl rfl rfl ?_
      have h := m_nst_0 hM (w := w) (most := most) (by omega) (by omega)
      unfold s_a_nearest
      rw [if_pos (by omega), if_pos (by omega)]
      exact h
    · skip
      refine xr_go hc rfl rfl ?_
      refine xr_ret hc rfl rfl ?_
      refine ⟨?_, rfl, rfl⟩
      unfold s_a_nearest
      repeat' split
      all_goals first
        | rfl
        | (exfalso; omega)
        | (congr 2; omega)
  · skip
    refine xr_go hc rfl rfl ?_
    refine xr_ret hc rfl rfl ?_
    refine ⟨?_, rfl, rfl⟩
    unfold s_a_nearest
    repeat' split
    all_goals first
      | rfl
      | (exfalso; omega)
      | (congr 2; omega)

set_option maxRecDepth 20000 in
theorem m_gcd_1 {n : Nat} {M : ew_Mem} {x0 y0 : Int} : ∀ (j : Nat) (x y : Int) (q : ew_AV), (0 ≤ x ∧ x < 9223372036854775808) → (0 ≤ y ∧ y < 9223372036854775808) → s_EB j x y → s_gcd x y = s_gcd x0 y0 →
    ew_X 204 6 [(1, x0), (5, 0), (1, y0), (5, 0), (1, x), (5, 0), (1, y), (5, 0), q, (5, 0)] [] n M (fun r a b => r = some (1, s_gcd x0 y0) ∧ a = n ∧ b = M) := by
  have hc := ew_c_204
  intro j
  induction j with
  | zero =>
    intro x y q hx hy hE hg
    have hy0 : y = 0 := hE
    refine xr_go hc rfl rfl ?_
    refine xr_go hc rfl rfl ?_
    refine xr_l_eq hc rfl rfl (by omega) (by decide) (fun c1 => ?_) (fun c1 => ?_)
    · skip
      refine xr_go hc rfl rfl ?_
      refine xr_ret hc rfl rfl ?_
      exact ⟨by rw [← hg, hy0, s_gcd_0 hx.1], rfl, rfl⟩
    · exfalso; omega
  | succ j ih =>
    intro x y q hx hy hE hg
    by_cases hy0 : y = 0
    · skip
      refine xr_go hc rfl rfl ?_
      refine xr_go hc rfl rfl ?_
      refine xr_l_eq hc rfl rfl (by omega) (by decide) (fun c1 => ?_) (fun c1 => ?_)
      · skip
        refine xr_go hc rfl rfl ?_
        refine xr_ret hc rfl rfl ?_
        exact ⟨by rw [← hg, hy0, s_gcd_0 hx.1], rfl, rfl⟩
      · exfalso; omega
    · have hE2 : 0 < y ∧ s_EB j y (x % y) := hE.elim (fun h => absurd h hy0) id
      have g1 := Int.emod_nonneg x hy0
      have g2 := Int.emod_lt_of_pos x hE2.1
      refine xr_go hc rfl rfl ?_
      refine xr_go hc rfl rfl ?_
      refine xr_l_eq hc rfl rfl (by omega) (by decide) (fun c1 => ?_) (fun c1 => ?_)
      · exfalso; omega
      · skip
        refine xr_go hc rfl rfl ?_
        refine xr_go hc rfl rfl ?_
        refine xr_lremN hc rfl (by omega) (by omega) ?_
        refine xr_s2_8 hc rfl rfl rfl ?_
        refine xr_go hc rfl rfl ?_
        refine xr_s2_4 hc rfl rfl rfl ?_
        refine xr_go hc rfl rfl ?_
        refine xr_s2_6 hc rfl rfl rfl ?_
        refine xr_go hc rfl rfl ?_
        exact ih y (x % y) _ (by omega) (by omega) hE2.2 (by rw [← hg, s_gcd_step hx.1 hE2.1])

set_option maxRecDepth 20000 in
theorem m_gcd {n : Nat} {M : ew_Mem} {x y : Int} (hx : 0 ≤ x ∧ x < 9223372036854775808) (hy : 0 ≤ y ∧ y < 262144) : ew_FM 204 [(1, x), (1, y)] n M (1, s_gcd x y) n M := by
  have hc := ew_c_204
  show ew_X 204 0 [(1, x), (5, 0), (1, y), (5, 0), (5, 0), (5, 0), (5, 0), (5, 0), (5, 0), (5, 0)] [] n M _
  refine xr_go hc rfl rfl ?_
  refine xr_s2_4 hc rfl rfl rfl ?_
  refine xr_go hc rfl rfl ?_
  refine xr_s2_6 hc rfl rfl rfl ?_
  exact m_gcd_1 36 x y _ hx (by omega) (s_EB_of 18 hx.1 hy.1 (by omega)) rfl

set_option maxRecDepth 20000 in
theorem m_isGeared {V : ew_Mem} {n : Nat} {M : ew_Mem} (hM : s_M V n M) {w : Int} (hw : 0 ≤ w ∧ w < V 6 0)  : ew_FM 202 [(2, 38), (0, w)] n M (0, if V w.toNat 0 = 4 then 1 else 0) n M := by
  obtain ⟨hn, hp, hV, u0, u1, u2, u3, u4⟩ := id hM
  obtain ⟨hc6, hVW, hnd, hap, hr0, hr1, hr2, hr3, hr4, hr5⟩ := id hV
  have hc := ew_c_202
  obtain ⟨q0, q1, q2, q3, q4, q5⟩ := u4 w.toNat (by omega)
  have hWO := hVW w.toNat (by omega)
  obtain ⟨k0, k1, k2, k3, k4⟩ := id hWO
  show ew_X 202 0 [(2, 38), (0, w)] [] n M _
  refine xr_go hc rfl rfl ?_
  refine xr_gf2 (A := 38) (w := 39) rfl hc rfl (ew_own_p hn rfl) (ew_pm hp rfl) ?_
  refine xr_go hc rfl rfl ?_
  refine xr_gf2 (A := 38) (w := 44) rfl hc rfl (ew_own_p hn rfl) (ew_pm hp rfl) ?_
  refine xr_go hc rfl rfl ?_
  refine xr_iald (A := 44) (N := 6) rfl rfl hc rfl (ew_ok_p hn rfl) (by omega) (by omega) rfl ?_
  refine xr_iald (A := 39) (N := 64) rfl rfl hc rfl (ew_ok_p hn rfl) (by omega) (by omega) q1 ?_
  refine xr_go hc rfl rfl ?_
  refine xr_icmp_ne hc rfl (by omega) (by decide) (fun c1 => ?_) (fun c1 => ?_)
  · skip
    refine xr_go hc rfl rfl ?_
    refine xr_ret hc rfl rfl ?_
    refine ⟨?_, rfl, rfl⟩
    first
      | rw [if_neg (by omega)]
      | rw [if_pos (by omega)]
  · skip
    refine xr_go hc rfl rfl ?_
    refine xr_go hc rfl rfl ?_
    refine xr_ret hc rfl rfl ?_
    refine ⟨?_, rfl, rfl⟩
    first
      | rw [if_neg (by omega)]
      | rw [if_pos (by omega)]

set_option maxRecDepth 20000 in
theorem m_periodOf {V : ew_Mem} {n : Nat} {M : ew_Mem} (hM : s_M V n M) {w : Int} (hw : 0 ≤ w ∧ w < V 6 0)  : ew_FM 203 [(2, 38), (0, w)] n M (1, s_per (V w.toNat)) n M := by
  obtain ⟨hn, hp, hV, u0, u1, u2, u3, u4⟩ := id hM
  obtain ⟨hc6, hVW, hnd, hap, hr0, hr1, hr2, hr3, hr4, hr5⟩ := id hV
  have hc := ew_c_203
  obtain ⟨q0, q1, q2, q3, q4, q5⟩ := u4 w.toNat (by omega)
  have hWO := hVW w.toNat (by omega)
  obtain ⟨k0, k1, k2, k3, k4⟩ := id hWO
  have hgA := s_gcd_pos (x := V w.toNat 1) (y := V w.toNat 2) (by omega)
  have hgB := s_gcd_pos (x := V w.toNat 1) (y := 2 * V w.toNat 2) (by omega)
  have hgC := s_gcd_le (x := V w.toNat 1) (y := V w.toNat 2) (by omega)
  have hgD := s_gcd_le (x := V w.toNat 1) (y := 2 * V w.toNat 2) (by omega)
  have hpb := s_per1_bd hWO
  have hpA := s_div_pos hgA hgC
  have hpB := s_div_pos hgB hgD
  have hpe : s_per1 (V w.toNat) = if V w.toNat 0 = 3 then V w.toNat 1 / s_gcd (V w.toNat 1) (2 * V w.toNat 2) else V w.toNat 1 / s_gcd (V w.toNat 1) (V w.toNat 2) := by unfold s_per1; split <;> rfl
  rw [s_gcd_comm _ (V w.toNat 2), s_gcd_comm _ (2 * V w.toNat 2)] at *
  show ew_X 203 0 [(2, 38), (0, w), (5, 0), (5, 0), (5, 0), (5, 0), (5, 0)] [] n M _
  refine xr_go hc rfl rfl ?_
  refine xr_gf2 (A := 38) (w := 44) rfl hc rfl (ew_own_p hn rfl) (ew_pm hp rfl) ?_
  refine xr_go hc rfl rfl ?_
  refine xr_iald (A := 44) (N := 6) rfl rfl hc rfl (ew_ok_p hn rfl) (by omega) (by omega) rfl ?_
  refine xr_s1_2 hc rfl rfl rfl ?_
  refine xr_go hc rfl rfl ?_
  refine xr_gf2 (A := 38) (w := 39) rfl hc rfl (ew_own_p hn rfl) (ew_pm hp rfl) ?_
  refine xr_go hc rfl rfl ?_
  refine xr_iald (A := 39) (N := 64) rfl rfl hc rfl (ew_ok_p hn rfl) (by omega) (by omega) q1 ?_
  refine xr_go hc rfl rfl ?_
  refine xr_icmp_ne hc rfl (by omega) (by decide) (fun c1 => ?_) (fun c1 => ?_)
  · skip
    refine xr_go hc rfl rfl ?_
    refine xr_gf2 (A := 38) (w := 41) rfl hc rfl (ew_own_p hn rfl) (ew_pm hp rfl) ?_
    refine xr_go hc rfl rfl ?_
    refine xr_iald (A := 41) (N := 64) rfl rfl hc rfl (ew_ok_p hn rfl) (by omega) (by omega) q3 ?_
    refine xr_i2l hc rfl (by omega) ?_
    refine xr_s2_3 hc rfl rfl rfl ?_
    refine xr_go hc rfl rfl ?_
    refine xr_gf2 (A := 38) (w := 40) rfl hc rfl (ew_own_p hn rfl) (ew_pm hp rfl) ?_
    refine xr_go hc rfl rfl ?_
    refine xr_iald (A := 40) (N := 64) rfl rfl hc rfl (ew_ok_p hn rfl) (by omega) (by omega) q2 ?_
    refine xr_i2l hc rfl (by omega) ?_
    refine xr_go hc rfl rfl ?_
    refine xr_go hc rfl rfl ?_
    refine xr_gf2 (A := 38) (w := 40) rfl hc rfl (ew_own_p hn rfl) (ew_pm hp rfl) ?_
    refine xr_go hc rfl rfl ?_
    refine xr_iald (A := 40) (N := 64) rfl rfl hc rfl (ew_ok_p hn rfl) (by omega) (by omega) q2 ?_
    refine xr_i2l hc rfl (by omega) ?_
    refine xr_s_2 hc rfl rfl (m_gcd (by omega) (by omega)) ?_
    refine xr_ldivN hc rfl (by omega) (by omega) ?_
    refine xr_s2_5 hc rfl rfl rfl ?_
    refine xr_go hc rfl rfl ?_
    refine xr_gf2 (A := 38) (w := 39) rfl hc rfl (ew_own_p hn rfl) (ew_pm hp rfl) ?_
    refine xr_go hc rfl rfl ?_
    refine xr_iald (A := 39) (N := 64) rfl rfl hc rfl (ew_ok_p hn rfl) (by omega) (by omega) q1 ?_
    refine xr_go hc rfl rfl ?_
    refine xr_icmp_ne hc rfl (by omega) (by decide) (fun c2 => ?_) (fun c2 => ?_)
    · skip
      refine xr_go hc rfl rfl ?_
      refine xr_ret hc rfl rfl ?_
      refine ⟨?_, rfl, rfl⟩
      unfold s_per
      repeat' split
      all_goals first
        | (congr 2; omega)
        | (exfalso; omega)
    · skip
      refine xr_go hc rfl rfl ?_
      refine xr_go hc rfl rfl ?_
      refine xr_l_le hc rfl rfl (by omega) (by omega) (fun c3 => ?_) (fun c3 => ?_)
      · skip
        refine xr_go hc rfl rfl ?_
        refine xr_ret hc rfl rfl ?_
        refine ⟨?_, rfl, rfl⟩
        unfold s_per
        repeat' split
        all_goals first
          | (congr 2; omega)
          | (exfalso; omega)
      · skip
        refine xr_go hc rfl rfl ?_
        refine xr_go hc rfl rfl ?_
        refine xr_go hc rfl rfl ?_
        refine xr_go hc rfl rfl ?_
        refine xr_ret hc rfl rfl ?_
        refine ⟨?_, rfl, rfl⟩
        unfold s_per
        repeat' split
        all_goals first
          | (congr 2; omega)
          | (exfalso; omega)
  · skip
    refine xr_go hc rfl rfl ?_
    refine xr_go hc rfl rfl ?_
    refine xr_gf2 (A := 38) (w := 41) rfl hc rfl (ew_own_p hn rfl) (ew_pm hp rfl) ?_
    refine xr_go hc rfl rfl ?_
    refine xr_iald (A := 41) (N := 64) rfl rfl hc rfl (ew_ok_p hn rfl) (by omega) (by omega) q3 ?_
    refine xr_i2l hc rfl (by omega) ?_
    refine xr_go hc rfl rfl ?_
    refine xr_go hc rfl rfl ?_
    refine xr_s2_3 hc rfl rfl rfl ?_
    refine xr_go hc rfl rfl ?_
    refine xr_gf2 (A := 38) (w := 40) rfl hc rfl (ew_own_p hn rfl) (ew_pm hp rfl) ?_
    refine xr_go hc rfl rfl ?_
    refine xr_iald (A := 40) (N := 64) rfl rfl hc rfl (ew_ok_p hn rfl) (by omega) (by omega) q2 ?_
    refine xr_i2l hc rfl (by omega) ?_
    refine xr_go hc rfl rfl ?_
    refine xr_go hc rfl rfl ?_
    refine xr_gf2 (A := 38) (w := 40) rfl hc rfl (ew_own_p hn rfl) (ew_pm hp rfl) ?_
    refine xr_go hc rfl rfl ?_
    refine xr_iald (A := 40) (N := 64) rfl rfl hc rfl (ew_ok_p hn rfl) (by omega) (by omega) q2 ?_
    refine xr_i2l hc rfl (by omega) ?_
    refine xr_s_2 hc rfl rfl (m_gcd (by omega) (by omega)) ?_
    refine xr_ldivN hc rfl (by omega) (by omega) ?_
    refine xr_s2_5 hc rfl rfl rfl ?_
    refine xr_go hc rfl rfl ?_
    refine xr_gf2 (A := 38) (w := 39) rfl hc rfl (ew_own_p hn rfl) (ew_pm hp rfl) ?_
    refine xr_go hc rfl rfl ?_
    refine xr_iald (A := 39) (N := 64) rfl rfl hc rfl (ew_ok_p hn rfl) (by omega) (by omega) q1 ?_
    refine xr_go hc rfl rfl ?_
    refine xr_icmp_ne hc rfl (by omega) (by decide) (fun c4 => ?_) (fun c4 => ?_)
    · skip
      refine xr_go hc rfl rfl ?_
      refine xr_ret hc rfl rfl ?_
      refine ⟨?_, rfl, rfl⟩
      unfold s_per
      repeat' split
      all_goals first
        | (congr 2; omega)
        | (exfalso; omega)
    · skip
      refine xr_go hc rfl rfl ?_
      refine xr_go hc rfl rfl ?_
      refine xr_l_le hc rfl rfl (by omega) (by omega) (fun c5 => ?_) (fun c5 => ?_)
      · skip
        refine xr_go hc rfl rfl ?_
        refine xr_ret hc rfl rfl ?_
        refine ⟨?_, rfl, rfl⟩
        unfold s_per
        repeat' split
        all_goals first
          | (congr 2; omega)
          | (exfalso; omega)
      · skip
        refine xr_go hc rfl rfl ?_
        refine xr_go hc rfl rfl ?_
        refine xr_go hc rfl rfl ?_
        refine xr_go hc rfl rfl ?_
        refine xr_ret hc rfl rfl ?_
        refine ⟨?_, rfl, rfl⟩
        unfold s_per
        repeat' split
        all_goals first
          | (congr 2; omega)
          | (exfalso; omega)

set_option maxRecDepth 20000 in
theorem mx_period {V : ew_Mem} {n : Nat} {M : ew_Mem} (hM : s_M V n M) {w : Int} (hw : ew_in w) : ew_FM 201 [(2, 38), (0, w)] n M (1, s_a_period V w) n M := by
  obtain ⟨hn, hp, hV, u0, u1, u2, u3, u4⟩ := id hM
  obtain ⟨hc6, hVW, hnd, hap, hr0, hr1, hr2, hr3, hr4, hr5⟩ := id hV
  have hc := ew_c_201
  show ew_X 201 0 [(2, 38), (0, w)] [] n M _
  refine xr_go hc rfl rfl ?_
  refine xr_go hc rfl rfl ?_
  refine xr_v_2 hc rfl rfl (ew_own_p hn rfl) (m_isWheel hM hw) ?_
  refine xr_if_eq hc rfl (by split <;> omega) (fun c1 => ?_) (fun c1 => ?_)
  · skip
    refine xr_go hc rfl rfl ?_
    refine xr_ret hc rfl rfl ?_
    refine ⟨?_, rfl, rfl⟩
    unfold s_a_period
    repeat' split
    all_goals first
      | rfl
      | (exfalso; omega)
      | (congr 2; omega)
  · skip
    refine xr_go hc rfl rfl ?_
    refine xr_go hc rfl rfl ?_
    refine xr_v_2 hc rfl rfl (ew_own_p hn rfl) (m_isGeared hM (by omega)) ?_
    refine xr_if_ne hc rfl (by split <;> omega) (fun c2 => ?_) (fun c2 => ?_)
    · skip
      refine xr_go hc rfl rfl ?_
      refine xr_ret hc rfl rfl ?_
      refine ⟨?_, rfl, rfl⟩
      unfold s_a_period
      repeat' split
      all_goals first
        | rfl
        | (exfalso; omega)
        | (congr 2; omega)
    · skip
      refine xr_go hc rfl rfl ?_
      refine xr_go hc rfl rfl ?_
      refine xr_v_2 hc rfl rfl (ew_own_p hn rfl) (m_periodOf hM (by omega)) ?_
      refine xr_go hc rfl rfl ?_
      refine xr_ret hc rfl rfl ?_
      refine ⟨?_, rfl, rfl⟩
      unfold s_a_period
      repeat' split
      all_goals first
        | rfl
        | (exfalso; omega)
        | (congr 2; omega)

set_option maxRecDepth 20000 in
theorem mx_ar_1 {V : ew_Mem} {n : Nat} {M : ew_Mem} (hM : s_M V n M) {x : Int} : ∀ (j : Nat) (i c : Int) (q : ew_AV), 0 ≤ i → i + (j : Int) = 32 → 1 ≤ c → c < 9223372036854775808 →
    ew_X 205 8 [(2, 38), (0, x), (1, c), (5, 0), (0, 1), (0, i), q, (5, 0)] [] n M (fun r a1 b1 => r = some (1, s_ar V x j i c) ∧ a1 = n ∧ b1 = M) := by
  obtain ⟨hn, hp, hV, u0, u1, u2, u3, u4⟩ := id hM
  obtain ⟨hc6, hVW, hnd, hap, hr0, hr1, hr2, hr3, hr4, hr5⟩ := id hV
  have hc := ew_c_205
  intro j
  induction j with
  | zero =>
    intro i c q hi hij hc1 hc2
    refine xr_go hc rfl rfl ?_
    refine xr_go hc rfl rfl ?_
    refine xr_icmp_ge hc rfl (by omega) (by decide) (fun c1 => ?_) (fun c1 => ?_)
    · skip
      refine xr_go hc rfl rfl ?_
      refine xr_if_eq hc rfl (by omega) (fun c2 => ?_) (fun c2 => ?_)
      · exfalso; omega
      · skip
        refine xr_go hc rfl rfl ?_
        refine xr_go hc rfl rfl ?_
        refine xr_ret hc rfl rfl ?_
        exact ⟨by rw [s_ar], rfl, rfl⟩
    · exfalso; omega
  | succ j ih =>
    intro i c q hi hij hc1 hc2
    have hb01 := s_bt_01 x i
    unfold s_bt at hb01
    refine xr_go hc rfl rfl ?_
    refine xr_go hc rfl rfl ?_
    refine xr_icmp_ge hc rfl (by omega) (by decide) (fun c1 => ?_) (fun c1 => ?_)
    · exfalso; omega
    · skip
      refine xr_go hc rfl rfl ?_
      refine xr_go hc rfl rfl ?_
      refine xr_go hc rfl rfl ?_
      refine xr_go hc rfl rfl ?_
      refine xr_go hc rfl rfl ?_
      refine xr_if_ne hc rfl (by have := s_bt_01 x i; unfold s_bt at this; omega) (fun c2 => ?_) (fun c2 => ?_)
      · skip
        refine xr_go hc rfl rfl ?_
        refine xr_go hc rfl rfl ?_
        refine xr_v_2 hc rfl rfl (ew_own_p hn rfl) (m_isWheel hM (by omega)) ?_
        refine xr_if_eq hc rfl (by split <;> omega) (fun c3 => ?_) (fun c3 => ?_)
        · skip
          refine xr_go hc rfl rfl ?_
          refine xr_ret hc rfl rfl ?_
          refine ⟨?_, rfl, rfl⟩
          rw [s_ar, if_pos (by unfold s_bt; omega)]
          first
            | (rw [if_neg (by omega)]; rfl)
            | (rw [if_pos (by omega), if_pos (by omega)]; rfl)
        · skip
          refine xr_go hc rfl rfl ?_
          refine xr_go hc rfl rfl ?_
          refine xr_v_2 hc rfl rfl (ew_own_p hn rfl) (m_isGeared hM (by omega)) ?_
          refine xr_if_eq hc rfl (by split <;> omega) (fun c4 => ?_) (fun c4 => ?_)
          · skip
            have hWO := hVW i.toNat (by omega)
            have hpb := s_per_bd hWO
            have hg1 := s_gcd_pos (x := c) (y := s_per (V i.toNat)) (by omega)
            have hg2 := s_gcd_le (x := s_per (V i.toNat)) (y := c) (by omega)
            rw [s_gcd_comm] at hg2
            have hg3 := s_div_pos hg1 hg2
            have hg5 := s_div_pos (a := 9223372036854775807) (b := s_per (V i.toNat) / s_gcd c (s_per (V i.toNat))) (by omega) (by omega)
            refine xr_go hc rfl rfl ?_
            refine xr_go hc rfl rfl ?_
            refine xr_v_2 hc rfl rfl (ew_own_p hn rfl) (m_periodOf hM (by omega)) ?_
            refine xr_go hc rfl rfl ?_
            refine xr_go hc rfl rfl ?_
            refine xr_go hc rfl rfl ?_
            refine xr_v_2 hc rfl rfl (ew_own_p hn rfl) (m_periodOf hM (by omega)) ?_
            refine xr_s_2 hc rfl rfl (m_gcd (by omega) (by omega)) ?_
            refine xr_ldivN hc rfl (by omega) (by omega) ?_
            refine xr_s2_6 hc rfl rfl rfl ?_
            refine xr_go hc rfl rfl ?_
            refine xr_go hc rfl rfl ?_
            refine xr_go hc rfl rfl ?_
            refine xr_ldivN hc rfl (by decide) (by omega) ?_
            refine xr_l_le hc rfl rfl (by omega) (by omega) (fun c5 => ?_) (fun c5 => ?_)
            · skip
              have hmm := s_ar_mul (c := c) (y := s_per (V i.toNat) / s_gcd c (s_per (V i.toNat))) (by omega) (by omega) (by omega)
              refine xr_go hc rfl rfl ?_
              refine xr_go hc rfl rfl ?_
              refine xr_go hc rfl rfl ?_
              refine xr_s2_2 hc rfl rfl rfl ?_
              refine xr_inc_5 hc rfl ?_
              refine xr_go hc rfl rfl ?_
              have hbt : s_bt x i = 1 ∨ ¬ s_bt x i = 1 := by omega
              rw [s_ar]
              first
                | (rw [if_neg (by unfold s_bt; omega)]
                   exact ih (i + 1) c _ (by omega) (by omega) (by omega) (by omega))
                | (rw [if_pos (by unfold s_bt; omega), if_pos (by omega), if_neg (by omega)]
                   exact ih (i + 1) _ _ (by omega) (by omega) (by omega) (by omega))
            · skip
              refine xr_go hc rfl rfl ?_
              refine xr_s1_4 hc rfl rfl rfl ?_
              refine xr_go hc rfl rfl ?_
              refine xr_go hc rfl rfl ?_
              refine xr_if_eq hc rfl (by decide) (fun c6 => ?_) (fun c6 => ?_)
              · try (exfalso; omega)
                all_goals
                  refine xr_go hc rfl rfl ?_
                  refine xr_ret hc rfl rfl ?_
                  refine ⟨?_, rfl, rfl⟩
                  rw [s_ar, if_pos (by unfold s_bt; omega)]
                  first
                    | (rw [if_neg (by omega)]; rfl)
                    | (rw [if_pos (by omega), if_pos (by omega)]; rfl)
              · try (exfalso; omega)
                all_goals
                  refine xr_go hc rfl rfl ?_
                  refine xr_go hc rfl rfl ?_
                  refine xr_ret hc rfl rfl ?_
                  refine ⟨?_, rfl, rfl⟩
                  rw [s_ar, if_pos (by unfold s_bt; omega)]
                  first
                    | (rw [if_neg (by omega)]; rfl)
                    | (rw [if_pos (by omega), if_pos (by omega)]; rfl)
          · skip
            refine xr_go hc rfl rfl ?_
            refine xr_ret hc rfl rfl ?_
            refine ⟨?_, rfl, rfl⟩
            rw [s_ar, if_pos (by unfold s_bt; omega)]
            first
              | (rw [if_neg (by omega)]; rfl)
              | (rw [if_pos (by omega), if_pos (by omega)]; rfl)
      · skip
        refine xr_go hc rfl rfl ?_
        refine xr_inc_5 hc rfl ?_
        refine xr_go hc rfl rfl ?_
        have hbt : s_bt x i = 1 ∨ ¬ s_bt x i = 1 := by omega
        rw [s_ar]
        first
          | (rw [if_neg (by unfold s_bt; omega)]
             exact ih (i + 1) c _ (by omega) (by omega) (by omega) (by omega))
          | (rw [if_pos (by unfold s_bt; omega), if_pos (by omega), if_neg (by omega)]
             exact ih (i + 1) _ _ (by omega) (by omega) (by omega) (by omega))

set_option maxRecDepth 20000 in
theorem mx_allRound {V : ew_Mem} {n : Nat} {M : ew_Mem} (hM : s_M V n M) {x : Int} (hx : ew_in x) : ew_FM 205 [(2, 38), (0, x)] n M (1, s_a_allRound V x) n M := by
  obtain ⟨hn, hp, hV, u0, u1, u2, u3, u4⟩ := id hM
  obtain ⟨hc6, hVW, hnd, hap, hr0, hr1, hr2, hr3, hr4, hr5⟩ := id hV
  have hc := ew_c_205
  show ew_X 205 0 [(2, 38), (0, x), (5, 0), (5, 0), (5, 0), (5, 0), (5, 0), (5, 0)] [] n M _
  refine xr_go hc rfl rfl ?_
  refine xr_s2_2 hc rfl rfl rfl ?_
  refine xr_go hc rfl rfl ?_
  refine xr_s1_4 hc rfl rfl rfl ?_
  refine xr_go hc rfl rfl ?_
  refine xr_s1_5 hc rfl rfl rfl ?_
  exact mx_ar_1 hM 32 0 1 _ (by decide) (by decide) (by decide) (by decide)

theorem s_ff_y {P : Int → Bool} {j : Nat} {m : Int} (h : P m = true) : s_ff P (j + 1) m = m := by rw [s_ff, if_pos h]
theorem s_ff_n {P : Int → Bool} {j : Nat} {m : Int} (h : P m = false) : s_ff P (j + 1) m = s_ff P j (m + 1) := by rw [s_ff, h]; rfl
set_option maxRecDepth 20000 in
theorem mx_meet_1 {V : ew_Mem} {n : Nat} {M : ew_Mem} (hM : s_M V n M) {a p b q : Int} (ha : 0 ≤ a ∧ a < V 6 0) (hb : 0 ≤ b ∧ b < V 6 0) (hp0 : ew_in p) (hq0 : ew_in q) : ∀ (j : Nat) (m : Int), 0 ≤ m → m + (j : Int) = 100001 →
    ew_X 206 71 [(2, 38), (0, a), (0, p), (0, b), (0, q), (0, m)] [] n M (fun r a1 b1 => r = some (0, if 100000 < s_ff (s_mP V a.toNat p b.toNat q) j m then -5 else s_ff (s_mP V a.toNat p b.toNat q) j m) ∧ a1 = n ∧ b1 = M) := by
  obtain ⟨hn, hp, hV, u0, u1, u2, u3, u4⟩ := id hM
  obtain ⟨hc6, hVW, hnd, hap, hr0, hr1, hr2, hr3, hr4, hr5⟩ := id hV
  have hc := ew_c_206
  intro j
  induction j with
  | zero =>
    intro m hm hj
    refine xr_go hc rfl rfl ?_
    refine xr_go hc rfl rfl ?_
    refine xr_icmp_gt hc rfl (by omega) (by decide) (fun c1 => ?_) (fun c1 => ?_)
    · skip
      refine xr_go hc rfl rfl ?_
      refine xr_ret hc rfl rfl ?_
      exact ⟨by rw [s_ff]; rfl, rfl, rfl⟩
    · exfalso; omega
  | succ j ih =>
    intro m hm hj
    have hat := s_at_bd hV m (w := a.toNat) (by omega)
    have hbt := s_at_bd hV m (w := b.toNat) (by omega)
    have hWA := hVW a.toNat (by omega)
    have hWB := hVW b.toNat (by omega)
    obtain ⟨ka0, ka1, ka2, ka3, ka4⟩ := hWA
    obtain ⟨kb0, kb1, kb2, kb3, kb4⟩ := hWB
    refine xr_go hc rfl rfl ?_
    refine xr_go hc rfl rfl ?_
    refine xr_icmp_gt hc rfl (by omega) (by decide) (fun c1 => ?_) (fun c1 => ?_)
    · exfalso; omega
    · skip
      refine xr_go hc rfl rfl ?_
      refine xr_go hc rfl rfl ?_
      refine xr_go hc rfl rfl ?_
      refine xr_v_3 hc rfl rfl (ew_own_p hn rfl) (m_place hM ha (by omega)) ?_
      refine xr_go hc rfl rfl ?_
      refine xr_icmp_ne hc rfl (by omega) (by omega) (fun c2 => ?_) (fun c2 => ?_)
      · skip
        refine xr_inc_5 hc rfl ?_
        refine xr_go hc rfl rfl ?_
        rw [s_ff_n (P := s_mP V a.toNat p b.toNat q) (decide_eq_false (by omega))]
        exact ih (m + 1) (by omega) (by omega)
      · skip
        refine xr_go hc rfl rfl ?_
        refine xr_go hc rfl rfl ?_
        refine xr_go hc rfl rfl ?_
        refine xr_v_3 hc rfl rfl (ew_own_p hn rfl) (m_place hM hb (by omega)) ?_
        refine xr_go hc rfl rfl ?_
        refine xr_icmp_ne hc rfl (by omega) (by omega) (fun c3 => ?_) (fun c3 => ?_)
        · skip
          refine xr_inc_5 hc rfl ?_
          refine xr_go hc rfl rfl ?_
          rw [s_ff_n (P := s_mP V a.toNat p b.toNat q) (decide_eq_false (by omega))]
          exact ih (m + 1) (by omega) (by omega)
        · skip
          refine xr_go hc rfl rfl ?_
          refine xr_ret hc rfl rfl ?_
          refine ⟨?_, rfl, rfl⟩
          rw [s_ff_y (P := s_mP V a.toNat p b.toNat q) (decide_eq_true (by omega)), if_neg (by omega)]

set_option maxRecDepth 20000 in
theorem mx_meeting {V : ew_Mem} {n : Nat} {M : ew_Mem} (hM : s_M V n M) {a p_ b q_ : Int} (ha : ew_in a) (hp_ : ew_in p_) (hb : ew_in b) (hq_ : ew_in q_) : ew_FM 206 [(2, 38), (0, a), (0, p_), (0, b), (0, q_)] n M (0, s_a_meeting V a p_ b q_) n M := by
  obtain ⟨hn, hp, hV, u0, u1, u2, u3, u4⟩ := id hM
  obtain ⟨hc6, hVW, hnd, hap, hr0, hr1, hr2, hr3, hr4, hr5⟩ := id hV
  have hc := ew_c_206
  show ew_X 206 0 [(2, 38), (0, a), (0, p_), (0, b), (0, q_), (5, 0)] [] n M _
  refine xr_go hc rfl rfl ?_
  refine xr_go hc rfl rfl ?_
  refine xr_v_2 hc rfl rfl (ew_own_p hn rfl) (m_isWheel hM (by omega)) ?_
  refine xr_if_eq hc rfl (by split <;> omega) (fun c1 => ?_) (fun c1 => ?_)
  · skip
    refine xr_go hc rfl rfl ?_
    refine xr_ret hc rfl rfl ?_
    refine ⟨?_, rfl, rfl⟩
    unfold s_a_meeting
    repeat' split
    all_goals first
      | rfl
      | (exfalso; omega)
      | (congr 2; omega)
  · skip
    refine xr_go hc rfl rfl ?_
    refine xr_go hc rfl rfl ?_
    refine xr_v_2 hc rfl rfl (ew_own_p hn rfl) (m_isWheel hM (by omega)) ?_
    refine xr_if_ne hc rfl (by split <;> omega) (fun c2 => ?_) (fun c2 => ?_)
    · skip
      obtain ⟨x0, x1, x2, x3, x4, x5⟩ := u4 a.toNat (by omega)
      obtain ⟨kx0, kx1, kx2, kx3, kx4⟩ := hVW a.toNat (by omega)
      obtain ⟨y0, y1, y2, y3, y4, y5⟩ := u4 b.toNat (by omega)
      obtain ⟨ky0, ky1, ky2, ky3, ky4⟩ := hVW b.toNat (by omega)
      refine xr_go hc rfl rfl ?_
      refine xr_i2l hc rfl (by omega) ?_
      refine xr_go hc rfl rfl ?_
      refine xr_go hc rfl rfl ?_
      refine xr_gf2 (A := 38) (w := 40) rfl hc rfl (ew_own_p hn rfl) (ew_pm hp rfl) ?_
      refine xr_go hc rfl rfl ?_
      refine xr_gf2 (A := 38) (w := 44) rfl hc rfl (ew_own_p hn rfl) (ew_pm hp rfl) ?_
      refine xr_go hc rfl rfl ?_
      refine xr_iald (A := 44) (N := 6) rfl rfl hc rfl (ew_ok_p hn rfl) (by omega) (by omega) rfl ?_
      refine xr_iald (A := 40) (N := 64) rfl rfl hc rfl (ew_ok_p hn rfl) (by omega) (by omega) x2 ?_
      refine xr_go hc rfl rfl ?_
      refine xr_go hc rfl rfl ?_
      refine xr_i2l hc rfl (by omega) ?_
      refine xr_s_3 hc rfl rfl (c_in (by omega) (by decide) (by omega)) ?_
      refine xr_if_eq hc rfl (by split <;> omega) (fun c3 => ?_) (fun c3 => ?_)
      · skip
        refine xr_go hc rfl rfl ?_
        refine xr_ret hc rfl rfl ?_
        refine ⟨?_, rfl, rfl⟩
        unfold s_a_meeting
        repeat' split
        all_goals first
          | rfl
          | (exfalso; omega)
          | (congr 2; omega)
      · skip
        refine xr_go hc rfl rfl ?_
        refine xr_i2l hc rfl (by omega) ?_
        refine xr_go hc rfl rfl ?_
        refine xr_go hc rfl rfl ?_
        refine xr_gf2 (A := 38) (w := 40) rfl hc rfl (ew_own_p hn rfl) (ew_pm hp rfl) ?_
        refine xr_go hc rfl rfl ?_
        refine xr_gf2 (A := 38) (w := 44) rfl hc rfl (ew_own_p hn rfl) (ew_pm hp rfl) ?_
        refine xr_go hc rfl rfl ?_
        refine xr_iald (A := 44) (N := 6) rfl rfl hc rfl (ew_ok_p hn rfl) (by omega) (by omega) rfl ?_
        refine xr_iald (A := 40) (N := 64) rfl rfl hc rfl (ew_ok_p hn rfl) (by omega) (by omega) y2 ?_
        refine xr_go hc rfl rfl ?_
        refine xr_go hc rfl rfl ?_
        refine xr_i2l hc rfl (by omega) ?_
        refine xr_s_3 hc rfl rfl (c_in (by omega) (by decide) (by omega)) ?_
        refine xr_if_ne hc rfl (by split <;> omega) (fun c4 => ?_) (fun c4 => ?_)
        · skip
          refine xr_go hc rfl rfl ?_
          refine xr_s1_5 hc rfl rfl rfl ?_
          have h := mx_meet_1 hM (a := a) (p := p_) (b := b) (q := q_) (by omega) (by omega) hp_ hq_ 100001 0 (by decide) (by decide)
          unfold s_a_meeting s_meet
          rw [if_pos (by omega), if_pos (by omega)]
          exact h
        · skip
          refine xr_go hc rfl rfl ?_
          refine xr_ret hc rfl rfl ?_
          refine ⟨?_, rfl, rfl⟩
          unfold s_a_meeting
          repeat' split
          all_goals first
            | rfl
            | (exfalso; omega)
            | (congr 2; omega)
    · skip
      refine xr_go hc rfl rfl ?_
      refine xr_ret hc rfl rfl ?_
      refine ⟨?_, rfl, rfl⟩
      unfold s_a_meeting
      repeat' split
      all_goals first
        | rfl
        | (exfalso; omega)
        | (congr 2; omega)

