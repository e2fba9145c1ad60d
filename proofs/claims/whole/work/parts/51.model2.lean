/-! the reference: its face, calls that only ask -/
set_option maxRecDepth 20000 in
theorem mx_of {V : ew_Mem} {n : Nat} {M : ew_Mem} (hM : s_M V n M) {w x : Int} (hw : ew_in w) (hx : ew_in x) : ew_FM 155 [(2, 38), (0, w), (0, x)] n M (0, s_a_of V w x) n M := by
  obtain ⟨hn, hp, hV, u0, u1, u2, u3, u4⟩ := id hM
  obtain ⟨hc6, hVW, hnd, hap, hr0, hr1, hr2, hr3, hr4, hr5⟩ := id hV
  have hc := ew_c_155
  show ew_X 155 0 [(2, 38), (0, w), (0, x), (5, 0)] [] n M _
  refine xr_go hc rfl rfl ?_
  refine xr_go hc rfl rfl ?_
  refine xr_v_2 hc rfl rfl (ew_own_p hn rfl) (m_isWheel hM hw) ?_
  refine xr_if_ne hc rfl (by split <;> omega) (fun c1 => ?_) (fun c1 => ?_)
  · skip
    obtain ⟨q0, q1, q2, q3, q4, q5⟩ := u4 w.toNat (by omega)
    obtain ⟨k0, k1, k2, k3, k4⟩ := hVW w.toNat (by omega)
    refine xr_go hc rfl rfl ?_
    refine xr_gf2 (A := 38) (w := 44) rfl hc rfl (ew_own_p hn rfl) (ew_pm hp rfl) ?_
    refine xr_go hc rfl rfl ?_
    refine xr_iald (A := 44) (N := 6) rfl rfl hc rfl (ew_ok_p hn rfl) (by omega) (by omega) rfl ?_
    refine xr_s1_3 hc rfl rfl rfl ?_
    refine xr_go hc rfl rfl ?_
    refine xr_ts hc rfl hx (fun c2 => ?_) (fun c2a c2b => ?_)
    · skip
      refine xr_go hc rfl rfl ?_
      refine xr_ret hc rfl rfl ?_
      refine ⟨?_, rfl, rfl⟩
      unfold s_a_of
      first
        | rw [if_pos (by omega)]
        | rw [if_neg (by omega)]
      all_goals first
        | rfl
        | (unfold s_told
           congr 2
           repeat' split
           all_goals omega)
    · obtain rfl | rfl | rfl | rfl | rfl : x = 0 ∨ x = 1 ∨ x = 2 ∨ x = 3 ∨ x = 4 := by omega
      · refine ⟨34, 52, rfl, rfl, ?_⟩
        refine xr_go hc rfl rfl ?_
        refine xr_gf2 (A := 38) (w := 39) rfl hc rfl (ew_own_p hn rfl) (ew_pm hp rfl) ?_
        refine xr_go hc rfl rfl ?_
        refine xr_iald (A := 39) (N := 64) rfl rfl hc rfl (ew_ok_p hn rfl) (by omega) (by omega) q1 ?_
        refine xr_ret hc rfl rfl ?_
        refine ⟨?_, rfl, rfl⟩
        unfold s_a_of
        first
          | rw [if_pos (by omega)]
          | rw [if_neg (by omega)]
        all_goals first
          | rfl
          | (unfold s_told
             congr 2
             repeat' split
             all_goals omega)
      · refine ⟨41, 59, rfl, rfl, ?_⟩
        refine xr_go hc rfl rfl ?_
        refine xr_gf2 (A := 38) (w := 40) rfl hc rfl (ew_own_p hn rfl) (ew_pm hp rfl) ?_
        refine xr_go hc rfl rfl ?_
        refine xr_iald (A := 40) (N := 64) rfl rfl hc rfl (ew_ok_p hn rfl) (by omega) (by omega) q2 ?_
        refine xr_ret hc rfl rfl ?_
        refine ⟨?_, rfl, rfl⟩
        unfold s_a_of
        first
          | rw [if_pos (by omega)]
          | rw [if_neg (by omega)]
        all_goals first
          | rfl
          | (unfold s_told
             congr 2
             repeat' split
             all_goals omega)
      · refine ⟨48, 66, rfl, rfl, ?_⟩
        refine xr_go hc rfl rfl ?_
        refine xr_gf2 (A := 38) (w := 41) rfl hc rfl (ew_own_p hn rfl) (ew_pm hp rfl) ?_
        refine xr_go hc rfl rfl ?_
        refine xr_iald (A := 41) (N := 64) rfl rfl hc rfl (ew_ok_p hn rfl) (by omega) (by omega) q3 ?_
        refine xr_ret hc rfl rfl ?_
        refine ⟨?_, rfl, rfl⟩
        unfold s_a_of
        first
          | rw [if_pos (by omega)]
          | rw [if_neg (by omega)]
        all_goals first
          | rfl
          | (unfold s_told
             congr 2
             repeat' split
             all_goals omega)
      · refine ⟨55, 73, rfl, rfl, ?_⟩
        refine xr_go hc rfl rfl ?_
        refine xr_gf2 (A := 38) (w := 42) rfl hc rfl (ew_own_p hn rfl) (ew_pm hp rfl) ?_
        refine xr_go hc rfl rfl ?_
        refine xr_iald (A := 42) (N := 64) rfl rfl hc rfl (ew_ok_p hn rfl) (by omega) (by omega) q4 ?_
        refine xr_ret hc rfl rfl ?_
        refine ⟨?_, rfl, rfl⟩
        unfold s_a_of
        first
          | rw [if_pos (by omega)]
          | rw [if_neg (by omega)]
        all_goals first
          | rfl
          | (unfold s_told
             congr 2
             repeat' split
             all_goals omega)
      · refine ⟨62, 80, rfl, rfl, ?_⟩
        refine xr_go hc rfl rfl ?_
        refine xr_gf2 (A := 38) (w := 43) rfl hc rfl (ew_own_p hn rfl) (ew_pm hp rfl) ?_
        refine xr_go hc rfl rfl ?_
        refine xr_iald (A := 43) (N := 64) rfl rfl hc rfl (ew_ok_p hn rfl) (by omega) (by omega) q5 ?_
        refine xr_ret hc rfl rfl ?_
        refine ⟨?_, rfl, rfl⟩
        unfold s_a_of
        first
          | rw [if_pos (by omega)]
          | rw [if_neg (by omega)]
        all_goals first
          | rfl
          | (unfold s_told
             congr 2
             repeat' split
             all_goals omega)
  · skip
    refine xr_go hc rfl rfl ?_
    refine xr_ret hc rfl rfl ?_
    refine ⟨?_, rfl, rfl⟩
    unfold s_a_of
    first
      | rw [if_pos (by omega)]
      | rw [if_neg (by omega)]
    all_goals first
      | rfl
      | (unfold s_told
         congr 2
         repeat' split
         all_goals omega)

set_option maxRecDepth 20000 in
theorem mx_at {V : ew_Mem} {n : Nat} {M : ew_Mem} (hM : s_M V n M) {w m : Int} (hw : ew_in w) (hm : ew_in m) : ew_FM 163 [(2, 38), (0, w), (0, m)] n M (0, s_a_at V w m) n M := by
  obtain ⟨hn, hp, hV, u0, u1, u2, u3, u4⟩ := id hM
  obtain ⟨hc6, hVW, hnd, hap, hr0, hr1, hr2, hr3, hr4, hr5⟩ := id hV
  have hc := ew_c_163
  show ew_X 163 0 [(2, 38), (0, w), (0, m)] [] n M _
  refine xr_go hc rfl rfl ?_
  refine xr_go hc rfl rfl ?_
  refine xr_v_2 hc rfl rfl (ew_own_p hn rfl) (m_isWheel hM hw) ?_
  refine xr_if_ne hc rfl (by split <;> omega) (fun c1 => ?_) (fun c1 => ?_)
  · skip
    refine xr_go hc rfl rfl ?_
    refine xr_s_1 hc rfl rfl (m_isMonth (by omega)) ?_
    refine xr_if_eq hc rfl (by split <;> omega) (fun c2 => ?_) (fun c2 => ?_)
    · skip
      refine xr_go hc rfl rfl ?_
      refine xr_ret hc rfl rfl ?_
      refine ⟨?_, rfl, rfl⟩
      unfold s_a_at
      repeat' split
      all_goals first
        | rfl
        | (exfalso; omega)
        | (congr 2; omega)
    · skip
      refine xr_go hc rfl rfl ?_
      refine xr_go hc rfl rfl ?_
      refine xr_go hc rfl rfl ?_
      refine xr_v_3 hc rfl rfl (ew_own_p hn rfl) (m_place hM (by omega) (by omega)) ?_
      refine xr_go hc rfl rfl ?_
      refine xr_ret hc rfl rfl ?_
      refine ⟨?_, rfl, rfl⟩
      unfold s_a_at
      repeat' split
      all_goals first
        | rfl
        | (exfalso; omega)
        | (congr 2; omega)
  · skip
    refine xr_go hc rfl rfl ?_
    refine xr_ret hc rfl rfl ?_
    refine ⟨?_, rfl, rfl⟩
    unfold s_a_at
    repeat' split
    all_goals first
      | rfl
      | (exfalso; omega)
      | (congr 2; omega)

set_option maxRecDepth 20000 in
theorem mx_rounds {V : ew_Mem} {n : Nat} {M : ew_Mem} (hM : s_M V n M) {w m : Int} (hw : ew_in w) (hm : ew_in m) : ew_FM 165 [(2, 38), (0, w), (0, m)] n M (1, s_a_rounds V w m) n M := by
  obtain ⟨hn, hp, hV, u0, u1, u2, u3, u4⟩ := id hM
  obtain ⟨hc6, hVW, hnd, hap, hr0, hr1, hr2, hr3, hr4, hr5⟩ := id hV
  have hc := ew_c_165
  show ew_X 165 0 [(2, 38), (0, w), (0, m)] [] n M _
  refine xr_go hc rfl rfl ?_
  refine xr_go hc rfl rfl ?_
  refine xr_v_2 hc rfl rfl (ew_own_p hn rfl) (m_isWheel hM hw) ?_
  refine xr_if_eq hc rfl (by split <;> omega) (fun c1 => ?_) (fun c1 => ?_)
  · skip
    refine xr_go hc rfl rfl ?_
    refine xr_ret hc rfl rfl ?_
    refine ⟨?_, rfl, rfl⟩
    unfold s_a_rounds
    repeat' split
    all_goals first
      | rfl
      | (exfalso; omega)
      | (congr 2; omega)
  · skip
    refine xr_go hc rfl rfl ?_
    refine xr_s_1 hc rfl rfl (m_isMonth (by omega)) ?_
    refine xr_if_eq hc rfl (by split <;> omega) (fun c2 => ?_) (fun c2 => ?_)
    · skip
      refine xr_go hc rfl rfl ?_
      refine xr_ret hc rfl rfl ?_
      refine ⟨?_, rfl, rfl⟩
      unfold s_a_rounds
      repeat' split
      all_goals first
        | rfl
        | (exfalso; omega)
        | (congr 2; omega)
    · skip
      refine xr_go hc rfl rfl ?_
      refine xr_go hc rfl rfl ?_
      refine xr_go hc rfl rfl ?_
      refine xr_v_3 hc rfl rfl (ew_own_p hn rfl) (m_roundsOf hM (by omega) (by omega)) ?_
      refine xr_go hc rfl rfl ?_
      refine xr_ret hc rfl rfl ?_
      refine ⟨?_, rfl, rfl⟩
      unfold s_a_rounds
      repeat' split
      all_goals first
        | rfl
        | (exfalso; omega)
        | (congr 2; omega)

set_option maxRecDepth 20000 in
theorem mx_eclipse {V : ew_Mem} {n : Nat} {M : ew_Mem} (hM : s_M V n M) {m x : Int} (hm : ew_in m) (hx : ew_in x) : ew_FM 170 [(2, 38), (0, m), (0, x)] n M (0, s_a_eclipse V m x) n M := by
  obtain ⟨hn, hp, hV, u0, u1, u2, u3, u4⟩ := id hM
  obtain ⟨hc6, hVW, hnd, hap, hr0, hr1, hr2, hr3, hr4, hr5⟩ := id hV
  have hc := ew_c_170
  show ew_X 170 0 [(2, 38), (0, m), (0, x)] [] n M _
  refine xr_go hc rfl rfl ?_
  refine xr_s_1 hc rfl rfl (m_isMonth (by omega)) ?_
  refine xr_if_eq hc rfl (by split <;> omega) (fun c1 => ?_) (fun c1 => ?_)
  · skip
    refine xr_go hc rfl rfl ?_
    refine xr_ret hc rfl rfl ?_
    refine ⟨?_, rfl, rfl⟩
    unfold s_a_eclipse
    repeat' split
    all_goals first
      | rfl
      | (exfalso; omega)
      | (congr 2; omega)
  · skip
    refine xr_go hc rfl rfl ?_
    refine xr_i2l hc rfl (by omega) ?_
    refine xr_go hc rfl rfl ?_
    refine xr_go hc rfl rfl ?_
    refine xr_s_3 hc rfl rfl (c_in (by omega) (by decide) (by decide)) ?_
    refine xr_if_ne hc rfl (by split <;> omega) (fun c2 => ?_) (fun c2 => ?_)
    · skip
      refine xr_go hc rfl rfl ?_
      refine xr_gf0 (A := 38) rfl hc rfl (ew_own_p hn rfl) u0 ?_
      refine xr_if_ne hc rfl (by omega) (fun c3 => ?_) (fun c3 => ?_)
      · skip
        refine xr_go hc rfl rfl ?_
        refine xr_if_ne hc rfl (by omega) (fun c4 => ?_) (fun c4 => ?_)
        · skip
          refine xr_go hc rfl rfl ?_
          refine xr_go hc rfl rfl ?_
          refine xr_icmp_ne hc rfl (by omega) (by decide) (fun c5 => ?_) (fun c5 => ?_)
          · skip
            refine xr_go hc rfl rfl ?_
            refine xr_go hc rfl rfl ?_
            refine xr_v_2 hc rfl rfl (ew_own_p hn rfl) (m_sideOf hM (by omega) (by omega)) ?_
            refine xr_ret hc rfl rfl ?_
            refine ⟨?_, rfl, rfl⟩
            unfold s_a_eclipse
            repeat' split
            all_goals first
              | rfl
              | (exfalso; omega)
              | (congr 2; omega)
          · skip
            refine xr_go hc rfl rfl ?_
            refine xr_go hc rfl rfl ?_
            refine xr_v_2 hc rfl rfl (ew_own_p hn rfl) (m_far hM (by omega) (by omega)) ?_
            refine xr_go hc rfl rfl ?_
            refine xr_ret hc rfl rfl ?_
            refine ⟨?_, rfl, rfl⟩
            unfold s_a_eclipse
            repeat' split
            all_goals first
              | rfl
              | (exfalso; omega)
              | (congr 2; omega)
        · skip
          refine xr_go hc rfl rfl ?_
          refine xr_go hc rfl rfl ?_
          refine xr_v_2 hc rfl rfl (ew_own_p hn rfl) (m_eclipseAt hM (by omega)) ?_
          refine xr_go hc rfl rfl ?_
          refine xr_ret hc rfl rfl ?_
          refine ⟨?_, rfl, rfl⟩
          unfold s_a_eclipse
          repeat' split
          all_goals first
            | rfl
            | (exfalso; omega)
            | (congr 2; omega)
      · skip
        refine xr_go hc rfl rfl ?_
        refine xr_ret hc rfl rfl ?_
        refine ⟨?_, rfl, rfl⟩
        unfold s_a_eclipse
        repeat' split
        all_goals first
          | rfl
          | (exfalso; omega)
          | (congr 2; omega)
    · skip
      refine xr_go hc rfl rfl ?_
      refine xr_ret hc rfl rfl ?_
      refine ⟨?_, rfl, rfl⟩
      unfold s_a_eclipse
      repeat' split
      all_goals first
        | rfl
        | (exfalso; omega)
        | (congr 2; omega)

theorem s_near_mod {p q all : Int} : s_near p (q % all) all = s_near p q all := by
  have h1 := Int.emod_add_mul_ediv q all
  unfold s_near
  rw [show p - q % all = p - q + all * (q / all) by omega, show q % all - p = q - p + all * (-(q / all)) by rw [Int.mul_neg]; omega, Int.add_mul_emod_self_left, Int.add_mul_emod_self_left]
set_option maxRecDepth 20000 in
theorem m_driftOf {V : ew_Mem} {n : Nat} {M : ew_Mem} (hM : s_M V n M) (h0 : 0 < V 6 0) {k x : Int} (hk : 1 ≤ k ∧ k ≤ 2000) (hx : x = 0 ∨ x = 1) : ew_FM 185 [(2, 38), (0, k), (0, x)] n M (0, s_drift V k x) n M := by
  obtain ⟨hn, hp, hV, u0, u1, u2, u3, u4⟩ := id hM
  obtain ⟨hc6, hVW, hnd, hap, hr0, hr1, hr2, hr3, hr4, hr5⟩ := id hV
  have hc := ew_c_185
  have hnd0 : 0 ≤ V 6 1 ∧ V 6 1 < V 6 0 := by omega
  obtain ⟨k0, k1, k2, k3, k4⟩ := hVW (V 6 1).toNat (by omega)
  have hat := s_at_bd hV k (w := (V 6 1).toNat) (by omega)
  have hat0 := s_at_bd hV 0 (w := (V 6 1).toNat) (by omega)
  have hnP : s_nP V = V (V 6 1).toNat 1 := rfl
  have g1 := Int.emod_nonneg (s_at V (V 6 1).toNat 0 + s_nP V / 2) (show s_nP V ≠ 0 by omega)
  have g2 := Int.emod_lt_of_pos (s_at V (V 6 1).toNat 0 + s_nP V / 2) (show 0 < s_nP V by omega)
  show ew_X 185 0 [(2, 38), (0, k), (0, x), (5, 0), (5, 0)] [] n M _
  refine xr_go hc rfl rfl ?_
  refine xr_v_1 hc rfl rfl (ew_own_p hn rfl) (m_nodeParts hM h0) ?_
  refine xr_s1_3 hc rfl rfl rfl ?_
  refine xr_go hc rfl rfl ?_
  refine xr_if_ne hc rfl (by omega) (fun c1 => ?_) (fun c1 => ?_)
  · skip
    refine xr_go hc rfl rfl ?_
    refine xr_go hc rfl rfl ?_
    refine xr_gf0 (A := 38) rfl hc rfl (ew_own_p hn rfl) u1 ?_
    refine xr_go hc rfl rfl ?_
    refine xr_v_3 hc rfl rfl (ew_own_p hn rfl) (m_place hM hnd0 (by omega)) ?_
    refine xr_go hc rfl rfl ?_
    refine xr_go hc rfl rfl ?_
    refine xr_idiv hc rfl (by omega) (by omega) ?_
    refine xr_go hc rfl rfl ?_
    refine xr_go hc rfl rfl ?_
    refine xr_irem hc rfl (by omega) (by omega) ?_
    refine xr_s1_4 hc rfl rfl rfl ?_
    refine xr_go hc rfl rfl ?_
    refine xr_go hc rfl rfl ?_
    refine xr_gf0 (A := 38) rfl hc rfl (ew_own_p hn rfl) u1 ?_
    refine xr_go hc rfl rfl ?_
    refine xr_v_3 hc rfl rfl (ew_own_p hn rfl) (m_place hM hnd0 (by omega)) ?_
    refine xr_go hc rfl rfl ?_
    refine xr_go hc rfl rfl ?_
    refine xr_s_3 hc rfl rfl (m_near (by omega) (by omega) (by omega)) ?_
    refine xr_ret hc rfl rfl ?_
    refine ⟨?_, rfl, rfl⟩
    unfold s_drift
    first
      | (rw [if_pos (by omega), Int.add_zero]; rfl)
      | (rw [if_neg (by omega), s_near_mod]; rfl)
  · skip
    refine xr_go hc rfl rfl ?_
    refine xr_go hc rfl rfl ?_
    refine xr_gf0 (A := 38) rfl hc rfl (ew_own_p hn rfl) u1 ?_
    refine xr_go hc rfl rfl ?_
    refine xr_v_3 hc rfl rfl (ew_own_p hn rfl) (m_place hM hnd0 (by omega)) ?_
    refine xr_go hc rfl rfl ?_
    refine xr_s1_4 hc rfl rfl rfl ?_
    refine xr_go hc rfl rfl ?_
    refine xr_go hc rfl rfl ?_
    refine xr_gf0 (A := 38) rfl hc rfl (ew_own_p hn rfl) u1 ?_
    refine xr_go hc rfl rfl ?_
    refine xr_v_3 hc rfl rfl (ew_own_p hn rfl) (m_place hM hnd0 (by omega)) ?_
    refine xr_go hc rfl rfl ?_
    refine xr_go hc rfl rfl ?_
    refine xr_s_3 hc rfl rfl (m_near (by omega) (by omega) (by omega)) ?_
    refine xr_ret hc rfl rfl ?_
    refine ⟨?_, rfl, rfl⟩
    unfold s_drift
    first
      | (rw [if_pos (by omega), Int.add_zero]; rfl)
      | (rw [if_neg (by omega), s_near_mod]; rfl)

set_option maxRecDepth 20000 in
theorem mx_drift {V : ew_Mem} {n : Nat} {M : ew_Mem} (hM : s_M V n M) {k x : Int} (hk : ew_in k) (hx : ew_in x) : ew_FM 184 [(2, 38), (0, k), (0, x)] n M (0, s_a_drift V k x) n M := by
  obtain ⟨hn, hp, hV, u0, u1, u2, u3, u4⟩ := id hM
  obtain ⟨hc6, hVW, hnd, hap, hr0, hr1, hr2, hr3, hr4, hr5⟩ := id hV
  have hc := ew_c_184
  show ew_X 184 0 [(2, 38), (0, k), (0, x)] [] n M _
  refine xr_go hc rfl rfl ?_
  refine xr_s_1 hc rfl rfl (m_isCycle (by omega)) ?_
  refine xr_if_eq hc rfl (by split <;> omega) (fun c1 => ?_) (fun c1 => ?_)
  · skip
    refine xr_go hc rfl rfl ?_
    refine xr_ret hc rfl rfl ?_
    refine ⟨?_, rfl, rfl⟩
    unfold s_a_drift
    repeat' split
    all_goals first
      | rfl
      | (exfalso; omega)
      | (congr 2; omega)
  · skip
    refine xr_go hc rfl rfl ?_
    refine xr_i2l hc rfl (by omega) ?_
    refine xr_go hc rfl rfl ?_
    refine xr_go hc rfl rfl ?_
    refine xr_s_3 hc rfl rfl (c_in (by omega) (by decide) (by decide)) ?_
    refine xr_if_ne hc rfl (by split <;> omega) (fun c2 => ?_) (fun c2 => ?_)
    · skip
      refine xr_go hc rfl rfl ?_
      refine xr_gf0 (A := 38) rfl hc rfl (ew_own_p hn rfl) u0 ?_
      refine xr_if_ne hc rfl (by omega) (fun c3 => ?_) (fun c3 => ?_)
      · skip
        refine xr_go hc rfl rfl ?_
        refine xr_go hc rfl rfl ?_
        refine xr_go hc rfl rfl ?_
        refine xr_v_3 hc rfl rfl (ew_own_p hn rfl) (m_driftOf hM (by omega) (by omega) (by omega)) ?_
        refine xr_ret hc rfl rfl ?_
        refine ⟨?_, rfl, rfl⟩
        unfold s_a_drift
        repeat' split
        all_goals first
          | rfl
          | (exfalso; omega)
          | (congr 2; omega)
      · skip
        refine xr_go hc rfl rfl ?_
        refine xr_go hc rfl rfl ?_
        refine xr_ret hc rfl rfl ?_
        refine ⟨?_, rfl, rfl⟩
        unfold s_a_drift
        repeat' split
        all_goals first
          | rfl
          | (exfalso; omega)
          | (congr 2; omega)
    · skip
      refine xr_go hc rfl rfl ?_
      refine xr_ret hc rfl rfl ?_
      refine ⟨?_, rfl, rfl⟩
      unfold s_a_drift
      repeat' split
      all_goals first
        | rfl
        | (exfalso; omega)
        | (congr 2; omega)

set_option maxRecDepth 20000 in
theorem m_dayOf {V : ew_Mem} {n : Nat} {M : ew_Mem} (hM : s_M V n M) {m : Int} (hm : -100000 ≤ m ∧ m ≤ 100000) : ew_FM 195 [(2, 38), (0, m)] n M (1, s_day V m) n M := by
  obtain ⟨hn, hp, hV, u0, u1, u2, u3, u4⟩ := id hM
  obtain ⟨hc6, hVW, hnd, hap, hr0, hr1, hr2, hr3, hr4, hr5⟩ := id hV
  have hc := ew_c_195
  obtain ⟨hb1, hb2⟩ := s_day_bd hV (m := m) hm
  show ew_X 195 0 [(2, 38), (0, m)] [] n M _
  refine xr_go hc rfl rfl ?_
  refine xr_gf2 (A := 38) (w := 45) rfl hc rfl (ew_own_p hn rfl) (ew_pm hp rfl) ?_
  refine xr_go hc rfl rfl ?_
  refine xr_iald (A := 45) (N := 6) rfl rfl hc rfl (ew_ok_p hn rfl) (by decide) (by decide) (u3 3 (by decide)) ?_
  refine xr_i2l hc rfl (by omega) ?_
  refine xr_go hc rfl rfl ?_
  refine xr_i2l hc rfl (by omega) ?_
  refine xr_go hc rfl rfl ?_
  refine xr_go hc rfl rfl ?_
  refine xr_gf2 (A := 38) (w := 45) rfl hc rfl (ew_own_p hn rfl) (ew_pm hp rfl) ?_
  refine xr_go hc rfl rfl ?_
  refine xr_iald (A := 45) (N := 6) rfl rfl hc rfl (ew_ok_p hn rfl) (by decide) (by decide) (u3 4 (by decide)) ?_
  refine xr_i2l hc rfl (by omega) ?_
  refine xr_s_2 hc rfl rfl (m_floor (by omega) (by omega)) ?_
  refine xr_ret hc rfl rfl ?_
  exact ⟨rfl, rfl, rfl⟩

set_option maxRecDepth 20000 in
theorem mx_month {V : ew_Mem} {n : Nat} {M : ew_Mem} (hM : s_M V n M) {d : Int} (hd : ew_in d) : ew_FM 196 [(2, 38), (0, d)] n M (0, s_a_month V d) n M := by
  obtain ⟨hn, hp, hV, u0, u1, u2, u3, u4⟩ := id hM
  obtain ⟨hc6, hVW, hnd, hap, hr0, hr1, hr2, hr3, hr4, hr5⟩ := id hV
  have hc := ew_c_196
  show ew_X 196 0 [(2, 38), (0, d), (5, 0), (5, 0)] [] n M _
  refine xr_go hc rfl rfl ?_
  refine xr_i2l hc rfl (by omega) ?_
  refine xr_go hc rfl rfl ?_
  refine xr_go hc rfl rfl ?_
  refine xr_s_3 hc rfl rfl (c_in (by omega) (by decide) (by decide)) ?_
  refine xr_if_ne hc rfl (by split <;> omega) (fun c1 => ?_) (fun c1 => ?_)
  · skip
    have hb1 := s_mul_bd (a := V 7 4) (b := d) (A := 1000) (B := 1000000) (by omega) (by omega)
    have hb0 : 0 ≤ V 7 4 * d := Int.mul_nonneg (by omega) (by omega)
    have hmf : s_monthFrom V d = (V 7 4 * d + V 7 3 - 1) / V 7 3 := by unfold s_monthFrom; rw [Int.mul_comm d]
    have hb2 : -2000000000 ≤ s_monthFrom V d ∧ s_monthFrom V d ≤ 2000000000 := s_div_bd (by rw [Int.mul_comm d]; omega) (by omega)
    refine xr_go hc rfl rfl ?_
    refine xr_gf2 (A := 38) (w := 45) rfl hc rfl (ew_own_p hn rfl) (ew_pm hp rfl) ?_
    refine xr_go hc rfl rfl ?_
    refine xr_iald (A := 45) (N := 6) rfl rfl hc rfl (ew_ok_p hn rfl) (by decide) (by decide) (u3 4 (by decide)) ?_
    refine xr_i2l hc rfl (by omega) ?_
    refine xr_go hc rfl rfl ?_
    refine xr_i2l hc rfl (by omega) ?_
    refine xr_go hc rfl rfl ?_
    refine xr_go hc rfl rfl ?_
    refine xr_gf2 (A := 38) (w := 45) rfl hc rfl (ew_own_p hn rfl) (ew_pm hp rfl) ?_
    refine xr_go hc rfl rfl ?_
    refine xr_iald (A := 45) (N := 6) rfl rfl hc rfl (ew_ok_p hn rfl) (by decide) (by decide) (u3 3 (by decide)) ?_
    refine xr_i2l hc rfl (by omega) ?_
    refine xr_go hc rfl rfl ?_
    refine xr_go hc rfl rfl ?_
    refine xr_go hc rfl rfl ?_
    refine xr_go hc rfl rfl ?_
    refine xr_gf2 (A := 38) (w := 45) rfl hc rfl (ew_own_p hn rfl) (ew_pm hp rfl) ?_
    refine xr_go hc rfl rfl ?_
    refine xr_iald (A := 45) (N := 6) rfl rfl hc rfl (ew_ok_p hn rfl) (by decide) (by decide) (u3 3 (by decide)) ?_
    refine xr_i2l hc rfl (by omega) ?_
    refine xr_ldivN hc rfl (by omega) (by omega) ?_
    refine xr_s2_2 hc rfl rfl rfl ?_
    refine xr_go hc rfl rfl ?_
    refine xr_go hc rfl rfl ?_
    refine xr_l_le hc rfl rfl (by omega) (by omega) (fun c2 => ?_) (fun c2 => ?_)
    · skip
      refine xr_go hc rfl rfl ?_
      refine xr_go hc rfl rfl ?_
      refine xr_ret hc rfl rfl ?_
      refine ⟨?_, rfl, rfl⟩
      unfold s_a_month
      repeat' split
      all_goals first
        | rfl
        | (exfalso; omega)
        | (congr 2; omega)
    · skip
      refine xr_go hc rfl rfl ?_
      refine xr_go hc rfl rfl ?_
      refine xr_ret hc rfl rfl ?_
      refine ⟨?_, rfl, rfl⟩
      unfold s_a_month
      repeat' split
      all_goals first
        | rfl
        | (exfalso; omega)
        | (congr 2; omega)
  · skip
    refine xr_go hc rfl rfl ?_
    refine xr_ret hc rfl rfl ?_
    refine ⟨?_, rfl, rfl⟩
    unfold s_a_month
    repeat' split
    all_goals first
      | rfl
      | (exfalso; omega)
      | (congr 2; omega)

theorem s_dt {d R : Int} (hR : 1 ≤ R ∧ R ≤ 400) (hd : 0 ≤ d) (V : ew_Mem) (hV : V 7 5 = R) : s_year V d = d / (365 * R + 1) * R + (if d % (365 * R + 1) < 366 then 0 else 1 + (d % (365 * R + 1) - 366) / 365) ∧ d - s_firstDay V (s_year V d) = (if d % (365 * R + 1) < 366 then d % (365 * R + 1) else (d % (365 * R + 1) - 366) % 365) := by
  have h1 := Int.emod_add_mul_ediv d (365 * R + 1)
  have h2 := Int.emod_nonneg d (show 365 * R + 1 ≠ 0 by omega)
  have h3 := Int.emod_lt_of_pos d (show 0 < 365 * R + 1 by omega)
  have h6 : (365 * R + 1) * (d / (365 * R + 1)) = 365 * (d / (365 * R + 1) * R) + d / (365 * R + 1) := by
    rw [Int.add_mul, Int.one_mul, Int.mul_assoc, Int.mul_comm R]
  have hy : s_year V d = d / (365 * R + 1) * R + (if d % (365 * R + 1) < 366 then 0 else 1 + (d % (365 * R + 1) - 366) / 365) := by
    unfold s_year
    rw [hV]
    split <;> omega
  refine ⟨hy, ?_⟩
  have hc : ∀ t : Int, 0 ≤ t → t < R → (d / (365 * R + 1) * R + t + R - 1) / R = d / (365 * R + 1) + (if t = 0 then 0 else 1) := by
    intro t h0 ht
    split
    · rw [show d / (365 * R + 1) * R + t + R - 1 = (R - 1) + d / (365 * R + 1) * R by omega, Int.add_mul_ediv_right _ _ (by omega), Int.ediv_eq_zero_of_lt (by omega) (by omega)]
      omega
    · rw [show d / (365 * R + 1) * R + t + R - 1 = (t - 1) + (d / (365 * R + 1) + 1) * R by rw [Int.add_mul]; omega, Int.add_mul_ediv_right _ _ (by omega), Int.ediv_eq_zero_of_lt (by omega) (by omega)]
      omega
  unfold s_firstDay
  rw [hV, hy]
  by_cases hs : d % (365 * R + 1) < 366
  · rw [if_pos hs, if_pos hs, hc 0 (by omega) (by omega)]
    omega
  · rw [if_neg hs, if_neg hs, hc _ (by omega) (by omega), if_neg (by omega)]
    omega
set_option maxRecDepth 20000 in
theorem mx_date {V : ew_Mem} {n : Nat} {M : ew_Mem} (hM : s_M V n M) {m x : Int} (hm : ew_in m) (hx : ew_in x) : ew_FM 194 [(2, 38), (0, m), (0, x)] n M (1, s_a_date V m x) n M := by
  obtain ⟨hn, hp, hV, u0, u1, u2, u3, u4⟩ := id hM
  obtain ⟨hc6, hVW, hnd, hap, hr0, hr1, hr2, hr3, hr4, hr5⟩ := id hV
  have hc := ew_c_194
  show ew_X 194 0 [(2, 38), (0, m), (0, x), (5, 0), (5, 0), (5, 0), (5, 0), (5, 0), (5, 0), (5, 0), (5, 0)] [] n M _
  refine xr_go hc rfl rfl ?_
  refine xr_s_1 hc rfl rfl (m_isMonth (by omega)) ?_
  refine xr_if_eq hc rfl (by split <;> omega) (fun c1 => ?_) (fun c1 => ?_)
  · skip
    refine xr_go hc rfl rfl ?_
    refine xr_ret hc rfl rfl ?_
    refine ⟨?_, rfl, rfl⟩
    unfold s_a_date
    repeat' split
    all_goals first
      | rfl
      | (exfalso; omega)
      | (congr 2; omega)
  · skip
    refine xr_go hc rfl rfl ?_
    refine xr_i2l hc rfl (by omega) ?_
    refine xr_go hc rfl rfl ?_
    refine xr_go hc rfl rfl ?_
    refine xr_s_3 hc rfl rfl (c_in (by omega) (by decide) (by decide)) ?_
    refine xr_if_ne hc rfl (by split <;> omega) (fun c2 => ?_) (fun c2 => ?_)
    · skip
      refine xr_go hc rfl rfl ?_
      refine xr_go hc rfl rfl ?_
      refine xr_v_2 hc rfl rfl (ew_own_p hn rfl) (m_dayOf hM (by omega)) ?_
      obtain ⟨hb1, hb2⟩ := s_day_bd hV (m := m) (by omega)
      refine xr_s2_3 hc rfl rfl rfl ?_
      refine xr_go hc rfl rfl ?_
      refine xr_go hc rfl rfl ?_
      refine xr_icmp_ge hc rfl (by omega) (by decide) (fun c3 => ?_) (fun c3 => ?_)
      · skip
        refine xr_go hc rfl rfl ?_
        refine xr_go hc rfl rfl ?_
        refine xr_l_ge hc rfl rfl (by omega) (by omega) (fun c4 => ?_) (fun c4 => ?_)
        · skip
          obtain ⟨hd1, hd2⟩ := s_dt (d := s_day V m) hr5 (by omega) V rfl
          have hyb := s_year_bd hV (d := s_day V m) (by omega)
          have e2 := Int.emod_nonneg (s_day V m) (show 365 * V 7 5 + 1 ≠ 0 by omega)
          have e3 := Int.emod_lt_of_pos (s_day V m) (show 0 < 365 * V 7 5 + 1 by omega)
          refine xr_go hc rfl rfl ?_
          refine xr_go hc rfl rfl ?_
          refine xr_gf2 (A := 38) (w := 45) rfl hc rfl (ew_own_p hn rfl) (ew_pm hp rfl) ?_
          refine xr_go hc rfl rfl ?_
          refine xr_iald (A := 45) (N := 6) rfl rfl hc rfl (ew_ok_p hn rfl) (by decide) (by decide) (u3 5 (by decide)) ?_
          refine xr_i2l hc rfl (by omega) ?_
          refine xr_go hc rfl rfl ?_
          refine xr_go hc rfl rfl ?_
          refine xr_go hc rfl rfl ?_
          refine xr_s2_5 hc rfl rfl rfl ?_
          refine xr_go hc rfl rfl ?_
          refine xr_go hc rfl rfl ?_
          refine xr_lremN hc rfl (by omega) (by omega) ?_
          refine xr_s2_7 hc rfl rfl rfl ?_
          refine xr_go hc rfl rfl ?_
          refine xr_go hc rfl rfl ?_
          refine xr_l_ge hc rfl rfl (by omega) (by omega) (fun c5 => ?_) (fun c5 => ?_)
          · skip
            refine xr_go hc rfl rfl ?_
            refine xr_go hc rfl rfl ?_
            refine xr_go hc rfl rfl ?_
            refine xr_go hc rfl rfl ?_
            refine xr_go hc rfl rfl ?_
            refine xr_ldivN hc rfl (by omega) (by omega) ?_
            refine xr_go hc rfl rfl ?_
            refine xr_s2_9 hc rfl rfl rfl ?_
            refine xr_go hc rfl rfl ?_
            refine xr_go hc rfl rfl ?_
            refine xr_icmp_ne hc rfl (by omega) (by decide) (fun c6 => ?_) (fun c6 => ?_)
            · skip
              refine xr_go hc rfl rfl ?_
              refine xr_go hc rfl rfl ?_
              refine xr_l_ge hc rfl rfl (by omega) (by omega) (fun c7 => ?_) (fun c7 => ?_)
              · skip
                refine xr_go hc rfl rfl ?_
                refine xr_go hc rfl rfl ?_
                refine xr_go hc rfl rfl ?_
                refine xr_go hc rfl rfl ?_
                refine xr_lremN hc rfl (by omega) (by omega) ?_
                refine xr_ret hc rfl rfl ?_
                refine ⟨?_, rfl, rfl⟩
                unfold s_a_date
                rw [if_pos (by omega), if_neg (by omega), if_neg (by omega), if_neg (by omega), if_pos (by omega), if_neg (by omega), hd2]
                congr 2
                split <;> omega
              · skip
                refine xr_go hc rfl rfl ?_
                refine xr_go hc rfl rfl ?_
                refine xr_ret hc rfl rfl ?_
                refine ⟨?_, rfl, rfl⟩
                unfold s_a_date
                rw [if_pos (by omega), if_neg (by omega), if_neg (by omega), if_neg (by omega), if_pos (by omega), if_neg (by omega), hd2]
                congr 2
                split <;> omega
            · skip
              refine xr_go hc rfl rfl ?_
              refine xr_go hc rfl rfl ?_
              refine xr_ldivN hc rfl (by omega) (by omega) ?_
              refine xr_go hc rfl rfl ?_
              refine xr_gf2 (A := 38) (w := 45) rfl hc rfl (ew_own_p hn rfl) (ew_pm hp rfl) ?_
              refine xr_go hc rfl rfl ?_
              refine xr_iald (A := 45) (N := 6) rfl rfl hc rfl (ew_ok_p hn rfl) (by decide) (by decide) (u3 5 (by decide)) ?_
              refine xr_i2l hc rfl (by omega) ?_
              refine xr_go hc rfl rfl ?_
              refine xr_go hc rfl rfl ?_
              refine xr_go hc rfl rfl ?_
              refine xr_ret hc rfl rfl ?_
              refine ⟨?_, rfl, rfl⟩
              unfold s_a_date
              rw [if_pos (by omega), if_neg (by omega), if_neg (by omega), if_pos (by omega), if_neg (by omega), hd1]
              congr 2
              split <;> omega
          · skip
            refine xr_go hc rfl rfl ?_
            refine xr_go hc rfl rfl ?_
            refine xr_s2_9 hc rfl rfl rfl ?_
            refine xr_go hc rfl rfl ?_
            refine xr_go hc rfl rfl ?_
            refine xr_icmp_ne hc rfl (by omega) (by decide) (fun c8 => ?_) (fun c8 => ?_)
            · skip
              refine xr_go hc rfl rfl ?_
              refine xr_go hc rfl rfl ?_
              refine xr_l_ge hc rfl rfl (by omega) (by omega) (fun c9 => ?_) (fun c9 => ?_)
              · skip
                refine xr_go hc rfl rfl ?_
                refine xr_go hc rfl rfl ?_
                refine xr_go hc rfl rfl ?_
                refine xr_go hc rfl rfl ?_
                refine xr_lremN hc rfl (by omega) (by omega) ?_
                refine xr_ret hc rfl rfl ?_
                refine ⟨?_, rfl, rfl⟩
                unfold s_a_date
                rw [if_pos (by omega), if_neg (by omega), if_neg (by omega), if_neg (by omega), if_pos (by omega), if_neg (by omega), hd2]
                congr 2
                split <;> omega
              · skip
                refine xr_go hc rfl rfl ?_
                refine xr_go hc rfl rfl ?_
                refine xr_ret hc rfl rfl ?_
                refine ⟨?_, rfl, rfl⟩
                unfold s_a_date
                rw [if_pos (by omega), if_neg (by omega), if_neg (by omega), if_neg (by omega), if_pos (by omega), if_neg (by omega), hd2]
                congr 2
                split <;> omega
            · skip
              refine xr_go hc rfl rfl ?_
              refine xr_go hc rfl rfl ?_
              refine xr_ldivN hc rfl (by omega) (by omega) ?_
              refine xr_go hc rfl rfl ?_
              refine xr_gf2 (A := 38) (w := 45) rfl hc rfl (ew_own_p hn rfl) (ew_pm hp rfl) ?_
              refine xr_go hc rfl rfl ?_
              refine xr_iald (A := 45) (N := 6) rfl rfl hc rfl (ew_ok_p hn rfl) (by decide) (by decide) (u3 5 (by decide)) ?_
              refine xr_i2l hc rfl (by omega) ?_
              refine xr_go hc rfl rfl ?_
              refine xr_go hc rfl rfl ?_
              refine xr_go hc rfl rfl ?_
              refine xr_ret hc rfl rfl ?_
              refine ⟨?_, rfl, rfl⟩
              unfold s_a_date
              rw [if_pos (by omega), if_neg (by omega), if_neg (by omega), if_pos (by omega), if_neg (by omega), hd1]
              congr 2
              split <;> omega
        · skip
          refine xr_go hc rfl rfl ?_
          refine xr_ret hc rfl rfl ?_
          refine ⟨?_, rfl, rfl⟩
          unfold s_a_date
          repeat' split
          all_goals first
            | rfl
            | (exfalso; omega)
            | (congr 2; omega)
      · skip
        refine xr_go hc rfl rfl ?_
        refine xr_if_ne hc rfl (by omega) (fun c10 => ?_) (fun c10 => ?_)
        · skip
          refine xr_go hc rfl rfl ?_
          refine xr_gf2 (A := 38) (w := 45) rfl hc rfl (ew_own_p hn rfl) (ew_pm hp rfl) ?_
          refine xr_go hc rfl rfl ?_
          refine xr_iald (A := 45) (N := 6) rfl rfl hc rfl (ew_ok_p hn rfl) (by decide) (by decide) (u3 3 (by decide)) ?_
          refine xr_i2l hc rfl (by omega) ?_
          refine xr_go hc rfl rfl ?_
          refine xr_i2l hc rfl (by omega) ?_
          refine xr_go hc rfl rfl ?_
          refine xr_go hc rfl rfl ?_
          refine xr_gf2 (A := 38) (w := 45) rfl hc rfl (ew_own_p hn rfl) (ew_pm hp rfl) ?_
          refine xr_go hc rfl rfl ?_
          refine xr_iald (A := 45) (N := 6) rfl rfl hc rfl (ew_ok_p hn rfl) (by decide) (by decide) (u3 4 (by decide)) ?_
          refine xr_i2l hc rfl (by omega) ?_
          refine xr_go hc rfl rfl ?_
          refine xr_go hc rfl rfl ?_
          refine xr_go hc rfl rfl ?_
          refine xr_ret hc rfl rfl ?_
          refine ⟨?_, rfl, rfl⟩
          unfold s_a_date
          repeat' split
          all_goals first
            | rfl
            | (exfalso; omega)
            | (congr 2; omega)
        · skip
          refine xr_go hc rfl rfl ?_
          refine xr_go hc rfl rfl ?_
          refine xr_ret hc rfl rfl ?_
          refine ⟨?_, rfl, rfl⟩
          unfold s_a_date
          repeat' split
          all_goals first
            | rfl
            | (exfalso; omega)
            | (congr 2; omega)
    · skip
      refine xr_go hc rfl rfl ?_
      refine xr_ret hc rfl rfl ?_
      refine ⟨?_, rfl, rfl⟩
      unfold s_a_date
      repeat' split
      all_goals first
        | rfl
        | (exfalso; omega)
        | (congr 2; omega)

set_option maxRecDepth 20000 in
theorem mx_ecl_1 {V : ew_Mem} {n : Nat} {M : ew_Mem} (hM : s_M V n M) {a b kd : Int} (hb : ew_in b) (hkd : 0 ≤ kd ∧ kd ≤ 3) : ∀ (j : Nat) (m c0 : Int) (q : ew_AV), m + (j : Int) = b + 1 → -100000 ≤ m → b ≤ 100000 → 0 ≤ c0 → c0 + (j : Int) ≤ 100000 →
    ew_X 177 34 [(2, 38), (0, a), (0, b), (0, kd), (0, c0), (0, m), q] [] n M (fun r a1 b1 => r = some (0, c0 + s_cnt V kd j m) ∧ a1 = n ∧ b1 = M) := by
  obtain ⟨hn, hp, hV, u0, u1, u2, u3, u4⟩ := id hM
  obtain ⟨hc6, hVW, hnd, hap, hr0, hr1, hr2, hr3, hr4, hr5⟩ := id hV
  have hc := ew_c_177
  intro j
  induction j with
  | zero =>
    intro m c0 q hj hm1 hm2 hc0 hc1
    refine xr_go hc rfl rfl ?_
    refine xr_go hc rfl rfl ?_
    refine xr_icmp_gt hc rfl (by omega) (by omega) (fun c1 => ?_) (fun c1 => ?_)
    · skip
      refine xr_go hc rfl rfl ?_
      refine xr_ret hc rfl rfl ?_
      exact ⟨by rw [s_cnt, Int.add_zero], rfl, rfl⟩
    · exfalso; omega
  | succ j ih =>
    intro m c0 q hj hm1 hm2 hc0 hc1
    refine xr_go hc rfl rfl ?_
    refine xr_go hc rfl rfl ?_
    refine xr_icmp_gt hc rfl (by omega) (by omega) (fun c1 => ?_) (fun c1 => ?_)
    · exfalso; omega
    · skip
      refine xr_go hc rfl rfl ?_
      refine xr_go hc rfl rfl ?_
      refine xr_v_2 hc rfl rfl (ew_own_p hn rfl) (m_eclipseAt hM (by omega)) ?_
      have he := s_ecl_bd V m
      refine xr_s1_6 hc rfl rfl rfl ?_
      refine xr_go hc rfl rfl ?_
      refine xr_go hc rfl rfl ?_
      refine xr_if_le hc rfl (by omega) (fun c2 => ?_) (fun c2 => ?_)
      · skip
        refine xr_go hc rfl rfl ?_
        refine xr_go hc rfl rfl ?_
        refine xr_s1_4 hc rfl rfl rfl ?_
        refine xr_inc_5 hc rfl ?_
        refine xr_go hc rfl rfl ?_
        rw [s_cnt]
        first
          | (rw [if_pos (by omega), ← Int.add_assoc]
             exact ih (m + 1) (c0 + 1) _ (by omega) (by omega) (by omega) (by omega) (by omega))
          | (rw [if_neg (by omega), Int.zero_add]
             exact ih (m + 1) c0 _ (by omega) (by omega) (by omega) (by omega) (by omega))
          | (rw [if_neg (by omega), Int.zero_add, Int.add_zero]
             exact ih (m + 1) c0 _ (by omega) (by omega) (by omega) (by omega) (by omega))
      · skip
        refine xr_go hc rfl rfl ?_
        refine xr_if_eq hc rfl (by omega) (fun c3 => ?_) (fun c3 => ?_)
        · skip
          refine xr_go hc rfl rfl ?_
          refine xr_go hc rfl rfl ?_
          refine xr_go hc rfl rfl ?_
          refine xr_s1_4 hc rfl rfl rfl ?_
          refine xr_inc_5 hc rfl ?_
          refine xr_go hc rfl rfl ?_
          rw [s_cnt]
          first
            | (rw [if_pos (by omega), ← Int.add_assoc]
               exact ih (m + 1) (c0 + 1) _ (by omega) (by omega) (by omega) (by omega) (by omega))
            | (rw [if_neg (by omega), Int.zero_add]
               exact ih (m + 1) c0 _ (by omega) (by omega) (by omega) (by omega) (by omega))
            | (rw [if_neg (by omega), Int.zero_add, Int.add_zero]
               exact ih (m + 1) c0 _ (by omega) (by omega) (by omega) (by omega) (by omega))
        · skip
          refine xr_go hc rfl rfl ?_
          refine xr_go hc rfl rfl ?_
          refine xr_icmp_ne hc rfl (by omega) (by omega) (fun c4 => ?_) (fun c4 => ?_)
          · skip
            refine xr_go hc rfl rfl ?_
            refine xr_go hc rfl rfl ?_
            refine xr_s1_4 hc rfl rfl rfl ?_
            refine xr_inc_5 hc rfl ?_
            refine xr_go hc rfl rfl ?_
            rw [s_cnt]
            first
              | (rw [if_pos (by omega), ← Int.add_assoc]
                 exact ih (m + 1) (c0 + 1) _ (by omega) (by omega) (by omega) (by omega) (by omega))
              | (rw [if_neg (by omega), Int.zero_add]
                 exact ih (m + 1) c0 _ (by omega) (by omega) (by omega) (by omega) (by omega))
              | (rw [if_neg (by omega), Int.zero_add, Int.add_zero]
                 exact ih (m + 1) c0 _ (by omega) (by omega) (by omega) (by omega) (by omega))
          · skip
            refine xr_go hc rfl rfl ?_
            refine xr_go hc rfl rfl ?_
            refine xr_go hc rfl rfl ?_
            refine xr_s1_4 hc rfl rfl rfl ?_
            refine xr_inc_5 hc rfl ?_
            refine xr_go hc rfl rfl ?_
            rw [s_cnt]
            first
              | (rw [if_pos (by omega), ← Int.add_assoc]
                 exact ih (m + 1) (c0 + 1) _ (by omega) (by omega) (by omega) (by omega) (by omega))
              | (rw [if_neg (by omega), Int.zero_add]
                 exact ih (m + 1) c0 _ (by omega) (by omega) (by omega) (by omega) (by omega))
              | (rw [if_neg (by omega), Int.zero_add, Int.add_zero]
                 exact ih (m + 1) c0 _ (by omega) (by omega) (by omega) (by omega) (by omega))

set_option maxRecDepth 20000 in
theorem mx_eclipses {V : ew_Mem} {n : Nat} {M : ew_Mem} (hM : s_M V n M) {a b kd : Int} (ha : ew_in a) (hb : ew_in b) (hkd : ew_in kd) : ew_FM 177 [(2, 38), (0, a), (0, b), (0, kd)] n M (0, s_a_eclipses V a b kd) n M := by
  obtain ⟨hn, hp, hV, u0, u1, u2, u3, u4⟩ := id hM
  obtain ⟨hc6, hVW, hnd, hap, hr0, hr1, hr2, hr3, hr4, hr5⟩ := id hV
  have hc := ew_c_177
  show ew_X 177 0 [(2, 38), (0, a), (0, b), (0, kd), (5, 0), (5, 0), (5, 0)] [] n M _
  refine xr_go hc rfl rfl ?_
  refine xr_go hc rfl rfl ?_
  refine xr_go hc rfl rfl ?_
  refine xr_s_3 hc rfl rfl (m_isSpan ha hb (by decide)) ?_
  refine xr_if_ne hc rfl (by split <;> omega) (fun c1 => ?_) (fun c1 => ?_)
  · skip
    refine xr_go hc rfl rfl ?_
    refine xr_i2l hc rfl (by omega) ?_
    refine xr_go hc rfl rfl ?_
    refine xr_go hc rfl rfl ?_
    refine xr_s_3 hc rfl rfl (c_in (by omega) (by decide) (by decide)) ?_
    refine xr_if_ne hc rfl (by split <;> omega) (fun c2 => ?_) (fun c2 => ?_)
    · skip
      refine xr_go hc rfl rfl ?_
      refine xr_s1_4 hc rfl rfl rfl ?_
      refine xr_go hc rfl rfl ?_
      refine xr_s1_5 hc rfl rfl rfl ?_
      have h := mx_ecl_1 hM (a := a) (b := b) (kd := kd) hb (by omega) (b - a + 1).toNat a 0 (5, 0) (by omega) (by omega) (by omega) (by decide) (by omega)
      rw [Int.zero_add] at h
      unfold s_a_eclipses
      rw [if_pos (by omega), if_pos (by omega)]
      exact h
    · skip
      refine xr_go hc rfl rfl ?_
      refine xr_ret hc rfl rfl ?_
      refine ⟨?_, rfl, rfl⟩
      unfold s_a_eclipses
      repeat' split
      all_goals first
        | rfl
        | (exfalso; omega)
        | (congr 2; omega)
  · skip
    refine xr_go hc rfl rfl ?_
    refine xr_ret hc rfl rfl ?_
    refine ⟨?_, rfl, rfl⟩
    unfold s_a_eclipses
    repeat' split
    all_goals first
      | rfl
      | (exfalso; omega)
      | (congr 2; omega)

theorem s_nx_out {V : ew_Mem} {m y : Int} (hm : s_isM m) (hy : y = 1 ∨ y = -1) : ∀ (j : Nat) (i : Int), 0 ≤ i → ¬ s_isM (m + y * i) → s_nx V m y j i = -5
  | 0, i, hi, h => rfl
  | j + 1, i, hi, h => by
    rw [s_nx, if_neg (fun q => h q.1)]
    refine s_nx_out hm hy j (i + 1) (by omega) ?_
    unfold s_isM at *
    rcases hy with rfl | rfl <;> omega
set_option maxRecDepth 20000 in
theorem mx_nx_1 {V : ew_Mem} {n : Nat} {M : ew_Mem} (hM : s_M V n M) {m y w0 : Int} (hm : s_isM m) (hy : y = 1 ∨ y = -1) : ∀ (j : Nat) (i : Int), 1 ≤ i → i + (j : Int) = 4001 →
    ew_X 179 33 [(2, 38), (0, m), (0, w0), (0, y), (0, i)] [] n M (fun r a1 b1 => r = some (0, s_nx V m y j i) ∧ a1 = n ∧ b1 = M) := by
  obtain ⟨hn, hp, hV, u0, u1, u2, u3, u4⟩ := id hM
  obtain ⟨hc6, hVW, hnd, hap, hr0, hr1, hr2, hr3, hr4, hr5⟩ := id hV
  have hc := ew_c_179
  intro j
  induction j with
  | zero =>
    intro i hi hj
    refine xr_go hc rfl rfl ?_
    refine xr_go hc rfl rfl ?_
    refine xr_icmp_gt hc rfl (by omega) (by decide) (fun c1 => ?_) (fun c1 => ?_)
    · skip
      refine xr_go hc rfl rfl ?_
      refine xr_ret hc rfl rfl ?_
      exact ⟨by rw [s_nx], rfl, rfl⟩
    · exfalso; omega
  | succ j ih =>
    intro i hi hj
    have hyi : y * i = i ∨ y * i = -i := by rcases hy with rfl | rfl <;> omega
    refine xr_go hc rfl rfl ?_
    refine xr_go hc rfl rfl ?_
    refine xr_icmp_gt hc rfl (by omega) (by decide) (fun c1 => ?_) (fun c1 => ?_)
    · exfalso; omega
    · skip
      refine xr_go hc rfl rfl ?_
      refine xr_go hc rfl rfl ?_
      refine xr_go hc rfl rfl ?_
      refine xr_go hc rfl rfl ?_
      refine xr_go hc rfl rfl ?_
      refine xr_s_1 hc rfl rfl (m_isMonth (by omega)) ?_
      refine xr_if_eq hc rfl (by split <;> omega) (fun c2 => ?_) (fun c2 => ?_)
      · skip
        refine xr_go hc rfl rfl ?_
        refine xr_ret hc rfl rfl ?_
        exact ⟨by rw [s_nx_out hm hy _ _ (by omega) (by omega)], rfl, rfl⟩
      · skip
        refine xr_go hc rfl rfl ?_
        refine xr_go hc rfl rfl ?_
        refine xr_go hc rfl rfl ?_
        refine xr_go hc rfl rfl ?_
        refine xr_go hc rfl rfl ?_
        refine xr_go hc rfl rfl ?_
        refine xr_v_2 hc rfl rfl (ew_own_p hn rfl) (m_eclipseAt hM (by omega)) ?_
        have he := s_ecl_bd V (m + y * i)
        refine xr_if_le hc rfl (by omega) (fun c3 => ?_) (fun c3 => ?_)
        · skip
          refine xr_inc_4 hc rfl ?_
          refine xr_go hc rfl rfl ?_
          rw [s_nx, if_neg (by omega)]
          exact ih (i + 1) (by omega) (by omega)
        · skip
          refine xr_go hc rfl rfl ?_
          refine xr_go hc rfl rfl ?_
          refine xr_go hc rfl rfl ?_
          refine xr_go hc rfl rfl ?_
          refine xr_go hc rfl rfl ?_
          refine xr_go hc rfl rfl ?_
          refine xr_go hc rfl rfl ?_
          refine xr_ret hc rfl rfl ?_
          exact ⟨by rw [s_nx, if_pos (by omega)], rfl, rfl⟩

set_option maxRecDepth 20000 in
theorem mx_next {V : ew_Mem} {n : Nat} {M : ew_Mem} (hM : s_M V n M) {m y : Int} (hm : ew_in m) (hy : ew_in y) : ew_FM 179 [(2, 38), (0, m), (0, y)] n M (0, s_a_next V m y) n M := by
  obtain ⟨hn, hp, hV, u0, u1, u2, u3, u4⟩ := id hM
  obtain ⟨hc6, hVW, hnd, hap, hr0, hr1, hr2, hr3, hr4, hr5⟩ := id hV
  have hc := ew_c_179
  show ew_X 179 0 [(2, 38), (0, m), (0, y), (5, 0), (5, 0)] [] n M _
  refine xr_go hc rfl rfl ?_
  refine xr_s_1 hc rfl rfl (m_isMonth (by omega)) ?_
  refine xr_if_eq hc rfl (by split <;> omega) (fun c1 => ?_) (fun c1 => ?_)
  · skip
    refine xr_go hc rfl rfl ?_
    refine xr_ret hc rfl rfl ?_
    refine ⟨?_, rfl, rfl⟩
    unfold s_a_next
    repeat' split
    all_goals first
      | rfl
      | (exfalso; omega)
      | (congr 2; omega)
  · skip
    refine xr_go hc rfl rfl ?_
    refine xr_i2l hc rfl (by omega) ?_
    refine xr_go hc rfl rfl ?_
    refine xr_go hc rfl rfl ?_
    refine xr_s_3 hc rfl rfl (c_in (by omega) (by decide) (by decide)) ?_
    refine xr_if_ne hc rfl (by split <;> omega) (fun c2 => ?_) (fun c2 => ?_)
    · skip
      refine xr_go hc rfl rfl ?_
      refine xr_if_ne hc rfl (by omega) (fun c3 => ?_) (fun c3 => ?_)
      · skip
        refine xr_go hc rfl rfl ?_
        refine xr_s1_3 hc rfl rfl rfl ?_
        refine xr_go hc rfl rfl ?_
        refine xr_s1_4 hc rfl rfl rfl ?_
        have h := mx_nx_1 hM (m := m) (w0 := y) (y := if y = 0 then 1 else -1) (by omega) (by split <;> omega) 4000 1 (by decide) (by decide)
        unfold s_a_next
        rw [if_pos (by omega)]
        first
          | (rw [if_pos (by omega)] at h ⊢; exact h)
          | (rw [if_neg (by omega)] at h ⊢; exact h)
      · skip
        refine xr_go hc rfl rfl ?_
        refine xr_go hc rfl rfl ?_
        refine xr_s1_3 hc rfl rfl rfl ?_
        refine xr_go hc rfl rfl ?_
        refine xr_s1_4 hc rfl rfl rfl ?_
        have h := mx_nx_1 hM (m := m) (w0 := y) (y := if y = 0 then 1 else -1) (by omega) (by split <;> omega) 4000 1 (by decide) (by decide)
        unfold s_a_next
        rw [if_pos (by omega)]
        first
          | (rw [if_pos (by omega)] at h ⊢; exact h)
          | (rw [if_neg (by omega)] at h ⊢; exact h)
    · skip
      refine xr_go hc rfl rfl ?_
      refine xr_ret hc rfl rfl ?_
      refine ⟨?_, rfl, rfl⟩
      unfold s_a_next
      repeat' split
      all_goals first
        | rfl
        | (exfalso; omega)
        | (congr 2; omega)

set_option maxRecDepth 20000 in
theorem m_last_1 {V : ew_Mem} {n : Nat} {M : ew_Mem} (hM : s_M V n M) {m k : Int} (h0 : 0 < V 6 0) (hm : s_isM m) (hk : -2000 ≤ k ∧ k ≤ 2000) : ∀ (j : Nat) (c : Int), 0 ≤ c → c + (j : Int) = 500 → s_isM (m + c * k) →
    ew_X 182 12 [(2, 38), (0, m), (0, k), (0, s_side V m), (0, m + c * k), (0, c)] [] n M (fun r a1 b1 => r = some (0, m + s_rel V m k j c * k) ∧ a1 = n ∧ b1 = M) := by
  obtain ⟨hn, hp, hV, u0, u1, u2, u3, u4⟩ := id hM
  obtain ⟨hc6, hVW, hnd, hap, hr0, hr1, hr2, hr3, hr4, hr5⟩ := id hV
  have hc := ew_c_182
  intro j
  induction j with
  | zero =>
    intro c hc0 hj hcm
    refine xr_go hc rfl rfl ?_
    refine xr_go hc rfl rfl ?_
    refine xr_icmp_ge hc rfl (by omega) (by decide) (fun c1 => ?_) (fun c1 => ?_)
    · skip
      refine xr_go hc rfl rfl ?_
      refine xr_ret hc rfl rfl ?_
      exact ⟨by rw [s_rel], rfl, rfl⟩
    · exfalso; omega
  | succ j ih =>
    intro c hc0 hj hcm
    have hck : m + (c + 1) * k = m + c * k + k := by rw [Int.add_mul]; omega
    unfold s_isM at hcm
    refine xr_go hc rfl rfl ?_
    refine xr_go hc rfl rfl ?_
    refine xr_icmp_ge hc rfl (by omega) (by decide) (fun c1 => ?_) (fun c1 => ?_)
    · exfalso; omega
    · skip
      refine xr_go hc rfl rfl ?_
      refine xr_go hc rfl rfl ?_
      refine xr_go hc rfl rfl ?_
      refine xr_s_1 hc rfl rfl (m_isMonth (by omega)) ?_
      refine xr_if_eq hc rfl (by split <;> omega) (fun c2 => ?_) (fun c2 => ?_)
      · skip
        refine xr_go hc rfl rfl ?_
        refine xr_ret hc rfl rfl ?_
        exact ⟨by rw [s_rel, if_neg (by rw [hck]; omega)], rfl, rfl⟩
      · skip
        refine xr_go hc rfl rfl ?_
        refine xr_go hc rfl rfl ?_
        refine xr_go hc rfl rfl ?_
        refine xr_go hc rfl rfl ?_
        refine xr_v_2 hc rfl rfl (ew_own_p hn rfl) (m_eclipseAt hM (by omega)) ?_
        have he := s_ecl_bd V (m + c * k + k)
        refine xr_if_le hc rfl (by omega) (fun c3 => ?_) (fun c3 => ?_)
        · skip
          refine xr_go hc rfl rfl ?_
          refine xr_ret hc rfl rfl ?_
          exact ⟨by rw [s_rel, if_neg (by rw [hck]; omega)], rfl, rfl⟩
        · skip
          refine xr_go hc rfl rfl ?_
          refine xr_go hc rfl rfl ?_
          refine xr_go hc rfl rfl ?_
          refine xr_go hc rfl rfl ?_
          refine xr_v_2 hc rfl rfl (ew_own_p hn rfl) (m_sideOf hM h0 (by omega)) ?_
          have hs1 := s_side_bd V (m + c * k + k)
          have hs2 := s_side_bd V m
          refine xr_go hc rfl rfl ?_
          refine xr_icmp_ne hc rfl (by omega) (by omega) (fun c4 => ?_) (fun c4 => ?_)
          · skip
            refine xr_go hc rfl rfl ?_
            refine xr_ret hc rfl rfl ?_
            exact ⟨by rw [s_rel, if_neg (by rw [hck]; omega)], rfl, rfl⟩
          · skip
            refine xr_go hc rfl rfl ?_
            refine xr_go hc rfl rfl ?_
            refine xr_go hc rfl rfl ?_
            refine xr_s1_4 hc rfl rfl rfl ?_
            refine xr_inc_5 hc rfl ?_
            refine xr_go hc rfl rfl ?_
            rw [s_rel, if_pos (by rw [hck]; omega), ← hck]
            exact ih (c + 1) (by omega) (by omega) (by rw [hck]; omega)

set_option maxRecDepth 20000 in
theorem m_lastOf {V : ew_Mem} {n : Nat} {M : ew_Mem} (hM : s_M V n M) {m k : Int} (h0 : 0 < V 6 0) (hm : s_isM m) (hk : -2000 ≤ k ∧ k ≤ 2000) : ew_FM 182 [(2, 38), (0, m), (0, k)] n M (0, m + s_rel V m k 500 0 * k) n M := by
  obtain ⟨hn, hp, hV, u0, u1, u2, u3, u4⟩ := id hM
  obtain ⟨hc6, hVW, hnd, hap, hr0, hr1, hr2, hr3, hr4, hr5⟩ := id hV
  have hc := ew_c_182
  show ew_X 182 0 [(2, 38), (0, m), (0, k), (5, 0), (5, 0), (5, 0)] [] n M _
  refine xr_go hc rfl rfl ?_
  refine xr_go hc rfl rfl ?_
  refine xr_v_2 hc rfl rfl (ew_own_p hn rfl) (m_sideOf hM h0 hm) ?_
  refine xr_s1_3 hc rfl rfl rfl ?_
  refine xr_go hc rfl rfl ?_
  refine xr_s1_4 hc rfl rfl rfl ?_
  refine xr_go hc rfl rfl ?_
  refine xr_s1_5 hc rfl rfl rfl ?_
  have h := m_last_1 hM (m := m) (k := k) h0 hm hk 500 0 (by decide) (by decide) (by omega)
  rw [Int.zero_mul, Int.add_zero] at h
  exact h

theorem s_fam {a b k : Int} (hk : 1 ≤ k) : (b * k - -a * k) / k = a + b := by
  rw [show b * k - -a * k = (a + b) * k by rw [Int.neg_mul, Int.add_mul]; omega, Int.mul_ediv_cancel _ (by omega)]
set_option maxRecDepth 20000 in
theorem mx_family {V : ew_Mem} {n : Nat} {M : ew_Mem} (hM : s_M V n M) {m k x : Int} (hm : ew_in m) (hk : ew_in k) (hx : ew_in x) : ew_FM 180 [(2, 38), (0, m), (0, k), (0, x)] n M (0, s_a_family V m k x) n M := by
  obtain ⟨hn, hp, hV, u0, u1, u2, u3, u4⟩ := id hM
  obtain ⟨hc6, hVW, hnd, hap, hr0, hr1, hr2, hr3, hr4, hr5⟩ := id hV
  have hc := ew_c_180
  show ew_X 180 0 [(2, 38), (0, m), (0, k), (0, x), (5, 0), (5, 0)] [] n M _
  refine xr_go hc rfl rfl ?_
  refine xr_s_1 hc rfl rfl (m_isMonth (by omega)) ?_
  refine xr_if_eq hc rfl (by split <;> omega) (fun c1 => ?_) (fun c1 => ?_)
  · skip
    refine xr_go hc rfl rfl ?_
    refine xr_ret hc rfl rfl ?_
    refine ⟨?_, rfl, rfl⟩
    unfold s_a_family
    repeat' split
    all_goals first
      | rfl
      | (exfalso; omega)
      | (congr 2; omega)
  · skip
    refine xr_go hc rfl rfl ?_
    refine xr_s_1 hc rfl rfl (m_isCycle (by omega)) ?_
    refine xr_if_eq hc rfl (by split <;> omega) (fun c2 => ?_) (fun c2 => ?_)
    · skip
      refine xr_go hc rfl rfl ?_
      refine xr_ret hc rfl rfl ?_
      refine ⟨?_, rfl, rfl⟩
      unfold s_a_family
      repeat' split
      all_goals first
        | rfl
        | (exfalso; omega)
        | (congr 2; omega)
    · skip
      refine xr_go hc rfl rfl ?_
      refine xr_i2l hc rfl (by omega) ?_
      refine xr_go hc rfl rfl ?_
      refine xr_go hc rfl rfl ?_
      refine xr_s_3 hc rfl rfl (c_in (by omega) (by decide) (by decide)) ?_
      refine xr_if_ne hc rfl (by split <;> omega) (fun c3 => ?_) (fun c3 => ?_)
      · skip
        refine xr_go hc rfl rfl ?_
        refine xr_go hc rfl rfl ?_
        refine xr_v_2 hc rfl rfl (ew_own_p hn rfl) (m_eclipseAt hM (by omega)) ?_
        refine xr_if_ne hc rfl (by have := s_ecl_bd V m; omega) (fun c4 => ?_) (fun c4 => ?_)
        · skip
          have h0 : 0 < V 6 0 := by
            have hh : ¬ s_ecl V m = 0 := by omega
            by_cases h0 : 0 < V 6 0
            · exact h0
            · exfalso
              apply hh
              unfold s_ecl
              rw [if_pos (by omega)]
          have hm1 : s_isM m := by omega
          have r1 := s_rel_bd V m k 500 0
          have r2 := s_rel_bd V m (-k) 500 0
          have b1 := s_rel_M V (k := k) hm1 500 0 (by rw [Int.zero_mul, Int.add_zero]; exact hm1)
          have b2 := s_rel_M V (k := -k) hm1 500 0 (by rw [Int.zero_mul, Int.add_zero]; exact hm1)
          have p1 : 0 ≤ s_rel V m k 500 0 * k := Int.mul_nonneg (by omega) (by omega)
          have p2 : 0 ≤ s_rel V m (-k) 500 0 * k := Int.mul_nonneg (by omega) (by omega)
          have p3 : s_rel V m (-k) 500 0 * (-k) = -(s_rel V m (-k) 500 0 * k) := by rw [Int.mul_neg]
          have p4 : (m + s_rel V m k 500 0 * k - (m + s_rel V m (-k) 500 0 * (-k))) / k = s_rel V m (-k) 500 0 + s_rel V m k 500 0 := by
            rw [show m + s_rel V m k 500 0 * k - (m + s_rel V m (-k) 500 0 * (-k)) = (s_rel V m (-k) 500 0 + s_rel V m k 500 0) * k by rw [Int.add_mul]; omega, Int.mul_ediv_cancel _ (by omega)]
          unfold s_isM at b1 b2
          refine xr_go hc rfl rfl ?_
          refine xr_go hc rfl rfl ?_
          refine xr_go hc rfl rfl ?_
          refine xr_go hc rfl rfl ?_
          refine xr_v_3 hc rfl rfl (ew_own_p hn rfl) (m_lastOf hM h0 hm1 (by omega)) ?_
          refine xr_s1_4 hc rfl rfl rfl ?_
          refine xr_go hc rfl rfl ?_
          refine xr_go hc rfl rfl ?_
          refine xr_go hc rfl rfl ?_
          refine xr_v_3 hc rfl rfl (ew_own_p hn rfl) (m_lastOf hM h0 hm1 (by omega)) ?_
          refine xr_s1_5 hc rfl rfl rfl ?_
          refine xr_go hc rfl rfl ?_
          refine xr_if_ne hc rfl (by omega) (fun c5 => ?_) (fun c5 => ?_)
          · skip
            refine xr_go hc rfl rfl ?_
            refine xr_go hc rfl rfl ?_
            refine xr_icmp_ne hc rfl (by omega) (by decide) (fun c6 => ?_) (fun c6 => ?_)
            · skip
              refine xr_go hc rfl rfl ?_
              refine xr_go hc rfl rfl ?_
              refine xr_go hc rfl rfl ?_
              refine xr_go hc rfl rfl ?_
              refine xr_idiv hc rfl (by omega) (by omega) ?_
              refine xr_go hc rfl rfl ?_
              refine xr_go hc rfl rfl ?_
              refine xr_ret hc rfl rfl ?_
              refine ⟨?_, rfl, rfl⟩
              unfold s_a_family
              repeat' split
              all_goals first
                | rfl
                | (exfalso; omega)
                | (congr 2; omega)
            · skip
              refine xr_go hc rfl rfl ?_
              refine xr_go hc rfl rfl ?_
              refine xr_go hc rfl rfl ?_
              refine xr_go hc rfl rfl ?_
              refine xr_ret hc rfl rfl ?_
              refine ⟨?_, rfl, rfl⟩
              unfold s_a_family
              repeat' split
              all_goals first
                | rfl
                | (exfalso; omega)
                | (congr 2; omega)
          · skip
            refine xr_go hc rfl rfl ?_
            refine xr_go hc rfl rfl ?_
            refine xr_go hc rfl rfl ?_
            refine xr_go hc rfl rfl ?_
            refine xr_ret hc rfl rfl ?_
            refine ⟨?_, rfl, rfl⟩
            unfold s_a_family
            repeat' split
            all_goals first
              | rfl
              | (exfalso; omega)
              | (congr 2; omega)
        · skip
          refine xr_go hc rfl rfl ?_
          refine xr_ret hc rfl rfl ?_
          refine ⟨?_, rfl, rfl⟩
          unfold s_a_family
          repeat' split
          all_goals first
            | rfl
            | (exfalso; omega)
            | (congr 2; omega)
      · skip
        refine xr_go hc rfl rfl ?_
        refine xr_ret hc rfl rfl ?_
        refine ⟨?_, rfl, rfl⟩
        unfold s_a_family
        repeat' split
        all_goals first
          | rfl
          | (exfalso; omega)
          | (congr 2; omega)

