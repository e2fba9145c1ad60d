/-! the class: the face, calls that only ask -/
set_option maxRecDepth 20000 in
theorem c_isCycle {n : Nat} {M : ew_Mem} {x : Int} (hx : ew_in x) : ew_FM 103 [(0, x)] n M (0, if 1 ≤ x ∧ x ≤ 2000 then 1 else 0) n M := by
  have hc := ew_c_103
  show ew_X 103 0 [(0, x)] [] n M _
  refine xr_go hc rfl rfl ?_
  refine xr_go hc rfl rfl ?_
  refine xr_icmp_lt hc rfl (by omega) (by decide) (fun c1 => ?_) (fun c1 => ?_)
  · skip
    refine xr_go hc rfl rfl ?_
    refine xr_ret hc rfl rfl ?_
    exact ⟨by congr 2; split <;> omega, rfl, rfl⟩
  · skip
    refine xr_go hc rfl rfl ?_
    refine xr_go hc rfl rfl ?_
    refine xr_icmp_gt hc rfl (by omega) (by decide) (fun c2 => ?_) (fun c2 => ?_)
    · skip
      refine xr_go hc rfl rfl ?_
      refine xr_ret hc rfl rfl ?_
      exact ⟨by congr 2; split <;> omega, rfl, rfl⟩
    · skip
      refine xr_go hc rfl rfl ?_
      refine xr_go hc rfl rfl ?_
      refine xr_ret hc rfl rfl ?_
      exact ⟨by congr 2; split <;> omega, rfl, rfl⟩

set_option maxRecDepth 20000 in
theorem c_isStretch {n : Nat} {M : ew_Mem} {x y z : Int} (hx : ew_in x) (hy : ew_in y) (hz : 0 ≤ z ∧ z ≤ 10000) : ew_FM 100 [(0, x), (0, y), (0, z)] n M (0, if s_isS x y z then 1 else 0) n M := by
  have hc := ew_c_100
  show ew_X 100 0 [(0, x), (0, y), (0, z)] [] n M _
  refine xr_go hc rfl rfl ?_
  refine xr_s_1 hc rfl rfl (c_isMonth (by omega)) ?_
  refine xr_if_eq hc rfl (by omega) (fun c1 => ?_) (fun c1 => ?_)
  · skip
    refine xr_go hc rfl rfl ?_
    refine xr_ret hc rfl rfl ?_
    exact ⟨by congr 2; split <;> omega, rfl, rfl⟩
  · skip
    refine xr_go hc rfl rfl ?_
    refine xr_s_1 hc rfl rfl (c_isMonth (by omega)) ?_
    refine xr_if_eq hc rfl (by omega) (fun c2 => ?_) (fun c2 => ?_)
    · skip
      refine xr_go hc rfl rfl ?_
      refine xr_ret hc rfl rfl ?_
      exact ⟨by congr 2; split <;> omega, rfl, rfl⟩
    · skip
      refine xr_go hc rfl rfl ?_
      refine xr_go hc rfl rfl ?_
      refine xr_icmp_gt hc rfl (by omega) (by omega) (fun c3 => ?_) (fun c3 => ?_)
      · skip
        refine xr_go hc rfl rfl ?_
        refine xr_ret hc rfl rfl ?_
        exact ⟨by congr 2; split <;> omega, rfl, rfl⟩
      · skip
        refine xr_go hc rfl rfl ?_
        refine xr_go hc rfl rfl ?_
        refine xr_go hc rfl rfl ?_
        refine xr_go hc rfl rfl ?_
        refine xr_icmp_ge hc rfl (by omega) (by omega) (fun c4 => ?_) (fun c4 => ?_)
        · skip
          refine xr_go hc rfl rfl ?_
          refine xr_ret hc rfl rfl ?_
          exact ⟨by congr 2; split <;> omega, rfl, rfl⟩
        · skip
          refine xr_go hc rfl rfl ?_
          refine xr_go hc rfl rfl ?_
          refine xr_ret hc rfl rfl ?_
          exact ⟨by congr 2; split <;> omega, rfl, rfl⟩

set_option maxRecDepth 20000 in
theorem cx_of {V : ew_Mem} {n : Nat} {M : ew_Mem} (hC : s_C V n M) {w x : Int} (hw : ew_in w) (hx : ew_in x) : ew_FM 90 [(2, 4), (0, w), (0, x)] n M (0, s_a_of V w x) n M := by
  obtain ⟨hn, hp, hV, v0, v1, v2, v3, v4⟩ := id hC
  obtain ⟨hc6, hVW, hnd, hap, hr0, hr1, hr2, hr3, hr4, hr5⟩ := id hV
  have hc := ew_c_90
  show ew_X 90 0 [(2, 4), (0, w), (0, x), (5, 0)] [] n M _
  refine xr_go hc rfl rfl ?_
  refine xr_gf2 (A := 4) (w := 5) rfl hc rfl (ew_own_p hn rfl) (ew_pm hp rfl) ?_
  refine xr_go hc rfl rfl ?_
  by_cases hwn : 0 ≤ w ∧ w < V 6 0
  · skip
    refine xr_v_2 hc rfl rfl (ew_own_p hn rfl) (c_numbered hC hwn) ?_
    first
      | (have hwf := v4 w.toNat (by omega)
         have hw59 := hwf.1
         simp only [ew_own, Bool.and_eq_true, decide_eq_true_eq] at hw59
         have hWO := hVW w.toNat (by omega)
         obtain ⟨k0, k1, k2, k3, k4⟩ := id hWO)
      | skip
    refine xr_s1_3 hc rfl rfl rfl ?_
    refine xr_go hc rfl rfl ?_
    refine xr_nonnull hc rfl (fun c1 => ?_) (fun c1 => by exfalso; omega)
    refine xr_go hc rfl rfl ?_
    refine xr_go hc rfl rfl ?_
    refine xr_v_2 hc rfl rfl hwf.1 (c_told hn hp hwf hWO hx) ?_
    refine xr_ret hc rfl rfl ?_
    refine ⟨?_, rfl, rfl⟩
    unfold s_a_of
    repeat' split
    all_goals first
      | rfl
      | (exfalso; omega)
      | (congr 2; omega)
  · skip
    refine xr_v_2 hc rfl rfl (ew_own_p hn rfl) (c_numberedN hC hw hwn) ?_
    first
      | (have hwf := v4 w.toNat (by omega)
         have hw59 := hwf.1
         simp only [ew_own, Bool.and_eq_true, decide_eq_true_eq] at hw59
         have hWO := hVW w.toNat (by omega)
         obtain ⟨k0, k1, k2, k3, k4⟩ := id hWO)
      | skip
    refine xr_s1_3 hc rfl rfl rfl ?_
    refine xr_go hc rfl rfl ?_
    refine xr_nonnull hc rfl (fun c2 => by exfalso; omega) (fun c2 => ?_)
    refine xr_go hc rfl rfl ?_
    refine xr_go hc rfl rfl ?_
    refine xr_ret hc rfl rfl ?_
    refine ⟨?_, rfl, rfl⟩
    unfold s_a_of
    repeat' split
    all_goals first
      | rfl
      | (exfalso; omega)
      | (congr 2; omega)

set_option maxRecDepth 20000 in
theorem cx_at {V : ew_Mem} {n : Nat} {M : ew_Mem} (hC : s_C V n M) {w m : Int} (hw : ew_in w) (hm : ew_in m) : ew_FM 93 [(2, 4), (0, w), (0, m)] n M (0, s_a_at V w m) n M := by
  obtain ⟨hn, hp, hV, v0, v1, v2, v3, v4⟩ := id hC
  obtain ⟨hc6, hVW, hnd, hap, hr0, hr1, hr2, hr3, hr4, hr5⟩ := id hV
  have hc := ew_c_93
  show ew_X 93 0 [(2, 4), (0, w), (0, m)] [] n M _
  refine xr_go hc rfl rfl ?_
  refine xr_gf2 (A := 4) (w := 5) rfl hc rfl (ew_own_p hn rfl) (ew_pm hp rfl) ?_
  refine xr_go hc rfl rfl ?_
  refine xr_v_2 hc rfl rfl (ew_own_p hn rfl) (c_has hC hw) ?_
  refine xr_if_ne hc rfl (by omega) (fun c1 => ?_) (fun c1 => ?_)
  · skip
    refine xr_go hc rfl rfl ?_
    refine xr_s_1 hc rfl rfl (c_isMonth hm) ?_
    refine xr_if_eq hc rfl (by omega) (fun c2 => ?_) (fun c2 => ?_)
    · skip
      refine xr_go hc rfl rfl ?_
      refine xr_ret hc rfl rfl ?_
      refine ⟨?_, rfl, rfl⟩
      unfold s_a_at
      repeat' split
      all_goals first
        | rfl
        | (exfalso; omega)
        | (congr 2; omega)
    · skip
      refine xr_go hc rfl rfl ?_
      refine xr_gf2 (A := 4) (w := 5) rfl hc rfl (ew_own_p hn rfl) (ew_pm hp rfl) ?_
      refine xr_go hc rfl rfl ?_
      refine xr_go hc rfl rfl ?_
      refine xr_v_3 hc rfl rfl (ew_own_p hn rfl) (c_placeAt hC (by omega) (by omega)) ?_
      refine xr_go hc rfl rfl ?_
      refine xr_ret hc rfl rfl ?_
      refine ⟨?_, rfl, rfl⟩
      unfold s_a_at
      repeat' split
      all_goals first
        | rfl
        | (exfalso; omega)
        | (congr 2; omega)
  · skip
    refine xr_go hc rfl rfl ?_
    refine xr_ret hc rfl rfl ?_
    refine ⟨?_, rfl, rfl⟩
    unfold s_a_at
    repeat' split
    all_goals first
      | rfl
      | (exfalso; omega)
      | (congr 2; omega)

set_option maxRecDepth 20000 in
theorem cx_rounds {V : ew_Mem} {n : Nat} {M : ew_Mem} (hC : s_C V n M) {w m : Int} (hw : ew_in w) (hm : ew_in m) : ew_FM 95 [(2, 4), (0, w), (0, m)] n M (1, s_a_rounds V w m) n M := by
  obtain ⟨hn, hp, hV, v0, v1, v2, v3, v4⟩ := id hC
  obtain ⟨hc6, hVW, hnd, hap, hr0, hr1, hr2, hr3, hr4, hr5⟩ := id hV
  have hc := ew_c_95
  show ew_X 95 0 [(2, 4), (0, w), (0, m)] [] n M _
  refine xr_go hc rfl rfl ?_
  refine xr_gf2 (A := 4) (w := 5) rfl hc rfl (ew_own_p hn rfl) (ew_pm hp rfl) ?_
  refine xr_go hc rfl rfl ?_
  refine xr_v_2 hc rfl rfl (ew_own_p hn rfl) (c_has hC hw) ?_
  refine xr_if_eq hc rfl (by omega) (fun c1 => ?_) (fun c1 => ?_)
  · skip
    refine xr_go hc rfl rfl ?_
    refine xr_ret hc rfl rfl ?_
    refine ⟨?_, rfl, rfl⟩
    unfold s_a_rounds
    repeat' split
    all_goals first
      | rfl
      | (exfalso; omega)
      | (congr 2; omega)
  · skip
    refine xr_go hc rfl rfl ?_
    refine xr_s_1 hc rfl rfl (c_isMonth hm) ?_
    refine xr_if_eq hc rfl (by omega) (fun c2 => ?_) (fun c2 => ?_)
    · skip
      refine xr_go hc rfl rfl ?_
      refine xr_ret hc rfl rfl ?_
      refine ⟨?_, rfl, rfl⟩
      unfold s_a_rounds
      repeat' split
      all_goals first
        | rfl
        | (exfalso; omega)
        | (congr 2; omega)
    · skip
      refine xr_go hc rfl rfl ?_
      refine xr_gf2 (A := 4) (w := 5) rfl hc rfl (ew_own_p hn rfl) (ew_pm hp rfl) ?_
      refine xr_go hc rfl rfl ?_
      refine xr_go hc rfl rfl ?_
      refine xr_v_3 hc rfl rfl (ew_own_p hn rfl) (c_roundsAt hC (by omega) (by omega)) ?_
      refine xr_go hc rfl rfl ?_
      refine xr_ret hc rfl rfl ?_
      refine ⟨?_, rfl, rfl⟩
      unfold s_a_rounds
      repeat' split
      all_goals first
        | rfl
        | (exfalso; omega)
        | (congr 2; omega)

set_option maxRecDepth 20000 in
theorem cx_eclipse {V : ew_Mem} {n : Nat} {M : ew_Mem} (hC : s_C V n M) {m x : Int} (hm : ew_in m) (hx : ew_in x) : ew_FM 98 [(2, 4), (0, m), (0, x)] n M (0, s_a_eclipse V m x) n M := by
  obtain ⟨hn, hp, hV, v0, v1, v2, v3, v4⟩ := id hC
  obtain ⟨hc6, hVW, hnd, hap, hr0, hr1, hr2, hr3, hr4, hr5⟩ := id hV
  have hc := ew_c_98
  show ew_X 98 0 [(2, 4), (0, m), (0, x)] [] n M _
  refine xr_go hc rfl rfl ?_
  refine xr_s_1 hc rfl rfl (c_isMonth hm) ?_
  refine xr_if_eq hc rfl (by omega) (fun c1 => ?_) (fun c1 => ?_)
  · skip
    refine xr_go hc rfl rfl ?_
    refine xr_ret hc rfl rfl ?_
    refine ⟨?_, rfl, rfl⟩
    unfold s_a_eclipse
    repeat' split
    all_goals first
      | rfl
      | (exfalso; omega)
      | (congr 2; omega)
  · skip
    refine xr_go hc rfl rfl ?_
    refine xr_if_lt hc rfl (by omega) (fun c2 => ?_) (fun c2 => ?_)
    · skip
      refine xr_go hc rfl rfl ?_
      refine xr_ret hc rfl rfl ?_
      refine ⟨?_, rfl, rfl⟩
      unfold s_a_eclipse
      repeat' split
      all_goals first
        | rfl
        | (exfalso; omega)
        | (congr 2; omega)
    · skip
      refine xr_go hc rfl rfl ?_
      refine xr_go hc rfl rfl ?_
      refine xr_icmp_le hc rfl (by omega) (by decide) (fun c3 => ?_) (fun c3 => ?_)
      · skip
        refine xr_go hc rfl rfl ?_
        refine xr_gf2 (A := 4) (w := 5) rfl hc rfl (ew_own_p hn rfl) (ew_pm hp rfl) ?_
        refine xr_gf0 (A := 5) rfl hc rfl (ew_own_p hn rfl) v0 ?_
        refine xr_if_ne hc rfl (by omega) (fun c4 => ?_) (fun c4 => ?_)
        · skip
          refine xr_go hc rfl rfl ?_
          refine xr_if_ne hc rfl (by omega) (fun c5 => ?_) (fun c5 => ?_)
          · skip
            refine xr_go hc rfl rfl ?_
            refine xr_go hc rfl rfl ?_
            refine xr_icmp_ne hc rfl (by omega) (by decide) (fun c6 => ?_) (fun c6 => ?_)
            · skip
              refine xr_go hc rfl rfl ?_
              refine xr_gf2 (A := 4) (w := 5) rfl hc rfl (ew_own_p hn rfl) (ew_pm hp rfl) ?_
              refine xr_go hc rfl rfl ?_
              refine xr_v_2 hc rfl rfl (ew_own_p hn rfl) (c_sideAt hC (by omega) (by omega)) ?_
              refine xr_ret hc rfl rfl ?_
              refine ⟨?_, rfl, rfl⟩
              unfold s_a_eclipse
              repeat' split
              all_goals first
                | rfl
                | (exfalso; omega)
                | (congr 2; omega)
            · skip
              refine xr_go hc rfl rfl ?_
              refine xr_gf2 (A := 4) (w := 5) rfl hc rfl (ew_own_p hn rfl) (ew_pm hp rfl) ?_
              refine xr_go hc rfl rfl ?_
              refine xr_v_2 hc rfl rfl (ew_own_p hn rfl) (c_farAt hC (by omega) (by omega)) ?_
              refine xr_go hc rfl rfl ?_
              refine xr_ret hc rfl rfl ?_
              refine ⟨?_, rfl, rfl⟩
              unfold s_a_eclipse
              repeat' split
              all_goals first
                | rfl
                | (exfalso; omega)
                | (congr 2; omega)
          · skip
            refine xr_go hc rfl rfl ?_
            refine xr_gf2 (A := 4) (w := 5) rfl hc rfl (ew_own_p hn rfl) (ew_pm hp rfl) ?_
            refine xr_go hc rfl rfl ?_
            refine xr_v_2 hc rfl rfl (ew_own_p hn rfl) (c_eclipseAt hC (by omega)) ?_
            refine xr_ret hc rfl rfl ?_
            refine ⟨?_, rfl, rfl⟩
            unfold s_a_eclipse
            repeat' split
            all_goals first
              | rfl
              | (exfalso; omega)
              | (congr 2; omega)
        · skip
          refine xr_go hc rfl rfl ?_
          refine xr_ret hc rfl rfl ?_
          refine ⟨?_, rfl, rfl⟩
          unfold s_a_eclipse
          repeat' split
          all_goals first
            | rfl
            | (exfalso; omega)
            | (congr 2; omega)
      · skip
        refine xr_go hc rfl rfl ?_
        refine xr_ret hc rfl rfl ?_
        refine ⟨?_, rfl, rfl⟩
        unfold s_a_eclipse
        repeat' split
        all_goals first
          | rfl
          | (exfalso; omega)
          | (congr 2; omega)

set_option maxRecDepth 20000 in
theorem cx_drift {V : ew_Mem} {n : Nat} {M : ew_Mem} (hC : s_C V n M) {k x : Int} (hk : ew_in k) (hx : ew_in x) : ew_FM 107 [(2, 4), (0, k), (0, x)] n M (0, s_a_drift V k x) n M := by
  obtain ⟨hn, hp, hV, v0, v1, v2, v3, v4⟩ := id hC
  obtain ⟨hc6, hVW, hnd, hap, hr0, hr1, hr2, hr3, hr4, hr5⟩ := id hV
  have hc := ew_c_107
  show ew_X 107 0 [(2, 4), (0, k), (0, x)] [] n M _
  refine xr_go hc rfl rfl ?_
  refine xr_s_1 hc rfl rfl (c_isCycle hk) ?_
  refine xr_if_eq hc rfl (by omega) (fun c1 => ?_) (fun c1 => ?_)
  · skip
    refine xr_go hc rfl rfl ?_
    refine xr_ret hc rfl rfl ?_
    refine ⟨?_, rfl, rfl⟩
    unfold s_a_drift
    repeat' split
    all_goals first
      | rfl
      | (exfalso; omega)
      | (congr 2; omega)
  · skip
    refine xr_go hc rfl rfl ?_
    refine xr_if_lt hc rfl (by omega) (fun c2 => ?_) (fun c2 => ?_)
    · skip
      refine xr_go hc rfl rfl ?_
      refine xr_ret hc rfl rfl ?_
      refine ⟨?_, rfl, rfl⟩
      unfold s_a_drift
      repeat' split
      all_goals first
        | rfl
        | (exfalso; omega)
        | (congr 2; omega)
    · skip
      refine xr_go hc rfl rfl ?_
      refine xr_go hc rfl rfl ?_
      refine xr_icmp_le hc rfl (by omega) (by decide) (fun c3 => ?_) (fun c3 => ?_)
      · skip
        refine xr_go hc rfl rfl ?_
        refine xr_gf2 (A := 4) (w := 5) rfl hc rfl (ew_own_p hn rfl) (ew_pm hp rfl) ?_
        refine xr_gf0 (A := 5) rfl hc rfl (ew_own_p hn rfl) v0 ?_
        refine xr_if_ne hc rfl (by omega) (fun c4 => ?_) (fun c4 => ?_)
        · skip
          refine xr_go hc rfl rfl ?_
          refine xr_gf2 (A := 4) (w := 5) rfl hc rfl (ew_own_p hn rfl) (ew_pm hp rfl) ?_
          refine xr_go hc rfl rfl ?_
          refine xr_go hc rfl rfl ?_
          refine xr_v_3 hc rfl rfl (ew_own_p hn rfl) (c_driftOf hC (by omega) (by omega) (by omega)) ?_
          refine xr_ret hc rfl rfl ?_
          refine ⟨?_, rfl, rfl⟩
          unfold s_a_drift
          repeat' split
          all_goals first
            | rfl
            | (exfalso; omega)
            | (congr 2; omega)
        · skip
          refine xr_go hc rfl rfl ?_
          refine xr_go hc rfl rfl ?_
          refine xr_ret hc rfl rfl ?_
          refine ⟨?_, rfl, rfl⟩
          unfold s_a_drift
          repeat' split
          all_goals first
            | rfl
            | (exfalso; omega)
            | (congr 2; omega)
      · skip
        refine xr_go hc rfl rfl ?_
        refine xr_ret hc rfl rfl ?_
        refine ⟨?_, rfl, rfl⟩
        unfold s_a_drift
        repeat' split
        all_goals first
          | rfl
          | (exfalso; omega)
          | (congr 2; omega)

set_option maxRecDepth 20000 in
theorem cx_term {V : ew_Mem} {n : Nat} {M : ew_Mem} (hC : s_C V n M) {w i : Int} (hw : ew_in w) (hi : ew_in i) : ew_FM 112 [(2, 4), (0, w), (0, i)] n M (0, s_a_term V w i) n M := by
  obtain ⟨hn, hp, hV, v0, v1, v2, v3, v4⟩ := id hC
  obtain ⟨hc6, hVW, hnd, hap, hr0, hr1, hr2, hr3, hr4, hr5⟩ := id hV
  have hc := ew_c_112
  show ew_X 112 0 [(2, 4), (0, w), (0, i), (5, 0)] [] n M _
  refine xr_go hc rfl rfl ?_
  refine xr_gf2 (A := 4) (w := 5) rfl hc rfl (ew_own_p hn rfl) (ew_pm hp rfl) ?_
  refine xr_go hc rfl rfl ?_
  by_cases hwn : 0 ≤ w ∧ w < V 6 0
  · skip
    refine xr_v_2 hc rfl rfl (ew_own_p hn rfl) (c_numbered hC hwn) ?_
    first
      | (have hwf := v4 w.toNat (by omega)
         have hw59 := hwf.1
         simp only [ew_own, Bool.and_eq_true, decide_eq_true_eq] at hw59
         have hWO := hVW w.toNat (by omega)
         obtain ⟨k0, k1, k2, k3, k4⟩ := id hWO)
      | skip
    refine xr_s1_3 hc rfl rfl rfl ?_
    refine xr_go hc rfl rfl ?_
    refine xr_nonnull hc rfl (fun c1 => ?_) (fun c1 => by exfalso; omega)
    refine xr_go hc rfl rfl ?_
    refine xr_go hc rfl rfl ?_
    refine xr_v_2 hc rfl rfl hwf.1 (c_term hn hp hwf hWO hi) ?_
    refine xr_ret hc rfl rfl ?_
    refine ⟨?_, rfl, rfl⟩
    unfold s_a_term
    repeat' split
    all_goals first
      | rfl
      | (exfalso; omega)
      | (congr 2; omega)
  · skip
    refine xr_v_2 hc rfl rfl (ew_own_p hn rfl) (c_numberedN hC hw hwn) ?_
    first
      | (have hwf := v4 w.toNat (by omega)
         have hw59 := hwf.1
         simp only [ew_own, Bool.and_eq_true, decide_eq_true_eq] at hw59
         have hWO := hVW w.toNat (by omega)
         obtain ⟨k0, k1, k2, k3, k4⟩ := id hWO)
      | skip
    refine xr_s1_3 hc rfl rfl rfl ?_
    refine xr_go hc rfl rfl ?_
    refine xr_nonnull hc rfl (fun c2 => by exfalso; omega) (fun c2 => ?_)
    refine xr_go hc rfl rfl ?_
    refine xr_go hc rfl rfl ?_
    refine xr_ret hc rfl rfl ?_
    refine ⟨?_, rfl, rfl⟩
    unfold s_a_term
    repeat' split
    all_goals first
      | rfl
      | (exfalso; omega)
      | (congr 2; omega)

set_option maxRecDepth 20000 in
theorem cx_nearest {V : ew_Mem} {n : Nat} {M : ew_Mem} (hC : s_C V n M) {w most : Int} (hw : ew_in w) (hmost : ew_in most) : ew_FM 114 [(2, 4), (0, w), (0, most)] n M (0, s_a_nearest V w most) n M := by
  obtain ⟨hn, hp, hV, v0, v1, v2, v3, v4⟩ := id hC
  obtain ⟨hc6, hVW, hnd, hap, hr0, hr1, hr2, hr3, hr4, hr5⟩ := id hV
  have hc := ew_c_114
  show ew_X 114 0 [(2, 4), (0, w), (0, most), (5, 0)] [] n M _
  refine xr_go hc rfl rfl ?_
  refine xr_gf2 (A := 4) (w := 5) rfl hc rfl (ew_own_p hn rfl) (ew_pm hp rfl) ?_
  refine xr_go hc rfl rfl ?_
  by_cases hwn : 0 ≤ w ∧ w < V 6 0
  · skip
    refine xr_v_2 hc rfl rfl (ew_own_p hn rfl) (c_numbered hC hwn) ?_
    first
      | (have hwf := v4 w.toNat (by omega)
         have hw59 := hwf.1
         simp only [ew_own, Bool.and_eq_true, decide_eq_true_eq] at hw59
         have hWO := hVW w.toNat (by omega)
         obtain ⟨k0, k1, k2, k3, k4⟩ := id hWO)
      | skip
    refine xr_s1_3 hc rfl rfl rfl ?_
    refine xr_go hc rfl rfl ?_
    refine xr_nonnull hc rfl (fun c1 => ?_) (fun c1 => by exfalso; omega)
    refine xr_go hc rfl rfl ?_
    refine xr_go hc rfl rfl ?_
    refine xr_icmp_lt hc rfl (by omega) (by decide) (fun c2 => ?_) (fun c2 => ?_)
    · skip
      refine xr_go hc rfl rfl ?_
      refine xr_go hc rfl rfl ?_
      refine xr_ret hc rfl rfl ?_
      refine ⟨?_, rfl, rfl⟩
      unfold s_a_nearest
      repeat' split
      all_goals first
        | rfl
        | (exfalso; omega)
        | (congr 2; omega)
    · skip
      refine xr_go hc rfl rfl ?_
      refine xr_go hc rfl rfl ?_
      refine xr_icmp_le hc rfl (by omega) (by decide) (fun c3 => ?_) (fun c3 => ?_)
      · skip
        refine xr_go hc rfl rfl ?_
        refine xr_go hc rfl rfl ?_
        refine xr_v_2 hc rfl rfl hwf.1 (c_nst hn hp hwf hWO (by omega)) ?_
        refine xr_ret hc rfl rfl ?_
        refine ⟨?_, rfl, rfl⟩
        unfold s_a_nearest
        repeat' split
        all_goals first
          | rfl
          | (exfalso; omega)
          | (congr 2; omega)
      · skip
        refine xr_go hc rfl rfl ?_
        refine xr_go hc rfl rfl ?_
        refine xr_ret hc rfl rfl ?_
        refine ⟨?_, rfl, rfl⟩
        unfold s_a_nearest
        repeat' split
        all_goals first
          | rfl
          | (exfalso; omega)
          | (congr 2; omega)
  · skip
    refine xr_v_2 hc rfl rfl (ew_own_p hn rfl) (c_numberedN hC hw hwn) ?_
    first
      | (have hwf := v4 w.toNat (by omega)
         have hw59 := hwf.1
         simp only [ew_own, Bool.and_eq_true, decide_eq_true_eq] at hw59
         have hWO := hVW w.toNat (by omega)
         obtain ⟨k0, k1, k2, k3, k4⟩ := id hWO)
      | skip
    refine xr_s1_3 hc rfl rfl rfl ?_
    refine xr_go hc rfl rfl ?_
    refine xr_nonnull hc rfl (fun c4 => by exfalso; omega) (fun c4 => ?_)
    refine xr_go hc rfl rfl ?_
    refine xr_ret hc rfl rfl ?_
    refine ⟨?_, rfl, rfl⟩
    unfold s_a_nearest
    repeat' split
    all_goals first
      | rfl
      | (exfalso; omega)
      | (congr 2; omega)

set_option maxRecDepth 20000 in
theorem cx_period {V : ew_Mem} {n : Nat} {M : ew_Mem} (hC : s_C V n M) {w : Int} (hw : ew_in w) : ew_FM 120 [(2, 4), (0, w)] n M (1, s_a_period V w) n M := by
  obtain ⟨hn, hp, hV, v0, v1, v2, v3, v4⟩ := id hC
  obtain ⟨hc6, hVW, hnd, hap, hr0, hr1, hr2, hr3, hr4, hr5⟩ := id hV
  have hc := ew_c_120
  show ew_X 120 0 [(2, 4), (0, w), (5, 0)] [] n M _
  refine xr_go hc rfl rfl ?_
  refine xr_gf2 (A := 4) (w := 5) rfl hc rfl (ew_own_p hn rfl) (ew_pm hp rfl) ?_
  refine xr_go hc rfl rfl ?_
  by_cases hwn : 0 ≤ w ∧ w < V 6 0
  · skip
    refine xr_v_2 hc rfl rfl (ew_own_p hn rfl) (c_numbered hC hwn) ?_
    first
      | (have hwf := v4 w.toNat (by omega)
         have hw59 := hwf.1
         simp only [ew_own, Bool.and_eq_true, decide_eq_true_eq] at hw59
         have hWO := hVW w.toNat (by omega)
         obtain ⟨k0, k1, k2, k3, k4⟩ := id hWO)
      | skip
    refine xr_s1_2 hc rfl rfl rfl ?_
    refine xr_go hc rfl rfl ?_
    refine xr_nonnull hc rfl (fun c1 => ?_) (fun c1 => by exfalso; omega)
    refine xr_go hc rfl rfl ?_
    refine xr_v_1 hc rfl rfl hwf.1 (c_ownPeriod hn hp hwf hWO) ?_
    refine xr_ret hc rfl rfl ?_
    refine ⟨?_, rfl, rfl⟩
    unfold s_a_period
    repeat' split
    all_goals first
      | rfl
      | (exfalso; omega)
      | (congr 2; omega)
  · skip
    refine xr_v_2 hc rfl rfl (ew_own_p hn rfl) (c_numberedN hC hw hwn) ?_
    first
      | (have hwf := v4 w.toNat (by omega)
         have hw59 := hwf.1
         simp only [ew_own, Bool.and_eq_true, decide_eq_true_eq] at hw59
         have hWO := hVW w.toNat (by omega)
         obtain ⟨k0, k1, k2, k3, k4⟩ := id hWO)
      | skip
    refine xr_s1_2 hc rfl rfl rfl ?_
    refine xr_go hc rfl rfl ?_
    refine xr_nonnull hc rfl (fun c2 => by exfalso; omega) (fun c2 => ?_)
    refine xr_go hc rfl rfl ?_
    refine xr_go hc rfl rfl ?_
    refine xr_ret hc rfl rfl ?_
    refine ⟨?_, rfl, rfl⟩
    unfold s_a_period
    repeat' split
    all_goals first
      | rfl
      | (exfalso; omega)
      | (congr 2; omega)

set_option maxRecDepth 20000 in
theorem cx_month {V : ew_Mem} {n : Nat} {M : ew_Mem} (hC : s_C V n M) {d : Int} (hd : ew_in d) : ew_FM 116 [(2, 4), (0, d)] n M (0, s_a_month V d) n M := by
  obtain ⟨hn, hp, hV, v0, v1, v2, v3, v4⟩ := id hC
  obtain ⟨hc6, hVW, hnd, hap, hr0, hr1, hr2, hr3, hr4, hr5⟩ := id hV
  have hc := ew_c_116
  show ew_X 116 0 [(2, 4), (0, d), (5, 0), (5, 0)] [] n M _
  refine xr_go hc rfl rfl ?_
  refine xr_if_lt hc rfl (by omega) (fun c1 => ?_) (fun c1 => ?_)
  · skip
    refine xr_go hc rfl rfl ?_
    refine xr_ret hc rfl rfl ?_
    refine ⟨?_, rfl, rfl⟩
    unfold s_a_month
    repeat' split
    all_goals first
      | rfl
      | (exfalso; omega)
      | (congr 2; omega)
  · skip
    refine xr_go hc rfl rfl ?_
    refine xr_go hc rfl rfl ?_
    refine xr_icmp_le hc rfl (by omega) (by decide) (fun c2 => ?_) (fun c2 => ?_)
    · skip
      refine xr_go hc rfl rfl ?_
      refine xr_gf2 (A := 4) (w := 5) rfl hc rfl (ew_own_p hn rfl) (ew_pm hp rfl) ?_
      refine xr_go hc rfl rfl ?_
      refine xr_v_2 hc rfl rfl (ew_own_p hn rfl) (c_monthFrom hC (by omega)) ?_
      have hb1 := s_mul_bd (a := d) (b := V 7 4) (A := 1000000) (B := 1000) (by omega) (by omega)
      have hb2 : -2000000000 ≤ s_monthFrom V d ∧ s_monthFrom V d ≤ 2000000000 := s_div_bd (by omega) (by omega)
      refine xr_s2_2 hc rfl rfl rfl ?_
      refine xr_go hc rfl rfl ?_
      refine xr_go hc rfl rfl ?_
      refine xr_l_le hc rfl rfl (by omega) (by omega) (fun c3 => ?_) (fun c3 => ?_)
      · skip
        refine xr_go hc rfl rfl ?_
        refine xr_go hc rfl rfl ?_
        refine xr_ret hc rfl rfl ?_
        refine ⟨?_, rfl, rfl⟩
        unfold s_a_month
        repeat' split
        all_goals first
          | rfl
          | (exfalso; omega)
          | (congr 2; omega)
      · skip
        refine xr_go hc rfl rfl ?_
        refine xr_go hc rfl rfl ?_
        refine xr_ret hc rfl rfl ?_
        refine ⟨?_, rfl, rfl⟩
        unfold s_a_month
        repeat' split
        all_goals first
          | rfl
          | (exfalso; omega)
          | (congr 2; omega)
    · skip
      refine xr_go hc rfl rfl ?_
      refine xr_ret hc rfl rfl ?_
      refine ⟨?_, rfl, rfl⟩
      unfold s_a_month
      repeat' split
      all_goals first
        | rfl
        | (exfalso; omega)
        | (congr 2; omega)

set_option maxRecDepth 20000 in
theorem cx_date {V : ew_Mem} {n : Nat} {M : ew_Mem} (hC : s_C V n M) {m x : Int} (hm : ew_in m) (hx : ew_in x) : ew_FM 115 [(2, 4), (0, m), (0, x)] n M (1, s_a_date V m x) n M := by
  obtain ⟨hn, hp, hV, v0, v1, v2, v3, v4⟩ := id hC
  obtain ⟨hc6, hVW, hnd, hap, hr0, hr1, hr2, hr3, hr4, hr5⟩ := id hV
  have hc := ew_c_115
  show ew_X 115 0 [(2, 4), (0, m), (0, x), (5, 0), (5, 0)] [] n M _
  refine xr_go hc rfl rfl ?_
  refine xr_s_1 hc rfl rfl (c_isMonth hm) ?_
  refine xr_if_ne hc rfl (by omega) (fun c1 => ?_) (fun c1 => ?_)
  · skip
    refine xr_go hc rfl rfl ?_
    refine xr_gf2 (A := 4) (w := 5) rfl hc rfl (ew_own_p hn rfl) (ew_pm hp rfl) ?_
    refine xr_go hc rfl rfl ?_
    refine xr_v_2 hc rfl rfl (ew_own_p hn rfl) (c_dayOf hC (by omega)) ?_
    obtain ⟨hb1, hb2⟩ := s_day_bd hV (m := m) (by omega)
    refine xr_s2_3 hc rfl rfl rfl ?_
    refine xr_go hc rfl rfl ?_
    refine xr_ts hc rfl hx (fun c2 => ?_) (fun c2a c2b => ?_)
    · skip
      refine xr_go hc rfl rfl ?_
      refine xr_ret hc rfl rfl ?_
      refine ⟨?_, rfl, rfl⟩
      unfold s_a_date
      first
        | rw [if_pos (by omega)]
        | rw [if_neg (by omega)]
      try (repeat' split)
      all_goals first
        | rfl
        | (exfalso; omega)
        | (congr 2; omega)
    · obtain rfl | rfl | rfl | rfl : x = 0 ∨ x = 1 ∨ x = 2 ∨ x = 3 := by omega
      · refine ⟨31, 52, rfl, rfl, ?_⟩
        refine xr_go hc rfl rfl ?_
        refine xr_ret hc rfl rfl ?_
        refine ⟨?_, rfl, rfl⟩
        unfold s_a_date
        first
          | rw [if_pos (by omega)]
          | rw [if_neg (by omega)]
        try (repeat' split)
        all_goals first
          | rfl
          | (exfalso; omega)
          | (congr 2; omega)
      · refine ⟨33, 54, rfl, rfl, ?_⟩
        refine xr_go hc rfl rfl ?_
        refine xr_gf2 (A := 4) (w := 5) rfl hc rfl (ew_own_p hn rfl) (ew_pm hp rfl) ?_
        refine xr_go hc rfl rfl ?_
        refine xr_v_2 hc rfl rfl (ew_own_p hn rfl) (c_restOf hC (by omega)) ?_
        refine xr_ret hc rfl rfl ?_
        refine ⟨?_, rfl, rfl⟩
        unfold s_a_date
        first
          | rw [if_pos (by omega)]
          | rw [if_neg (by omega)]
        try (repeat' split)
        all_goals first
          | rfl
          | (exfalso; omega)
          | (congr 2; omega)
      · refine ⟨42, 63, rfl, rfl, ?_⟩
        refine xr_go hc rfl rfl ?_
        refine xr_go hc rfl rfl ?_
        refine xr_l_ge hc rfl rfl (by omega) (by omega) (fun c3 => ?_) (fun c3 => ?_)
        · skip
          refine xr_go hc rfl rfl ?_
          refine xr_gf2 (A := 4) (w := 5) rfl hc rfl (ew_own_p hn rfl) (ew_pm hp rfl) ?_
          refine xr_go hc rfl rfl ?_
          refine xr_v_2 hc rfl rfl (ew_own_p hn rfl) (c_yearOf hC (by omega)) ?_
          refine xr_ret hc rfl rfl ?_
          refine ⟨?_, rfl, rfl⟩
          unfold s_a_date
          first
            | rw [if_pos (by omega)]
            | rw [if_neg (by omega)]
          try (repeat' split)
          all_goals first
            | rfl
            | (exfalso; omega)
            | (congr 2; omega)
        · skip
          refine xr_go hc rfl rfl ?_
          refine xr_go hc rfl rfl ?_
          refine xr_ret hc rfl rfl ?_
          refine ⟨?_, rfl, rfl⟩
          unfold s_a_date
          first
            | rw [if_pos (by omega)]
            | rw [if_neg (by omega)]
          try (repeat' split)
          all_goals first
            | rfl
            | (exfalso; omega)
            | (congr 2; omega)
      · refine ⟨63, 84, rfl, rfl, ?_⟩
        refine xr_go hc rfl rfl ?_
        refine xr_go hc rfl rfl ?_
        refine xr_l_ge hc rfl rfl (by omega) (by omega) (fun c4 => ?_) (fun c4 => ?_)
        · skip
          refine xr_go hc rfl rfl ?_
          refine xr_go hc rfl rfl ?_
          refine xr_gf2 (A := 4) (w := 5) rfl hc rfl (ew_own_p hn rfl) (ew_pm hp rfl) ?_
          refine xr_go hc rfl rfl ?_
          refine xr_gf2 (A := 4) (w := 5) rfl hc rfl (ew_own_p hn rfl) (ew_pm hp rfl) ?_
          refine xr_go hc rfl rfl ?_
          refine xr_v_2 hc rfl rfl (ew_own_p hn rfl) (c_yearOf hC (by omega)) ?_
          refine xr_v_2 hc rfl rfl (ew_own_p hn rfl) (c_firstDayOf hC (s_year_bd hV (by omega))) ?_
          refine xr_go hc rfl rfl ?_
          refine xr_ret hc rfl rfl ?_
          refine ⟨?_, rfl, rfl⟩
          unfold s_a_date
          first
            | rw [if_pos (by omega)]
            | rw [if_neg (by omega)]
          try (repeat' split)
          all_goals first
            | rfl
            | (exfalso; omega)
            | (congr 2; omega)
        · skip
          refine xr_go hc rfl rfl ?_
          refine xr_go hc rfl rfl ?_
          refine xr_ret hc rfl rfl ?_
          refine ⟨?_, rfl, rfl⟩
          unfold s_a_date
          first
            | rw [if_pos (by omega)]
            | rw [if_neg (by omega)]
          try (repeat' split)
          all_goals first
            | rfl
            | (exfalso; omega)
            | (congr 2; omega)
  · skip
    refine xr_go hc rfl rfl ?_
    refine xr_ret hc rfl rfl ?_
    refine ⟨?_, rfl, rfl⟩
    unfold s_a_date
    first
      | rw [if_pos (by omega)]
      | rw [if_neg (by omega)]
    try (repeat' split)
    all_goals first
      | rfl
      | (exfalso; omega)
      | (congr 2; omega)


