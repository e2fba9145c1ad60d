/-! the class: places, eclipses -/
theorem s_toI {i : Int} (h : 0 ≤ i) : ((i.toNat : Nat) : Int) = i := Int.toNat_of_nonneg h
theorem c_wayAtI {V : ew_Mem} {n : Nat} {M : ew_Mem} (hC : s_C V n M) {i m : Int} (hi : 0 ≤ i ∧ i < V 6 0) (hm : -100000 ≤ m ∧ m ≤ 100000) : ew_FM 67 [(2, 5), (0, i), (0, m)] n M (1, s_way V i.toNat m) n M := by
  have h := c_wayAt hC (w := i.toNat) (m := m) (by omega) hm
  rw [s_toI hi.1] at h
  exact h

set_option maxRecDepth 20000 in
theorem c_has {V : ew_Mem} {n : Nat} {M : ew_Mem} (hC : s_C V n M) {i : Int} (hin : ew_in i) : ew_FM 69 [(2, 5), (0, i)] n M (0, if 0 ≤ i ∧ i < V 6 0 then 1 else 0) n M := by
  obtain ⟨hn, hp, hV, v0, v1, v2, v3, v4⟩ := id hC
  obtain ⟨hc6, hVW, hnd, hap, hr0, hr1, hr2, hr3, hr4, hr5⟩ := id hV
  have hc := ew_c_69
  show ew_X 69 0 [(2, 5), (0, i)] [] n M _
  refine xr_go hc rfl rfl ?_
  refine xr_go hc rfl rfl ?_
  by_cases hi : 0 ≤ i ∧ i < V 6 0
  · skip
    refine xr_v_2 hc rfl rfl (ew_own_p hn rfl) (c_numbered hC hi) ?_
    first
      | (have hwf := v4 i.toNat (by omega)
         have hw59 := hwf.1
         simp only [ew_own, Bool.and_eq_true, decide_eq_true_eq] at hw59)
      | skip
    refine xr_null hc rfl (fun c1 => by exfalso; omega) (fun c1 => ?_)
    refine xr_go hc rfl rfl ?_
    refine xr_go hc rfl rfl ?_
    refine xr_ret hc rfl rfl ?_
    exact ⟨by congr 2; (first | rw [if_pos hi] | rw [if_neg hi]), rfl, rfl⟩
  · skip
    refine xr_v_2 hc rfl rfl (ew_own_p hn rfl) (c_numberedN hC hin hi) ?_
    first
      | (have hwf := v4 i.toNat (by omega)
         have hw59 := hwf.1
         simp only [ew_own, Bool.and_eq_true, decide_eq_true_eq] at hw59)
      | skip
    refine xr_null hc rfl (fun c2 => ?_) (fun c2 => by exfalso; omega)
    refine xr_go hc rfl rfl ?_
    refine xr_ret hc rfl rfl ?_
    exact ⟨by congr 2; (first | rw [if_pos hi] | rw [if_neg hi]), rfl, rfl⟩

set_option maxRecDepth 20000 in
theorem c_roundsAt {V : ew_Mem} {n : Nat} {M : ew_Mem} (hC : s_C V n M) {i m : Int} (hi : 0 ≤ i ∧ i < V 6 0) (hm : -100000 ≤ m ∧ m ≤ 100000) : ew_FM 70 [(2, 5), (0, i), (0, m)] n M (1, s_rounds V i.toNat m) n M := by
  obtain ⟨hn, hp, hV, v0, v1, v2, v3, v4⟩ := id hC
  obtain ⟨hc6, hVW, hnd, hap, hr0, hr1, hr2, hr3, hr4, hr5⟩ := id hV
  have hc := ew_c_70
  have hwf := v4 i.toNat (by omega)
  have hw59 := hwf.1
  simp only [ew_own, Bool.and_eq_true, decide_eq_true_eq] at hw59
  obtain ⟨k0, k1, k2, k3, k4⟩ := hVW i.toNat (by omega)
  have hbd := s_way_bd hV hm i.toNat (by omega)
  show ew_X 70 0 [(2, 5), (0, i), (0, m), (5, 0)] [] n M _
  refine xr_go hc rfl rfl ?_
  refine xr_go hc rfl rfl ?_
  refine xr_v_2 hc rfl rfl (ew_own_p hn rfl) (c_numbered hC (by omega)) ?_
  refine xr_s1_3 hc rfl rfl rfl ?_
  refine xr_go hc rfl rfl ?_
  refine xr_nonnull hc rfl (fun c1 => ?_) (fun c1 => by exfalso; omega)
  refine xr_go hc rfl rfl ?_
  refine xr_go hc rfl rfl ?_
  refine xr_go hc rfl rfl ?_
  refine xr_v_3 hc rfl rfl (ew_own_p hn rfl) (c_wayAtI hC hi hm) ?_
  refine xr_go hc rfl rfl ?_
  refine xr_gf0 rfl hc rfl hwf.1 hwf.2.2.1 ?_
  refine xr_i2l hc rfl (by omega) ?_
  refine xr_s_2 hc rfl rfl (c_cutDown (by omega) (by omega)) ?_
  refine xr_ret hc rfl rfl ?_
  exact ⟨rfl, rfl, rfl⟩

set_option maxRecDepth 20000 in
theorem c_placeAt {V : ew_Mem} {n : Nat} {M : ew_Mem} (hC : s_C V n M) {i m : Int} (hi : 0 ≤ i ∧ i < V 6 0) (hm : -100000 ≤ m ∧ m ≤ 100000) : ew_FM 66 [(2, 5), (0, i), (0, m)] n M (0, s_at V i.toNat m) n M := by
  obtain ⟨hn, hp, hV, v0, v1, v2, v3, v4⟩ := id hC
  obtain ⟨hc6, hVW, hnd, hap, hr0, hr1, hr2, hr3, hr4, hr5⟩ := id hV
  have hc := ew_c_66
  have hwf := v4 i.toNat (by omega)
  have hw59 := hwf.1
  simp only [ew_own, Bool.and_eq_true, decide_eq_true_eq] at hw59
  obtain ⟨k0, k1, k2, k3, k4⟩ := hVW i.toNat (by omega)
  have hbd := s_way_bd hV hm i.toNat (by omega)
  show ew_X 66 0 [(2, 5), (0, i), (0, m), (5, 0)] [] n M _
  refine xr_go hc rfl rfl ?_
  refine xr_go hc rfl rfl ?_
  refine xr_v_2 hc rfl rfl (ew_own_p hn rfl) (c_numbered hC (by omega)) ?_
  refine xr_s1_3 hc rfl rfl rfl ?_
  refine xr_go hc rfl rfl ?_
  refine xr_nonnull hc rfl (fun c1 => ?_) (fun c1 => by exfalso; omega)
  refine xr_go hc rfl rfl ?_
  refine xr_go hc rfl rfl ?_
  refine xr_go hc rfl rfl ?_
  refine xr_v_3 hc rfl rfl (ew_own_p hn rfl) (c_wayAtI hC hi hm) ?_
  refine xr_go hc rfl rfl ?_
  refine xr_gf0 rfl hc rfl hwf.1 hwf.2.2.1 ?_
  refine xr_i2l hc rfl (by omega) ?_
  refine xr_s_2 hc rfl rfl (c_leftOver (by omega) (by omega)) ?_
  refine xr_go hc rfl rfl ?_
  refine xr_ret hc rfl rfl ?_
  exact ⟨rfl, rfl, rfl⟩

set_option maxRecDepth 20000 in
theorem c_farAt {V : ew_Mem} {n : Nat} {M : ew_Mem} (hC : s_C V n M) (h0 : 0 < V 6 0) {m : Int} (hm : -100000 ≤ m ∧ m ≤ 100000) : ew_FM 76 [(2, 5), (0, m)] n M (0, s_far V m) n M := by
  obtain ⟨hn, hp, hV, v0, v1, v2, v3, v4⟩ := id hC
  obtain ⟨hc6, hVW, hnd, hap, hr0, hr1, hr2, hr3, hr4, hr5⟩ := id hV
  have hc := ew_c_76
  have hnd0 : 0 ≤ V 6 1 ∧ V 6 1 < V 6 0 := by omega
  have hwf := v4 (V 6 1).toNat (by omega)
  have hw59 := hwf.1
  simp only [ew_own, Bool.and_eq_true, decide_eq_true_eq] at hw59
  have hWO := hVW (V 6 1).toNat (by omega)
  obtain ⟨k0, k1, k2, k3, k4⟩ := id hWO
  have hat := s_at_bd hV m (w := (V 6 1).toNat) (by omega)
  have hn0 := s_near_bd (s_at V (V 6 1).toNat m) 0 (all := V (V 6 1).toNat 1) (by omega)
  have hn1 := s_near_bd (s_at V (V 6 1).toNat m) (V (V 6 1).toNat 1 / 2) (all := V (V 6 1).toNat 1) (by omega)
  show ew_X 76 0 [(2, 5), (0, m), (5, 0), (5, 0)] [] n M _
  refine xr_go hc rfl rfl ?_
  refine xr_go hc rfl rfl ?_
  refine xr_gf0 (A := 5) rfl hc rfl (ew_own_p hn rfl) v1 ?_
  refine xr_v_2 hc rfl rfl (ew_own_p hn rfl) (c_numbered hC hnd0) ?_
  refine xr_s1_2 hc rfl rfl rfl ?_
  refine xr_go hc rfl rfl ?_
  refine xr_nonnull hc rfl (fun c1 => ?_) (fun c1 => by exfalso; omega)
  refine xr_go hc rfl rfl ?_
  refine xr_go hc rfl rfl ?_
  refine xr_gf0 (A := 5) rfl hc rfl (ew_own_p hn rfl) v1 ?_
  refine xr_go hc rfl rfl ?_
  refine xr_v_3 hc rfl rfl (ew_own_p hn rfl) (c_placeAt hC hnd0 hm) ?_
  refine xr_s1_3 hc rfl rfl rfl ?_
  refine xr_go hc rfl rfl ?_
  refine xr_go hc rfl rfl ?_
  refine xr_go hc rfl rfl ?_
  refine xr_v_3 hc rfl rfl hwf.1 (c_near hn hp hwf hWO (by omega) (by omega)) ?_
  refine xr_go hc rfl rfl ?_
  refine xr_go hc rfl rfl ?_
  refine xr_go hc rfl rfl ?_
  refine xr_gf0 rfl hc rfl hwf.1 hwf.2.2.1 ?_
  refine xr_go hc rfl rfl ?_
  refine xr_idiv hc rfl (by omega) (by omega) ?_
  refine xr_v_3 hc rfl rfl hwf.1 (c_near hn hp hwf hWO (by omega) (by omega)) ?_
  refine xr_s_2 hc rfl rfl (c_minI (by omega) (by omega)) ?_
  refine xr_ret hc rfl rfl ?_
  exact ⟨rfl, rfl, rfl⟩

set_option maxRecDepth 20000 in
theorem c_sideAt {V : ew_Mem} {n : Nat} {M : ew_Mem} (hC : s_C V n M) (h0 : 0 < V 6 0) {m : Int} (hm : -100000 ≤ m ∧ m ≤ 100000) : ew_FM 77 [(2, 5), (0, m)] n M (0, s_side V m) n M := by
  obtain ⟨hn, hp, hV, v0, v1, v2, v3, v4⟩ := id hC
  obtain ⟨hc6, hVW, hnd, hap, hr0, hr1, hr2, hr3, hr4, hr5⟩ := id hV
  have hc := ew_c_77
  have hnd0 : 0 ≤ V 6 1 ∧ V 6 1 < V 6 0 := by omega
  have hwf := v4 (V 6 1).toNat (by omega)
  have hw59 := hwf.1
  simp only [ew_own, Bool.and_eq_true, decide_eq_true_eq] at hw59
  have hWO := hVW (V 6 1).toNat (by omega)
  obtain ⟨k0, k1, k2, k3, k4⟩ := id hWO
  have hat := s_at_bd hV m (w := (V 6 1).toNat) (by omega)
  have hn0 := s_near_bd (s_at V (V 6 1).toNat m) 0 (all := V (V 6 1).toNat 1) (by omega)
  have hn1 := s_near_bd (s_at V (V 6 1).toNat m) (V (V 6 1).toNat 1 / 2) (all := V (V 6 1).toNat 1) (by omega)
  show ew_X 77 0 [(2, 5), (0, m), (5, 0), (5, 0)] [] n M _
  refine xr_go hc rfl rfl ?_
  refine xr_go hc rfl rfl ?_
  refine xr_gf0 (A := 5) rfl hc rfl (ew_own_p hn rfl) v1 ?_
  refine xr_v_2 hc rfl rfl (ew_own_p hn rfl) (c_numbered hC hnd0) ?_
  refine xr_s1_2 hc rfl rfl rfl ?_
  refine xr_go hc rfl rfl ?_
  refine xr_nonnull hc rfl (fun c1 => ?_) (fun c1 => by exfalso; omega)
  refine xr_go hc rfl rfl ?_
  refine xr_go hc rfl rfl ?_
  refine xr_gf0 (A := 5) rfl hc rfl (ew_own_p hn rfl) v1 ?_
  refine xr_go hc rfl rfl ?_
  refine xr_v_3 hc rfl rfl (ew_own_p hn rfl) (c_placeAt hC hnd0 hm) ?_
  refine xr_s1_3 hc rfl rfl rfl ?_
  refine xr_go hc rfl rfl ?_
  refine xr_go hc rfl rfl ?_
  refine xr_go hc rfl rfl ?_
  refine xr_gf0 rfl hc rfl hwf.1 hwf.2.2.1 ?_
  refine xr_go hc rfl rfl ?_
  refine xr_idiv hc rfl (by omega) (by omega) ?_
  refine xr_v_3 hc rfl rfl hwf.1 (c_near hn hp hwf hWO (by omega) (by omega)) ?_
  refine xr_go hc rfl rfl ?_
  refine xr_go hc rfl rfl ?_
  refine xr_go hc rfl rfl ?_
  refine xr_v_3 hc rfl rfl hwf.1 (c_near hn hp hwf hWO (by omega) (by omega)) ?_
  refine xr_icmp_ge hc rfl (by omega) (by omega) (fun c2 => ?_) (fun c2 => ?_)
  · skip
    refine xr_go hc rfl rfl ?_
    refine xr_ret hc rfl rfl ?_
    exact ⟨by unfold s_side; congr 2; split <;> omega, rfl, rfl⟩
  · skip
    refine xr_go hc rfl rfl ?_
    refine xr_go hc rfl rfl ?_
    refine xr_ret hc rfl rfl ?_
    exact ⟨by unfold s_side; congr 2; split <;> omega, rfl, rfl⟩

set_option maxRecDepth 20000 in
theorem c_eclipseAt {V : ew_Mem} {n : Nat} {M : ew_Mem} (hC : s_C V n M) {m : Int} (hm : -100000 ≤ m ∧ m ≤ 100000) : ew_FM 75 [(2, 5), (0, m)] n M (0, s_ecl V m) n M := by
  obtain ⟨hn, hp, hV, v0, v1, v2, v3, v4⟩ := id hC
  obtain ⟨hc6, hVW, hnd, hap, hr0, hr1, hr2, hr3, hr4, hr5⟩ := id hV
  have hc := ew_c_75
  show ew_X 75 0 [(2, 5), (0, m), (5, 0), (5, 0)] [] n M _
  refine xr_go hc rfl rfl ?_
  refine xr_gf0 (A := 5) rfl hc rfl (ew_own_p hn rfl) v0 ?_
  refine xr_if_ne hc rfl (by omega) (fun c1 => ?_) (fun c1 => ?_)
  · skip
    have hfb := s_far_bd hV (by omega) m
    refine xr_go hc rfl rfl ?_
    refine xr_go hc rfl rfl ?_
    refine xr_v_2 hc rfl rfl (ew_own_p hn rfl) (c_farAt hC (by omega) hm) ?_
    refine xr_s1_2 hc rfl rfl rfl ?_
    refine xr_go hc rfl rfl ?_
    refine xr_go hc rfl rfl ?_
    refine xr_gf2 (A := 5) (w := 7) rfl hc rfl (ew_own_p hn rfl) (ew_pm hp rfl) ?_
    refine xr_go hc rfl rfl ?_
    refine xr_iald (A := 7) (N := 6) rfl rfl hc rfl (ew_ok_p hn rfl) (by decide) (by decide) (v3 0 (by decide)) ?_
    refine xr_icmp_le hc rfl (by omega) (by omega) (fun c2 => ?_) (fun c2 => ?_)
    · skip
      refine xr_go hc rfl rfl ?_
      refine xr_go hc rfl rfl ?_
      refine xr_gf2 (A := 5) (w := 7) rfl hc rfl (ew_own_p hn rfl) (ew_pm hp rfl) ?_
      refine xr_go hc rfl rfl ?_
      refine xr_iald (A := 7) (N := 6) rfl rfl hc rfl (ew_ok_p hn rfl) (by decide) (by decide) (v3 1 (by decide)) ?_
      refine xr_icmp_le hc rfl (by omega) (by omega) (fun c3 => ?_) (fun c3 => ?_)
      · skip
        refine xr_go hc rfl rfl ?_
        refine xr_go hc rfl rfl ?_
        refine xr_gf0 (A := 5) rfl hc rfl (ew_own_p hn rfl) v2 ?_
        by_cases hq : 0 ≤ V 6 2 ∧ V 6 2 < V 6 0
        · skip
          refine xr_v_2 hc rfl rfl (ew_own_p hn rfl) (c_numbered hC hq) ?_
          refine xr_s1_3 hc rfl rfl rfl ?_
          refine xr_go hc rfl rfl ?_
          first
            | (have hwf := v4 (V 6 2).toNat (by omega)
               have hw59 := hwf.1
               simp only [ew_own, Bool.and_eq_true, decide_eq_true_eq] at hw59
               have hWO := hVW (V 6 2).toNat (by omega)
               obtain ⟨k0, k1, k2, k3, k4⟩ := id hWO
               have hat := s_at_bd hV m (w := (V 6 2).toNat) (by omega)
               have hn0 := s_near_bd (s_at V (V 6 2).toNat m) 0 (all := V (V 6 2).toNat 1) (by omega))
            | skip
          refine xr_null hc rfl (fun c4 => by exfalso; omega) (fun c4 => ?_)
          refine xr_go hc rfl rfl ?_
          refine xr_go hc rfl rfl ?_
          refine xr_go hc rfl rfl ?_
          refine xr_gf0 (A := 5) rfl hc rfl (ew_own_p hn rfl) v2 ?_
          refine xr_go hc rfl rfl ?_
          refine xr_v_3 hc rfl rfl (ew_own_p hn rfl) (c_placeAt hC hq hm) ?_
          refine xr_go hc rfl rfl ?_
          refine xr_v_3 hc rfl rfl (v4 _ (by omega)).1 (c_near hn hp (v4 _ (by omega)) (hVW _ (by omega)) (by have := s_at_bd hV m (w := (V 6 2).toNat) (by omega); have := (hVW (V 6 2).toNat (by omega)).2.1; omega) (by omega)) ?_
          refine xr_go hc rfl rfl ?_
          refine xr_gf2 (A := 5) (w := 7) rfl hc rfl (ew_own_p hn rfl) (ew_pm hp rfl) ?_
          refine xr_go hc rfl rfl ?_
          refine xr_iald (A := 7) (N := 6) rfl rfl hc rfl (ew_ok_p hn rfl) (by decide) (by decide) (v3 2 (by decide)) ?_
          refine xr_icmp_le hc rfl (by omega) (by omega) (fun c5 => ?_) (fun c5 => ?_)
          · skip
            refine xr_go hc rfl rfl ?_
            refine xr_ret hc rfl rfl ?_
            refine ⟨?_, rfl, rfl⟩
            unfold s_ecl
            congr 2
            repeat' split
            all_goals omega
          · skip
            refine xr_go hc rfl rfl ?_
            refine xr_go hc rfl rfl ?_
            refine xr_ret hc rfl rfl ?_
            refine ⟨?_, rfl, rfl⟩
            unfold s_ecl
            congr 2
            repeat' split
            all_goals omega
        · skip
          refine xr_v_2 hc rfl rfl (ew_own_p hn rfl) (c_numberedN hC (by omega) hq) ?_
          refine xr_s1_3 hc rfl rfl rfl ?_
          refine xr_go hc rfl rfl ?_
          first
            | (have hwf := v4 (V 6 2).toNat (by omega)
               have hw59 := hwf.1
               simp only [ew_own, Bool.and_eq_true, decide_eq_true_eq] at hw59
               have hWO := hVW (V 6 2).toNat (by omega)
               obtain ⟨k0, k1, k2, k3, k4⟩ := id hWO
               have hat := s_at_bd hV m (w := (V 6 2).toNat) (by omega)
               have hn0 := s_near_bd (s_at V (V 6 2).toNat m) 0 (all := V (V 6 2).toNat 1) (by omega))
            | skip
          refine xr_null hc rfl (fun c6 => ?_) (fun c6 => by exfalso; omega)
          refine xr_go hc rfl rfl ?_
          refine xr_ret hc rfl rfl ?_
          refine ⟨?_, rfl, rfl⟩
          unfold s_ecl
          congr 2
          repeat' split
          all_goals omega
      · skip
        refine xr_go hc rfl rfl ?_
        refine xr_ret hc rfl rfl ?_
        refine ⟨?_, rfl, rfl⟩
        unfold s_ecl
        congr 2
        repeat' split
        all_goals omega
    · skip
      refine xr_go hc rfl rfl ?_
      refine xr_ret hc rfl rfl ?_
      refine ⟨?_, rfl, rfl⟩
      unfold s_ecl
      congr 2
      repeat' split
      all_goals omega
  · skip
    refine xr_go hc rfl rfl ?_
    refine xr_ret hc rfl rfl ?_
    refine ⟨?_, rfl, rfl⟩
    unfold s_ecl
    congr 2
    repeat' split
    all_goals omega

