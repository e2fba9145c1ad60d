/-! the class: rules, days, drift, families -/
set_option maxRecDepth 20000 in
theorem c_isRule {n : Nat} {M : ew_Mem} {x : Int} (hx : ew_in x) : ew_FM 71 [(0, x)] n M (0, if 0 ≤ x ∧ x ≤ 5 then 1 else 0) n M := by
  have hc := ew_c_71
  show ew_X 71 0 [(0, x)] [] n M _
  refine xr_go hc rfl rfl ?_
  refine xr_if_lt hc rfl (by omega) (fun c1 => ?_) (fun c1 => ?_)
  · skip
    refine xr_go hc rfl rfl ?_
    refine xr_ret hc rfl rfl ?_
    exact ⟨by congr 2; split <;> omega, rfl, rfl⟩
  · skip
    refine xr_go hc rfl rfl ?_
    refine xr_go hc rfl rfl ?_
    refine xr_icmp_ge hc rfl (by omega) (by decide) (fun c2 => ?_) (fun c2 => ?_)
    · skip
      refine xr_go hc rfl rfl ?_
      refine xr_ret hc rfl rfl ?_
      exact ⟨by congr 2; split <;> omega, rfl, rfl⟩
    · skip
      refine xr_go hc rfl rfl ?_
      refine xr_go hc rfl rfl ?_
      refine xr_ret hc rfl rfl ?_
      exact ⟨by congr 2; split <;> omega, rfl, rfl⟩

set_option maxRecDepth 20000 in
theorem c_isWithin {n : Nat} {M : ew_Mem} (hn : 59 ≤ n) (hp : ew_Pm M) {x v : Int} (hx : ew_in x) (hv : ew_in v) : ew_FM 72 [(0, x), (0, v)] n M (0, s_b (s_rok x v)) n M := by
  have hc := ew_c_72
  show ew_X 72 0 [(0, x), (0, v)] [] n M _
  by_cases h0 : 0 ≤ x ∧ x ≤ 5
  · obtain rfl | rfl | rfl | rfl | rfl | rfl : x = 0 ∨ x = 1 ∨ x = 2 ∨ x = 3 ∨ x = 4 ∨ x = 5 := by omega
    · skip
      refine xr_go hc rfl rfl ?_
      refine xr_s_1 hc rfl rfl (c_isRule (by decide)) ?_
      refine xr_if_eq hc rfl (by omega) (fun c1 => ?_) (fun c1 => ?_)
      · exfalso; omega
      · skip
        refine xr_go hc rfl rfl ?_
        refine xr_go hc rfl rfl ?_
        refine xr_go hc rfl rfl ?_
        refine xr_iald (A := 1) (N := 6) rfl rfl hc rfl (ew_ok_p hn rfl) (by decide) (by decide) (ew_pm (v := 0) hp rfl) ?_
        refine xr_icmp_lt hc rfl (by omega) (by omega) (fun c2 => ?_) (fun c2 => ?_)
        · skip
          refine xr_go hc rfl rfl ?_
          refine xr_ret hc rfl rfl ?_
          refine ⟨?_, rfl, rfl⟩
          unfold s_b
          first
            | rw [if_pos (by unfold s_rok; simp; omega)]
            | rw [if_neg (by unfold s_rok; simp; omega)]
        · skip
          refine xr_go hc rfl rfl ?_
          refine xr_go hc rfl rfl ?_
          refine xr_go hc rfl rfl ?_
          refine xr_iald (A := 2) (N := 6) rfl rfl hc rfl (ew_ok_p hn rfl) (by decide) (by decide) (ew_pm (v := 99999) hp rfl) ?_
          refine xr_icmp_gt hc rfl (by omega) (by omega) (fun c3 => ?_) (fun c3 => ?_)
          · skip
            refine xr_go hc rfl rfl ?_
            refine xr_ret hc rfl rfl ?_
            refine ⟨?_, rfl, rfl⟩
            unfold s_b
            first
              | rw [if_pos (by unfold s_rok; simp; omega)]
              | rw [if_neg (by unfold s_rok; simp; omega)]
          · skip
            refine xr_go hc rfl rfl ?_
            refine xr_go hc rfl rfl ?_
            refine xr_ret hc rfl rfl ?_
            refine ⟨?_, rfl, rfl⟩
            unfold s_b
            first
              | rw [if_pos (by unfold s_rok; simp; omega)]
              | rw [if_neg (by unfold s_rok; simp; omega)]
    · skip
      refine xr_go hc rfl rfl ?_
      refine xr_s_1 hc rfl rfl (c_isRule (by decide)) ?_
      refine xr_if_eq hc rfl (by omega) (fun c1 => ?_) (fun c1 => ?_)
      · exfalso; omega
      · skip
        refine xr_go hc rfl rfl ?_
        refine xr_go hc rfl rfl ?_
        refine xr_go hc rfl rfl ?_
        refine xr_iald (A := 1) (N := 6) rfl rfl hc rfl (ew_ok_p hn rfl) (by decide) (by decide) (ew_pm (v := 0) hp rfl) ?_
        refine xr_icmp_lt hc rfl (by omega) (by omega) (fun c2 => ?_) (fun c2 => ?_)
        · skip
          refine xr_go hc rfl rfl ?_
          refine xr_ret hc rfl rfl ?_
          refine ⟨?_, rfl, rfl⟩
          unfold s_b
          first
            | rw [if_pos (by unfold s_rok; simp; omega)]
            | rw [if_neg (by unfold s_rok; simp; omega)]
        · skip
          refine xr_go hc rfl rfl ?_
          refine xr_go hc rfl rfl ?_
          refine xr_go hc rfl rfl ?_
          refine xr_iald (A := 2) (N := 6) rfl rfl hc rfl (ew_ok_p hn rfl) (by decide) (by decide) (ew_pm (v := 99999) hp rfl) ?_
          refine xr_icmp_gt hc rfl (by omega) (by omega) (fun c3 => ?_) (fun c3 => ?_)
          · skip
            refine xr_go hc rfl rfl ?_
            refine xr_ret hc rfl rfl ?_
            refine ⟨?_, rfl, rfl⟩
            unfold s_b
            first
              | rw [if_pos (by unfold s_rok; simp; omega)]
              | rw [if_neg (by unfold s_rok; simp; omega)]
          · skip
            refine xr_go hc rfl rfl ?_
            refine xr_go hc rfl rfl ?_
            refine xr_ret hc rfl rfl ?_
            refine ⟨?_, rfl, rfl⟩
            unfold s_b
            first
              | rw [if_pos (by unfold s_rok; simp; omega)]
              | rw [if_neg (by unfold s_rok; simp; omega)]
    · skip
      refine xr_go hc rfl rfl ?_
      refine xr_s_1 hc rfl rfl (c_isRule (by decide)) ?_
      refine xr_if_eq hc rfl (by omega) (fun c1 => ?_) (fun c1 => ?_)
      · exfalso; omega
      · skip
        refine xr_go hc rfl rfl ?_
        refine xr_go hc rfl rfl ?_
        refine xr_go hc rfl rfl ?_
        refine xr_iald (A := 1) (N := 6) rfl rfl hc rfl (ew_ok_p hn rfl) (by decide) (by decide) (ew_pm (v := 0) hp rfl) ?_
        refine xr_icmp_lt hc rfl (by omega) (by omega) (fun c2 => ?_) (fun c2 => ?_)
        · skip
          refine xr_go hc rfl rfl ?_
          refine xr_ret hc rfl rfl ?_
          refine ⟨?_, rfl, rfl⟩
          unfold s_b
          first
            | rw [if_pos (by unfold s_rok; simp; omega)]
            | rw [if_neg (by unfold s_rok; simp; omega)]
        · skip
          refine xr_go hc rfl rfl ?_
          refine xr_go hc rfl rfl ?_
          refine xr_go hc rfl rfl ?_
          refine xr_iald (A := 2) (N := 6) rfl rfl hc rfl (ew_ok_p hn rfl) (by decide) (by decide) (ew_pm (v := 99999) hp rfl) ?_
          refine xr_icmp_gt hc rfl (by omega) (by omega) (fun c3 => ?_) (fun c3 => ?_)
          · skip
            refine xr_go hc rfl rfl ?_
            refine xr_ret hc rfl rfl ?_
            refine ⟨?_, rfl, rfl⟩
            unfold s_b
            first
              | rw [if_pos (by unfold s_rok; simp; omega)]
              | rw [if_neg (by unfold s_rok; simp; omega)]
          · skip
            refine xr_go hc rfl rfl ?_
            refine xr_go hc rfl rfl ?_
            refine xr_ret hc rfl rfl ?_
            refine ⟨?_, rfl, rfl⟩
            unfold s_b
            first
              | rw [if_pos (by unfold s_rok; simp; omega)]
              | rw [if_neg (by unfold s_rok; simp; omega)]
    · skip
      refine xr_go hc rfl rfl ?_
      refine xr_s_1 hc rfl rfl (c_isRule (by decide)) ?_
      refine xr_if_eq hc rfl (by omega) (fun c1 => ?_) (fun c1 => ?_)
      · exfalso; omega
      · skip
        refine xr_go hc rfl rfl ?_
        refine xr_go hc rfl rfl ?_
        refine xr_go hc rfl rfl ?_
        refine xr_iald (A := 1) (N := 6) rfl rfl hc rfl (ew_ok_p hn rfl) (by decide) (by decide) (ew_pm (v := 1) hp rfl) ?_
        refine xr_icmp_lt hc rfl (by omega) (by omega) (fun c2 => ?_) (fun c2 => ?_)
        · skip
          refine xr_go hc rfl rfl ?_
          refine xr_ret hc rfl rfl ?_
          refine ⟨?_, rfl, rfl⟩
          unfold s_b
          first
            | rw [if_pos (by unfold s_rok; simp; omega)]
            | rw [if_neg (by unfold s_rok; simp; omega)]
        · skip
          refine xr_go hc rfl rfl ?_
          refine xr_go hc rfl rfl ?_
          refine xr_go hc rfl rfl ?_
          refine xr_iald (A := 2) (N := 6) rfl rfl hc rfl (ew_ok_p hn rfl) (by decide) (by decide) (ew_pm (v := 100000) hp rfl) ?_
          refine xr_icmp_gt hc rfl (by omega) (by omega) (fun c3 => ?_) (fun c3 => ?_)
          · skip
            refine xr_go hc rfl rfl ?_
            refine xr_ret hc rfl rfl ?_
            refine ⟨?_, rfl, rfl⟩
            unfold s_b
            first
              | rw [if_pos (by unfold s_rok; simp; omega)]
              | rw [if_neg (by unfold s_rok; simp; omega)]
          · skip
            refine xr_go hc rfl rfl ?_
            refine xr_go hc rfl rfl ?_
            refine xr_ret hc rfl rfl ?_
            refine ⟨?_, rfl, rfl⟩
            unfold s_b
            first
              | rw [if_pos (by unfold s_rok; simp; omega)]
              | rw [if_neg (by unfold s_rok; simp; omega)]
    · skip
      refine xr_go hc rfl rfl ?_
      refine xr_s_1 hc rfl rfl (c_isRule (by decide)) ?_
      refine xr_if_eq hc rfl (by omega) (fun c1 => ?_) (fun c1 => ?_)
      · exfalso; omega
      · skip
        refine xr_go hc rfl rfl ?_
        refine xr_go hc rfl rfl ?_
        refine xr_go hc rfl rfl ?_
        refine xr_iald (A := 1) (N := 6) rfl rfl hc rfl (ew_ok_p hn rfl) (by decide) (by decide) (ew_pm (v := 1) hp rfl) ?_
        refine xr_icmp_lt hc rfl (by omega) (by omega) (fun c2 => ?_) (fun c2 => ?_)
        · skip
          refine xr_go hc rfl rfl ?_
          refine xr_ret hc rfl rfl ?_
          refine ⟨?_, rfl, rfl⟩
          unfold s_b
          first
            | rw [if_pos (by unfold s_rok; simp; omega)]
            | rw [if_neg (by unfold s_rok; simp; omega)]
        · skip
          refine xr_go hc rfl rfl ?_
          refine xr_go hc rfl rfl ?_
          refine xr_go hc rfl rfl ?_
          refine xr_iald (A := 2) (N := 6) rfl rfl hc rfl (ew_ok_p hn rfl) (by decide) (by decide) (ew_pm (v := 1000) hp rfl) ?_
          refine xr_icmp_gt hc rfl (by omega) (by omega) (fun c3 => ?_) (fun c3 => ?_)
          · skip
            refine xr_go hc rfl rfl ?_
            refine xr_ret hc rfl rfl ?_
            refine ⟨?_, rfl, rfl⟩
            unfold s_b
            first
              | rw [if_pos (by unfold s_rok; simp; omega)]
              | rw [if_neg (by unfold s_rok; simp; omega)]
          · skip
            refine xr_go hc rfl rfl ?_
            refine xr_go hc rfl rfl ?_
            refine xr_ret hc rfl rfl ?_
            refine ⟨?_, rfl, rfl⟩
            unfold s_b
            first
              | rw [if_pos (by unfold s_rok; simp; omega)]
              | rw [if_neg (by unfold s_rok; simp; omega)]
    · skip
      refine xr_go hc rfl rfl ?_
      refine xr_s_1 hc rfl rfl (c_isRule (by decide)) ?_
      refine xr_if_eq hc rfl (by omega) (fun c1 => ?_) (fun c1 => ?_)
      · exfalso; omega
      · skip
        refine xr_go hc rfl rfl ?_
        refine xr_go hc rfl rfl ?_
        refine xr_go hc rfl rfl ?_
        refine xr_iald (A := 1) (N := 6) rfl rfl hc rfl (ew_ok_p hn rfl) (by decide) (by decide) (ew_pm (v := 1) hp rfl) ?_
        refine xr_icmp_lt hc rfl (by omega) (by omega) (fun c2 => ?_) (fun c2 => ?_)
        · skip
          refine xr_go hc rfl rfl ?_
          refine xr_ret hc rfl rfl ?_
          refine ⟨?_, rfl, rfl⟩
          unfold s_b
          first
            | rw [if_pos (by unfold s_rok; simp; omega)]
            | rw [if_neg (by unfold s_rok; simp; omega)]
        · skip
          refine xr_go hc rfl rfl ?_
          refine xr_go hc rfl rfl ?_
          refine xr_go hc rfl rfl ?_
          refine xr_iald (A := 2) (N := 6) rfl rfl hc rfl (ew_ok_p hn rfl) (by decide) (by decide) (ew_pm (v := 400) hp rfl) ?_
          refine xr_icmp_gt hc rfl (by omega) (by omega) (fun c3 => ?_) (fun c3 => ?_)
          · skip
            refine xr_go hc rfl rfl ?_
            refine xr_ret hc rfl rfl ?_
            refine ⟨?_, rfl, rfl⟩
            unfold s_b
            first
              | rw [if_pos (by unfold s_rok; simp; omega)]
              | rw [if_neg (by unfold s_rok; simp; omega)]
          · skip
            refine xr_go hc rfl rfl ?_
            refine xr_go hc rfl rfl ?_
            refine xr_ret hc rfl rfl ?_
            refine ⟨?_, rfl, rfl⟩
            unfold s_b
            first
              | rw [if_pos (by unfold s_rok; simp; omega)]
              | rw [if_neg (by unfold s_rok; simp; omega)]
  · skip
    refine xr_go hc rfl rfl ?_
    refine xr_s_1 hc rfl rfl (c_isRule hx) ?_
    refine xr_if_eq hc rfl (by omega) (fun c1 => ?_) (fun c1 => ?_)
    · skip
      refine xr_go hc rfl rfl ?_
      refine xr_ret hc rfl rfl ?_
      refine ⟨?_, rfl, rfl⟩
      unfold s_b
      rw [if_neg (by unfold s_rok; simp; omega)]
    · exfalso; omega

set_option maxRecDepth 20000 in
theorem c_dayOf {V : ew_Mem} {n : Nat} {M : ew_Mem} (hC : s_C V n M) {m : Int} (hm : -100000 ≤ m ∧ m ≤ 100000) : ew_FM 80 [(2, 5), (0, m)] n M (1, s_day V m) n M := by
  obtain ⟨hn, hp, hV, v0, v1, v2, v3, v4⟩ := id hC
  obtain ⟨hc6, hVW, hnd, hap, hr0, hr1, hr2, hr3, hr4, hr5⟩ := id hV
  have hc := ew_c_80
  obtain ⟨hb1, hb2⟩ := s_day_bd hV hm
  show ew_X 80 0 [(2, 5), (0, m)] [] n M _
  refine xr_go hc rfl rfl ?_
  refine xr_gf2 (A := 5) (w := 7) rfl hc rfl (ew_own_p hn rfl) (ew_pm hp rfl) ?_
  refine xr_go hc rfl rfl ?_
  refine xr_iald (A := 7) (N := 6) rfl rfl hc rfl (ew_ok_p hn rfl) (by decide) (by decide) (v3 3 (by decide)) ?_
  refine xr_i2l hc rfl (by omega) ?_
  refine xr_go hc rfl rfl ?_
  refine xr_i2l hc rfl (by omega) ?_
  refine xr_go hc rfl rfl ?_
  refine xr_go hc rfl rfl ?_
  refine xr_gf2 (A := 5) (w := 7) rfl hc rfl (ew_own_p hn rfl) (ew_pm hp rfl) ?_
  refine xr_go hc rfl rfl ?_
  refine xr_iald (A := 7) (N := 6) rfl rfl hc rfl (ew_ok_p hn rfl) (by decide) (by decide) (v3 4 (by decide)) ?_
  refine xr_i2l hc rfl (by omega) ?_
  refine xr_s_2 hc rfl rfl (c_cutDown (by omega) (by omega)) ?_
  refine xr_ret hc rfl rfl ?_
  exact ⟨rfl, rfl, rfl⟩

set_option maxRecDepth 20000 in
theorem c_restOf {V : ew_Mem} {n : Nat} {M : ew_Mem} (hC : s_C V n M) {m : Int} (hm : -100000 ≤ m ∧ m ≤ 100000) : ew_FM 81 [(2, 5), (0, m)] n M (1, s_rest V m) n M := by
  obtain ⟨hn, hp, hV, v0, v1, v2, v3, v4⟩ := id hC
  obtain ⟨hc6, hVW, hnd, hap, hr0, hr1, hr2, hr3, hr4, hr5⟩ := id hV
  have hc := ew_c_81
  obtain ⟨hb1, hb2⟩ := s_day_bd hV hm
  show ew_X 81 0 [(2, 5), (0, m)] [] n M _
  refine xr_go hc rfl rfl ?_
  refine xr_gf2 (A := 5) (w := 7) rfl hc rfl (ew_own_p hn rfl) (ew_pm hp rfl) ?_
  refine xr_go hc rfl rfl ?_
  refine xr_iald (A := 7) (N := 6) rfl rfl hc rfl (ew_ok_p hn rfl) (by decide) (by decide) (v3 3 (by decide)) ?_
  refine xr_i2l hc rfl (by omega) ?_
  refine xr_go hc rfl rfl ?_
  refine xr_i2l hc rfl (by omega) ?_
  refine xr_go hc rfl rfl ?_
  refine xr_go hc rfl rfl ?_
  refine xr_gf2 (A := 5) (w := 7) rfl hc rfl (ew_own_p hn rfl) (ew_pm hp rfl) ?_
  refine xr_go hc rfl rfl ?_
  refine xr_iald (A := 7) (N := 6) rfl rfl hc rfl (ew_ok_p hn rfl) (by decide) (by decide) (v3 4 (by decide)) ?_
  refine xr_i2l hc rfl (by omega) ?_
  refine xr_go hc rfl rfl ?_
  refine xr_go hc rfl rfl ?_
  refine xr_v_2 hc rfl rfl (ew_own_p hn rfl) (c_dayOf hC hm) ?_
  refine xr_go hc rfl rfl ?_
  refine xr_go hc rfl rfl ?_
  refine xr_ret hc rfl rfl ?_
  exact ⟨rfl, rfl, rfl⟩

set_option maxRecDepth 20000 in
theorem c_monthFrom {V : ew_Mem} {n : Nat} {M : ew_Mem} (hC : s_C V n M) {d : Int} (hd : 0 ≤ d ∧ d ≤ 1000000) : ew_FM 84 [(2, 5), (0, d)] n M (1, s_monthFrom V d) n M := by
  obtain ⟨hn, hp, hV, v0, v1, v2, v3, v4⟩ := id hC
  obtain ⟨hc6, hVW, hnd, hap, hr0, hr1, hr2, hr3, hr4, hr5⟩ := id hV
  have hc := ew_c_84
  have hb1 := s_mul_bd (a := d) (b := V 7 4) (A := 1000000) (B := 1000) hd (by omega)
  show ew_X 84 0 [(2, 5), (0, d), (5, 0), (5, 0)] [] n M _
  refine xr_go hc rfl rfl ?_
  refine xr_i2l hc rfl (by omega) ?_
  refine xr_go hc rfl rfl ?_
  refine xr_gf2 (A := 5) (w := 7) rfl hc rfl (ew_own_p hn rfl) (ew_pm hp rfl) ?_
  refine xr_go hc rfl rfl ?_
  refine xr_iald (A := 7) (N := 6) rfl rfl hc rfl (ew_ok_p hn rfl) (by decide) (by decide) (v3 4 (by decide)) ?_
  refine xr_i2l hc rfl (by omega) ?_
  refine xr_go hc rfl rfl ?_
  refine xr_s2_2 hc rfl rfl rfl ?_
  refine xr_go hc rfl rfl ?_
  refine xr_go hc rfl rfl ?_
  refine xr_gf2 (A := 5) (w := 7) rfl hc rfl (ew_own_p hn rfl) (ew_pm hp rfl) ?_
  refine xr_go hc rfl rfl ?_
  refine xr_iald (A := 7) (N := 6) rfl rfl hc rfl (ew_ok_p hn rfl) (by decide) (by decide) (v3 3 (by decide)) ?_
  refine xr_i2l hc rfl (by omega) ?_
  refine xr_go hc rfl rfl ?_
  refine xr_go hc rfl rfl ?_
  refine xr_go hc rfl rfl ?_
  refine xr_go hc rfl rfl ?_
  refine xr_gf2 (A := 5) (w := 7) rfl hc rfl (ew_own_p hn rfl) (ew_pm hp rfl) ?_
  refine xr_go hc rfl rfl ?_
  refine xr_iald (A := 7) (N := 6) rfl rfl hc rfl (ew_ok_p hn rfl) (by decide) (by decide) (v3 3 (by decide)) ?_
  refine xr_i2l hc rfl (by omega) ?_
  refine xr_s_2 hc rfl rfl (c_cutDown (by omega) (by omega)) ?_
  refine xr_ret hc rfl rfl ?_
  exact ⟨rfl, rfl, rfl⟩

set_option maxRecDepth 20000 in
theorem c_yearOf {V : ew_Mem} {n : Nat} {M : ew_Mem} (hC : s_C V n M) {d : Int} (hd : 0 ≤ d ∧ d ≤ 10000000000) : ew_FM 82 [(2, 5), (1, d)] n M (1, s_year V d) n M := by
  obtain ⟨hn, hp, hV, v0, v1, v2, v3, v4⟩ := id hC
  obtain ⟨hc6, hVW, hnd, hap, hr0, hr1, hr2, hr3, hr4, hr5⟩ := id hV
  have hc := ew_c_82
  have hal : 366 ≤ 365 * V 7 5 + 1 ∧ 365 * V 7 5 + 1 ≤ 146001 := by omega
  have g1 := Int.emod_nonneg d (show 365 * V 7 5 + 1 ≠ 0 by omega)
  have g2 := Int.emod_lt_of_pos d (show 0 < 365 * V 7 5 + 1 by omega)
  show ew_X 82 0 [(2, 5), (1, d), (5, 0), (5, 0), (5, 0), (5, 0), (5, 0), (5, 0), (5, 0)] [] n M _
  refine xr_go hc rfl rfl ?_
  refine xr_go hc rfl rfl ?_
  refine xr_gf2 (A := 5) (w := 7) rfl hc rfl (ew_own_p hn rfl) (ew_pm hp rfl) ?_
  refine xr_go hc rfl rfl ?_
  refine xr_iald (A := 7) (N := 6) rfl rfl hc rfl (ew_ok_p hn rfl) (by decide) (by decide) (v3 5 (by decide)) ?_
  refine xr_i2l hc rfl (by omega) ?_
  refine xr_go hc rfl rfl ?_
  refine xr_go hc rfl rfl ?_
  refine xr_go hc rfl rfl ?_
  refine xr_s2_3 hc rfl rfl rfl ?_
  refine xr_go hc rfl rfl ?_
  refine xr_go hc rfl rfl ?_
  refine xr_s_2 hc rfl rfl (c_leftOver (by omega) (by omega)) ?_
  refine xr_s2_5 hc rfl rfl rfl ?_
  refine xr_go hc rfl rfl ?_
  refine xr_go hc rfl rfl ?_
  refine xr_l_ge hc rfl rfl (by omega) (by omega) (fun c1 => ?_) (fun c1 => ?_)
  · skip
    refine xr_go hc rfl rfl ?_
    refine xr_go hc rfl rfl ?_
    refine xr_go hc rfl rfl ?_
    refine xr_go hc rfl rfl ?_
    refine xr_ldivN hc rfl (by omega) (by omega) ?_
    refine xr_s2_7 hc rfl rfl rfl ?_
    refine xr_go hc rfl rfl ?_
    refine xr_go hc rfl rfl ?_
    refine xr_s_2 hc rfl rfl (c_cutDown (by omega) (by omega)) ?_
    refine xr_go hc rfl rfl ?_
    refine xr_gf2 (A := 5) (w := 7) rfl hc rfl (ew_own_p hn rfl) (ew_pm hp rfl) ?_
    refine xr_go hc rfl rfl ?_
    refine xr_iald (A := 7) (N := 6) rfl rfl hc rfl (ew_ok_p hn rfl) (by decide) (by decide) (v3 5 (by decide)) ?_
    refine xr_i2l hc rfl (by omega) ?_
    refine xr_go hc rfl rfl ?_
    refine xr_go hc rfl rfl ?_
    refine xr_go hc rfl rfl ?_
    refine xr_ret hc rfl rfl ?_
    refine ⟨?_, rfl, rfl⟩
    unfold s_year
    first
      | rw [if_pos (by omega)]
      | rw [if_neg (by omega)]
  · skip
    refine xr_go hc rfl rfl ?_
    refine xr_go hc rfl rfl ?_
    refine xr_s2_7 hc rfl rfl rfl ?_
    refine xr_go hc rfl rfl ?_
    refine xr_go hc rfl rfl ?_
    refine xr_s_2 hc rfl rfl (c_cutDown (by omega) (by omega)) ?_
    refine xr_go hc rfl rfl ?_
    refine xr_gf2 (A := 5) (w := 7) rfl hc rfl (ew_own_p hn rfl) (ew_pm hp rfl) ?_
    refine xr_go hc rfl rfl ?_
    refine xr_iald (A := 7) (N := 6) rfl rfl hc rfl (ew_ok_p hn rfl) (by decide) (by decide) (v3 5 (by decide)) ?_
    refine xr_i2l hc rfl (by omega) ?_
    refine xr_go hc rfl rfl ?_
    refine xr_go hc rfl rfl ?_
    refine xr_go hc rfl rfl ?_
    refine xr_ret hc rfl rfl ?_
    refine ⟨?_, rfl, rfl⟩
    unfold s_year
    first
      | rw [if_pos (by omega)]
      | rw [if_neg (by omega)]

set_option maxRecDepth 20000 in
theorem c_firstDayOf {V : ew_Mem} {n : Nat} {M : ew_Mem} (hC : s_C V n M) {y : Int} (hy : 0 ≤ y ∧ y ≤ 10000000000) : ew_FM 83 [(2, 5), (1, y)] n M (1, s_firstDay V y) n M := by
  obtain ⟨hn, hp, hV, v0, v1, v2, v3, v4⟩ := id hC
  obtain ⟨hc6, hVW, hnd, hap, hr0, hr1, hr2, hr3, hr4, hr5⟩ := id hV
  have hc := ew_c_83
  show ew_X 83 0 [(2, 5), (1, y), (5, 0), (5, 0), (5, 0)] [] n M _
  refine xr_go hc rfl rfl ?_
  refine xr_go hc rfl rfl ?_
  refine xr_gf2 (A := 5) (w := 7) rfl hc rfl (ew_own_p hn rfl) (ew_pm hp rfl) ?_
  refine xr_go hc rfl rfl ?_
  refine xr_iald (A := 7) (N := 6) rfl rfl hc rfl (ew_ok_p hn rfl) (by decide) (by decide) (v3 5 (by decide)) ?_
  refine xr_i2l hc rfl (by omega) ?_
  refine xr_go hc rfl rfl ?_
  refine xr_go hc rfl rfl ?_
  refine xr_go hc rfl rfl ?_
  refine xr_go hc rfl rfl ?_
  refine xr_gf2 (A := 5) (w := 7) rfl hc rfl (ew_own_p hn rfl) (ew_pm hp rfl) ?_
  refine xr_go hc rfl rfl ?_
  refine xr_iald (A := 7) (N := 6) rfl rfl hc rfl (ew_ok_p hn rfl) (by decide) (by decide) (v3 5 (by decide)) ?_
  refine xr_i2l hc rfl (by omega) ?_
  refine xr_s_2 hc rfl rfl (c_cutDown (by omega) (by omega)) ?_
  refine xr_s2_3 hc rfl rfl rfl ?_
  refine xr_go hc rfl rfl ?_
  refine xr_go hc rfl rfl ?_
  refine xr_go hc rfl rfl ?_
  refine xr_go hc rfl rfl ?_
  refine xr_go hc rfl rfl ?_
  refine xr_ret hc rfl rfl ?_
  exact ⟨rfl, rfl, rfl⟩

set_option maxRecDepth 20000 in
theorem c_driftOf {V : ew_Mem} {n : Nat} {M : ew_Mem} (hC : s_C V n M) (h0 : 0 < V 6 0) {k x : Int} (hk : 1 ≤ k ∧ k ≤ 2000) (hx : x = 0 ∨ x = 1) : ew_FM 79 [(2, 5), (0, k), (0, x)] n M (0, s_drift V k x) n M := by
  obtain ⟨hn, hp, hV, v0, v1, v2, v3, v4⟩ := id hC
  obtain ⟨hc6, hVW, hnd, hap, hr0, hr1, hr2, hr3, hr4, hr5⟩ := id hV
  have hc := ew_c_79
  have hnd0 : 0 ≤ V 6 1 ∧ V 6 1 < V 6 0 := by omega
  have hwf := v4 (V 6 1).toNat (by omega)
  have hw59 := hwf.1
  simp only [ew_own, Bool.and_eq_true, decide_eq_true_eq] at hw59
  have hWO := hVW (V 6 1).toNat (by omega)
  obtain ⟨k0, k1, k2, k3, k4⟩ := id hWO
  have hat := s_at_bd hV k (w := (V 6 1).toNat) (by omega)
  have hat0 := s_at_bd hV 0 (w := (V 6 1).toNat) (by omega)
  show ew_X 79 0 [(2, 5), (0, k), (0, x), (5, 0), (5, 0)] [] n M _
  refine xr_go hc rfl rfl ?_
  refine xr_go hc rfl rfl ?_
  refine xr_gf0 (A := 5) rfl hc rfl (ew_own_p hn rfl) v1 ?_
  refine xr_v_2 hc rfl rfl (ew_own_p hn rfl) (c_numbered hC hnd0) ?_
  refine xr_s1_3 hc rfl rfl rfl ?_
  refine xr_go hc rfl rfl ?_
  refine xr_nonnull hc rfl (fun c1 => ?_) (fun c1 => by exfalso; omega)
  refine xr_go hc rfl rfl ?_
  refine xr_go hc rfl rfl ?_
  refine xr_gf0 (A := 5) rfl hc rfl (ew_own_p hn rfl) v1 ?_
  refine xr_go hc rfl rfl ?_
  refine xr_v_3 hc rfl rfl (ew_own_p hn rfl) (c_placeAt hC hnd0 (by omega)) ?_
  refine xr_go hc rfl rfl ?_
  refine xr_if_ne hc rfl (by omega) (fun c2 => ?_) (fun c2 => ?_)
  · skip
    refine xr_go hc rfl rfl ?_
    refine xr_gf0 rfl hc rfl hwf.1 hwf.2.2.1 ?_
    refine xr_go hc rfl rfl ?_
    refine xr_idiv hc rfl (by omega) (by omega) ?_
    refine xr_go hc rfl rfl ?_
    refine xr_s1_4 hc rfl rfl rfl ?_
    refine xr_go hc rfl rfl ?_
    refine xr_go hc rfl rfl ?_
    refine xr_go hc rfl rfl ?_
    refine xr_gf0 (A := 5) rfl hc rfl (ew_own_p hn rfl) v1 ?_
    refine xr_go hc rfl rfl ?_
    refine xr_v_3 hc rfl rfl (ew_own_p hn rfl) (c_placeAt hC hnd0 (by omega)) ?_
    refine xr_go hc rfl rfl ?_
    refine xr_v_3 hc rfl rfl hwf.1 (c_near hn hp hwf hWO (by omega) (by omega)) ?_
    refine xr_ret hc rfl rfl ?_
    refine ⟨?_, rfl, rfl⟩
    unfold s_drift
    first
      | rw [if_pos (by omega)]
      | rw [if_neg (by omega)]
  · skip
    refine xr_go hc rfl rfl ?_
    refine xr_go hc rfl rfl ?_
    refine xr_go hc rfl rfl ?_
    refine xr_s1_4 hc rfl rfl rfl ?_
    refine xr_go hc rfl rfl ?_
    refine xr_go hc rfl rfl ?_
    refine xr_go hc rfl rfl ?_
    refine xr_gf0 (A := 5) rfl hc rfl (ew_own_p hn rfl) v1 ?_
    refine xr_go hc rfl rfl ?_
    refine xr_v_3 hc rfl rfl (ew_own_p hn rfl) (c_placeAt hC hnd0 (by omega)) ?_
    refine xr_go hc rfl rfl ?_
    refine xr_v_3 hc rfl rfl hwf.1 (c_near hn hp hwf hWO (by omega) (by omega)) ?_
    refine xr_ret hc rfl rfl ?_
    refine ⟨?_, rfl, rfl⟩
    unfold s_drift
    first
      | rw [if_pos (by omega)]
      | rw [if_neg (by omega)]

set_option maxRecDepth 20000 in
theorem c_rel_1 {V : ew_Mem} {n : Nat} {M : ew_Mem} (hC : s_C V n M) (h0 : 0 < V 6 0) {m k : Int} (hm : -100000 ≤ m ∧ m ≤ 100000) (hk : -2000 ≤ k ∧ k ≤ 2000) : ∀ (j : Nat) (c : Int) (q : ew_AV), 0 ≤ c → c + (j : Int) = 500 → s_rel V m k j c = s_rel V m k 500 0 →
    ew_X 78 12 [(2, 5), (0, m), (0, k), (0, s_side V m), (0, c), (0, c + 1), q] [] n M (fun r a b => r = some (0, s_rel V m k 500 0) ∧ a = n ∧ b = M) := by
  obtain ⟨hn, hp, hV, v0, v1, v2, v3, v4⟩ := id hC
  obtain ⟨hc6, hVW, hnd, hap, hr0, hr1, hr2, hr3, hr4, hr5⟩ := id hV
  have hc := ew_c_78
  intro j
  induction j with
  | zero =>
    intro c q hc0 hj hs
    refine xr_go hc rfl rfl ?_
    refine xr_go hc rfl rfl ?_
    refine xr_icmp_gt hc rfl (by omega) (by decide) (fun c1 => ?_) (fun c1 => ?_)
    · skip
      refine xr_go hc rfl rfl ?_
      refine xr_ret hc rfl rfl ?_
      exact ⟨by rw [← hs]; rfl, rfl, rfl⟩
    · exfalso; omega
  | succ j ih =>
    intro c q hc0 hj hs
    have hmk := s_mul_bd (a := c + 1) (b := k) (A := 500) (B := 2000) (by omega) hk
    refine xr_go hc rfl rfl ?_
    refine xr_go hc rfl rfl ?_
    refine xr_icmp_gt hc rfl (by omega) (by decide) (fun c1 => ?_) (fun c1 => ?_)
    · exfalso; omega
    · skip
      refine xr_go hc rfl rfl ?_
      refine xr_go hc rfl rfl ?_
      refine xr_go hc rfl rfl ?_
      refine xr_go hc rfl rfl ?_
      refine xr_go hc rfl rfl ?_
      refine xr_s1_6 hc rfl rfl rfl ?_
      refine xr_go hc rfl rfl ?_
      refine xr_n_1 hc rfl rfl (c_isMonth (by omega)) ?_
      refine xr_if_eq hc rfl (by omega) (fun c2 => ?_) (fun c2 => ?_)
      · skip
        refine xr_go hc rfl rfl ?_
        refine xr_ret hc rfl rfl ?_
        exact ⟨by rw [← hs, s_rel, if_neg (by omega)], rfl, rfl⟩
      · skip
        refine xr_go hc rfl rfl ?_
        refine xr_go hc rfl rfl ?_
        refine xr_v_2 hc rfl rfl (ew_own_p hn rfl) (c_eclipseAt hC (by omega)) ?_
        have he := s_ecl_bd V (m + (c + 1) * k)
        refine xr_if_eq hc rfl (by omega) (fun c3 => ?_) (fun c3 => ?_)
        · skip
          refine xr_go hc rfl rfl ?_
          refine xr_ret hc rfl rfl ?_
          exact ⟨by rw [← hs, s_rel, if_neg (by omega)], rfl, rfl⟩
        · skip
          refine xr_go hc rfl rfl ?_
          refine xr_go hc rfl rfl ?_
          refine xr_v_2 hc rfl rfl (ew_own_p hn rfl) (c_sideAt hC h0 (by omega)) ?_
          refine xr_go hc rfl rfl ?_
          have hs1 := s_side_bd V (m + (c + 1) * k)
          have hs2 := s_side_bd V m
          refine xr_icmp_eq hc rfl (by omega) (by omega) (fun c4 => ?_) (fun c4 => ?_)
          · skip
            refine xr_go hc rfl rfl ?_
            refine xr_s1_4 hc rfl rfl rfl ?_
            refine xr_inc_5 hc rfl ?_
            refine xr_go hc rfl rfl ?_
            exact ih (c + 1) _ (by omega) (by omega) (by rw [← hs, s_rel, if_pos (by omega)])
          · skip
            refine xr_go hc rfl rfl ?_
            refine xr_ret hc rfl rfl ?_
            exact ⟨by rw [← hs, s_rel, if_neg (by omega)], rfl, rfl⟩

set_option maxRecDepth 20000 in
theorem c_relatives {V : ew_Mem} {n : Nat} {M : ew_Mem} (hC : s_C V n M) (h0 : 0 < V 6 0) {m k : Int} (hm : -100000 ≤ m ∧ m ≤ 100000) (hk : -2000 ≤ k ∧ k ≤ 2000) : ew_FM 78 [(2, 5), (0, m), (0, k)] n M (0, s_rel V m k 500 0) n M := by
  obtain ⟨hn, hp, hV, v0, v1, v2, v3, v4⟩ := id hC
  obtain ⟨hc6, hVW, hnd, hap, hr0, hr1, hr2, hr3, hr4, hr5⟩ := id hV
  have hc := ew_c_78
  show ew_X 78 0 [(2, 5), (0, m), (0, k), (5, 0), (5, 0), (5, 0), (5, 0)] [] n M _
  refine xr_go hc rfl rfl ?_
  refine xr_go hc rfl rfl ?_
  refine xr_v_2 hc rfl rfl (ew_own_p hn rfl) (c_sideAt hC h0 hm) ?_
  refine xr_s1_3 hc rfl rfl rfl ?_
  refine xr_go hc rfl rfl ?_
  refine xr_s1_4 hc rfl rfl rfl ?_
  refine xr_go hc rfl rfl ?_
  refine xr_s1_5 hc rfl rfl rfl ?_
  exact c_rel_1 hC h0 hm hk 500 0 _ (by decide) (by decide) rfl

