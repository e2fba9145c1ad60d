/-! most -/
theorem s_mo_s (V : ew_Mem) (f : Nat → Int) (i : Nat) : s_mo V f (i + 1) = if s_sz V (f (s_mo V f i)) < s_sz V (f (i + 1)) then i + 1 else s_mo V f i := by rw [s_mo]
set_option maxRecDepth 20000 in
theorem cx_mo_1 {V : ew_Mem} {n : Nat} {M : ew_Mem} (hC : s_C V n M) {k a b c d : Int} (hok : s_okM k a b c d) : ∀ (j i : Nat) (q9 q10 : ew_AV), (i : Int) + 1 + (j : Int) = k → ew_X 119 90 [(2, 4), (0, k), (0, a), (0, b), (0, c), (0, d), (0, s_f4 a b c d (s_mo V (s_f4 a b c d) i)), (3, s_sz V (s_f4 a b c d (s_mo V (s_f4 a b c d) i))), (0, ((i + 1 : Nat) : Int)), q9, q10] [] n M (fun r x y => r = some (0, s_f4 a b c d (s_mo V (s_f4 a b c d) (k - 1).toNat) + 100000) ∧ x = n ∧ y = M) := by
  obtain ⟨hn, hp, hV, v0, v1, v2, v3, v4⟩ := id hC
  obtain ⟨hc6, hVW, hnd, hap, hr0, hr1, hr2, hr3, hr4, hr5⟩ := id hV
  have hk := hok.1
  intro j
  induction j with
  | zero =>
    intro i q9 q10 hj
    have hc := ew_c_119
    refine xr_go hc rfl rfl ?_
    refine xr_go hc rfl rfl ?_
    refine xr_icmp_ge hc rfl (by omega) (by omega) (fun c1 => ?_) (fun c1 => ?_)
    · skip
      refine xr_go hc rfl rfl ?_
      refine xr_go hc rfl rfl ?_
      refine xr_go hc rfl rfl ?_
      refine xr_ret hc rfl rfl ?_
      refine ⟨?_, rfl, rfl⟩
      rw [show (k - 1).toNat = i by omega]
    · exfalso; omega
  | succ j ih =>
    intro i q9 q10 hj
    have hc := ew_c_119
    rcases (show i = 0 ∨ i = 1 ∨ i = 2 by omega) with rfl | rfl | rfl
    · skip
      refine xr_go hc rfl rfl ?_
      refine xr_go hc rfl rfl ?_
      refine xr_icmp_ge hc rfl (by omega) (by omega) (fun c1 => ?_) (fun c1 => ?_)
      · exfalso; omega
      · skip
        refine xr_go hc rfl rfl ?_
        refine xr_go hc rfl rfl ?_
        refine xr_icmp_ne hc rfl (by omega) (by omega) (fun c2 => ?_) (fun c2 => ?_)
        · exfalso; omega
        · skip
          refine xr_go hc rfl rfl ?_
          refine xr_go hc rfl rfl ?_
          refine xr_s1_9 hc rfl rfl rfl ?_
          refine xr_go hc rfl rfl ?_
          refine xr_gf2 (A := 4) (w := 5) rfl hc rfl (ew_own_p hn rfl) (ew_pm hp rfl) ?_
          refine xr_go hc rfl rfl ?_
          refine xr_v_2 hc rfl rfl (ew_own_p hn rfl) (c_sizeAt hC (s_f4_M hok (i := 1) (by omega))) ?_
          refine xr_s1_10 hc rfl rfl rfl ?_
          refine xr_go hc rfl rfl ?_
          refine xr_go hc rfl rfl ?_
          refine xr_f_le hc rfl rfl (s_sz_fw hV _) (s_sz_fw hV _) (fun c3 => ?_) (fun c3 => ?_)
          · skip
            refine xr_inc_8 hc rfl ?_
            refine xr_go hc rfl rfl ?_
            rw [s_n1]
            by_cases hg : s_sz V (s_f4 a b c d (s_mo V (s_f4 a b c d) 0)) < s_sz V (s_f4 a b c d (0 + 1))
            · have e : s_mo V (s_f4 a b c d) (0 + 1) = 0 + 1 := by rw [s_mo_s, if_pos hg]
              have hh := ih (0 + 1) (0, b) (3, s_sz V b) (by omega)
              rw [e] at hh
              first
                | exact hh
                | (exfalso
                   have hg2 : s_sz V (s_f4 a b c d (s_mo V (s_f4 a b c d) 0)) < s_sz V b := hg
                   omega)
            · have e : s_mo V (s_f4 a b c d) (0 + 1) = s_mo V (s_f4 a b c d) 0 := by rw [s_mo_s, if_neg hg]
              have hh := ih (0 + 1) (0, b) (3, s_sz V b) (by omega)
              rw [e] at hh
              first
                | exact hh
                | (exfalso
                   have hg2 : ¬ s_sz V (s_f4 a b c d (s_mo V (s_f4 a b c d) 0)) < s_sz V b := hg
                   omega)
          · skip
            refine xr_go hc rfl rfl ?_
            refine xr_s1_6 hc rfl rfl rfl ?_
            refine xr_go hc rfl rfl ?_
            refine xr_s1_7 hc rfl rfl rfl ?_
            refine xr_inc_8 hc rfl ?_
            refine xr_go hc rfl rfl ?_
            rw [s_n1]
            by_cases hg : s_sz V (s_f4 a b c d (s_mo V (s_f4 a b c d) 0)) < s_sz V (s_f4 a b c d (0 + 1))
            · have e : s_mo V (s_f4 a b c d) (0 + 1) = 0 + 1 := by rw [s_mo_s, if_pos hg]
              have hh := ih (0 + 1) (0, b) (3, s_sz V b) (by omega)
              rw [e] at hh
              first
                | exact hh
                | (exfalso
                   have hg2 : s_sz V (s_f4 a b c d (s_mo V (s_f4 a b c d) 0)) < s_sz V b := hg
                   omega)
            · have e : s_mo V (s_f4 a b c d) (0 + 1) = s_mo V (s_f4 a b c d) 0 := by rw [s_mo_s, if_neg hg]
              have hh := ih (0 + 1) (0, b) (3, s_sz V b) (by omega)
              rw [e] at hh
              first
                | exact hh
                | (exfalso
                   have hg2 : ¬ s_sz V (s_f4 a b c d (s_mo V (s_f4 a b c d) 0)) < s_sz V b := hg
                   omega)
    · skip
      refine xr_go hc rfl rfl ?_
      refine xr_go hc rfl rfl ?_
      refine xr_icmp_ge hc rfl (by omega) (by omega) (fun c1 => ?_) (fun c1 => ?_)
      · exfalso; omega
      · skip
        refine xr_go hc rfl rfl ?_
        refine xr_go hc rfl rfl ?_
        refine xr_icmp_ne hc rfl (by omega) (by omega) (fun c2 => ?_) (fun c2 => ?_)
        · skip
          refine xr_go hc rfl rfl ?_
          refine xr_go hc rfl rfl ?_
          refine xr_icmp_ne hc rfl (by omega) (by omega) (fun c3 => ?_) (fun c3 => ?_)
          · exfalso; omega
          · skip
            refine xr_go hc rfl rfl ?_
            refine xr_go hc rfl rfl ?_
            refine xr_s1_9 hc rfl rfl rfl ?_
            refine xr_go hc rfl rfl ?_
            refine xr_gf2 (A := 4) (w := 5) rfl hc rfl (ew_own_p hn rfl) (ew_pm hp rfl) ?_
            refine xr_go hc rfl rfl ?_
            refine xr_v_2 hc rfl rfl (ew_own_p hn rfl) (c_sizeAt hC (s_f4_M hok (i := 2) (by omega))) ?_
            refine xr_s1_10 hc rfl rfl rfl ?_
            refine xr_go hc rfl rfl ?_
            refine xr_go hc rfl rfl ?_
            refine xr_f_le hc rfl rfl (s_sz_fw hV _) (s_sz_fw hV _) (fun c4 => ?_) (fun c4 => ?_)
            · skip
              refine xr_inc_8 hc rfl ?_
              refine xr_go hc rfl rfl ?_
              rw [s_n1]
              by_cases hg : s_sz V (s_f4 a b c d (s_mo V (s_f4 a b c d) 1)) < s_sz V (s_f4 a b c d (1 + 1))
              · have e : s_mo V (s_f4 a b c d) (1 + 1) = 1 + 1 := by rw [s_mo_s, if_pos hg]
                have hh := ih (1 + 1) (0, c) (3, s_sz V c) (by omega)
                rw [e] at hh
                first
                  | exact hh
                  | (exfalso
                     have hg2 : s_sz V (s_f4 a b c d (s_mo V (s_f4 a b c d) 1)) < s_sz V c := hg
                     omega)
              · have e : s_mo V (s_f4 a b c d) (1 + 1) = s_mo V (s_f4 a b c d) 1 := by rw [s_mo_s, if_neg hg]
                have hh := ih (1 + 1) (0, c) (3, s_sz V c) (by omega)
                rw [e] at hh
                first
                  | exact hh
                  | (exfalso
                     have hg2 : ¬ s_sz V (s_f4 a b c d (s_mo V (s_f4 a b c d) 1)) < s_sz V c := hg
                     omega)
            · skip
              refine xr_go hc rfl rfl ?_
              refine xr_s1_6 hc rfl rfl rfl ?_
              refine xr_go hc rfl rfl ?_
              refine xr_s1_7 hc rfl rfl rfl ?_
              refine xr_inc_8 hc rfl ?_
              refine xr_go hc rfl rfl ?_
              rw [s_n1]
              by_cases hg : s_sz V (s_f4 a b c d (s_mo V (s_f4 a b c d) 1)) < s_sz V (s_f4 a b c d (1 + 1))
              · have e : s_mo V (s_f4 a b c d) (1 + 1) = 1 + 1 := by rw [s_mo_s, if_pos hg]
                have hh := ih (1 + 1) (0, c) (3, s_sz V c) (by omega)
                rw [e] at hh
                first
                  | exact hh
                  | (exfalso
                     have hg2 : s_sz V (s_f4 a b c d (s_mo V (s_f4 a b c d) 1)) < s_sz V c := hg
                     omega)
              · have e : s_mo V (s_f4 a b c d) (1 + 1) = s_mo V (s_f4 a b c d) 1 := by rw [s_mo_s, if_neg hg]
                have hh := ih (1 + 1) (0, c) (3, s_sz V c) (by omega)
                rw [e] at hh
                first
                  | exact hh
                  | (exfalso
                     have hg2 : ¬ s_sz V (s_f4 a b c d (s_mo V (s_f4 a b c d) 1)) < s_sz V c := hg
                     omega)
        · exfalso; omega
    · skip
      refine xr_go hc rfl rfl ?_
      refine xr_go hc rfl rfl ?_
      refine xr_icmp_ge hc rfl (by omega) (by omega) (fun c1 => ?_) (fun c1 => ?_)
      · exfalso; omega
      · skip
        refine xr_go hc rfl rfl ?_
        refine xr_go hc rfl rfl ?_
        refine xr_icmp_ne hc rfl (by omega) (by omega) (fun c2 => ?_) (fun c2 => ?_)
        · skip
          refine xr_go hc rfl rfl ?_
          refine xr_go hc rfl rfl ?_
          refine xr_icmp_ne hc rfl (by omega) (by omega) (fun c3 => ?_) (fun c3 => ?_)
          · skip
            refine xr_go hc rfl rfl ?_
            refine xr_s1_9 hc rfl rfl rfl ?_
            refine xr_go hc rfl rfl ?_
            refine xr_gf2 (A := 4) (w := 5) rfl hc rfl (ew_own_p hn rfl) (ew_pm hp rfl) ?_
            refine xr_go hc rfl rfl ?_
            refine xr_v_2 hc rfl rfl (ew_own_p hn rfl) (c_sizeAt hC (s_f4_M hok (i := 3) (by omega))) ?_
            refine xr_s1_10 hc rfl rfl rfl ?_
            refine xr_go hc rfl rfl ?_
            refine xr_go hc rfl rfl ?_
            refine xr_f_le hc rfl rfl (s_sz_fw hV _) (s_sz_fw hV _) (fun c4 => ?_) (fun c4 => ?_)
            · skip
              refine xr_inc_8 hc rfl ?_
              refine xr_go hc rfl rfl ?_
              rw [s_n1]
              by_cases hg : s_sz V (s_f4 a b c d (s_mo V (s_f4 a b c d) 2)) < s_sz V (s_f4 a b c d (2 + 1))
              · have e : s_mo V (s_f4 a b c d) (2 + 1) = 2 + 1 := by rw [s_mo_s, if_pos hg]
                have hh := ih (2 + 1) (0, d) (3, s_sz V d) (by omega)
                rw [e] at hh
                first
                  | exact hh
                  | (exfalso
                     have hg2 : s_sz V (s_f4 a b c d (s_mo V (s_f4 a b c d) 2)) < s_sz V d := hg
                     omega)
              · have e : s_mo V (s_f4 a b c d) (2 + 1) = s_mo V (s_f4 a b c d) 2 := by rw [s_mo_s, if_neg hg]
                have hh := ih (2 + 1) (0, d) (3, s_sz V d) (by omega)
                rw [e] at hh
                first
                  | exact hh
                  | (exfalso
                     have hg2 : ¬ s_sz V (s_f4 a b c d (s_mo V (s_f4 a b c d) 2)) < s_sz V d := hg
                     omega)
            · skip
              refine xr_go hc rfl rfl ?_
              refine xr_s1_6 hc rfl rfl rfl ?_
              refine xr_go hc rfl rfl ?_
              refine xr_s1_7 hc rfl rfl rfl ?_
              refine xr_inc_8 hc rfl ?_
              refine xr_go hc rfl rfl ?_
              rw [s_n1]
              by_cases hg : s_sz V (s_f4 a b c d (s_mo V (s_f4 a b c d) 2)) < s_sz V (s_f4 a b c d (2 + 1))
              · have e : s_mo V (s_f4 a b c d) (2 + 1) = 2 + 1 := by rw [s_mo_s, if_pos hg]
                have hh := ih (2 + 1) (0, d) (3, s_sz V d) (by omega)
                rw [e] at hh
                first
                  | exact hh
                  | (exfalso
                     have hg2 : s_sz V (s_f4 a b c d (s_mo V (s_f4 a b c d) 2)) < s_sz V d := hg
                     omega)
              · have e : s_mo V (s_f4 a b c d) (2 + 1) = s_mo V (s_f4 a b c d) 2 := by rw [s_mo_s, if_neg hg]
                have hh := ih (2 + 1) (0, d) (3, s_sz V d) (by omega)
                rw [e] at hh
                first
                  | exact hh
                  | (exfalso
                     have hg2 : ¬ s_sz V (s_f4 a b c d (s_mo V (s_f4 a b c d) 2)) < s_sz V d := hg
                     omega)
          · exfalso; omega
        · exfalso; omega

set_option maxRecDepth 20000 in
theorem cx_mo_61 {V : ew_Mem} {n : Nat} {M : ew_Mem} (hC : s_C V n M) {k a b c d : Int} (hok : s_okM k a b c d) : ew_X 119 61 [(2, 4), (0, k), (0, a), (0, b), (0, c), (0, d), (5, 0), (5, 0), (5, 0), (5, 0), (5, 0)] [] n M (fun r x y => r = some (0, s_a_most V k a b c d) ∧ x = n ∧ y = M) := by
  obtain ⟨hn, hp, hV, v0, v1, v2, v3, v4⟩ := id hC
  obtain ⟨hc6, hVW, hnd, hap, hr0, hr1, hr2, hr3, hr4, hr5⟩ := id hV
  have hk := hok.1
  have hc := ew_c_119
  refine xr_go hc rfl rfl ?_
  refine xr_gf2 (A := 4) (w := 5) rfl hc rfl (ew_own_p hn rfl) (ew_pm hp rfl) ?_
  refine xr_gf0 (A := 5) rfl hc rfl (ew_own_p hn rfl) v0 ?_
  refine xr_if_ne hc rfl (by omega) (fun c1 => ?_) (fun c1 => ?_)
  · skip
    refine xr_go hc rfl rfl ?_
    refine xr_s1_6 hc rfl rfl rfl ?_
    refine xr_go hc rfl rfl ?_
    refine xr_gf2 (A := 4) (w := 5) rfl hc rfl (ew_own_p hn rfl) (ew_pm hp rfl) ?_
    refine xr_go hc rfl rfl ?_
    refine xr_v_2 hc rfl rfl (ew_own_p hn rfl) (c_sizeAt hC hok.2.1) ?_
    refine xr_s1_7 hc rfl rfl rfl ?_
    refine xr_go hc rfl rfl ?_
    refine xr_s1_8 hc rfl rfl rfl ?_
    refine ew_X.mono (cx_mo_1 hC hok (k - 1).toNat 0 (5, 0) (5, 0) (by omega)) ?_
    rintro r x y ⟨rfl, rfl, rfl⟩
    refine ⟨?_, rfl, rfl⟩
    unfold s_a_most
    rw [if_pos hok, if_neg (by omega)]
  · skip
    refine xr_go hc rfl rfl ?_
    refine xr_ret hc rfl rfl ?_
    refine ⟨?_, rfl, rfl⟩
    unfold s_a_most
    rw [if_pos hok, if_pos (by omega)]

set_option maxRecDepth 20000 in
theorem cx_most {V : ew_Mem} {n : Nat} {M : ew_Mem} (hC : s_C V n M) {k a b c d : Int} (hk : ew_in k) (ha : ew_in a) (hb : ew_in b) (hc_ : ew_in c) (hd : ew_in d) : ew_FM 119 [(2, 4), (0, k), (0, a), (0, b), (0, c), (0, d)] n M (0, s_a_most V k a b c d) n M := by
  obtain ⟨hn, hp, hV, v0, v1, v2, v3, v4⟩ := id hC
  obtain ⟨hc6, hVW, hnd, hap, hr0, hr1, hr2, hr3, hr4, hr5⟩ := id hV
  have hc := ew_c_119
  show ew_X 119 0 [(2, 4), (0, k), (0, a), (0, b), (0, c), (0, d), (5, 0), (5, 0), (5, 0), (5, 0), (5, 0)] [] n M _
  refine xr_go hc rfl rfl ?_
  refine xr_go hc rfl rfl ?_
  refine xr_icmp_lt hc rfl (by omega) (by decide) (fun c1 => ?_) (fun c1 => ?_)
  · skip
    refine xr_go hc rfl rfl ?_
    refine xr_ret hc rfl rfl ?_
    refine ⟨?_, rfl, rfl⟩
    unfold s_a_most
    rw [if_neg (show ¬ ((1 ≤ k ∧ k ≤ 4) ∧ (-100000 ≤ a ∧ a ≤ 100000) ∧ (1 < k → -100000 ≤ b ∧ b ≤ 100000) ∧ (2 < k → -100000 ≤ c ∧ c ≤ 100000) ∧ (3 < k → -100000 ≤ d ∧ d ≤ 100000)) by omega)]
  · skip
    refine xr_go hc rfl rfl ?_
    refine xr_go hc rfl rfl ?_
    refine xr_icmp_gt hc rfl (by omega) (by decide) (fun c2 => ?_) (fun c2 => ?_)
    · skip
      refine xr_go hc rfl rfl ?_
      refine xr_ret hc rfl rfl ?_
      refine ⟨?_, rfl, rfl⟩
      unfold s_a_most
      rw [if_neg (show ¬ ((1 ≤ k ∧ k ≤ 4) ∧ (-100000 ≤ a ∧ a ≤ 100000) ∧ (1 < k → -100000 ≤ b ∧ b ≤ 100000) ∧ (2 < k → -100000 ≤ c ∧ c ≤ 100000) ∧ (3 < k → -100000 ≤ d ∧ d ≤ 100000)) by omega)]
    · skip
      refine xr_go hc rfl rfl ?_
      refine xr_s_1 hc rfl rfl (c_isMonth ha) ?_
      refine xr_if_ne hc rfl (by split <;> omega) (fun c3 => ?_) (fun c3 => ?_)
      · skip
        refine xr_go hc rfl rfl ?_
        refine xr_go hc rfl rfl ?_
        refine xr_icmp_le hc rfl (by omega) (by decide) (fun c4 => ?_) (fun c4 => ?_)
        · skip
          refine xr_go hc rfl rfl ?_
          refine xr_go hc rfl rfl ?_
          refine xr_icmp_le hc rfl (by omega) (by decide) (fun c5 => ?_) (fun c5 => ?_)
          · skip
            refine xr_go hc rfl rfl ?_
            refine xr_go hc rfl rfl ?_
            refine xr_icmp_le hc rfl (by omega) (by decide) (fun c6 => ?_) (fun c6 => ?_)
            · skip
              exact cx_mo_61 hC (show (1 ≤ k ∧ k ≤ 4) ∧ (-100000 ≤ a ∧ a ≤ 100000) ∧ (1 < k → -100000 ≤ b ∧ b ≤ 100000) ∧ (2 < k → -100000 ≤ c ∧ c ≤ 100000) ∧ (3 < k → -100000 ≤ d ∧ d ≤ 100000) by omega)
            · skip
              refine xr_go hc rfl rfl ?_
              refine xr_s_1 hc rfl rfl (c_isMonth hd) ?_
              refine xr_if_ne hc rfl (by split <;> omega) (fun c7 => ?_) (fun c7 => ?_)
              · skip
                exact cx_mo_61 hC (show (1 ≤ k ∧ k ≤ 4) ∧ (-100000 ≤ a ∧ a ≤ 100000) ∧ (1 < k → -100000 ≤ b ∧ b ≤ 100000) ∧ (2 < k → -100000 ≤ c ∧ c ≤ 100000) ∧ (3 < k → -100000 ≤ d ∧ d ≤ 100000) by omega)
              · skip
                refine xr_go hc rfl rfl ?_
                refine xr_ret hc rfl rfl ?_
                refine ⟨?_, rfl, rfl⟩
                unfold s_a_most
                rw [if_neg (show ¬ ((1 ≤ k ∧ k ≤ 4) ∧ (-100000 ≤ a ∧ a ≤ 100000) ∧ (1 < k → -100000 ≤ b ∧ b ≤ 100000) ∧ (2 < k → -100000 ≤ c ∧ c ≤ 100000) ∧ (3 < k → -100000 ≤ d ∧ d ≤ 100000)) by omega)]
          · skip
            refine xr_go hc rfl rfl ?_
            refine xr_s_1 hc rfl rfl (c_isMonth hc_) ?_
            refine xr_if_eq hc rfl (by split <;> omega) (fun c8 => ?_) (fun c8 => ?_)
            · skip
              refine xr_go hc rfl rfl ?_
              refine xr_ret hc rfl rfl ?_
              refine ⟨?_, rfl, rfl⟩
              unfold s_a_most
              rw [if_neg (show ¬ ((1 ≤ k ∧ k ≤ 4) ∧ (-100000 ≤ a ∧ a ≤ 100000) ∧ (1 < k → -100000 ≤ b ∧ b ≤ 100000) ∧ (2 < k → -100000 ≤ c ∧ c ≤ 100000) ∧ (3 < k → -100000 ≤ d ∧ d ≤ 100000)) by omega)]
            · skip
              refine xr_go hc rfl rfl ?_
              refine xr_go hc rfl rfl ?_
              refine xr_icmp_le hc rfl (by omega) (by decide) (fun c9 => ?_) (fun c9 => ?_)
              · skip
                exact cx_mo_61 hC (show (1 ≤ k ∧ k ≤ 4) ∧ (-100000 ≤ a ∧ a ≤ 100000) ∧ (1 < k → -100000 ≤ b ∧ b ≤ 100000) ∧ (2 < k → -100000 ≤ c ∧ c ≤ 100000) ∧ (3 < k → -100000 ≤ d ∧ d ≤ 100000) by omega)
              · skip
                refine xr_go hc rfl rfl ?_
                refine xr_s_1 hc rfl rfl (c_isMonth hd) ?_
                refine xr_if_ne hc rfl (by split <;> omega) (fun c10 => ?_) (fun c10 => ?_)
                · skip
                  exact cx_mo_61 hC (show (1 ≤ k ∧ k ≤ 4) ∧ (-100000 ≤ a ∧ a ≤ 100000) ∧ (1 < k → -100000 ≤ b ∧ b ≤ 100000) ∧ (2 < k → -100000 ≤ c ∧ c ≤ 100000) ∧ (3 < k → -100000 ≤ d ∧ d ≤ 100000) by omega)
                · skip
                  refine xr_go hc rfl rfl ?_
                  refine xr_ret hc rfl rfl ?_
                  refine ⟨?_, rfl, rfl⟩
                  unfold s_a_most
                  rw [if_neg (show ¬ ((1 ≤ k ∧ k ≤ 4) ∧ (-100000 ≤ a ∧ a ≤ 100000) ∧ (1 < k → -100000 ≤ b ∧ b ≤ 100000) ∧ (2 < k → -100000 ≤ c ∧ c ≤ 100000) ∧ (3 < k → -100000 ≤ d ∧ d ≤ 100000)) by omega)]
        · skip
          refine xr_go hc rfl rfl ?_
          refine xr_s_1 hc rfl rfl (c_isMonth hb) ?_
          refine xr_if_eq hc rfl (by split <;> omega) (fun c11 => ?_) (fun c11 => ?_)
          · skip
            refine xr_go hc rfl rfl ?_
            refine xr_ret hc rfl rfl ?_
            refine ⟨?_, rfl, rfl⟩
            unfold s_a_most
            rw [if_neg (show ¬ ((1 ≤ k ∧ k ≤ 4) ∧ (-100000 ≤ a ∧ a ≤ 100000) ∧ (1 < k → -100000 ≤ b ∧ b ≤ 100000) ∧ (2 < k → -100000 ≤ c ∧ c ≤ 100000) ∧ (3 < k → -100000 ≤ d ∧ d ≤ 100000)) by omega)]
          · skip
            refine xr_go hc rfl rfl ?_
            refine xr_go hc rfl rfl ?_
            refine xr_icmp_le hc rfl (by omega) (by decide) (fun c12 => ?_) (fun c12 => ?_)
            · skip
              refine xr_go hc rfl rfl ?_
              refine xr_go hc rfl rfl ?_
              refine xr_icmp_le hc rfl (by omega) (by decide) (fun c13 => ?_) (fun c13 => ?_)
              · skip
                exact cx_mo_61 hC (show (1 ≤ k ∧ k ≤ 4) ∧ (-100000 ≤ a ∧ a ≤ 100000) ∧ (1 < k → -100000 ≤ b ∧ b ≤ 100000) ∧ (2 < k → -100000 ≤ c ∧ c ≤ 100000) ∧ (3 < k → -100000 ≤ d ∧ d ≤ 100000) by omega)
              · skip
                refine xr_go hc rfl rfl ?_
                refine xr_s_1 hc rfl rfl (c_isMonth hd) ?_
                refine xr_if_ne hc rfl (by split <;> omega) (fun c14 => ?_) (fun c14 => ?_)
                · skip
                  exact cx_mo_61 hC (show (1 ≤ k ∧ k ≤ 4) ∧ (-100000 ≤ a ∧ a ≤ 100000) ∧ (1 < k → -100000 ≤ b ∧ b ≤ 100000) ∧ (2 < k → -100000 ≤ c ∧ c ≤ 100000) ∧ (3 < k → -100000 ≤ d ∧ d ≤ 100000) by omega)
                · skip
                  refine xr_go hc rfl rfl ?_
                  refine xr_ret hc rfl rfl ?_
                  refine ⟨?_, rfl, rfl⟩
                  unfold s_a_most
                  rw [if_neg (show ¬ ((1 ≤ k ∧ k ≤ 4) ∧ (-100000 ≤ a ∧ a ≤ 100000) ∧ (1 < k → -100000 ≤ b ∧ b ≤ 100000) ∧ (2 < k → -100000 ≤ c ∧ c ≤ 100000) ∧ (3 < k → -100000 ≤ d ∧ d ≤ 100000)) by omega)]
            · skip
              refine xr_go hc rfl rfl ?_
              refine xr_s_1 hc rfl rfl (c_isMonth hc_) ?_
              refine xr_if_eq hc rfl (by split <;> omega) (fun c15 => ?_) (fun c15 => ?_)
              · skip
                refine xr_go hc rfl rfl ?_
                refine xr_ret hc rfl rfl ?_
                refine ⟨?_, rfl, rfl⟩
                unfold s_a_most
                rw [if_neg (show ¬ ((1 ≤ k ∧ k ≤ 4) ∧ (-100000 ≤ a ∧ a ≤ 100000) ∧ (1 < k → -100000 ≤ b ∧ b ≤ 100000) ∧ (2 < k → -100000 ≤ c ∧ c ≤ 100000) ∧ (3 < k → -100000 ≤ d ∧ d ≤ 100000)) by omega)]
              · skip
                refine xr_go hc rfl rfl ?_
                refine xr_go hc rfl rfl ?_
                refine xr_icmp_le hc rfl (by omega) (by decide) (fun c16 => ?_) (fun c16 => ?_)
                · skip
                  exact cx_mo_61 hC (show (1 ≤ k ∧ k ≤ 4) ∧ (-100000 ≤ a ∧ a ≤ 100000) ∧ (1 < k → -100000 ≤ b ∧ b ≤ 100000) ∧ (2 < k → -100000 ≤ c ∧ c ≤ 100000) ∧ (3 < k → -100000 ≤ d ∧ d ≤ 100000) by omega)
                · skip
                  refine xr_go hc rfl rfl ?_
                  refine xr_s_1 hc rfl rfl (c_isMonth hd) ?_
                  refine xr_if_ne hc rfl (by split <;> omega) (fun c17 => ?_) (fun c17 => ?_)
                  · skip
                    exact cx_mo_61 hC (show (1 ≤ k ∧ k ≤ 4) ∧ (-100000 ≤ a ∧ a ≤ 100000) ∧ (1 < k → -100000 ≤ b ∧ b ≤ 100000) ∧ (2 < k → -100000 ≤ c ∧ c ≤ 100000) ∧ (3 < k → -100000 ≤ d ∧ d ≤ 100000) by omega)
                  · skip
                    refine xr_go hc rfl rfl ?_
                    refine xr_ret hc rfl rfl ?_
                    refine ⟨?_, rfl, rfl⟩
                    unfold s_a_most
                    rw [if_neg (show ¬ ((1 ≤ k ∧ k ≤ 4) ∧ (-100000 ≤ a ∧ a ≤ 100000) ∧ (1 < k → -100000 ≤ b ∧ b ≤ 100000) ∧ (2 < k → -100000 ≤ c ∧ c ≤ 100000) ∧ (3 < k → -100000 ≤ d ∧ d ≤ 100000)) by omega)]
      · skip
        refine xr_go hc rfl rfl ?_
        refine xr_ret hc rfl rfl ?_
        refine ⟨?_, rfl, rfl⟩
        unfold s_a_most
        rw [if_neg (show ¬ ((1 ≤ k ∧ k ≤ 4) ∧ (-100000 ≤ a ∧ a ≤ 100000) ∧ (1 < k → -100000 ≤ b ∧ b ≤ 100000) ∧ (2 < k → -100000 ≤ c ∧ c ≤ 100000) ∧ (3 < k → -100000 ≤ d ∧ d ≤ 100000)) by omega)]

def s_w4 (M : ew_Mem) (a b c d : Int) : ew_Mem := (ew_wr (ew_wr (ew_wr (ew_wr M 50 0 a) 50 1 b) 50 2 c) 50 3 d)
theorem s_w4_Fr {M : ew_Mem} {a b c d : Int} : s_Fr M (s_w4 M a b c d) := by
  intro x j hs
  have : ¬ x = 50 := fun e => by
    subst e
    unfold s_scr at hs
    simp at hs
  unfold s_w4
  rw [s_ne_rd this, s_ne_rd this, s_ne_rd this, s_ne_rd this]
theorem s_w4_rd {M : ew_Mem} {a b c d : Int} {i : Nat} (hi : i < 4) : s_w4 M a b c d 50 i = s_f4 a b c d i := by
  have : i = 0 ∨ i = 1 ∨ i = 2 ∨ i = 3 := by omega
  rcases this with rfl | rfl | rfl | rfl <;> rfl
set_option maxRecDepth 20000 in
theorem m_mo_1 {V : ew_Mem} {n : Nat} {M : ew_Mem} (hM : s_M V n M) {k a b c d : Int} (h4 : ∀ i : Nat, i < 4 → M 50 i = s_f4 a b c d i) (hok : s_okM k a b c d) {is : Int} : ∀ (j i : Nat), (i : Int) + 1 + (j : Int) = k → ew_X 200 97 [(2, 38), (0, k), (0, a), (0, b), (0, c), (0, d), (0, is), (0, ((s_mo V (s_f4 a b c d) i : Nat) : Int)), (0, ((i + 1 : Nat) : Int))] [] n M (fun r x y => r = some (0, s_f4 a b c d (s_mo V (s_f4 a b c d) (k - 1).toNat) + 100000) ∧ x = n ∧ y = M) := by
  obtain ⟨hn, hp, hV, u0, u1, u2, u3, u4⟩ := id hM
  obtain ⟨hc6, hVW, hnd, hap, hr0, hr1, hr2, hr3, hr4, hr5⟩ := id hV
  have hk := hok.1
  intro j
  induction j with
  | zero =>
    intro i hj
    have hmo := s_mo_le V (s_f4 a b c d) i
    have hc := ew_c_200
    refine xr_go hc rfl rfl ?_
    refine xr_go hc rfl rfl ?_
    refine xr_icmp_ge hc rfl (by omega) (by omega) (fun c1 => ?_) (fun c1 => ?_)
    · skip
      refine xr_go hc rfl rfl ?_
      refine xr_gf2 (A := 38) (w := 50) rfl hc rfl (ew_own_p hn rfl) (ew_pm hp rfl) ?_
      refine xr_go hc rfl rfl ?_
      refine xr_iald (A := 50) (N := 4) rfl rfl hc rfl (ew_ok_p hn rfl) (by omega) (by omega) (h4 (s_mo V (s_f4 a b c d) i) (by omega)) ?_
      refine xr_go hc rfl rfl ?_
      refine xr_go hc rfl rfl ?_
      refine xr_ret hc rfl rfl ?_
      refine ⟨?_, rfl, rfl⟩
      rw [show (k - 1).toNat = i by omega]
    · exfalso; omega
  | succ j ih =>
    intro i hj
    have hmo := s_mo_le V (s_f4 a b c d) i
    have hc := ew_c_200
    refine xr_go hc rfl rfl ?_
    refine xr_go hc rfl rfl ?_
    refine xr_icmp_ge hc rfl (by omega) (by omega) (fun c1 => ?_) (fun c1 => ?_)
    · exfalso; omega
    · skip
      refine xr_go hc rfl rfl ?_
      refine xr_go hc rfl rfl ?_
      refine xr_gf2 (A := 38) (w := 50) rfl hc rfl (ew_own_p hn rfl) (ew_pm hp rfl) ?_
      refine xr_go hc rfl rfl ?_
      refine xr_iald (A := 50) (N := 4) rfl rfl hc rfl (ew_ok_p hn rfl) (by omega) (by omega) (h4 (i + 1) (by omega)) ?_
      refine xr_v_2 hc rfl rfl (ew_own_p hn rfl) (m_sizeOf hM (s_f4_M hok (i := i + 1) (by omega))) ?_
      refine xr_go hc rfl rfl ?_
      refine xr_go hc rfl rfl ?_
      refine xr_gf2 (A := 38) (w := 50) rfl hc rfl (ew_own_p hn rfl) (ew_pm hp rfl) ?_
      refine xr_go hc rfl rfl ?_
      refine xr_iald (A := 50) (N := 4) rfl rfl hc rfl (ew_ok_p hn rfl) (by omega) (by omega) (h4 (s_mo V (s_f4 a b c d) i) (by omega)) ?_
      refine xr_v_2 hc rfl rfl (ew_own_p hn rfl) (m_sizeOf hM (s_f4_M hok (i := s_mo V (s_f4 a b c d) i) (by omega))) ?_
      refine xr_f_le hc rfl rfl (s_sz_fw hV _) (s_sz_fw hV _) (fun c2 => ?_) (fun c2 => ?_)
      · skip
        refine xr_go hc rfl rfl ?_
        refine xr_s1_7 hc rfl rfl rfl ?_
        refine xr_inc_8 hc rfl ?_
        refine xr_go hc rfl rfl ?_
        rw [s_n1]
        by_cases hg : s_sz V (s_f4 a b c d (s_mo V (s_f4 a b c d) i)) < s_sz V (s_f4 a b c d (i + 1))
        · have e : s_mo V (s_f4 a b c d) (i + 1) = i + 1 := by rw [s_mo_s, if_pos hg]
          have hh := ih (i + 1) (by omega)
          rw [e] at hh
          first
            | exact hh
            | (exfalso
               omega)
        · have e : s_mo V (s_f4 a b c d) (i + 1) = s_mo V (s_f4 a b c d) i := by rw [s_mo_s, if_neg hg]
          have hh := ih (i + 1) (by omega)
          rw [e] at hh
          first
            | exact hh
            | (exfalso
               omega)
      · skip
        refine xr_go hc rfl rfl ?_
        refine xr_go hc rfl rfl ?_
        refine xr_s1_7 hc rfl rfl rfl ?_
        refine xr_inc_8 hc rfl ?_
        refine xr_go hc rfl rfl ?_
        rw [s_n1]
        by_cases hg : s_sz V (s_f4 a b c d (s_mo V (s_f4 a b c d) i)) < s_sz V (s_f4 a b c d (i + 1))
        · have e : s_mo V (s_f4 a b c d) (i + 1) = i + 1 := by rw [s_mo_s, if_pos hg]
          have hh := ih (i + 1) (by omega)
          rw [e] at hh
          first
            | exact hh
            | (exfalso
               omega)
        · have e : s_mo V (s_f4 a b c d) (i + 1) = s_mo V (s_f4 a b c d) i := by rw [s_mo_s, if_neg hg]
          have hh := ih (i + 1) (by omega)
          rw [e] at hh
          first
            | exact hh
            | (exfalso
               omega)

set_option maxRecDepth 20000 in
theorem m_mo_81 {V : ew_Mem} {n : Nat} {M : ew_Mem} (hM : s_M V n M) {k a b c d : Int} (h4 : ∀ i : Nat, i < 4 → M 50 i = s_f4 a b c d i) (hok : s_okM k a b c d) {is ii : Int} {q8 : ew_AV} : ew_X 200 81 [(2, 38), (0, k), (0, a), (0, b), (0, c), (0, d), (0, is), (0, ii), q8] [] n M (fun r x y => r = some (0, s_a_most V k a b c d) ∧ x = n ∧ y = M) := by
  obtain ⟨hn, hp, hV, u0, u1, u2, u3, u4⟩ := id hM
  obtain ⟨hc6, hVW, hnd, hap, hr0, hr1, hr2, hr3, hr4, hr5⟩ := id hV
  have hk := hok.1
  have hc := ew_c_200
  refine xr_go hc rfl rfl ?_
  refine xr_gf0 (A := 38) rfl hc rfl (ew_own_p hn rfl) u0 ?_
  refine xr_if_ne hc rfl (by omega) (fun c1 => ?_) (fun c1 => ?_)
  · skip
    refine xr_go hc rfl rfl ?_
    refine xr_s1_7 hc rfl rfl rfl ?_
    refine xr_go hc rfl rfl ?_
    refine xr_s1_8 hc rfl rfl rfl ?_
    refine ew_X.mono (m_mo_1 hM h4 hok (is := is) (k - 1).toNat 0 (by omega)) ?_
    rintro r x y ⟨rfl, rfl, rfl⟩
    refine ⟨?_, rfl, rfl⟩
    unfold s_a_most
    rw [if_pos hok, if_neg (by omega)]
  · skip
    refine xr_go hc rfl rfl ?_
    refine xr_ret hc rfl rfl ?_
    refine ⟨?_, rfl, rfl⟩
    unfold s_a_most
    rw [if_pos hok, if_pos (by omega)]

set_option maxRecDepth 20000 in
theorem m_mo_0 {V : ew_Mem} {n : Nat} {M : ew_Mem} (hM : s_M V n M) {k a b c d : Int} (h4 : ∀ i : Nat, i < 4 → M 50 i = s_f4 a b c d i) (hk : ew_in k) (hok : ¬ s_okM k a b c d) {ii : Int} (hi : 0 ≤ ii ∧ ii ≤ 10) {q8 : ew_AV} : ew_X 200 44 [(2, 38), (0, k), (0, a), (0, b), (0, c), (0, d), (0, 0), (0, ii), q8] [] n M (fun r x y => r = some (0, s_a_most V k a b c d) ∧ x = n ∧ y = M) := by
  have hc := ew_c_200
  refine xr_go hc rfl rfl ?_
  refine xr_go hc rfl rfl ?_
  refine xr_icmp_ge hc rfl (by omega) (by omega) (fun c1 => ?_) (fun c1 => ?_)
  · skip
    refine xr_go hc rfl rfl ?_
    refine xr_if_ne hc rfl (by decide) (fun c2 => by exfalso; omega) (fun c2 => ?_)
    refine xr_go hc rfl rfl ?_
    refine xr_ret hc rfl rfl ?_
    refine ⟨?_, rfl, rfl⟩
    unfold s_a_most
    rw [if_neg hok]
  · skip
    refine xr_go hc rfl rfl ?_
    refine xr_if_eq hc rfl (by decide) (fun c3 => ?_) (fun c3 => by exfalso; omega)
    refine xr_go hc rfl rfl ?_
    refine xr_if_ne hc rfl (by decide) (fun c4 => by exfalso; omega) (fun c4 => ?_)
    refine xr_go hc rfl rfl ?_
    refine xr_ret hc rfl rfl ?_
    refine ⟨?_, rfl, rfl⟩
    unfold s_a_most
    rw [if_neg hok]

set_option maxRecDepth 20000 in
theorem m_mo_44 {V : ew_Mem} {n : Nat} {M : ew_Mem} (hM : s_M V n M) {k a b c d : Int} (h4 : ∀ i : Nat, i < 4 → M 50 i = s_f4 a b c d i) (hk : 1 ≤ k ∧ k ≤ 4) (hb4 : ∀ i : Nat, ew_in (s_f4 a b c d i)) {q8 : ew_AV} : ∀ (j i : Nat), (i : Int) + (j : Int) = k → (∀ t : Nat, t < i → s_isM (s_f4 a b c d t)) → ew_X 200 44 [(2, 38), (0, k), (0, a), (0, b), (0, c), (0, d), (0, 1), (0, (i : Int)), q8] [] n M (fun r x y => r = some (0, s_a_most V k a b c d) ∧ x = n ∧ y = M) := by
  obtain ⟨hn, hp, hV, u0, u1, u2, u3, u4⟩ := id hM
  obtain ⟨hc6, hVW, hnd, hap, hr0, hr1, hr2, hr3, hr4, hr5⟩ := id hV
  intro j
  induction j with
  | zero =>
    intro i hj hall
    have hok : s_okM k a b c d := ⟨hk, hall 0 (by omega), fun q => hall 1 (by omega), fun q => hall 2 (by omega), fun q => hall 3 (by omega)⟩
    have hc := ew_c_200
    refine xr_go hc rfl rfl ?_
    refine xr_go hc rfl rfl ?_
    refine xr_icmp_ge hc rfl (by omega) (by omega) (fun c1 => ?_) (fun c1 => ?_)
    · skip
      refine xr_go hc rfl rfl ?_
      refine xr_if_ne hc rfl (by decide) (fun c2 => ?_) (fun c2 => by exfalso; omega)
      exact m_mo_81 hM h4 hok
    · exfalso; omega
  | succ j ih =>
    intro i hj hall
    have hc := ew_c_200
    have hg := m_isMonth (n := n) (M := M) (hb4 i)
    by_cases hm : -100000 ≤ s_f4 a b c d i ∧ s_f4 a b c d i ≤ 100000
    · have hmm : ew_FM 164 [(0, s_f4 a b c d i)] n M (0, 1) n M := by
        rw [if_pos hm] at hg
        exact hg
      refine xr_go hc rfl rfl ?_
      refine xr_go hc rfl rfl ?_
      refine xr_icmp_ge hc rfl (by omega) (by omega) (fun c1 => ?_) (fun c1 => ?_)
      · exfalso; omega
      · skip
        refine xr_go hc rfl rfl ?_
        refine xr_if_eq hc rfl (by decide) (fun c2 => by exfalso; omega) (fun c2 => ?_)
        refine xr_go hc rfl rfl ?_
        refine xr_gf2 (A := 38) (w := 50) rfl hc rfl (ew_own_p hn rfl) (ew_pm hp rfl) ?_
        refine xr_go hc rfl rfl ?_
        refine xr_iald (A := 50) (N := 4) rfl rfl hc rfl (ew_ok_p hn rfl) (by omega) (by omega) (h4 i (by omega)) ?_
        refine xr_s_1 hc rfl rfl hmm ?_
        refine xr_s1_6 hc rfl rfl rfl ?_
        refine xr_inc_7 hc rfl ?_
        refine xr_go hc rfl rfl ?_
        rw [s_n1]
        refine ih (i + 1) (by omega) (fun t ht => ?_)
        by_cases e : t = i
        · rw [e]
          exact hm
        · exact hall t (by omega)
    · have hmm : ew_FM 164 [(0, s_f4 a b c d i)] n M (0, 0) n M := by
        rw [if_neg hm] at hg
        exact hg
      refine xr_go hc rfl rfl ?_
      refine xr_go hc rfl rfl ?_
      refine xr_icmp_ge hc rfl (by omega) (by omega) (fun c1 => ?_) (fun c1 => ?_)
      · exfalso; omega
      · skip
        refine xr_go hc rfl rfl ?_
        refine xr_if_eq hc rfl (by decide) (fun c2 => by exfalso; omega) (fun c2 => ?_)
        refine xr_go hc rfl rfl ?_
        refine xr_gf2 (A := 38) (w := 50) rfl hc rfl (ew_own_p hn rfl) (ew_pm hp rfl) ?_
        refine xr_go hc rfl rfl ?_
        refine xr_iald (A := 50) (N := 4) rfl rfl hc rfl (ew_ok_p hn rfl) (by omega) (by omega) (h4 i (by omega)) ?_
        refine xr_s_1 hc rfl rfl hmm ?_
        refine xr_s1_6 hc rfl rfl rfl ?_
        refine xr_inc_7 hc rfl ?_
        refine xr_go hc rfl rfl ?_
        refine m_mo_0 hM h4 (by omega) (fun q => hm ?_) (by omega)
        have := s_f4_M q (i := i) (by omega)
        exact this

set_option maxRecDepth 20000 in
theorem mx_most {V : ew_Mem} {n : Nat} {M : ew_Mem} (hM : s_M V n M) {k a b c d : Int} (hk : ew_in k) (ha : ew_in a) (hb : ew_in b) (hc_ : ew_in c) (hd : ew_in d) : ew_C 200 [(2, 38), (0, k), (0, a), (0, b), (0, c), (0, d)] n M (s_QF (0, s_a_most V k a b c d) n M) := by
  obtain ⟨hn, hp, hV, u0, u1, u2, u3, u4⟩ := id hM
  obtain ⟨hc6, hVW, hnd, hap, hr0, hr1, hr2, hr3, hr4, hr5⟩ := id hV
  have hc := ew_c_200
  have hb4 : ∀ i : Nat, ew_in (s_f4 a b c d i) := fun i => by
    unfold s_f4
    repeat' split
    all_goals assumption
  have hM4 : s_M V n (s_w4 M a b c d) := s_M_fr s_w4_Fr hM
  show ew_X 200 0 [(2, 38), (0, k), (0, a), (0, b), (0, c), (0, d), (5, 0), (5, 0), (5, 0)] [] n M _
  refine xr_go hc rfl rfl ?_
  refine xr_gf2 (A := 38) (w := 50) rfl hc rfl (ew_own_p hn rfl) (ew_pm hp rfl) ?_
  refine xr_go hc rfl rfl ?_
  refine xr_go hc rfl rfl ?_
  refine xr_iast (A := 50) (N := 4) rfl rfl hc rfl (ew_own_p hn rfl) (by decide) (by decide) ?_
  refine xr_go hc rfl rfl ?_
  refine xr_gf2 (A := 38) (w := 50) rfl hc rfl (ew_own_p hn rfl) (ew_pm hp rfl) ?_
  refine xr_go hc rfl rfl ?_
  refine xr_go hc rfl rfl ?_
  refine xr_iast (A := 50) (N := 4) rfl rfl hc rfl (ew_own_p hn rfl) (by decide) (by decide) ?_
  refine xr_go hc rfl rfl ?_
  refine xr_gf2 (A := 38) (w := 50) rfl hc rfl (ew_own_p hn rfl) (ew_pm hp rfl) ?_
  refine xr_go hc rfl rfl ?_
  refine xr_go hc rfl rfl ?_
  refine xr_iast (A := 50) (N := 4) rfl rfl hc rfl (ew_own_p hn rfl) (by decide) (by decide) ?_
  refine xr_go hc rfl rfl ?_
  refine xr_gf2 (A := 38) (w := 50) rfl hc rfl (ew_own_p hn rfl) (ew_pm hp rfl) ?_
  refine xr_go hc rfl rfl ?_
  refine xr_go hc rfl rfl ?_
  refine xr_iast (A := 50) (N := 4) rfl rfl hc rfl (ew_own_p hn rfl) (by decide) (by decide) ?_
  refine xr_go hc rfl rfl ?_
  refine xr_i2l hc rfl (by omega) ?_
  refine xr_go hc rfl rfl ?_
  refine xr_go hc rfl rfl ?_
  refine xr_s_3 hc rfl rfl (c_in (by omega) (by decide) (by decide)) ?_
  refine xr_s1_6 hc rfl rfl rfl ?_
  refine xr_go hc rfl rfl ?_
  refine xr_s1_7 hc rfl rfl rfl ?_
  show ew_X 200 44 [(2, 38), (0, k), (0, a), (0, b), (0, c), (0, d), (0, if 1 ≤ k ∧ k ≤ 4 then 1 else 0), (0, 0), (5, 0)] [] n (s_w4 M a b c d) _
  by_cases hkk : 1 ≤ k ∧ k ≤ 4
  · rw [if_pos hkk]
    refine ew_X.mono (m_mo_44 hM4 (fun i hi => s_w4_rd hi) hkk hb4 k.toNat 0 (by omega) (fun t ht => by omega)) ?_
    rintro r x y ⟨rfl, rfl, rfl⟩
    exact ⟨rfl, rfl, s_w4_Fr⟩
  · rw [if_neg hkk]
    refine ew_X.mono (m_mo_0 hM4 (fun i hi => s_w4_rd hi) hk (fun q => hkk q.1) (by omega)) ?_
    rintro r x y ⟨rfl, rfl, rfl⟩
    exact ⟨rfl, rfl, s_w4_Fr⟩

