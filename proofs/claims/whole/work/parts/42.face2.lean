/-! the class: the face, calls that ask in loops -/
theorem s_ecl_pos {V : ew_Mem} (hV : s_VO V) {m : Int} (h : ¬ s_ecl V m = 0) : 0 < V 6 0 := by
  have := hV.1
  rcases Int.lt_or_le 0 (V 6 0) with h1 | h1
  · exact h1
  · exfalso
    apply h
    unfold s_ecl
    rw [if_pos (by omega)]

theorem s_nth_bd {W : Nat → Int} (hW : s_WO W) (i : Int) : -1 ≤ s_nth (s_T W) i ∧ s_nth (s_T W) i < 2147483648 := by
  rcases Int.lt_or_le i 0 with h | h
  · rw [s_nth_neg _ h]; decide
  · obtain ⟨k, rfl⟩ := Int.eq_ofNat_of_zero_le h
    rcases Nat.lt_or_ge k (s_T W).length with h1 | h1
    · have h2 := s_T_bd hW _ (List.getElem_mem h1)
      rw [s_nth_get h1]
      omega
    · rw [s_nth_out h1]; decide
theorem s_nth_in {W : Nat → Int} (hW : s_WO W) (i : Int) : ¬ s_nth (s_T W) i = -1 ↔ (0 ≤ i ∧ i < ((s_T W).length : Int)) := by
  rcases Int.lt_or_le i 0 with h | h
  · rw [s_nth_neg _ h]; omega
  · obtain ⟨k, rfl⟩ := Int.eq_ofNat_of_zero_le h
    rcases Nat.lt_or_ge k (s_T W).length with h1 | h1
    · have h2 := s_T_bd hW _ (List.getElem_mem h1)
      rw [s_nth_get h1]
      omega
    · rw [s_nth_out h1]; omega

set_option maxRecDepth 20000 in
theorem cx_ecl_1 {V : ew_Mem} {n : Nat} {M : ew_Mem} (hC : s_C V n M) {a b kd : Int} (hb : ew_in b) (hkd : 0 ≤ kd ∧ kd ≤ 3) : ∀ (j : Nat) (m c0 : Int) (q : ew_AV), m + (j : Int) = b + 1 → -100000 ≤ m → b ≤ 100000 → 0 ≤ c0 → c0 + (j : Int) ≤ 100000 →
    ew_X 99 31 [(2, 4), (0, a), (0, b), (0, kd), (0, c0), (0, m), q] [] n M (fun r a1 b1 => r = some (0, c0 + s_cnt V kd j m) ∧ a1 = n ∧ b1 = M) := by
  obtain ⟨hn, hp, hV, v0, v1, v2, v3, v4⟩ := id hC
  obtain ⟨hc6, hVW, hnd, hap, hr0, hr1, hr2, hr3, hr4, hr5⟩ := id hV
  have hc := ew_c_99
  intro j
  induction j with
  | zero =>
    intro m c0 q hj hm1 hm2 hc0 hc1
    refine xr_go hc rfl rfl ?_
    refine xr_go hc rfl rfl ?_
    refine xr_icmp_gt hc rfl (by omega) (by omega) (fun c1 => ?_) (fun c1 => ?_)
    · skip
      refine xr_go hc rfl rfl ?_
      refine xr_ret hc rfl rfl ?_
      exact ⟨by rw [s_cnt, Int.add_zero], rfl, rfl⟩
    · exfalso; omega
  | succ j ih =>
    intro m c0 q hj hm1 hm2 hc0 hc1
    refine xr_go hc rfl rfl ?_
    refine xr_go hc rfl rfl ?_
    refine xr_icmp_gt hc rfl (by omega) (by omega) (fun c1 => ?_) (fun c1 => ?_)
    · exfalso; omega
    · skip
      refine xr_go hc rfl rfl ?_
      refine xr_gf2 (A := 4) (w := 5) rfl hc rfl (ew_own_p hn rfl) (ew_pm hp rfl) ?_
      refine xr_go hc rfl rfl ?_
      refine xr_v_2 hc rfl rfl (ew_own_p hn rfl) (c_eclipseAt hC (by omega)) ?_
      have he := s_ecl_bd V m
      refine xr_s1_6 hc rfl rfl rfl ?_
      refine xr_go hc rfl rfl ?_
      refine xr_if_eq hc rfl (by omega) (fun c2 => ?_) (fun c2 => ?_)
      · skip
        refine xr_inc_5 hc rfl ?_
        refine xr_go hc rfl rfl ?_
        rw [s_cnt]
        first
          | (rw [if_pos (by omega), ← Int.add_assoc]
             exact ih (m + 1) (c0 + 1) _ (by omega) (by omega) (by omega) (by omega) (by omega))
          | (rw [if_neg (by omega), Int.zero_add]
             exact ih (m + 1) c0 _ (by omega) (by omega) (by omega) (by omega) (by omega))
      · skip
        refine xr_go hc rfl rfl ?_
        refine xr_if_eq hc rfl (by omega) (fun c3 => ?_) (fun c3 => ?_)
        · skip
          refine xr_inc_4 hc rfl ?_
          refine xr_inc_5 hc rfl ?_
          refine xr_go hc rfl rfl ?_
          rw [s_cnt]
          first
            | (rw [if_pos (by omega), ← Int.add_assoc]
               exact ih (m + 1) (c0 + 1) _ (by omega) (by omega) (by omega) (by omega) (by omega))
            | (rw [if_neg (by omega), Int.zero_add]
               exact ih (m + 1) c0 _ (by omega) (by omega) (by omega) (by omega) (by omega))
        · skip
          refine xr_go hc rfl rfl ?_
          refine xr_go hc rfl rfl ?_
          refine xr_icmp_ne hc rfl (by omega) (by omega) (fun c4 => ?_) (fun c4 => ?_)
          · skip
            refine xr_inc_5 hc rfl ?_
            refine xr_go hc rfl rfl ?_
            rw [s_cnt]
            first
              | (rw [if_pos (by omega), ← Int.add_assoc]
                 exact ih (m + 1) (c0 + 1) _ (by omega) (by omega) (by omega) (by omega) (by omega))
              | (rw [if_neg (by omega), Int.zero_add]
                 exact ih (m + 1) c0 _ (by omega) (by omega) (by omega) (by omega) (by omega))
          · skip
            refine xr_inc_4 hc rfl ?_
            refine xr_inc_5 hc rfl ?_
            refine xr_go hc rfl rfl ?_
            rw [s_cnt]
            first
              | (rw [if_pos (by omega), ← Int.add_assoc]
                 exact ih (m + 1) (c0 + 1) _ (by omega) (by omega) (by omega) (by omega) (by omega))
              | (rw [if_neg (by omega), Int.zero_add]
                 exact ih (m + 1) c0 _ (by omega) (by omega) (by omega) (by omega) (by omega))

set_option maxRecDepth 20000 in
theorem cx_eclipses {V : ew_Mem} {n : Nat} {M : ew_Mem} (hC : s_C V n M) {a b kd : Int} (ha : ew_in a) (hb : ew_in b) (hkd : ew_in kd) : ew_FM 99 [(2, 4), (0, a), (0, b), (0, kd)] n M (0, s_a_eclipses V a b kd) n M := by
  obtain ⟨hn, hp, hV, v0, v1, v2, v3, v4⟩ := id hC
  obtain ⟨hc6, hVW, hnd, hap, hr0, hr1, hr2, hr3, hr4, hr5⟩ := id hV
  have hc := ew_c_99
  show ew_X 99 0 [(2, 4), (0, a), (0, b), (0, kd), (5, 0), (5, 0), (5, 0)] [] n M _
  refine xr_go hc rfl rfl ?_
  refine xr_go hc rfl rfl ?_
  refine xr_go hc rfl rfl ?_
  refine xr_s_3 hc rfl rfl (c_isStretch ha hb (by decide)) ?_
  refine xr_if_ne hc rfl (by omega) (fun c1 => ?_) (fun c1 => ?_)
  · skip
    refine xr_go hc rfl rfl ?_
    refine xr_if_lt hc rfl (by omega) (fun c2 => ?_) (fun c2 => ?_)
    · skip
      refine xr_go hc rfl rfl ?_
      refine xr_ret hc rfl rfl ?_
      refine ⟨?_, rfl, rfl⟩
      unfold s_a_eclipses
      repeat' split
      all_goals first
        | rfl
        | (exfalso; omega)
        | (congr 2; omega)
    · skip
      refine xr_go hc rfl rfl ?_
      refine xr_go hc rfl rfl ?_
      refine xr_icmp_le hc rfl (by omega) (by decide) (fun c3 => ?_) (fun c3 => ?_)
      · skip
        refine xr_go hc rfl rfl ?_
        refine xr_s1_4 hc rfl rfl rfl ?_
        refine xr_go hc rfl rfl ?_
        refine xr_s1_5 hc rfl rfl rfl ?_
        have h := cx_ecl_1 hC (a := a) (b := b) (kd := kd) hb (by omega) (b - a + 1).toNat a 0 (5, 0) (by omega) (by omega) (by omega) (by decide) (by omega)
        rw [Int.zero_add] at h
        unfold s_a_eclipses
        rw [if_pos (by omega), if_pos (by omega)]
        exact h
      · skip
        refine xr_go hc rfl rfl ?_
        refine xr_ret hc rfl rfl ?_
        refine ⟨?_, rfl, rfl⟩
        unfold s_a_eclipses
        repeat' split
        all_goals first
          | rfl
          | (exfalso; omega)
          | (congr 2; omega)
  · skip
    refine xr_go hc rfl rfl ?_
    refine xr_ret hc rfl rfl ?_
    refine ⟨?_, rfl, rfl⟩
    unfold s_a_eclipses
    repeat' split
    all_goals first
      | rfl
      | (exfalso; omega)
      | (congr 2; omega)

set_option maxRecDepth 20000 in
theorem cx_nx_1 {V : ew_Mem} {n : Nat} {M : ew_Mem} (hC : s_C V n M) {m y w0 : Int} (hm : s_isM m) (hy : y = 1 ∨ y = -1) : ∀ (j : Nat) (i : Int) (q : ew_AV), 1 ≤ i → i + (j : Int) = 4001 →
    ew_X 101 32 [(2, 4), (0, m), (0, w0), (0, y), (0, i), q] [] n M (fun r a1 b1 => r = some (0, s_nx V m y j i) ∧ a1 = n ∧ b1 = M) := by
  obtain ⟨hn, hp, hV, v0, v1, v2, v3, v4⟩ := id hC
  obtain ⟨hc6, hVW, hnd, hap, hr0, hr1, hr2, hr3, hr4, hr5⟩ := id hV
  have hc := ew_c_101
  intro j
  induction j with
  | zero =>
    intro i q hi hj
    refine xr_go hc rfl rfl ?_
    refine xr_go hc rfl rfl ?_
    refine xr_icmp_gt hc rfl (by omega) (by decide) (fun c1 => ?_) (fun c1 => ?_)
    · skip
      refine xr_go hc rfl rfl ?_
      refine xr_ret hc rfl rfl ?_
      exact ⟨by rw [s_nx], rfl, rfl⟩
    · exfalso; omega
  | succ j ih =>
    intro i q hi hj
    have hyi : y * i = i ∨ y * i = -i := by rcases hy with rfl | rfl <;> omega
    refine xr_go hc rfl rfl ?_
    refine xr_go hc rfl rfl ?_
    refine xr_icmp_gt hc rfl (by omega) (by decide) (fun c1 => ?_) (fun c1 => ?_)
    · exfalso; omega
    · skip
      refine xr_go hc rfl rfl ?_
      refine xr_go hc rfl rfl ?_
      refine xr_go hc rfl rfl ?_
      refine xr_go hc rfl rfl ?_
      refine xr_go hc rfl rfl ?_
      refine xr_s1_5 hc rfl rfl rfl ?_
      refine xr_go hc rfl rfl ?_
      refine xr_s_1 hc rfl rfl (c_isMonth (by omega)) ?_
      refine xr_if_eq hc rfl (by omega) (fun c2 => ?_) (fun c2 => ?_)
      · skip
        refine xr_inc_4 hc rfl ?_
        refine xr_go hc rfl rfl ?_
        rw [s_nx, if_neg (by omega)]
        exact ih (i + 1) _ (by omega) (by omega)
      · skip
        refine xr_go hc rfl rfl ?_
        refine xr_gf2 (A := 4) (w := 5) rfl hc rfl (ew_own_p hn rfl) (ew_pm hp rfl) ?_
        refine xr_go hc rfl rfl ?_
        refine xr_v_2 hc rfl rfl (ew_own_p hn rfl) (c_eclipseAt hC (by omega)) ?_
        have he := s_ecl_bd V (m + y * i)
        refine xr_if_eq hc rfl (by omega) (fun c3 => ?_) (fun c3 => ?_)
        · skip
          refine xr_inc_4 hc rfl ?_
          refine xr_go hc rfl rfl ?_
          rw [s_nx, if_neg (by omega)]
          exact ih (i + 1) _ (by omega) (by omega)
        · skip
          refine xr_go hc rfl rfl ?_
          refine xr_go hc rfl rfl ?_
          refine xr_go hc rfl rfl ?_
          refine xr_ret hc rfl rfl ?_
          exact ⟨by rw [s_nx, if_pos (by omega)], rfl, rfl⟩

set_option maxRecDepth 20000 in
theorem cx_next {V : ew_Mem} {n : Nat} {M : ew_Mem} (hC : s_C V n M) {m y : Int} (hm : ew_in m) (hy : ew_in y) : ew_FM 101 [(2, 4), (0, m), (0, y)] n M (0, s_a_next V m y) n M := by
  obtain ⟨hn, hp, hV, v0, v1, v2, v3, v4⟩ := id hC
  obtain ⟨hc6, hVW, hnd, hap, hr0, hr1, hr2, hr3, hr4, hr5⟩ := id hV
  have hc := ew_c_101
  show ew_X 101 0 [(2, 4), (0, m), (0, y), (5, 0), (5, 0), (5, 0)] [] n M _
  refine xr_go hc rfl rfl ?_
  refine xr_s_1 hc rfl rfl (c_isMonth hm) ?_
  refine xr_if_eq hc rfl (by omega) (fun c1 => ?_) (fun c1 => ?_)
  · skip
    refine xr_go hc rfl rfl ?_
    refine xr_ret hc rfl rfl ?_
    refine ⟨?_, rfl, rfl⟩
    unfold s_a_next
    repeat' split
    all_goals first
      | rfl
      | (exfalso; omega)
      | (congr 2; omega)
  · skip
    refine xr_go hc rfl rfl ?_
    refine xr_if_lt hc rfl (by omega) (fun c2 => ?_) (fun c2 => ?_)
    · skip
      refine xr_go hc rfl rfl ?_
      refine xr_ret hc rfl rfl ?_
      refine ⟨?_, rfl, rfl⟩
      unfold s_a_next
      repeat' split
      all_goals first
        | rfl
        | (exfalso; omega)
        | (congr 2; omega)
    · skip
      refine xr_go hc rfl rfl ?_
      refine xr_go hc rfl rfl ?_
      refine xr_icmp_le hc rfl (by omega) (by decide) (fun c3 => ?_) (fun c3 => ?_)
      · skip
        refine xr_go hc rfl rfl ?_
        refine xr_if_ne hc rfl (by omega) (fun c4 => ?_) (fun c4 => ?_)
        · skip
          refine xr_go hc rfl rfl ?_
          refine xr_s1_3 hc rfl rfl rfl ?_
          refine xr_go hc rfl rfl ?_
          refine xr_s1_4 hc rfl rfl rfl ?_
          have h := cx_nx_1 hC (m := m) (w0 := y) (y := if y = 0 then 1 else -1) (by omega) (by split <;> omega) 4000 1 (5, 0) (by decide) (by decide)
          unfold s_a_next
          rw [if_pos (by omega)]
          first
            | (rw [if_pos (by omega)] at h ⊢; exact h)
            | (rw [if_neg (by omega)] at h ⊢; exact h)
        · skip
          refine xr_go hc rfl rfl ?_
          refine xr_go hc rfl rfl ?_
          refine xr_s1_3 hc rfl rfl rfl ?_
          refine xr_go hc rfl rfl ?_
          refine xr_s1_4 hc rfl rfl rfl ?_
          have h := cx_nx_1 hC (m := m) (w0 := y) (y := if y = 0 then 1 else -1) (by omega) (by split <;> omega) 4000 1 (5, 0) (by decide) (by decide)
          unfold s_a_next
          rw [if_pos (by omega)]
          first
            | (rw [if_pos (by omega)] at h ⊢; exact h)
            | (rw [if_neg (by omega)] at h ⊢; exact h)
      · skip
        refine xr_go hc rfl rfl ?_
        refine xr_ret hc rfl rfl ?_
        refine ⟨?_, rfl, rfl⟩
        unfold s_a_next
        repeat' split
        all_goals first
          | rfl
          | (exfalso; omega)
          | (congr 2; omega)

set_option maxRecDepth 20000 in
theorem cx_family {V : ew_Mem} {n : Nat} {M : ew_Mem} (hC : s_C V n M) {m k x : Int} (hm : ew_in m) (hk : ew_in k) (hx : ew_in x) : ew_FM 102 [(2, 4), (0, m), (0, k), (0, x)] n M (0, s_a_family V m k x) n M := by
  obtain ⟨hn, hp, hV, v0, v1, v2, v3, v4⟩ := id hC
  obtain ⟨hc6, hVW, hnd, hap, hr0, hr1, hr2, hr3, hr4, hr5⟩ := id hV
  have hc := ew_c_102
  show ew_X 102 0 [(2, 4), (0, m), (0, k), (0, x), (5, 0), (5, 0)] [] n M _
  refine xr_go hc rfl rfl ?_
  refine xr_s_1 hc rfl rfl (c_isMonth hm) ?_
  refine xr_if_eq hc rfl (by omega) (fun c1 => ?_) (fun c1 => ?_)
  · skip
    refine xr_go hc rfl rfl ?_
    refine xr_ret hc rfl rfl ?_
    refine ⟨?_, rfl, rfl⟩
    unfold s_a_family
    first
      | (rw [if_neg (by omega)]; done)
      | (rw [if_pos (by omega)]
         first
           | (rw [if_pos (by omega)]; done)
           | (rw [if_neg (by omega)]
              first
                | (rw [if_pos (by omega)]; done)
                | (rw [if_neg (by omega)]
                   first
                     | (rw [if_pos (by omega)]; done)
                     | (rw [if_neg (by omega)]; done))))
  · skip
    refine xr_go hc rfl rfl ?_
    refine xr_s_1 hc rfl rfl (c_isCycle hk) ?_
    refine xr_if_eq hc rfl (by omega) (fun c2 => ?_) (fun c2 => ?_)
    · skip
      refine xr_go hc rfl rfl ?_
      refine xr_ret hc rfl rfl ?_
      refine ⟨?_, rfl, rfl⟩
      unfold s_a_family
      first
        | (rw [if_neg (by omega)]; done)
        | (rw [if_pos (by omega)]
           first
             | (rw [if_pos (by omega)]; done)
             | (rw [if_neg (by omega)]
                first
                  | (rw [if_pos (by omega)]; done)
                  | (rw [if_neg (by omega)]
                     first
                       | (rw [if_pos (by omega)]; done)
                       | (rw [if_neg (by omega)]; done))))
    · skip
      refine xr_go hc rfl rfl ?_
      refine xr_if_lt hc rfl (by omega) (fun c3 => ?_) (fun c3 => ?_)
      · skip
        refine xr_go hc rfl rfl ?_
        refine xr_ret hc rfl rfl ?_
        refine ⟨?_, rfl, rfl⟩
        unfold s_a_family
        first
          | (rw [if_neg (by omega)]; done)
          | (rw [if_pos (by omega)]
             first
               | (rw [if_pos (by omega)]; done)
               | (rw [if_neg (by omega)]
                  first
                    | (rw [if_pos (by omega)]; done)
                    | (rw [if_neg (by omega)]
                       first
                         | (rw [if_pos (by omega)]; done)
                         | (rw [if_neg (by omega)]; done))))
      · skip
        refine xr_go hc rfl rfl ?_
        refine xr_go hc rfl rfl ?_
        refine xr_icmp_le hc rfl (by omega) (by decide) (fun c4 => ?_) (fun c4 => ?_)
        · skip
          refine xr_go hc rfl rfl ?_
          refine xr_gf2 (A := 4) (w := 5) rfl hc rfl (ew_own_p hn rfl) (ew_pm hp rfl) ?_
          refine xr_go hc rfl rfl ?_
          refine xr_v_2 hc rfl rfl (ew_own_p hn rfl) (c_eclipseAt hC (by omega)) ?_
          have he := s_ecl_bd V m
          refine xr_if_ne hc rfl (by omega) (fun c5 => ?_) (fun c5 => ?_)
          · skip
            refine xr_go hc rfl rfl ?_
            refine xr_gf2 (A := 4) (w := 5) rfl hc rfl (ew_own_p hn rfl) (ew_pm hp rfl) ?_
            refine xr_go hc rfl rfl ?_
            refine xr_go hc rfl rfl ?_
            refine xr_go hc rfl rfl ?_
            refine xr_v_3 hc rfl rfl (ew_own_p hn rfl) (c_relatives hC (s_ecl_pos hV (by omega)) (by omega) (by omega)) ?_
            refine xr_s1_4 hc rfl rfl rfl ?_
            refine xr_go hc rfl rfl ?_
            refine xr_gf2 (A := 4) (w := 5) rfl hc rfl (ew_own_p hn rfl) (ew_pm hp rfl) ?_
            refine xr_go hc rfl rfl ?_
            refine xr_go hc rfl rfl ?_
            refine xr_v_3 hc rfl rfl (ew_own_p hn rfl) (c_relatives hC (s_ecl_pos hV (by omega)) (by omega) (by omega)) ?_
            refine xr_s1_5 hc rfl rfl rfl ?_
            refine xr_go hc rfl rfl ?_
            refine xr_go hc rfl rfl ?_
            refine xr_icmp_ne hc rfl (by omega) (by decide) (fun c6 => ?_) (fun c6 => ?_)
            · skip
              refine xr_go hc rfl rfl ?_
              refine xr_go hc rfl rfl ?_
              refine xr_if_ne hc rfl (by omega) (fun c7 => ?_) (fun c7 => ?_)
              · skip
                refine xr_go hc rfl rfl ?_
                refine xr_go hc rfl rfl ?_
                refine xr_go hc rfl rfl ?_
                refine xr_go hc rfl rfl ?_
                refine xr_go hc rfl rfl ?_
                refine xr_go hc rfl rfl ?_
                refine xr_ret hc rfl rfl ?_
                refine ⟨?_, rfl, rfl⟩
                unfold s_a_family
                first
                  | (rw [if_neg (by omega)]; done)
                  | (rw [if_pos (by omega)]
                     first
                       | (rw [if_pos (by omega)]; done)
                       | (rw [if_neg (by omega)]
                          first
                            | (rw [if_pos (by omega)]; done)
                            | (rw [if_neg (by omega)]
                               first
                                 | (rw [if_pos (by omega)]; done)
                                 | (rw [if_neg (by omega)]; done))))
              · skip
                refine xr_go hc rfl rfl ?_
                refine xr_go hc rfl rfl ?_
                refine xr_go hc rfl rfl ?_
                refine xr_go hc rfl rfl ?_
                refine xr_go hc rfl rfl ?_
                refine xr_go hc rfl rfl ?_
                refine xr_go hc rfl rfl ?_
                refine xr_ret hc rfl rfl ?_
                refine ⟨?_, rfl, rfl⟩
                unfold s_a_family
                first
                  | (rw [if_neg (by omega)]; done)
                  | (rw [if_pos (by omega)]
                     first
                       | (rw [if_pos (by omega)]; done)
                       | (rw [if_neg (by omega)]
                          first
                            | (rw [if_pos (by omega)]; done)
                            | (rw [if_neg (by omega)]
                               first
                                 | (rw [if_pos (by omega)]; done)
                                 | (rw [if_neg (by omega)]; done))))
            · skip
              refine xr_go hc rfl rfl ?_
              refine xr_go hc rfl rfl ?_
              refine xr_go hc rfl rfl ?_
              refine xr_go hc rfl rfl ?_
              refine xr_go hc rfl rfl ?_
              refine xr_ret hc rfl rfl ?_
              refine ⟨?_, rfl, rfl⟩
              unfold s_a_family
              first
                | (rw [if_neg (by omega)]; done)
                | (rw [if_pos (by omega)]
                   first
                     | (rw [if_pos (by omega)]; done)
                     | (rw [if_neg (by omega)]
                        first
                          | (rw [if_pos (by omega)]; done)
                          | (rw [if_neg (by omega)]
                             first
                               | (rw [if_pos (by omega)]; done)
                               | (rw [if_neg (by omega)]; done))))
          · skip
            refine xr_go hc rfl rfl ?_
            refine xr_ret hc rfl rfl ?_
            refine ⟨?_, rfl, rfl⟩
            unfold s_a_family
            first
              | (rw [if_neg (by omega)]; done)
              | (rw [if_pos (by omega)]
                 first
                   | (rw [if_pos (by omega)]; done)
                   | (rw [if_neg (by omega)]
                      first
                        | (rw [if_pos (by omega)]; done)
                        | (rw [if_neg (by omega)]
                           first
                             | (rw [if_pos (by omega)]; done)
                             | (rw [if_neg (by omega)]; done))))
        · skip
          refine xr_go hc rfl rfl ?_
          refine xr_ret hc rfl rfl ?_
          refine ⟨?_, rfl, rfl⟩
          unfold s_a_family
          first
            | (rw [if_neg (by omega)]; done)
            | (rw [if_pos (by omega)]
               first
                 | (rw [if_pos (by omega)]; done)
                 | (rw [if_neg (by omega)]
                    first
                      | (rw [if_pos (by omega)]; done)
                      | (rw [if_neg (by omega)]
                         first
                           | (rw [if_pos (by omega)]; done)
                           | (rw [if_neg (by omega)]; done))))

set_option maxRecDepth 20000 in
theorem cx_terms_1 {V : ew_Mem} {n : Nat} {M : ew_Mem} (hC : s_C V n M) {w : Int} (hw : s_isW V w) : ∀ (j : Nat) (i : Nat), i + j = 64 → i ≤ (s_T (V w.toNat)).length →
    ew_X 111 20 [(2, 4), (0, w), (2, M 6 w.toNat), (0, (i : Int)), (0, (i : Int))] [] n M (fun r a1 b1 => r = some (0, ((s_T (V w.toNat)).length : Int)) ∧ a1 = n ∧ b1 = M) := by
  obtain ⟨hn, hp, hV, v0, v1, v2, v3, v4⟩ := id hC
  obtain ⟨hc6, hVW, hnd, hap, hr0, hr1, hr2, hr3, hr4, hr5⟩ := id hV
  have hwf := v4 w.toNat (by omega)
  have hw59 := hwf.1
  simp only [ew_own, Bool.and_eq_true, decide_eq_true_eq] at hw59
  have hWO := hVW w.toNat (by omega)
  have hT64 : (s_T (V w.toNat)).length ≤ 64 := s_tl_len 64 _ _
  have hc := ew_c_111
  intro j
  induction j with
  | zero =>
    intro i hij hi
    refine xr_go hc rfl rfl ?_
    refine xr_go hc rfl rfl ?_
    refine xr_icmp_ge hc rfl (by omega) (by decide) (fun c1 => ?_) (fun c1 => ?_)
    · skip
      refine xr_go hc rfl rfl ?_
      refine xr_ret hc rfl rfl ?_
      exact ⟨by congr 3; omega, rfl, rfl⟩
    · exfalso; omega
  | succ j ih =>
    intro i hij hi
    refine xr_go hc rfl rfl ?_
    refine xr_go hc rfl rfl ?_
    refine xr_icmp_ge hc rfl (by omega) (by decide) (fun c1 => ?_) (fun c1 => ?_)
    · exfalso; omega
    · skip
      refine xr_go hc rfl rfl ?_
      refine xr_go hc rfl rfl ?_
      refine xr_v_2 hc rfl rfl hwf.1 (c_term hn hp hwf hWO (by omega)) ?_
      refine xr_go hc rfl rfl ?_
      have hnb := s_nth_bd hWO (i : Int)
      refine xr_icmp_eq hc rfl (by omega) (by decide) (fun c2 => ?_) (fun c2 => ?_)
      · skip
        refine xr_go hc rfl rfl ?_
        refine xr_ret hc rfl rfl ?_
        refine ⟨?_, rfl, rfl⟩
        rcases Nat.lt_or_ge i (s_T (V w.toNat)).length with h1 | h1
        · exfalso
          have h2 := s_T_bd hWO _ (List.getElem_mem h1)
          rw [← s_nth_get h1] at h2
          omega
        · congr 3; omega
      · skip
        refine xr_inc_3 hc rfl ?_
        refine xr_inc_4 hc rfl ?_
        refine xr_go hc rfl rfl ?_
        rw [s_n1]
        refine ih (i + 1) (by omega) ?_
        rcases Nat.lt_or_ge i (s_T (V w.toNat)).length with h1 | h1
        · omega
        · exfalso
          have h2 := s_nth_out (T := s_T (V w.toNat)) h1
          omega

set_option maxRecDepth 20000 in
theorem cx_terms {V : ew_Mem} {n : Nat} {M : ew_Mem} (hC : s_C V n M) {w : Int} (hw : ew_in w) : ew_FM 111 [(2, 4), (0, w)] n M (0, s_a_terms V w) n M := by
  obtain ⟨hn, hp, hV, v0, v1, v2, v3, v4⟩ := id hC
  obtain ⟨hc6, hVW, hnd, hap, hr0, hr1, hr2, hr3, hr4, hr5⟩ := id hV
  have hc := ew_c_111
  show ew_X 111 0 [(2, 4), (0, w), (5, 0), (5, 0), (5, 0)] [] n M _
  refine xr_go hc rfl rfl ?_
  refine xr_gf2 (A := 4) (w := 5) rfl hc rfl (ew_own_p hn rfl) (ew_pm hp rfl) ?_
  refine xr_go hc rfl rfl ?_
  by_cases hwn : 0 ≤ w ∧ w < V 6 0
  · skip
    refine xr_v_2 hc rfl rfl (ew_own_p hn rfl) (c_numbered hC hwn) ?_
    first
      | (have hwf := v4 w.toNat (by omega)
         have hw59 := hwf.1
         simp only [ew_own, Bool.and_eq_true, decide_eq_true_eq] at hw59
         have hWO := hVW w.toNat (by omega)
         obtain ⟨k0, k1, k2, k3, k4⟩ := id hWO)
      | skip
    refine xr_s1_2 hc rfl rfl rfl ?_
    refine xr_go hc rfl rfl ?_
    refine xr_nonnull hc rfl (fun c1 => ?_) (fun c1 => by exfalso; omega)
    refine xr_go hc rfl rfl ?_
    refine xr_s1_3 hc rfl rfl rfl ?_
    refine xr_go hc rfl rfl ?_
    refine xr_s1_4 hc rfl rfl rfl ?_
    have h := cx_terms_1 hC hwn 64 0 rfl (Nat.zero_le _)
    unfold s_a_terms
    rw [if_pos hwn]
    exact h
  · skip
    refine xr_v_2 hc rfl rfl (ew_own_p hn rfl) (c_numberedN hC hw hwn) ?_
    first
      | (have hwf := v4 w.toNat (by omega)
         have hw59 := hwf.1
         simp only [ew_own, Bool.and_eq_true, decide_eq_true_eq] at hw59
         have hWO := hVW w.toNat (by omega)
         obtain ⟨k0, k1, k2, k3, k4⟩ := id hWO)
      | skip
    refine xr_s1_2 hc rfl rfl rfl ?_
    refine xr_go hc rfl rfl ?_
    refine xr_nonnull hc rfl (fun c2 => by exfalso; omega) (fun c2 => ?_)
    refine xr_go hc rfl rfl ?_
    refine xr_ret hc rfl rfl ?_
    refine ⟨?_, rfl, rfl⟩
    unfold s_a_terms
    repeat' split
    all_goals first
      | rfl
      | (exfalso; omega)
      | (congr 2; omega)

set_option maxRecDepth 20000 in
theorem cx_cvg {V : ew_Mem} {n : Nat} {M : ew_Mem} (hC : s_C V n M) {w i x : Int} (hw : ew_in w) (hi : ew_in i) (hx : ew_in x) : ew_FM 113 [(2, 4), (0, w), (0, i), (0, x)] n M (1, s_a_cvg V w i x) n M := by
  obtain ⟨hn, hp, hV, v0, v1, v2, v3, v4⟩ := id hC
  obtain ⟨hc6, hVW, hnd, hap, hr0, hr1, hr2, hr3, hr4, hr5⟩ := id hV
  have hc := ew_c_113
  show ew_X 113 0 [(2, 4), (0, w), (0, i), (0, x), (5, 0)] [] n M _
  refine xr_go hc rfl rfl ?_
  refine xr_gf2 (A := 4) (w := 5) rfl hc rfl (ew_own_p hn rfl) (ew_pm hp rfl) ?_
  refine xr_go hc rfl rfl ?_
  by_cases hwn : 0 ≤ w ∧ w < V 6 0
  · skip
    refine xr_v_2 hc rfl rfl (ew_own_p hn rfl) (c_numbered hC hwn) ?_
    first
      | (have hwf := v4 w.toNat (by omega)
         have hw59 := hwf.1
         simp only [ew_own, Bool.and_eq_true, decide_eq_true_eq] at hw59
         have hWO := hVW w.toNat (by omega)
         obtain ⟨k0, k1, k2, k3, k4⟩ := id hWO)
      | skip
    refine xr_s1_4 hc rfl rfl rfl ?_
    refine xr_go hc rfl rfl ?_
    refine xr_null hc rfl (fun c1 => by exfalso; omega) (fun c1 => ?_)
    refine xr_go hc rfl rfl ?_
    refine xr_go hc rfl rfl ?_
    refine xr_v_2 hc rfl rfl hwf.1 (c_term hn hp hwf hWO hi) ?_
    refine xr_go hc rfl rfl ?_
    have hnb := s_nth_bd hWO i
    have hni := s_nth_in hWO i
    refine xr_icmp_eq hc rfl (by omega) (by decide) (fun c2 => ?_) (fun c2 => ?_)
    · skip
      refine xr_go hc rfl rfl ?_
      refine xr_ret hc rfl rfl ?_
      refine ⟨?_, rfl, rfl⟩
      unfold s_a_cvg
      first
        | (rw [if_pos ⟨hwn, by omega, by omega⟩]; done)
        | (rw [if_neg (by omega)]; rfl)
    · skip
      refine xr_go hc rfl rfl ?_
      refine xr_if_lt hc rfl (by omega) (fun c3 => ?_) (fun c3 => ?_)
      · skip
        refine xr_go hc rfl rfl ?_
        refine xr_ret hc rfl rfl ?_
        refine ⟨?_, rfl, rfl⟩
        unfold s_a_cvg
        first
          | (rw [if_pos ⟨hwn, by omega, by omega⟩]; done)
          | (rw [if_neg (by omega)]; rfl)
      · skip
        refine xr_go hc rfl rfl ?_
        refine xr_go hc rfl rfl ?_
        refine xr_icmp_le hc rfl (by omega) (by decide) (fun c4 => ?_) (fun c4 => ?_)
        · skip
          refine xr_go hc rfl rfl ?_
          refine xr_go hc rfl rfl ?_
          refine xr_go hc rfl rfl ?_
          refine xr_v_3 hc rfl rfl hwf.1 (by
      have hii := (s_nth_in hWO i).mp (by omega)
      have h := c_cvg hn hp hwf hWO (t := i.toNat) hx (by omega)
      rw [s_toI hii.1] at h
      exact h) ?_
          refine xr_ret hc rfl rfl ?_
          refine ⟨?_, rfl, rfl⟩
          unfold s_a_cvg
          first
            | (rw [if_pos ⟨hwn, by omega, by omega⟩]; done)
            | (rw [if_neg (by omega)]; rfl)
        · skip
          refine xr_go hc rfl rfl ?_
          refine xr_ret hc rfl rfl ?_
          refine ⟨?_, rfl, rfl⟩
          unfold s_a_cvg
          first
            | (rw [if_pos ⟨hwn, by omega, by omega⟩]; done)
            | (rw [if_neg (by omega)]; rfl)
  · skip
    refine xr_v_2 hc rfl rfl (ew_own_p hn rfl) (c_numberedN hC hw hwn) ?_
    first
      | (have hwf := v4 w.toNat (by omega)
         have hw59 := hwf.1
         simp only [ew_own, Bool.and_eq_true, decide_eq_true_eq] at hw59
         have hWO := hVW w.toNat (by omega)
         obtain ⟨k0, k1, k2, k3, k4⟩ := id hWO)
      | skip
    refine xr_s1_4 hc rfl rfl rfl ?_
    refine xr_go hc rfl rfl ?_
    refine xr_null hc rfl (fun c5 => ?_) (fun c5 => by exfalso; omega)
    refine xr_go hc rfl rfl ?_
    refine xr_ret hc rfl rfl ?_
    refine ⟨?_, rfl, rfl⟩
    unfold s_a_cvg
    first
      | (rw [if_pos ⟨hwn, by omega, by omega⟩]; done)
      | (rw [if_neg (by omega)]; rfl)

set_option maxRecDepth 20000 in
theorem cx_meeting {V : ew_Mem} {n : Nat} {M : ew_Mem} (hC : s_C V n M) {a p b q : Int} (ha : ew_in a) (hp_ : ew_in p) (hb : ew_in b) (hq : ew_in q) : ew_FM 122 [(2, 4), (0, a), (0, p), (0, b), (0, q)] n M (0, s_a_meeting V a p b q) n M := by
  obtain ⟨hn, hp, hV, v0, v1, v2, v3, v4⟩ := id hC
  obtain ⟨hc6, hVW, hnd, hap, hr0, hr1, hr2, hr3, hr4, hr5⟩ := id hV
  have hc := ew_c_122
  show ew_X 122 0 [(2, 4), (0, a), (0, p), (0, b), (0, q), (5, 0), (5, 0), (5, 0)] [] n M _
  refine xr_go hc rfl rfl ?_
  refine xr_gf2 (A := 4) (w := 5) rfl hc rfl (ew_own_p hn rfl) (ew_pm hp rfl) ?_
  refine xr_go hc rfl rfl ?_
  by_cases hwa : 0 ≤ a ∧ a < V 6 0
  · skip
    refine xr_v_2 hc rfl rfl (ew_own_p hn rfl) (c_numbered hC hwa) ?_
    first
      | (have hwf := v4 a.toNat (by omega)
         have hw59 := hwf.1
         simp only [ew_own, Bool.and_eq_true, decide_eq_true_eq] at hw59
         have hWA := hVW a.toNat (by omega)
         obtain ⟨ka0, ka1, ka2, ka3, ka4⟩ := id hWA)
      | skip
    refine xr_s1_5 hc rfl rfl rfl ?_
    refine xr_go hc rfl rfl ?_
    refine xr_gf2 (A := 4) (w := 5) rfl hc rfl (ew_own_p hn rfl) (ew_pm hp rfl) ?_
    refine xr_go hc rfl rfl ?_
    by_cases hwb : 0 ≤ b ∧ b < V 6 0
    · skip
      refine xr_v_2 hc rfl rfl (ew_own_p hn rfl) (c_numbered hC hwb) ?_
      first
        | (have hwg := v4 b.toNat (by omega)
           have hg59 := hwg.1
           simp only [ew_own, Bool.and_eq_true, decide_eq_true_eq] at hg59
           have hWB := hVW b.toNat (by omega)
           obtain ⟨kb0, kb1, kb2, kb3, kb4⟩ := id hWB)
        | skip
      refine xr_s1_6 hc rfl rfl rfl ?_
      refine xr_go hc rfl rfl ?_
      refine xr_null hc rfl (fun c1 => by exfalso; omega) (fun c1 => ?_)
      refine xr_go hc rfl rfl ?_
      refine xr_nonnull hc rfl (fun c2 => ?_) (fun c2 => by exfalso; omega)
      refine xr_go hc rfl rfl ?_
      refine xr_go hc rfl rfl ?_
      refine xr_v_2 hc rfl rfl hwf.1 (c_hasPlace hn hp hwf (hVW _ (by omega)) hp_) ?_
      refine xr_if_eq hc rfl (by omega) (fun c3 => ?_) (fun c3 => ?_)
      · skip
        refine xr_go hc rfl rfl ?_
        refine xr_ret hc rfl rfl ?_
        refine ⟨?_, rfl, rfl⟩
        unfold s_a_meeting
        repeat' split
        all_goals first
          | rfl
          | (exfalso; omega)
          | (congr 2; omega)
      · skip
        refine xr_go hc rfl rfl ?_
        refine xr_go hc rfl rfl ?_
        refine xr_v_2 hc rfl rfl hwg.1 (c_hasPlace hn hp hwg (hVW _ (by omega)) hq) ?_
        refine xr_if_ne hc rfl (by omega) (fun c4 => ?_) (fun c4 => ?_)
        · skip
          refine xr_go hc rfl rfl ?_
          refine xr_gf0 rfl hc rfl hwf.1 hwf.2.1 ?_
          refine xr_go hc rfl rfl ?_
          refine xr_icmp_ne hc rfl (by omega) (by decide) (fun c5 => ?_) (fun c5 => ?_)
          · skip
            refine xr_go hc rfl rfl ?_
            refine xr_gf2 (A := 4) (w := 5) rfl hc rfl (ew_own_p hn rfl) (ew_pm hp rfl) ?_
            refine xr_go hc rfl rfl ?_
            refine xr_go hc rfl rfl ?_
            refine xr_go hc rfl rfl ?_
            refine xr_go hc rfl rfl ?_
            refine xr_v_5 hc rfl rfl (ew_own_p hn rfl) (c_firstMeeting hC hwa hwb hp_ hq) ?_
            have hmb := s_meet_bd V a.toNat p b.toNat q
            have hmc := s_meet_bd V b.toNat q a.toNat p
            have hcomm := s_meet_comm V a.toNat p b.toNat q
            refine xr_s1_7 hc rfl rfl rfl ?_
            refine xr_go hc rfl rfl ?_
            refine xr_go hc rfl rfl ?_
            refine xr_icmp_le hc rfl (by omega) (by decide) (fun c6 => ?_) (fun c6 => ?_)
            · skip
              refine xr_go hc rfl rfl ?_
              refine xr_ret hc rfl rfl ?_
              refine ⟨?_, rfl, rfl⟩
              unfold s_a_meeting
              repeat' split
              all_goals first
                | rfl
                | (exfalso; omega)
                | (congr 2; omega)
            · skip
              refine xr_go hc rfl rfl ?_
              refine xr_go hc rfl rfl ?_
              refine xr_ret hc rfl rfl ?_
              refine ⟨?_, rfl, rfl⟩
              unfold s_a_meeting
              repeat' split
              all_goals first
                | rfl
                | (exfalso; omega)
                | (congr 2; omega)
          · skip
            refine xr_go hc rfl rfl ?_
            refine xr_gf2 (A := 4) (w := 5) rfl hc rfl (ew_own_p hn rfl) (ew_pm hp rfl) ?_
            refine xr_go hc rfl rfl ?_
            refine xr_go hc rfl rfl ?_
            refine xr_go hc rfl rfl ?_
            refine xr_go hc rfl rfl ?_
            refine xr_v_5 hc rfl rfl (ew_own_p hn rfl) (c_firstMeeting hC hwb hwa hq hp_) ?_
            refine xr_go hc rfl rfl ?_
            have hmb := s_meet_bd V a.toNat p b.toNat q
            have hmc := s_meet_bd V b.toNat q a.toNat p
            have hcomm := s_meet_comm V a.toNat p b.toNat q
            refine xr_s1_7 hc rfl rfl rfl ?_
            refine xr_go hc rfl rfl ?_
            refine xr_go hc rfl rfl ?_
            refine xr_icmp_le hc rfl (by omega) (by decide) (fun c7 => ?_) (fun c7 => ?_)
            · skip
              refine xr_go hc rfl rfl ?_
              refine xr_ret hc rfl rfl ?_
              refine ⟨?_, rfl, rfl⟩
              unfold s_a_meeting
              repeat' split
              all_goals first
                | rfl
                | (exfalso; omega)
                | (congr 2; omega)
            · skip
              refine xr_go hc rfl rfl ?_
              refine xr_go hc rfl rfl ?_
              refine xr_ret hc rfl rfl ?_
              refine ⟨?_, rfl, rfl⟩
              unfold s_a_meeting
              repeat' split
              all_goals first
                | rfl
                | (exfalso; omega)
                | (congr 2; omega)
        · skip
          refine xr_go hc rfl rfl ?_
          refine xr_ret hc rfl rfl ?_
          refine ⟨?_, rfl, rfl⟩
          unfold s_a_meeting
          repeat' split
          all_goals first
            | rfl
            | (exfalso; omega)
            | (congr 2; omega)
    · skip
      refine xr_v_2 hc rfl rfl (ew_own_p hn rfl) (c_numberedN hC hb hwb) ?_
      first
        | (have hwg := v4 b.toNat (by omega)
           have hg59 := hwg.1
           simp only [ew_own, Bool.and_eq_true, decide_eq_true_eq] at hg59
           have hWB := hVW b.toNat (by omega)
           obtain ⟨kb0, kb1, kb2, kb3, kb4⟩ := id hWB)
        | skip
      refine xr_s1_6 hc rfl rfl rfl ?_
      refine xr_go hc rfl rfl ?_
      refine xr_null hc rfl (fun c8 => by exfalso; omega) (fun c8 => ?_)
      refine xr_go hc rfl rfl ?_
      refine xr_nonnull hc rfl (fun c9 => by exfalso; omega) (fun c9 => ?_)
      refine xr_go hc rfl rfl ?_
      refine xr_ret hc rfl rfl ?_
      refine ⟨?_, rfl, rfl⟩
      unfold s_a_meeting
      repeat' split
      all_goals first
        | rfl
        | (exfalso; omega)
        | (congr 2; omega)
  · skip
    refine xr_v_2 hc rfl rfl (ew_own_p hn rfl) (c_numberedN hC ha hwa) ?_
    first
      | (have hwf := v4 a.toNat (by omega)
         have hw59 := hwf.1
         simp only [ew_own, Bool.and_eq_true, decide_eq_true_eq] at hw59
         have hWA := hVW a.toNat (by omega)
         obtain ⟨ka0, ka1, ka2, ka3, ka4⟩ := id hWA)
      | skip
    refine xr_s1_5 hc rfl rfl rfl ?_
    refine xr_go hc rfl rfl ?_
    refine xr_gf2 (A := 4) (w := 5) rfl hc rfl (ew_own_p hn rfl) (ew_pm hp rfl) ?_
    refine xr_go hc rfl rfl ?_
    by_cases hwb : 0 ≤ b ∧ b < V 6 0
    · skip
      refine xr_v_2 hc rfl rfl (ew_own_p hn rfl) (c_numbered hC hwb) ?_
      first
        | (have hwg := v4 b.toNat (by omega)
           have hg59 := hwg.1
           simp only [ew_own, Bool.and_eq_true, decide_eq_true_eq] at hg59
           have hWB := hVW b.toNat (by omega)
           obtain ⟨kb0, kb1, kb2, kb3, kb4⟩ := id hWB)
        | skip
      refine xr_s1_6 hc rfl rfl rfl ?_
      refine xr_go hc rfl rfl ?_
      refine xr_null hc rfl (fun c10 => ?_) (fun c10 => by exfalso; omega)
      refine xr_go hc rfl rfl ?_
      refine xr_ret hc rfl rfl ?_
      refine ⟨?_, rfl, rfl⟩
      unfold s_a_meeting
      repeat' split
      all_goals first
        | rfl
        | (exfalso; omega)
        | (congr 2; omega)
    · skip
      refine xr_v_2 hc rfl rfl (ew_own_p hn rfl) (c_numberedN hC hb hwb) ?_
      first
        | (have hwg := v4 b.toNat (by omega)
           have hg59 := hwg.1
           simp only [ew_own, Bool.and_eq_true, decide_eq_true_eq] at hg59
           have hWB := hVW b.toNat (by omega)
           obtain ⟨kb0, kb1, kb2, kb3, kb4⟩ := id hWB)
        | skip
      refine xr_s1_6 hc rfl rfl rfl ?_
      refine xr_go hc rfl rfl ?_
      refine xr_null hc rfl (fun c11 => ?_) (fun c11 => by exfalso; omega)
      refine xr_go hc rfl rfl ?_
      refine xr_ret hc rfl rfl ?_
      refine ⟨?_, rfl, rfl⟩
      unfold s_a_meeting
      repeat' split
      all_goals first
        | rfl
        | (exfalso; omega)
        | (congr 2; omega)

set_option maxRecDepth 20000 in
theorem cx_ar_1 {V : ew_Mem} {n : Nat} {M : ew_Mem} (hC : s_C V n M) {x : Int} : ∀ (j : Nat) (i c : Int) (q5 q6 : ew_AV), 0 ≤ i → i + (j : Int) = 32 → 1 ≤ c → c < 9223372036854775808 →
    ew_X 121 5 [(2, 4), (0, x), (1, c), (5, 0), (0, i), q5, q6, (5, 0)] [] n M (fun r a1 b1 => r = some (1, s_ar V x j i c) ∧ a1 = n ∧ b1 = M) := by
  obtain ⟨hn, hp, hV, v0, v1, v2, v3, v4⟩ := id hC
  obtain ⟨hc6, hVW, hnd, hap, hr0, hr1, hr2, hr3, hr4, hr5⟩ := id hV
  have hc := ew_c_121
  intro j
  induction j with
  | zero =>
    intro i c q5 q6 hi hij hc1 hc2
    refine xr_go hc rfl rfl ?_
    refine xr_go hc rfl rfl ?_
    refine xr_icmp_ge hc rfl (by omega) (by decide) (fun c1 => ?_) (fun c1 => ?_)
    · skip
      refine xr_go hc rfl rfl ?_
      refine xr_ret hc rfl rfl ?_
      exact ⟨by rw [s_ar], rfl, rfl⟩
    · exfalso; omega
  | succ j ih =>
    intro i c q5 q6 hi hij hc1 hc2
    refine xr_go hc rfl rfl ?_
    refine xr_go hc rfl rfl ?_
    refine xr_icmp_ge hc rfl (by omega) (by decide) (fun c1 => ?_) (fun c1 => ?_)
    · exfalso; omega
    · skip
      refine xr_go hc rfl rfl ?_
      refine xr_go hc rfl rfl ?_
      refine xr_go hc rfl rfl ?_
      refine xr_go hc rfl rfl ?_
      refine xr_go hc rfl rfl ?_
      refine xr_go hc rfl rfl ?_
      refine xr_icmp_ne hc rfl (by have := s_bt_01 x i; unfold s_bt at this; omega) (by decide) (fun c2 => ?_) (fun c2 => ?_)
      · try (exfalso; omega)
        all_goals
          refine xr_inc_4 hc rfl ?_
          refine xr_go hc rfl rfl ?_
          have hbt : s_bt x i = 1 ∨ ¬ s_bt x i = 1 := by omega
          rw [s_ar]
          first
            | (rw [if_neg (by unfold s_bt; omega)]
               exact ih (i + 1) c _ _ (by omega) (by omega) (by omega) (by omega))
            | (rw [if_pos (by unfold s_bt; omega), if_pos (by omega), if_neg (by omega)]
               exact ih (i + 1) _ _ _ (by omega) (by omega) (by omega) (by omega))
      · try (exfalso; omega)
        all_goals
          refine xr_go hc rfl rfl ?_
          refine xr_gf2 (A := 4) (w := 5) rfl hc rfl (ew_own_p hn rfl) (ew_pm hp rfl) ?_
          refine xr_go hc rfl rfl ?_
          by_cases hwn : 0 ≤ i ∧ i < V 6 0
          · skip
            refine xr_v_2 hc rfl rfl (ew_own_p hn rfl) (c_numbered hC hwn) ?_
            first
              | (have hwf := v4 i.toNat (by omega)
                 have hw59 := hwf.1
                 simp only [ew_own, Bool.and_eq_true, decide_eq_true_eq] at hw59
                 have hWO := hVW i.toNat (by omega)
                 obtain ⟨k0, k1, k2, k3, k4⟩ := id hWO)
              | skip
            refine xr_s1_5 hc rfl rfl rfl ?_
            refine xr_go hc rfl rfl ?_
            refine xr_nonnull hc rfl (fun c3 => ?_) (fun c3 => by exfalso; omega)
            refine xr_go hc rfl rfl ?_
            by_cases h6 : V i.toNat 0 = 4
            · skip
              refine xr_v_1 hc rfl rfl hwf.1 (by have h := c_ownPeriod hn hp hwf hWO; rw [if_pos h6] at h; exact h) ?_
              refine xr_s2_6 hc rfl rfl rfl ?_
              first
                | (have hpb := s_per_bd hWO
                   have hg1 := s_gcd_pos (x := c) (y := s_per (V i.toNat)) (by omega)
                   have hg2 := s_gcd_le (x := s_per (V i.toNat)) (y := c) (by omega)
                   rw [s_gcd_comm] at hg2
                   have hg3 := s_div_pos hg1 hg2)
                | skip
              refine xr_go hc rfl rfl ?_
              refine xr_go hc rfl rfl ?_
              refine xr_l_ne hc rfl rfl (by omega) (by omega) (fun c4 => ?_) (fun c4 => ?_)
              · try (exfalso; omega)
                all_goals
                  refine xr_go hc rfl rfl ?_
                  refine xr_go hc rfl rfl ?_
                  by_cases h8 : 9223372036854775807 / (s_per (V i.toNat) / s_gcd c (s_per (V i.toNat))) < c
                  · skip
                    refine xr_s_2 hc rfl rfl (by have h := c_lcm (n := n) (M := M) (x := c) (y := s_per (V i.toNat)) (by omega) (by omega); rw [if_pos h8] at h; exact h) ?_
                    first
                      | (have hmm := s_ar_mul (c := c) (y := s_per (V i.toNat) / s_gcd c (s_per (V i.toNat))) (by omega) (by omega) h8)
                      | skip
                    refine xr_s2_2 hc rfl rfl rfl ?_
                    refine xr_go hc rfl rfl ?_
                    refine xr_go hc rfl rfl ?_
                    refine xr_l_ne hc rfl rfl (by omega) (by omega) (fun c5 => ?_) (fun c5 => ?_)
                    · try (exfalso; omega)
                      all_goals
                        refine xr_inc_4 hc rfl ?_
                        refine xr_go hc rfl rfl ?_
                        have hbt : s_bt x i = 1 ∨ ¬ s_bt x i = 1 := by omega
                        rw [s_ar]
                        first
                          | (rw [if_neg (by unfold s_bt; omega)]
                             exact ih (i + 1) c _ _ (by omega) (by omega) (by omega) (by omega))
                          | (rw [if_pos (by unfold s_bt; omega), if_pos (by omega), if_neg (by omega)]
                             exact ih (i + 1) _ _ _ (by omega) (by omega) (by omega) (by omega))
                    · try (exfalso; omega)
                      all_goals
                        refine xr_go hc rfl rfl ?_
                        refine xr_ret hc rfl rfl ?_
                        refine ⟨?_, rfl, rfl⟩
                        rw [s_ar, if_pos (by unfold s_bt; omega)]
                        first
                          | (rw [if_neg (by omega)]; rfl)
                          | (rw [if_pos (by omega), if_pos (by omega)]; rfl)
                  · skip
                    refine xr_s_2 hc rfl rfl (by have h := c_lcm (n := n) (M := M) (x := c) (y := s_per (V i.toNat)) (by omega) (by omega); rw [if_neg h8] at h; exact h) ?_
                    first
                      | (have hmm := s_ar_mul (c := c) (y := s_per (V i.toNat) / s_gcd c (s_per (V i.toNat))) (by omega) (by omega) h8)
                      | skip
                    refine xr_s2_2 hc rfl rfl rfl ?_
                    refine xr_go hc rfl rfl ?_
                    refine xr_go hc rfl rfl ?_
                    refine xr_l_ne hc rfl rfl (by omega) (by omega) (fun c6 => ?_) (fun c6 => ?_)
                    · try (exfalso; omega)
                      all_goals
                        refine xr_inc_4 hc rfl ?_
                        refine xr_go hc rfl rfl ?_
                        have hbt : s_bt x i = 1 ∨ ¬ s_bt x i = 1 := by omega
                        rw [s_ar]
                        first
                          | (rw [if_neg (by unfold s_bt; omega)]
                             exact ih (i + 1) c _ _ (by omega) (by omega) (by omega) (by omega))
                          | (rw [if_pos (by unfold s_bt; omega), if_pos (by omega), if_neg (by omega)]
                             exact ih (i + 1) _ _ _ (by omega) (by omega) (by omega) (by omega))
                    · try (exfalso; omega)
                      all_goals
                        refine xr_go hc rfl rfl ?_
                        refine xr_ret hc rfl rfl ?_
                        refine ⟨?_, rfl, rfl⟩
                        rw [s_ar, if_pos (by unfold s_bt; omega)]
                        first
                          | (rw [if_neg (by omega)]; rfl)
                          | (rw [if_pos (by omega), if_pos (by omega)]; rfl)
              · try (exfalso; omega)
                all_goals
                  refine xr_go hc rfl rfl ?_
                  refine xr_go hc rfl rfl ?_
                  first
                    | (have hmm := s_ar_mul (c := c) (y := s_per (V i.toNat) / s_gcd c (s_per (V i.toNat))) (by omega) (by omega) h8)
                    | skip
                  refine xr_s2_2 hc rfl rfl rfl ?_
                  refine xr_go hc rfl rfl ?_
                  refine xr_go hc rfl rfl ?_
                  refine xr_l_ne hc rfl rfl (by omega) (by omega) (fun c7 => ?_) (fun c7 => ?_)
                  · try (exfalso; omega)
                    all_goals
                      refine xr_inc_4 hc rfl ?_
                      refine xr_go hc rfl rfl ?_
                      have hbt : s_bt x i = 1 ∨ ¬ s_bt x i = 1 := by omega
                      rw [s_ar]
                      first
                        | (rw [if_neg (by unfold s_bt; omega)]
                           exact ih (i + 1) c _ _ (by omega) (by omega) (by omega) (by omega))
                        | (rw [if_pos (by unfold s_bt; omega), if_pos (by omega), if_neg (by omega)]
                           exact ih (i + 1) _ _ _ (by omega) (by omega) (by omega) (by omega))
                  · try (exfalso; omega)
                    all_goals
                      refine xr_go hc rfl rfl ?_
                      refine xr_ret hc rfl rfl ?_
                      refine ⟨?_, rfl, rfl⟩
                      rw [s_ar, if_pos (by unfold s_bt; omega)]
                      first
                        | (rw [if_neg (by omega)]; rfl)
                        | (rw [if_pos (by omega), if_pos (by omega)]; rfl)
            · skip
              refine xr_v_1 hc rfl rfl hwf.1 (by have h := c_ownPeriod hn hp hwf hWO; rw [if_neg h6] at h; exact h) ?_
              refine xr_s2_6 hc rfl rfl rfl ?_
              first
                | (have hpb := s_per_bd hWO
                   have hg1 := s_gcd_pos (x := c) (y := s_per (V i.toNat)) (by omega)
                   have hg2 := s_gcd_le (x := s_per (V i.toNat)) (y := c) (by omega)
                   rw [s_gcd_comm] at hg2
                   have hg3 := s_div_pos hg1 hg2)
                | skip
              refine xr_go hc rfl rfl ?_
              refine xr_go hc rfl rfl ?_
              refine xr_l_ne hc rfl rfl (by omega) (by omega) (fun c8 => ?_) (fun c8 => ?_)
              · try (exfalso; omega)
                all_goals
                  refine xr_go hc rfl rfl ?_
                  refine xr_go hc rfl rfl ?_
                  by_cases h8 : 9223372036854775807 / (s_per (V i.toNat) / s_gcd c (s_per (V i.toNat))) < c
                  · skip
                    refine xr_s_2 hc rfl rfl (by have h := c_lcm (n := n) (M := M) (x := c) (y := s_per (V i.toNat)) (by omega) (by omega); rw [if_pos h8] at h; exact h) ?_
                    first
                      | (have hmm := s_ar_mul (c := c) (y := s_per (V i.toNat) / s_gcd c (s_per (V i.toNat))) (by omega) (by omega) h8)
                      | skip
                    refine xr_s2_2 hc rfl rfl rfl ?_
                    refine xr_go hc rfl rfl ?_
                    refine xr_go hc rfl rfl ?_
                    refine xr_l_ne hc rfl rfl (by omega) (by omega) (fun c9 => ?_) (fun c9 => ?_)
                    · try (exfalso; omega)
                      all_goals
                        refine xr_inc_4 hc rfl ?_
                        refine xr_go hc rfl rfl ?_
                        have hbt : s_bt x i = 1 ∨ ¬ s_bt x i = 1 := by omega
                        rw [s_ar]
                        first
                          | (rw [if_neg (by unfold s_bt; omega)]
                             exact ih (i + 1) c _ _ (by omega) (by omega) (by omega) (by omega))
                          | (rw [if_pos (by unfold s_bt; omega), if_pos (by omega), if_neg (by omega)]
                             exact ih (i + 1) _ _ _ (by omega) (by omega) (by omega) (by omega))
                    · try (exfalso; omega)
                      all_goals
                        refine xr_go hc rfl rfl ?_
                        refine xr_ret hc rfl rfl ?_
                        refine ⟨?_, rfl, rfl⟩
                        rw [s_ar, if_pos (by unfold s_bt; omega)]
                        first
                          | (rw [if_neg (by omega)]; rfl)
                          | (rw [if_pos (by omega), if_pos (by omega)]; rfl)
                  · skip
                    refine xr_s_2 hc rfl rfl (by have h := c_lcm (n := n) (M := M) (x := c) (y := s_per (V i.toNat)) (by omega) (by omega); rw [if_neg h8] at h; exact h) ?_
                    first
                      | (have hmm := s_ar_mul (c := c) (y := s_per (V i.toNat) / s_gcd c (s_per (V i.toNat))) (by omega) (by omega) h8)
                      | skip
                    refine xr_s2_2 hc rfl rfl rfl ?_
                    refine xr_go hc rfl rfl ?_
                    refine xr_go hc rfl rfl ?_
                    refine xr_l_ne hc rfl rfl (by omega) (by omega) (fun c10 => ?_) (fun c10 => ?_)
                    · try (exfalso; omega)
                      all_goals
                        refine xr_inc_4 hc rfl ?_
                        refine xr_go hc rfl rfl ?_
                        have hbt : s_bt x i = 1 ∨ ¬ s_bt x i = 1 := by omega
                        rw [s_ar]
                        first
                          | (rw [if_neg (by unfold s_bt; omega)]
                             exact ih (i + 1) c _ _ (by omega) (by omega) (by omega) (by omega))
                          | (rw [if_pos (by unfold s_bt; omega), if_pos (by omega), if_neg (by omega)]
                             exact ih (i + 1) _ _ _ (by omega) (by omega) (by omega) (by omega))
                    · try (exfalso; omega)
                      all_goals
                        refine xr_go hc rfl rfl ?_
                        refine xr_ret hc rfl rfl ?_
                        refine ⟨?_, rfl, rfl⟩
                        rw [s_ar, if_pos (by unfold s_bt; omega)]
                        first
                          | (rw [if_neg (by omega)]; rfl)
                          | (rw [if_pos (by omega), if_pos (by omega)]; rfl)
              · try (exfalso; omega)
                all_goals
                  refine xr_go hc rfl rfl ?_
                  refine xr_go hc rfl rfl ?_
                  first
                    | (have hmm := s_ar_mul (c := c) (y := s_per (V i.toNat) / s_gcd c (s_per (V i.toNat))) (by omega) (by omega) h8)
                    | skip
                  refine xr_s2_2 hc rfl rfl rfl ?_
                  refine xr_go hc rfl rfl ?_
                  refine xr_go hc rfl rfl ?_
                  refine xr_l_ne hc rfl rfl (by omega) (by omega) (fun c11 => ?_) (fun c11 => ?_)
                  · try (exfalso; omega)
                    all_goals
                      refine xr_inc_4 hc rfl ?_
                      refine xr_go hc rfl rfl ?_
                      have hbt : s_bt x i = 1 ∨ ¬ s_bt x i = 1 := by omega
                      rw [s_ar]
                      first
                        | (rw [if_neg (by unfold s_bt; omega)]
                           exact ih (i + 1) c _ _ (by omega) (by omega) (by omega) (by omega))
                        | (rw [if_pos (by unfold s_bt; omega), if_pos (by omega), if_neg (by omega)]
                           exact ih (i + 1) _ _ _ (by omega) (by omega) (by omega) (by omega))
                  · try (exfalso; omega)
                    all_goals
                      refine xr_go hc rfl rfl ?_
                      refine xr_ret hc rfl rfl ?_
                      refine ⟨?_, rfl, rfl⟩
                      rw [s_ar, if_pos (by unfold s_bt; omega)]
                      first
                        | (rw [if_neg (by omega)]; rfl)
                        | (rw [if_pos (by omega), if_pos (by omega)]; rfl)
          · skip
            refine xr_v_2 hc rfl rfl (ew_own_p hn rfl) (c_numberedN hC (by omega) hwn) ?_
            first
              | (have hwf := v4 i.toNat (by omega)
                 have hw59 := hwf.1
                 simp only [ew_own, Bool.and_eq_true, decide_eq_true_eq] at hw59
                 have hWO := hVW i.toNat (by omega)
                 obtain ⟨k0, k1, k2, k3, k4⟩ := id hWO)
              | skip
            refine xr_s1_5 hc rfl rfl rfl ?_
            refine xr_go hc rfl rfl ?_
            refine xr_nonnull hc rfl (fun c12 => by exfalso; omega) (fun c12 => ?_)
            refine xr_go hc rfl rfl ?_
            refine xr_go hc rfl rfl ?_
            refine xr_s2_6 hc rfl rfl rfl ?_
            first
              | (have hpb := s_per_bd hWO
                 have hg1 := s_gcd_pos (x := c) (y := s_per (V i.toNat)) (by omega)
                 have hg2 := s_gcd_le (x := s_per (V i.toNat)) (y := c) (by omega)
                 rw [s_gcd_comm] at hg2
                 have hg3 := s_div_pos hg1 hg2)
              | skip
            refine xr_go hc rfl rfl ?_
            refine xr_go hc rfl rfl ?_
            refine xr_l_ne hc rfl rfl (by omega) (by omega) (fun c13 => ?_) (fun c13 => ?_)
            · try (exfalso; omega)
              all_goals
                refine xr_go hc rfl rfl ?_
                refine xr_go hc rfl rfl ?_
                by_cases h8 : 9223372036854775807 / (s_per (V i.toNat) / s_gcd c (s_per (V i.toNat))) < c
                · skip
                  refine xr_s_2 hc rfl rfl (by have h := c_lcm (n := n) (M := M) (x := c) (y := s_per (V i.toNat)) (by omega) (by omega); rw [if_pos h8] at h; exact h) ?_
                  first
                    | (have hmm := s_ar_mul (c := c) (y := s_per (V i.toNat) / s_gcd c (s_per (V i.toNat))) (by omega) (by omega) h8)
                    | skip
                  refine xr_s2_2 hc rfl rfl rfl ?_
                  refine xr_go hc rfl rfl ?_
                  refine xr_go hc rfl rfl ?_
                  refine xr_l_ne hc rfl rfl (by omega) (by omega) (fun c14 => ?_) (fun c14 => ?_)
                  · try (exfalso; omega)
                    all_goals
                      refine xr_inc_4 hc rfl ?_
                      refine xr_go hc rfl rfl ?_
                      have hbt : s_bt x i = 1 ∨ ¬ s_bt x i = 1 := by omega
                      rw [s_ar]
                      first
                        | (rw [if_neg (by unfold s_bt; omega)]
                           exact ih (i + 1) c _ _ (by omega) (by omega) (by omega) (by omega))
                        | (rw [if_pos (by unfold s_bt; omega), if_pos (by omega), if_neg (by omega)]
                           exact ih (i + 1) _ _ _ (by omega) (by omega) (by omega) (by omega))
                  · try (exfalso; omega)
                    all_goals
                      refine xr_go hc rfl rfl ?_
                      refine xr_ret hc rfl rfl ?_
                      refine ⟨?_, rfl, rfl⟩
                      rw [s_ar, if_pos (by unfold s_bt; omega)]
                      first
                        | (rw [if_neg (by omega)]; rfl)
                        | (rw [if_pos (by omega), if_pos (by omega)]; rfl)
                · skip
                  refine xr_s_2 hc rfl rfl (by have h := c_lcm (n := n) (M := M) (x := c) (y := s_per (V i.toNat)) (by omega) (by omega); rw [if_neg h8] at h; exact h) ?_
                  first
                    | (have hmm := s_ar_mul (c := c) (y := s_per (V i.toNat) / s_gcd c (s_per (V i.toNat))) (by omega) (by omega) h8)
                    | skip
                  refine xr_s2_2 hc rfl rfl rfl ?_
                  refine xr_go hc rfl rfl ?_
                  refine xr_go hc rfl rfl ?_
                  refine xr_l_ne hc rfl rfl (by omega) (by omega) (fun c15 => ?_) (fun c15 => ?_)
                  · try (exfalso; omega)
                    all_goals
                      refine xr_inc_4 hc rfl ?_
                      refine xr_go hc rfl rfl ?_
                      have hbt : s_bt x i = 1 ∨ ¬ s_bt x i = 1 := by omega
                      rw [s_ar]
                      first
                        | (rw [if_neg (by unfold s_bt; omega)]
                           exact ih (i + 1) c _ _ (by omega) (by omega) (by omega) (by omega))
                        | (rw [if_pos (by unfold s_bt; omega), if_pos (by omega), if_neg (by omega)]
                           exact ih (i + 1) _ _ _ (by omega) (by omega) (by omega) (by omega))
                  · try (exfalso; omega)
                    all_goals
                      refine xr_go hc rfl rfl ?_
                      refine xr_ret hc rfl rfl ?_
                      refine ⟨?_, rfl, rfl⟩
                      rw [s_ar, if_pos (by unfold s_bt; omega)]
                      first
                        | (rw [if_neg (by omega)]; rfl)
                        | (rw [if_pos (by omega), if_pos (by omega)]; rfl)
            · try (exfalso; omega)
              all_goals
                refine xr_go hc rfl rfl ?_
                refine xr_go hc rfl rfl ?_
                first
                  | (have hmm := s_ar_mul (c := c) (y := s_per (V i.toNat) / s_gcd c (s_per (V i.toNat))) (by omega) (by omega) h8)
                  | skip
                refine xr_s2_2 hc rfl rfl rfl ?_
                refine xr_go hc rfl rfl ?_
                refine xr_go hc rfl rfl ?_
                refine xr_l_ne hc rfl rfl (by omega) (by omega) (fun c16 => ?_) (fun c16 => ?_)
                · try (exfalso; omega)
                  all_goals
                    refine xr_inc_4 hc rfl ?_
                    refine xr_go hc rfl rfl ?_
                    have hbt : s_bt x i = 1 ∨ ¬ s_bt x i = 1 := by omega
                    rw [s_ar]
                    first
                      | (rw [if_neg (by unfold s_bt; omega)]
                         exact ih (i + 1) c _ _ (by omega) (by omega) (by omega) (by omega))
                      | (rw [if_pos (by unfold s_bt; omega), if_pos (by omega), if_neg (by omega)]
                         exact ih (i + 1) _ _ _ (by omega) (by omega) (by omega) (by omega))
                · try (exfalso; omega)
                  all_goals
                    refine xr_go hc rfl rfl ?_
                    refine xr_ret hc rfl rfl ?_
                    refine ⟨?_, rfl, rfl⟩
                    rw [s_ar, if_pos (by unfold s_bt; omega)]
                    first
                      | (rw [if_neg (by omega)]; rfl)
                      | (rw [if_pos (by omega), if_pos (by omega)]; rfl)

set_option maxRecDepth 20000 in
theorem cx_allRound {V : ew_Mem} {n : Nat} {M : ew_Mem} (hC : s_C V n M) {x : Int} (hx : ew_in x) : ew_FM 121 [(2, 4), (0, x)] n M (1, s_a_allRound V x) n M := by
  obtain ⟨hn, hp, hV, v0, v1, v2, v3, v4⟩ := id hC
  obtain ⟨hc6, hVW, hnd, hap, hr0, hr1, hr2, hr3, hr4, hr5⟩ := id hV
  have hc := ew_c_121
  show ew_X 121 0 [(2, 4), (0, x), (5, 0), (5, 0), (5, 0), (5, 0), (5, 0), (5, 0)] [] n M _
  refine xr_go hc rfl rfl ?_
  refine xr_s2_2 hc rfl rfl rfl ?_
  refine xr_go hc rfl rfl ?_
  refine xr_s1_4 hc rfl rfl rfl ?_
  exact cx_ar_1 hC 32 0 1 (5, 0) (5, 0) (by decide) (by decide) (by decide) (by decide)

