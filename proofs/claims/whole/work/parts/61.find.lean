/-! eclipses from a month on, gaps, records: both sides -/
set_option maxRecDepth 20000 in
theorem c_find_1 {V : ew_Mem} {n : Nat} {M : ew_Mem} (hC : s_C V n M) {m0 c b : Int} (hc0 : 0 ≤ c ∧ c ≤ 61) (hb : b ≤ 100000) : ∀ (j : Nat) (m : Int) (P : List Int), m + (j : Int) = b + 1 → -100000 ≤ m → (P.length : Int) ≤ max c 0 →
    ew_X 124 19 [(2, 4), (0, m0), (0, c), (0, (P.length : Int)), (0, b), (0, m)] [] n (s_put M 32 P) (fun r a b => r = some (0, ((P ++ s_es V j m (c - (P.length : Int))).length : Int)) ∧ a = n ∧ b = s_put M 32 (P ++ s_es V j m (c - (P.length : Int)))) := by
  have hcc := hC
  obtain ⟨hn, hp, -⟩ := id hC
  have hc := ew_c_124
  intro j
  induction j with
  | zero =>
    intro m P hj hm hl
    have hfr : s_Fr M (s_put M 32 P) := s_put_fr s_Fr_rfl (s_scr_c rfl)
    have hC2 := s_C_fr hfr hC
    have hp2 : ew_Pm (s_put M 32 P) := hC2.2.1
    refine xr_go hc rfl rfl ?_
    refine xr_go hc rfl rfl ?_
    refine xr_icmp_gt hc rfl (by omega) (by omega) (fun c1 => ?_) (fun c1 => ?_)
    · skip
      refine xr_go hc rfl rfl ?_
      refine xr_ret hc rfl rfl ?_
      exact ⟨by rw [s_es, List.append_nil], rfl, by rw [s_es, List.append_nil]⟩
    · exfalso; omega
  | succ j ih =>
    intro m P hj hm hl
    have hfr : s_Fr M (s_put M 32 P) := s_put_fr s_Fr_rfl (s_scr_c rfl)
    have hC2 := s_C_fr hfr hC
    have hp2 : ew_Pm (s_put M 32 P) := hC2.2.1
    have he := s_ecl_bd V m
    refine xr_go hc rfl rfl ?_
    refine xr_go hc rfl rfl ?_
    refine xr_icmp_gt hc rfl (by omega) (by omega) (fun c1 => ?_) (fun c1 => ?_)
    · exfalso; omega
    · skip
      refine xr_go hc rfl rfl ?_
      refine xr_go hc rfl rfl ?_
      refine xr_icmp_ge hc rfl (by omega) (by omega) (fun c2 => ?_) (fun c2 => ?_)
      · skip
        refine xr_go hc rfl rfl ?_
        refine xr_ret hc rfl rfl ?_
        exact ⟨by rw [s_es_0 (by omega), List.append_nil], rfl, by rw [s_es_0 (by omega), List.append_nil]⟩
      · skip
        refine xr_go hc rfl rfl ?_
        refine xr_go hc rfl rfl ?_
        refine xr_gf2 (A := 4) rfl hc rfl (ew_own_p hn rfl) (ew_pm (v := 32) hp2 rfl) ?_
        refine xr_alen (A := 32) (N := 61) (t := 20) rfl rfl hc rfl (ew_ok_p hn rfl) (by decide) ?_
        refine xr_icmp_ge hc rfl (by omega) (by decide) (fun c3 => ?_) (fun c3 => ?_)
        · exfalso; omega
        · skip
          refine xr_go hc rfl rfl ?_
          refine xr_gf2 (A := 4) rfl hc rfl (ew_own_p hn rfl) (ew_pm (v := 5) hp2 rfl) ?_
          refine xr_go hc rfl rfl ?_
          refine xr_v_2 hc rfl rfl (ew_own_p hn rfl) (c_eclipseAt hC2 (by omega)) ?_
          refine xr_if_eq hc rfl (by omega) (fun c4 => ?_) (fun c4 => ?_)
          · skip
            refine xr_inc_5 hc rfl ?_
            refine xr_go hc rfl rfl ?_
            first
              | (rw [Int.toNat_natCast, s_put_wr, show ((P.length : Int) + 1) = (((P ++ [m]).length : Nat) : Int) by simp, s_es, if_pos (by omega), if_neg (by omega), show P ++ m :: s_es V j (m + 1) (c - (P.length : Int) - 1) = (P ++ [m]) ++ s_es V j (m + 1) (c - ((P ++ [m]).length : Int)) by rw [List.append_assoc, List.length_append, show c - (P.length : Int) - 1 = c - ((P.length + [m].length : Nat) : Int) by simp; omega]; rfl]
                 exact ih (m + 1) (P ++ [m]) (by omega) (by omega) (by simp; omega))
              | (rw [s_es, if_pos (by omega), if_pos (by omega)]
                 exact ih (m + 1) P (by omega) (by omega) (by omega))
          · skip
            refine xr_go hc rfl rfl ?_
            refine xr_gf2 (A := 4) rfl hc rfl (ew_own_p hn rfl) (ew_pm (v := 32) hp2 rfl) ?_
            refine xr_go hc rfl rfl ?_
            refine xr_go hc rfl rfl ?_
            refine xr_iast (A := 32) (N := 61) rfl rfl hc rfl (ew_own_p hn rfl) (by omega) (by omega) ?_
            refine xr_inc_3 hc rfl ?_
            refine xr_inc_5 hc rfl ?_
            refine xr_go hc rfl rfl ?_
            first
              | (rw [Int.toNat_natCast, s_put_wr, show ((P.length : Int) + 1) = (((P ++ [m]).length : Nat) : Int) by simp, s_es, if_pos (by omega), if_neg (by omega), show P ++ m :: s_es V j (m + 1) (c - (P.length : Int) - 1) = (P ++ [m]) ++ s_es V j (m + 1) (c - ((P ++ [m]).length : Int)) by rw [List.append_assoc, List.length_append, show c - (P.length : Int) - 1 = c - ((P.length + [m].length : Nat) : Int) by simp; omega]; rfl]
                 exact ih (m + 1) (P ++ [m]) (by omega) (by omega) (by simp; omega))
              | (rw [s_es, if_pos (by omega), if_pos (by omega)]
                 exact ih (m + 1) P (by omega) (by omega) (by omega))

set_option maxRecDepth 20000 in
theorem c_find {V : ew_Mem} {n : Nat} {M : ew_Mem} (hC : s_C V n M) {m c : Int} (hm : s_isM m) (hc0 : 0 ≤ c ∧ c ≤ 61) : ew_FM 124 [(2, 4), (0, m), (0, c)] n M (0, ((s_E V m c).length : Int)) n (s_put M 32 (s_E V m c)) := by
  obtain ⟨hn, hp, hV, v0, v1, v2, v3, v4⟩ := id hC
  obtain ⟨hc6, hVW, hnd, hap, hr0, hr1, hr2, hr3, hr4, hr5⟩ := id hV
  have hc := ew_c_124
  show ew_X 124 0 [(2, 4), (0, m), (0, c), (5, 0), (5, 0), (5, 0)] [] n M _
  refine xr_go hc rfl rfl ?_
  refine xr_s1_3 hc rfl rfl rfl ?_
  refine xr_go hc rfl rfl ?_
  refine xr_go hc rfl rfl ?_
  refine xr_go hc rfl rfl ?_
  refine xr_go hc rfl rfl ?_
  refine xr_go hc rfl rfl ?_
  refine xr_go hc rfl rfl ?_
  refine xr_s_2 hc rfl rfl (c_minI (by omega) (by decide)) ?_
  refine xr_s1_4 hc rfl rfl rfl ?_
  refine xr_go hc rfl rfl ?_
  refine xr_s1_5 hc rfl rfl rfl ?_
  have h := c_find_1 hC (m0 := m) (c := c) (b := min (m + 3999) 100000) (by omega) (by omega) (min (m + 3999) 100000 - m + 1).toNat m [] (by omega) (by omega) (by simp; omega)
  rw [s_put_nil, List.nil_append, show c - (([] : List Int).length : Int) = c by simp] at h
  rw [show m + 4000 - 1 = m + 3999 by omega]
  exact h

set_option maxRecDepth 20000 in
theorem c_rec_1 {V : ew_Mem} {n : Nat} {M : ew_Mem} (hC : s_C V n M) (h0 : 0 < V 6 0) {k x : Int} (hk : 1 ≤ k ∧ k ≤ 2000) (hx : x = 0 ∨ x = 1) : ∀ (j : Nat) (d bst : Int) (P : List Int) (q : ew_AV), d + (j : Int) = k + 1 → 1 ≤ d → (P.length : Int) < d → ew_in bst →
    ew_X 109 9 [(2, 4), (0, k), (0, x), (0, (P.length : Int)), (0, bst), (0, d), q] [] n (s_put M 33 P) (fun r a b => r = some (0, ((P ++ s_rc V x j d bst).length : Int)) ∧ a = n ∧ b = s_put M 33 (P ++ s_rc V x j d bst)) := by
  obtain ⟨hn, hp, hV, -⟩ := id hC
  have hc := ew_c_109
  intro j
  induction j with
  | zero =>
    intro d bst P q hj hd hl hbs
    have hfr : s_Fr M (s_put M 33 P) := s_put_fr s_Fr_rfl (s_scr_c rfl)
    have hC2 := s_C_fr hfr hC
    have hp2 : ew_Pm (s_put M 33 P) := hC2.2.1
    refine xr_go hc rfl rfl ?_
    refine xr_go hc rfl rfl ?_
    refine xr_icmp_gt hc rfl (by omega) (by omega) (fun c1 => ?_) (fun c1 => ?_)
    · skip
      refine xr_go hc rfl rfl ?_
      refine xr_ret hc rfl rfl ?_
      exact ⟨by rw [s_rc, List.append_nil], rfl, by rw [s_rc, List.append_nil]⟩
    · exfalso; omega
  | succ j ih =>
    intro d bst P q hj hd hl hbs
    have hfr : s_Fr M (s_put M 33 P) := s_put_fr s_Fr_rfl (s_scr_c rfl)
    have hC2 := s_C_fr hfr hC
    have hp2 : ew_Pm (s_put M 33 P) := hC2.2.1
    have he := s_drift_bd hV h0 d x
    refine xr_go hc rfl rfl ?_
    refine xr_go hc rfl rfl ?_
    refine xr_icmp_gt hc rfl (by omega) (by omega) (fun c1 => ?_) (fun c1 => ?_)
    · exfalso; omega
    · skip
      refine xr_go hc rfl rfl ?_
      refine xr_go hc rfl rfl ?_
      refine xr_gf2 (A := 4) rfl hc rfl (ew_own_p hn rfl) (ew_pm (v := 33) hp2 rfl) ?_
      refine xr_alen (A := 33) (N := 2000) (t := 20) rfl rfl hc rfl (ew_ok_p hn rfl) (by decide) ?_
      refine xr_icmp_ge hc rfl (by omega) (by decide) (fun c2 => ?_) (fun c2 => ?_)
      · exfalso; omega
      · skip
        refine xr_go hc rfl rfl ?_
        refine xr_if_le hc rfl (by omega) (fun c3 => ?_) (fun c3 => ?_)
        · skip
          refine xr_go hc rfl rfl ?_
          refine xr_ret hc rfl rfl ?_
          exact ⟨by rw [s_rc_0 hV h0 (by omega), List.append_nil], rfl, by rw [s_rc_0 hV h0 (by omega), List.append_nil]⟩
        · skip
          refine xr_go hc rfl rfl ?_
          refine xr_gf2 (A := 4) rfl hc rfl (ew_own_p hn rfl) (ew_pm (v := 5) hp2 rfl) ?_
          refine xr_go hc rfl rfl ?_
          refine xr_go hc rfl rfl ?_
          refine xr_v_3 hc rfl rfl (ew_own_p hn rfl) (c_driftOf hC2 h0 (by omega) (by omega)) ?_
          refine xr_s1_6 hc rfl rfl rfl ?_
          refine xr_go hc rfl rfl ?_
          refine xr_go hc rfl rfl ?_
          refine xr_icmp_ge hc rfl (by omega) (by omega) (fun c4 => ?_) (fun c4 => ?_)
          · skip
            refine xr_inc_5 hc rfl ?_
            refine xr_go hc rfl rfl ?_
            first
              | (rw [Int.toNat_natCast, s_put_wr, show ((P.length : Int) + 1) = (((P ++ [d]).length : Nat) : Int) by simp, s_rc, if_pos (by omega), show P ++ d :: s_rc V x j (d + 1) (s_drift V d x) = (P ++ [d]) ++ s_rc V x j (d + 1) (s_drift V d x) by simp]
                 exact ih (d + 1) (s_drift V d x) (P ++ [d]) _ (by omega) (by omega) (by simp; omega) (by omega))
              | (rw [s_rc, if_neg (by omega)]
                 exact ih (d + 1) bst P _ (by omega) (by omega) (by omega) (by omega))
          · skip
            refine xr_go hc rfl rfl ?_
            refine xr_s1_4 hc rfl rfl rfl ?_
            refine xr_go hc rfl rfl ?_
            refine xr_gf2 (A := 4) rfl hc rfl (ew_own_p hn rfl) (ew_pm (v := 33) hp2 rfl) ?_
            refine xr_go hc rfl rfl ?_
            refine xr_go hc rfl rfl ?_
            refine xr_iast (A := 33) (N := 2000) rfl rfl hc rfl (ew_own_p hn rfl) (by omega) (by omega) ?_
            refine xr_inc_3 hc rfl ?_
            refine xr_inc_5 hc rfl ?_
            refine xr_go hc rfl rfl ?_
            first
              | (rw [Int.toNat_natCast, s_put_wr, show ((P.length : Int) + 1) = (((P ++ [d]).length : Nat) : Int) by simp, s_rc, if_pos (by omega), show P ++ d :: s_rc V x j (d + 1) (s_drift V d x) = (P ++ [d]) ++ s_rc V x j (d + 1) (s_drift V d x) by simp]
                 exact ih (d + 1) (s_drift V d x) (P ++ [d]) _ (by omega) (by omega) (by simp; omega) (by omega))
              | (rw [s_rc, if_neg (by omega)]
                 exact ih (d + 1) bst P _ (by omega) (by omega) (by omega) (by omega))

set_option maxRecDepth 20000 in
theorem c_findRecords {V : ew_Mem} {n : Nat} {M : ew_Mem} (hC : s_C V n M) (h0 : 0 < V 6 0) {k x : Int} (hk : 1 ≤ k ∧ k ≤ 2000) (hx : x = 0 ∨ x = 1) : ew_FM 109 [(2, 4), (0, k), (0, x)] n M (0, ((s_R0 V k x).length : Int)) n (s_put M 33 (s_R0 V k x)) := by
  obtain ⟨hn, hp, hV, v0, v1, v2, v3, v4⟩ := id hC
  obtain ⟨hc6, hVW, hnd, hap, hr0, hr1, hr2, hr3, hr4, hr5⟩ := id hV
  have hc := ew_c_109
  show ew_X 109 0 [(2, 4), (0, k), (0, x), (5, 0), (5, 0), (5, 0), (5, 0)] [] n M _
  refine xr_go hc rfl rfl ?_
  refine xr_s1_3 hc rfl rfl rfl ?_
  refine xr_go hc rfl rfl ?_
  refine xr_s1_4 hc rfl rfl rfl ?_
  refine xr_go hc rfl rfl ?_
  refine xr_s1_5 hc rfl rfl rfl ?_
  have h := c_rec_1 hC h0 hk hx k.toNat 1 100000 [] (5, 0) (by omega) (by decide) (by decide) (by decide)
  rw [s_put_nil, List.nil_append] at h
  exact h

set_option maxRecDepth 20000 in
theorem cx_records {V : ew_Mem} {n : Nat} {M : ew_Mem} (hC : s_C V n M) {k x : Int} (hk : ew_in k) (hx : ew_in x) : ew_C 108 [(2, 4), (0, k), (0, x)] n M (s_QF (0, s_a_records V k x) n M) := by
  obtain ⟨hn, hp, hV, v0, v1, v2, v3, v4⟩ := id hC
  obtain ⟨hc6, hVW, hnd, hap, hr0, hr1, hr2, hr3, hr4, hr5⟩ := id hV
  have hc := ew_c_108
  show ew_X 108 0 [(2, 4), (0, k), (0, x)] [] n M _
  refine xr_go hc rfl rfl ?_
  refine xr_s_1 hc rfl rfl (c_isCycle hk) ?_
  refine xr_if_eq hc rfl (by split <;> omega) (fun c1 => ?_) (fun c1 => ?_)
  · skip
    refine xr_go hc rfl rfl ?_
    refine xr_ret hc rfl rfl ?_
    refine ⟨?_, rfl, ?_⟩
    focus
      unfold s_a_records
      repeat' split
      all_goals first
        | rfl
        | (exfalso; omega)
        | (congr 2; omega)
    first
      | exact s_Fr_rfl
      | exact s_put_fr s_Fr_rfl (s_scr_c rfl)
  · skip
    refine xr_go hc rfl rfl ?_
    refine xr_if_lt hc rfl (by omega) (fun c2 => ?_) (fun c2 => ?_)
    · skip
      refine xr_go hc rfl rfl ?_
      refine xr_ret hc rfl rfl ?_
      refine ⟨?_, rfl, ?_⟩
      focus
        unfold s_a_records
        repeat' split
        all_goals first
          | rfl
          | (exfalso; omega)
          | (congr 2; omega)
      first
        | exact s_Fr_rfl
        | exact s_put_fr s_Fr_rfl (s_scr_c rfl)
    · skip
      refine xr_go hc rfl rfl ?_
      refine xr_go hc rfl rfl ?_
      refine xr_icmp_le hc rfl (by omega) (by decide) (fun c3 => ?_) (fun c3 => ?_)
      · skip
        refine xr_go hc rfl rfl ?_
        refine xr_gf2 (A := 4) (w := 5) rfl hc rfl (ew_own_p hn rfl) (ew_pm hp rfl) ?_
        refine xr_gf0 (A := 5) rfl hc rfl (ew_own_p hn rfl) v0 ?_
        refine xr_if_ne hc rfl (by omega) (fun c4 => ?_) (fun c4 => ?_)
        · skip
          refine xr_go hc rfl rfl ?_
          refine xr_go hc rfl rfl ?_
          refine xr_go hc rfl rfl ?_
          refine xr_v_3 hc rfl rfl (ew_own_p hn rfl) (c_findRecords hC (by omega) (by omega) (by omega)) ?_
          refine xr_ret hc rfl rfl ?_
          refine ⟨?_, rfl, ?_⟩
          focus
            unfold s_a_records
            repeat' split
            all_goals first
              | rfl
              | (exfalso; omega)
              | (congr 2; omega)
          first
            | exact s_Fr_rfl
            | exact s_put_fr s_Fr_rfl (s_scr_c rfl)
        · skip
          refine xr_go hc rfl rfl ?_
          refine xr_ret hc rfl rfl ?_
          refine ⟨?_, rfl, ?_⟩
          focus
            unfold s_a_records
            repeat' split
            all_goals first
              | rfl
              | (exfalso; omega)
              | (congr 2; omega)
          first
            | exact s_Fr_rfl
            | exact s_put_fr s_Fr_rfl (s_scr_c rfl)
      · skip
        refine xr_go hc rfl rfl ?_
        refine xr_ret hc rfl rfl ?_
        refine ⟨?_, rfl, ?_⟩
        focus
          unfold s_a_records
          repeat' split
          all_goals first
            | rfl
            | (exfalso; omega)
            | (congr 2; omega)
        first
          | exact s_Fr_rfl
          | exact s_put_fr s_Fr_rfl (s_scr_c rfl)

theorem s_R0_in {V : ew_Mem} {x i : Int} (h : 0 ≤ i ∧ i < ((s_R0 V 2000 x).length : Int)) : ew_in (s_nth (s_R0 V 2000 x) i) := by
  refine s_nth_inT (fun a ha => ?_) h
  have := s_rc_bd _ _ _ a ha
  exact ⟨by omega, by omega⟩
theorem s_R0_len {V : ew_Mem} {x : Int} : (s_R0 V 2000 x).length ≤ 2000 := s_rc_len _ _ _
set_option maxRecDepth 20000 in
theorem cx_record {V : ew_Mem} {n : Nat} {M : ew_Mem} (hC : s_C V n M) {i x : Int} (hi : ew_in i) (hx : ew_in x) : ew_C 110 [(2, 4), (0, i), (0, x)] n M (s_QF (0, s_a_record V i x) n M) := by
  obtain ⟨hn, hp, hV, v0, v1, v2, v3, v4⟩ := id hC
  obtain ⟨hc6, hVW, hnd, hap, hr0, hr1, hr2, hr3, hr4, hr5⟩ := id hV
  have hc := ew_c_110
  show ew_X 110 0 [(2, 4), (0, i), (0, x), (5, 0)] [] n M _
  refine xr_go hc rfl rfl ?_
  refine xr_if_lt hc rfl (by omega) (fun c1 => ?_) (fun c1 => ?_)
  · skip
    refine xr_go hc rfl rfl ?_
    refine xr_ret hc rfl rfl ?_
    refine ⟨?_, rfl, ?_⟩
    focus
      unfold s_a_record
      first
        | (rw [if_neg (by omega)]; done)
        | (rw [if_pos (by omega), if_pos (by omega)]; done)
        | (rw [if_pos (by omega), if_neg (by omega)]; done)
        | (rw [if_pos (by omega), if_neg (by omega), s_nth_outI (by omega)]; done)
    first
      | exact s_Fr_rfl
      | exact s_put_fr s_Fr_rfl (s_scr_c rfl)
  · skip
    refine xr_go hc rfl rfl ?_
    refine xr_go hc rfl rfl ?_
    refine xr_icmp_le hc rfl (by omega) (by decide) (fun c2 => ?_) (fun c2 => ?_)
    · skip
      refine xr_go hc rfl rfl ?_
      refine xr_gf2 (A := 4) (w := 5) rfl hc rfl (ew_own_p hn rfl) (ew_pm hp rfl) ?_
      refine xr_gf0 (A := 5) rfl hc rfl (ew_own_p hn rfl) v0 ?_
      refine xr_if_ne hc rfl (by omega) (fun c3 => ?_) (fun c3 => ?_)
      · skip
        refine xr_go hc rfl rfl ?_
        refine xr_go hc rfl rfl ?_
        refine xr_go hc rfl rfl ?_
        refine xr_v_3 hc rfl rfl (ew_own_p hn rfl) (c_findRecords hC (by omega) (by decide) (by omega)) ?_
        have hfr : s_Fr M (s_put M 33 (s_R0 V 2000 x)) := s_put_fr s_Fr_rfl (s_scr_c rfl)
        have hp2 : ew_Pm (s_put M 33 (s_R0 V 2000 x)) := s_Fr_pm hfr hp
        have hln := s_R0_len (V := V) (x := x)
        refine xr_s1_3 hc rfl rfl rfl ?_
        refine xr_go hc rfl rfl ?_
        refine xr_if_lt hc rfl (by omega) (fun c4 => ?_) (fun c4 => ?_)
        · skip
          refine xr_go hc rfl rfl ?_
          refine xr_ret hc rfl rfl ?_
          refine ⟨?_, rfl, ?_⟩
          focus
            unfold s_a_record
            first
              | (rw [if_neg (by omega)]; done)
              | (rw [if_pos (by omega), if_pos (by omega)]; done)
              | (rw [if_pos (by omega), if_neg (by omega)]; done)
              | (rw [if_pos (by omega), if_neg (by omega), s_nth_outI (by omega)]; done)
          first
            | exact s_Fr_rfl
            | exact s_put_fr s_Fr_rfl (s_scr_c rfl)
        · skip
          refine xr_go hc rfl rfl ?_
          refine xr_go hc rfl rfl ?_
          refine xr_icmp_ge hc rfl (by omega) (by omega) (fun c5 => ?_) (fun c5 => ?_)
          · skip
            refine xr_go hc rfl rfl ?_
            refine xr_ret hc rfl rfl ?_
            refine ⟨?_, rfl, ?_⟩
            focus
              unfold s_a_record
              first
                | (rw [if_neg (by omega)]; done)
                | (rw [if_pos (by omega), if_pos (by omega)]; done)
                | (rw [if_pos (by omega), if_neg (by omega)]; done)
                | (rw [if_pos (by omega), if_neg (by omega), s_nth_outI (by omega)]; done)
            first
              | exact s_Fr_rfl
              | exact s_put_fr s_Fr_rfl (s_scr_c rfl)
          · skip
            refine xr_go hc rfl rfl ?_
            refine xr_go hc rfl rfl ?_
            refine xr_gf2 (A := 4) rfl hc rfl (ew_own_p hn rfl) (ew_pm (v := 33) hp2 rfl) ?_
            refine xr_alen (A := 33) (N := 2000) (t := 20) rfl rfl hc rfl (ew_ok_p hn rfl) (by decide) ?_
            refine xr_icmp_ge hc rfl (by omega) (by decide) (fun c6 => ?_) (fun c6 => ?_)
            · exfalso; omega
            · skip
              refine xr_go hc rfl rfl ?_
              refine xr_gf2 (A := 4) rfl hc rfl (ew_own_p hn rfl) (ew_pm (v := 33) hp2 rfl) ?_
              refine xr_go hc rfl rfl ?_
              refine xr_iald (A := 33) (N := 2000) rfl rfl hc rfl (ew_ok_p hn rfl) (by omega) (by omega) (s_nth_put (by omega)) ?_
              refine xr_go hc rfl rfl ?_
              refine xr_ret hc rfl rfl ?_
              refine ⟨?_, rfl, ?_⟩
              focus
                unfold s_a_record
                first
                  | (rw [if_neg (by omega)]; done)
                  | (rw [if_pos (by omega), if_pos (by omega)]; done)
                  | (rw [if_pos (by omega), if_neg (by omega)]; done)
                  | (rw [if_pos (by omega), if_neg (by omega), s_nth_outI (by omega)]; done)
              first
                | exact s_Fr_rfl
                | exact s_put_fr s_Fr_rfl (s_scr_c rfl)
      · skip
        refine xr_go hc rfl rfl ?_
        refine xr_ret hc rfl rfl ?_
        refine ⟨?_, rfl, ?_⟩
        focus
          unfold s_a_record
          first
            | (rw [if_neg (by omega)]; done)
            | (rw [if_pos (by omega), if_pos (by omega)]; done)
            | (rw [if_pos (by omega), if_neg (by omega)]; done)
            | (rw [if_pos (by omega), if_neg (by omega), s_nth_outI (by omega)]; done)
        first
          | exact s_Fr_rfl
          | exact s_put_fr s_Fr_rfl (s_scr_c rfl)
    · skip
      refine xr_go hc rfl rfl ?_
      refine xr_ret hc rfl rfl ?_
      refine ⟨?_, rfl, ?_⟩
      focus
        unfold s_a_record
        first
          | (rw [if_neg (by omega)]; done)
          | (rw [if_pos (by omega), if_pos (by omega)]; done)
          | (rw [if_pos (by omega), if_neg (by omega)]; done)
          | (rw [if_pos (by omega), if_neg (by omega), s_nth_outI (by omega)]; done)
      first
        | exact s_Fr_rfl
        | exact s_put_fr s_Fr_rfl (s_scr_c rfl)

theorem s_rc_nth {v : Int} {T : List Int} {i : Int} (h : 0 < i) : s_nth (v :: T) i = s_nth T (i - 1) := by
  unfold s_nth
  rw [if_pos (by omega), if_pos (by omega)]
  obtain ⟨t, rfl⟩ : ∃ t : Nat, i = ((t + 1 : Nat) : Int) := ⟨i.toNat - 1, by omega⟩
  rw [show ((t + 1 : Nat) : Int) - 1 = (t : Int) by omega]
  rfl
set_option maxRecDepth 20000 in
theorem m_rec_1 {V : ew_Mem} {n : Nat} {M : ew_Mem} (hM : s_M V n M) (h0 : 0 < V 6 0) {k x i : Int} (hk : 1 ≤ k ∧ k ≤ 2000) (hx : x = 0 ∨ x = 1) (hi : ew_in i) : ∀ (j : Nat) (d bst c : Int) (q : ew_AV) (M1 : ew_Mem), s_Fr M M1 → d + (j : Int) = k + 1 → 1 ≤ d → (0 ≤ c ∧ c < d) → ew_in bst →
    ew_X 187 10 [(2, 38), (0, k), (0, x), (0, i), (0, c), (0, bst), (0, d), q] [] n M1 (fun r a b => r = some (0, c + ((s_rc V x j d bst).length : Int)) ∧ a = n ∧ s_Fr M b ∧ (0 ≤ i - c ∧ i - c < ((s_rc V x j d bst).length : Int) → b 38 14 = s_nth (s_rc V x j d bst) (i - c)) ∧ (¬ (0 ≤ i - c ∧ i - c < ((s_rc V x j d bst).length : Int)) → b 38 14 = M1 38 14)) := by
  obtain ⟨hn, hp, hV, -⟩ := id hM
  have hc := ew_c_187
  intro j
  induction j with
  | zero =>
    intro d bst c q M1 hfr hj hd hl hbs
    have hM2 := s_M_fr hfr hM
    obtain ⟨-, hp2, -⟩ := id hM2
    refine xr_go hc rfl rfl ?_
    refine xr_go hc rfl rfl ?_
    refine xr_icmp_gt hc rfl (by omega) (by omega) (fun c1 => ?_) (fun c1 => ?_)
    · skip
      refine xr_go hc rfl rfl ?_
      refine xr_ret hc rfl rfl ?_
      exact ⟨by rw [s_rc]; simp, rfl, hfr, fun h => by rw [s_rc] at h; simp at h; omega, fun _ => rfl⟩
    · exfalso; omega
  | succ j ih =>
    intro d bst c q M1 hfr hj hd hl hbs
    have hM2 := s_M_fr hfr hM
    obtain ⟨-, hp2, -⟩ := id hM2
    have he := s_drift_bd hV h0 d x
    refine xr_go hc rfl rfl ?_
    refine xr_go hc rfl rfl ?_
    refine xr_icmp_gt hc rfl (by omega) (by omega) (fun c1 => ?_) (fun c1 => ?_)
    · exfalso; omega
    · skip
      refine xr_go hc rfl rfl ?_
      refine xr_go hc rfl rfl ?_
      refine xr_go hc rfl rfl ?_
      refine xr_v_3 hc rfl rfl (ew_own_p hn rfl) (m_driftOf hM2 h0 (by omega) (by omega)) ?_
      refine xr_s1_7 hc rfl rfl rfl ?_
      refine xr_go hc rfl rfl ?_
      refine xr_go hc rfl rfl ?_
      refine xr_icmp_ge hc rfl (by omega) (by omega) (fun c2 => ?_) (fun c2 => ?_)
      · skip
        refine xr_inc_6 hc rfl ?_
        refine xr_go hc rfl rfl ?_
        first
          | (rw [s_rc, if_neg (by omega)]
             exact ih (d + 1) bst c _ M1 hfr (by omega) (by omega) (by omega) (by omega))
          | (rw [s_rc, if_pos (by omega)]
             refine ew_X.mono (ih (d + 1) (s_drift V d x) (c + 1) _ _ (s_Fr_wr hfr rfl) (by omega) (by omega) (by omega) (by omega)) ?_
             rintro r a b ⟨h1, h2, h3, h4, h5⟩
             refine ⟨by rw [h1, List.length_cons]; congr 2; omega, h2, h3, ?_, ?_⟩
             · intro h
               by_cases hic : i = c
               · rw [h5 (by omega), hic, Int.sub_self]
                 first
                   | rfl
                   | (exfalso; omega)
               · rw [h4 (by rw [List.length_cons] at h; omega), s_rc_nth (by omega)]
                 congr 1
                 omega
             · intro h
               rw [List.length_cons] at h
               rw [h5 (by omega)]
               first
                 | rfl
                 | (exfalso; omega))
      · skip
        refine xr_go hc rfl rfl ?_
        refine xr_s1_5 hc rfl rfl rfl ?_
        refine xr_go hc rfl rfl ?_
        refine xr_go hc rfl rfl ?_
        refine xr_go hc rfl rfl ?_
        refine xr_icmp_ne hc rfl (by omega) (by omega) (fun c3 => ?_) (fun c3 => ?_)
        · skip
          refine xr_go hc rfl rfl ?_
          refine xr_gf0 (A := 38) rfl hc rfl (ew_own_p hn rfl) rfl ?_
          refine xr_pf (A := 38) rfl hc rfl (ew_own_p hn rfl) ?_
          refine xr_inc_4 hc rfl ?_
          refine xr_inc_6 hc rfl ?_
          refine xr_go hc rfl rfl ?_
          first
            | (rw [s_rc, if_neg (by omega)]
               exact ih (d + 1) bst c _ M1 hfr (by omega) (by omega) (by omega) (by omega))
            | (rw [s_rc, if_pos (by omega)]
               refine ew_X.mono (ih (d + 1) (s_drift V d x) (c + 1) _ _ (s_Fr_wr hfr rfl) (by omega) (by omega) (by omega) (by omega)) ?_
               rintro r a b ⟨h1, h2, h3, h4, h5⟩
               refine ⟨by rw [h1, List.length_cons]; congr 2; omega, h2, h3, ?_, ?_⟩
               · intro h
                 by_cases hic : i = c
                 · rw [h5 (by omega), hic, Int.sub_self]
                   first
                     | rfl
                     | (exfalso; omega)
                 · rw [h4 (by rw [List.length_cons] at h; omega), s_rc_nth (by omega)]
                   congr 1
                   omega
               · intro h
                 rw [List.length_cons] at h
                 rw [h5 (by omega)]
                 first
                   | rfl
                   | (exfalso; omega))
        · skip
          refine xr_go hc rfl rfl ?_
          refine xr_go hc rfl rfl ?_
          refine xr_pf (A := 38) rfl hc rfl (ew_own_p hn rfl) ?_
          refine xr_inc_4 hc rfl ?_
          refine xr_inc_6 hc rfl ?_
          refine xr_go hc rfl rfl ?_
          first
            | (rw [s_rc, if_neg (by omega)]
               exact ih (d + 1) bst c _ M1 hfr (by omega) (by omega) (by omega) (by omega))
            | (rw [s_rc, if_pos (by omega)]
               refine ew_X.mono (ih (d + 1) (s_drift V d x) (c + 1) _ _ (s_Fr_wr hfr rfl) (by omega) (by omega) (by omega) (by omega)) ?_
               rintro r a b ⟨h1, h2, h3, h4, h5⟩
               refine ⟨by rw [h1, List.length_cons]; congr 2; omega, h2, h3, ?_, ?_⟩
               · intro h
                 by_cases hic : i = c
                 · rw [h5 (by omega), hic, Int.sub_self]
                   first
                     | rfl
                     | (exfalso; omega)
                 · rw [h4 (by rw [List.length_cons] at h; omega), s_rc_nth (by omega)]
                   congr 1
                   omega
               · intro h
                 rw [List.length_cons] at h
                 rw [h5 (by omega)]
                 first
                   | rfl
                   | (exfalso; omega))

set_option maxRecDepth 20000 in
theorem m_recordsTo {V : ew_Mem} {n : Nat} {M : ew_Mem} (hM : s_M V n M) (h0 : 0 < V 6 0) {k x i : Int} (hk : 1 ≤ k ∧ k ≤ 2000) (hx : x = 0 ∨ x = 1) (hi : ew_in i) : ew_C 187 [(2, 38), (0, k), (0, x), (0, i)] n M (fun r a b => r = some (0, ((s_R0 V k x).length : Int)) ∧ a = n ∧ s_Fr M b ∧ (0 ≤ i ∧ i < ((s_R0 V k x).length : Int) → b 38 14 = s_nth (s_R0 V k x) i)) := by
  obtain ⟨hn, hp, hV, u0, u1, u2, u3, u4⟩ := id hM
  obtain ⟨hc6, hVW, hnd, hap, hr0, hr1, hr2, hr3, hr4, hr5⟩ := id hV
  have hc := ew_c_187
  show ew_X 187 0 [(2, 38), (0, k), (0, x), (0, i), (5, 0), (5, 0), (5, 0), (5, 0)] [] n M _
  refine xr_go hc rfl rfl ?_
  refine xr_s1_4 hc rfl rfl rfl ?_
  refine xr_go hc rfl rfl ?_
  refine xr_s1_5 hc rfl rfl rfl ?_
  refine xr_go hc rfl rfl ?_
  refine xr_s1_6 hc rfl rfl rfl ?_
  have h := m_rec_1 hM h0 hk hx hi k.toNat 1 2147483647 0 (5, 0) M s_Fr_rfl (by omega) (by decide) (by decide) (by decide)
  obtain ⟨j, hj⟩ : ∃ j, k.toNat = j + 1 := ⟨k.toNat - 1, by omega⟩
  have e : s_rc V x k.toNat 1 2147483647 = s_R0 V k x := by
    unfold s_R0
    have he := s_drift_bd hV h0 1 x
    rw [hj]
    exact s_rc_top (by omega) (by omega)
  rw [e] at h
  rw [Int.sub_zero] at h
  exact ew_X.mono h (fun r a b q => ⟨by rw [q.1, Int.zero_add], q.2.1, q.2.2.1, q.2.2.2.1⟩)

set_option maxRecDepth 20000 in
theorem mx_records {V : ew_Mem} {n : Nat} {M : ew_Mem} (hM : s_M V n M) {k x : Int} (hk : ew_in k) (hx : ew_in x) : ew_C 186 [(2, 38), (0, k), (0, x)] n M (s_QF (0, s_a_records V k x) n M) := by
  obtain ⟨hn, hp, hV, u0, u1, u2, u3, u4⟩ := id hM
  obtain ⟨hc6, hVW, hnd, hap, hr0, hr1, hr2, hr3, hr4, hr5⟩ := id hV
  have hc := ew_c_186
  show ew_X 186 0 [(2, 38), (0, k), (0, x)] [] n M _
  refine xr_go hc rfl rfl ?_
  refine xr_s_1 hc rfl rfl (m_isCycle hk) ?_
  refine xr_if_eq hc rfl (by split <;> omega) (fun c1 => ?_) (fun c1 => ?_)
  · skip
    refine xr_go hc rfl rfl ?_
    refine xr_ret hc rfl rfl ?_
    refine ⟨?_, rfl, ?_⟩
    focus
      unfold s_a_records
      repeat' split
      all_goals first
        | rfl
        | (exfalso; omega)
    first
      | exact s_Fr_rfl
      | exact hfr2
  · skip
    refine xr_go hc rfl rfl ?_
    refine xr_i2l hc rfl (by omega) ?_
    refine xr_go hc rfl rfl ?_
    refine xr_go hc rfl rfl ?_
    refine xr_s_3 hc rfl rfl (c_in (by omega) (by decide) (by decide)) ?_
    refine xr_if_ne hc rfl (by split <;> omega) (fun c2 => ?_) (fun c2 => ?_)
    · skip
      refine xr_go hc rfl rfl ?_
      refine xr_gf0 (A := 38) rfl hc rfl (ew_own_p hn rfl) u0 ?_
      refine xr_if_ne hc rfl (by omega) (fun c3 => ?_) (fun c3 => ?_)
      · skip
        refine xr_go hc rfl rfl ?_
        refine xr_go hc rfl rfl ?_
        refine xr_go hc rfl rfl ?_
        refine xr_go hc rfl rfl ?_
        refine xr_vC_4 hc rfl rfl (ew_own_p hn rfl) (m_recordsTo hM (by omega) (by omega) (by omega) (by decide)) ?_
        rintro w2 n2 M2 ⟨rfl, rfl, hfr2, -⟩
        show ew_X 186 _ _ [(0, ((s_R0 V k x).length : Int))] _ _ _
        refine xr_ret hc rfl rfl ?_
        refine ⟨?_, rfl, ?_⟩
        focus
          unfold s_a_records
          repeat' split
          all_goals first
            | rfl
            | (exfalso; omega)
        first
          | exact s_Fr_rfl
          | exact hfr2
      · skip
        refine xr_go hc rfl rfl ?_
        refine xr_go hc rfl rfl ?_
        refine xr_ret hc rfl rfl ?_
        refine ⟨?_, rfl, ?_⟩
        focus
          unfold s_a_records
          repeat' split
          all_goals first
            | rfl
            | (exfalso; omega)
        first
          | exact s_Fr_rfl
          | exact hfr2
    · skip
      refine xr_go hc rfl rfl ?_
      refine xr_ret hc rfl rfl ?_
      refine ⟨?_, rfl, ?_⟩
      focus
        unfold s_a_records
        repeat' split
        all_goals first
          | rfl
          | (exfalso; omega)
      first
        | exact s_Fr_rfl
        | exact hfr2

set_option maxRecDepth 20000 in
theorem mx_record {V : ew_Mem} {n : Nat} {M : ew_Mem} (hM : s_M V n M) {i x : Int} (hi : ew_in i) (hx : ew_in x) : ew_C 188 [(2, 38), (0, i), (0, x)] n M (s_QF (0, s_a_record V i x) n M) := by
  obtain ⟨hn, hp, hV, u0, u1, u2, u3, u4⟩ := id hM
  obtain ⟨hc6, hVW, hnd, hap, hr0, hr1, hr2, hr3, hr4, hr5⟩ := id hV
  have hc := ew_c_188
  show ew_X 188 0 [(2, 38), (0, i), (0, x)] [] n M _
  refine xr_go hc rfl rfl ?_
  refine xr_i2l hc rfl (by omega) ?_
  refine xr_go hc rfl rfl ?_
  refine xr_go hc rfl rfl ?_
  refine xr_s_3 hc rfl rfl (c_in (by omega) (by decide) (by decide)) ?_
  refine xr_if_ne hc rfl (by split <;> omega) (fun c1 => ?_) (fun c1 => ?_)
  · skip
    refine xr_go hc rfl rfl ?_
    refine xr_gf0 (A := 38) rfl hc rfl (ew_own_p hn rfl) u0 ?_
    refine xr_if_ne hc rfl (by omega) (fun c2 => ?_) (fun c2 => ?_)
    · skip
      refine xr_go hc rfl rfl ?_
      refine xr_i2l hc rfl (by omega) ?_
      refine xr_go hc rfl rfl ?_
      refine xr_go hc rfl rfl ?_
      refine xr_go hc rfl rfl ?_
      refine xr_go hc rfl rfl ?_
      refine xr_go hc rfl rfl ?_
      refine xr_vC_4 hc rfl rfl (ew_own_p hn rfl) (m_recordsTo hM (by omega) (by decide) (by omega) hi) ?_
      rintro w2 n2 M2 ⟨rfl, rfl, hfr2, hrd⟩
      show ew_X 188 _ _ [(0, ((s_R0 V 2000 x).length : Int)), (1, 0), (1, i)] _ _ _
      have hln := s_R0_len (V := V) (x := x)
      refine xr_go hc rfl rfl ?_
      refine xr_go hc rfl rfl ?_
      refine xr_i2l hc rfl (by omega) ?_
      refine xr_s_3 hc rfl rfl (c_in (by omega) (by decide) (by omega)) ?_
      refine xr_if_eq hc rfl (by split <;> omega) (fun c3 => ?_) (fun c3 => ?_)
      · skip
        refine xr_go hc rfl rfl ?_
        refine xr_ret hc rfl rfl ?_
        refine ⟨?_, rfl, ?_⟩
        focus
          unfold s_a_record
          first
            | (rw [if_neg (by omega)]; done)
            | (rw [if_pos (by omega), if_pos (by omega)]; done)
            | (rw [if_pos (by omega), if_neg (by omega), hrd (by omega)]; done)
            | (rw [if_pos (by omega), if_neg (by omega), s_nth_outI (by omega)]; done)
        first
          | exact s_Fr_rfl
          | exact hfr2
      · skip
        refine xr_go hc rfl rfl ?_
        refine xr_gf0 (A := 38) rfl hc rfl (ew_own_p hn rfl) rfl ?_
        refine xr_go hc rfl rfl ?_
        refine xr_ret hc rfl rfl ?_
        refine ⟨?_, rfl, ?_⟩
        focus
          unfold s_a_record
          first
            | (rw [if_neg (by omega)]; done)
            | (rw [if_pos (by omega), if_pos (by omega)]; done)
            | (rw [if_pos (by omega), if_neg (by omega), hrd (by omega)]; done)
            | (rw [if_pos (by omega), if_neg (by omega), s_nth_outI (by omega)]; done)
        first
          | exact s_Fr_rfl
          | exact hfr2
    · skip
      refine xr_go hc rfl rfl ?_
      refine xr_ret hc rfl rfl ?_
      refine ⟨?_, rfl, ?_⟩
      focus
        unfold s_a_record
        first
          | (rw [if_neg (by omega)]; done)
          | (rw [if_pos (by omega), if_pos (by omega)]; done)
          | (rw [if_pos (by omega), if_neg (by omega), hrd (by omega)]; done)
          | (rw [if_pos (by omega), if_neg (by omega), s_nth_outI (by omega)]; done)
      first
        | exact s_Fr_rfl
        | exact hfr2
  · skip
    refine xr_go hc rfl rfl ?_
    refine xr_ret hc rfl rfl ?_
    refine ⟨?_, rfl, ?_⟩
    focus
      unfold s_a_record
      first
        | (rw [if_neg (by omega)]; done)
        | (rw [if_pos (by omega), if_pos (by omega)]; done)
        | (rw [if_pos (by omega), if_neg (by omega), hrd (by omega)]; done)
        | (rw [if_pos (by omega), if_neg (by omega), s_nth_outI (by omega)]; done)
    first
      | exact s_Fr_rfl
      | exact hfr2

