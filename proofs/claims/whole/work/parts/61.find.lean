/-! eclipses from a month on, gaps, records: both sides -/
set_option maxRecDepth 20000 in
theorem c_find_1 {V : ew_Mem} {n : Nat} {M : ew_Mem} (hC : s_C V n M) {m0 c b : Int} (hc0 : 0 ≤ c ∧ c ≤ 61) (hb : b ≤ 100000) : ∀ (j : Nat) (m : Int) (P : List Int), m + (j : Int) = b + 1 → -100000 ≤ m → (P.length : Int) ≤ max c 0 →
    ew_X 124 19 [(2, 4), (0, m0), (0, c), (0, (P.length : Int)), (0, b), (0, m)] [] n (s_put M 32 P) (fun r a b => r = some (0, ((P ++ s_es V j m (c - (P.length : Int))).length : Int)) ∧ a = n ∧ b = s_put M 32 (P ++ s_es V j m (c - (P.length : Int)))) := by
  have hcc := hC
  obtain ⟨hn, hp, -⟩ := id hC
  have hc := ew_c_124
  intro j
  induction j with
  | zero =>
    intro m P hj hm hl
    have hfr : s_Fr M (s_put M 32 P) := s_put_fr s_Fr_rfl (s_scr_c rfl)
    have hC2 := s_C_fr hfr hC
    have hp2 : ew_Pm (s_put M 32 P) := hC2.2.1
    refine xr_go hc rfl rfl ?_
    refine xr_go hc rfl rfl ?_
    refine xr_icmp_gt hc rfl (by omega) (by omega) (fun c1 => ?_) (fun c1 => ?_)
    · skip
      refine xr_go hc rfl rfl ?_
      refine xr_ret hc rfl rfl ?_
      exact ⟨by rw [s_es, List.append_nil], rfl, by rw [s_es, List.append_nil]⟩
    · exfalso; omega
  | succ j ih =>
    intro m P hj hm hl
    have hfr : s_Fr M (s_put M 32 P) := s_put_fr s_Fr_rfl (s_scr_c rfl)
    have hC2 := s_C_fr hfr hC
    have hp2 : ew_Pm (s_put M 32 P) := hC2.2.1
    have he := s_ecl_bd V m
    refine xr_go hc rfl rfl ?_
    refine xr_go hc rfl rfl ?_
    refine xr_icmp_gt hc rfl (by omega) (by omega) (fun c1 => ?_) (fun c1 => ?_)
    · exfalso; omega
    · skip
      refine xr_go hc rfl rfl ?_
      refine xr_go hc rfl rfl ?_
      refine xr_icmp_ge hc rfl (by omega) (by omega) (fun c2 => ?_) (fun c2 => ?_)
      · skip
        refine xr_go hc rfl rfl ?_
        refine xr_ret hc rfl rfl ?_
        exact ⟨by rw [s_es_0 (by omega), List.append_nil], rfl, by rw [s_es_0 (by omega), List.append_nil]⟩
      · skip
        refine xr_go hc rfl rfl ?_
        refine xr_go hc rfl rfl ?_
        refine xr_gf2 (A := 4) rfl hc rfl (ew_own_p hn rfl) (ew_pm (v := 32) hp2 rfl) ?_
        refine xr_alen (A := 32) (N := 61) (t := 20) rfl rfl hc rfl (ew_ok_p hn rfl) (by decide) ?_
        refine xr_icmp_ge hc rfl (by omega) (by decide) (fun c3 => ?_) (fun c3 => ?_)
        · exfalso; omega
        · skip
          refine xr_go hc rfl rfl ?_
          refine xr_gf2 (A := 4) rfl hc rfl (ew_own_p hn rfl) (ew_pm (v := 5) hp2 rfl) ?_
          refine xr_go hc rfl rfl ?_
          refine xr_v_2 hc rfl rfl (ew_own_p hn rfl) (c_eclipseAt hC2 (by omega)) ?_
          refine xr_if_eq hc rfl (by omega) (fun c4 => ?_) (fun c4 => ?_)
          · skip
            refine xr_inc_5 hc rfl ?_
            refine xr_go hc rfl rfl ?_
            first
              | (rw [Int.toNat_natCast, s_put_wr, show ((P.length : Int) + 1) = (((P ++ [m]).length : Nat) : Int) by simp, s_es, if_pos (by omega), if_neg (by omega), show P ++ m :: s_es V j (m + 1) (c - (P.length : Int) - 1) = (P ++ [m]) ++ s_es V j (m + 1) (c - ((P ++ [m]).length : Int)) by rw [List.append_assoc, List.length_append, show c - (P.length : Int) - 1 = c - ((P.length + [m].length : Nat) : Int) by simp; omega]; rfl]
                 exact ih (m + 1) (P ++ [m]) (by omega) (by omega) (by simp; omega))
              | (rw [s_es, if_pos (by omega), if_pos (by omega)]
                 exact ih (m + 1) P (by omega) (by omega) (by omega))
          · skip
            refine xr_go hc rfl rfl ?_
            refine xr_gf2 (A := 4) rfl hc rfl (ew_own_p hn rfl) (ew_pm (v := 32) hp2 rfl) ?_
            refine xr_go hc rfl rfl ?_
            refine xr_go hc rfl rfl ?_
            refine xr_iast (A := 32) (N := 61) rfl rfl hc rfl (ew_own_p hn rfl) (by omega) (by omega) ?_
            refine xr_inc_3 hc rfl ?_
            refine xr_inc_5 hc rfl ?_
            refine xr_go hc rfl rfl ?_
            first
              | (rw [Int.toNat_natCast, s_put_wr, show ((P.length : Int) + 1) = (((P ++ [m]).length : Nat) : Int) by simp, s_es, if_pos (by omega), if_neg (by omega), show P ++ m :: s_es V j (m + 1) (c - (P.length : Int) - 1) = (P ++ [m]) ++ s_es V j (m + 1) (c - ((P ++ [m]).length : Int)) by rw [List.append_assoc, List.length_append, show c - (P.length : Int) - 1 = c - ((P.length + [m].length : Nat) : Int) by simp; omega]; rfl]
                 exact ih (m + 1) (P ++ [m]) (by omega) (by omega) (by simp; omega))
              | (rw [s_es, if_pos (by omega), if_pos (by omega)]
                 exact ih (m + 1) P (by omega) (by omega) (by omega))

set_option maxRecDepth 20000 in
theorem c_find {V : ew_Mem} {n : Nat} {M : ew_Mem} (hC : s_C V n M) {m c : Int} (hm : s_isM m) (hc0 : 0 ≤ c ∧ c ≤ 61) : ew_FM 124 [(2, 4), (0, m), (0, c)] n M (0, ((s_E V m c).length : Int)) n (s_put M 32 (s_E V m c)) := by
  obtain ⟨hn, hp, hV, v0, v1, v2, v3, v4⟩ := id hC
  obtain ⟨hc6, hVW, hnd, hap, hr0, hr1, hr2, hr3, hr4, hr5⟩ := id hV
  have hc := ew_c_124
  show ew_X 124 0 [(2, 4), (0, m), (0, c), (5, 0), (5, 0), (5, 0)] [] n M _
  refine xr_go hc rfl rfl ?_
  refine xr_s1_3 hc rfl rfl rfl ?_
  refine xr_go hc rfl rfl ?_
  refine xr_go hc rfl rfl ?_
  refine xr_go hc rfl rfl ?_
  refine xr_go hc rfl rfl ?_
  refine xr_go hc rfl rfl ?_
  refine xr_go hc rfl rfl ?_
  refine xr_s_2 hc rfl rfl (c_minI (by omega) (by decide)) ?_
  refine xr_s1_4 hc rfl rfl rfl ?_
  refine xr_go hc rfl rfl ?_
  refine xr_s1_5 hc rfl rfl rfl ?_
  have h := c_find_1 hC (m0 := m) (c := c) (b := min (m + 3999) 100000) (by omega) (by omega) (min (m + 3999) 100000 - m + 1).toNat m [] (by omega) (by omega) (by simp; omega)
  rw [s_put_nil, List.nil_append, show c - (([] : List Int).length : Int) = c by simp] at h
  rw [show m + 4000 - 1 = m + 3999 by omega]
  exact h

set_option maxRecDepth 20000 in
theorem c_rec_1 {V : ew_Mem} {n : Nat} {M : ew_Mem} (hC : s_C V n M) (h0 : 0 < V 6 0) {k x : Int} (hk : 1 ≤ k ∧ k ≤ 2000) (hx : x = 0 ∨ x = 1) : ∀ (j : Nat) (d bst : Int) (P : List Int) (q : ew_AV), d + (j : Int) = k + 1 → 1 ≤ d → (P.length : Int) < d → ew_in bst →
    ew_X 109 9 [(2, 4), (0, k), (0, x), (0, (P.length : Int)), (0, bst), (0, d), q] [] n (s_put M 33 P) (fun r a b => r = some (0, ((P ++ s_rc V x j d bst).length : Int)) ∧ a = n ∧ b = s_put M 33 (P ++ s_rc V x j d bst)) := by
  obtain ⟨hn, hp, hV, -⟩ := id hC
  have hc := ew_c_109
  intro j
  induction j with
  | zero =>
    intro d bst P q hj hd hl hbs
    have hfr : s_Fr M (s_put M 33 P) := s_put_fr s_Fr_rfl (s_scr_c rfl)
    have hC2 := s_C_fr hfr hC
    have hp2 : ew_Pm (s_put M 33 P) := hC2.2.1
    refine xr_go hc rfl rfl ?_
    refine xr_go hc rfl rfl ?_
    refine xr_icmp_gt hc rfl (by omega) (by omega) (fun c1 => ?_) (fun c1 => ?_)
    · skip
      refine xr_go hc rfl rfl ?_
      refine xr_ret hc rfl rfl ?_
      exact ⟨by rw [s_rc, List.append_nil], rfl, by rw [s_rc, List.append_nil]⟩
    · exfalso; omega
  | succ j ih =>
    intro d bst P q hj hd hl hbs
    have hfr : s_Fr M (s_put M 33 P) := s_put_fr s_Fr_rfl (s_scr_c rfl)
    have hC2 := s_C_fr hfr hC
    have hp2 : ew_Pm (s_put M 33 P) := hC2.2.1
    have he := s_drift_bd hV h0 d x
    refine xr_go hc rfl rfl ?_
    refine xr_go hc rfl rfl ?_
    refine xr_icmp_gt hc rfl (by omega) (by omega) (fun c1 => ?_) (fun c1 => ?_)
    · exfalso; omega
    · skip
      refine xr_go hc rfl rfl ?_
      refine xr_go hc rfl rfl ?_
      refine xr_gf2 (A := 4) rfl hc rfl (ew_own_p hn rfl) (ew_pm (v := 33) hp2 rfl) ?_
      refine xr_alen (A := 33) (N := 2000) (t := 20) rfl rfl hc rfl (ew_ok_p hn rfl) (by decide) ?_
      refine xr_icmp_ge hc rfl (by omega) (by decide) (fun c2 => ?_) (fun c2 => ?_)
      · exfalso; omega
      · skip
        refine xr_go hc rfl rfl ?_
        refine xr_gf2 (A := 4) rfl hc rfl (ew_own_p hn rfl) (ew_pm (v := 5) hp2 rfl) ?_
        refine xr_go hc rfl rfl ?_
        refine xr_go hc rfl rfl ?_
        refine xr_v_3 hc rfl rfl (ew_own_p hn rfl) (c_driftOf hC2 h0 (by omega) (by omega)) ?_
        refine xr_s1_6 hc rfl rfl rfl ?_
        refine xr_go hc rfl rfl ?_
        refine xr_go hc rfl rfl ?_
        refine xr_icmp_ge hc rfl (by omega) (by omega) (fun c3 => ?_) (fun c3 => ?_)
        · skip
          refine xr_inc_5 hc rfl ?_
          refine xr_go hc rfl rfl ?_
          first
            | (rw [Int.toNat_natCast, s_put_wr, show ((P.length : Int) + 1) = (((P ++ [d]).length : Nat) : Int) by simp, s_rc, if_pos (by omega), show P ++ d :: s_rc V x j (d + 1) (s_drift V d x) = (P ++ [d]) ++ s_rc V x j (d + 1) (s_drift V d x) by simp]
               exact ih (d + 1) (s_drift V d x) (P ++ [d]) _ (by omega) (by omega) (by simp; omega) (by omega))
            | (rw [s_rc, if_neg (by omega)]
               exact ih (d + 1) bst P _ (by omega) (by omega) (by omega) (by omega))
        · skip
          refine xr_go hc rfl rfl ?_
          refine xr_s1_4 hc rfl rfl rfl ?_
          refine xr_go hc rfl rfl ?_
          refine xr_gf2 (A := 4) rfl hc rfl (ew_own_p hn rfl) (ew_pm (v := 33) hp2 rfl) ?_
          refine xr_go hc rfl rfl ?_
          refine xr_go hc rfl rfl ?_
          refine xr_iast (A := 33) (N := 2000) rfl rfl hc rfl (ew_own_p hn rfl) (by omega) (by omega) ?_
          refine xr_inc_3 hc rfl ?_
          refine xr_inc_5 hc rfl ?_
          refine xr_go hc rfl rfl ?_
          first
            | (rw [Int.toNat_natCast, s_put_wr, show ((P.length : Int) + 1) = (((P ++ [d]).length : Nat) : Int) by simp, s_rc, if_pos (by omega), show P ++ d :: s_rc V x j (d + 1) (s_drift V d x) = (P ++ [d]) ++ s_rc V x j (d + 1) (s_drift V d x) by simp]
               exact ih (d + 1) (s_drift V d x) (P ++ [d]) _ (by omega) (by omega) (by simp; omega) (by omega))
            | (rw [s_rc, if_neg (by omega)]
               exact ih (d + 1) bst P _ (by omega) (by omega) (by omega) (by omega))

set_option maxRecDepth 20000 in
theorem c_findRecords {V : ew_Mem} {n : Nat} {M : ew_Mem} (hC : s_C V n M) (h0 : 0 < V 6 0) {k x : Int} (hk : 1 ≤ k ∧ k ≤ 2000) (hx : x = 0 ∨ x = 1) : ew_FM 109 [(2, 4), (0, k), (0, x)] n M (0, ((s_R0 V k x).length : Int)) n (s_put M 33 (s_R0 V k x)) := by
  obtain ⟨hn, hp, hV, v0, v1, v2, v3, v4⟩ := id hC
  obtain ⟨hc6, hVW, hnd, hap, hr0, hr1, hr2, hr3, hr4, hr5⟩ := id hV
  have hc := ew_c_109
  show ew_X 109 0 [(2, 4), (0, k), (0, x), (5, 0), (5, 0), (5, 0), (5, 0)] [] n M _
  refine xr_go hc rfl rfl ?_
  refine xr_s1_3 hc rfl rfl rfl ?_
  refine xr_go hc rfl rfl ?_
  refine xr_s1_4 hc rfl rfl rfl ?_
  refine xr_go hc rfl rfl ?_
  refine xr_s1_5 hc rfl rfl rfl ?_
  have h := c_rec_1 hC h0 hk hx k.toNat 1 100000 [] (5, 0) (by omega) (by decide) (by decide) (by decide)
  rw [s_put_nil, List.nil_append] at h
  exact h

