/-! the class: meetings -/
theorem s_res_gap {rnd m x : Int} (hr : 1 ≤ rnd) (hm : 0 ≤ m) (h1 : m < x) (h2 : x < m + rnd) (h3 : x % rnd = m % rnd) : False := by
  have e1 := Int.mul_ediv_add_emod x rnd
  have e2 := Int.mul_ediv_add_emod m rnd
  have e3 : rnd * (x / rnd - m / rnd) = x - m := by rw [Int.mul_sub]; omega
  rcases Int.lt_or_le (x / rnd - m / rnd) 1 with h | h
  · have := Int.mul_le_mul_of_nonneg_left (a := x / rnd - m / rnd) (b := 0) (c := rnd) (by omega) (by omega)
    omega
  · have := Int.mul_le_mul_of_nonneg_left (a := 1) (b := x / rnd - m / rnd) (c := rnd) h (by omega)
    omega

set_option maxRecDepth 20000 in
theorem c_meet_in {V : ew_Mem} {n : Nat} {M : ew_Mem} (hC : s_C V n M) {a p b q : Int} (ha : 0 ≤ a ∧ a < V 6 0) (hb : 0 ≤ b ∧ b < V 6 0) (hp0 : ew_in p) (hq0 : ew_in q) {it pe rnd : Int} (hrnd : 1 ≤ rnd ∧ rnd ≤ 100001) (hper : ∀ x y, 0 ≤ x → x < 100001 → 0 ≤ y → y < 100001 → x % rnd = y % rnd → s_at V a.toNat x = s_at V a.toNat y) {first : Int} (hf : 0 ≤ first ∧ first < rnd) {Q : Option ew_AV → Nat → ew_Mem → Prop} (hfa : s_at V a.toNat first = p) : ∀ (j : Nat) (m least : Int), (0 ≤ m ∧ m ≤ 200002) → m % rnd = first → 200002 - m < (j : Int) → s_LI V a.toNat p b.toNat q rnd first least → (∀ x, 0 ≤ x → x < m → x < least → x % rnd = first → s_mP V a.toNat p b.toNat q x = false) →
    (∀ (l2 m2 : Int), s_LI V a.toNat p b.toNat q rnd (first + 1) l2 → ew_X 86 136 [(2, 5), (0, a), (0, p), (0, b), (0, q), (2, it), (0, 100001), (1, pe), (5, 0), (0, rnd), (0, l2), (0, first), (0, 1), (0, m2)] [] n M Q) →
    ew_X 86 98 [(2, 5), (0, a), (0, p), (0, b), (0, q), (2, it), (0, 100001), (1, pe), (5, 0), (0, rnd), (0, least), (0, first), (0, 1), (0, m)] [] n M Q := by
  obtain ⟨hn, hp, hV, v0, v1, v2, v3, v4⟩ := id hC
  obtain ⟨hc6, hVW, hnd, hap, hr0, hr1, hr2, hr3, hr4, hr5⟩ := id hV
  have hc := ew_c_86
  intro j
  induction j with
  | zero =>
    intro m least hm hmr hj
    omega
  | succ j ih =>
    intro m least hm hmr hj hLI hpre hk
    have hl1 : 0 ≤ least ∧ least ≤ 100001 := by
      rcases hLI.1 with h | h
      · omega
      · omega
    refine xr_go hc rfl rfl ?_
    refine xr_if_eq hc rfl (by omega) (fun c1 => ?_) (fun c1 => ?_)
    · exfalso; omega
    · skip
      refine xr_go hc rfl rfl ?_
      refine xr_go hc rfl rfl ?_
      refine xr_icmp_ge hc rfl (by omega) (by omega) (fun c2 => ?_) (fun c2 => ?_)
      · skip
        refine hk least m ⟨hLI.1, fun x h1 h2 h3 => ?_⟩
        rcases Int.lt_or_le (x % rnd) first with h4 | h4
        · exact hLI.2 x h1 h2 h4
        · exact hpre x h1 (by omega) h2 (by omega)
      · skip
        refine xr_go hc rfl rfl ?_
        refine xr_go hc rfl rfl ?_
        refine xr_go hc rfl rfl ?_
        refine xr_v_3 hc rfl rfl (ew_own_p hn rfl) (c_placeAt hC hb (by omega)) ?_
        have hb2 := s_at_bd hV m (w := b.toNat) (by omega)
        have hWb := (hVW b.toNat (by omega)).2.1
        refine xr_go hc rfl rfl ?_
        refine xr_icmp_ne hc rfl (by omega) (by omega) (fun c3 => ?_) (fun c3 => ?_)
        · skip
          refine xr_go hc rfl rfl ?_
          refine xr_go hc rfl rfl ?_
          refine xr_go hc rfl rfl ?_
          refine xr_s1_13 hc rfl rfl rfl ?_
          refine xr_go hc rfl rfl ?_
          first
            | (have hhit : s_mP V a.toNat p b.toNat q m = true := by
                 unfold s_mP
                 rw [decide_eq_true_eq]
                 exact ⟨by rw [← hfa]; exact hper m first hm.1 (by omega) hf.1 (by omega) (by rw [hmr, Int.emod_eq_of_lt hf.1 hf.2]), by omega⟩
               have hLI2 : s_LI V a.toNat p b.toNat q rnd first m := ⟨Or.inr ⟨by omega, hhit⟩, fun x h1 h2 h3 => hLI.2 x h1 (by omega) h3⟩
               have hstep : (m + rnd) % rnd = first := by rw [Int.add_emod_right]; exact hmr
               refine ih (m + rnd) m (by omega) hstep (by omega) hLI2 (fun x h1 h2 h3 h4 => ?_) hk
               exact hpre x h1 h3 (by omega) h4)
            | (have hmiss : s_mP V a.toNat p b.toNat q m = false := by
                 unfold s_mP
                 rw [decide_eq_false_iff_not]
                 intro hz
                 omega
               have hstep : (m + rnd) % rnd = first := by rw [Int.add_emod_right]; exact hmr
               refine ih (m + rnd) least (by omega) hstep (by omega) hLI (fun x h1 h2 h3 h4 => ?_) hk
               rcases Int.lt_or_le x m with h5 | h5
               · exact hpre x h1 h5 h3 h4
               · rcases Int.le_iff_eq_or_lt.mp h5 with h6 | h6
                 · rw [← h6]; exact hmiss
                 · exact absurd (s_res_gap hrnd.1 hm.1 h6 h2 (by omega)) id)
        · skip
          refine xr_go hc rfl rfl ?_
          refine xr_s1_10 hc rfl rfl rfl ?_
          refine xr_go hc rfl rfl ?_
          refine xr_go hc rfl rfl ?_
          refine xr_go hc rfl rfl ?_
          refine xr_s1_13 hc rfl rfl rfl ?_
          refine xr_go hc rfl rfl ?_
          first
            | (have hhit : s_mP V a.toNat p b.toNat q m = true := by
                 unfold s_mP
                 rw [decide_eq_true_eq]
                 exact ⟨by rw [← hfa]; exact hper m first hm.1 (by omega) hf.1 (by omega) (by rw [hmr, Int.emod_eq_of_lt hf.1 hf.2]), by omega⟩
               have hLI2 : s_LI V a.toNat p b.toNat q rnd first m := ⟨Or.inr ⟨by omega, hhit⟩, fun x h1 h2 h3 => hLI.2 x h1 (by omega) h3⟩
               have hstep : (m + rnd) % rnd = first := by rw [Int.add_emod_right]; exact hmr
               refine ih (m + rnd) m (by omega) hstep (by omega) hLI2 (fun x h1 h2 h3 h4 => ?_) hk
               exact hpre x h1 h3 (by omega) h4)
            | (have hmiss : s_mP V a.toNat p b.toNat q m = false := by
                 unfold s_mP
                 rw [decide_eq_false_iff_not]
                 intro hz
                 omega
               have hstep : (m + rnd) % rnd = first := by rw [Int.add_emod_right]; exact hmr
               refine ih (m + rnd) least (by omega) hstep (by omega) hLI (fun x h1 h2 h3 h4 => ?_) hk
               rcases Int.lt_or_le x m with h5 | h5
               · exact hpre x h1 h5 h3 h4
               · rcases Int.le_iff_eq_or_lt.mp h5 with h6 | h6
                 · rw [← h6]; exact hmiss
                 · exact absurd (s_res_gap hrnd.1 hm.1 h6 h2 (by omega)) id)

set_option maxRecDepth 20000 in
theorem c_meet_out {V : ew_Mem} {n : Nat} {M : ew_Mem} (hC : s_C V n M) {a p b q : Int} (ha : 0 ≤ a ∧ a < V 6 0) (hb : 0 ≤ b ∧ b < V 6 0) (hp0 : ew_in p) (hq0 : ew_in q) {it pe rnd : Int} (hrnd : 1 ≤ rnd ∧ rnd ≤ 100001) (hper : ∀ x y, 0 ≤ x → x < 100001 → 0 ≤ y → y < 100001 → x % rnd = y % rnd → s_at V a.toNat x = s_at V a.toNat y) : ∀ (j : Nat) (first least : Int) (q12 q13 : ew_AV), 0 ≤ first → first + (j : Int) = rnd → s_LI V a.toNat p b.toNat q rnd first least →
    ew_X 86 62 [(2, 5), (0, a), (0, p), (0, b), (0, q), (2, it), (0, 100001), (1, pe), (5, 0), (0, rnd), (0, least), (0, first), q12, q13] [] n M (fun r a1 b1 => r = some (0, s_meet V a.toNat p b.toNat q) ∧ a1 = n ∧ b1 = M) := by
  obtain ⟨hn, hp, hV, v0, v1, v2, v3, v4⟩ := id hC
  obtain ⟨hc6, hVW, hnd, hap, hr0, hr1, hr2, hr3, hr4, hr5⟩ := id hV
  have hc := ew_c_86
  intro j
  induction j with
  | zero =>
    intro first least q12 q13 hf0 hj hLI
    have hl1 : 0 ≤ least ∧ least ≤ 100001 := by
      rcases hLI.1 with h | h
      · omega
      · omega
    refine xr_go hc rfl rfl ?_
    refine xr_go hc rfl rfl ?_
    refine xr_icmp_ge hc rfl (by omega) (by omega) (fun c1 => ?_) (fun c1 => ?_)
    · skip
      refine xr_go hc rfl rfl ?_
      refine xr_ret hc rfl rfl ?_
      refine ⟨?_, rfl, rfl⟩
      have hr : s_meet V a.toNat p b.toNat q = least := by
        refine s_ff_of _ 100001 0 least (by decide) ?_
        rcases hLI.1 with h | h
        · exact Or.inl ⟨h, fun x h1 h2 => hLI.2 x h1 (by omega) (by have := Int.emod_lt_of_pos x (show 0 < rnd by omega); omega)⟩
        · exact Or.inr ⟨h.1, h.2, fun x h1 h2 => hLI.2 x h1 h2 (by have := Int.emod_lt_of_pos x (show 0 < rnd by omega); omega)⟩
      rw [hr]
    · exfalso; omega
  | succ j ih =>
    intro first least q12 q13 hf0 hj hLI
    have hl1 : 0 ≤ least ∧ least ≤ 100001 := by
      rcases hLI.1 with h | h
      · omega
      · omega
    refine xr_go hc rfl rfl ?_
    refine xr_go hc rfl rfl ?_
    refine xr_icmp_ge hc rfl (by omega) (by omega) (fun c1 => ?_) (fun c1 => ?_)
    · exfalso; omega
    · skip
      refine xr_go hc rfl rfl ?_
      refine xr_go hc rfl rfl ?_
      refine xr_icmp_ge hc rfl (by omega) (by omega) (fun c2 => ?_) (fun c2 => ?_)
      · skip
        refine xr_go hc rfl rfl ?_
        refine xr_ret hc rfl rfl ?_
        refine ⟨?_, rfl, rfl⟩
        have hr : s_meet V a.toNat p b.toNat q = least := by
          refine s_ff_of _ 100001 0 least (by decide) ?_
          rcases hLI.1 with h | h
          · exact Or.inl ⟨h, fun x h1 h2 => hLI.2 x h1 (by omega) (by rw [Int.emod_eq_of_lt h1 (by omega)]; omega)⟩
          · exact Or.inr ⟨h.1, h.2, fun x h1 h2 => hLI.2 x h1 h2 (by rw [Int.emod_eq_of_lt h1 (by omega)]; omega)⟩
        rw [hr]
      · skip
        refine xr_go hc rfl rfl ?_
        refine xr_go hc rfl rfl ?_
        refine xr_go hc rfl rfl ?_
        refine xr_v_3 hc rfl rfl (ew_own_p hn rfl) (c_placeAt hC ha (by omega)) ?_
        refine xr_go hc rfl rfl ?_
        have ha2 := s_at_bd hV first (w := a.toNat) (by omega)
        have hWa := (hVW a.toNat (by omega)).2.1
        refine xr_icmp_ne hc rfl (by omega) (by omega) (fun c3 => ?_) (fun c3 => ?_)
        · skip
          refine xr_go hc rfl rfl ?_
          refine xr_s1_12 hc rfl rfl rfl ?_
          refine xr_go hc rfl rfl ?_
          refine xr_s1_13 hc rfl rfl rfl ?_
          refine xr_go hc rfl rfl ?_
          refine xr_if_eq hc rfl (by decide) (fun c9 => ?_) (fun c9 => by exfalso; omega)
          refine xr_inc_11 hc rfl ?_
          refine xr_go hc rfl rfl ?_
          refine ih (first + 1) least _ _ (by omega) (by omega) ⟨hLI.1, fun x h1 h2 h3 => ?_⟩
          rcases Int.lt_or_le (x % rnd) first with h4 | h4
          · exact hLI.2 x h1 h2 h4
          · unfold s_mP
            rw [decide_eq_false_iff_not]
            intro hz
            have h5 := hper x first h1 (by omega) hf0 (by omega) (by rw [Int.emod_eq_of_lt (a := first) hf0 (by omega)]; omega)
            omega
        · skip
          refine xr_go hc rfl rfl ?_
          refine xr_go hc rfl rfl ?_
          refine xr_s1_12 hc rfl rfl rfl ?_
          refine xr_go hc rfl rfl ?_
          refine xr_s1_13 hc rfl rfl rfl ?_
          first
            | (rw [show (1 : Int) = 1 from rfl]
               refine c_meet_in hC ha hb hp0 hq0 hrnd hper ⟨hf0, by omega⟩ (by omega) 200003 first least (by omega) (Int.emod_eq_of_lt hf0 (by omega)) (by omega) hLI (fun x h1 h2 h3 h4 => ?_) (fun l2 m2 hL2 => ?_)
               · have h5 := Int.emod_eq_of_lt (a := x) (b := rnd) h1 (by omega)
                 omega
               · refine xr_inc_11 hc rfl ?_
                 refine xr_go hc rfl rfl ?_
                 exact ih (first + 1) l2 _ _ (by omega) (by omega) hL2)

theorem s_at_per {V : ew_Mem} (hV : s_VO V) {a : Nat} (ha : (a : Int) < V 6 0) (h4 : ¬ V a 0 = 4) (x y : Int) (h : x % s_per (V a) = y % s_per (V a)) : s_at V a x = s_at V a y := by
  have hW := hV.2.1 a ha
  have e1 := Int.mul_ediv_add_emod x (s_per (V a))
  have e2 := Int.mul_ediv_add_emod y (s_per (V a))
  unfold s_at
  rw [s_way_plain h4, s_way_plain h4]
  have h1 := s_per_is hW h4 (x % s_per (V a)) (x / s_per (V a))
  have h2 := s_per_is hW h4 (y % s_per (V a)) (y / s_per (V a))
  rw [show x % s_per (V a) + s_per (V a) * (x / s_per (V a)) = x by omega] at h1
  rw [show y % s_per (V a) + s_per (V a) * (y / s_per (V a)) = y by omega] at h2
  rw [h1, h2, h]

set_option maxRecDepth 20000 in
theorem c_firstMeeting {V : ew_Mem} {n : Nat} {M : ew_Mem} (hC : s_C V n M) {a p b q : Int} (ha : 0 ≤ a ∧ a < V 6 0) (hb : 0 ≤ b ∧ b < V 6 0) (hp0 : ew_in p) (hq0 : ew_in q) : ew_FM 86 [(2, 5), (0, a), (0, p), (0, b), (0, q)] n M (0, s_meet V a.toNat p b.toNat q) n M := by
  obtain ⟨hn, hp, hV, v0, v1, v2, v3, v4⟩ := id hC
  obtain ⟨hc6, hVW, hnd, hap, hr0, hr1, hr2, hr3, hr4, hr5⟩ := id hV
  have hc := ew_c_86
  have hwf := v4 a.toNat (by omega)
  have hw59 := hwf.1
  simp only [ew_own, Bool.and_eq_true, decide_eq_true_eq] at hw59
  have hWO := hVW a.toNat (by omega)
  have hpb := s_per_bd hWO
  show ew_X 86 0 [(2, 5), (0, a), (0, p), (0, b), (0, q), (5, 0), (5, 0), (5, 0), (5, 0), (5, 0), (5, 0), (5, 0), (5, 0), (5, 0)] [] n M _
  by_cases h6 : V a.toNat 0 = 4
  · skip
    refine xr_go hc rfl rfl ?_
    refine xr_go hc rfl rfl ?_
    refine xr_v_2 hc rfl rfl (ew_own_p hn rfl) (c_numbered hC ha) ?_
    refine xr_s1_5 hc rfl rfl rfl ?_
    refine xr_go hc rfl rfl ?_
    refine xr_s1_6 hc rfl rfl rfl ?_
    refine xr_go hc rfl rfl ?_
    refine xr_nonnull hc rfl (fun c1 => ?_) (fun c1 => by exfalso; omega)
    refine xr_go hc rfl rfl ?_
    refine xr_v_1 hc rfl rfl hwf.1 (by have h := c_ownPeriod hn hp hwf hWO; rw [if_pos h6] at h; exact h) ?_
    refine xr_s2_7 hc rfl rfl rfl ?_
    refine xr_go hc rfl rfl ?_
    refine xr_go hc rfl rfl ?_
    refine xr_l_lt hc rfl rfl (by omega) (by decide) (fun c2 => ?_) (fun c2 => ?_)
    · skip
      refine xr_go hc rfl rfl ?_
      refine xr_go hc rfl rfl ?_
      refine xr_s1_9 hc rfl rfl rfl ?_
      refine xr_go hc rfl rfl ?_
      refine xr_s1_10 hc rfl rfl rfl ?_
      refine xr_go hc rfl rfl ?_
      refine xr_s1_11 hc rfl rfl rfl ?_
      first
        | (exact c_meet_out hC ha hb hp0 hq0 (rnd := s_per (V a.toNat)) (by omega) (fun x y h1 h2 h3 h4 h5 => s_at_per hV (by omega) h6 x y h5) (s_per (V a.toNat)).toNat 0 100001 _ _ (by decide) (by omega) ⟨Or.inl rfl, fun x h1 h2 h3 => by have := Int.emod_nonneg x (show s_per (V a.toNat) ≠ 0 by omega); omega⟩)
        | (exact c_meet_out hC ha hb hp0 hq0 (rnd := 100001) (by omega) (fun x y h1 h2 h3 h4 h5 => by rw [Int.emod_eq_of_lt h1 h2, Int.emod_eq_of_lt h3 h4] at h5; rw [h5]) 100001 0 100001 _ _ (by decide) (by omega) ⟨Or.inl rfl, fun x h1 h2 h3 => by have := Int.emod_nonneg x (show (100001 : Int) ≠ 0 by omega); omega⟩)
        | (exfalso; omega)
    · skip
      refine xr_go hc rfl rfl ?_
      refine xr_go hc rfl rfl ?_
      refine xr_l_le hc rfl rfl (by omega) (by omega) (fun c3 => ?_) (fun c3 => ?_)
      · skip
        refine xr_go hc rfl rfl ?_
        refine xr_go hc rfl rfl ?_
        refine xr_s1_9 hc rfl rfl rfl ?_
        refine xr_go hc rfl rfl ?_
        refine xr_s1_10 hc rfl rfl rfl ?_
        refine xr_go hc rfl rfl ?_
        refine xr_s1_11 hc rfl rfl rfl ?_
        first
          | (exact c_meet_out hC ha hb hp0 hq0 (rnd := s_per (V a.toNat)) (by omega) (fun x y h1 h2 h3 h4 h5 => s_at_per hV (by omega) h6 x y h5) (s_per (V a.toNat)).toNat 0 100001 _ _ (by decide) (by omega) ⟨Or.inl rfl, fun x h1 h2 h3 => by have := Int.emod_nonneg x (show s_per (V a.toNat) ≠ 0 by omega); omega⟩)
          | (exact c_meet_out hC ha hb hp0 hq0 (rnd := 100001) (by omega) (fun x y h1 h2 h3 h4 h5 => by rw [Int.emod_eq_of_lt h1 h2, Int.emod_eq_of_lt h3 h4] at h5; rw [h5]) 100001 0 100001 _ _ (by decide) (by omega) ⟨Or.inl rfl, fun x h1 h2 h3 => by have := Int.emod_nonneg x (show (100001 : Int) ≠ 0 by omega); omega⟩)
          | (exfalso; omega)
      · skip
        refine xr_go hc rfl rfl ?_
        refine xr_go hc rfl rfl ?_
        refine xr_s1_9 hc rfl rfl rfl ?_
        refine xr_go hc rfl rfl ?_
        refine xr_s1_10 hc rfl rfl rfl ?_
        refine xr_go hc rfl rfl ?_
        refine xr_s1_11 hc rfl rfl rfl ?_
        first
          | (exact c_meet_out hC ha hb hp0 hq0 (rnd := s_per (V a.toNat)) (by omega) (fun x y h1 h2 h3 h4 h5 => s_at_per hV (by omega) h6 x y h5) (s_per (V a.toNat)).toNat 0 100001 _ _ (by decide) (by omega) ⟨Or.inl rfl, fun x h1 h2 h3 => by have := Int.emod_nonneg x (show s_per (V a.toNat) ≠ 0 by omega); omega⟩)
          | (exact c_meet_out hC ha hb hp0 hq0 (rnd := 100001) (by omega) (fun x y h1 h2 h3 h4 h5 => by rw [Int.emod_eq_of_lt h1 h2, Int.emod_eq_of_lt h3 h4] at h5; rw [h5]) 100001 0 100001 _ _ (by decide) (by omega) ⟨Or.inl rfl, fun x h1 h2 h3 => by have := Int.emod_nonneg x (show (100001 : Int) ≠ 0 by omega); omega⟩)
          | (exfalso; omega)
  · skip
    refine xr_go hc rfl rfl ?_
    refine xr_go hc rfl rfl ?_
    refine xr_v_2 hc rfl rfl (ew_own_p hn rfl) (c_numbered hC ha) ?_
    refine xr_s1_5 hc rfl rfl rfl ?_
    refine xr_go hc rfl rfl ?_
    refine xr_s1_6 hc rfl rfl rfl ?_
    refine xr_go hc rfl rfl ?_
    refine xr_nonnull hc rfl (fun c1 => ?_) (fun c1 => by exfalso; omega)
    refine xr_go hc rfl rfl ?_
    refine xr_v_1 hc rfl rfl hwf.1 (by have h := c_ownPeriod hn hp hwf hWO; rw [if_neg h6] at h; exact h) ?_
    refine xr_s2_7 hc rfl rfl rfl ?_
    refine xr_go hc rfl rfl ?_
    refine xr_go hc rfl rfl ?_
    refine xr_l_lt hc rfl rfl (by omega) (by decide) (fun c2 => ?_) (fun c2 => ?_)
    · skip
      refine xr_go hc rfl rfl ?_
      refine xr_go hc rfl rfl ?_
      refine xr_s1_9 hc rfl rfl rfl ?_
      refine xr_go hc rfl rfl ?_
      refine xr_s1_10 hc rfl rfl rfl ?_
      refine xr_go hc rfl rfl ?_
      refine xr_s1_11 hc rfl rfl rfl ?_
      first
        | (exact c_meet_out hC ha hb hp0 hq0 (rnd := s_per (V a.toNat)) (by omega) (fun x y h1 h2 h3 h4 h5 => s_at_per hV (by omega) h6 x y h5) (s_per (V a.toNat)).toNat 0 100001 _ _ (by decide) (by omega) ⟨Or.inl rfl, fun x h1 h2 h3 => by have := Int.emod_nonneg x (show s_per (V a.toNat) ≠ 0 by omega); omega⟩)
        | (exact c_meet_out hC ha hb hp0 hq0 (rnd := 100001) (by omega) (fun x y h1 h2 h3 h4 h5 => by rw [Int.emod_eq_of_lt h1 h2, Int.emod_eq_of_lt h3 h4] at h5; rw [h5]) 100001 0 100001 _ _ (by decide) (by omega) ⟨Or.inl rfl, fun x h1 h2 h3 => by have := Int.emod_nonneg x (show (100001 : Int) ≠ 0 by omega); omega⟩)
        | (exfalso; omega)
    · skip
      refine xr_go hc rfl rfl ?_
      refine xr_go hc rfl rfl ?_
      refine xr_l_le hc rfl rfl (by omega) (by omega) (fun c3 => ?_) (fun c3 => ?_)
      · skip
        refine xr_go hc rfl rfl ?_
        refine xr_go hc rfl rfl ?_
        refine xr_s1_9 hc rfl rfl rfl ?_
        refine xr_go hc rfl rfl ?_
        refine xr_s1_10 hc rfl rfl rfl ?_
        refine xr_go hc rfl rfl ?_
        refine xr_s1_11 hc rfl rfl rfl ?_
        first
          | (exact c_meet_out hC ha hb hp0 hq0 (rnd := s_per (V a.toNat)) (by omega) (fun x y h1 h2 h3 h4 h5 => s_at_per hV (by omega) h6 x y h5) (s_per (V a.toNat)).toNat 0 100001 _ _ (by decide) (by omega) ⟨Or.inl rfl, fun x h1 h2 h3 => by have := Int.emod_nonneg x (show s_per (V a.toNat) ≠ 0 by omega); omega⟩)
          | (exact c_meet_out hC ha hb hp0 hq0 (rnd := 100001) (by omega) (fun x y h1 h2 h3 h4 h5 => by rw [Int.emod_eq_of_lt h1 h2, Int.emod_eq_of_lt h3 h4] at h5; rw [h5]) 100001 0 100001 _ _ (by decide) (by omega) ⟨Or.inl rfl, fun x h1 h2 h3 => by have := Int.emod_nonneg x (show (100001 : Int) ≠ 0 by omega); omega⟩)
          | (exfalso; omega)
      · skip
        refine xr_go hc rfl rfl ?_
        refine xr_go hc rfl rfl ?_
        refine xr_s1_9 hc rfl rfl rfl ?_
        refine xr_go hc rfl rfl ?_
        refine xr_s1_10 hc rfl rfl rfl ?_
        refine xr_go hc rfl rfl ?_
        refine xr_s1_11 hc rfl rfl rfl ?_
        first
          | (exact c_meet_out hC ha hb hp0 hq0 (rnd := s_per (V a.toNat)) (by omega) (fun x y h1 h2 h3 h4 h5 => s_at_per hV (by omega) h6 x y h5) (s_per (V a.toNat)).toNat 0 100001 _ _ (by decide) (by omega) ⟨Or.inl rfl, fun x h1 h2 h3 => by have := Int.emod_nonneg x (show s_per (V a.toNat) ≠ 0 by omega); omega⟩)
          | (exact c_meet_out hC ha hb hp0 hq0 (rnd := 100001) (by omega) (fun x y h1 h2 h3 h4 h5 => by rw [Int.emod_eq_of_lt h1 h2, Int.emod_eq_of_lt h3 h4] at h5; rw [h5]) 100001 0 100001 _ _ (by decide) (by omega) ⟨Or.inl rfl, fun x h1 h2 h3 => by have := Int.emod_nonneg x (show (100001 : Int) ≠ 0 by omega); omega⟩)
          | (exfalso; omega)

