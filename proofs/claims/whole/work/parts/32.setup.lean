/-! the class: what its setup tells -/
theorem s_nn (a : Nat) : ((a : Int) + 1).toNat = a + 1 := by omega
theorem s_n1 (a : Nat) : (a : Int) + 1 = ((a + 1 : Nat) : Int) := by omega
set_option maxRecDepth 20000 in
theorem c_numbered {V : ew_Mem} {n : Nat} {M : ew_Mem} (hC : s_C V n M) {i : Int} (hi : 0 ≤ i ∧ i < V 6 0) : ew_FM 65 [(2, 5), (0, i)] n M (2, M 6 i.toNat) n M := by
  obtain ⟨hn, hp, hV, v0, v1, v2, v3, v4⟩ := id hC
  obtain ⟨hc6, hVW, hnd, hap, hr0, hr1, hr2, hr3, hr4, hr5⟩ := id hV
  have hc := ew_c_65
  show ew_X 65 0 [(2, 5), (0, i)] [] n M _
  refine xr_go hc rfl rfl ?_
  refine xr_if_lt hc rfl (by omega) (fun c1 => ?_) (fun c1 => ?_)
  · exfalso; omega
  · skip
    refine xr_go hc rfl rfl ?_
    refine xr_go hc rfl rfl ?_
    refine xr_gf0 (A := 5) rfl hc rfl (ew_own_p hn rfl) v0 ?_
    refine xr_icmp_ge hc rfl (by omega) (by omega) (fun c2 => ?_) (fun c2 => ?_)
    · exfalso; omega
    · skip
      refine xr_go hc rfl rfl ?_
      refine xr_go hc rfl rfl ?_
      refine xr_icmp_ge hc rfl (by omega) (by decide) (fun c3 => ?_) (fun c3 => ?_)
      · exfalso; omega
      · skip
        refine xr_go hc rfl rfl ?_
        refine xr_gf2 (A := 5) (w := 6) rfl hc rfl (ew_own_p hn rfl) (ew_pm hp rfl) ?_
        refine xr_go hc rfl rfl ?_
        refine xr_aald (A := 6) (t := 22) (N := 6) rfl rfl hc rfl (ew_own_p hn rfl) (by decide) (by omega) (by omega) rfl ?_
        refine xr_go hc rfl rfl ?_
        refine xr_ret hc rfl rfl ?_
        exact ⟨rfl, rfl, rfl⟩

set_option maxRecDepth 20000 in
theorem c_numberedN {V : ew_Mem} {n : Nat} {M : ew_Mem} (hC : s_C V n M) {i : Int} (hin : ew_in i) (hi : ¬ (0 ≤ i ∧ i < V 6 0)) : ew_FM 65 [(2, 5), (0, i)] n M (2, 0) n M := by
  obtain ⟨hn, hp, hV, v0, v1, v2, v3, v4⟩ := id hC
  obtain ⟨hc6, hVW, hnd, hap, hr0, hr1, hr2, hr3, hr4, hr5⟩ := id hV
  have hc := ew_c_65
  show ew_X 65 0 [(2, 5), (0, i)] [] n M _
  refine xr_go hc rfl rfl ?_
  refine xr_if_lt hc rfl (by omega) (fun c1 => ?_) (fun c1 => ?_)
  · skip
    refine xr_go hc rfl rfl ?_
    refine xr_ret hc rfl rfl ?_
    exact ⟨rfl, rfl, rfl⟩
  · skip
    refine xr_go hc rfl rfl ?_
    refine xr_go hc rfl rfl ?_
    refine xr_gf0 (A := 5) rfl hc rfl (ew_own_p hn rfl) v0 ?_
    refine xr_icmp_ge hc rfl (by omega) (by omega) (fun c2 => ?_) (fun c2 => ?_)
    · skip
      refine xr_go hc rfl rfl ?_
      refine xr_ret hc rfl rfl ?_
      exact ⟨rfl, rfl, rfl⟩
    · exfalso; omega

set_option maxRecDepth 20000 in
theorem c_wayAt_2 {V : ew_Mem} {n : Nat} {M : ew_Mem} (hC : s_C V n M) {w : Nat} {m : Int} (hw : (w : Int) < V 6 0) (hm : -100000 ≤ m ∧ m ≤ 100000) : ∀ (j d : Nat) (dr : Int), d + j = w → (∀ r : Nat, d < r → r ≤ w → V r 0 = 4) → s_plain (V d) dr = s_way V d m → -200000 ≤ dr ∧ dr ≤ 200000 →
    ew_X 67 44 [(2, 5), (0, (w : Int)), (0, m), (0, (d : Int)), (2, M 6 d), (1, dr), (5, 0)] [] n M (fun r a b => r = some (1, s_way V w m) ∧ a = n ∧ b = M) := by
  obtain ⟨hn, hp, hV, v0, v1, v2, v3, v4⟩ := id hC
  obtain ⟨hc6, hVW, hnd, hap, hr0, hr1, hr2, hr3, hr4, hr5⟩ := id hV
  have hc := ew_c_67
  intro j
  induction j with
  | zero =>
    intro d dr hj h4 hpl hdr
    obtain rfl : d = w := by omega
    have hwf := v4 d (by omega)
    have hw59 := hwf.1
    simp only [ew_own, Bool.and_eq_true, decide_eq_true_eq] at hw59
    refine xr_go hc rfl rfl ?_
    refine xr_go hc rfl rfl ?_
    refine xr_icmp_ge hc rfl (by omega) (by omega) (fun c1 => ?_) (fun c1 => ?_)
    · skip
      refine xr_go hc rfl rfl ?_
      refine xr_nonnull hc rfl (fun c2 => ?_) (fun c2 => by exfalso; omega)
      refine xr_go hc rfl rfl ?_
      refine xr_go hc rfl rfl ?_
      refine xr_v_2 hc rfl rfl hwf.1 (c_wayBy hn hp (v4 d (by omega)) (hVW d (by omega)) hdr) ?_
      refine xr_ret hc rfl rfl ?_
      exact ⟨by rw [hpl], rfl, rfl⟩
    · exfalso; omega
  | succ j ih =>
    intro d dr hj h4 hpl hdr
    have hwf := v4 d (by omega)
    have hw59 := hwf.1
    simp only [ew_own, Bool.and_eq_true, decide_eq_true_eq] at hw59
    have hWd := hVW d (by omega)
    have hbd := s_way_bd hV hm d (by omega)
    rw [← hpl] at hbd
    obtain ⟨k0, k1, k2, k3, k4⟩ := hWd
    have hq := Int.ediv_nonneg_iff_of_pos (a := s_plain (V d) dr) (show 0 < V d 1 by omega)
    have hq2 : -100000000000 ≤ s_plain (V d) dr / V d 1 ∧ s_plain (V d) dr / V d 1 ≤ 100000000000 := s_div_bd hbd (by omega)
    have g1 := Int.emod_nonneg (s_plain (V d) dr / V d 1) (show (100000 : Int) ≠ 0 by decide)
    have g2 := Int.emod_lt_of_pos (s_plain (V d) dr / V d 1) (show (0 : Int) < 100000 by decide)
    refine xr_go hc rfl rfl ?_
    refine xr_go hc rfl rfl ?_
    refine xr_icmp_ge hc rfl (by omega) (by omega) (fun c1 => ?_) (fun c1 => ?_)
    · exfalso; omega
    · skip
      refine xr_go hc rfl rfl ?_
      refine xr_null hc rfl (fun c2 => by exfalso; omega) (fun c2 => ?_)
      refine xr_go hc rfl rfl ?_
      refine xr_go hc rfl rfl ?_
      refine xr_v_2 hc rfl rfl hwf.1 (c_wayBy hn hp (v4 d (by omega)) (hVW d (by omega)) hdr) ?_
      refine xr_go hc rfl rfl ?_
      refine xr_gf0 rfl hc rfl hwf.1 hwf.2.2.1 ?_
      refine xr_i2l hc rfl (by omega) ?_
      refine xr_s_2 hc rfl rfl (c_cutDown (by omega) (by omega)) ?_
      refine xr_go hc rfl rfl ?_
      refine xr_s_2 hc rfl rfl (c_leftOver (by omega) (by omega)) ?_
      refine xr_s2_5 hc rfl rfl rfl ?_
      refine xr_inc_3 hc rfl ?_
      refine xr_go hc rfl rfl ?_
      refine xr_go hc rfl rfl ?_
      refine xr_v_2 hc rfl rfl (ew_own_p hn rfl) (c_numbered hC (by omega)) ?_
      refine xr_s1_4 hc rfl rfl rfl ?_
      refine xr_go hc rfl rfl ?_
      rw [s_n1]
      simp only [Int.toNat_natCast]
      exact ih (d + 1) _ (by omega) (fun r h1 h2 => h4 r (by omega) h2) (by rw [hpl, s_way_4 (h4 (d + 1) (by omega) (by omega))]) (by omega)

set_option maxRecDepth 20000 in
theorem c_wayAt_1 {V : ew_Mem} {n : Nat} {M : ew_Mem} (hC : s_C V n M) {w : Nat} {m : Int} (hw : (w : Int) < V 6 0) (hm : -100000 ≤ m ∧ m ≤ 100000) : ∀ (d : Nat), d ≤ w → (∀ r : Nat, d < r → r ≤ w → V r 0 = 4) →
    ew_X 67 9 [(2, 5), (0, (w : Int)), (0, m), (0, (d : Int)), (2, M 6 d), (5, 0), (5, 0)] [] n M (fun r a b => r = some (1, s_way V w m) ∧ a = n ∧ b = M) := by
  obtain ⟨hn, hp, hV, v0, v1, v2, v3, v4⟩ := id hC
  obtain ⟨hc6, hVW, hnd, hap, hr0, hr1, hr2, hr3, hr4, hr5⟩ := id hV
  have hc := ew_c_67
  intro d
  induction d with
  | zero =>
    intro hd h4
    refine xr_go hc rfl rfl ?_
    refine xr_if_le hc rfl (by omega) (fun c1 => ?_) (fun c1 => ?_)
    · skip
      refine xr_go hc rfl rfl ?_
      refine xr_i2l hc rfl (by omega) ?_
      refine xr_s2_5 hc rfl rfl rfl ?_
      exact c_wayAt_2 hC hw hm w 0 m (by omega) h4 rfl (by omega)
    · exfalso; omega
  | succ d ih =>
    intro hd h4
    have hwf := v4 (d + 1) (by omega)
    have hw59 := hwf.1
    simp only [ew_own, Bool.and_eq_true, decide_eq_true_eq] at hw59
    have hWd := hVW (d + 1) (by omega)
    obtain ⟨k0, k1, k2, k3, k4⟩ := hWd
    refine xr_go hc rfl rfl ?_
    refine xr_if_le hc rfl (by omega) (fun c1 => ?_) (fun c1 => ?_)
    · skip
      refine xr_go hc rfl rfl ?_
      refine xr_i2l hc rfl (by omega) ?_
      refine xr_s2_5 hc rfl rfl rfl ?_
      exact c_wayAt_2 hC hw hm (w - (d + 1)) (d + 1) m (by omega) h4 (by rw [s_way_n (by omega)]) (by omega)
    · skip
      refine xr_go hc rfl rfl ?_
      refine xr_null hc rfl (fun c2 => by exfalso; omega) (fun c2 => ?_)
      refine xr_go hc rfl rfl ?_
      refine xr_gf0 rfl hc rfl hwf.1 hwf.2.1 ?_
      refine xr_go hc rfl rfl ?_
      refine xr_icmp_ne hc rfl (by omega) (by decide) (fun c3 => ?_) (fun c3 => ?_)
      · skip
        refine xr_go hc rfl rfl ?_
        refine xr_i2l hc rfl (by omega) ?_
        refine xr_s2_5 hc rfl rfl rfl ?_
        exact c_wayAt_2 hC hw hm (w - (d + 1)) (d + 1) m (by omega) h4 (by rw [s_way_n (by omega)]) (by omega)
      · skip
        refine xr_inc_3 hc rfl ?_
        refine xr_go hc rfl rfl ?_
        refine xr_go hc rfl rfl ?_
        refine xr_v_2 hc rfl rfl (ew_own_p hn rfl) (c_numbered hC (by omega)) ?_
        refine xr_s1_4 hc rfl rfl rfl ?_
        refine xr_go hc rfl rfl ?_
        rw [show (((d + 1 : Nat) : Int) + -1) = (d : Int) by omega]
        simp only [Int.toNat_natCast]
        exact ih (by omega) (fun r h1 h2 => by
          by_cases hr : r = d + 1
          · subst hr; exact c3
          · exact h4 r (by omega) h2)

set_option maxRecDepth 20000 in
theorem c_wayAt {V : ew_Mem} {n : Nat} {M : ew_Mem} (hC : s_C V n M) {w : Nat} {m : Int} (hw : (w : Int) < V 6 0) (hm : -100000 ≤ m ∧ m ≤ 100000) : ew_FM 67 [(2, 5), (0, (w : Int)), (0, m)] n M (1, s_way V w m) n M := by
  obtain ⟨hn, hp, hV, v0, v1, v2, v3, v4⟩ := id hC
  obtain ⟨hc6, hVW, hnd, hap, hr0, hr1, hr2, hr3, hr4, hr5⟩ := id hV
  have hc := ew_c_67
  show ew_X 67 0 [(2, 5), (0, (w : Int)), (0, m), (5, 0), (5, 0), (5, 0), (5, 0)] [] n M _
  refine xr_go hc rfl rfl ?_
  refine xr_s1_3 hc rfl rfl rfl ?_
  refine xr_go hc rfl rfl ?_
  refine xr_go hc rfl rfl ?_
  refine xr_v_2 hc rfl rfl (ew_own_p hn rfl) (c_numbered hC (by omega)) ?_
  refine xr_s1_4 hc rfl rfl rfl ?_
  simp only [Int.toNat_natCast]
  exact c_wayAt_1 hC hw hm w (by omega) (fun r h1 h2 => by omega)

