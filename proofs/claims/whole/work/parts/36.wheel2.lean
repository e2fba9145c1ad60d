/-! the class: terms, convergents, divisors, periods -/
set_option maxRecDepth 20000 in
theorem c_gcd_1 {n : Nat} {M : ew_Mem} {x0 y0 : Int} : ∀ (j : Nat) (x y : Int) (i : Int) (tq : Nat) (q : Int), (tq = 1 ∨ tq = 5) → (0 ≤ x ∧ x < 9223372036854775808) → (0 ≤ y ∧ y < 9223372036854775808) → s_EB j x y → 0 ≤ i → i + (j : Int) ≤ 199 → s_gcd x y = s_gcd x0 y0 →
    ew_X 20 9 [(1, x0), (5, 0), (1, y0), (5, 0), (1, x), (5, 0), (1, y), (5, 0), (0, i), (tq, q), (5, 0)] [] n M (fun r a b => r = some (1, s_gcd x0 y0) ∧ a = n ∧ b = M) := by
  have hc := ew_c_20
  intro j
  induction j with
  | zero =>
    intro x y i tq q htq hx0 hy hE hi hij hg
    have hx := hx0.1
    have hy0 : y = 0 := hE
    rcases htq with rfl | rfl
    · skip
      refine xr_go hc rfl rfl ?_
      refine xr_go hc rfl rfl ?_
      refine xr_icmp_ge hc rfl (by omega) (by decide) (fun c1 => ?_) (fun c1 => ?_)
      · exfalso; omega
      · skip
        refine xr_go hc rfl rfl ?_
        refine xr_go hc rfl rfl ?_
        refine xr_l_le hc rfl rfl (by omega) (by omega) (fun c2 => ?_) (fun c2 => ?_)
        · skip
          refine xr_go hc rfl rfl ?_
          refine xr_ret hc rfl rfl ?_
          exact ⟨by rw [← hg, hy0, s_gcd_0 hx], rfl, rfl⟩
        · exfalso; omega
    · skip
      refine xr_go hc rfl rfl ?_
      refine xr_go hc rfl rfl ?_
      refine xr_icmp_ge hc rfl (by omega) (by decide) (fun c1 => ?_) (fun c1 => ?_)
      · exfalso; omega
      · skip
        refine xr_go hc rfl rfl ?_
        refine xr_go hc rfl rfl ?_
        refine xr_l_le hc rfl rfl (by omega) (by omega) (fun c2 => ?_) (fun c2 => ?_)
        · skip
          refine xr_go hc rfl rfl ?_
          refine xr_ret hc rfl rfl ?_
          exact ⟨by rw [← hg, hy0, s_gcd_0 hx], rfl, rfl⟩
        · exfalso; omega
  | succ j ih =>
    intro x y i tq q htq hx0 hy hE hi hij hg
    have hx := hx0.1
    by_cases hy0 : y = 0
    · rcases htq with rfl | rfl
      · skip
        refine xr_go hc rfl rfl ?_
        refine xr_go hc rfl rfl ?_
        refine xr_icmp_ge hc rfl (by omega) (by decide) (fun c1 => ?_) (fun c1 => ?_)
        · exfalso; omega
        · skip
          refine xr_go hc rfl rfl ?_
          refine xr_go hc rfl rfl ?_
          refine xr_l_le hc rfl rfl (by omega) (by omega) (fun c2 => ?_) (fun c2 => ?_)
          · skip
            refine xr_go hc rfl rfl ?_
            refine xr_ret hc rfl rfl ?_
            exact ⟨by rw [← hg, hy0, s_gcd_0 hx], rfl, rfl⟩
          · exfalso; omega
      · skip
        refine xr_go hc rfl rfl ?_
        refine xr_go hc rfl rfl ?_
        refine xr_icmp_ge hc rfl (by omega) (by decide) (fun c1 => ?_) (fun c1 => ?_)
        · exfalso; omega
        · skip
          refine xr_go hc rfl rfl ?_
          refine xr_go hc rfl rfl ?_
          refine xr_l_le hc rfl rfl (by omega) (by omega) (fun c2 => ?_) (fun c2 => ?_)
          · skip
            refine xr_go hc rfl rfl ?_
            refine xr_ret hc rfl rfl ?_
            exact ⟨by rw [← hg, hy0, s_gcd_0 hx], rfl, rfl⟩
          · exfalso; omega
    · have hE2 : 0 < y ∧ s_EB j y (x % y) := hE.elim (fun h => absurd h hy0) id
      have g1 := Int.emod_nonneg x hy0
      have g2 := Int.emod_lt_of_pos x hE2.1
      rcases htq with rfl | rfl
      · skip
        refine xr_go hc rfl rfl ?_
        refine xr_go hc rfl rfl ?_
        refine xr_icmp_ge hc rfl (by omega) (by decide) (fun c1 => ?_) (fun c1 => ?_)
        · exfalso; omega
        · skip
          refine xr_go hc rfl rfl ?_
          refine xr_go hc rfl rfl ?_
          refine xr_l_le hc rfl rfl (by omega) (by omega) (fun c2 => ?_) (fun c2 => ?_)
          · exfalso; omega
          · skip
            refine xr_go hc rfl rfl ?_
            refine xr_go hc rfl rfl ?_
            refine xr_lremN hc rfl (by omega) (by omega) ?_
            refine xr_s2_9 hc rfl rfl rfl ?_
            refine xr_go hc rfl rfl ?_
            refine xr_s2_4 hc rfl rfl rfl ?_
            refine xr_go hc rfl rfl ?_
            refine xr_s2_6 hc rfl rfl rfl ?_
            refine xr_inc_8 hc rfl ?_
            refine xr_go hc rfl rfl ?_
            exact ih y (x % y) (i + 1) 1 _ (Or.inl rfl) (by omega) (by omega) hE2.2 (by omega) (by omega) (by rw [← hg, s_gcd_step hx hE2.1])
      · skip
        refine xr_go hc rfl rfl ?_
        refine xr_go hc rfl rfl ?_
        refine xr_icmp_ge hc rfl (by omega) (by decide) (fun c1 => ?_) (fun c1 => ?_)
        · exfalso; omega
        · skip
          refine xr_go hc rfl rfl ?_
          refine xr_go hc rfl rfl ?_
          refine xr_l_le hc rfl rfl (by omega) (by omega) (fun c2 => ?_) (fun c2 => ?_)
          · exfalso; omega
          · skip
            refine xr_go hc rfl rfl ?_
            refine xr_go hc rfl rfl ?_
            refine xr_lremN hc rfl (by omega) (by omega) ?_
            refine xr_s2_9 hc rfl rfl rfl ?_
            refine xr_go hc rfl rfl ?_
            refine xr_s2_4 hc rfl rfl rfl ?_
            refine xr_go hc rfl rfl ?_
            refine xr_s2_6 hc rfl rfl rfl ?_
            refine xr_inc_8 hc rfl ?_
            refine xr_go hc rfl rfl ?_
            exact ih y (x % y) (i + 1) 1 _ (Or.inl rfl) (by omega) (by omega) hE2.2 (by omega) (by omega) (by rw [← hg, s_gcd_step hx hE2.1])

set_option maxRecDepth 20000 in
theorem c_gcd {n : Nat} {M : ew_Mem} {x y : Int} (hx : 0 ≤ x ∧ x < 9223372036854775808) (hy : 0 ≤ y ∧ y < 262144) : ew_FM 20 [(1, x), (1, y)] n M (1, s_gcd x y) n M := by
  have hc := ew_c_20
  show ew_X 20 0 [(1, x), (5, 0), (1, y), (5, 0), (5, 0), (5, 0), (5, 0), (5, 0), (5, 0), (5, 0), (5, 0)] [] n M _
  refine xr_go hc rfl rfl ?_
  refine xr_s2_4 hc rfl rfl rfl ?_
  refine xr_go hc rfl rfl ?_
  refine xr_s2_6 hc rfl rfl rfl ?_
  refine xr_go hc rfl rfl ?_
  refine xr_s1_8 hc rfl rfl rfl ?_
  exact c_gcd_1 36 x y 0 5 0 (Or.inr rfl) hx (by omega) (s_EB_of 18 hx.1 hy.1 (by omega)) (by decide) (by decide) rfl

theorem s_lcm_cond {a b by0 : Int} : a = a := rfl

set_option maxRecDepth 20000 in
theorem c_lcm {n : Nat} {M : ew_Mem} {x y : Int} (hx : 0 < x ∧ x < 9223372036854775808) (hy : 0 < y ∧ y < 262144) : ew_FM 21 [(1, x), (1, y)] n M (1, if 9223372036854775807 / (y / s_gcd x y) < x then -9223372036854775808 else x * (y / s_gcd x y)) n M := by
  have hc := ew_c_21
  have g1 := s_gcd_pos (x := x) (y := y) hx.1
  have g2 := s_gcd_le (x := y) (y := x) hy.1
  rw [s_gcd_comm] at g2
  have g3 := s_div_pos g1 g2
  have g4 := s_div_pos (a := 9223372036854775807) (b := y / s_gcd x y) (by omega) (by omega)
  show ew_X 21 0 [(1, x), (5, 0), (1, y), (5, 0), (5, 0), (5, 0)] [] n M _
  refine xr_go hc rfl rfl ?_
  refine xr_go hc rfl rfl ?_
  refine xr_go hc rfl rfl ?_
  refine xr_s_2 hc rfl rfl (c_gcd (by omega) (by omega)) ?_
  refine xr_s_2 hc rfl rfl (c_cutDown (by omega) (by omega)) ?_
  refine xr_s2_4 hc rfl rfl rfl ?_
  refine xr_go hc rfl rfl ?_
  refine xr_go hc rfl rfl ?_
  refine xr_l_le hc rfl rfl (by omega) (by omega) (fun c1 => ?_) (fun c1 => ?_)
  · skip
    refine xr_go hc rfl rfl ?_
    refine xr_ret hc rfl rfl ?_
    refine ⟨?_, rfl, rfl⟩
    first
      | rw [if_pos (by omega)]
      | rw [if_neg (by omega)]
  · skip
    refine xr_go hc rfl rfl ?_
    refine xr_go hc rfl rfl ?_
    refine xr_go hc rfl rfl ?_
    refine xr_ldivN hc rfl (by omega) (by omega) ?_
    refine xr_l_le hc rfl rfl (by omega) (by omega) (fun c2 => ?_) (fun c2 => ?_)
    · skip
      refine xr_go hc rfl rfl ?_
      refine xr_go hc rfl rfl ?_
      refine xr_go hc rfl rfl ?_
      refine xr_ret hc rfl rfl ?_
      refine ⟨?_, rfl, rfl⟩
      first
        | rw [if_pos (by omega)]
        | rw [if_neg (by omega)]
    · skip
      refine xr_go hc rfl rfl ?_
      refine xr_ret hc rfl rfl ?_
      refine ⟨?_, rfl, rfl⟩
      first
        | rw [if_pos (by omega)]
        | rw [if_neg (by omega)]

set_option maxRecDepth 20000 in
theorem c_ownPeriod {n : Nat} {M : ew_Mem} (hn : 59 ≤ n) (hp : ew_Pm M) {w : Int} {W : Nat → Int} (hw : s_WF w n M W) (hW : s_WO W)  : ew_FM 45 [(2, w)] n M (1, if W 0 = 4 then -9223372036854775808 else s_per W) n M := by
  have hc := ew_c_45
  obtain ⟨hw, w0, w1, w2, w3, w4⟩ := hw
  obtain ⟨k0, k1, k2, k3, k4⟩ := id hW
  have hpb := s_per1_bd hW
  have hgA := s_gcd_pos (x := W 1) (y := W 2) (by omega)
  have hgB := s_gcd_pos (x := W 1) (y := 2 * W 2) (by omega)
  have hgC := s_gcd_le (x := W 1) (y := W 2) (by omega)
  have hgD := s_gcd_le (x := W 1) (y := 2 * W 2) (by omega)
  have hpe : s_per1 W = if W 0 = 3 then W 1 / s_gcd (W 1) (2 * W 2) else W 1 / s_gcd (W 1) (W 2) := by unfold s_per1; split <;> rfl
  show ew_X 45 0 [(2, w), (5, 0), (5, 0), (5, 0), (5, 0)] [] n M _
  refine xr_go hc rfl rfl ?_
  refine xr_gf0 rfl hc rfl hw w0 ?_
  refine xr_go hc rfl rfl ?_
  refine xr_icmp_ne hc rfl (by omega) (by decide) (fun c1 => ?_) (fun c1 => ?_)
  · skip
    refine xr_go hc rfl rfl ?_
    refine xr_gf0 rfl hc rfl hw w0 ?_
    refine xr_go hc rfl rfl ?_
    refine xr_icmp_ne hc rfl (by omega) (by decide) (fun c2 => ?_) (fun c2 => ?_)
    · skip
      refine xr_go hc rfl rfl ?_
      refine xr_gf0 rfl hc rfl hw w2 ?_
      refine xr_i2l hc rfl (by omega) ?_
      refine xr_s2_1 hc rfl rfl rfl ?_
      refine xr_go hc rfl rfl ?_
      refine xr_gf0 rfl hc rfl hw w1 ?_
      refine xr_i2l hc rfl (by omega) ?_
      refine xr_go hc rfl rfl ?_
      refine xr_gf0 rfl hc rfl hw w1 ?_
      refine xr_i2l hc rfl (by omega) ?_
      refine xr_go hc rfl rfl ?_
      refine xr_s_2 hc rfl rfl (c_gcd (by omega) (by omega)) ?_
      refine xr_s_2 hc rfl rfl (c_cutDown (by omega) (by omega)) ?_
      refine xr_s2_3 hc rfl rfl rfl ?_
      refine xr_go hc rfl rfl ?_
      refine xr_gf0 rfl hc rfl hw w0 ?_
      refine xr_go hc rfl rfl ?_
      refine xr_icmp_ne hc rfl (by omega) (by decide) (fun c3 => ?_) (fun c3 => ?_)
      · skip
        refine xr_go hc rfl rfl ?_
        refine xr_ret hc rfl rfl ?_
        refine ⟨?_, rfl, rfl⟩
        first
          | (rw [if_pos (by omega)]; done)
          | (rw [if_neg (by omega)]
             (first | rw [if_pos (by omega)] at hpe | rw [if_neg (by omega)] at hpe)
             rw [← hpe]
             unfold s_per
             first | (rw [if_pos ⟨by omega, by omega⟩]; done) | (rw [if_neg (by omega)]; done))
      · skip
        refine xr_go hc rfl rfl ?_
        refine xr_go hc rfl rfl ?_
        refine xr_l_le hc rfl rfl (by omega) (by omega) (fun c4 => ?_) (fun c4 => ?_)
        · skip
          refine xr_go hc rfl rfl ?_
          refine xr_ret hc rfl rfl ?_
          refine ⟨?_, rfl, rfl⟩
          first
            | (rw [if_pos (by omega)]; done)
            | (rw [if_neg (by omega)]
               (first | rw [if_pos (by omega)] at hpe | rw [if_neg (by omega)] at hpe)
               rw [← hpe]
               unfold s_per
               first | (rw [if_pos ⟨by omega, by omega⟩]; done) | (rw [if_neg (by omega)]; done))
        · skip
          refine xr_go hc rfl rfl ?_
          refine xr_go hc rfl rfl ?_
          refine xr_go hc rfl rfl ?_
          refine xr_go hc rfl rfl ?_
          refine xr_ret hc rfl rfl ?_
          refine ⟨?_, rfl, rfl⟩
          first
            | (rw [if_pos (by omega)]; done)
            | (rw [if_neg (by omega)]
               (first | rw [if_pos (by omega)] at hpe | rw [if_neg (by omega)] at hpe)
               rw [← hpe]
               unfold s_per
               first | (rw [if_pos ⟨by omega, by omega⟩]; done) | (rw [if_neg (by omega)]; done))
    · skip
      refine xr_go hc rfl rfl ?_
      refine xr_go hc rfl rfl ?_
      refine xr_gf0 rfl hc rfl hw w2 ?_
      refine xr_i2l hc rfl (by omega) ?_
      refine xr_go hc rfl rfl ?_
      refine xr_go hc rfl rfl ?_
      refine xr_s2_1 hc rfl rfl rfl ?_
      refine xr_go hc rfl rfl ?_
      refine xr_gf0 rfl hc rfl hw w1 ?_
      refine xr_i2l hc rfl (by omega) ?_
      refine xr_go hc rfl rfl ?_
      refine xr_gf0 rfl hc rfl hw w1 ?_
      refine xr_i2l hc rfl (by omega) ?_
      refine xr_go hc rfl rfl ?_
      refine xr_s_2 hc rfl rfl (c_gcd (by omega) (by omega)) ?_
      refine xr_s_2 hc rfl rfl (c_cutDown (by omega) (by omega)) ?_
      refine xr_s2_3 hc rfl rfl rfl ?_
      refine xr_go hc rfl rfl ?_
      refine xr_gf0 rfl hc rfl hw w0 ?_
      refine xr_go hc rfl rfl ?_
      refine xr_icmp_ne hc rfl (by omega) (by decide) (fun c5 => ?_) (fun c5 => ?_)
      · skip
        refine xr_go hc rfl rfl ?_
        refine xr_ret hc rfl rfl ?_
        refine ⟨?_, rfl, rfl⟩
        first
          | (rw [if_pos (by omega)]; done)
          | (rw [if_neg (by omega)]
             (first | rw [if_pos (by omega)] at hpe | rw [if_neg (by omega)] at hpe)
             rw [← hpe]
             unfold s_per
             first | (rw [if_pos ⟨by omega, by omega⟩]; done) | (rw [if_neg (by omega)]; done))
      · skip
        refine xr_go hc rfl rfl ?_
        refine xr_go hc rfl rfl ?_
        refine xr_l_le hc rfl rfl (by omega) (by omega) (fun c6 => ?_) (fun c6 => ?_)
        · skip
          refine xr_go hc rfl rfl ?_
          refine xr_ret hc rfl rfl ?_
          refine ⟨?_, rfl, rfl⟩
          first
            | (rw [if_pos (by omega)]; done)
            | (rw [if_neg (by omega)]
               (first | rw [if_pos (by omega)] at hpe | rw [if_neg (by omega)] at hpe)
               rw [← hpe]
               unfold s_per
               first | (rw [if_pos ⟨by omega, by omega⟩]; done) | (rw [if_neg (by omega)]; done))
        · skip
          refine xr_go hc rfl rfl ?_
          refine xr_go hc rfl rfl ?_
          refine xr_go hc rfl rfl ?_
          refine xr_go hc rfl rfl ?_
          refine xr_ret hc rfl rfl ?_
          refine ⟨?_, rfl, rfl⟩
          first
            | (rw [if_pos (by omega)]; done)
            | (rw [if_neg (by omega)]
               (first | rw [if_pos (by omega)] at hpe | rw [if_neg (by omega)] at hpe)
               rw [← hpe]
               unfold s_per
               first | (rw [if_pos ⟨by omega, by omega⟩]; done) | (rw [if_neg (by omega)]; done))
  · skip
    refine xr_go hc rfl rfl ?_
    refine xr_ret hc rfl rfl ?_
    refine ⟨?_, rfl, rfl⟩
    first
      | (rw [if_pos (by omega)]; done)
      | (rw [if_neg (by omega)]
         (first | rw [if_pos (by omega)] at hpe | rw [if_neg (by omega)] at hpe)
         rw [← hpe]
         unfold s_per
         first | (rw [if_pos ⟨by omega, by omega⟩]; done) | (rw [if_neg (by omega)]; done))

theorem s_nth_cons (a : Int) (T : List Int) {i : Int} (h : 0 ≤ i) : s_nth (a :: T) (i + 1) = s_nth T i := by
  unfold s_nth
  rw [if_pos (show 0 ≤ i + 1 by omega), if_pos h, show (i + 1).toNat = i.toNat + 1 by omega]
  rfl
theorem s_nth_neg (T : List Int) {i : Int} (h : i < 0) : s_nth T i = -1 := by
  unfold s_nth
  rw [if_neg (by omega)]

set_option maxRecDepth 20000 in
theorem c_term_1 {n : Nat} {M : ew_Mem} (hn : 59 ≤ n) (hp : ew_Pm M) {w : Int} {W : Nat → Int} (hw : s_WF w n M W) (hW : s_WO W) {t : Int} (ht : ew_in t) : ∀ (j : Nat) (x y : Int) (i : Int) (q : ew_AV), (0 ≤ x ∧ x < 2147483648) → (0 ≤ y ∧ y < 2147483648) → 0 ≤ i → i + (j : Int) = 64 → (i ≤ t → s_nth (s_tl j x y) (t - i) = s_nth (s_T W) t) → (t < i → s_nth (s_T W) t = -1) →
    ew_X 42 13 [(2, w), (0, t), (0, x), (0, y), (0, i), q] [] n M (fun r a b => r = some (0, s_nth (s_T W) t) ∧ a = n ∧ b = M) := by
  have hc := ew_c_42
  intro j
  induction j with
  | zero =>
    intro x y i q hx hy hi hij h1 h2
    refine xr_go hc rfl rfl ?_
    refine xr_go hc rfl rfl ?_
    refine xr_icmp_ge hc rfl (by omega) (by decide) (fun c1 => ?_) (fun c1 => ?_)
    · skip
      refine xr_go hc rfl rfl ?_
      refine xr_ret hc rfl rfl ?_
      refine ⟨?_, rfl, rfl⟩
      rcases Int.lt_or_le t i with hti | hti
      · rw [h2 hti]
      · rw [← h1 hti]
        simp [s_tl, s_nth]
        try omega
    · exfalso; omega
  | succ j ih =>
    intro x y i q hx hy hi hij h1 h2
    refine xr_go hc rfl rfl ?_
    refine xr_go hc rfl rfl ?_
    refine xr_icmp_ge hc rfl (by omega) (by decide) (fun c1 => ?_) (fun c1 => ?_)
    · exfalso; omega
    · skip
      refine xr_go hc rfl rfl ?_
      refine xr_if_le hc rfl (by omega) (fun c2 => ?_) (fun c2 => ?_)
      · skip
        refine xr_go hc rfl rfl ?_
        refine xr_ret hc rfl rfl ?_
        refine ⟨?_, rfl, rfl⟩
        first
          | (rw [← h1 (by omega), show t - i = 0 by omega]
             simp only [s_tl, if_pos (show 0 < y by omega)]
             rfl)
          | (rcases Int.lt_or_le t i with hti | hti
             · rw [h2 hti]
             · rw [← h1 hti]
               simp only [s_tl, if_neg (show ¬ 0 < y by omega)]
               simp [s_nth])
      · skip
        refine xr_go hc rfl rfl ?_
        refine xr_go hc rfl rfl ?_
        refine xr_icmp_ne hc rfl (by omega) (by omega) (fun c3 => ?_) (fun c3 => ?_)
        · skip
          refine xr_go hc rfl rfl ?_
          refine xr_go hc rfl rfl ?_
          refine xr_irem hc rfl (by omega) (by omega) ?_
          refine xr_s1_5 hc rfl rfl rfl ?_
          refine xr_go hc rfl rfl ?_
          refine xr_s1_2 hc rfl rfl rfl ?_
          refine xr_go hc rfl rfl ?_
          refine xr_s1_3 hc rfl rfl rfl ?_
          refine xr_inc_4 hc rfl ?_
          refine xr_go hc rfl rfl ?_
          have g1 := Int.emod_nonneg x (show y ≠ 0 by omega)
          have g2 := Int.emod_lt_of_pos x (show 0 < y by omega)
          refine ih y (x % y) (i + 1) _ (by omega) (by omega) (by omega) (by omega) (fun h3 => ?_) (fun h3 => h2 (by omega))
          rw [← h1 (by omega)]
          simp only [s_tl, if_pos (show 0 < y by omega)]
          rw [show t - i = (t - (i + 1)) + 1 by omega]
          exact (s_nth_cons _ _ (by omega)).symm
        · skip
          refine xr_go hc rfl rfl ?_
          refine xr_go hc rfl rfl ?_
          refine xr_idiv hc rfl (by omega) (by omega) ?_
          refine xr_ret hc rfl rfl ?_
          refine ⟨?_, rfl, rfl⟩
          first
            | (rw [← h1 (by omega), show t - i = 0 by omega]
               simp only [s_tl, if_pos (show 0 < y by omega)]
               rfl)
            | (rcases Int.lt_or_le t i with hti | hti
               · rw [h2 hti]
               · rw [← h1 hti]
                 simp only [s_tl, if_neg (show ¬ 0 < y by omega)]
                 simp [s_nth])

set_option maxRecDepth 20000 in
theorem c_term {n : Nat} {M : ew_Mem} (hn : 59 ≤ n) (hp : ew_Pm M) {w : Int} {W : Nat → Int} (hw : s_WF w n M W) (hW : s_WO W) {t : Int} (ht : ew_in t) : ew_FM 42 [(2, w), (0, t)] n M (0, s_nth (s_T W) t) n M := by
  have hc := ew_c_42
  obtain ⟨hw, w0, w1, w2, w3, w4⟩ := hw
  obtain ⟨k0, k1, k2, k3, k4⟩ := id hW
  show ew_X 42 0 [(2, w), (0, t), (5, 0), (5, 0), (5, 0), (5, 0)] [] n M _
  refine xr_go hc rfl rfl ?_
  refine xr_gf0 rfl hc rfl hw w2 ?_
  refine xr_s1_2 hc rfl rfl rfl ?_
  refine xr_go hc rfl rfl ?_
  refine xr_gf0 rfl hc rfl hw w1 ?_
  refine xr_s1_3 hc rfl rfl rfl ?_
  refine xr_go hc rfl rfl ?_
  refine xr_s1_4 hc rfl rfl rfl ?_
  exact c_term_1 hn hp ⟨hw, w0, w1, w2, w3, w4⟩ hW ht 64 (W 2) (W 1) 0 _ (by omega) (by omega) (by decide) (by decide) (fun _ => by rw [Int.sub_zero]; rfl) (fun h => s_nth_neg _ h)

