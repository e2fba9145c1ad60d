/-! the class: terms, convergents, divisors, periods -/
set_option maxRecDepth 20000 in
theorem c_gcd_1 {n : Nat} {M : ew_Mem} {x0 y0 : Int} : ∀ (j : Nat) (x y : Int) (i : Int) (tq : Nat) (q : Int), (tq = 1 ∨ tq = 5) → (0 ≤ x ∧ x < 9223372036854775808) → (0 ≤ y ∧ y < 9223372036854775808) → s_EB j x y → 0 ≤ i → i + (j : Int) ≤ 199 → s_gcd x y = s_gcd x0 y0 →
    ew_X 20 9 [(1, x0), (5, 0), (1, y0), (5, 0), (1, x), (5, 0), (1, y), (5, 0), (0, i), (tq, q), (5, 0)] [] n M (fun r a b => r = some (1, s_gcd x0 y0) ∧ a = n ∧ b = M) := by
  have hc := ew_c_20
  intro j
  induction j with
  | zero =>
    intro x y i tq q htq hx0 hy hE hi hij hg
    have hx := hx0.1
    have hy0 : y = 0 := hE
    rcases htq with rfl | rfl
    · skip
      refine xr_go hc rfl rfl ?_
      refine xr_go hc rfl rfl ?_
      refine xr_icmp_ge hc rfl (by omega) (by decide) (fun c1 => ?_) (fun c1 => ?_)
      · exfalso; omega
      · skip
        refine xr_go hc rfl rfl ?_
        refine xr_go hc rfl rfl ?_
        refine xr_l_le hc rfl rfl (by omega) (by omega) (fun c2 => ?_) (fun c2 => ?_)
        · skip
          refine xr_go hc rfl rfl ?_
          refine xr_ret hc rfl rfl ?_
          exact ⟨by rw [← hg, hy0, s_gcd_0 hx], rfl, rfl⟩
        · exfalso; omega
    · skip
      refine xr_go hc rfl rfl ?_
      refine xr_go hc rfl rfl ?_
      refine xr_icmp_ge hc rfl (by omega) (by decide) (fun c1 => ?_) (fun c1 => ?_)
      · exfalso; omega
      · skip
        refine xr_go hc rfl rfl ?_
        refine xr_go hc rfl rfl ?_
        refine xr_l_le hc rfl rfl (by omega) (by omega) (fun c2 => ?_) (fun c2 => ?_)
        · skip
          refine xr_go hc rfl rfl ?_
          refine xr_ret hc rfl rfl ?_
          exact ⟨by rw [← hg, hy0, s_gcd_0 hx], rfl, rfl⟩
        · exfalso; omega
  | succ j ih =>
    intro x y i tq q htq hx0 hy hE hi hij hg
    have hx := hx0.1
    by_cases hy0 : y = 0
    · rcases htq with rfl | rfl
      · skip
        refine xr_go hc rfl rfl ?_
        refine xr_go hc rfl rfl ?_
        refine xr_icmp_ge hc rfl (by omega) (by decide) (fun c1 => ?_) (fun c1 => ?_)
        · exfalso; omega
        · skip
          refine xr_go hc rfl rfl ?_
          refine xr_go hc rfl rfl ?_
          refine xr_l_le hc rfl rfl (by omega) (by omega) (fun c2 => ?_) (fun c2 => ?_)
          · skip
            refine xr_go hc rfl rfl ?_
            refine xr_ret hc rfl rfl ?_
            exact ⟨by rw [← hg, hy0, s_gcd_0 hx], rfl, rfl⟩
          · exfalso; omega
      · skip
        refine xr_go hc rfl rfl ?_
        refine xr_go hc rfl rfl ?_
        refine xr_icmp_ge hc rfl (by omega) (by decide) (fun c1 => ?_) (fun c1 => ?_)
        · exfalso; omega
        · skip
          refine xr_go hc rfl rfl ?_
          refine xr_go hc rfl rfl ?_
          refine xr_l_le hc rfl rfl (by omega) (by omega) (fun c2 => ?_) (fun c2 => ?_)
          · skip
            refine xr_go hc rfl rfl ?_
            refine xr_ret hc rfl rfl ?_
            exact ⟨by rw [← hg, hy0, s_gcd_0 hx], rfl, rfl⟩
          · exfalso; omega
    · have hE2 : 0 < y ∧ s_EB j y (x % y) := hE.elim (fun h => absurd h hy0) id
      have g1 := Int.emod_nonneg x hy0
      have g2 := Int.emod_lt_of_pos x hE2.1
      rcases htq with rfl | rfl
      · skip
        refine xr_go hc rfl rfl ?_
        refine xr_go hc rfl rfl ?_
        refine xr_icmp_ge hc rfl (by omega) (by decide) (fun c1 => ?_) (fun c1 => ?_)
        · exfalso; omega
        · skip
          refine xr_go hc rfl rfl ?_
          refine xr_go hc rfl rfl ?_
          refine xr_l_le hc rfl rfl (by omega) (by omega) (fun c2 => ?_) (fun c2 => ?_)
          · exfalso; omega
          · skip
            refine xr_go hc rfl rfl ?_
            refine xr_go hc rfl rfl ?_
            refine xr_lremN hc rfl (by omega) (by omega) ?_
            refine xr_s2_9 hc rfl rfl rfl ?_
            refine xr_go hc rfl rfl ?_
            refine xr_s2_4 hc rfl rfl rfl ?_
            refine xr_go hc rfl rfl ?_
            refine xr_s2_6 hc rfl rfl rfl ?_
            refine xr_inc_8 hc rfl ?_
            refine xr_go hc rfl rfl ?_
            exact ih y (x % y) (i + 1) 1 _ (Or.inl rfl) (by omega) (by omega) hE2.2 (by omega) (by omega) (by rw [← hg, s_gcd_step hx hE2.1])
      · skip
        refine xr_go hc rfl rfl ?_
        refine xr_go hc rfl rfl ?_
        refine xr_icmp_ge hc rfl (by omega) (by decide) (fun c1 => ?_) (fun c1 => ?_)
        · exfalso; omega
        · skip
          refine xr_go hc rfl rfl ?_
          refine xr_go hc rfl rfl ?_
          refine xr_l_le hc rfl rfl (by omega) (by omega) (fun c2 => ?_) (fun c2 => ?_)
          · exfalso; omega
          · skip
            refine xr_go hc rfl rfl ?_
            refine xr_go hc rfl rfl ?_
            refine xr_lremN hc rfl (by omega) (by omega) ?_
            refine xr_s2_9 hc rfl rfl rfl ?_
            refine xr_go hc rfl rfl ?_
            refine xr_s2_4 hc rfl rfl rfl ?_
            refine xr_go hc rfl rfl ?_
            refine xr_s2_6 hc rfl rfl rfl ?_
            refine xr_inc_8 hc rfl ?_
            refine xr_go hc rfl rfl ?_
            exact ih y (x % y) (i + 1) 1 _ (Or.inl rfl) (by omega) (by omega) hE2.2 (by omega) (by omega) (by rw [← hg, s_gcd_step hx hE2.1])

set_option maxRecDepth 20000 in
theorem c_gcd {n : Nat} {M : ew_Mem} {x y : Int} (hx : 0 ≤ x ∧ x < 9223372036854775808) (hy : 0 ≤ y ∧ y < 262144) : ew_FM 20 [(1, x), (1, y)] n M (1, s_gcd x y) n M := by
  have hc := ew_c_20
  show ew_X 20 0 [(1, x), (5, 0), (1, y), (5, 0), (5, 0), (5, 0), (5, 0), (5, 0), (5, 0), (5, 0), (5, 0)] [] n M _
  refine xr_go hc rfl rfl ?_
  refine xr_s2_4 hc rfl rfl rfl ?_
  refine xr_go hc rfl rfl ?_
  refine xr_s2_6 hc rfl rfl rfl ?_
  refine xr_go hc rfl rfl ?_
  refine xr_s1_8 hc rfl rfl rfl ?_
  exact c_gcd_1 36 x y 0 5 0 (Or.inr rfl) hx (by omega) (s_EB_of 18 hx.1 hy.1 (by omega)) (by decide) (by decide) rfl

theorem s_lcm_cond {a b by0 : Int} : a = a := rfl

set_option maxRecDepth 20000 in
theorem c_lcm {n : Nat} {M : ew_Mem} {x y : Int} (hx : 0 < x ∧ x < 9223372036854775808) (hy : 0 < y ∧ y < 262144) : ew_FM 21 [(1, x), (1, y)] n M (1, if 9223372036854775807 / (y / s_gcd x y) < x then -9223372036854775808 else x * (y / s_gcd x y)) n M := by
  have hc := ew_c_21
  have g1 := s_gcd_pos (x := x) (y := y) hx.1
  have g2 := s_gcd_le (x := y) (y := x) hy.1
  rw [s_gcd_comm] at g2
  have g3 := s_div_pos g1 g2
  have g4 := s_div_pos (a := 9223372036854775807) (b := y / s_gcd x y) (by omega) (by omega)
  show ew_X 21 0 [(1, x), (5, 0), (1, y), (5, 0), (5, 0), (5, 0)] [] n M _
  refine xr_go hc rfl rfl ?_
  refine xr_go hc rfl rfl ?_
  refine xr_go hc rfl rfl ?_
  refine xr_s_2 hc rfl rfl (c_gcd (by omega) (by omega)) ?_
  refine xr_s_2 hc rfl rfl (c_cutDown (by omega) (by omega)) ?_
  refine xr_s2_4 hc rfl rfl rfl ?_
  refine xr_go hc rfl rfl ?_
  refine xr_go hc rfl rfl ?_
  refine xr_l_le hc rfl rfl (by omega) (by omega) (fun c1 => ?_) (fun c1 => ?_)
  · skip
    refine xr_go hc rfl rfl ?_
    refine xr_ret hc rfl rfl ?_
    refine ⟨?_, rfl, rfl⟩
    first
      | rw [if_pos (by omega)]
      | rw [if_neg (by omega)]
  · skip
    refine xr_go hc rfl rfl ?_
    refine xr_go hc rfl rfl ?_
    refine xr_go hc rfl rfl ?_
    refine xr_ldivN hc rfl (by omega) (by omega) ?_
    refine xr_l_le hc rfl rfl (by omega) (by omega) (fun c2 => ?_) (fun c2 => ?_)
    · skip
      refine xr_go hc rfl rfl ?_
      refine xr_go hc rfl rfl ?_
      refine xr_go hc rfl rfl ?_
      refine xr_ret hc rfl rfl ?_
      refine ⟨?_, rfl, rfl⟩
      first
        | rw [if_pos (by omega)]
        | rw [if_neg (by omega)]
    · skip
      refine xr_go hc rfl rfl ?_
      refine xr_ret hc rfl rfl ?_
      refine ⟨?_, rfl, rfl⟩
      first
        | rw [if_pos (by omega)]
        | rw [if_neg (by omega)]

set_option maxRecDepth 20000 in
theorem c_ownPeriod {n : Nat} {M : ew_Mem} (hn : 59 ≤ n) (hp : ew_Pm M) {w : Int} {W : Nat → Int} (hw : s_WF w n M W) (hW : s_WO W)  : ew_FM 45 [(2, w)] n M (1, if W 0 = 4 then -9223372036854775808 else s_per W) n M := by
  have hc := ew_c_45
  obtain ⟨hw, w0, w1, w2, w3, w4⟩ := hw
  obtain ⟨k0, k1, k2, k3, k4⟩ := id hW
  have hpb := s_per1_bd hW
  have hgA := s_gcd_pos (x := W 1) (y := W 2) (by omega)
  have hgB := s_gcd_pos (x := W 1) (y := 2 * W 2) (by omega)
  have hgC := s_gcd_le (x := W 1) (y := W 2) (by omega)
  have hgD := s_gcd_le (x := W 1) (y := 2 * W 2) (by omega)
  have hpe : s_per1 W = if W 0 = 3 then W 1 / s_gcd (W 1) (2 * W 2) else W 1 / s_gcd (W 1) (W 2) := by unfold s_per1; split <;> rfl
  show ew_X 45 0 [(2, w), (5, 0), (5, 0), (5, 0), (5, 0)] [] n M _
  refine xr_go hc rfl rfl ?_
  refine xr_gf0 rfl hc rfl hw w0 ?_
  refine xr_go hc rfl rfl ?_
  refine xr_icmp_ne hc rfl (by omega) (by decide) (fun c1 => ?_) (fun c1 => ?_)
  · skip
    refine xr_go hc rfl rfl ?_
    refine xr_gf0 rfl hc rfl hw w0 ?_
    refine xr_go hc rfl rfl ?_
    refine xr_icmp_ne hc rfl (by omega) (by decide) (fun c2 => ?_) (fun c2 => ?_)
    · skip
      refine xr_go hc rfl rfl ?_
      refine xr_gf0 rfl hc rfl hw w2 ?_
      refine xr_i2l hc rfl (by omega) ?_
      refine xr_s2_1 hc rfl rfl rfl ?_
      refine xr_go hc rfl rfl ?_
      refine xr_gf0 rfl hc rfl hw w1 ?_
      refine xr_i2l hc rfl (by omega) ?_
      refine xr_go hc rfl rfl ?_
      refine xr_gf0 rfl hc rfl hw w1 ?_
      refine xr_i2l hc rfl (by omega) ?_
      refine xr_go hc rfl rfl ?_
      refine xr_s_2 hc rfl rfl (c_gcd (by omega) (by omega)) ?_
      refine xr_s_2 hc rfl rfl (c_cutDown (by omega) (by omega)) ?_
      refine xr_s2_3 hc rfl rfl rfl ?_
      refine xr_go hc rfl rfl ?_
      refine xr_gf0 rfl hc rfl hw w0 ?_
      refine xr_go hc rfl rfl ?_
      refine xr_icmp_ne hc rfl (by omega) (by decide) (fun c3 => ?_) (fun c3 => ?_)
      · skip
        refine xr_go hc rfl rfl ?_
        refine xr_ret hc rfl rfl ?_
        refine ⟨?_, rfl, rfl⟩
        first
          | (rw [if_pos (by omega)]; done)
          | (rw [if_neg (by omega)]
             (first | rw [if_pos (by omega)] at hpe | rw [if_neg (by omega)] at hpe)
             rw [← hpe]
             unfold s_per
             first | (rw [if_pos ⟨by omega, by omega⟩]; done) | (rw [if_neg (by omega)]; done))
      · skip
        refine xr_go hc rfl rfl ?_
        refine xr_go hc rfl rfl ?_
        refine xr_l_le hc rfl rfl (by omega) (by omega) (fun c4 => ?_) (fun c4 => ?_)
        · skip
          refine xr_go hc rfl rfl ?_
          refine xr_ret hc rfl rfl ?_
          refine ⟨?_, rfl, rfl⟩
          first
            | (rw [if_pos (by omega)]; done)
            | (rw [if_neg (by omega)]
               (first | rw [if_pos (by omega)] at hpe | rw [if_neg (by omega)] at hpe)
               rw [← hpe]
               unfold s_per
               first | (rw [if_pos ⟨by omega, by omega⟩]; done) | (rw [if_neg (by omega)]; done))
        · skip
          refine xr_go hc rfl rfl ?_
          refine xr_go hc rfl rfl ?_
          refine xr_go hc rfl rfl ?_
          refine xr_go hc rfl rfl ?_
          refine xr_ret hc rfl rfl ?_
          refine ⟨?_, rfl, rfl⟩
          first
            | (rw [if_pos (by omega)]; done)
            | (rw [if_neg (by omega)]
               (first | rw [if_pos (by omega)] at hpe | rw [if_neg (by omega)] at hpe)
               rw [← hpe]
               unfold s_per
               first | (rw [if_pos ⟨by omega, by omega⟩]; done) | (rw [if_neg (by omega)]; done))
    · skip
      refine xr_go hc rfl rfl ?_
      refine xr_go hc rfl rfl ?_
      refine xr_gf0 rfl hc rfl hw w2 ?_
      refine xr_i2l hc rfl (by omega) ?_
      refine xr_go hc rfl rfl ?_
      refine xr_go hc rfl rfl ?_
      refine xr_s2_1 hc rfl rfl rfl ?_
      refine xr_go hc rfl rfl ?_
      refine xr_gf0 rfl hc rfl hw w1 ?_
      refine xr_i2l hc rfl (by omega) ?_
      refine xr_go hc rfl rfl ?_
      refine xr_gf0 rfl hc rfl hw w1 ?_
      refine xr_i2l hc rfl (by omega) ?_
      refine xr_go hc rfl rfl ?_
      refine xr_s_2 hc rfl rfl (c_gcd (by omega) (by omega)) ?_
      refine xr_s_2 hc rfl rfl (c_cutDown (by omega) (by omega)) ?_
      refine xr_s2_3 hc rfl rfl rfl ?_
      refine xr_go hc rfl rfl ?_
      refine xr_gf0 rfl hc rfl hw w0 ?_
      refine xr_go hc rfl rfl ?_
      refine xr_icmp_ne hc rfl (by omega) (by decide) (fun c5 => ?_) (fun c5 => ?_)
      · skip
        refine xr_go hc rfl rfl ?_
        refine xr_ret hc rfl rfl ?_
        refine ⟨?_, rfl, rfl⟩
        first
          | (rw [if_pos (by omega)]; done)
          | (rw [if_neg (by omega)]
             (first | rw [if_pos (by omega)] at hpe | rw [if_neg (by omega)] at hpe)
             rw [← hpe]
             unfold s_per
             first | (rw [if_pos ⟨by omega, by omega⟩]; done) | (rw [if_neg (by omega)]; done))
      · skip
        refine xr_go hc rfl rfl ?_
        refine xr_go hc rfl rfl ?_
        refine xr_l_le hc rfl rfl (by omega) (by omega) (fun c6 => ?_) (fun c6 => ?_)
        · skip
          refine xr_go hc rfl rfl ?_
          refine xr_ret hc rfl rfl ?_
          refine ⟨?_, rfl, rfl⟩
          first
            | (rw [if_pos (by omega)]; done)
            | (rw [if_neg (by omega)]
               (first | rw [if_pos (by omega)] at hpe | rw [if_neg (by omega)] at hpe)
               rw [← hpe]
               unfold s_per
               first | (rw [if_pos ⟨by omega, by omega⟩]; done) | (rw [if_neg (by omega)]; done))
        · skip
          refine xr_go hc rfl rfl ?_
          refine xr_go hc rfl rfl ?_
          refine xr_go hc rfl rfl ?_
          refine xr_go hc rfl rfl ?_
          refine xr_ret hc rfl rfl ?_
          refine ⟨?_, rfl, rfl⟩
          first
            | (rw [if_pos (by omega)]; done)
            | (rw [if_neg (by omega)]
               (first | rw [if_pos (by omega)] at hpe | rw [if_neg (by omega)] at hpe)
               rw [← hpe]
               unfold s_per
               first | (rw [if_pos ⟨by omega, by omega⟩]; done) | (rw [if_neg (by omega)]; done))
  · skip
    refine xr_go hc rfl rfl ?_
    refine xr_ret hc rfl rfl ?_
    refine ⟨?_, rfl, rfl⟩
    first
      | (rw [if_pos (by omega)]; done)
      | (rw [if_neg (by omega)]
         (first | rw [if_pos (by omega)] at hpe | rw [if_neg (by omega)] at hpe)
         rw [← hpe]
         unfold s_per
         first | (rw [if_pos ⟨by omega, by omega⟩]; done) | (rw [if_neg (by omega)]; done))

theorem s_nth_cons (a : Int) (T : List Int) {i : Int} (h : 0 ≤ i) : s_nth (a :: T) (i + 1) = s_nth T i := by
  unfold s_nth
  rw [if_pos (show 0 ≤ i + 1 by omega), if_pos h, show (i + 1).toNat = i.toNat + 1 by omega]
  rfl
theorem s_nth_neg (T : List Int) {i : Int} (h : i < 0) : s_nth T i = -1 := by
  unfold s_nth
  rw [if_neg (by omega)]

set_option maxRecDepth 20000 in
theorem c_term_1 {n : Nat} {M : ew_Mem} (hn : 59 ≤ n) (hp : ew_Pm M) {w : Int} {W : Nat → Int} (hw : s_WF w n M W) (hW : s_WO W) {t : Int} (ht : ew_in t) : ∀ (j : Nat) (x y : Int) (i : Int) (q : ew_AV), (0 ≤ x ∧ x < 2147483648) → (0 ≤ y ∧ y < 2147483648) → 0 ≤ i → i + (j : Int) = 64 → (i ≤ t → s_nth (s_tl j x y) (t - i) = s_nth (s_T W) t) → (t < i → s_nth (s_T W) t = -1) →
    ew_X 42 13 [(2, w), (0, t), (0, x), (0, y), (0, i), q] [] n M (fun r a b => r = some (0, s_nth (s_T W) t) ∧ a = n ∧ b = M) := by
  have hc := ew_c_42
  intro j
  induction j with
  | zero =>
    intro x y i q hx hy hi hij h1 h2
    refine xr_go hc rfl rfl ?_
    refine xr_go hc rfl rfl ?_
    refine xr_icmp_ge hc rfl (by omega) (by decide) (fun c1 => ?_) (fun c1 => ?_)
    · skip
      refine xr_go hc rfl rfl ?_
      refine xr_ret hc rfl rfl ?_
      refine ⟨?_, rfl, rfl⟩
      rcases Int.lt_or_le t i with hti | hti
      · rw [h2 hti]
      · rw [← h1 hti]
        simp [s_tl, s_nth]
        try omega
    · exfalso; omega
  | succ j ih =>
    intro x y i q hx hy hi hij h1 h2
    refine xr_go hc rfl rfl ?_
    refine xr_go hc rfl rfl ?_
    refine xr_icmp_ge hc rfl (by omega) (by decide) (fun c1 => ?_) (fun c1 => ?_)
    · exfalso; omega
    · skip
      refine xr_go hc rfl rfl ?_
      refine xr_if_le hc rfl (by omega) (fun c2 => ?_) (fun c2 => ?_)
      · skip
        refine xr_go hc rfl rfl ?_
        refine xr_ret hc rfl rfl ?_
        refine ⟨?_, rfl, rfl⟩
        first
          | (rw [← h1 (by omega), show t - i = 0 by omega]
             simp only [s_tl, if_pos (show 0 < y by omega)]
             rfl)
          | (rcases Int.lt_or_le t i with hti | hti
             · rw [h2 hti]
             · rw [← h1 hti]
               simp only [s_tl, if_neg (show ¬ 0 < y by omega)]
               simp [s_nth])
      · skip
        refine xr_go hc rfl rfl ?_
        refine xr_go hc rfl rfl ?_
        refine xr_icmp_ne hc rfl (by omega) (by omega) (fun c3 => ?_) (fun c3 => ?_)
        · skip
          refine xr_go hc rfl rfl ?_
          refine xr_go hc rfl rfl ?_
          refine xr_irem hc rfl (by omega) (by omega) ?_
          refine xr_s1_5 hc rfl rfl rfl ?_
          refine xr_go hc rfl rfl ?_
          refine xr_s1_2 hc rfl rfl rfl ?_
          refine xr_go hc rfl rfl ?_
          refine xr_s1_3 hc rfl rfl rfl ?_
          refine xr_inc_4 hc rfl ?_
          refine xr_go hc rfl rfl ?_
          have g1 := Int.emod_nonneg x (show y ≠ 0 by omega)
          have g2 := Int.emod_lt_of_pos x (show 0 < y by omega)
          refine ih y (x % y) (i + 1) _ (by omega) (by omega) (by omega) (by omega) (fun h3 => ?_) (fun h3 => h2 (by omega))
          rw [← h1 (by omega)]
          simp only [s_tl, if_pos (show 0 < y by omega)]
          rw [show t - i = (t - (i + 1)) + 1 by omega]
          exact (s_nth_cons _ _ (by omega)).symm
        · skip
          refine xr_go hc rfl rfl ?_
          refine xr_go hc rfl rfl ?_
          refine xr_idiv hc rfl (by omega) (by omega) ?_
          refine xr_ret hc rfl rfl ?_
          refine ⟨?_, rfl, rfl⟩
          first
            | (rw [← h1 (by omega), show t - i = 0 by omega]
               simp only [s_tl, if_pos (show 0 < y by omega)]
               rfl)
            | (rcases Int.lt_or_le t i with hti | hti
               · rw [h2 hti]
               · rw [← h1 hti]
                 simp only [s_tl, if_neg (show ¬ 0 < y by omega)]
                 simp [s_nth])

set_option maxRecDepth 20000 in
theorem c_term {n : Nat} {M : ew_Mem} (hn : 59 ≤ n) (hp : ew_Pm M) {w : Int} {W : Nat → Int} (hw : s_WF w n M W) (hW : s_WO W) {t : Int} (ht : ew_in t) : ew_FM 42 [(2, w), (0, t)] n M (0, s_nth (s_T W) t) n M := by
  have hc := ew_c_42
  obtain ⟨hw, w0, w1, w2, w3, w4⟩ := hw
  obtain ⟨k0, k1, k2, k3, k4⟩ := id hW
  show ew_X 42 0 [(2, w), (0, t), (5, 0), (5, 0), (5, 0), (5, 0)] [] n M _
  refine xr_go hc rfl rfl ?_
  refine xr_gf0 rfl hc rfl hw w2 ?_
  refine xr_s1_2 hc rfl rfl rfl ?_
  refine xr_go hc rfl rfl ?_
  refine xr_gf0 rfl hc rfl hw w1 ?_
  refine xr_s1_3 hc rfl rfl rfl ?_
  refine xr_go hc rfl rfl ?_
  refine xr_s1_4 hc rfl rfl rfl ?_
  exact c_term_1 hn hp ⟨hw, w0, w1, w2, w3, w4⟩ hW ht 64 (W 2) (W 1) 0 _ (by omega) (by omega) (by decide) (by decide) (fun _ => by rw [Int.sub_zero]; rfl) (fun h => s_nth_neg _ h)

theorem s_ring1 (y a b u d : Int) : (y * a + b) * u + a * d = a * (y * u + d) + b * u := by
  rw [Int.add_mul, Int.mul_add, Int.mul_comm y a, Int.mul_assoc]
  omega

set_option maxRecDepth 20000 in
theorem c_cvg_1 {n : Nat} {M : ew_Mem} (hn : 59 ≤ n) (hp : ew_Pm M) {w : Int} {W : Nat → Int} (hw : s_WF w n M W) (hW : s_WO W) {t : Nat} {x : Int} (hx : ew_in x) (ht : t < (s_T W).length) : ∀ (j i : Nat) (a a' b b' : Int) (tq : Nat) (q1 q2 q3 : Int), (tq = 1 ∨ tq = 5) → i + j = t + 1 → a * (s_bw (s_sl (s_T W) t i)).1 + a' * (s_bw (s_sl (s_T W) t i)).2 = (s_bw (s_sl (s_T W) t 0)).1 → b * (s_bw (s_sl (s_T W) t i)).1 + b' * (s_bw (s_sl (s_T W) t i)).2 = (s_bw (s_sl (s_T W) t 0)).2 →
    ew_X 43 14 [(2, w), (0, (t : Int)), (0, x), (1, a), (5, 0), (1, a'), (5, 0), (1, b), (5, 0), (1, b'), (5, 0), (0, (i : Int)), (tq, q1), (5, 0), (tq, q2), (5, 0), (tq, q3), (5, 0)] [] n M (fun r a b => r = some (1, s_cvg (s_T W) t x) ∧ a = n ∧ b = M) := by
  have hc := ew_c_43
  have hT64 := s_tl_len 64 (W 2) (W 1)
  have hTl : (s_T W).length ≤ 64 := hT64
  intro j
  induction j with
  | zero =>
    intro i a a' b b' tq q1 q2 q3 htq hij ha hb
    obtain rfl : i = t + 1 := by omega
    rw [s_sl_nil] at ha hb
    simp only [s_bw, Int.mul_one, Int.mul_zero, Int.add_zero] at ha hb
    rcases htq with rfl | rfl
    · skip
      refine xr_go hc rfl rfl ?_
      refine xr_go hc rfl rfl ?_
      refine xr_icmp_gt hc rfl (by omega) (by omega) (fun c1 => ?_) (fun c1 => ?_)
      · skip
        refine xr_go hc rfl rfl ?_
        refine xr_if_ne hc rfl (by omega) (fun c2 => ?_) (fun c2 => ?_)
        · skip
          refine xr_go hc rfl rfl ?_
          refine xr_ret hc rfl rfl ?_
          refine ⟨?_, rfl, rfl⟩
          unfold s_cvg
          first
            | (rw [if_pos (by omega), ← ha]; done)
            | (rw [if_neg (by omega), ← hb]; done)
        · skip
          refine xr_go hc rfl rfl ?_
          refine xr_go hc rfl rfl ?_
          refine xr_ret hc rfl rfl ?_
          refine ⟨?_, rfl, rfl⟩
          unfold s_cvg
          first
            | (rw [if_pos (by omega), ← ha]; done)
            | (rw [if_neg (by omega), ← hb]; done)
      · exfalso; omega
    · skip
      refine xr_go hc rfl rfl ?_
      refine xr_go hc rfl rfl ?_
      refine xr_icmp_gt hc rfl (by omega) (by omega) (fun c1 => ?_) (fun c1 => ?_)
      · skip
        refine xr_go hc rfl rfl ?_
        refine xr_if_ne hc rfl (by omega) (fun c2 => ?_) (fun c2 => ?_)
        · skip
          refine xr_go hc rfl rfl ?_
          refine xr_ret hc rfl rfl ?_
          refine ⟨?_, rfl, rfl⟩
          unfold s_cvg
          first
            | (rw [if_pos (by omega), ← ha]; done)
            | (rw [if_neg (by omega), ← hb]; done)
        · skip
          refine xr_go hc rfl rfl ?_
          refine xr_go hc rfl rfl ?_
          refine xr_ret hc rfl rfl ?_
          refine ⟨?_, rfl, rfl⟩
          unfold s_cvg
          first
            | (rw [if_pos (by omega), ← ha]; done)
            | (rw [if_neg (by omega), ← hb]; done)
      · exfalso; omega
  | succ j ih =>
    intro i a a' b b' tq q1 q2 q3 htq hij ha hb
    have hit : i ≤ t := by omega
    rw [s_sl_cons hit ht] at ha hb
    have hbd := s_T_bd hW (s_nth (s_T W) (i : Int)) (by rw [s_nth_get (show i < (s_T W).length by omega)]; exact List.getElem_mem _)
    rcases htq with rfl | rfl
    · skip
      refine xr_go hc rfl rfl ?_
      refine xr_go hc rfl rfl ?_
      refine xr_icmp_gt hc rfl (by omega) (by omega) (fun c1 => ?_) (fun c1 => ?_)
      · exfalso; omega
      · skip
        refine xr_go hc rfl rfl ?_
        refine xr_go hc rfl rfl ?_
        refine xr_icmp_ge hc rfl (by omega) (by decide) (fun c2 => ?_) (fun c2 => ?_)
        · exfalso; omega
        · skip
          refine xr_go hc rfl rfl ?_
          refine xr_go hc rfl rfl ?_
          refine xr_v_2 hc rfl rfl hw.1 (c_term hn hp hw hW (by omega)) ?_
          refine xr_i2l hc rfl (by omega) ?_
          refine xr_s2_12 hc rfl rfl rfl ?_
          refine xr_go hc rfl rfl ?_
          refine xr_go hc rfl rfl ?_
          refine xr_go hc rfl rfl ?_
          refine xr_go hc rfl rfl ?_
          refine xr_go hc rfl rfl ?_
          refine xr_s2_14 hc rfl rfl rfl ?_
          refine xr_go hc rfl rfl ?_
          refine xr_go hc rfl rfl ?_
          refine xr_go hc rfl rfl ?_
          refine xr_go hc rfl rfl ?_
          refine xr_go hc rfl rfl ?_
          refine xr_s2_16 hc rfl rfl rfl ?_
          refine xr_go hc rfl rfl ?_
          refine xr_s2_5 hc rfl rfl rfl ?_
          refine xr_go hc rfl rfl ?_
          refine xr_s2_9 hc rfl rfl rfl ?_
          refine xr_go hc rfl rfl ?_
          refine xr_s2_3 hc rfl rfl rfl ?_
          refine xr_go hc rfl rfl ?_
          refine xr_s2_7 hc rfl rfl rfl ?_
          refine xr_inc_11 hc rfl ?_
          refine xr_go hc rfl rfl ?_
          rw [s_n1]
          refine ih (i + 1) _ _ _ _ 1 _ _ _ (Or.inl rfl) (by omega) ?_ ?_
          · rw [← ha]
            simp only [s_bw]
            rw [s_ring1]
          · rw [← hb]
            simp only [s_bw]
            rw [s_ring1]
    · skip
      refine xr_go hc rfl rfl ?_
      refine xr_go hc rfl rfl ?_
      refine xr_icmp_gt hc rfl (by omega) (by omega) (fun c1 => ?_) (fun c1 => ?_)
      · exfalso; omega
      · skip
        refine xr_go hc rfl rfl ?_
        refine xr_go hc rfl rfl ?_
        refine xr_icmp_ge hc rfl (by omega) (by decide) (fun c2 => ?_) (fun c2 => ?_)
        · exfalso; omega
        · skip
          refine xr_go hc rfl rfl ?_
          refine xr_go hc rfl rfl ?_
          refine xr_v_2 hc rfl rfl hw.1 (c_term hn hp hw hW (by omega)) ?_
          refine xr_i2l hc rfl (by omega) ?_
          refine xr_s2_12 hc rfl rfl rfl ?_
          refine xr_go hc rfl rfl ?_
          refine xr_go hc rfl rfl ?_
          refine xr_go hc rfl rfl ?_
          refine xr_go hc rfl rfl ?_
          refine xr_go hc rfl rfl ?_
          refine xr_s2_14 hc rfl rfl rfl ?_
          refine xr_go hc rfl rfl ?_
          refine xr_go hc rfl rfl ?_
          refine xr_go hc rfl rfl ?_
          refine xr_go hc rfl rfl ?_
          refine xr_go hc rfl rfl ?_
          refine xr_s2_16 hc rfl rfl rfl ?_
          refine xr_go hc rfl rfl ?_
          refine xr_s2_5 hc rfl rfl rfl ?_
          refine xr_go hc rfl rfl ?_
          refine xr_s2_9 hc rfl rfl rfl ?_
          refine xr_go hc rfl rfl ?_
          refine xr_s2_3 hc rfl rfl rfl ?_
          refine xr_go hc rfl rfl ?_
          refine xr_s2_7 hc rfl rfl rfl ?_
          refine xr_inc_11 hc rfl ?_
          refine xr_go hc rfl rfl ?_
          rw [s_n1]
          refine ih (i + 1) _ _ _ _ 1 _ _ _ (Or.inl rfl) (by omega) ?_ ?_
          · rw [← ha]
            simp only [s_bw]
            rw [s_ring1]
          · rw [← hb]
            simp only [s_bw]
            rw [s_ring1]

set_option maxRecDepth 20000 in
theorem c_cvg {n : Nat} {M : ew_Mem} (hn : 59 ≤ n) (hp : ew_Pm M) {w : Int} {W : Nat → Int} (hw : s_WF w n M W) (hW : s_WO W) {t : Nat} {x : Int} (hx : ew_in x) (ht : t < (s_T W).length) : ew_FM 43 [(2, w), (0, (t : Int)), (0, x)] n M (1, s_cvg (s_T W) t x) n M := by
  have hc := ew_c_43
  show ew_X 43 0 [(2, w), (0, (t : Int)), (0, x), (5, 0), (5, 0), (5, 0), (5, 0), (5, 0), (5, 0), (5, 0), (5, 0), (5, 0), (5, 0), (5, 0), (5, 0), (5, 0), (5, 0), (5, 0)] [] n M _
  refine xr_go hc rfl rfl ?_
  refine xr_s2_3 hc rfl rfl rfl ?_
  refine xr_go hc rfl rfl ?_
  refine xr_s2_5 hc rfl rfl rfl ?_
  refine xr_go hc rfl rfl ?_
  refine xr_s2_7 hc rfl rfl rfl ?_
  refine xr_go hc rfl rfl ?_
  refine xr_s2_9 hc rfl rfl rfl ?_
  refine xr_go hc rfl rfl ?_
  refine xr_s1_11 hc rfl rfl rfl ?_
  exact c_cvg_1 hn hp hw hW hx ht (t + 1) 0 1 0 0 1 5 0 0 0 (Or.inr rfl) (by omega) (by omega) (by omega)

set_option maxRecDepth 20000 in
theorem c_nst_1 {n : Nat} {M : ew_Mem} (hn : 59 ≤ n) (hp : ew_Pm M) {w : Int} {W : Nat → Int} (hw : s_WF w n M W) (hW : s_WO W) {most : Int} (hm : 1 ≤ most ∧ most ≤ 1000) : ∀ (jj j : Nat) (q : ew_AV), ((j : Int) + 1) + (jj : Int) = most →
    ew_X 44 26 [(2, w), (0, most), (0, (s_nst W j).1), (1, (s_nst W j).2), (5, 0), (0, (j : Int) + 2), q, (5, 0)] [] n M (fun r a b => r = some (0, (s_nst W (most - 1).toNat).1) ∧ a = n ∧ b = M) := by
  have hc := ew_c_44
  obtain ⟨k0, k1, k2, k3, k4⟩ := id hW
  intro jj
  induction jj with
  | zero =>
    intro j q hj
    refine xr_go hc rfl rfl ?_
    refine xr_go hc rfl rfl ?_
    refine xr_icmp_gt hc rfl (by omega) (by omega) (fun c1 => ?_) (fun c1 => ?_)
    · skip
      refine xr_go hc rfl rfl ?_
      refine xr_ret hc rfl rfl ?_
      exact ⟨by rw [show (most - 1).toNat = j by omega], rfl, rfl⟩
    · exfalso; omega
  | succ jj ih =>
    intro j q hj
    obtain ⟨hb1, hb2⟩ := s_nst_bd hW j
    have hmul := s_mul_bd (a := W 2) (b := (j : Int) + 2) (A := 99999) (B := 1001) k2 (by omega)
    have g1 := Int.emod_nonneg (W 2 * ((j : Int) + 2)) (show W 1 ≠ 0 by omega)
    have g2 := Int.emod_lt_of_pos (W 2 * ((j : Int) + 2)) (show 0 < W 1 by omega)
    have g3 := s_near_bd ((W 2 * ((j : Int) + 2)) % W 1) 0 (all := W 1) (by omega)
    have g4 := s_mul_bd (a := s_near ((W 2 * ((j : Int) + 2)) % W 1) 0 (W 1)) (b := (s_nst W j).1) (A := 100000) (B := 1000) (by omega) (by omega)
    have g5 := s_mul_bd (a := (s_nst W j).2) (b := (j : Int) + 2) (A := 100000) (B := 1001) (by omega) (by omega)
    have hstep : s_nst W (j + 1) = if s_by W ((j : Int) + 2) * (s_nst W j).1 < (s_nst W j).2 * ((j : Int) + 2) then ((j : Int) + 2, s_by W ((j : Int) + 2)) else s_nst W j := rfl
    refine xr_go hc rfl rfl ?_
    refine xr_go hc rfl rfl ?_
    refine xr_icmp_gt hc rfl (by omega) (by omega) (fun c1 => ?_) (fun c1 => ?_)
    · exfalso; omega
    · skip
      refine xr_go hc rfl rfl ?_
      refine xr_go hc rfl rfl ?_
      refine xr_gf0 rfl hc rfl hw.1 hw.2.2.2.1 ?_
      refine xr_i2l hc rfl (by omega) ?_
      refine xr_go hc rfl rfl ?_
      refine xr_i2l hc rfl (by omega) ?_
      refine xr_go hc rfl rfl ?_
      refine xr_go hc rfl rfl ?_
      refine xr_gf0 rfl hc rfl hw.1 hw.2.2.1 ?_
      refine xr_i2l hc rfl (by omega) ?_
      refine xr_s_2 hc rfl rfl (c_leftOver (by omega) (by omega)) ?_
      refine xr_go hc rfl rfl ?_
      refine xr_go hc rfl rfl ?_
      refine xr_v_3 hc rfl rfl hw.1 (c_near hn hp hw hW (by omega) (by decide)) ?_
      refine xr_i2l hc rfl (by omega) ?_
      refine xr_s2_6 hc rfl rfl rfl ?_
      refine xr_go hc rfl rfl ?_
      refine xr_go hc rfl rfl ?_
      refine xr_i2l hc rfl (by omega) ?_
      refine xr_go hc rfl rfl ?_
      refine xr_go hc rfl rfl ?_
      refine xr_go hc rfl rfl ?_
      refine xr_i2l hc rfl (by omega) ?_
      refine xr_go hc rfl rfl ?_
      refine xr_l_ge hc rfl rfl (by omega) (by omega) (fun c2 => ?_) (fun c2 => ?_)
      · skip
        refine xr_inc_5 hc rfl ?_
        refine xr_go hc rfl rfl ?_
        have ihj := ih (j + 1)
        rw [hstep] at ihj
        rw [show (j : Int) + 2 + 1 = ((j + 1 : Nat) : Int) + 2 by omega]
        first
          | (rw [if_pos (by unfold s_by; omega)] at ihj; exact ihj _ (by omega))
          | (rw [if_neg (by unfold s_by; omega)] at ihj; exact ihj _ (by omega))
      · skip
        refine xr_go hc rfl rfl ?_
        refine xr_s1_2 hc rfl rfl rfl ?_
        refine xr_go hc rfl rfl ?_
        refine xr_s2_3 hc rfl rfl rfl ?_
        refine xr_inc_5 hc rfl ?_
        refine xr_go hc rfl rfl ?_
        have ihj := ih (j + 1)
        rw [hstep] at ihj
        rw [show (j : Int) + 2 + 1 = ((j + 1 : Nat) : Int) + 2 by omega]
        first
          | (rw [if_pos (by unfold s_by; omega)] at ihj; exact ihj _ (by omega))
          | (rw [if_neg (by unfold s_by; omega)] at ihj; exact ihj _ (by omega))

set_option maxRecDepth 20000 in
theorem c_nst {n : Nat} {M : ew_Mem} (hn : 59 ≤ n) (hp : ew_Pm M) {w : Int} {W : Nat → Int} (hw : s_WF w n M W) (hW : s_WO W) {most : Int} (hm : 1 ≤ most ∧ most ≤ 1000) : ew_FM 44 [(2, w), (0, most)] n M (0, (s_nst W (most - 1).toNat).1) n M := by
  have hc := ew_c_44
  obtain ⟨k0, k1, k2, k3, k4⟩ := id hW
  have g1 := Int.emod_nonneg (W 2) (show W 1 ≠ 0 by omega)
  have g2 := Int.emod_lt_of_pos (W 2) (show 0 < W 1 by omega)
  have g3 := s_near_bd (W 2 % W 1) 0 (all := W 1) (by omega)
  show ew_X 44 0 [(2, w), (0, most), (5, 0), (5, 0), (5, 0), (5, 0), (5, 0), (5, 0)] [] n M _
  refine xr_go hc rfl rfl ?_
  refine xr_s1_2 hc rfl rfl rfl ?_
  refine xr_go hc rfl rfl ?_
  refine xr_go hc rfl rfl ?_
  refine xr_gf0 rfl hc rfl hw.1 hw.2.2.2.1 ?_
  refine xr_i2l hc rfl (by omega) ?_
  refine xr_go hc rfl rfl ?_
  refine xr_gf0 rfl hc rfl hw.1 hw.2.2.1 ?_
  refine xr_i2l hc rfl (by omega) ?_
  refine xr_s_2 hc rfl rfl (c_leftOver (by omega) (by omega)) ?_
  refine xr_go hc rfl rfl ?_
  refine xr_go hc rfl rfl ?_
  refine xr_v_3 hc rfl rfl hw.1 (c_near hn hp hw hW (by omega) (by decide)) ?_
  refine xr_i2l hc rfl (by omega) ?_
  refine xr_s2_3 hc rfl rfl rfl ?_
  refine xr_go hc rfl rfl ?_
  refine xr_s1_5 hc rfl rfl rfl ?_
  have h1 := c_nst_1 hn hp hw hW hm (most - 1).toNat 0 (5, 0) (by omega)
  have e2 : s_nst W 0 = (1, s_near (W 2 % W 1) 0 (W 1)) := by
    show (1, s_by W 1) = _
    unfold s_by
    rw [Int.mul_one]
  rw [e2] at h1
  exact h1

