/-! meetings; periods are periods -/
def s_ff (P : Int → Bool) : Nat → Int → Int
  | 0, _ => 100001
  | j + 1, m => if P m = true then m else s_ff P j (m + 1)
def s_mP (V : ew_Mem) (a : Nat) (p : Int) (b : Nat) (q : Int) (m : Int) : Bool := decide (s_at V a m = p ∧ s_at V b m = q)
/-- the first month at which both are so; 100001: none -/
def s_meet (V : ew_Mem) (a : Nat) (p : Int) (b : Nat) (q : Int) : Int := s_ff (s_mP V a p b q) 100001 0
theorem s_ff_of (P : Int → Bool) : ∀ (j : Nat) (m r : Int), m + (j : Int) = 100001 → ((r = 100001 ∧ ∀ x, m ≤ x → x < 100001 → P x = false) ∨ ((m ≤ r ∧ r < 100001) ∧ P r = true ∧ ∀ x, m ≤ x → x < r → P x = false)) → s_ff P j m = r
  | 0, m, r, hj, h => by
    rcases h with h | h
    · exact h.1.symm
    · omega
  | j + 1, m, r, hj, h => by
    unfold s_ff
    by_cases hm : P m = true
    · rw [if_pos hm]
      rcases h with h | h
      · have := h.2 m (Int.le_refl _) (by omega)
        rw [hm] at this
        cases this
      · rcases Int.lt_or_le m r with h1 | h1
        · have := h.2.2 m (Int.le_refl _) h1
          rw [hm] at this
          cases this
        · omega
    · rw [if_neg hm]
      refine s_ff_of P j (m + 1) r (by omega) ?_
      rcases h with h | h
      · exact Or.inl ⟨h.1, fun x h1 h2 => h.2 x (by omega) h2⟩
      · have hne : r ≠ m := fun e => hm (e ▸ h.2.1)
        exact Or.inr ⟨by omega, h.2.1, fun x h1 h2 => h.2.2 x (by omega) h2⟩
theorem s_ff_sound (P : Int → Bool) : ∀ (j : Nat) (m : Int), m + (j : Int) = 100001 → ((s_ff P j m = 100001 ∧ ∀ x, m ≤ x → x < 100001 → P x = false) ∨ ((m ≤ s_ff P j m ∧ s_ff P j m < 100001) ∧ P (s_ff P j m) = true ∧ ∀ x, m ≤ x → x < s_ff P j m → P x = false))
  | 0, m, hj => Or.inl ⟨rfl, fun x h1 h2 => by omega⟩
  | j + 1, m, hj => by
    have ih := s_ff_sound P j (m + 1) (by omega)
    unfold s_ff
    by_cases hm : P m = true
    · rw [if_pos hm]
      exact Or.inr ⟨by omega, hm, fun x h1 h2 => by omega⟩
    · rw [if_neg hm]
      have hmf : P m = false := by simpa using hm
      rcases ih with h | h
      · exact Or.inl ⟨h.1, fun x h1 h2 => (Int.le_iff_eq_or_lt.mp h1).elim (fun e => e ▸ hmf) (fun q => h.2 x (by omega) h2)⟩
      · exact Or.inr ⟨by omega, h.2.1, fun x h1 h2 => (Int.le_iff_eq_or_lt.mp h1).elim (fun e => e ▸ hmf) (fun q => h.2.2 x (by omega) h2)⟩
theorem s_meet_comm (V : ew_Mem) (a : Nat) (p : Int) (b : Nat) (q : Int) : s_meet V a p b q = s_meet V b q a p := by
  unfold s_meet
  congr 1
  funext m
  unfold s_mP
  simp [And.comm]
theorem s_gcd_dvd (a b : Int) : s_gcd a b ∣ a ∨ a < 0 := by
  rcases Int.lt_or_le a 0 with h | h
  · exact Or.inr h
  · left
    unfold s_gcd
    have h1 := Nat.gcd_dvd_left a.toNat b.toNat
    have h2 := Int.ofNat_dvd.mpr h1
    rw [Int.toNat_of_nonneg h] at h2
    exact h2
theorem s_gcd_dvdr (a b : Int) : s_gcd a b ∣ b ∨ b < 0 := by
  rw [s_gcd_comm]
  exact s_gcd_dvd b a
/-- the step times the period is whole rounds -/
theorem s_per_whole {P S : Int} (hP : 0 < P) (hS : 0 ≤ S) : P ∣ S * (P / s_gcd P S) := by
  have h1 := (s_gcd_dvd P S).resolve_right (by omega)
  have h2 := (s_gcd_dvdr P S).resolve_right (by omega)
  obtain ⟨u, hu⟩ := h1
  obtain ⟨v, hv⟩ := h2
  have hg := s_gcd_pos (x := P) (y := S) hP
  have hd : P / s_gcd P S = u := by
    conv => lhs; arg 1; rw [hu]
    exact Int.mul_ediv_cancel_left u (by omega)
  rw [hd]
  refine ⟨v, ?_⟩
  conv => lhs; rw [hv]
  conv => rhs; arg 1; rw [hu]
  rw [Int.mul_assoc, Int.mul_assoc, Int.mul_comm v u]
theorem s_emod_add {a b P : Int} (h : P ∣ b) : (a + b) % P = a % P := by
  obtain ⟨c, rfl⟩ := h
  exact Int.add_mul_emod_self_left a P c
theorem s_emod_sub {a b P : Int} (h : P ∣ b) : (a - b) % P = a % P := by
  obtain ⟨c, rfl⟩ := h
  rw [Int.sub_eq_add_neg, ← Int.mul_neg]
  exact Int.add_mul_emod_self_left a P (-c)
theorem s_plain_k0 {W : Nat → Int} (h : W 0 = 0 ∨ W 0 = 4) (d : Int) : s_plain W d = W 3 + W 2 * d := by
  unfold s_plain
  rw [if_neg (by omega), if_neg (by omega), if_neg (by omega)]
theorem s_plain_k1 {W : Nat → Int} (h : W 0 = 1) (d : Int) : s_plain W d = W 3 - W 2 * d := by
  unfold s_plain
  rw [if_pos h]
theorem s_plain_k2 {W : Nat → Int} (h : W 0 = 2) (d : Int) : s_plain W d = W 3 + W 2 * (d / 2) := by
  unfold s_plain
  rw [if_neg (by omega), if_pos h]
theorem s_plain_k3 {W : Nat → Int} (h : W 0 = 3) (d : Int) : s_plain W d = W 3 - W 2 * (2 * d) := by
  unfold s_plain
  rw [if_neg (by omega), if_neg (by omega), if_pos h]
theorem s_per1_n {W : Nat → Int} (h : ¬ W 0 = 3) : s_per1 W = W 1 / s_gcd (W 1) (W 2) := by
  unfold s_per1
  rw [if_neg h]
theorem s_per1_3 {W : Nat → Int} (h : W 0 = 3) : s_per1 W = W 1 / s_gcd (W 1) (2 * W 2) := by
  unfold s_per1
  rw [if_pos h]
theorem s_per_n {W : Nat → Int} (h : ¬ (W 0 = 2 ∧ 1 < s_per1 W)) : s_per W = s_per1 W := by
  unfold s_per
  rw [if_neg h]
theorem s_per_2 {W : Nat → Int} (h : W 0 = 2 ∧ 1 < s_per1 W) : s_per W = 2 * s_per1 W := by
  unfold s_per
  rw [if_pos h]
theorem s_dvd_mul {P x : Int} (h : P ∣ x) (t : Int) : P ∣ x * t := by
  obtain ⟨c, rfl⟩ := h
  exact ⟨c * t, by rw [Int.mul_assoc]⟩
theorem s_per_is {W : Nat → Int} (hW : s_WO W) (h4 : ¬ W 0 = 4) (m t : Int) : s_plain W (m + s_per W * t) % W 1 = s_plain W m % W 1 := by
  obtain ⟨k0, k1, k2, k3, k4⟩ := id hW
  have hd1 := s_per_whole (P := W 1) (S := W 2) (by omega) (by omega)
  have hd3 := s_per_whole (P := W 1) (S := 2 * W 2) (by omega) (by omega)
  rcases (show W 0 = 0 ∨ W 0 = 1 ∨ W 0 = 2 ∨ W 0 = 3 by omega) with h | h | h | h
  · rw [s_per_n (by omega), s_per1_n (by omega), s_plain_k0 (Or.inl h), s_plain_k0 (Or.inl h)]
    rw [Int.mul_add, ← Int.add_assoc, ← Int.mul_assoc]
    exact s_emod_add (s_dvd_mul hd1 t)
  · rw [s_per_n (by omega), s_per1_n (by omega), s_plain_k1 h, s_plain_k1 h]
    rw [Int.mul_add, ← Int.sub_sub, ← Int.mul_assoc]
    exact s_emod_sub (s_dvd_mul hd1 t)
  · rw [s_plain_k2 h, s_plain_k2 h]
    by_cases hp : 1 < s_per1 W
    · rw [s_per_2 ⟨h, hp⟩, s_per1_n (by omega)]
      have e : (m + 2 * (W 1 / s_gcd (W 1) (W 2)) * t) / 2 = m / 2 + (W 1 / s_gcd (W 1) (W 2)) * t := by
        rw [Int.mul_assoc, Int.add_mul_ediv_left _ _ (by decide)]
      rw [e, Int.mul_add, ← Int.add_assoc, ← Int.mul_assoc]
      exact s_emod_add (s_dvd_mul hd1 t)
    · have hpp := (s_per1_bd hW).1
      have e1 : W 1 / s_gcd (W 1) (W 2) = 1 := by rw [← s_per1_n (W := W) (by omega)]; omega
      rw [e1, Int.mul_one] at hd1
      have z1 : ∀ x : Int, (W 3 + W 2 * x) % W 1 = W 3 % W 1 := fun x => s_emod_add (s_dvd_mul hd1 x)
      rw [z1, z1]
  · rw [s_per_n (by omega), s_per1_3 h, s_plain_k3 h, s_plain_k3 h]
    have e : W 2 * (2 * (m + W 1 / s_gcd (W 1) (2 * W 2) * t)) = W 2 * (2 * m) + 2 * W 2 * (W 1 / s_gcd (W 1) (2 * W 2)) * t := by
      rw [Int.mul_add 2, Int.mul_add (W 2)]
      congr 1
      rw [Int.mul_assoc (2 * W 2), Int.mul_comm 2 (W 2), Int.mul_assoc (W 2) 2]
    rw [e, ← Int.sub_sub]
    exact s_emod_sub (s_dvd_mul hd3 t)
theorem s_way_plain {V : ew_Mem} {w : Nat} (h : ¬ V w 0 = 4) (m : Int) : s_way V w m = s_plain (V w) m := by
  cases w with
  | zero => rfl
  | succ w => exact s_way_n h
/-- what the class knows of the months whose rest by its round is less than f -/
def s_LI (V : ew_Mem) (a : Nat) (p : Int) (b : Nat) (q : Int) (rnd f least : Int) : Prop :=
  (least = 100001 ∨ ((0 ≤ least ∧ least < 100001) ∧ s_mP V a p b q least = true)) ∧ ∀ x, 0 ≤ x → x < least → x % rnd < f → s_mP V a p b q x = false
