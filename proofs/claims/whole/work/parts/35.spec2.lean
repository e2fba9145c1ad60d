/-! Euclid's steps: terms, divisors; convergents; the nearest fraction; periods -/
/-- Euclid's steps from x, y come to an end within so many -/
def s_EB : Nat → Int → Int → Prop
  | 0, _, y => y = 0
  | j + 1, x, y => y = 0 ∨ (0 < y ∧ s_EB j y (x % y))
theorem s_EB_mono : ∀ {j : Nat} {x y : Int}, s_EB j x y → s_EB (j + 1) x y
  | 0, _, _, h => Or.inl h
  | j + 1, _, _, h => h.elim Or.inl (fun h => Or.inr ⟨h.1, s_EB_mono h.2⟩)
theorem s_EB_le {i j : Nat} (hij : i ≤ j) {x y : Int} (h : s_EB i x y) : s_EB j x y := by
  induction hij with
  | refl => exact h
  | step _ ih => exact s_EB_mono ih
theorem s_EB_of : ∀ (k : Nat) {x y : Int}, 0 ≤ x → 0 ≤ y → y < 2 ^ k → s_EB (2 * k) x y
  | 0, x, y, _, h0, h1 => by
    have : y = 0 := by omega
    exact this
  | k + 1, x, y, hx, h0, h1 => by
    show s_EB (2 * k + 2) x y
    by_cases hy : y = 0
    · exact Or.inl hy
    · refine Or.inr ⟨by omega, ?_⟩
      have hz0 := Int.emod_nonneg x hy
      have hz1 := Int.emod_lt_of_pos x (show 0 < y by omega)
      by_cases hz : x % y = 0
      · exact Or.inl hz
      · refine Or.inr ⟨by omega, ?_⟩
        have hw0 := Int.emod_nonneg y hz
        have hw1 := Int.emod_lt_of_pos y (show 0 < x % y by omega)
        have hq := Int.mul_ediv_add_emod y (x % y)
        have hd : 1 ≤ y / (x % y) := by
          have := Int.le_ediv_of_mul_le (a := 1) (b := y) (c := x % y) (by omega) (by omega)
          exact this
        have hm : (x % y) * 1 ≤ (x % y) * (y / (x % y)) := Int.mul_le_mul_of_nonneg_left hd hz0
        refine s_EB_of k (by omega) hw0 ?_
        have : (2 : Int) ^ (k + 1) = 2 ^ k * 2 := Int.pow_succ 2 k
        omega
def s_tl : Nat → Int → Int → List Int
  | 0, _, _ => []
  | f + 1, x, y => if 0 < y then x / y :: s_tl f y (x % y) else []
def s_nth (T : List Int) (i : Int) : Int := if 0 ≤ i then T.getD i.toNat (-1) else -1
/-- the terms of a wheel -/
def s_T (W : Nat → Int) : List Int := s_tl 64 (W 2) (W 1)
def s_gcd (a b : Int) : Int := (Nat.gcd a.toNat b.toNat : Int)
theorem s_gcd_0 {a : Int} (h : 0 ≤ a) : s_gcd a 0 = a := by
  unfold s_gcd
  simp
  omega
theorem s_gcd_step {x y : Int} (hx : 0 ≤ x) (hy : 0 < y) : s_gcd x y = s_gcd y (x % y) := by
  unfold s_gcd
  rw [Nat.gcd_comm x.toNat, Nat.gcd_rec y.toNat, Nat.gcd_comm (x.toNat % y.toNat)]
  congr 2
  rw [Int.toNat_emod hx (by omega)]
theorem s_gcd_pos {x y : Int} (hx : 0 < x) : 0 < s_gcd x y := by
  unfold s_gcd
  have := Nat.gcd_pos_of_pos_left y.toNat (show 0 < x.toNat by omega)
  omega
theorem s_gcd_le {x y : Int} (hx : 0 < x) : s_gcd x y ≤ x := by
  unfold s_gcd
  have := Nat.gcd_le_left y.toNat (show 0 < x.toNat by omega)
  omega
theorem s_gcd_comm (x y : Int) : s_gcd x y = s_gcd y x := by
  unfold s_gcd
  rw [Nat.gcd_comm]
/-- a convergent's two numbers, from its terms -/
def s_bw : List Int → Int × Int
  | [] => (1, 0)
  | t :: r => (t * (s_bw r).1 + (s_bw r).2, (s_bw r).1)
/-- how far a multiple of the step is from a whole round -/
def s_by (W : Nat → Int) (d : Int) : Int := s_near ((W 2 * d) % W 1) 0 (W 1)
def s_nst (W : Nat → Int) : Nat → Int × Int
  | 0 => (1, s_by W 1)
  | j + 1 => if s_by W ((j : Int) + 2) * (s_nst W j).1 < (s_nst W j).2 * ((j : Int) + 2) then ((j : Int) + 2, s_by W ((j : Int) + 2)) else s_nst W j
def s_per1 (W : Nat → Int) : Int := W 1 / s_gcd (W 1) (if W 0 = 3 then 2 * W 2 else W 2)
def s_per (W : Nat → Int) : Int := if W 0 = 2 ∧ 1 < s_per1 W then 2 * s_per1 W else s_per1 W
theorem s_div_pos {a b : Int} (ha : 0 < b) (h : b ≤ a) : 1 ≤ a / b ∧ a / b ≤ a := by
  constructor
  · exact Int.le_ediv_of_mul_le ha (by omega)
  · have h1 := Int.ediv_le_of_le_mul (a := a) (b := a) (c := b) ha (by
      have := Int.mul_le_mul_of_nonneg_left (a := 1) (b := b) (c := a) (by omega) (by omega)
      omega)
    exact h1
theorem s_per1_bd {W : Nat → Int} (h : s_WO W) : 1 ≤ s_per1 W ∧ s_per1 W ≤ 100000 := by
  obtain ⟨k0, k1, k2, k3, k4⟩ := h
  have h1 := s_gcd_pos (x := W 1) (y := if W 0 = 3 then 2 * W 2 else W 2) (by omega)
  have h2 := s_gcd_le (x := W 1) (y := if W 0 = 3 then 2 * W 2 else W 2) (by omega)
  have h3 := s_div_pos h1 h2
  unfold s_per1
  omega
theorem s_per_bd {W : Nat → Int} (h : s_WO W) : 1 ≤ s_per W ∧ s_per W ≤ 200000 := by
  have h1 := s_per1_bd h
  unfold s_per
  split <;> omega
theorem s_nst_bd {W : Nat → Int} (h : s_WO W) : ∀ j : Nat, (1 ≤ (s_nst W j).1 ∧ (s_nst W j).1 ≤ (j : Int) + 1) ∧ 0 ≤ (s_nst W j).2 ∧ (s_nst W j).2 < W 1
  | 0 => by
    have h1 := s_near_bd ((W 2 * 1) % W 1) 0 (all := W 1) (by have := h.2.1; omega)
    exact ⟨⟨Int.le_refl _, by show (1 : Int) ≤ _; omega⟩, h1⟩
  | j + 1 => by
    have ih := s_nst_bd h j
    have h1 := s_near_bd ((W 2 * ((j : Int) + 2)) % W 1) 0 (all := W 1) (by have := h.2.1; omega)
    unfold s_nst
    split
    · refine ⟨⟨by show 1 ≤ (j : Int) + 2; omega, by show (j : Int) + 2 ≤ _; omega⟩, h1⟩
    · refine ⟨⟨ih.1.1, by omega⟩, ih.2⟩
theorem s_tl_bd : ∀ (f : Nat) (x y : Int), (0 ≤ x ∧ x < 2147483648) → (0 ≤ y ∧ y < 2147483648) → ∀ a ∈ s_tl f x y, 0 ≤ a ∧ a < 2147483648
  | 0, _, _, _, _, a, h => by cases h
  | f + 1, x, y, hx, hy, a, h => by
    unfold s_tl at h
    split at h
    · rename_i h0
      rcases List.mem_cons.mp h with h1 | h1
      · subst h1
        have h2 := Int.ediv_nonneg hx.1 hy.1
        have h3 := Int.ediv_le_self y hx.1
        omega
      · have g1 := Int.emod_nonneg x (show y ≠ 0 by omega)
        have g2 := Int.emod_lt_of_pos x h0
        exact s_tl_bd f y (x % y) hy ⟨by omega, by omega⟩ a h1
    · cases h
theorem s_T_bd {W : Nat → Int} (hW : s_WO W) : ∀ a ∈ s_T W, 0 ≤ a ∧ a < 2147483648 := by
  obtain ⟨k0, k1, k2, k3, k4⟩ := hW
  exact s_tl_bd 64 (W 2) (W 1) (by omega) (by omega)
theorem s_tl_len : ∀ (f : Nat) (x y : Int), (s_tl f x y).length ≤ f
  | 0, _, _ => Nat.le_refl _
  | f + 1, x, y => by
    unfold s_tl
    split
    · have := s_tl_len f y (x % y)
      simp
      omega
    · simp
theorem s_nth_get {T : List Int} {i : Nat} (h : i < T.length) : s_nth T (i : Int) = T[i] := by
  unfold s_nth
  rw [if_pos (by omega), Int.toNat_natCast, List.getD_eq_getElem?_getD, List.getElem?_eq_getElem h]
  rfl
theorem s_nth_out {T : List Int} {i : Nat} (h : T.length ≤ i) : s_nth T (i : Int) = -1 := by
  unfold s_nth
  rw [if_pos (by omega), Int.toNat_natCast, List.getD_eq_getElem?_getD, List.getElem?_eq_none h]
  rfl
/-- terms j, j + 1, .. t -/
def s_sl (T : List Int) (t j : Nat) : List Int := (T.take (t + 1)).drop j
theorem s_sl_cons {T : List Int} {t j : Nat} (h : j ≤ t) (ht : t < T.length) : s_sl T t j = s_nth T (j : Int) :: s_sl T t (j + 1) := by
  have h1 : j < (T.take (t + 1)).length := by simp; omega
  unfold s_sl
  rw [List.drop_eq_getElem_cons h1, s_nth_get (by omega), List.getElem_take]
theorem s_sl_nil {T : List Int} {t : Nat} : s_sl T t (t + 1) = [] := by
  unfold s_sl
  rw [List.drop_eq_nil_iff]
  simp
  omega
def s_cvg (T : List Int) (t : Nat) (x : Int) : Int := if x = 0 then (s_bw (s_sl T t 0)).1 else (s_bw (s_sl T t 0)).2
