/-! what the answers are: a view V of the wheels (V r 0 kind, 1 parts, 2 step, 3 start, 4 made; V 6 0 how many, 1 node, 2 apse; V 7 j the rules) -/
def s_WO (W : Nat → Int) : Prop := (0 ≤ W 0 ∧ W 0 ≤ 4) ∧ (2 ≤ W 1 ∧ W 1 ≤ 100000) ∧ (0 ≤ W 2 ∧ W 2 ≤ 99999) ∧ (0 ≤ W 3 ∧ W 3 < W 1) ∧ 0 ≤ W 4 ∧ W 4 < 2147483648
def s_VO (V : ew_Mem) : Prop := (0 ≤ V 6 0 ∧ V 6 0 ≤ 6) ∧ (∀ r : Nat, (r : Int) < V 6 0 → s_WO (V r)) ∧ (0 ≤ V 6 1 ∧ (V 6 1 < V 6 0 ∨ V 6 1 = 0)) ∧ (-1 ≤ V 6 2 ∧ V 6 2 < V 6 0) ∧
  (0 ≤ V 7 0 ∧ V 7 0 ≤ 99999) ∧ (0 ≤ V 7 1 ∧ V 7 1 ≤ 99999) ∧ (0 ≤ V 7 2 ∧ V 7 2 ≤ 99999) ∧ (1 ≤ V 7 3 ∧ V 7 3 ≤ 100000) ∧ (1 ≤ V 7 4 ∧ V 7 4 ≤ 1000) ∧ 1 ≤ V 7 5 ∧ V 7 5 ≤ 400
/-- the object at w is the wheel W -/
def s_WF (w : Int) (n : Nat) (M : ew_Mem) (W : Nat → Int) : Prop := ew_own 6 w n = true ∧ M w.toNat 0 = W 0 ∧ M w.toNat 1 = W 1 ∧ M w.toNat 3 = W 2 ∧ M w.toNat 4 = W 3 ∧ M w.toNat 2 = W 4
/-- the class' memory shows the view V -/
def s_CV (V : ew_Mem) (n : Nat) (M : ew_Mem) : Prop := M 5 2 = V 6 0 ∧ M 5 3 = V 6 1 ∧ M 5 4 = V 6 2 ∧ (∀ j : Nat, j < 6 → M 7 j = V 7 j) ∧ ∀ r : Nat, (r : Int) < V 6 0 → s_WF (M 6 r) n M (V r)
def s_C (V : ew_Mem) (n : Nat) (M : ew_Mem) : Prop := 59 ≤ n ∧ ew_Pm M ∧ s_VO V ∧ s_CV V n M
/-- the reference's memory shows the view V -/
def s_MV (V : ew_Mem) (M : ew_Mem) : Prop := M 38 5 = V 6 0 ∧ M 38 7 = V 6 1 ∧ M 38 8 = V 6 2 ∧ (∀ j : Nat, j < 6 → M 45 j = V 7 j) ∧ ∀ r : Nat, (r : Int) < V 6 0 → (0 ≤ M 44 r ∧ M 44 r < 64) ∧ M 39 (M 44 r).toNat = V r 0 ∧ M 40 (M 44 r).toNat = V r 1 ∧ M 41 (M 44 r).toNat = V r 2 ∧ M 42 (M 44 r).toNat = V r 3 ∧ M 43 (M 44 r).toNat = V r 4
def s_M (V : ew_Mem) (n : Nat) (M : ew_Mem) : Prop := 59 ≤ n ∧ ew_Pm M ∧ s_VO V ∧ s_MV V M
def s_told (W : Nat → Int) (x : Int) : Int := if x = 0 then W 0 else if x = 1 then W 1 else if x = 2 then W 2 else if x = 3 then W 3 else if x = 4 then W 4 else -1
def s_plain (W : Nat → Int) (d : Int) : Int := if W 0 = 1 then W 3 - W 2 * d else if W 0 = 2 then W 3 + W 2 * (d / 2) else if W 0 = 3 then W 3 - W 2 * (2 * d) else W 3 + W 2 * d
def s_way (V : ew_Mem) : Nat → Int → Int
  | 0, m => s_plain (V 0) m
  | w + 1, m => if V (w + 1) 0 = 4 then s_plain (V (w + 1)) (s_way V w m / V w 1 % 100000) else s_plain (V (w + 1)) m
def s_at (V : ew_Mem) (w : Nat) (m : Int) : Int := s_way V w m % V w 1
def s_rounds (V : ew_Mem) (w : Nat) (m : Int) : Int := s_way V w m / V w 1
def s_near (p q all : Int) : Int := min ((p - q) % all) ((q - p) % all)
theorem s_mul_bd {a b A B : Int} (ha : 0 ≤ a ∧ a ≤ A) (hb : -B ≤ b ∧ b ≤ B) : -(A * B) ≤ a * b ∧ a * b ≤ A * B := by
  have hB : 0 ≤ B := by omega
  have h1 : a * b ≤ a * B := Int.mul_le_mul_of_nonneg_left hb.2 ha.1
  have h2 : a * B ≤ A * B := Int.mul_le_mul_of_nonneg_right ha.2 hB
  have h3 : a * (-B) ≤ a * b := Int.mul_le_mul_of_nonneg_left hb.1 ha.1
  have h4 : a * (-B) = -(a * B) := by rw [Int.mul_neg]
  omega
theorem s_plain_bd {W : Nat → Int} (h : s_WO W) {d : Int} (hd : -400000 ≤ d ∧ d ≤ 400000) : -100000000000 ≤ s_plain W d ∧ s_plain W d ≤ 100000000000 := by
  obtain ⟨h0, h1, h2, h3, h4⟩ := h
  have e1 := s_mul_bd (A := 99999) (B := 400000) h2 hd
  have e2 := s_mul_bd (A := 99999) (B := 400000) (b := d / 2) h2 (by omega)
  have e3 := s_mul_bd (A := 99999) (B := 800000) (b := 2 * d) h2 (by omega)
  unfold s_plain
  repeat' split
  all_goals omega
theorem s_way_bd {V : ew_Mem} (h : s_VO V) {m : Int} (hm : -100000 ≤ m ∧ m ≤ 100000) : ∀ w : Nat, (w : Int) < V 6 0 → -100000000000 ≤ s_way V w m ∧ s_way V w m ≤ 100000000000
  | 0, hw => s_plain_bd (h.2.1 0 hw) (by omega)
  | w + 1, hw => by
    have hW := h.2.1 (w + 1) hw
    unfold s_way
    split
    · have e1 := Int.emod_nonneg (s_way V w m / V w 1) (show (100000 : Int) ≠ 0 by decide)
      have e2 := Int.emod_lt_of_pos (s_way V w m / V w 1) (show (0 : Int) < 100000 by decide)
      exact s_plain_bd hW (by omega)
    · exact s_plain_bd hW (by omega)
theorem s_at_bd {V : ew_Mem} (h : s_VO V) (m : Int) {w : Nat} (hw : (w : Int) < V 6 0) : 0 ≤ s_at V w m ∧ s_at V w m < V w 1 := by
  have hW := h.2.1 w hw
  exact ⟨Int.emod_nonneg _ (by have := hW.2.1; omega), Int.emod_lt_of_pos _ (by have := hW.2.1; omega)⟩
theorem s_div_bd {x y B : Int} (h : -B ≤ x ∧ x ≤ B) (hy : 0 < y) : -B ≤ x / y ∧ x / y ≤ B := by
  have hB : 0 ≤ B := by omega
  constructor
  · apply Int.le_ediv_of_mul_le hy
    have : -B * y ≤ -B * 1 := Int.mul_le_mul_of_nonpos_left (by omega) (by omega)
    omega
  · have h1 : x / y ≤ B / 1 := by
      apply Int.ediv_le_of_le_mul hy
      rw [Int.ediv_one]
      have : B * 1 ≤ B * y := Int.mul_le_mul_of_nonneg_left (by omega) hB
      omega
    rw [Int.ediv_one] at h1
    exact h1
theorem s_way_4 {V : ew_Mem} {w : Nat} {m : Int} (h : V (w + 1) 0 = 4) : s_way V (w + 1) m = s_plain (V (w + 1)) (s_way V w m / V w 1 % 100000) := by
  rw [s_way, if_pos h]
theorem s_way_n {V : ew_Mem} {w : Nat} {m : Int} (h : ¬ V (w + 1) 0 = 4) : s_way V (w + 1) m = s_plain (V (w + 1)) m := by
  rw [s_way, if_neg h]
def s_nP (V : ew_Mem) : Int := V (V 6 1).toNat 1
def s_far (V : ew_Mem) (m : Int) : Int := min (s_near (s_at V (V 6 1).toNat m) 0 (V (V 6 1).toNat 1)) (s_near (s_at V (V 6 1).toNat m) (V (V 6 1).toNat 1 / 2) (V (V 6 1).toNat 1))
def s_side (V : ew_Mem) (m : Int) : Int := if s_near (s_at V (V 6 1).toNat m) (V (V 6 1).toNat 1 / 2) (V (V 6 1).toNat 1) < s_near (s_at V (V 6 1).toNat m) 0 (V (V 6 1).toNat 1) then 1 else 0
def s_ecl (V : ew_Mem) (m : Int) : Int := if V 6 0 = 0 then 0 else if V 7 0 < s_far V m then 0 else if V 7 1 < s_far V m then 1 else if 0 ≤ V 6 2 ∧ V 7 2 < s_near (s_at V (V 6 2).toNat m) 0 (V (V 6 2).toNat 1) then 3 else 2
theorem s_near_bd (p q : Int) {all : Int} (h : 0 < all) : 0 ≤ s_near p q all ∧ s_near p q all < all := by
  have g1 := Int.emod_nonneg (p - q) (show all ≠ 0 by omega)
  have g2 := Int.emod_lt_of_pos (p - q) h
  have g3 := Int.emod_nonneg (q - p) (show all ≠ 0 by omega)
  unfold s_near
  omega
theorem s_far_bd {V : ew_Mem} (hV : s_VO V) (h0 : 0 < V 6 0) (m : Int) : 0 ≤ s_far V m ∧ s_far V m < 100000 := by
  obtain ⟨hc6, hVW, hnd, -⟩ := hV
  obtain ⟨k0, k1, k2, k3, k4⟩ := hVW (V 6 1).toNat (by omega)
  have hn0 := s_near_bd (s_at V (V 6 1).toNat m) 0 (all := V (V 6 1).toNat 1) (by omega)
  have hn1 := s_near_bd (s_at V (V 6 1).toNat m) (V (V 6 1).toNat 1 / 2) (all := V (V 6 1).toNat 1) (by omega)
  unfold s_far
  omega
theorem s_ecl_bd (V : ew_Mem) (m : Int) : 0 ≤ s_ecl V m ∧ s_ecl V m ≤ 3 := by
  unfold s_ecl
  repeat' split
  all_goals omega
theorem s_side_bd (V : ew_Mem) (m : Int) : 0 ≤ s_side V m ∧ s_side V m ≤ 1 := by
  unfold s_side
  split <;> omega
def s_rok (x v : Int) : Bool := decide ((0 ≤ x ∧ x ≤ 5) ∧ (if x = 3 then 1 ≤ v ∧ v ≤ 100000 else if x = 4 then 1 ≤ v ∧ v ≤ 1000 else if x = 5 then 1 ≤ v ∧ v ≤ 400 else 0 ≤ v ∧ v ≤ 99999))
def s_b (b : Bool) : Int := if b = true then 1 else 0
theorem s_b_01 (b : Bool) : s_b b = 0 ∨ s_b b = 1 := by cases b <;> simp [s_b]
theorem s_b_in (b : Bool) : ew_in (s_b b) := by cases b <;> decide
def s_day (V : ew_Mem) (m : Int) : Int := V 7 3 * m / V 7 4
def s_rest (V : ew_Mem) (m : Int) : Int := V 7 3 * m - V 7 4 * s_day V m
def s_monthFrom (V : ew_Mem) (d : Int) : Int := (d * V 7 4 + V 7 3 - 1) / V 7 3
def s_year (V : ew_Mem) (d : Int) : Int := d / (365 * V 7 5 + 1) * V 7 5 + (if d % (365 * V 7 5 + 1) < 366 then 0 else (d % (365 * V 7 5 + 1) - 1) / 365)
def s_firstDay (V : ew_Mem) (y : Int) : Int := 365 * y + (y + V 7 5 - 1) / V 7 5
def s_drift (V : ew_Mem) (k x : Int) : Int := s_near (s_at V (V 6 1).toNat k) (s_at V (V 6 1).toNat 0 + (if x = 0 then 0 else V (V 6 1).toNat 1 / 2)) (V (V 6 1).toNat 1)
/-- how many of a family lie one way: j steps may yet be taken, c are -/
def s_rel (V : ew_Mem) (m k : Int) : Nat → Int → Int
  | 0, c => c
  | j + 1, c => if (-100000 ≤ m + (c + 1) * k ∧ m + (c + 1) * k ≤ 100000) ∧ ¬ s_ecl V (m + (c + 1) * k) = 0 ∧ s_side V (m + (c + 1) * k) = s_side V m then s_rel V m k j (c + 1) else c
theorem s_day_bd {V : ew_Mem} (hV : s_VO V) {m : Int} (hm : -100000 ≤ m ∧ m ≤ 100000) : (-10000000000 ≤ V 7 3 * m ∧ V 7 3 * m ≤ 10000000000) ∧ -10000000000 ≤ s_day V m ∧ s_day V m ≤ 10000000000 := by
  obtain ⟨hc6, hVW, hnd, hap, hr0, hr1, hr2, hr3, hr4, hr5⟩ := hV
  have h1 := s_mul_bd (a := V 7 3) (b := m) (A := 100000) (B := 100000) (by omega) hm
  have h2 : -10000000000 ≤ V 7 3 * m ∧ V 7 3 * m ≤ 10000000000 := by omega
  exact ⟨h2, s_div_bd h2 (by omega)⟩
