/-! the answers of the calls that only ask -/
abbrev s_isM (m : Int) : Prop := -100000 ≤ m ∧ m ≤ 100000
abbrev s_isW (V : ew_Mem) (w : Int) : Prop := 0 ≤ w ∧ w < V 6 0
abbrev s_isS (a b most : Int) : Prop := s_isM a ∧ s_isM b ∧ a ≤ b ∧ b - a < most
abbrev s_isC (k : Int) : Prop := 1 ≤ k ∧ k ≤ 2000
def s_a_of (V : ew_Mem) (w x : Int) : Int := if s_isW V w then s_told (V w.toNat) x else -1
def s_a_at (V : ew_Mem) (w m : Int) : Int := if s_isW V w then (if s_isM m then s_at V w.toNat m else -2) else -1
def s_NO : Int := -9223372036854775808
def s_a_rounds (V : ew_Mem) (w m : Int) : Int := if s_isW V w ∧ s_isM m then s_rounds V w.toNat m else s_NO
def s_a_eclipse (V : ew_Mem) (m x : Int) : Int := if s_isM m ∧ 0 ≤ x ∧ x ≤ 2 then (if V 6 0 = 0 then -3 else if x = 0 then s_ecl V m else if x = 1 then s_far V m else s_side V m) else -2
def s_cnt (V : ew_Mem) (kd : Int) : Nat → Int → Int
  | 0, _ => 0
  | j + 1, m => (if ¬ s_ecl V m = 0 ∧ (kd = 0 ∨ s_ecl V m = kd) then 1 else 0) + s_cnt V kd j (m + 1)
def s_a_eclipses (V : ew_Mem) (a b kd : Int) : Int := if s_isS a b 4000 then (if 0 ≤ kd ∧ kd ≤ 3 then s_cnt V kd (b - a + 1).toNat a else -1) else -2
def s_nx (V : ew_Mem) (m y : Int) : Nat → Int → Int
  | 0, _ => -5
  | j + 1, i => if s_isM (m + y * i) ∧ ¬ s_ecl V (m + y * i) = 0 then m + y * i + 100000 else s_nx V m y j (i + 1)
def s_a_next (V : ew_Mem) (m y : Int) : Int := if s_isM m ∧ 0 ≤ y ∧ y ≤ 1 then s_nx V m (if y = 0 then 1 else -1) 4000 1 else -2
def s_a_family (V : ew_Mem) (m k x : Int) : Int := if s_isM m ∧ s_isC k ∧ 0 ≤ x ∧ x ≤ 2 then (if s_ecl V m = 0 then -5 else if x = 2 then s_rel V m (-k) 500 0 + 1 + s_rel V m k 500 0 else if x = 0 then 100000 + (m - s_rel V m (-k) 500 0 * k) else 100000 + (m + s_rel V m k 500 0 * k)) else -2
def s_a_drift (V : ew_Mem) (k x : Int) : Int := if s_isC k ∧ 0 ≤ x ∧ x ≤ 1 then (if V 6 0 = 0 then -3 else s_drift V k x) else -2
def s_a_terms (V : ew_Mem) (w : Int) : Int := if s_isW V w then ((s_T (V w.toNat)).length : Int) else -1
def s_a_term (V : ew_Mem) (w i : Int) : Int := if s_isW V w then s_nth (s_T (V w.toNat)) i else -1
def s_a_cvg (V : ew_Mem) (w i x : Int) : Int := if s_isW V w ∧ (0 ≤ i ∧ i < ((s_T (V w.toNat)).length : Int)) ∧ 0 ≤ x ∧ x ≤ 1 then s_cvg (s_T (V w.toNat)) i.toNat x else s_NO
def s_a_nearest (V : ew_Mem) (w most : Int) : Int := if s_isW V w then (if 1 ≤ most ∧ most ≤ 1000 then (s_nst (V w.toNat) (most - 1).toNat).1 else -2) else -1
def s_a_date (V : ew_Mem) (m x : Int) : Int := if s_isM m then (if x = 0 then s_day V m else if x = 1 then s_rest V m else if x = 2 then (if s_day V m < 0 then s_NO else s_year V (s_day V m)) else if x = 3 then (if s_day V m < 0 then s_NO else s_day V m - s_firstDay V (s_year V (s_day V m))) else s_NO) else s_NO
def s_a_month (V : ew_Mem) (d : Int) : Int := if 0 ≤ d ∧ d ≤ 1000000 then (if 100000 < s_monthFrom V d then -5 else s_monthFrom V d) else -2
def s_a_period (V : ew_Mem) (w : Int) : Int := if s_isW V w then (if V w.toNat 0 = 4 then s_NO else s_per (V w.toNat)) else s_NO
def s_a_meeting (V : ew_Mem) (a p b q : Int) : Int := if s_isW V a ∧ s_isW V b then (if (0 ≤ p ∧ p < V a.toNat 1) ∧ 0 ≤ q ∧ q < V b.toNat 1 then (if 100000 < s_meet V a.toNat p b.toNat q then -5 else s_meet V a.toNat p b.toNat q) else -2) else -1
theorem s_rel_bd (V : ew_Mem) (m k : Int) : ∀ (j : Nat) (c : Int), c ≤ s_rel V m k j c ∧ s_rel V m k j c ≤ c + (j : Int)
  | 0, c => ⟨Int.le_refl _, by show c ≤ c + 0; omega⟩
  | j + 1, c => by
    have ih := s_rel_bd V m k j (c + 1)
    unfold s_rel
    split
    · omega
    · omega
theorem s_rel_M (V : ew_Mem) {m k : Int} (hm : s_isM m) : ∀ (j : Nat) (c : Int), s_isM (m + c * k) → s_isM (m + s_rel V m k j c * k)
  | 0, c, h => h
  | j + 1, c, h => by
    unfold s_rel
    split
    · rename_i h1
      exact s_rel_M V hm j (c + 1) h1.1
    · exact h
theorem s_meet_bd (V : ew_Mem) (a : Nat) (p : Int) (b : Nat) (q : Int) : 0 ≤ s_meet V a p b q ∧ s_meet V a p b q ≤ 100001 := by
  have h := s_ff_sound (s_mP V a p b q) 100001 0 (by decide)
  unfold s_meet
  omega
theorem s_year_bd {V : ew_Mem} (hV : s_VO V) {d : Int} (hd : 0 ≤ d ∧ d ≤ 10000000000) : 0 ≤ s_year V d ∧ s_year V d ≤ 10000000000 := by
  obtain ⟨hc6, hVW, hnd, hap, hr0, hr1, hr2, hr3, hr4, hr5⟩ := hV
  have h1 := Int.mul_ediv_add_emod d (365 * V 7 5 + 1)
  have h2 := Int.emod_nonneg d (show 365 * V 7 5 + 1 ≠ 0 by omega)
  have h3 := Int.emod_lt_of_pos d (show 0 < 365 * V 7 5 + 1 by omega)
  have h4 := Int.ediv_nonneg hd.1 (show 0 ≤ 365 * V 7 5 + 1 by omega)
  have h5 := Int.mul_nonneg h4 (show 0 ≤ V 7 5 by omega)
  have h6 : (365 * V 7 5 + 1) * (d / (365 * V 7 5 + 1)) = 365 * (d / (365 * V 7 5 + 1) * V 7 5) + d / (365 * V 7 5 + 1) := by
    rw [Int.add_mul, Int.one_mul, Int.mul_assoc, Int.mul_comm (V 7 5)]
  unfold s_year
  split <;> omega
def s_bt (x i : Int) : Int := (ew_i (((ew_i x).toUInt32 >>> ((ew_i i).toUInt32 &&& Int32.toUInt32 31)).toInt32.toInt) &&& ew_i 1).toInt
theorem s_and1 (x : Int32) : (x &&& ew_i 1).toInt = 0 ∨ (x &&& ew_i 1).toInt = 1 := by
  have h1 : (ew_i 1).toBitVec = 1#32 := by decide
  have h2 : (x &&& ew_i 1).toInt = (x.toBitVec &&& 1#32).toInt := by
    rw [← Int32.toInt_toBitVec, Int32.toBitVec_and, h1]
  rw [h2, BitVec.and_one_eq_setWidth_ofBool_getLsbD]
  cases x.toBitVec.getLsbD 0
  · exact Or.inl (by decide)
  · exact Or.inr (by decide)
theorem s_bt_01 (x i : Int) : s_bt x i = 0 ∨ s_bt x i = 1 := s_and1 _
def s_ar (V : ew_Mem) (x : Int) : Nat → Int → Int → Int
  | 0, _, c => c
  | j + 1, i, c => if s_bt x i = 1 then (if s_isW V i ∧ ¬ V i.toNat 0 = 4 then (if 9223372036854775807 / (s_per (V i.toNat) / s_gcd c (s_per (V i.toNat))) < c then s_NO else s_ar V x j (i + 1) (c * (s_per (V i.toNat) / s_gcd c (s_per (V i.toNat))))) else s_NO) else s_ar V x j (i + 1) c
def s_a_allRound (V : ew_Mem) (x : Int) : Int := s_ar V x 32 0 1
theorem s_cnt_bd (V : ew_Mem) (kd : Int) : ∀ (j : Nat) (m : Int), 0 ≤ s_cnt V kd j m ∧ s_cnt V kd j m ≤ (j : Int)
  | 0, _ => ⟨Int.le_refl _, Int.le_refl _⟩
  | j + 1, m => by
    have ih := s_cnt_bd V kd j (m + 1)
    unfold s_cnt
    split <;> omega
theorem s_ar_mul {c y : Int} (hc : 1 ≤ c) (hy : 1 ≤ y) (h : ¬ 9223372036854775807 / y < c) : 1 ≤ c * y ∧ c * y < 9223372036854775808 := by
  have h1 : c ≤ 9223372036854775807 / y := by omega
  have h2 := Int.mul_le_of_le_ediv (a := c) (b := 9223372036854775807) (c := y) (by omega) h1
  have h3 : 1 * 1 ≤ c * y := Int.mul_le_mul hc hy (by decide) (by omega)
  omega
