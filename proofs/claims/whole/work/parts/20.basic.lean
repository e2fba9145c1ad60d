/-! facts that hold all along; the plainest methods -/
def ew_perm : List (Nat × Nat × Int) := [(4, 0, 5), (4, 1, 8), (4, 3, 11), (4, 4, 20), (4, 5, 27), (4, 7, 32), (4, 8, 33), (4, 9, 34), (4, 10, 36), (4, 11, 37), (5, 0, 6), (5, 1, 7), (8, 0, 9), (8, 1, 10), (11, 0, 12), (11, 1, 14), (11, 2, 16), (11, 3, 18), (12, 0, 13), (14, 0, 15), (16, 0, 17), (18, 0, 19), (20, 0, 21), (20, 1, 23), (20, 2, 25), (21, 0, 22), (23, 0, 24), (25, 0, 26), (27, 0, 28), (27, 2, 29), (27, 3, 30), (27, 4, 31), (34, 0, 35), (38, 0, 39), (38, 1, 40), (38, 2, 41), (38, 3, 42), (38, 4, 43), (38, 6, 44), (38, 9, 45), (38, 10, 46), (38, 12, 47), (38, 13, 48), (38, 15, 49), (38, 16, 50), (38, 17, 51), (38, 19, 52), (38, 20, 53), (38, 28, 54), (38, 29, 55), (38, 30, 56), (38, 31, 57), (38, 32, 58), (1, 0, 0), (1, 1, 0), (1, 2, 0), (1, 3, 1), (1, 4, 1), (1, 5, 1), (2, 0, 99999), (2, 1, 99999), (2, 2, 99999), (2, 3, 100000), (2, 4, 1000), (2, 5, 400)]
/-- the references that never change -/
def ew_Pm (M : ew_Mem) : Prop := ∀ q ∈ ew_perm, M q.1 q.2.1 = q.2.2
theorem ew_pm {M : ew_Mem} (h : ew_Pm M) {a i : Nat} {v : Int} (hq : ew_perm.any (fun q => q.1 == a && (q.2.1 == i && q.2.2 == v)) = true) : M a i = v := by
  obtain ⟨q, h1, h2⟩ := List.any_eq_true.mp hq
  simp only [Bool.and_eq_true, beq_iff_eq] at h2
  obtain ⟨rfl, rfl, rfl⟩ := h2
  exact h q h1
def ew_pa (a : Nat) : Bool := ew_perm.any (fun q => q.1 == a)
theorem ew_Pm_wr {M : ew_Mem} (h : ew_Pm M) {a i : Nat} {v : Int} (hq : ew_perm.any (fun q => q.1 == a && q.2.1 == i) = false) : ew_Pm (ew_wr M a i v) := by
  intro q hm
  rw [← h q hm]
  unfold ew_wr
  by_cases h1 : q.1 = a
  · by_cases h2 : q.2.1 = i
    · exfalso
      have : ew_perm.any (fun q => q.1 == a && q.2.1 == i) = true := List.any_eq_true.mpr ⟨q, hm, by simp [h1, h2]⟩
      rw [hq] at this
      cases this
    · rw [if_pos h1, if_neg h2]
  · rw [if_neg h1]
theorem ew_Pm_wrA {M : ew_Mem} (h : ew_Pm M) {a i : Nat} {v : Int} (hq : ew_pa a = false) : ew_Pm (ew_wr M a i v) := by
  refine ew_Pm_wr h ?_
  unfold ew_pa at hq
  rw [List.any_eq_false] at hq ⊢
  intro q hm hq2
  simp only [Bool.and_eq_true, beq_iff_eq] at hq2
  exact hq q hm (by simp [hq2.1])
theorem ew_pa_w {a : Nat} (h : 59 ≤ a) : ew_pa a = false := by
  unfold ew_pa
  rw [List.any_eq_false]
  intro q hm hq
  have h1 : ∀ q ∈ ew_perm, q.1 < 59 := by decide +kernel
  have h2 := h1 q hm
  simp only [beq_iff_eq] at hq
  omega
theorem ew_own_p {t : Nat} {o : Int} {n : Nat} (hn : 59 ≤ n) (h : (decide (4 ≤ o.toNat) && (decide (o.toNat < 59) && decide ((ew_tag o.toNat).1 = t))) = true) : ew_own t o n = true := by
  simp only [ew_own, Bool.and_eq_true, decide_eq_true_eq] at h ⊢
  exact ⟨h.1, by omega, h.2.2⟩
theorem ew_ok_p {t : Nat} {o : Int} {n : Nat} (hn : 59 ≤ n) (h : (decide (1 ≤ o.toNat) && (decide (o.toNat < 59) && decide ((ew_tag o.toNat).1 = t))) = true) : ew_ok t o n = true := by
  simp only [ew_ok, Bool.and_eq_true, decide_eq_true_eq] at h ⊢
  exact ⟨h.1, by omega, h.2.2⟩
theorem ew_tag_g {a : Nat} (h : 59 ≤ a) : ew_tag a = (6, 5) := by
  have hl : ew_tags.length = 59 := by decide +kernel
  simp [ew_tag, List.getD, List.getElem?_eq_none (show ew_tags.length ≤ a by omega)]
theorem ew_tag_w {n : Nat} (h : 59 ≤ n) : (ew_tag n).1 = 6 := by rw [ew_tag_g h]
theorem ew_own_w {w : Int} {n : Nat} (h1 : 59 ≤ w) (h2 : w < (n : Int)) : ew_own 6 w n = true := by
  simp only [ew_own, Bool.and_eq_true, decide_eq_true_eq]
  exact ⟨by omega, by omega, ew_tag_w (by omega)⟩
theorem ew_xor_in (x y : Int64) : ew_inl (x ^^^ y).toInt := ⟨Int64.le_toInt _, Int64.toInt_lt _⟩
theorem ew_xor_lt {x y : Int} (hx : ew_inl x) (hy : 0 < y ∧ y < 9223372036854775808) : (ew_l x ^^^ ew_l y).toInt < 0 ↔ x < 0 := by
  have hxl := ew_l_in hx
  have hyl := ew_l_in (x := y) ⟨by omega, hy.2⟩
  rw [← Int64.toInt_toBitVec] at hxl hyl
  have h1 : ((ew_l x ^^^ ew_l y).toBitVec.msb = true) ↔ (ew_l x ^^^ ew_l y).toInt < 0 := by
    rw [BitVec.msb_eq_toInt, decide_eq_true_eq, Int64.toInt_toBitVec]
  rw [← h1, Int64.toBitVec_xor, BitVec.msb_xor, BitVec.msb_eq_toInt, BitVec.msb_eq_toInt, hxl, hyl]
  have h2 : decide (y < 0) = false := by simp; omega
  rw [h2]
  simp
theorem ew_fdiv {x y : Int} (hy : 0 < y) : x / y = if x < 0 ∧ ¬ x.tdiv y * y = x then x.tdiv y - 1 else x.tdiv y := by
  have h1 := Int.tdiv_eq_ediv (a := x) (b := y)
  have hs : Int.sign y = 1 := Int.sign_eq_one_of_pos hy
  by_cases h0 : 0 ≤ x
  · rw [if_pos (Or.inl h0)] at h1
    rw [if_neg (by omega)]
    omega
  · by_cases hd : y ∣ x
    · rw [if_pos (Or.inr hd)] at h1
      rw [if_neg (fun q => q.2 (by rw [h1, Int.add_zero]; exact Int.ediv_mul_cancel hd))]
      omega
    · rw [if_neg (by simp [h0, hd]), hs] at h1
      rw [if_pos ⟨by omega, fun q => hd ⟨x.tdiv y, by rw [Int.mul_comm]; exact q.symm⟩⟩]
      omega
theorem ew_fmod {x y : Int} (hy : 0 < y) : x % y = if x < 0 ∧ ¬ x.tmod y = 0 then x.tmod y + y else x.tmod y := by
  have h1 := Int.tmod_eq_emod (a := x) (b := y)
  have hb : (y.natAbs : Int) = y := Int.natAbs_of_nonneg (by omega)
  by_cases h0 : 0 ≤ x
  · rw [if_pos (Or.inl h0)] at h1
    rw [if_neg (by omega)]
    omega
  · by_cases hd : y ∣ x
    · rw [if_pos (Or.inr hd)] at h1
      have h2 := Int.emod_eq_zero_of_dvd hd
      rw [if_neg (by omega)]
      omega
    · rw [if_neg (by simp [h0, hd])] at h1
      have h2 := Int.emod_lt_of_pos x hy
      have h3 := Int.emod_nonneg x (show y ≠ 0 by omega)
      rw [if_pos ⟨by omega, by omega⟩]
      omega

theorem ew_tdiv_in {x y : Int} (hx : ew_inl x) (hy : 0 < y ∧ y < 9223372036854775808) : ew_inl (x.tdiv y * y) ∧ ew_inl (x.tmod y) := by
  have h1 := Int.mul_tdiv_add_tmod x y
  have h2 := Int.tmod_lt_of_pos x hy.1
  have h3 := Int.lt_tmod_of_pos x hy.1
  have h4 := @Int.tmod_eq_emod x y
  have hb : (y.natAbs : Int) = y := Int.natAbs_of_nonneg (by omega)
  have h5 := Int.emod_lt_of_pos x hy.1
  have h6 := Int.emod_nonneg x (show y ≠ 0 by omega)
  rw [Int.mul_comm] at h1
  by_cases h0 : 0 ≤ x
  · rw [if_pos (Or.inl h0)] at h4
    have h7 : 0 ≤ x.tdiv y := by
      rw [Int.tdiv_eq_ediv, if_pos (Or.inl h0)]
      have := Int.ediv_nonneg h0 (show 0 ≤ y by omega)
      omega
    have h8 := Int.mul_nonneg h7 (show 0 ≤ y by omega)
    exact ⟨⟨by omega, by omega⟩, ⟨by omega, by omega⟩⟩
  · have h9 : x.tmod y ≤ 0 := by
      split at h4 <;> omega
    exact ⟨⟨by omega, by omega⟩, ⟨by omega, by omega⟩⟩

set_option maxRecDepth 20000 in
theorem c_floorDiv {n : Nat} {M : ew_Mem} {x y : Int} (hx : ew_inl x) (hy : 0 < y ∧ y < 9223372036854775808) : ew_FM 0 [(1, x), (1, y)] n M (1, x / y) n M := by
  have hc := ew_c_0
  have hxor := ew_xor_in (ew_l x) (ew_l y)
  have hlt := ew_xor_lt hx hy
  obtain ⟨hm1, hm2⟩ := ew_tdiv_in hx hy
  show ew_X 0 0 [(1, x), (5, 0), (1, y), (5, 0), (5, 0), (5, 0)] [] n M _
  refine xr_go hc rfl rfl ?_
  refine xr_go hc rfl rfl ?_
  refine xr_ldiv hc rfl hx hy ?_
  refine xr_s2_4 hc rfl rfl rfl ?_
  refine xr_go hc rfl rfl ?_
  refine xr_go hc rfl rfl ?_
  refine xr_go hc rfl rfl ?_
  refine xr_go hc rfl rfl ?_
  refine xr_l_ge hc rfl rfl hxor (by omega) (fun c1 => ?_) (fun c1 => ?_)
  · skip
    refine xr_go hc rfl rfl ?_
    refine xr_ret hc rfl rfl ?_
    refine ⟨?_, rfl, rfl⟩
    rw [ew_fdiv hy.1]
    rw [if_neg (by omega)]
  · skip
    refine xr_go hc rfl rfl ?_
    refine xr_go hc rfl rfl ?_
    refine xr_go hc rfl rfl ?_
    refine xr_go hc rfl rfl ?_
    refine xr_l_eq hc rfl rfl hm1 hx (fun c2 => ?_) (fun c2 => ?_)
    · skip
      refine xr_go hc rfl rfl ?_
      refine xr_ret hc rfl rfl ?_
      refine ⟨?_, rfl, rfl⟩
      rw [ew_fdiv hy.1]
      rw [if_neg (by omega)]
    · skip
      refine xr_go hc rfl rfl ?_
      refine xr_go hc rfl rfl ?_
      refine xr_go hc rfl rfl ?_
      refine xr_ret hc rfl rfl ?_
      refine ⟨?_, rfl, rfl⟩
      rw [ew_fdiv hy.1]
      rw [if_pos ⟨by omega, by omega⟩]

set_option maxRecDepth 20000 in
theorem c_floorMod {n : Nat} {M : ew_Mem} {x y : Int} (hx : ew_inl x) (hy : 0 < y ∧ y < 9223372036854775808) : ew_FM 1 [(1, x), (1, y)] n M (1, x % y) n M := by
  have hc := ew_c_1
  have hxor := ew_xor_in (ew_l x) (ew_l y)
  have hlt := ew_xor_lt hx hy
  obtain ⟨hm1, hm2⟩ := ew_tdiv_in hx hy
  show ew_X 1 0 [(1, x), (5, 0), (1, y), (5, 0), (5, 0), (5, 0)] [] n M _
  refine xr_go hc rfl rfl ?_
  refine xr_go hc rfl rfl ?_
  refine xr_lrem hc rfl hx hy ?_
  refine xr_s2_4 hc rfl rfl rfl ?_
  refine xr_go hc rfl rfl ?_
  refine xr_go hc rfl rfl ?_
  refine xr_go hc rfl rfl ?_
  refine xr_go hc rfl rfl ?_
  refine xr_l_ge hc rfl rfl hxor (by omega) (fun c1 => ?_) (fun c1 => ?_)
  · skip
    refine xr_go hc rfl rfl ?_
    refine xr_ret hc rfl rfl ?_
    refine ⟨?_, rfl, rfl⟩
    rw [ew_fmod hy.1]
    rw [if_neg (by omega)]
  · skip
    refine xr_go hc rfl rfl ?_
    refine xr_go hc rfl rfl ?_
    refine xr_l_eq hc rfl rfl hm2 (by omega) (fun c2 => ?_) (fun c2 => ?_)
    · skip
      refine xr_go hc rfl rfl ?_
      refine xr_ret hc rfl rfl ?_
      refine ⟨?_, rfl, rfl⟩
      rw [ew_fmod hy.1]
      rw [if_neg (by omega)]
    · skip
      refine xr_go hc rfl rfl ?_
      refine xr_go hc rfl rfl ?_
      refine xr_go hc rfl rfl ?_
      refine xr_ret hc rfl rfl ?_
      refine ⟨?_, rfl, rfl⟩
      rw [ew_fmod hy.1]
      rw [if_pos ⟨by omega, by omega⟩]

set_option maxRecDepth 20000 in
theorem c_minJ {n : Nat} {M : ew_Mem} {x y : Int} (hx : ew_inl x) (hy : ew_inl y) : ew_FM 2 [(1, x), (1, y)] n M (1, min x y) n M := by
  have hc := ew_c_2
  show ew_X 2 0 [(1, x), (5, 0), (1, y), (5, 0)] [] n M _
  refine xr_go hc rfl rfl ?_
  refine xr_go hc rfl rfl ?_
  refine xr_l_gt hc rfl rfl (by omega) (by omega) (fun c1 => ?_) (fun c1 => ?_)
  · skip
    refine xr_go hc rfl rfl ?_
    refine xr_ret hc rfl rfl ?_
    exact ⟨by congr 2; omega, rfl, rfl⟩
  · skip
    refine xr_go hc rfl rfl ?_
    refine xr_go hc rfl rfl ?_
    refine xr_ret hc rfl rfl ?_
    exact ⟨by congr 2; omega, rfl, rfl⟩

set_option maxRecDepth 20000 in
theorem c_minI {n : Nat} {M : ew_Mem} {x y : Int} (hx : ew_in x) (hy : ew_in y) : ew_FM 3 [(0, x), (0, y)] n M (0, min x y) n M := by
  have hc := ew_c_3
  show ew_X 3 0 [(0, x), (0, y)] [] n M _
  refine xr_go hc rfl rfl ?_
  refine xr_go hc rfl rfl ?_
  refine xr_icmp_gt hc rfl (by omega) (by omega) (fun c1 => ?_) (fun c1 => ?_)
  · skip
    refine xr_go hc rfl rfl ?_
    refine xr_ret hc rfl rfl ?_
    exact ⟨by congr 2; omega, rfl, rfl⟩
  · skip
    refine xr_go hc rfl rfl ?_
    refine xr_go hc rfl rfl ?_
    refine xr_ret hc rfl rfl ?_
    exact ⟨by congr 2; omega, rfl, rfl⟩

set_option maxRecDepth 20000 in
theorem c_maxI {n : Nat} {M : ew_Mem} {x y : Int} (hx : ew_in x) (hy : ew_in y) : ew_FM 4 [(0, x), (0, y)] n M (0, max x y) n M := by
  have hc := ew_c_4
  show ew_X 4 0 [(0, x), (0, y)] [] n M _
  refine xr_go hc rfl rfl ?_
  refine xr_go hc rfl rfl ?_
  refine xr_icmp_lt hc rfl (by omega) (by omega) (fun c1 => ?_) (fun c1 => ?_)
  · skip
    refine xr_go hc rfl rfl ?_
    refine xr_ret hc rfl rfl ?_
    exact ⟨by congr 2; omega, rfl, rfl⟩
  · skip
    refine xr_go hc rfl rfl ?_
    refine xr_go hc rfl rfl ?_
    refine xr_ret hc rfl rfl ?_
    exact ⟨by congr 2; omega, rfl, rfl⟩

set_option maxRecDepth 20000 in
theorem c_absI {n : Nat} {M : ew_Mem} {x : Int} (hx : ew_in x) : ew_FM 5 [(0, x)] n M (0, if x < 0 then -x else x) n M := by
  have hc := ew_c_5
  show ew_X 5 0 [(0, x)] [] n M _
  refine xr_go hc rfl rfl ?_
  refine xr_if_ge hc rfl (by omega) (fun c1 => ?_) (fun c1 => ?_)
  · skip
    refine xr_go hc rfl rfl ?_
    refine xr_ret hc rfl rfl ?_
    exact ⟨by congr 2; split <;> omega, rfl, rfl⟩
  · skip
    refine xr_go hc rfl rfl ?_
    refine xr_go hc rfl rfl ?_
    refine xr_go hc rfl rfl ?_
    refine xr_ret hc rfl rfl ?_
    exact ⟨by congr 2; split <;> omega, rfl, rfl⟩

set_option maxRecDepth 20000 in
theorem c_cutDown {n : Nat} {M : ew_Mem} {x y : Int} (hx : ew_inl x) (hy : 0 < y ∧ y < 9223372036854775808) : ew_FM 16 [(1, x), (1, y)] n M (1, x / y) n M := by
  have hc := ew_c_16
  show ew_X 16 0 [(1, x), (5, 0), (1, y), (5, 0)] [] n M _
  refine xr_go hc rfl rfl ?_
  refine xr_go hc rfl rfl ?_
  refine xr_l_gt hc rfl rfl (by omega) (by omega) (fun c1 => ?_) (fun c1 => ?_)
  · skip
    refine xr_go hc rfl rfl ?_
    refine xr_go hc rfl rfl ?_
    refine xr_s_2 hc rfl rfl (c_floorDiv hx hy) ?_
    refine xr_ret hc rfl rfl ?_
    exact ⟨rfl, rfl, rfl⟩
  · exfalso; omega

set_option maxRecDepth 20000 in
theorem c_leftOver {n : Nat} {M : ew_Mem} {x y : Int} (hx : ew_inl x) (hy : 0 < y ∧ y < 9223372036854775808) : ew_FM 17 [(1, x), (1, y)] n M (1, x % y) n M := by
  have hc := ew_c_17
  show ew_X 17 0 [(1, x), (5, 0), (1, y), (5, 0)] [] n M _
  refine xr_go hc rfl rfl ?_
  refine xr_go hc rfl rfl ?_
  refine xr_l_gt hc rfl rfl (by omega) (by omega) (fun c1 => ?_) (fun c1 => ?_)
  · skip
    refine xr_go hc rfl rfl ?_
    refine xr_go hc rfl rfl ?_
    refine xr_s_2 hc rfl rfl (c_floorMod hx hy) ?_
    refine xr_ret hc rfl rfl ?_
    exact ⟨rfl, rfl, rfl⟩
  · exfalso; omega

set_option maxRecDepth 20000 in
theorem c_isMonth {n : Nat} {M : ew_Mem} {x : Int} (hx : ew_in x) : ew_FM 94 [(0, x)] n M (0, if -100000 ≤ x ∧ x ≤ 100000 then 1 else 0) n M := by
  have hc := ew_c_94
  show ew_X 94 0 [(0, x)] [] n M _
  refine xr_go hc rfl rfl ?_
  refine xr_go hc rfl rfl ?_
  refine xr_icmp_lt hc rfl (by omega) (by decide) (fun c1 => ?_) (fun c1 => ?_)
  · skip
    refine xr_go hc rfl rfl ?_
    refine xr_ret hc rfl rfl ?_
    exact ⟨by congr 2; split <;> omega, rfl, rfl⟩
  · skip
    refine xr_go hc rfl rfl ?_
    refine xr_go hc rfl rfl ?_
    refine xr_icmp_gt hc rfl (by omega) (by decide) (fun c2 => ?_) (fun c2 => ?_)
    · skip
      refine xr_go hc rfl rfl ?_
      refine xr_ret hc rfl rfl ?_
      exact ⟨by congr 2; split <;> omega, rfl, rfl⟩
    · skip
      refine xr_go hc rfl rfl ?_
      refine xr_go hc rfl rfl ?_
      refine xr_ret hc rfl rfl ?_
      exact ⟨by congr 2; split <;> omega, rfl, rfl⟩

set_option maxRecDepth 20000 in
theorem c_in {n : Nat} {M : ew_Mem} {x lo hi : Int} (hx : ew_inl x) (hlo : ew_inl lo) (hhi : ew_inl hi) : ew_FM 150 [(1, x), (1, lo), (1, hi)] n M (0, if lo ≤ x ∧ x ≤ hi then 1 else 0) n M := by
  have hc := ew_c_150
  show ew_X 150 0 [(1, x), (5, 0), (1, lo), (5, 0), (1, hi), (5, 0)] [] n M _
  refine xr_go hc rfl rfl ?_
  refine xr_go hc rfl rfl ?_
  refine xr_l_lt hc rfl rfl (by omega) (by omega) (fun c1 => ?_) (fun c1 => ?_)
  · skip
    refine xr_go hc rfl rfl ?_
    refine xr_ret hc rfl rfl ?_
    exact ⟨by congr 2; split <;> omega, rfl, rfl⟩
  · skip
    refine xr_go hc rfl rfl ?_
    refine xr_go hc rfl rfl ?_
    refine xr_l_gt hc rfl rfl (by omega) (by omega) (fun c2 => ?_) (fun c2 => ?_)
    · skip
      refine xr_go hc rfl rfl ?_
      refine xr_ret hc rfl rfl ?_
      exact ⟨by congr 2; split <;> omega, rfl, rfl⟩
    · skip
      refine xr_go hc rfl rfl ?_
      refine xr_go hc rfl rfl ?_
      refine xr_ret hc rfl rfl ?_
      exact ⟨by congr 2; split <;> omega, rfl, rfl⟩

