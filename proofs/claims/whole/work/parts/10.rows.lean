/-! rows of the small machine: an instruction a row -/
abbrev ew_in (x : Int) : Prop := -2147483648 ≤ x ∧ x < 2147483648
abbrev ew_inl (x : Int) : Prop := -9223372036854775808 ≤ x ∧ x < 9223372036854775808
theorem ew_i_in {x : Int} (h : ew_in x) : (ew_i x).toInt = x := Int32.toInt_ofInt_of_le h.1 h.2
theorem ew_l_in {x : Int} (h : ew_inl x) : (ew_l x).toInt = x := Int64.toInt_ofInt_of_le h.1 h.2
theorem ew_0_in : ew_in 0 := by decide
theorem ew_cn_eq {x y : Int} (hx : ew_in x) (hy : ew_in y) : ew_cn .eq (ew_i x) (ew_i y) = true ↔ x = y := by
  simp only [ew_cn, decide_eq_true_eq, ← Int32.toInt_inj, ew_i_in hx, ew_i_in hy]
theorem ew_cn_ne {x y : Int} (hx : ew_in x) (hy : ew_in y) : ew_cn .ne (ew_i x) (ew_i y) = true ↔ x ≠ y := by
  simp only [ew_cn, decide_eq_true_eq, ne_eq, ← Int32.toInt_inj, ew_i_in hx, ew_i_in hy]
theorem ew_cn_lt {x y : Int} (hx : ew_in x) (hy : ew_in y) : ew_cn .lt (ew_i x) (ew_i y) = true ↔ x < y := by
  simp only [ew_cn, decide_eq_true_eq, Int32.lt_iff_toInt_lt, ew_i_in hx, ew_i_in hy]
theorem ew_cn_ge {x y : Int} (hx : ew_in x) (hy : ew_in y) : ew_cn .ge (ew_i x) (ew_i y) = true ↔ y ≤ x := by
  simp only [ew_cn, decide_eq_true_eq, Int32.le_iff_toInt_le, ew_i_in hx, ew_i_in hy]
theorem ew_cn_gt {x y : Int} (hx : ew_in x) (hy : ew_in y) : ew_cn .gt (ew_i x) (ew_i y) = true ↔ y < x := by
  simp only [ew_cn, decide_eq_true_eq, Int32.lt_iff_toInt_lt, ew_i_in hx, ew_i_in hy]
theorem ew_cn_le {x y : Int} (hx : ew_in x) (hy : ew_in y) : ew_cn .le (ew_i x) (ew_i y) = true ↔ x ≤ y := by
  simp only [ew_cn, decide_eq_true_eq, Int32.le_iff_toInt_le, ew_i_in hx, ew_i_in hy]
theorem ew_stp_of {k pc nx a b : Nat} {C : List ew_Ent} {ins : Instr} {z : Int} (hc : ew_cod k = C) (h : ew_lk C pc = some (ins, nx, a, b, z)) (L S : List ew_AV) (n : Nat) (M : ew_Mem) : ew_stp k pc L S n M = ew_stI k pc ins nx a b z L S n M := by
  rw [ew_stp, hc, h]
def ew_FM (k : Nat) (A : List ew_AV) (n : Nat) (M : ew_Mem) (v : ew_AV) (n' : Nat) (M' : ew_Mem) : Prop := ew_C k A n M (fun r a b => r = some v ∧ a = n' ∧ b = M')
def ew_VM (k : Nat) (A : List ew_AV) (n : Nat) (M : ew_Mem) (n' : Nat) (M' : ew_Mem) : Prop := ew_C k A n M (fun r a b => r = none ∧ a = n' ∧ b = M')
def ew_ck (k k' : Nat) (A S : List ew_AV) : Bool := decide (ew_lv k' < ew_lv k) && (decide (ew_ws S ≤ 8) && decide ((ew_lay A).length ≤ ew_maxL k'))
section XR
variable {k pc nx a b : Nat} {C : List ew_Ent} {ins : Instr} {z : Int} {L S : List ew_AV} {n : Nat} {M : ew_Mem} {Q : Option ew_AV → Nat → ew_Mem → Prop}
theorem xr_go {nx' : Nat} {L' S' : List ew_AV} (hc : ew_cod k = C) (h : ew_lk C pc = some (ins, nx, a, b, z)) (hs : ew_stI k pc ins nx a b z L S n M = some (.inl (nx', L', S', n, M))) (kk : ew_X k nx' L' S' n M Q) : ew_X k pc L S n M Q := ew_X.step ((ew_stp_of hc h L S n M).trans hs) kk
theorem xr_goM {nx' n' : Nat} {L' S' : List ew_AV} {M' : ew_Mem} (hc : ew_cod k = C) (h : ew_lk C pc = some (ins, nx, a, b, z)) (hs : ew_stI k pc ins nx a b z L S n M = some (.inl (nx', L', S', n', M'))) (kk : ew_X k nx' L' S' n' M' Q) : ew_X k pc L S n M Q := ew_X.step ((ew_stp_of hc h L S n M).trans hs) kk
theorem xr_ret {v : Option ew_AV} (hc : ew_cod k = C) (h : ew_lk C pc = some (ins, nx, a, b, z)) (hs : ew_stI k pc ins nx a b z L S n M = some (.inr (.inl v))) (kk : Q v n M) : ew_X k pc L S n M Q := ew_X.retv ((ew_stp_of hc h L S n M).trans hs) kk
theorem xr_retB {v : Int} (hc : ew_cod k = C) (h : ew_lk C pc = some (.ireturn, nx, a, b, z)) (hv : v = 0 ∨ v = 1) (kk : Q (some (0, v)) n M) : ew_X k pc L [(0, v)] n M Q :=
  ew_X.retv ((ew_stp_of hc h L _ n M).trans (by simp only [ew_stI]; rw [if_pos (fun _ => hv)]; rfl)) kk
theorem xr_i2l {x : Int} (hc : ew_cod k = C) (h : ew_lk C pc = some (.i2l, nx, a, b, z)) (rx : ew_in x) (kk : ew_X k nx L ((1, x) :: S) n M Q) : ew_X k pc L ((0, x) :: S) n M Q :=
  ew_X.step ((ew_stp_of hc h L _ n M).trans (by simp only [ew_stI]; rw [ew_i_in rx])) kk
theorem xr_idiv {x y : Int} (hc : ew_cod k = C) (h : ew_lk C pc = some (.idiv, nx, a, b, z)) (rx : 0 ≤ x ∧ x < 2147483648) (ry : 0 < y ∧ y < 2147483648) (kk : ew_X k nx L ((0, x / y) :: S) n M Q) : ew_X k pc L ((0, y) :: (0, x) :: S) n M Q := by
  have hx : ew_in x := ⟨by omega, rx.2⟩
  have hy : ew_in y := ⟨by omega, ry.2⟩
  have h0 : ¬ ew_i y = 0 := fun e => by
    have e1 := congrArg Int32.toInt e
    rw [ew_i_in hy, Int32.toInt_zero] at e1
    omega
  have hm : ew_i y ≠ -1 := fun e => by
    have e1 := congrArg Int32.toInt e
    rw [ew_i_in hy] at e1
    have e2 : (-1 : Int32).toInt = -1 := by decide
    omega
  refine ew_X.step ((ew_stp_of hc h L _ n M).trans ?_) kk
  simp only [ew_stI]
  rw [if_neg h0, Int32.toInt_div_of_ne_right _ _ hm, ew_i_in hx, ew_i_in hy, Int.tdiv_eq_ediv_of_nonneg rx.1]
theorem xr_irem {x y : Int} (hc : ew_cod k = C) (h : ew_lk C pc = some (.irem, nx, a, b, z)) (rx : 0 ≤ x ∧ x < 2147483648) (ry : 0 < y ∧ y < 2147483648) (kk : ew_X k nx L ((0, x % y) :: S) n M Q) : ew_X k pc L ((0, y) :: (0, x) :: S) n M Q := by
  have hx : ew_in x := ⟨by omega, rx.2⟩
  have hy : ew_in y := ⟨by omega, ry.2⟩
  have h0 : ¬ ew_i y = 0 := fun e => by
    have e1 := congrArg Int32.toInt e
    rw [ew_i_in hy, Int32.toInt_zero] at e1
    omega
  have hm : ew_i y ≠ -1 := fun e => by
    have e1 := congrArg Int32.toInt e
    rw [ew_i_in hy] at e1
    have e2 : (-1 : Int32).toInt = -1 := by decide
    omega
  have hd : ew_i x / ew_i y = ew_i (x / y) := by
    have e1 := Int32.toInt_div_of_ne_right (ew_i x) _ hm
    rw [ew_i_in hx, ew_i_in hy, Int.tdiv_eq_ediv_of_nonneg rx.1] at e1
    rw [← e1]; exact (Int32.ofInt_toInt _).symm
  have hr : ew_i x - ew_i (x / y) * ew_i y = ew_i (x % y) := by
    simp only [ew_i, ← Int32.ofInt_mul, ← Int32.ofInt_sub]
    congr 1
    have := Int.mul_ediv_add_emod x y
    rw [Int.mul_comm (x / y) y]
    omega
  have h1 := Int.emod_nonneg x (show y ≠ 0 by omega)
  have h2 := Int.emod_lt_of_pos x ry.1
  refine ew_X.step ((ew_stp_of hc h L _ n M).trans ?_) kk
  simp only [ew_stI]
  rw [if_neg h0, hd, hr, ew_i_in ⟨by omega, by omega⟩]
theorem ew_ldiv_aux {x y : Int} (rx : ew_inl x) (ry : 0 < y ∧ y < 9223372036854775808) : ¬ ew_l y = 0 ∧ (ew_l x / ew_l y).toInt = x.tdiv y ∧ (ew_l x - ew_l x / ew_l y * ew_l y).toInt = x.tmod y := by
  have hy : ew_inl y := ⟨by omega, ry.2⟩
  have h0 : ¬ ew_l y = 0 := fun e => by
    have e1 := congrArg Int64.toInt e
    rw [ew_l_in hy, Int64.toInt_zero] at e1
    omega
  have hm : ew_l y ≠ -1 := fun e => by
    have e1 := congrArg Int64.toInt e
    rw [ew_l_in hy] at e1
    have e2 : (-1 : Int64).toInt = -1 := by decide
    omega
  have e1 := Int64.toInt_div_of_ne_right (ew_l x) _ hm
  rw [ew_l_in rx, ew_l_in hy] at e1
  have hd : ew_l x / ew_l y = ew_l (x.tdiv y) := by rw [← e1]; exact (Int64.ofInt_toInt _).symm
  have hr : ew_l x - ew_l x / ew_l y * ew_l y = ew_l (x.tmod y) := by
    rw [hd]
    simp only [ew_l, ← Int64.ofInt_mul, ← Int64.ofInt_sub]
    congr 1
    have := Int.mul_tdiv_add_tmod x y
    rw [Int.mul_comm (x.tdiv y) y]
    omega
  have h1 := Int.tmod_lt_of_pos x ry.1
  have h2 : -y < x.tmod y := by
    have := Int.lt_tmod_of_pos x ry.1
    omega
  exact ⟨h0, e1, by rw [hr, ew_l_in ⟨by omega, by omega⟩]⟩
theorem xr_ldiv {x y : Int} (hc : ew_cod k = C) (h : ew_lk C pc = some (.ldiv, nx, a, b, z)) (rx : ew_inl x) (ry : 0 < y ∧ y < 9223372036854775808) (kk : ew_X k nx L ((1, x.tdiv y) :: S) n M Q) : ew_X k pc L ((1, y) :: (1, x) :: S) n M Q := by
  obtain ⟨h0, h1, h2⟩ := ew_ldiv_aux rx ry
  refine ew_X.step ((ew_stp_of hc h L _ n M).trans ?_) kk
  simp only [ew_stI]
  rw [if_neg h0, h1]
theorem xr_lrem {x y : Int} (hc : ew_cod k = C) (h : ew_lk C pc = some (.lrem, nx, a, b, z)) (rx : ew_inl x) (ry : 0 < y ∧ y < 9223372036854775808) (kk : ew_X k nx L ((1, x.tmod y) :: S) n M Q) : ew_X k pc L ((1, y) :: (1, x) :: S) n M Q := by
  obtain ⟨h0, h1, h2⟩ := ew_ldiv_aux rx ry
  refine ew_X.step ((ew_stp_of hc h L _ n M).trans ?_) kk
  simp only [ew_stI]
  rw [if_neg h0, h2]
theorem xr_ldivN {x y : Int} (hc : ew_cod k = C) (h : ew_lk C pc = some (.ldiv, nx, a, b, z)) (rx : 0 ≤ x ∧ x < 9223372036854775808) (ry : 0 < y ∧ y < 9223372036854775808) (kk : ew_X k nx L ((1, x / y) :: S) n M Q) : ew_X k pc L ((1, y) :: (1, x) :: S) n M Q :=
  xr_ldiv hc h ⟨by omega, rx.2⟩ ry (by rw [Int.tdiv_eq_ediv_of_nonneg rx.1]; exact kk)
theorem xr_lremN {x y : Int} (hc : ew_cod k = C) (h : ew_lk C pc = some (.lrem, nx, a, b, z)) (rx : 0 ≤ x ∧ x < 9223372036854775808) (ry : 0 < y ∧ y < 9223372036854775808) (kk : ew_X k nx L ((1, x % y) :: S) n M Q) : ew_X k pc L ((1, y) :: (1, x) :: S) n M Q :=
  xr_lrem hc h ⟨by omega, rx.2⟩ ry (by rw [Int.tmod_eq_emod_of_nonneg rx.1]; exact kk)
theorem xr_null {o : Int} {ins' : Int} (hc : ew_cod k = C) (h : ew_lk C pc = some (.ifnull ins', nx, a, b, z)) (kt : o ≤ 0 → ew_X k a L S n M Q) (kf : 0 < o → ew_X k nx L S n M Q) : ew_X k pc L ((2, o) :: S) n M Q := by
  by_cases ho : o ≤ 0
  · exact ew_X.step ((ew_stp_of hc h L _ n M).trans (by simp only [ew_stI]; rw [if_pos ho])) (kt ho)
  · exact ew_X.step ((ew_stp_of hc h L _ n M).trans (by simp only [ew_stI]; rw [if_neg ho])) (kf (by omega))
theorem xr_nonnull {o : Int} {ins' : Int} (hc : ew_cod k = C) (h : ew_lk C pc = some (.ifnonnull ins', nx, a, b, z)) (kt : 0 < o → ew_X k a L S n M Q) (kf : o ≤ 0 → ew_X k nx L S n M Q) : ew_X k pc L ((2, o) :: S) n M Q := by
  by_cases ho : o ≤ 0
  · exact ew_X.step ((ew_stp_of hc h L _ n M).trans (by simp only [ew_stI]; rw [if_pos ho])) (kf ho)
  · exact ew_X.step ((ew_stp_of hc h L _ n M).trans (by simp only [ew_stI]; rw [if_neg ho])) (kt (by omega))
theorem xr_icmp {cd : Jvm.ClassFile.Cond} {of : Int} {x y : Int} {P : Prop} (hP : ew_cn cd (ew_i x) (ew_i y) = true ↔ P) (hc : ew_cod k = C) (h : ew_lk C pc = some (.if_icmp cd of, nx, a, b, z)) (kt : P → ew_X k a L S n M Q) (kf : ¬ P → ew_X k nx L S n M Q) : ew_X k pc L ((0, y) :: (0, x) :: S) n M Q := by
  by_cases hp : P
  · exact ew_X.step ((ew_stp_of hc h L _ n M).trans (by simp only [ew_stI]; rw [hP.mpr hp]; rfl)) (kt hp)
  · have hf : ew_cn cd (ew_i x) (ew_i y) = false := by
      cases hq : ew_cn cd (ew_i x) (ew_i y) with
      | true => exact absurd (hP.mp hq) hp
      | false => rfl
    exact ew_X.step ((ew_stp_of hc h L _ n M).trans (by simp only [ew_stI]; rw [hf]; rfl)) (kf hp)
theorem xr_if {cd : Jvm.ClassFile.Cond} {of : Int} {x : Int} {P : Prop} (hP : ew_cn cd (ew_i x) (ew_i 0) = true ↔ P) (hc : ew_cod k = C) (h : ew_lk C pc = some (.ifCond cd of, nx, a, b, z)) (kt : P → ew_X k a L S n M Q) (kf : ¬ P → ew_X k nx L S n M Q) : ew_X k pc L ((0, x) :: S) n M Q := by
  have h00 : ew_i 0 = 0 := rfl
  rw [h00] at hP
  by_cases hp : P
  · exact ew_X.step ((ew_stp_of hc h L _ n M).trans (by simp only [ew_stI]; rw [hP.mpr hp]; rfl)) (kt hp)
  · have hf : ew_cn cd (ew_i x) 0 = false := by
      cases hq : ew_cn cd (ew_i x) 0 with
      | true => exact absurd (hP.mp hq) hp
      | false => rfl
    exact ew_X.step ((ew_stp_of hc h L _ n M).trans (by simp only [ew_stI]; rw [hf]; rfl)) (kf hp)
theorem ew_lcmp_of {x y : Int} (hx : ew_inl x) (hy : ew_inl y) : (lg_cmp (ew_l x) (ew_l y)).toInt = if y < x then 1 else if x = y then 0 else -1 := by
  unfold lg_cmp
  have e1 : (ew_l x > ew_l y) ↔ y < x := by rw [gt_iff_lt, Int64.lt_iff_toInt_lt, ew_l_in hx, ew_l_in hy]
  have e2 : (ew_l x = ew_l y) ↔ x = y := by rw [← Int64.toInt_inj, ew_l_in hx, ew_l_in hy]
  by_cases h1 : y < x
  · rw [if_pos (e1.mpr h1), if_pos h1]; decide
  · rw [if_neg (fun q => h1 (e1.mp q)), if_neg h1]
    by_cases h2 : x = y
    · rw [if_pos (e2.mpr h2), if_pos h2]; decide
    · rw [if_neg (fun q => h2 (e2.mp q)), if_neg h2]; decide
theorem ew_sg_in (x y : Int) : ew_in (if y < x then 1 else if x = y then 0 else -1) := by
  by_cases h1 : y < x
  · rw [if_pos h1]; decide
  · rw [if_neg h1]
    by_cases h2 : x = y
    · rw [if_pos h2]; decide
    · rw [if_neg h2]; decide
theorem xr_lcmp {cd : Jvm.ClassFile.Cond} {of : Int} {x y : Int} {P : Prop} {nx0 a0 b0 : Nat} {z0 : Int} (rx : ew_inl x) (ry : ew_inl y) (hP : ew_cn cd (ew_i (if y < x then 1 else if x = y then 0 else -1)) (ew_i 0) = true ↔ P) (hc : ew_cod k = C) (h0 : ew_lk C pc = some (.lcmp, nx0, a0, b0, z0)) (h : ew_lk C nx0 = some (.ifCond cd of, nx, a, b, z)) (kt : P → ew_X k a L S n M Q) (kf : ¬ P → ew_X k nx L S n M Q) : ew_X k pc L ((1, y) :: (1, x) :: S) n M Q :=
  ew_X.step ((ew_stp_of hc h0 L _ n M).trans (by simp only [ew_stI]; rw [ew_lcmp_of rx ry])) (xr_if hP hc h kt kf)

theorem xr_icmp_eq {of x y : Int} (hc : ew_cod k = C) (h : ew_lk C pc = some (.if_icmp .eq of, nx, a, b, z)) (rx : ew_in x) (ry : ew_in y) (kt : x = y → ew_X k a L S n M Q) (kf : ¬ x = y → ew_X k nx L S n M Q) : ew_X k pc L ((0, y) :: (0, x) :: S) n M Q := xr_icmp (P := x = y) (ew_cn_eq rx ry) hc h kt (fun q => kf (by omega))
theorem xr_if_eq {of x : Int} (hc : ew_cod k = C) (h : ew_lk C pc = some (.ifCond .eq of, nx, a, b, z)) (rx : ew_in x) (kt : x = 0 → ew_X k a L S n M Q) (kf : ¬ x = 0 → ew_X k nx L S n M Q) : ew_X k pc L ((0, x) :: S) n M Q := xr_if (P := x = 0) (ew_cn_eq rx ew_0_in) hc h kt (fun q => kf (by omega))
theorem xr_l_eq {of x y : Int} {nx0 a0 b0 : Nat} {z0 : Int} (hc : ew_cod k = C) (h0 : ew_lk C pc = some (.lcmp, nx0, a0, b0, z0)) (h : ew_lk C nx0 = some (.ifCond .eq of, nx, a, b, z)) (rx : ew_inl x) (ry : ew_inl y) (kt : x = y → ew_X k a L S n M Q) (kf : ¬ x = y → ew_X k nx L S n M Q) : ew_X k pc L ((1, y) :: (1, x) :: S) n M Q := by
  refine xr_lcmp (P := x = y) rx ry ?_ hc h0 h kt (fun q => kf (by omega))
  rw [ew_cn_eq (ew_sg_in x y) ew_0_in]
  by_cases h1 : y < x
  · rw [if_pos h1]; omega
  · rw [if_neg h1]
    by_cases h2 : x = y
    · rw [if_pos h2]; omega
    · rw [if_neg h2]; omega
theorem xr_icmp_ne {of x y : Int} (hc : ew_cod k = C) (h : ew_lk C pc = some (.if_icmp .ne of, nx, a, b, z)) (rx : ew_in x) (ry : ew_in y) (kt : ¬ x = y → ew_X k a L S n M Q) (kf : x = y → ew_X k nx L S n M Q) : ew_X k pc L ((0, y) :: (0, x) :: S) n M Q := xr_icmp (P := x ≠ y) (ew_cn_ne rx ry) hc h kt (fun q => kf (by omega))
theorem xr_if_ne {of x : Int} (hc : ew_cod k = C) (h : ew_lk C pc = some (.ifCond .ne of, nx, a, b, z)) (rx : ew_in x) (kt : ¬ x = 0 → ew_X k a L S n M Q) (kf : x = 0 → ew_X k nx L S n M Q) : ew_X k pc L ((0, x) :: S) n M Q := xr_if (P := x ≠ 0) (ew_cn_ne rx ew_0_in) hc h kt (fun q => kf (by omega))
theorem xr_l_ne {of x y : Int} {nx0 a0 b0 : Nat} {z0 : Int} (hc : ew_cod k = C) (h0 : ew_lk C pc = some (.lcmp, nx0, a0, b0, z0)) (h : ew_lk C nx0 = some (.ifCond .ne of, nx, a, b, z)) (rx : ew_inl x) (ry : ew_inl y) (kt : ¬ x = y → ew_X k a L S n M Q) (kf : x = y → ew_X k nx L S n M Q) : ew_X k pc L ((1, y) :: (1, x) :: S) n M Q := by
  refine xr_lcmp (P := x ≠ y) rx ry ?_ hc h0 h kt (fun q => kf (by omega))
  rw [ew_cn_ne (ew_sg_in x y) ew_0_in]
  by_cases h1 : y < x
  · rw [if_pos h1]; omega
  · rw [if_neg h1]
    by_cases h2 : x = y
    · rw [if_pos h2]; omega
    · rw [if_neg h2]; omega
theorem xr_icmp_lt {of x y : Int} (hc : ew_cod k = C) (h : ew_lk C pc = some (.if_icmp .lt of, nx, a, b, z)) (rx : ew_in x) (ry : ew_in y) (kt : x < y → ew_X k a L S n M Q) (kf : y ≤ x → ew_X k nx L S n M Q) : ew_X k pc L ((0, y) :: (0, x) :: S) n M Q := xr_icmp (P := x < y) (ew_cn_lt rx ry) hc h kt (fun q => kf (by omega))
theorem xr_if_lt {of x : Int} (hc : ew_cod k = C) (h : ew_lk C pc = some (.ifCond .lt of, nx, a, b, z)) (rx : ew_in x) (kt : x < 0 → ew_X k a L S n M Q) (kf : 0 ≤ x → ew_X k nx L S n M Q) : ew_X k pc L ((0, x) :: S) n M Q := xr_if (P := x < 0) (ew_cn_lt rx ew_0_in) hc h kt (fun q => kf (by omega))
theorem xr_l_lt {of x y : Int} {nx0 a0 b0 : Nat} {z0 : Int} (hc : ew_cod k = C) (h0 : ew_lk C pc = some (.lcmp, nx0, a0, b0, z0)) (h : ew_lk C nx0 = some (.ifCond .lt of, nx, a, b, z)) (rx : ew_inl x) (ry : ew_inl y) (kt : x < y → ew_X k a L S n M Q) (kf : y ≤ x → ew_X k nx L S n M Q) : ew_X k pc L ((1, y) :: (1, x) :: S) n M Q := by
  refine xr_lcmp (P := x < y) rx ry ?_ hc h0 h kt (fun q => kf (by omega))
  rw [ew_cn_lt (ew_sg_in x y) ew_0_in]
  by_cases h1 : y < x
  · rw [if_pos h1]; omega
  · rw [if_neg h1]
    by_cases h2 : x = y
    · rw [if_pos h2]; omega
    · rw [if_neg h2]; omega
theorem xr_icmp_ge {of x y : Int} (hc : ew_cod k = C) (h : ew_lk C pc = some (.if_icmp .ge of, nx, a, b, z)) (rx : ew_in x) (ry : ew_in y) (kt : y ≤ x → ew_X k a L S n M Q) (kf : x < y → ew_X k nx L S n M Q) : ew_X k pc L ((0, y) :: (0, x) :: S) n M Q := xr_icmp (P := y ≤ x) (ew_cn_ge rx ry) hc h kt (fun q => kf (by omega))
theorem xr_if_ge {of x : Int} (hc : ew_cod k = C) (h : ew_lk C pc = some (.ifCond .ge of, nx, a, b, z)) (rx : ew_in x) (kt : 0 ≤ x → ew_X k a L S n M Q) (kf : x < 0 → ew_X k nx L S n M Q) : ew_X k pc L ((0, x) :: S) n M Q := xr_if (P := 0 ≤ x) (ew_cn_ge rx ew_0_in) hc h kt (fun q => kf (by omega))
theorem xr_l_ge {of x y : Int} {nx0 a0 b0 : Nat} {z0 : Int} (hc : ew_cod k = C) (h0 : ew_lk C pc = some (.lcmp, nx0, a0, b0, z0)) (h : ew_lk C nx0 = some (.ifCond .ge of, nx, a, b, z)) (rx : ew_inl x) (ry : ew_inl y) (kt : y ≤ x → ew_X k a L S n M Q) (kf : x < y → ew_X k nx L S n M Q) : ew_X k pc L ((1, y) :: (1, x) :: S) n M Q := by
  refine xr_lcmp (P := y ≤ x) rx ry ?_ hc h0 h kt (fun q => kf (by omega))
  rw [ew_cn_ge (ew_sg_in x y) ew_0_in]
  by_cases h1 : y < x
  · rw [if_pos h1]; omega
  · rw [if_neg h1]
    by_cases h2 : x = y
    · rw [if_pos h2]; omega
    · rw [if_neg h2]; omega
theorem xr_icmp_gt {of x y : Int} (hc : ew_cod k = C) (h : ew_lk C pc = some (.if_icmp .gt of, nx, a, b, z)) (rx : ew_in x) (ry : ew_in y) (kt : y < x → ew_X k a L S n M Q) (kf : x ≤ y → ew_X k nx L S n M Q) : ew_X k pc L ((0, y) :: (0, x) :: S) n M Q := xr_icmp (P := y < x) (ew_cn_gt rx ry) hc h kt (fun q => kf (by omega))
theorem xr_if_gt {of x : Int} (hc : ew_cod k = C) (h : ew_lk C pc = some (.ifCond .gt of, nx, a, b, z)) (rx : ew_in x) (kt : 0 < x → ew_X k a L S n M Q) (kf : x ≤ 0 → ew_X k nx L S n M Q) : ew_X k pc L ((0, x) :: S) n M Q := xr_if (P := 0 < x) (ew_cn_gt rx ew_0_in) hc h kt (fun q => kf (by omega))
theorem xr_l_gt {of x y : Int} {nx0 a0 b0 : Nat} {z0 : Int} (hc : ew_cod k = C) (h0 : ew_lk C pc = some (.lcmp, nx0, a0, b0, z0)) (h : ew_lk C nx0 = some (.ifCond .gt of, nx, a, b, z)) (rx : ew_inl x) (ry : ew_inl y) (kt : y < x → ew_X k a L S n M Q) (kf : x ≤ y → ew_X k nx L S n M Q) : ew_X k pc L ((1, y) :: (1, x) :: S) n M Q := by
  refine xr_lcmp (P := y < x) rx ry ?_ hc h0 h kt (fun q => kf (by omega))
  rw [ew_cn_gt (ew_sg_in x y) ew_0_in]
  by_cases h1 : y < x
  · rw [if_pos h1]; omega
  · rw [if_neg h1]
    by_cases h2 : x = y
    · rw [if_pos h2]; omega
    · rw [if_neg h2]; omega
theorem xr_icmp_le {of x y : Int} (hc : ew_cod k = C) (h : ew_lk C pc = some (.if_icmp .le of, nx, a, b, z)) (rx : ew_in x) (ry : ew_in y) (kt : x ≤ y → ew_X k a L S n M Q) (kf : y < x → ew_X k nx L S n M Q) : ew_X k pc L ((0, y) :: (0, x) :: S) n M Q := xr_icmp (P := x ≤ y) (ew_cn_le rx ry) hc h kt (fun q => kf (by omega))
theorem xr_if_le {of x : Int} (hc : ew_cod k = C) (h : ew_lk C pc = some (.ifCond .le of, nx, a, b, z)) (rx : ew_in x) (kt : x ≤ 0 → ew_X k a L S n M Q) (kf : 0 < x → ew_X k nx L S n M Q) : ew_X k pc L ((0, x) :: S) n M Q := xr_if (P := x ≤ 0) (ew_cn_le rx ew_0_in) hc h kt (fun q => kf (by omega))
theorem xr_l_le {of x y : Int} {nx0 a0 b0 : Nat} {z0 : Int} (hc : ew_cod k = C) (h0 : ew_lk C pc = some (.lcmp, nx0, a0, b0, z0)) (h : ew_lk C nx0 = some (.ifCond .le of, nx, a, b, z)) (rx : ew_inl x) (ry : ew_inl y) (kt : x ≤ y → ew_X k a L S n M Q) (kf : y < x → ew_X k nx L S n M Q) : ew_X k pc L ((1, y) :: (1, x) :: S) n M Q := by
  refine xr_lcmp (P := x ≤ y) rx ry ?_ hc h0 h kt (fun q => kf (by omega))
  rw [ew_cn_le (ew_sg_in x y) ew_0_in]
  by_cases h1 : y < x
  · rw [if_pos h1]; omega
  · rw [if_neg h1]
    by_cases h2 : x = y
    · rw [if_pos h2]; omega
    · rw [if_neg h2]; omega
theorem xr_s1_0 {old v : ew_AV} {r : List ew_AV} (hc : ew_cod k = C) (h : ew_lk C pc = some (ins, nx, a, b, z)) (hs : ew_stI k pc ins nx a b z (old :: r) (v :: S) n M = some (.inl (nx, ew_st1 (old :: r) 0 v, S, n, M))) (hk : ew_kl (old :: r) 0 = old :: r) (kk : ew_X k nx (v :: r) S n M Q) : ew_X k pc (old :: r) (v :: S) n M Q :=
  ew_X.step ((ew_stp_of hc h _ _ n M).trans (hs.trans (by rw [ew_st1, hk]; rfl))) kk
theorem xr_s2_0 {old old2 v : ew_AV} {r : List ew_AV} (hc : ew_cod k = C) (h : ew_lk C pc = some (ins, nx, a, b, z)) (hs : ew_stI k pc ins nx a b z (old :: old2 :: r) (v :: S) n M = some (.inl (nx, ew_st2 (old :: old2 :: r) 0 v, S, n, M))) (hk : ew_kl (old :: old2 :: r) 0 = old :: old2 :: r) (kk : ew_X k nx (v :: (5, 0) :: r) S n M Q) : ew_X k pc (old :: old2 :: r) (v :: S) n M Q :=
  ew_X.step ((ew_stp_of hc h _ _ n M).trans (hs.trans (by rw [ew_st2, hk]; rfl))) kk
theorem xr_inc_0 {u : Unit} {x c : Int} {r : List ew_AV} (hc : ew_cod k = C) (h : ew_lk C pc = some (.iinc 0 c, nx, a, b, z)) (kk : ew_X k nx ((0, x + c) :: r) S n M Q) : ew_X k pc ((0, x) :: r) S n M Q :=
  ew_X.step ((ew_stp_of hc h _ _ n M).trans rfl) kk
theorem xr_s1_1 {l0 old v : ew_AV} {r : List ew_AV} (hc : ew_cod k = C) (h : ew_lk C pc = some (ins, nx, a, b, z)) (hs : ew_stI k pc ins nx a b z (l0 :: old :: r) (v :: S) n M = some (.inl (nx, ew_st1 (l0 :: old :: r) 1 v, S, n, M))) (hk : ew_kl (l0 :: old :: r) 1 = l0 :: old :: r) (kk : ew_X k nx (l0 :: v :: r) S n M Q) : ew_X k pc (l0 :: old :: r) (v :: S) n M Q :=
  ew_X.step ((ew_stp_of hc h _ _ n M).trans (hs.trans (by rw [ew_st1, hk]; rfl))) kk
theorem xr_s2_1 {l0 old old2 v : ew_AV} {r : List ew_AV} (hc : ew_cod k = C) (h : ew_lk C pc = some (ins, nx, a, b, z)) (hs : ew_stI k pc ins nx a b z (l0 :: old :: old2 :: r) (v :: S) n M = some (.inl (nx, ew_st2 (l0 :: old :: old2 :: r) 1 v, S, n, M))) (hk : ew_kl (l0 :: old :: old2 :: r) 1 = l0 :: old :: old2 :: r) (kk : ew_X k nx (l0 :: v :: (5, 0) :: r) S n M Q) : ew_X k pc (l0 :: old :: old2 :: r) (v :: S) n M Q :=
  ew_X.step ((ew_stp_of hc h _ _ n M).trans (hs.trans (by rw [ew_st2, hk]; rfl))) kk
theorem xr_inc_1 {l0 : ew_AV} {x c : Int} {r : List ew_AV} (hc : ew_cod k = C) (h : ew_lk C pc = some (.iinc 1 c, nx, a, b, z)) (kk : ew_X k nx (l0 :: (0, x + c) :: r) S n M Q) : ew_X k pc (l0 :: (0, x) :: r) S n M Q :=
  ew_X.step ((ew_stp_of hc h _ _ n M).trans rfl) kk
theorem xr_s1_2 {l0 l1 old v : ew_AV} {r : List ew_AV} (hc : ew_cod k = C) (h : ew_lk C pc = some (ins, nx, a, b, z)) (hs : ew_stI k pc ins nx a b z (l0 :: l1 :: old :: r) (v :: S) n M = some (.inl (nx, ew_st1 (l0 :: l1 :: old :: r) 2 v, S, n, M))) (hk : ew_kl (l0 :: l1 :: old :: r) 2 = l0 :: l1 :: old :: r) (kk : ew_X k nx (l0 :: l1 :: v :: r) S n M Q) : ew_X k pc (l0 :: l1 :: old :: r) (v :: S) n M Q :=
  ew_X.step ((ew_stp_of hc h _ _ n M).trans (hs.trans (by rw [ew_st1, hk]; rfl))) kk
theorem xr_s2_2 {l0 l1 old old2 v : ew_AV} {r : List ew_AV} (hc : ew_cod k = C) (h : ew_lk C pc = some (ins, nx, a, b, z)) (hs : ew_stI k pc ins nx a b z (l0 :: l1 :: old :: old2 :: r) (v :: S) n M = some (.inl (nx, ew_st2 (l0 :: l1 :: old :: old2 :: r) 2 v, S, n, M))) (hk : ew_kl (l0 :: l1 :: old :: old2 :: r) 2 = l0 :: l1 :: old :: old2 :: r) (kk : ew_X k nx (l0 :: l1 :: v :: (5, 0) :: r) S n M Q) : ew_X k pc (l0 :: l1 :: old :: old2 :: r) (v :: S) n M Q :=
  ew_X.step ((ew_stp_of hc h _ _ n M).trans (hs.trans (by rw [ew_st2, hk]; rfl))) kk
theorem xr_inc_2 {l0 l1 : ew_AV} {x c : Int} {r : List ew_AV} (hc : ew_cod k = C) (h : ew_lk C pc = some (.iinc 2 c, nx, a, b, z)) (kk : ew_X k nx (l0 :: l1 :: (0, x + c) :: r) S n M Q) : ew_X k pc (l0 :: l1 :: (0, x) :: r) S n M Q :=
  ew_X.step ((ew_stp_of hc h _ _ n M).trans rfl) kk
theorem xr_s1_3 {l0 l1 l2 old v : ew_AV} {r : List ew_AV} (hc : ew_cod k = C) (h : ew_lk C pc = some (ins, nx, a, b, z)) (hs : ew_stI k pc ins nx a b z (l0 :: l1 :: l2 :: old :: r) (v :: S) n M = some (.inl (nx, ew_st1 (l0 :: l1 :: l2 :: old :: r) 3 v, S, n, M))) (hk : ew_kl (l0 :: l1 :: l2 :: old :: r) 3 = l0 :: l1 :: l2 :: old :: r) (kk : ew_X k nx (l0 :: l1 :: l2 :: v :: r) S n M Q) : ew_X k pc (l0 :: l1 :: l2 :: old :: r) (v :: S) n M Q :=
  ew_X.step ((ew_stp_of hc h _ _ n M).trans (hs.trans (by rw [ew_st1, hk]; rfl))) kk
theorem xr_s2_3 {l0 l1 l2 old old2 v : ew_AV} {r : List ew_AV} (hc : ew_cod k = C) (h : ew_lk C pc = some (ins, nx, a, b, z)) (hs : ew_stI k pc ins nx a b z (l0 :: l1 :: l2 :: old :: old2 :: r) (v :: S) n M = some (.inl (nx, ew_st2 (l0 :: l1 :: l2 :: old :: old2 :: r) 3 v, S, n, M))) (hk : ew_kl (l0 :: l1 :: l2 :: old :: old2 :: r) 3 = l0 :: l1 :: l2 :: old :: old2 :: r) (kk : ew_X k nx (l0 :: l1 :: l2 :: v :: (5, 0) :: r) S n M Q) : ew_X k pc (l0 :: l1 :: l2 :: old :: old2 :: r) (v :: S) n M Q :=
  ew_X.step ((ew_stp_of hc h _ _ n M).trans (hs.trans (by rw [ew_st2, hk]; rfl))) kk
theorem xr_inc_3 {l0 l1 l2 : ew_AV} {x c : Int} {r : List ew_AV} (hc : ew_cod k = C) (h : ew_lk C pc = some (.iinc 3 c, nx, a, b, z)) (kk : ew_X k nx (l0 :: l1 :: l2 :: (0, x + c) :: r) S n M Q) : ew_X k pc (l0 :: l1 :: l2 :: (0, x) :: r) S n M Q :=
  ew_X.step ((ew_stp_of hc h _ _ n M).trans rfl) kk
theorem xr_s1_4 {l0 l1 l2 l3 old v : ew_AV} {r : List ew_AV} (hc : ew_cod k = C) (h : ew_lk C pc = some (ins, nx, a, b, z)) (hs : ew_stI k pc ins nx a b z (l0 :: l1 :: l2 :: l3 :: old :: r) (v :: S) n M = some (.inl (nx, ew_st1 (l0 :: l1 :: l2 :: l3 :: old :: r) 4 v, S, n, M))) (hk : ew_kl (l0 :: l1 :: l2 :: l3 :: old :: r) 4 = l0 :: l1 :: l2 :: l3 :: old :: r) (kk : ew_X k nx (l0 :: l1 :: l2 :: l3 :: v :: r) S n M Q) : ew_X k pc (l0 :: l1 :: l2 :: l3 :: old :: r) (v :: S) n M Q :=
  ew_X.step ((ew_stp_of hc h _ _ n M).trans (hs.trans (by rw [ew_st1, hk]; rfl))) kk
theorem xr_s2_4 {l0 l1 l2 l3 old old2 v : ew_AV} {r : List ew_AV} (hc : ew_cod k = C) (h : ew_lk C pc = some (ins, nx, a, b, z)) (hs : ew_stI k pc ins nx a b z (l0 :: l1 :: l2 :: l3 :: old :: old2 :: r) (v :: S) n M = some (.inl (nx, ew_st2 (l0 :: l1 :: l2 :: l3 :: old :: old2 :: r) 4 v, S, n, M))) (hk : ew_kl (l0 :: l1 :: l2 :: l3 :: old :: old2 :: r) 4 = l0 :: l1 :: l2 :: l3 :: old :: old2 :: r) (kk : ew_X k nx (l0 :: l1 :: l2 :: l3 :: v :: (5, 0) :: r) S n M Q) : ew_X k pc (l0 :: l1 :: l2 :: l3 :: old :: old2 :: r) (v :: S) n M Q :=
  ew_X.step ((ew_stp_of hc h _ _ n M).trans (hs.trans (by rw [ew_st2, hk]; rfl))) kk
theorem xr_inc_4 {l0 l1 l2 l3 : ew_AV} {x c : Int} {r : List ew_AV} (hc : ew_cod k = C) (h : ew_lk C pc = some (.iinc 4 c, nx, a, b, z)) (kk : ew_X k nx (l0 :: l1 :: l2 :: l3 :: (0, x + c) :: r) S n M Q) : ew_X k pc (l0 :: l1 :: l2 :: l3 :: (0, x) :: r) S n M Q :=
  ew_X.step ((ew_stp_of hc h _ _ n M).trans rfl) kk
theorem xr_s1_5 {l0 l1 l2 l3 l4 old v : ew_AV} {r : List ew_AV} (hc : ew_cod k = C) (h : ew_lk C pc = some (ins, nx, a, b, z)) (hs : ew_stI k pc ins nx a b z (l0 :: l1 :: l2 :: l3 :: l4 :: old :: r) (v :: S) n M = some (.inl (nx, ew_st1 (l0 :: l1 :: l2 :: l3 :: l4 :: old :: r) 5 v, S, n, M))) (hk : ew_kl (l0 :: l1 :: l2 :: l3 :: l4 :: old :: r) 5 = l0 :: l1 :: l2 :: l3 :: l4 :: old :: r) (kk : ew_X k nx (l0 :: l1 :: l2 :: l3 :: l4 :: v :: r) S n M Q) : ew_X k pc (l0 :: l1 :: l2 :: l3 :: l4 :: old :: r) (v :: S) n M Q :=
  ew_X.step ((ew_stp_of hc h _ _ n M).trans (hs.trans (by rw [ew_st1, hk]; rfl))) kk
theorem xr_s2_5 {l0 l1 l2 l3 l4 old old2 v : ew_AV} {r : List ew_AV} (hc : ew_cod k = C) (h : ew_lk C pc = some (ins, nx, a, b, z)) (hs : ew_stI k pc ins nx a b z (l0 :: l1 :: l2 :: l3 :: l4 :: old :: old2 :: r) (v :: S) n M = some (.inl (nx, ew_st2 (l0 :: l1 :: l2 :: l3 :: l4 :: old :: old2 :: r) 5 v, S, n, M))) (hk : ew_kl (l0 :: l1 :: l2 :: l3 :: l4 :: old :: old2 :: r) 5 = l0 :: l1 :: l2 :: l3 :: l4 :: old :: old2 :: r) (kk : ew_X k nx (l0 :: l1 :: l2 :: l3 :: l4 :: v :: (5, 0) :: r) S n M Q) : ew_X k pc (l0 :: l1 :: l2 :: l3 :: l4 :: old :: old2 :: r) (v :: S) n M Q :=
  ew_X.step ((ew_stp_of hc h _ _ n M).trans (hs.trans (by rw [ew_st2, hk]; rfl))) kk
theorem xr_inc_5 {l0 l1 l2 l3 l4 : ew_AV} {x c : Int} {r : List ew_AV} (hc : ew_cod k = C) (h : ew_lk C pc = some (.iinc 5 c, nx, a, b, z)) (kk : ew_X k nx (l0 :: l1 :: l2 :: l3 :: l4 :: (0, x + c) :: r) S n M Q) : ew_X k pc (l0 :: l1 :: l2 :: l3 :: l4 :: (0, x) :: r) S n M Q :=
  ew_X.step ((ew_stp_of hc h _ _ n M).trans rfl) kk
theorem xr_s1_6 {l0 l1 l2 l3 l4 l5 old v : ew_AV} {r : List ew_AV} (hc : ew_cod k = C) (h : ew_lk C pc = some (ins, nx, a, b, z)) (hs : ew_stI k pc ins nx a b z (l0 :: l1 :: l2 :: l3 :: l4 :: l5 :: old :: r) (v :: S) n M = some (.inl (nx, ew_st1 (l0 :: l1 :: l2 :: l3 :: l4 :: l5 :: old :: r) 6 v, S, n, M))) (hk : ew_kl (l0 :: l1 :: l2 :: l3 :: l4 :: l5 :: old :: r) 6 = l0 :: l1 :: l2 :: l3 :: l4 :: l5 :: old :: r) (kk : ew_X k nx (l0 :: l1 :: l2 :: l3 :: l4 :: l5 :: v :: r) S n M Q) : ew_X k pc (l0 :: l1 :: l2 :: l3 :: l4 :: l5 :: old :: r) (v :: S) n M Q :=
  ew_X.step ((ew_stp_of hc h _ _ n M).trans (hs.trans (by rw [ew_st1, hk]; rfl))) kk
theorem xr_s2_6 {l0 l1 l2 l3 l4 l5 old old2 v : ew_AV} {r : List ew_AV} (hc : ew_cod k = C) (h : ew_lk C pc = some (ins, nx, a, b, z)) (hs : ew_stI k pc ins nx a b z (l0 :: l1 :: l2 :: l3 :: l4 :: l5 :: old :: old2 :: r) (v :: S) n M = some (.inl (nx, ew_st2 (l0 :: l1 :: l2 :: l3 :: l4 :: l5 :: old :: old2 :: r) 6 v, S, n, M))) (hk : ew_kl (l0 :: l1 :: l2 :: l3 :: l4 :: l5 :: old :: old2 :: r) 6 = l0 :: l1 :: l2 :: l3 :: l4 :: l5 :: old :: old2 :: r) (kk : ew_X k nx (l0 :: l1 :: l2 :: l3 :: l4 :: l5 :: v :: (5, 0) :: r) S n M Q) : ew_X k pc (l0 :: l1 :: l2 :: l3 :: l4 :: l5 :: old :: old2 :: r) (v :: S) n M Q :=
  ew_X.step ((ew_stp_of hc h _ _ n M).trans (hs.trans (by rw [ew_st2, hk]; rfl))) kk
theorem xr_inc_6 {l0 l1 l2 l3 l4 l5 : ew_AV} {x c : Int} {r : List ew_AV} (hc : ew_cod k = C) (h : ew_lk C pc = some (.iinc 6 c, nx, a, b, z)) (kk : ew_X k nx (l0 :: l1 :: l2 :: l3 :: l4 :: l5 :: (0, x + c) :: r) S n M Q) : ew_X k pc (l0 :: l1 :: l2 :: l3 :: l4 :: l5 :: (0, x) :: r) S n M Q :=
  ew_X.step ((ew_stp_of hc h _ _ n M).trans rfl) kk
theorem xr_s1_7 {l0 l1 l2 l3 l4 l5 l6 old v : ew_AV} {r : List ew_AV} (hc : ew_cod k = C) (h : ew_lk C pc = some (ins, nx, a, b, z)) (hs : ew_stI k pc ins nx a b z (l0 :: l1 :: l2 :: l3 :: l4 :: l5 :: l6 :: old :: r) (v :: S) n M = some (.inl (nx, ew_st1 (l0 :: l1 :: l2 :: l3 :: l4 :: l5 :: l6 :: old :: r) 7 v, S, n, M))) (hk : ew_kl (l0 :: l1 :: l2 :: l3 :: l4 :: l5 :: l6 :: old :: r) 7 = l0 :: l1 :: l2 :: l3 :: l4 :: l5 :: l6 :: old :: r) (kk : ew_X k nx (l0 :: l1 :: l2 :: l3 :: l4 :: l5 :: l6 :: v :: r) S n M Q) : ew_X k pc (l0 :: l1 :: l2 :: l3 :: l4 :: l5 :: l6 :: old :: r) (v :: S) n M Q :=
  ew_X.step ((ew_stp_of hc h _ _ n M).trans (hs.trans (by rw [ew_st1, hk]; rfl))) kk
theorem xr_s2_7 {l0 l1 l2 l3 l4 l5 l6 old old2 v : ew_AV} {r : List ew_AV} (hc : ew_cod k = C) (h : ew_lk C pc = some (ins, nx, a, b, z)) (hs : ew_stI k pc ins nx a b z (l0 :: l1 :: l2 :: l3 :: l4 :: l5 :: l6 :: old :: old2 :: r) (v :: S) n M = some (.inl (nx, ew_st2 (l0 :: l1 :: l2 :: l3 :: l4 :: l5 :: l6 :: old :: old2 :: r) 7 v, S, n, M))) (hk : ew_kl (l0 :: l1 :: l2 :: l3 :: l4 :: l5 :: l6 :: old :: old2 :: r) 7 = l0 :: l1 :: l2 :: l3 :: l4 :: l5 :: l6 :: old :: old2 :: r) (kk : ew_X k nx (l0 :: l1 :: l2 :: l3 :: l4 :: l5 :: l6 :: v :: (5, 0) :: r) S n M Q) : ew_X k pc (l0 :: l1 :: l2 :: l3 :: l4 :: l5 :: l6 :: old :: old2 :: r) (v :: S) n M Q :=
  ew_X.step ((ew_stp_of hc h _ _ n M).trans (hs.trans (by rw [ew_st2, hk]; rfl))) kk
theorem xr_inc_7 {l0 l1 l2 l3 l4 l5 l6 : ew_AV} {x c : Int} {r : List ew_AV} (hc : ew_cod k = C) (h : ew_lk C pc = some (.iinc 7 c, nx, a, b, z)) (kk : ew_X k nx (l0 :: l1 :: l2 :: l3 :: l4 :: l5 :: l6 :: (0, x + c) :: r) S n M Q) : ew_X k pc (l0 :: l1 :: l2 :: l3 :: l4 :: l5 :: l6 :: (0, x) :: r) S n M Q :=
  ew_X.step ((ew_stp_of hc h _ _ n M).trans rfl) kk
theorem xr_s1_8 {l0 l1 l2 l3 l4 l5 l6 l7 old v : ew_AV} {r : List ew_AV} (hc : ew_cod k = C) (h : ew_lk C pc = some (ins, nx, a, b, z)) (hs : ew_stI k pc ins nx a b z (l0 :: l1 :: l2 :: l3 :: l4 :: l5 :: l6 :: l7 :: old :: r) (v :: S) n M = some (.inl (nx, ew_st1 (l0 :: l1 :: l2 :: l3 :: l4 :: l5 :: l6 :: l7 :: old :: r) 8 v, S, n, M))) (hk : ew_kl (l0 :: l1 :: l2 :: l3 :: l4 :: l5 :: l6 :: l7 :: old :: r) 8 = l0 :: l1 :: l2 :: l3 :: l4 :: l5 :: l6 :: l7 :: old :: r) (kk : ew_X k nx (l0 :: l1 :: l2 :: l3 :: l4 :: l5 :: l6 :: l7 :: v :: r) S n M Q) : ew_X k pc (l0 :: l1 :: l2 :: l3 :: l4 :: l5 :: l6 :: l7 :: old :: r) (v :: S) n M Q :=
  ew_X.step ((ew_stp_of hc h _ _ n M).trans (hs.trans (by rw [ew_st1, hk]; rfl))) kk
theorem xr_s2_8 {l0 l1 l2 l3 l4 l5 l6 l7 old old2 v : ew_AV} {r : List ew_AV} (hc : ew_cod k = C) (h : ew_lk C pc = some (ins, nx, a, b, z)) (hs : ew_stI k pc ins nx a b z (l0 :: l1 :: l2 :: l3 :: l4 :: l5 :: l6 :: l7 :: old :: old2 :: r) (v :: S) n M = some (.inl (nx, ew_st2 (l0 :: l1 :: l2 :: l3 :: l4 :: l5 :: l6 :: l7 :: old :: old2 :: r) 8 v, S, n, M))) (hk : ew_kl (l0 :: l1 :: l2 :: l3 :: l4 :: l5 :: l6 :: l7 :: old :: old2 :: r) 8 = l0 :: l1 :: l2 :: l3 :: l4 :: l5 :: l6 :: l7 :: old :: old2 :: r) (kk : ew_X k nx (l0 :: l1 :: l2 :: l3 :: l4 :: l5 :: l6 :: l7 :: v :: (5, 0) :: r) S n M Q) : ew_X k pc (l0 :: l1 :: l2 :: l3 :: l4 :: l5 :: l6 :: l7 :: old :: old2 :: r) (v :: S) n M Q :=
  ew_X.step ((ew_stp_of hc h _ _ n M).trans (hs.trans (by rw [ew_st2, hk]; rfl))) kk
theorem xr_inc_8 {l0 l1 l2 l3 l4 l5 l6 l7 : ew_AV} {x c : Int} {r : List ew_AV} (hc : ew_cod k = C) (h : ew_lk C pc = some (.iinc 8 c, nx, a, b, z)) (kk : ew_X k nx (l0 :: l1 :: l2 :: l3 :: l4 :: l5 :: l6 :: l7 :: (0, x + c) :: r) S n M Q) : ew_X k pc (l0 :: l1 :: l2 :: l3 :: l4 :: l5 :: l6 :: l7 :: (0, x) :: r) S n M Q :=
  ew_X.step ((ew_stp_of hc h _ _ n M).trans rfl) kk
theorem xr_s1_9 {l0 l1 l2 l3 l4 l5 l6 l7 l8 old v : ew_AV} {r : List ew_AV} (hc : ew_cod k = C) (h : ew_lk C pc = some (ins, nx, a, b, z)) (hs : ew_stI k pc ins nx a b z (l0 :: l1 :: l2 :: l3 :: l4 :: l5 :: l6 :: l7 :: l8 :: old :: r) (v :: S) n M = some (.inl (nx, ew_st1 (l0 :: l1 :: l2 :: l3 :: l4 :: l5 :: l6 :: l7 :: l8 :: old :: r) 9 v, S, n, M))) (hk : ew_kl (l0 :: l1 :: l2 :: l3 :: l4 :: l5 :: l6 :: l7 :: l8 :: old :: r) 9 = l0 :: l1 :: l2 :: l3 :: l4 :: l5 :: l6 :: l7 :: l8 :: old :: r) (kk : ew_X k nx (l0 :: l1 :: l2 :: l3 :: l4 :: l5 :: l6 :: l7 :: l8 :: v :: r) S n M Q) : ew_X k pc (l0 :: l1 :: l2 :: l3 :: l4 :: l5 :: l6 :: l7 :: l8 :: old :: r) (v :: S) n M Q :=
  ew_X.step ((ew_stp_of hc h _ _ n M).trans (hs.trans (by rw [ew_st1, hk]; rfl))) kk
theorem xr_s2_9 {l0 l1 l2 l3 l4 l5 l6 l7 l8 old old2 v : ew_AV} {r : List ew_AV} (hc : ew_cod k = C) (h : ew_lk C pc = some (ins, nx, a, b, z)) (hs : ew_stI k pc ins nx a b z (l0 :: l1 :: l2 :: l3 :: l4 :: l5 :: l6 :: l7 :: l8 :: old :: old2 :: r) (v :: S) n M = some (.inl (nx, ew_st2 (l0 :: l1 :: l2 :: l3 :: l4 :: l5 :: l6 :: l7 :: l8 :: old :: old2 :: r) 9 v, S, n, M))) (hk : ew_kl (l0 :: l1 :: l2 :: l3 :: l4 :: l5 :: l6 :: l7 :: l8 :: old :: old2 :: r) 9 = l0 :: l1 :: l2 :: l3 :: l4 :: l5 :: l6 :: l7 :: l8 :: old :: old2 :: r) (kk : ew_X k nx (l0 :: l1 :: l2 :: l3 :: l4 :: l5 :: l6 :: l7 :: l8 :: v :: (5, 0) :: r) S n M Q) : ew_X k pc (l0 :: l1 :: l2 :: l3 :: l4 :: l5 :: l6 :: l7 :: l8 :: old :: old2 :: r) (v :: S) n M Q :=
  ew_X.step ((ew_stp_of hc h _ _ n M).trans (hs.trans (by rw [ew_st2, hk]; rfl))) kk
theorem xr_inc_9 {l0 l1 l2 l3 l4 l5 l6 l7 l8 : ew_AV} {x c : Int} {r : List ew_AV} (hc : ew_cod k = C) (h : ew_lk C pc = some (.iinc 9 c, nx, a, b, z)) (kk : ew_X k nx (l0 :: l1 :: l2 :: l3 :: l4 :: l5 :: l6 :: l7 :: l8 :: (0, x + c) :: r) S n M Q) : ew_X k pc (l0 :: l1 :: l2 :: l3 :: l4 :: l5 :: l6 :: l7 :: l8 :: (0, x) :: r) S n M Q :=
  ew_X.step ((ew_stp_of hc h _ _ n M).trans rfl) kk
theorem xr_s1_10 {l0 l1 l2 l3 l4 l5 l6 l7 l8 l9 old v : ew_AV} {r : List ew_AV} (hc : ew_cod k = C) (h : ew_lk C pc = some (ins, nx, a, b, z)) (hs : ew_stI k pc ins nx a b z (l0 :: l1 :: l2 :: l3 :: l4 :: l5 :: l6 :: l7 :: l8 :: l9 :: old :: r) (v :: S) n M = some (.inl (nx, ew_st1 (l0 :: l1 :: l2 :: l3 :: l4 :: l5 :: l6 :: l7 :: l8 :: l9 :: old :: r) 10 v, S, n, M))) (hk : ew_kl (l0 :: l1 :: l2 :: l3 :: l4 :: l5 :: l6 :: l7 :: l8 :: l9 :: old :: r) 10 = l0 :: l1 :: l2 :: l3 :: l4 :: l5 :: l6 :: l7 :: l8 :: l9 :: old :: r) (kk : ew_X k nx (l0 :: l1 :: l2 :: l3 :: l4 :: l5 :: l6 :: l7 :: l8 :: l9 :: v :: r) S n M Q) : ew_X k pc (l0 :: l1 :: l2 :: l3 :: l4 :: l5 :: l6 :: l7 :: l8 :: l9 :: old :: r) (v :: S) n M Q :=
  ew_X.step ((ew_stp_of hc h _ _ n M).trans (hs.trans (by rw [ew_st1, hk]; rfl))) kk
theorem xr_s2_10 {l0 l1 l2 l3 l4 l5 l6 l7 l8 l9 old old2 v : ew_AV} {r : List ew_AV} (hc : ew_cod k = C) (h : ew_lk C pc = some (ins, nx, a, b, z)) (hs : ew_stI k pc ins nx a b z (l0 :: l1 :: l2 :: l3 :: l4 :: l5 :: l6 :: l7 :: l8 :: l9 :: old :: old2 :: r) (v :: S) n M = some (.inl (nx, ew_st2 (l0 :: l1 :: l2 :: l3 :: l4 :: l5 :: l6 :: l7 :: l8 :: l9 :: old :: old2 :: r) 10 v, S, n, M))) (hk : ew_kl (l0 :: l1 :: l2 :: l3 :: l4 :: l5 :: l6 :: l7 :: l8 :: l9 :: old :: old2 :: r) 10 = l0 :: l1 :: l2 :: l3 :: l4 :: l5 :: l6 :: l7 :: l8 :: l9 :: old :: old2 :: r) (kk : ew_X k nx (l0 :: l1 :: l2 :: l3 :: l4 :: l5 :: l6 :: l7 :: l8 :: l9 :: v :: (5, 0) :: r) S n M Q) : ew_X k pc (l0 :: l1 :: l2 :: l3 :: l4 :: l5 :: l6 :: l7 :: l8 :: l9 :: old :: old2 :: r) (v :: S) n M Q :=
  ew_X.step ((ew_stp_of hc h _ _ n M).trans (hs.trans (by rw [ew_st2, hk]; rfl))) kk
theorem xr_inc_10 {l0 l1 l2 l3 l4 l5 l6 l7 l8 l9 : ew_AV} {x c : Int} {r : List ew_AV} (hc : ew_cod k = C) (h : ew_lk C pc = some (.iinc 10 c, nx, a, b, z)) (kk : ew_X k nx (l0 :: l1 :: l2 :: l3 :: l4 :: l5 :: l6 :: l7 :: l8 :: l9 :: (0, x + c) :: r) S n M Q) : ew_X k pc (l0 :: l1 :: l2 :: l3 :: l4 :: l5 :: l6 :: l7 :: l8 :: l9 :: (0, x) :: r) S n M Q :=
  ew_X.step ((ew_stp_of hc h _ _ n M).trans rfl) kk
theorem xr_s1_11 {l0 l1 l2 l3 l4 l5 l6 l7 l8 l9 l10 old v : ew_AV} {r : List ew_AV} (hc : ew_cod k = C) (h : ew_lk C pc = some (ins, nx, a, b, z)) (hs : ew_stI k pc ins nx a b z (l0 :: l1 :: l2 :: l3 :: l4 :: l5 :: l6 :: l7 :: l8 :: l9 :: l10 :: old :: r) (v :: S) n M = some (.inl (nx, ew_st1 (l0 :: l1 :: l2 :: l3 :: l4 :: l5 :: l6 :: l7 :: l8 :: l9 :: l10 :: old :: r) 11 v, S, n, M))) (hk : ew_kl (l0 :: l1 :: l2 :: l3 :: l4 :: l5 :: l6 :: l7 :: l8 :: l9 :: l10 :: old :: r) 11 = l0 :: l1 :: l2 :: l3 :: l4 :: l5 :: l6 :: l7 :: l8 :: l9 :: l10 :: old :: r) (kk : ew_X k nx (l0 :: l1 :: l2 :: l3 :: l4 :: l5 :: l6 :: l7 :: l8 :: l9 :: l10 :: v :: r) S n M Q) : ew_X k pc (l0 :: l1 :: l2 :: l3 :: l4 :: l5 :: l6 :: l7 :: l8 :: l9 :: l10 :: old :: r) (v :: S) n M Q :=
  ew_X.step ((ew_stp_of hc h _ _ n M).trans (hs.trans (by rw [ew_st1, hk]; rfl))) kk
theorem xr_s2_11 {l0 l1 l2 l3 l4 l5 l6 l7 l8 l9 l10 old old2 v : ew_AV} {r : List ew_AV} (hc : ew_cod k = C) (h : ew_lk C pc = some (ins, nx, a, b, z)) (hs : ew_stI k pc ins nx a b z (l0 :: l1 :: l2 :: l3 :: l4 :: l5 :: l6 :: l7 :: l8 :: l9 :: l10 :: old :: old2 :: r) (v :: S) n M = some (.inl (nx, ew_st2 (l0 :: l1 :: l2 :: l3 :: l4 :: l5 :: l6 :: l7 :: l8 :: l9 :: l10 :: old :: old2 :: r) 11 v, S, n, M))) (hk : ew_kl (l0 :: l1 :: l2 :: l3 :: l4 :: l5 :: l6 :: l7 :: l8 :: l9 :: l10 :: old :: old2 :: r) 11 = l0 :: l1 :: l2 :: l3 :: l4 :: l5 :: l6 :: l7 :: l8 :: l9 :: l10 :: old :: old2 :: r) (kk : ew_X k nx (l0 :: l1 :: l2 :: l3 :: l4 :: l5 :: l6 :: l7 :: l8 :: l9 :: l10 :: v :: (5, 0) :: r) S n M Q) : ew_X k pc (l0 :: l1 :: l2 :: l3 :: l4 :: l5 :: l6 :: l7 :: l8 :: l9 :: l10 :: old :: old2 :: r) (v :: S) n M Q :=
  ew_X.step ((ew_stp_of hc h _ _ n M).trans (hs.trans (by rw [ew_st2, hk]; rfl))) kk
theorem xr_inc_11 {l0 l1 l2 l3 l4 l5 l6 l7 l8 l9 l10 : ew_AV} {x c : Int} {r : List ew_AV} (hc : ew_cod k = C) (h : ew_lk C pc = some (.iinc 11 c, nx, a, b, z)) (kk : ew_X k nx (l0 :: l1 :: l2 :: l3 :: l4 :: l5 :: l6 :: l7 :: l8 :: l9 :: l10 :: (0, x + c) :: r) S n M Q) : ew_X k pc (l0 :: l1 :: l2 :: l3 :: l4 :: l5 :: l6 :: l7 :: l8 :: l9 :: l10 :: (0, x) :: r) S n M Q :=
  ew_X.step ((ew_stp_of hc h _ _ n M).trans rfl) kk
theorem xr_s1_12 {l0 l1 l2 l3 l4 l5 l6 l7 l8 l9 l10 l11 old v : ew_AV} {r : List ew_AV} (hc : ew_cod k = C) (h : ew_lk C pc = some (ins, nx, a, b, z)) (hs : ew_stI k pc ins nx a b z (l0 :: l1 :: l2 :: l3 :: l4 :: l5 :: l6 :: l7 :: l8 :: l9 :: l10 :: l11 :: old :: r) (v :: S) n M = some (.inl (nx, ew_st1 (l0 :: l1 :: l2 :: l3 :: l4 :: l5 :: l6 :: l7 :: l8 :: l9 :: l10 :: l11 :: old :: r) 12 v, S, n, M))) (hk : ew_kl (l0 :: l1 :: l2 :: l3 :: l4 :: l5 :: l6 :: l7 :: l8 :: l9 :: l10 :: l11 :: old :: r) 12 = l0 :: l1 :: l2 :: l3 :: l4 :: l5 :: l6 :: l7 :: l8 :: l9 :: l10 :: l11 :: old :: r) (kk : ew_X k nx (l0 :: l1 :: l2 :: l3 :: l4 :: l5 :: l6 :: l7 :: l8 :: l9 :: l10 :: l11 :: v :: r) S n M Q) : ew_X k pc (l0 :: l1 :: l2 :: l3 :: l4 :: l5 :: l6 :: l7 :: l8 :: l9 :: l10 :: l11 :: old :: r) (v :: S) n M Q :=
  ew_X.step ((ew_stp_of hc h _ _ n M).trans (hs.trans (by rw [ew_st1, hk]; rfl))) kk
theorem xr_s2_12 {l0 l1 l2 l3 l4 l5 l6 l7 l8 l9 l10 l11 old old2 v : ew_AV} {r : List ew_AV} (hc : ew_cod k = C) (h : ew_lk C pc = some (ins, nx, a, b, z)) (hs : ew_stI k pc ins nx a b z (l0 :: l1 :: l2 :: l3 :: l4 :: l5 :: l6 :: l7 :: l8 :: l9 :: l10 :: l11 :: old :: old2 :: r) (v :: S) n M = some (.inl (nx, ew_st2 (l0 :: l1 :: l2 :: l3 :: l4 :: l5 :: l6 :: l7 :: l8 :: l9 :: l10 :: l11 :: old :: old2 :: r) 12 v, S, n, M))) (hk : ew_kl (l0 :: l1 :: l2 :: l3 :: l4 :: l5 :: l6 :: l7 :: l8 :: l9 :: l10 :: l11 :: old :: old2 :: r) 12 = l0 :: l1 :: l2 :: l3 :: l4 :: l5 :: l6 :: l7 :: l8 :: l9 :: l10 :: l11 :: old :: old2 :: r) (kk : ew_X k nx (l0 :: l1 :: l2 :: l3 :: l4 :: l5 :: l6 :: l7 :: l8 :: l9 :: l10 :: l11 :: v :: (5, 0) :: r) S n M Q) : ew_X k pc (l0 :: l1 :: l2 :: l3 :: l4 :: l5 :: l6 :: l7 :: l8 :: l9 :: l10 :: l11 :: old :: old2 :: r) (v :: S) n M Q :=
  ew_X.step ((ew_stp_of hc h _ _ n M).trans (hs.trans (by rw [ew_st2, hk]; rfl))) kk
theorem xr_inc_12 {l0 l1 l2 l3 l4 l5 l6 l7 l8 l9 l10 l11 : ew_AV} {x c : Int} {r : List ew_AV} (hc : ew_cod k = C) (h : ew_lk C pc = some (.iinc 12 c, nx, a, b, z)) (kk : ew_X k nx (l0 :: l1 :: l2 :: l3 :: l4 :: l5 :: l6 :: l7 :: l8 :: l9 :: l10 :: l11 :: (0, x + c) :: r) S n M Q) : ew_X k pc (l0 :: l1 :: l2 :: l3 :: l4 :: l5 :: l6 :: l7 :: l8 :: l9 :: l10 :: l11 :: (0, x) :: r) S n M Q :=
  ew_X.step ((ew_stp_of hc h _ _ n M).trans rfl) kk
theorem xr_s1_13 {l0 l1 l2 l3 l4 l5 l6 l7 l8 l9 l10 l11 l12 old v : ew_AV} {r : List ew_AV} (hc : ew_cod k = C) (h : ew_lk C pc = some (ins, nx, a, b, z)) (hs : ew_stI k pc ins nx a b z (l0 :: l1 :: l2 :: l3 :: l4 :: l5 :: l6 :: l7 :: l8 :: l9 :: l10 :: l11 :: l12 :: old :: r) (v :: S) n M = some (.inl (nx, ew_st1 (l0 :: l1 :: l2 :: l3 :: l4 :: l5 :: l6 :: l7 :: l8 :: l9 :: l10 :: l11 :: l12 :: old :: r) 13 v, S, n, M))) (hk : ew_kl (l0 :: l1 :: l2 :: l3 :: l4 :: l5 :: l6 :: l7 :: l8 :: l9 :: l10 :: l11 :: l12 :: old :: r) 13 = l0 :: l1 :: l2 :: l3 :: l4 :: l5 :: l6 :: l7 :: l8 :: l9 :: l10 :: l11 :: l12 :: old :: r) (kk : ew_X k nx (l0 :: l1 :: l2 :: l3 :: l4 :: l5 :: l6 :: l7 :: l8 :: l9 :: l10 :: l11 :: l12 :: v :: r) S n M Q) : ew_X k pc (l0 :: l1 :: l2 :: l3 :: l4 :: l5 :: l6 :: l7 :: l8 :: l9 :: l10 :: l11 :: l12 :: old :: r) (v :: S) n M Q :=
  ew_X.step ((ew_stp_of hc h _ _ n M).trans (hs.trans (by rw [ew_st1, hk]; rfl))) kk
theorem xr_s2_13 {l0 l1 l2 l3 l4 l5 l6 l7 l8 l9 l10 l11 l12 old old2 v : ew_AV} {r : List ew_AV} (hc : ew_cod k = C) (h : ew_lk C pc = some (ins, nx, a, b, z)) (hs : ew_stI k pc ins nx a b z (l0 :: l1 :: l2 :: l3 :: l4 :: l5 :: l6 :: l7 :: l8 :: l9 :: l10 :: l11 :: l12 :: old :: old2 :: r) (v :: S) n M = some (.inl (nx, ew_st2 (l0 :: l1 :: l2 :: l3 :: l4 :: l5 :: l6 :: l7 :: l8 :: l9 :: l10 :: l11 :: l12 :: old :: old2 :: r) 13 v, S, n, M))) (hk : ew_kl (l0 :: l1 :: l2 :: l3 :: l4 :: l5 :: l6 :: l7 :: l8 :: l9 :: l10 :: l11 :: l12 :: old :: old2 :: r) 13 = l0 :: l1 :: l2 :: l3 :: l4 :: l5 :: l6 :: l7 :: l8 :: l9 :: l10 :: l11 :: l12 :: old :: old2 :: r) (kk : ew_X k nx (l0 :: l1 :: l2 :: l3 :: l4 :: l5 :: l6 :: l7 :: l8 :: l9 :: l10 :: l11 :: l12 :: v :: (5, 0) :: r) S n M Q) : ew_X k pc (l0 :: l1 :: l2 :: l3 :: l4 :: l5 :: l6 :: l7 :: l8 :: l9 :: l10 :: l11 :: l12 :: old :: old2 :: r) (v :: S) n M Q :=
  ew_X.step ((ew_stp_of hc h _ _ n M).trans (hs.trans (by rw [ew_st2, hk]; rfl))) kk
theorem xr_inc_13 {l0 l1 l2 l3 l4 l5 l6 l7 l8 l9 l10 l11 l12 : ew_AV} {x c : Int} {r : List ew_AV} (hc : ew_cod k = C) (h : ew_lk C pc = some (.iinc 13 c, nx, a, b, z)) (kk : ew_X k nx (l0 :: l1 :: l2 :: l3 :: l4 :: l5 :: l6 :: l7 :: l8 :: l9 :: l10 :: l11 :: l12 :: (0, x + c) :: r) S n M Q) : ew_X k pc (l0 :: l1 :: l2 :: l3 :: l4 :: l5 :: l6 :: l7 :: l8 :: l9 :: l10 :: l11 :: l12 :: (0, x) :: r) S n M Q :=
  ew_X.step ((ew_stp_of hc h _ _ n M).trans rfl) kk
theorem xr_s1_14 {l0 l1 l2 l3 l4 l5 l6 l7 l8 l9 l10 l11 l12 l13 old v : ew_AV} {r : List ew_AV} (hc : ew_cod k = C) (h : ew_lk C pc = some (ins, nx, a, b, z)) (hs : ew_stI k pc ins nx a b z (l0 :: l1 :: l2 :: l3 :: l4 :: l5 :: l6 :: l7 :: l8 :: l9 :: l10 :: l11 :: l12 :: l13 :: old :: r) (v :: S) n M = some (.inl (nx, ew_st1 (l0 :: l1 :: l2 :: l3 :: l4 :: l5 :: l6 :: l7 :: l8 :: l9 :: l10 :: l11 :: l12 :: l13 :: old :: r) 14 v, S, n, M))) (hk : ew_kl (l0 :: l1 :: l2 :: l3 :: l4 :: l5 :: l6 :: l7 :: l8 :: l9 :: l10 :: l11 :: l12 :: l13 :: old :: r) 14 = l0 :: l1 :: l2 :: l3 :: l4 :: l5 :: l6 :: l7 :: l8 :: l9 :: l10 :: l11 :: l12 :: l13 :: old :: r) (kk : ew_X k nx (l0 :: l1 :: l2 :: l3 :: l4 :: l5 :: l6 :: l7 :: l8 :: l9 :: l10 :: l11 :: l12 :: l13 :: v :: r) S n M Q) : ew_X k pc (l0 :: l1 :: l2 :: l3 :: l4 :: l5 :: l6 :: l7 :: l8 :: l9 :: l10 :: l11 :: l12 :: l13 :: old :: r) (v :: S) n M Q :=
  ew_X.step ((ew_stp_of hc h _ _ n M).trans (hs.trans (by rw [ew_st1, hk]; rfl))) kk
theorem xr_s2_14 {l0 l1 l2 l3 l4 l5 l6 l7 l8 l9 l10 l11 l12 l13 old old2 v : ew_AV} {r : List ew_AV} (hc : ew_cod k = C) (h : ew_lk C pc = some (ins, nx, a, b, z)) (hs : ew_stI k pc ins nx a b z (l0 :: l1 :: l2 :: l3 :: l4 :: l5 :: l6 :: l7 :: l8 :: l9 :: l10 :: l11 :: l12 :: l13 :: old :: old2 :: r) (v :: S) n M = some (.inl (nx, ew_st2 (l0 :: l1 :: l2 :: l3 :: l4 :: l5 :: l6 :: l7 :: l8 :: l9 :: l10 :: l11 :: l12 :: l13 :: old :: old2 :: r) 14 v, S, n, M))) (hk : ew_kl (l0 :: l1 :: l2 :: l3 :: l4 :: l5 :: l6 :: l7 :: l8 :: l9 :: l10 :: l11 :: l12 :: l13 :: old :: old2 :: r) 14 = l0 :: l1 :: l2 :: l3 :: l4 :: l5 :: l6 :: l7 :: l8 :: l9 :: l10 :: l11 :: l12 :: l13 :: old :: old2 :: r) (kk : ew_X k nx (l0 :: l1 :: l2 :: l3 :: l4 :: l5 :: l6 :: l7 :: l8 :: l9 :: l10 :: l11 :: l12 :: l13 :: v :: (5, 0) :: r) S n M Q) : ew_X k pc (l0 :: l1 :: l2 :: l3 :: l4 :: l5 :: l6 :: l7 :: l8 :: l9 :: l10 :: l11 :: l12 :: l13 :: old :: old2 :: r) (v :: S) n M Q :=
  ew_X.step ((ew_stp_of hc h _ _ n M).trans (hs.trans (by rw [ew_st2, hk]; rfl))) kk
theorem xr_inc_14 {l0 l1 l2 l3 l4 l5 l6 l7 l8 l9 l10 l11 l12 l13 : ew_AV} {x c : Int} {r : List ew_AV} (hc : ew_cod k = C) (h : ew_lk C pc = some (.iinc 14 c, nx, a, b, z)) (kk : ew_X k nx (l0 :: l1 :: l2 :: l3 :: l4 :: l5 :: l6 :: l7 :: l8 :: l9 :: l10 :: l11 :: l12 :: l13 :: (0, x + c) :: r) S n M Q) : ew_X k pc (l0 :: l1 :: l2 :: l3 :: l4 :: l5 :: l6 :: l7 :: l8 :: l9 :: l10 :: l11 :: l12 :: l13 :: (0, x) :: r) S n M Q :=
  ew_X.step ((ew_stp_of hc h _ _ n M).trans rfl) kk
theorem xr_s1_15 {l0 l1 l2 l3 l4 l5 l6 l7 l8 l9 l10 l11 l12 l13 l14 old v : ew_AV} {r : List ew_AV} (hc : ew_cod k = C) (h : ew_lk C pc = some (ins, nx, a, b, z)) (hs : ew_stI k pc ins nx a b z (l0 :: l1 :: l2 :: l3 :: l4 :: l5 :: l6 :: l7 :: l8 :: l9 :: l10 :: l11 :: l12 :: l13 :: l14 :: old :: r) (v :: S) n M = some (.inl (nx, ew_st1 (l0 :: l1 :: l2 :: l3 :: l4 :: l5 :: l6 :: l7 :: l8 :: l9 :: l10 :: l11 :: l12 :: l13 :: l14 :: old :: r) 15 v, S, n, M))) (hk : ew_kl (l0 :: l1 :: l2 :: l3 :: l4 :: l5 :: l6 :: l7 :: l8 :: l9 :: l10 :: l11 :: l12 :: l13 :: l14 :: old :: r) 15 = l0 :: l1 :: l2 :: l3 :: l4 :: l5 :: l6 :: l7 :: l8 :: l9 :: l10 :: l11 :: l12 :: l13 :: l14 :: old :: r) (kk : ew_X k nx (l0 :: l1 :: l2 :: l3 :: l4 :: l5 :: l6 :: l7 :: l8 :: l9 :: l10 :: l11 :: l12 :: l13 :: l14 :: v :: r) S n M Q) : ew_X k pc (l0 :: l1 :: l2 :: l3 :: l4 :: l5 :: l6 :: l7 :: l8 :: l9 :: l10 :: l11 :: l12 :: l13 :: l14 :: old :: r) (v :: S) n M Q :=
  ew_X.step ((ew_stp_of hc h _ _ n M).trans (hs.trans (by rw [ew_st1, hk]; rfl))) kk
theorem xr_s2_15 {l0 l1 l2 l3 l4 l5 l6 l7 l8 l9 l10 l11 l12 l13 l14 old old2 v : ew_AV} {r : List ew_AV} (hc : ew_cod k = C) (h : ew_lk C pc = some (ins, nx, a, b, z)) (hs : ew_stI k pc ins nx a b z (l0 :: l1 :: l2 :: l3 :: l4 :: l5 :: l6 :: l7 :: l8 :: l9 :: l10 :: l11 :: l12 :: l13 :: l14 :: old :: old2 :: r) (v :: S) n M = some (.inl (nx, ew_st2 (l0 :: l1 :: l2 :: l3 :: l4 :: l5 :: l6 :: l7 :: l8 :: l9 :: l10 :: l11 :: l12 :: l13 :: l14 :: old :: old2 :: r) 15 v, S, n, M))) (hk : ew_kl (l0 :: l1 :: l2 :: l3 :: l4 :: l5 :: l6 :: l7 :: l8 :: l9 :: l10 :: l11 :: l12 :: l13 :: l14 :: old :: old2 :: r) 15 = l0 :: l1 :: l2 :: l3 :: l4 :: l5 :: l6 :: l7 :: l8 :: l9 :: l10 :: l11 :: l12 :: l13 :: l14 :: old :: old2 :: r) (kk : ew_X k nx (l0 :: l1 :: l2 :: l3 :: l4 :: l5 :: l6 :: l7 :: l8 :: l9 :: l10 :: l11 :: l12 :: l13 :: l14 :: v :: (5, 0) :: r) S n M Q) : ew_X k pc (l0 :: l1 :: l2 :: l3 :: l4 :: l5 :: l6 :: l7 :: l8 :: l9 :: l10 :: l11 :: l12 :: l13 :: l14 :: old :: old2 :: r) (v :: S) n M Q :=
  ew_X.step ((ew_stp_of hc h _ _ n M).trans (hs.trans (by rw [ew_st2, hk]; rfl))) kk
theorem xr_inc_15 {l0 l1 l2 l3 l4 l5 l6 l7 l8 l9 l10 l11 l12 l13 l14 : ew_AV} {x c : Int} {r : List ew_AV} (hc : ew_cod k = C) (h : ew_lk C pc = some (.iinc 15 c, nx, a, b, z)) (kk : ew_X k nx (l0 :: l1 :: l2 :: l3 :: l4 :: l5 :: l6 :: l7 :: l8 :: l9 :: l10 :: l11 :: l12 :: l13 :: l14 :: (0, x + c) :: r) S n M Q) : ew_X k pc (l0 :: l1 :: l2 :: l3 :: l4 :: l5 :: l6 :: l7 :: l8 :: l9 :: l10 :: l11 :: l12 :: l13 :: l14 :: (0, x) :: r) S n M Q :=
  ew_X.step ((ew_stp_of hc h _ _ n M).trans rfl) kk
theorem xr_s1_16 {l0 l1 l2 l3 l4 l5 l6 l7 l8 l9 l10 l11 l12 l13 l14 l15 old v : ew_AV} {r : List ew_AV} (hc : ew_cod k = C) (h : ew_lk C pc = some (ins, nx, a, b, z)) (hs : ew_stI k pc ins nx a b z (l0 :: l1 :: l2 :: l3 :: l4 :: l5 :: l6 :: l7 :: l8 :: l9 :: l10 :: l11 :: l12 :: l13 :: l14 :: l15 :: old :: r) (v :: S) n M = some (.inl (nx, ew_st1 (l0 :: l1 :: l2 :: l3 :: l4 :: l5 :: l6 :: l7 :: l8 :: l9 :: l10 :: l11 :: l12 :: l13 :: l14 :: l15 :: old :: r) 16 v, S, n, M))) (hk : ew_kl (l0 :: l1 :: l2 :: l3 :: l4 :: l5 :: l6 :: l7 :: l8 :: l9 :: l10 :: l11 :: l12 :: l13 :: l14 :: l15 :: old :: r) 16 = l0 :: l1 :: l2 :: l3 :: l4 :: l5 :: l6 :: l7 :: l8 :: l9 :: l10 :: l11 :: l12 :: l13 :: l14 :: l15 :: old :: r) (kk : ew_X k nx (l0 :: l1 :: l2 :: l3 :: l4 :: l5 :: l6 :: l7 :: l8 :: l9 :: l10 :: l11 :: l12 :: l13 :: l14 :: l15 :: v :: r) S n M Q) : ew_X k pc (l0 :: l1 :: l2 :: l3 :: l4 :: l5 :: l6 :: l7 :: l8 :: l9 :: l10 :: l11 :: l12 :: l13 :: l14 :: l15 :: old :: r) (v :: S) n M Q :=
  ew_X.step ((ew_stp_of hc h _ _ n M).trans (hs.trans (by rw [ew_st1, hk]; rfl))) kk
theorem xr_s2_16 {l0 l1 l2 l3 l4 l5 l6 l7 l8 l9 l10 l11 l12 l13 l14 l15 old old2 v : ew_AV} {r : List ew_AV} (hc : ew_cod k = C) (h : ew_lk C pc = some (ins, nx, a, b, z)) (hs : ew_stI k pc ins nx a b z (l0 :: l1 :: l2 :: l3 :: l4 :: l5 :: l6 :: l7 :: l8 :: l9 :: l10 :: l11 :: l12 :: l13 :: l14 :: l15 :: old :: old2 :: r) (v :: S) n M = some (.inl (nx, ew_st2 (l0 :: l1 :: l2 :: l3 :: l4 :: l5 :: l6 :: l7 :: l8 :: l9 :: l10 :: l11 :: l12 :: l13 :: l14 :: l15 :: old :: old2 :: r) 16 v, S, n, M))) (hk : ew_kl (l0 :: l1 :: l2 :: l3 :: l4 :: l5 :: l6 :: l7 :: l8 :: l9 :: l10 :: l11 :: l12 :: l13 :: l14 :: l15 :: old :: old2 :: r) 16 = l0 :: l1 :: l2 :: l3 :: l4 :: l5 :: l6 :: l7 :: l8 :: l9 :: l10 :: l11 :: l12 :: l13 :: l14 :: l15 :: old :: old2 :: r) (kk : ew_X k nx (l0 :: l1 :: l2 :: l3 :: l4 :: l5 :: l6 :: l7 :: l8 :: l9 :: l10 :: l11 :: l12 :: l13 :: l14 :: l15 :: v :: (5, 0) :: r) S n M Q) : ew_X k pc (l0 :: l1 :: l2 :: l3 :: l4 :: l5 :: l6 :: l7 :: l8 :: l9 :: l10 :: l11 :: l12 :: l13 :: l14 :: l15 :: old :: old2 :: r) (v :: S) n M Q :=
  ew_X.step ((ew_stp_of hc h _ _ n M).trans (hs.trans (by rw [ew_st2, hk]; rfl))) kk
theorem xr_inc_16 {l0 l1 l2 l3 l4 l5 l6 l7 l8 l9 l10 l11 l12 l13 l14 l15 : ew_AV} {x c : Int} {r : List ew_AV} (hc : ew_cod k = C) (h : ew_lk C pc = some (.iinc 16 c, nx, a, b, z)) (kk : ew_X k nx (l0 :: l1 :: l2 :: l3 :: l4 :: l5 :: l6 :: l7 :: l8 :: l9 :: l10 :: l11 :: l12 :: l13 :: l14 :: l15 :: (0, x + c) :: r) S n M Q) : ew_X k pc (l0 :: l1 :: l2 :: l3 :: l4 :: l5 :: l6 :: l7 :: l8 :: l9 :: l10 :: l11 :: l12 :: l13 :: l14 :: l15 :: (0, x) :: r) S n M Q :=
  ew_X.step ((ew_stp_of hc h _ _ n M).trans rfl) kk
theorem xr_s1_17 {l0 l1 l2 l3 l4 l5 l6 l7 l8 l9 l10 l11 l12 l13 l14 l15 l16 old v : ew_AV} {r : List ew_AV} (hc : ew_cod k = C) (h : ew_lk C pc = some (ins, nx, a, b, z)) (hs : ew_stI k pc ins nx a b z (l0 :: l1 :: l2 :: l3 :: l4 :: l5 :: l6 :: l7 :: l8 :: l9 :: l10 :: l11 :: l12 :: l13 :: l14 :: l15 :: l16 :: old :: r) (v :: S) n M = some (.inl (nx, ew_st1 (l0 :: l1 :: l2 :: l3 :: l4 :: l5 :: l6 :: l7 :: l8 :: l9 :: l10 :: l11 :: l12 :: l13 :: l14 :: l15 :: l16 :: old :: r) 17 v, S, n, M))) (hk : ew_kl (l0 :: l1 :: l2 :: l3 :: l4 :: l5 :: l6 :: l7 :: l8 :: l9 :: l10 :: l11 :: l12 :: l13 :: l14 :: l15 :: l16 :: old :: r) 17 = l0 :: l1 :: l2 :: l3 :: l4 :: l5 :: l6 :: l7 :: l8 :: l9 :: l10 :: l11 :: l12 :: l13 :: l14 :: l15 :: l16 :: old :: r) (kk : ew_X k nx (l0 :: l1 :: l2 :: l3 :: l4 :: l5 :: l6 :: l7 :: l8 :: l9 :: l10 :: l11 :: l12 :: l13 :: l14 :: l15 :: l16 :: v :: r) S n M Q) : ew_X k pc (l0 :: l1 :: l2 :: l3 :: l4 :: l5 :: l6 :: l7 :: l8 :: l9 :: l10 :: l11 :: l12 :: l13 :: l14 :: l15 :: l16 :: old :: r) (v :: S) n M Q :=
  ew_X.step ((ew_stp_of hc h _ _ n M).trans (hs.trans (by rw [ew_st1, hk]; rfl))) kk
theorem xr_s2_17 {l0 l1 l2 l3 l4 l5 l6 l7 l8 l9 l10 l11 l12 l13 l14 l15 l16 old old2 v : ew_AV} {r : List ew_AV} (hc : ew_cod k = C) (h : ew_lk C pc = some (ins, nx, a, b, z)) (hs : ew_stI k pc ins nx a b z (l0 :: l1 :: l2 :: l3 :: l4 :: l5 :: l6 :: l7 :: l8 :: l9 :: l10 :: l11 :: l12 :: l13 :: l14 :: l15 :: l16 :: old :: old2 :: r) (v :: S) n M = some (.inl (nx, ew_st2 (l0 :: l1 :: l2 :: l3 :: l4 :: l5 :: l6 :: l7 :: l8 :: l9 :: l10 :: l11 :: l12 :: l13 :: l14 :: l15 :: l16 :: old :: old2 :: r) 17 v, S, n, M))) (hk : ew_kl (l0 :: l1 :: l2 :: l3 :: l4 :: l5 :: l6 :: l7 :: l8 :: l9 :: l10 :: l11 :: l12 :: l13 :: l14 :: l15 :: l16 :: old :: old2 :: r) 17 = l0 :: l1 :: l2 :: l3 :: l4 :: l5 :: l6 :: l7 :: l8 :: l9 :: l10 :: l11 :: l12 :: l13 :: l14 :: l15 :: l16 :: old :: old2 :: r) (kk : ew_X k nx (l0 :: l1 :: l2 :: l3 :: l4 :: l5 :: l6 :: l7 :: l8 :: l9 :: l10 :: l11 :: l12 :: l13 :: l14 :: l15 :: l16 :: v :: (5, 0) :: r) S n M Q) : ew_X k pc (l0 :: l1 :: l2 :: l3 :: l4 :: l5 :: l6 :: l7 :: l8 :: l9 :: l10 :: l11 :: l12 :: l13 :: l14 :: l15 :: l16 :: old :: old2 :: r) (v :: S) n M Q :=
  ew_X.step ((ew_stp_of hc h _ _ n M).trans (hs.trans (by rw [ew_st2, hk]; rfl))) kk
theorem xr_inc_17 {l0 l1 l2 l3 l4 l5 l6 l7 l8 l9 l10 l11 l12 l13 l14 l15 l16 : ew_AV} {x c : Int} {r : List ew_AV} (hc : ew_cod k = C) (h : ew_lk C pc = some (.iinc 17 c, nx, a, b, z)) (kk : ew_X k nx (l0 :: l1 :: l2 :: l3 :: l4 :: l5 :: l6 :: l7 :: l8 :: l9 :: l10 :: l11 :: l12 :: l13 :: l14 :: l15 :: l16 :: (0, x + c) :: r) S n M Q) : ew_X k pc (l0 :: l1 :: l2 :: l3 :: l4 :: l5 :: l6 :: l7 :: l8 :: l9 :: l10 :: l11 :: l12 :: l13 :: l14 :: l15 :: l16 :: (0, x) :: r) S n M Q :=
  ew_X.step ((ew_stp_of hc h _ _ n M).trans rfl) kk
theorem xr_gf {i : Nat} {o w : Int} {A f : Nat} (hA : o.toNat = A) (hc : ew_cod k = C) (h : ew_lk C pc = some (.getfield i, nx, a, f, z)) (ho : ew_own a o n = true) (hv : M A f = w) (kk : ew_X k nx L ((z.toNat, w) :: S) n M Q) : ew_X k pc L ((2, o) :: S) n M Q := by
  subst hA; subst hv
  exact ew_X.step ((ew_stp_of hc h _ _ n M).trans (by simp only [ew_stI]; rw [if_pos ho])) kk
theorem xr_gf0 {i : Nat} {o w : Int} {A f : Nat} (hA : o.toNat = A) (hc : ew_cod k = C) (h : ew_lk C pc = some (.getfield i, nx, a, f, 0)) (ho : ew_own a o n = true) (hv : M A f = w) (kk : ew_X k nx L ((0, w) :: S) n M Q) : ew_X k pc L ((2, o) :: S) n M Q := xr_gf hA hc h ho hv kk
theorem xr_gf2 {i : Nat} {o w : Int} {A f : Nat} (hA : o.toNat = A) (hc : ew_cod k = C) (h : ew_lk C pc = some (.getfield i, nx, a, f, 2)) (ho : ew_own a o n = true) (hv : M A f = w) (kk : ew_X k nx L ((2, w) :: S) n M Q) : ew_X k pc L ((2, o) :: S) n M Q := xr_gf hA hc h ho hv kk
theorem xr_pf {i : Nat} {o v : Int} {A f : Nat} (hA : o.toNat = A) (hc : ew_cod k = C) (h : ew_lk C pc = some (.putfield i, nx, a, f, 0)) (ho : ew_own a o n = true) (kk : ew_X k nx L S n (ew_wr M A f v) Q) : ew_X k pc L ((0, v) :: (2, o) :: S) n M Q := by
  subst hA
  exact ew_X.step ((ew_stp_of hc h _ _ n M).trans (by simp [ew_stI, ho])) kk
theorem xr_pfB {i : Nat} {o v : Int} {A f : Nat} (hA : o.toNat = A) (hc : ew_cod k = C) (h : ew_lk C pc = some (.putfield i, nx, a, f, 5)) (ho : ew_own a o n = true) (hv : v = 0 ∨ v = 1) (kk : ew_X k nx L S n (ew_wr M A f v) Q) : ew_X k pc L ((0, v) :: (2, o) :: S) n M Q := by
  subst hA
  exact ew_X.step ((ew_stp_of hc h _ _ n M).trans (by simp [ew_stI, ho, hv])) kk
theorem xr_pf2 {i : Nat} {o v : Int} {A f : Nat} (hA : o.toNat = A) (hc : ew_cod k = C) (h : ew_lk C pc = some (.putfield i, nx, a, f, 2)) (ho : ew_own a o n = true) (kk : ew_X k nx L S n (ew_wr M A f v) Q) : ew_X k pc L ((2, v) :: (2, o) :: S) n M Q := by
  subst hA
  exact ew_X.step ((ew_stp_of hc h _ _ n M).trans (by simp [ew_stI, ho])) kk
theorem ew_inb_of {i : Int} {N : Nat} (h0 : 0 ≤ i) (h1 : i < (N : Int)) : ew_inb i N = true := by
  simp only [ew_inb, Bool.and_eq_true, decide_eq_true_eq]
  exact ⟨h0, h1⟩
theorem xr_iald {o i w : Int} {A N : Nat} (hA : o.toNat = A) (hN : ew_len M A = N) (hc : ew_cod k = C) (h : ew_lk C pc = some (.iaload, nx, a, b, z)) (ho : ew_ok 20 o n = true) (h0 : 0 ≤ i) (h1 : i < (N : Int)) (hv : M A i.toNat = w) (kk : ew_X k nx L ((0, w) :: S) n M Q) : ew_X k pc L ((0, i) :: (2, o) :: S) n M Q := by
  subst hA; subst hN; subst hv
  exact ew_X.step ((ew_stp_of hc h _ _ n M).trans (by simp only [ew_stI]; rw [if_pos ⟨ho, ew_inb_of h0 h1⟩])) kk
theorem xr_lald {o i w : Int} {A N : Nat} (hA : o.toNat = A) (hN : (ew_tag A).2 = N) (hc : ew_cod k = C) (h : ew_lk C pc = some (.laload, nx, a, b, z)) (ho : ew_own 21 o n = true) (h0 : 0 ≤ i) (h1 : i < (N : Int)) (hv : M A i.toNat = w) (kk : ew_X k nx L ((1, w) :: S) n M Q) : ew_X k pc L ((0, i) :: (2, o) :: S) n M Q := by
  subst hA; subst hN; subst hv
  exact ew_X.step ((ew_stp_of hc h _ _ n M).trans (by simp only [ew_stI]; rw [if_pos ⟨ho, ew_inb_of h0 h1⟩])) kk
theorem xr_aald {o i w : Int} {A N t : Nat} (hA : o.toNat = A) (hN : (ew_tag A).2 = N) (hc : ew_cod k = C) (h : ew_lk C pc = some (.aaload, nx, a, b, z)) (ho : ew_own t o n = true) (ht : 22 ≤ t) (h0 : 0 ≤ i) (h1 : i < (N : Int)) (hv : M A i.toNat = w) (kk : ew_X k nx L ((2, w) :: S) n M Q) : ew_X k pc L ((0, i) :: (2, o) :: S) n M Q := by
  subst hA; subst hN; subst hv
  simp only [ew_own, Bool.and_eq_true, decide_eq_true_eq] at ho
  exact ew_X.step ((ew_stp_of hc h _ _ n M).trans (by simp only [ew_stI]; rw [if_pos ⟨⟨ho.1, ho.2.1, by omega⟩, ew_inb_of h0 h1⟩])) kk
theorem xr_iast {o i v : Int} {A N : Nat} (hA : o.toNat = A) (hN : (ew_tag A).2 = N) (hc : ew_cod k = C) (h : ew_lk C pc = some (.iastore, nx, a, b, z)) (ho : ew_own 20 o n = true) (h0 : 0 ≤ i) (h1 : i < (N : Int)) (kk : ew_X k nx L S n (ew_wr M A i.toNat v) Q) : ew_X k pc L ((0, v) :: (0, i) :: (2, o) :: S) n M Q := by
  subst hA; subst hN
  exact ew_X.step ((ew_stp_of hc h _ _ n M).trans (by simp only [ew_stI]; rw [if_pos ⟨ho, ew_inb_of h0 h1⟩])) kk
theorem xr_last {o i v : Int} {A N : Nat} (hA : o.toNat = A) (hN : (ew_tag A).2 = N) (hc : ew_cod k = C) (h : ew_lk C pc = some (.lastore, nx, a, b, z)) (ho : ew_own 21 o n = true) (h0 : 0 ≤ i) (h1 : i < (N : Int)) (kk : ew_X k nx L S n (ew_wr M A i.toNat v) Q) : ew_X k pc L ((1, v) :: (0, i) :: (2, o) :: S) n M Q := by
  subst hA; subst hN
  exact ew_X.step ((ew_stp_of hc h _ _ n M).trans (by simp only [ew_stI]; rw [if_pos ⟨ho, ew_inb_of h0 h1⟩])) kk
theorem xr_aast {o i v : Int} {A N : Nat} (hA : o.toNat = A) (hN : (ew_tag A).2 = N) (hc : ew_cod k = C) (h : ew_lk C pc = some (.aastore, nx, a, b, z)) (ho : ew_own 22 o n = true) (hv : v = 0 ∨ ew_own 6 v n = true) (h0 : 0 ≤ i) (h1 : i < (N : Int)) (kk : ew_X k nx L S n (ew_wr M A i.toNat v) Q) : ew_X k pc L ((2, v) :: (0, i) :: (2, o) :: S) n M Q := by
  subst hA; subst hN
  simp only [ew_own, Bool.and_eq_true, decide_eq_true_eq] at ho
  exact ew_X.step ((ew_stp_of hc h _ _ n M).trans (by simp only [ew_stI]; rw [if_pos ⟨⟨⟨ho.1, ho.2.1⟩, ew_inb_of h0 h1⟩, Or.inl ⟨ho.2.2, hv⟩⟩])) kk
theorem xr_alen {o : Int} {A N t : Nat} (hA : o.toNat = A) (hN : ew_len M A = N) (hc : ew_cod k = C) (h : ew_lk C pc = some (.arraylength, nx, a, b, z)) (ho : ew_ok t o n = true) (ht : 20 ≤ t) (kk : ew_X k nx L ((0, (N : Int)) :: S) n M Q) : ew_X k pc L ((2, o) :: S) n M Q := by
  subst hA; subst hN
  simp only [ew_ok, Bool.and_eq_true, decide_eq_true_eq] at ho
  exact ew_X.step ((ew_stp_of hc h _ _ n M).trans (by simp only [ew_stI]; rw [if_pos ⟨ho.1, ho.2.1, by omega⟩])) kk
theorem xr_new {i : Nat} (hc : ew_cod k = C) (h : ew_lk C pc = some (.new i, nx, a, b, z)) (ht : (ew_tag n).1 = a) (kk : ew_X k nx L ((2, (n : Int)) :: S) (n + 1) (ew_clr M n) Q) : ew_X k pc L S n M Q :=
  ew_X.step ((ew_stp_of hc h _ _ n M).trans (by simp only [ew_stI]; rw [if_pos ht])) kk
theorem xr_ts {d lo hi x : Int} {offs : Array Int} (hc : ew_cod k = C) (h : ew_lk C pc = some (.tableswitch d lo hi offs, nx, a, b, z)) (rx : ew_in x) (ko : (x < lo ∨ hi < x) → ew_X k a L S n M Q) (ki : lo ≤ x → x ≤ hi → ∃ (o : Int) (t : Nat), offs[(x - lo).toNat]? = some o ∧ (pc : Int) + o = (t : Int) ∧ ew_X k t L S n M Q) : ew_X k pc L ((0, x) :: S) n M Q := by
  by_cases hq : x < lo ∨ hi < x
  · exact ew_X.step ((ew_stp_of hc h _ _ n M).trans (by simp only [ew_stI]; rw [ew_i_in rx, if_pos hq])) (ko hq)
  · obtain ⟨o, t, h1, h2, h3⟩ := ki (by omega) (by omega)
    refine ew_X.step (pc' := t) ((ew_stp_of hc h _ _ n M).trans ?_) h3
    simp only [ew_stI]
    rw [ew_i_in rx, if_neg hq, h1]
    dsimp only
    rw [if_pos (by omega), h2]
    rfl
theorem xr_ls {d x : Int} {ps : Array (Int × Int)} (hc : ew_cod k = C) (h : ew_lk C pc = some (.lookupswitch d ps, nx, a, b, z)) (rx : ew_in x) (t : Nat) (ht : (pc : Int) + Op.lookupswitch.offset ps.toList d x = (t : Int)) (kk : ew_X k t L S n M Q) : ew_X k pc L ((0, x) :: S) n M Q := by
  refine ew_X.step (pc' := t) ((ew_stp_of hc h _ _ n M).trans ?_) kk
  simp only [ew_stI]
  rw [ew_i_in rx, ht, if_pos (by omega)]
  simp
theorem ew_inv_go {k' : Nat} {A : List ew_AV} (hz : z = 0 ∨ z = 7 ∨ ((z = 1 ∨ z = 2 ∨ z = 3) ∧ ew_hd (ew_rcv k') n A = true)) (hk : ew_ck k k' A S = true) {T : List ew_AV} (h1 : (T.take b).reverse = A) (h2 : T.drop b = S) (h3 : b ≤ T.length) : ew_inv k k' b nx z L T n M = some (.inr (.inr (k', A, nx, S))) := by
  simp only [ew_ck, Bool.and_eq_true, decide_eq_true_eq] at hk
  unfold ew_inv
  have hq : z = 0 ∨ z = 7 ∨ ew_hd (ew_rcv k') n A = true := hz.elim Or.inl (fun q => q.elim (fun q => Or.inr (Or.inl q)) (fun q => Or.inr (Or.inr q.2)))
  rw [if_neg (by omega), if_neg (by omega), if_neg (by omega), h1, h2, if_pos ⟨h3, hk.1, hk.2.1, hq, hk.2.2⟩]
theorem ew_call_FM {k' : Nat} {A : List ew_AV} {v : ew_AV} {n' : Nat} {M' : ew_Mem} (hs : ew_stp k pc L S n M = some (.inr (.inr (k', A, nx, ([] : List ew_AV))))) (hF : ew_FM k' A n M v n' M') (kk : ew_X k nx L [v] n' M' Q) : ew_X k pc L S n M Q :=
  ew_X.callv hs hF (fun w n2 M2 h => by obtain ⟨rfl, rfl, rfl⟩ := h; exact kk)
end XR

theorem xr_sC_0 {k pc nx k' i : Nat} {C : List ew_Ent} {L S : List ew_AV} {n : Nat} {M : ew_Mem} {Q Q1 : Option ew_AV → Nat → ew_Mem → Prop}  (hc : ew_cod k = C) (h : ew_lk C pc = some (.invokestatic i, nx, k', 0, 0)) (hk : ew_ck k k' [] S = true) (hF : ew_C k' [] n M Q1) (kk : ∀ w n2 M2, Q1 w n2 M2 → ew_X k nx L (w.toList ++ S) n2 M2 Q) : ew_X k pc L (S) n M Q :=
  ew_X.callv ((ew_stp_of hc h L _ n M).trans (ew_inv_go (Or.inl rfl) hk rfl rfl (by simp))) hF kk
theorem xr_s_0 {k pc nx k' i : Nat} {C : List ew_Ent} {L S : List ew_AV} {n n' : Nat} {M M' : ew_Mem} {Q : Option ew_AV → Nat → ew_Mem → Prop} {v : ew_AV} (hc : ew_cod k = C) (h : ew_lk C pc = some (.invokestatic i, nx, k', 0, 0)) (hk : ew_ck k k' [] S = true) (hF : ew_FM k' [] n M v n' M') (kk : ew_X k nx L (v :: S) n' M' Q) : ew_X k pc L (S) n M Q :=
  xr_sC_0 hc h hk hF (fun w n2 M2 q => by obtain ⟨rfl, rfl, rfl⟩ := q; exact kk)
theorem xr_sC_1 {k pc nx k' i : Nat} {C : List ew_Ent} {L S : List ew_AV} {n : Nat} {M : ew_Mem} {Q Q1 : Option ew_AV → Nat → ew_Mem → Prop} {a0 : ew_AV}  (hc : ew_cod k = C) (h : ew_lk C pc = some (.invokestatic i, nx, k', 1, 0)) (hk : ew_ck k k' [a0] S = true) (hF : ew_C k' [a0] n M Q1) (kk : ∀ w n2 M2, Q1 w n2 M2 → ew_X k nx L (w.toList ++ S) n2 M2 Q) : ew_X k pc L (a0 :: S) n M Q :=
  ew_X.callv ((ew_stp_of hc h L _ n M).trans (ew_inv_go (Or.inl rfl) hk rfl rfl (by simp))) hF kk
theorem xr_s_1 {k pc nx k' i : Nat} {C : List ew_Ent} {L S : List ew_AV} {n n' : Nat} {M M' : ew_Mem} {Q : Option ew_AV → Nat → ew_Mem → Prop} {a0 : ew_AV} {v : ew_AV} (hc : ew_cod k = C) (h : ew_lk C pc = some (.invokestatic i, nx, k', 1, 0)) (hk : ew_ck k k' [a0] S = true) (hF : ew_FM k' [a0] n M v n' M') (kk : ew_X k nx L (v :: S) n' M' Q) : ew_X k pc L (a0 :: S) n M Q :=
  xr_sC_1 hc h hk hF (fun w n2 M2 q => by obtain ⟨rfl, rfl, rfl⟩ := q; exact kk)
theorem xr_nC_1 {k pc nx k' i : Nat} {C : List ew_Ent} {L S : List ew_AV} {n : Nat} {M : ew_Mem} {Q Q1 : Option ew_AV → Nat → ew_Mem → Prop} {a0 : ew_AV}  (hc : ew_cod k = C) (h : ew_lk C pc = some (.invokestatic i, nx, k', 1, 7)) (hk : ew_ck k k' [a0] S = true) (hF : ew_C k' [a0] n M Q1) (kk : ∀ w n2 M2, Q1 w n2 M2 → ew_X k nx L (w.toList ++ S) n2 M2 Q) : ew_X k pc L (a0 :: S) n M Q :=
  ew_X.callv ((ew_stp_of hc h L _ n M).trans (ew_inv_go (Or.inr (Or.inl rfl)) hk rfl rfl (by simp))) hF kk
theorem xr_n_1 {k pc nx k' i : Nat} {C : List ew_Ent} {L S : List ew_AV} {n n' : Nat} {M M' : ew_Mem} {Q : Option ew_AV → Nat → ew_Mem → Prop} {a0 : ew_AV} {v : ew_AV} (hc : ew_cod k = C) (h : ew_lk C pc = some (.invokestatic i, nx, k', 1, 7)) (hk : ew_ck k k' [a0] S = true) (hF : ew_FM k' [a0] n M v n' M') (kk : ew_X k nx L (v :: S) n' M' Q) : ew_X k pc L (a0 :: S) n M Q :=
  xr_nC_1 hc h hk hF (fun w n2 M2 q => by obtain ⟨rfl, rfl, rfl⟩ := q; exact kk)
theorem xr_vC_1 {k pc nx k' i : Nat} {C : List ew_Ent} {L S : List ew_AV} {n : Nat} {M : ew_Mem} {Q Q1 : Option ew_AV → Nat → ew_Mem → Prop} {a0 : ew_AV}  (hc : ew_cod k = C) (h : ew_lk C pc = some (.invokevirtual i, nx, k', 1, 1)) (hk : ew_ck k k' [a0] S = true) (ho : ew_hd (ew_rcv k') n [a0] = true) (hF : ew_C k' [a0] n M Q1) (kk : ∀ w n2 M2, Q1 w n2 M2 → ew_X k nx L (w.toList ++ S) n2 M2 Q) : ew_X k pc L (a0 :: S) n M Q :=
  ew_X.callv ((ew_stp_of hc h L _ n M).trans (ew_inv_go (Or.inr (Or.inr ⟨Or.inl rfl, ho⟩)) hk rfl rfl (by simp))) hF kk
theorem xr_v_1 {k pc nx k' i : Nat} {C : List ew_Ent} {L S : List ew_AV} {n n' : Nat} {M M' : ew_Mem} {Q : Option ew_AV → Nat → ew_Mem → Prop} {a0 : ew_AV} {v : ew_AV} (hc : ew_cod k = C) (h : ew_lk C pc = some (.invokevirtual i, nx, k', 1, 1)) (hk : ew_ck k k' [a0] S = true) (ho : ew_hd (ew_rcv k') n [a0] = true) (hF : ew_FM k' [a0] n M v n' M') (kk : ew_X k nx L (v :: S) n' M' Q) : ew_X k pc L (a0 :: S) n M Q :=
  xr_vC_1 hc h hk ho hF (fun w n2 M2 q => by obtain ⟨rfl, rfl, rfl⟩ := q; exact kk)
theorem xr_vv_1 {k pc nx k' i : Nat} {C : List ew_Ent} {L S : List ew_AV} {n n' : Nat} {M M' : ew_Mem} {Q : Option ew_AV → Nat → ew_Mem → Prop} {a0 : ew_AV} {v : ew_AV} (hc : ew_cod k = C) (h : ew_lk C pc = some (.invokevirtual i, nx, k', 1, 1)) (hk : ew_ck k k' [a0] S = true) (ho : ew_hd (ew_rcv k') n [a0] = true) (hF : ew_VM k' [a0] n M n' M') (kk : ew_X k nx L S n' M' Q) : ew_X k pc L (a0 :: S) n M Q :=
  xr_vC_1 hc h hk ho hF (fun w n2 M2 q => by obtain ⟨rfl, rfl, rfl⟩ := q; exact kk)
theorem xr_iC_1 {k pc nx k' i : Nat} {C : List ew_Ent} {L S : List ew_AV} {n : Nat} {M : ew_Mem} {Q Q1 : Option ew_AV → Nat → ew_Mem → Prop} {a0 : ew_AV}  (hc : ew_cod k = C) (h : ew_lk C pc = some (.invokespecial i, nx, k', 1, 2)) (hk : ew_ck k k' [a0] S = true) (ho : ew_hd (ew_rcv k') n [a0] = true) (hF : ew_C k' [a0] n M Q1) (kk : ∀ w n2 M2, Q1 w n2 M2 → ew_X k nx L (w.toList ++ S) n2 M2 Q) : ew_X k pc L (a0 :: S) n M Q :=
  ew_X.callv ((ew_stp_of hc h L _ n M).trans (ew_inv_go (Or.inr (Or.inr ⟨Or.inr (Or.inl rfl), ho⟩)) hk rfl rfl (by simp))) hF kk
theorem xr_iv_1 {k pc nx k' i : Nat} {C : List ew_Ent} {L S : List ew_AV} {n n' : Nat} {M M' : ew_Mem} {Q : Option ew_AV → Nat → ew_Mem → Prop} {a0 : ew_AV} {v : ew_AV} (hc : ew_cod k = C) (h : ew_lk C pc = some (.invokespecial i, nx, k', 1, 2)) (hk : ew_ck k k' [a0] S = true) (ho : ew_hd (ew_rcv k') n [a0] = true) (hF : ew_VM k' [a0] n M n' M') (kk : ew_X k nx L S n' M' Q) : ew_X k pc L (a0 :: S) n M Q :=
  xr_iC_1 hc h hk ho hF (fun w n2 M2 q => by obtain ⟨rfl, rfl, rfl⟩ := q; exact kk)
theorem xr_jC_1 {k pc nx k' i : Nat} {C : List ew_Ent} {L S : List ew_AV} {n : Nat} {M : ew_Mem} {Q Q1 : Option ew_AV → Nat → ew_Mem → Prop} {a0 : ew_AV}  (hc : ew_cod k = C) (h : ew_lk C pc = some (.invokespecial i, nx, k', 1, 3)) (hk : ew_ck k k' [a0] S = true) (ho : ew_hd (ew_rcv k') n [a0] = true) (hF : ew_C k' [a0] n M Q1) (kk : ∀ w n2 M2, Q1 w n2 M2 → ew_X k nx L (w.toList ++ S) n2 M2 Q) : ew_X k pc L (a0 :: S) n M Q :=
  ew_X.callv ((ew_stp_of hc h L _ n M).trans (ew_inv_go (Or.inr (Or.inr ⟨Or.inr (Or.inr rfl), ho⟩)) hk rfl rfl (by simp))) hF kk
theorem xr_jv_1 {k pc nx k' i : Nat} {C : List ew_Ent} {L S : List ew_AV} {n n' : Nat} {M M' : ew_Mem} {Q : Option ew_AV → Nat → ew_Mem → Prop} {a0 : ew_AV} {v : ew_AV} (hc : ew_cod k = C) (h : ew_lk C pc = some (.invokespecial i, nx, k', 1, 3)) (hk : ew_ck k k' [a0] S = true) (ho : ew_hd (ew_rcv k') n [a0] = true) (hF : ew_VM k' [a0] n M n' M') (kk : ew_X k nx L S n' M' Q) : ew_X k pc L (a0 :: S) n M Q :=
  xr_jC_1 hc h hk ho hF (fun w n2 M2 q => by obtain ⟨rfl, rfl, rfl⟩ := q; exact kk)
theorem xr_sC_2 {k pc nx k' i : Nat} {C : List ew_Ent} {L S : List ew_AV} {n : Nat} {M : ew_Mem} {Q Q1 : Option ew_AV → Nat → ew_Mem → Prop} {a0 a1 : ew_AV}  (hc : ew_cod k = C) (h : ew_lk C pc = some (.invokestatic i, nx, k', 2, 0)) (hk : ew_ck k k' [a0, a1] S = true) (hF : ew_C k' [a0, a1] n M Q1) (kk : ∀ w n2 M2, Q1 w n2 M2 → ew_X k nx L (w.toList ++ S) n2 M2 Q) : ew_X k pc L (a1 :: a0 :: S) n M Q :=
  ew_X.callv ((ew_stp_of hc h L _ n M).trans (ew_inv_go (Or.inl rfl) hk rfl rfl (by simp))) hF kk
theorem xr_s_2 {k pc nx k' i : Nat} {C : List ew_Ent} {L S : List ew_AV} {n n' : Nat} {M M' : ew_Mem} {Q : Option ew_AV → Nat → ew_Mem → Prop} {a0 a1 : ew_AV} {v : ew_AV} (hc : ew_cod k = C) (h : ew_lk C pc = some (.invokestatic i, nx, k', 2, 0)) (hk : ew_ck k k' [a0, a1] S = true) (hF : ew_FM k' [a0, a1] n M v n' M') (kk : ew_X k nx L (v :: S) n' M' Q) : ew_X k pc L (a1 :: a0 :: S) n M Q :=
  xr_sC_2 hc h hk hF (fun w n2 M2 q => by obtain ⟨rfl, rfl, rfl⟩ := q; exact kk)
theorem xr_vC_2 {k pc nx k' i : Nat} {C : List ew_Ent} {L S : List ew_AV} {n : Nat} {M : ew_Mem} {Q Q1 : Option ew_AV → Nat → ew_Mem → Prop} {a0 a1 : ew_AV}  (hc : ew_cod k = C) (h : ew_lk C pc = some (.invokevirtual i, nx, k', 2, 1)) (hk : ew_ck k k' [a0, a1] S = true) (ho : ew_hd (ew_rcv k') n [a0, a1] = true) (hF : ew_C k' [a0, a1] n M Q1) (kk : ∀ w n2 M2, Q1 w n2 M2 → ew_X k nx L (w.toList ++ S) n2 M2 Q) : ew_X k pc L (a1 :: a0 :: S) n M Q :=
  ew_X.callv ((ew_stp_of hc h L _ n M).trans (ew_inv_go (Or.inr (Or.inr ⟨Or.inl rfl, ho⟩)) hk rfl rfl (by simp))) hF kk
theorem xr_v_2 {k pc nx k' i : Nat} {C : List ew_Ent} {L S : List ew_AV} {n n' : Nat} {M M' : ew_Mem} {Q : Option ew_AV → Nat → ew_Mem → Prop} {a0 a1 : ew_AV} {v : ew_AV} (hc : ew_cod k = C) (h : ew_lk C pc = some (.invokevirtual i, nx, k', 2, 1)) (hk : ew_ck k k' [a0, a1] S = true) (ho : ew_hd (ew_rcv k') n [a0, a1] = true) (hF : ew_FM k' [a0, a1] n M v n' M') (kk : ew_X k nx L (v :: S) n' M' Q) : ew_X k pc L (a1 :: a0 :: S) n M Q :=
  xr_vC_2 hc h hk ho hF (fun w n2 M2 q => by obtain ⟨rfl, rfl, rfl⟩ := q; exact kk)
theorem xr_vv_2 {k pc nx k' i : Nat} {C : List ew_Ent} {L S : List ew_AV} {n n' : Nat} {M M' : ew_Mem} {Q : Option ew_AV → Nat → ew_Mem → Prop} {a0 a1 : ew_AV} {v : ew_AV} (hc : ew_cod k = C) (h : ew_lk C pc = some (.invokevirtual i, nx, k', 2, 1)) (hk : ew_ck k k' [a0, a1] S = true) (ho : ew_hd (ew_rcv k') n [a0, a1] = true) (hF : ew_VM k' [a0, a1] n M n' M') (kk : ew_X k nx L S n' M' Q) : ew_X k pc L (a1 :: a0 :: S) n M Q :=
  xr_vC_2 hc h hk ho hF (fun w n2 M2 q => by obtain ⟨rfl, rfl, rfl⟩ := q; exact kk)
theorem xr_iC_2 {k pc nx k' i : Nat} {C : List ew_Ent} {L S : List ew_AV} {n : Nat} {M : ew_Mem} {Q Q1 : Option ew_AV → Nat → ew_Mem → Prop} {a0 a1 : ew_AV}  (hc : ew_cod k = C) (h : ew_lk C pc = some (.invokespecial i, nx, k', 2, 2)) (hk : ew_ck k k' [a0, a1] S = true) (ho : ew_hd (ew_rcv k') n [a0, a1] = true) (hF : ew_C k' [a0, a1] n M Q1) (kk : ∀ w n2 M2, Q1 w n2 M2 → ew_X k nx L (w.toList ++ S) n2 M2 Q) : ew_X k pc L (a1 :: a0 :: S) n M Q :=
  ew_X.callv ((ew_stp_of hc h L _ n M).trans (ew_inv_go (Or.inr (Or.inr ⟨Or.inr (Or.inl rfl), ho⟩)) hk rfl rfl (by simp))) hF kk
theorem xr_iv_2 {k pc nx k' i : Nat} {C : List ew_Ent} {L S : List ew_AV} {n n' : Nat} {M M' : ew_Mem} {Q : Option ew_AV → Nat → ew_Mem → Prop} {a0 a1 : ew_AV} {v : ew_AV} (hc : ew_cod k = C) (h : ew_lk C pc = some (.invokespecial i, nx, k', 2, 2)) (hk : ew_ck k k' [a0, a1] S = true) (ho : ew_hd (ew_rcv k') n [a0, a1] = true) (hF : ew_VM k' [a0, a1] n M n' M') (kk : ew_X k nx L S n' M' Q) : ew_X k pc L (a1 :: a0 :: S) n M Q :=
  xr_iC_2 hc h hk ho hF (fun w n2 M2 q => by obtain ⟨rfl, rfl, rfl⟩ := q; exact kk)
theorem xr_sC_3 {k pc nx k' i : Nat} {C : List ew_Ent} {L S : List ew_AV} {n : Nat} {M : ew_Mem} {Q Q1 : Option ew_AV → Nat → ew_Mem → Prop} {a0 a1 a2 : ew_AV}  (hc : ew_cod k = C) (h : ew_lk C pc = some (.invokestatic i, nx, k', 3, 0)) (hk : ew_ck k k' [a0, a1, a2] S = true) (hF : ew_C k' [a0, a1, a2] n M Q1) (kk : ∀ w n2 M2, Q1 w n2 M2 → ew_X k nx L (w.toList ++ S) n2 M2 Q) : ew_X k pc L (a2 :: a1 :: a0 :: S) n M Q :=
  ew_X.callv ((ew_stp_of hc h L _ n M).trans (ew_inv_go (Or.inl rfl) hk rfl rfl (by simp))) hF kk
theorem xr_s_3 {k pc nx k' i : Nat} {C : List ew_Ent} {L S : List ew_AV} {n n' : Nat} {M M' : ew_Mem} {Q : Option ew_AV → Nat → ew_Mem → Prop} {a0 a1 a2 : ew_AV} {v : ew_AV} (hc : ew_cod k = C) (h : ew_lk C pc = some (.invokestatic i, nx, k', 3, 0)) (hk : ew_ck k k' [a0, a1, a2] S = true) (hF : ew_FM k' [a0, a1, a2] n M v n' M') (kk : ew_X k nx L (v :: S) n' M' Q) : ew_X k pc L (a2 :: a1 :: a0 :: S) n M Q :=
  xr_sC_3 hc h hk hF (fun w n2 M2 q => by obtain ⟨rfl, rfl, rfl⟩ := q; exact kk)
theorem xr_vC_3 {k pc nx k' i : Nat} {C : List ew_Ent} {L S : List ew_AV} {n : Nat} {M : ew_Mem} {Q Q1 : Option ew_AV → Nat → ew_Mem → Prop} {a0 a1 a2 : ew_AV}  (hc : ew_cod k = C) (h : ew_lk C pc = some (.invokevirtual i, nx, k', 3, 1)) (hk : ew_ck k k' [a0, a1, a2] S = true) (ho : ew_hd (ew_rcv k') n [a0, a1, a2] = true) (hF : ew_C k' [a0, a1, a2] n M Q1) (kk : ∀ w n2 M2, Q1 w n2 M2 → ew_X k nx L (w.toList ++ S) n2 M2 Q) : ew_X k pc L (a2 :: a1 :: a0 :: S) n M Q :=
  ew_X.callv ((ew_stp_of hc h L _ n M).trans (ew_inv_go (Or.inr (Or.inr ⟨Or.inl rfl, ho⟩)) hk rfl rfl (by simp))) hF kk
theorem xr_v_3 {k pc nx k' i : Nat} {C : List ew_Ent} {L S : List ew_AV} {n n' : Nat} {M M' : ew_Mem} {Q : Option ew_AV → Nat → ew_Mem → Prop} {a0 a1 a2 : ew_AV} {v : ew_AV} (hc : ew_cod k = C) (h : ew_lk C pc = some (.invokevirtual i, nx, k', 3, 1)) (hk : ew_ck k k' [a0, a1, a2] S = true) (ho : ew_hd (ew_rcv k') n [a0, a1, a2] = true) (hF : ew_FM k' [a0, a1, a2] n M v n' M') (kk : ew_X k nx L (v :: S) n' M' Q) : ew_X k pc L (a2 :: a1 :: a0 :: S) n M Q :=
  xr_vC_3 hc h hk ho hF (fun w n2 M2 q => by obtain ⟨rfl, rfl, rfl⟩ := q; exact kk)
theorem xr_vv_3 {k pc nx k' i : Nat} {C : List ew_Ent} {L S : List ew_AV} {n n' : Nat} {M M' : ew_Mem} {Q : Option ew_AV → Nat → ew_Mem → Prop} {a0 a1 a2 : ew_AV} {v : ew_AV} (hc : ew_cod k = C) (h : ew_lk C pc = some (.invokevirtual i, nx, k', 3, 1)) (hk : ew_ck k k' [a0, a1, a2] S = true) (ho : ew_hd (ew_rcv k') n [a0, a1, a2] = true) (hF : ew_VM k' [a0, a1, a2] n M n' M') (kk : ew_X k nx L S n' M' Q) : ew_X k pc L (a2 :: a1 :: a0 :: S) n M Q :=
  xr_vC_3 hc h hk ho hF (fun w n2 M2 q => by obtain ⟨rfl, rfl, rfl⟩ := q; exact kk)
theorem xr_iC_3 {k pc nx k' i : Nat} {C : List ew_Ent} {L S : List ew_AV} {n : Nat} {M : ew_Mem} {Q Q1 : Option ew_AV → Nat → ew_Mem → Prop} {a0 a1 a2 : ew_AV}  (hc : ew_cod k = C) (h : ew_lk C pc = some (.invokespecial i, nx, k', 3, 2)) (hk : ew_ck k k' [a0, a1, a2] S = true) (ho : ew_hd (ew_rcv k') n [a0, a1, a2] = true) (hF : ew_C k' [a0, a1, a2] n M Q1) (kk : ∀ w n2 M2, Q1 w n2 M2 → ew_X k nx L (w.toList ++ S) n2 M2 Q) : ew_X k pc L (a2 :: a1 :: a0 :: S) n M Q :=
  ew_X.callv ((ew_stp_of hc h L _ n M).trans (ew_inv_go (Or.inr (Or.inr ⟨Or.inr (Or.inl rfl), ho⟩)) hk rfl rfl (by simp))) hF kk
theorem xr_iv_3 {k pc nx k' i : Nat} {C : List ew_Ent} {L S : List ew_AV} {n n' : Nat} {M M' : ew_Mem} {Q : Option ew_AV → Nat → ew_Mem → Prop} {a0 a1 a2 : ew_AV} {v : ew_AV} (hc : ew_cod k = C) (h : ew_lk C pc = some (.invokespecial i, nx, k', 3, 2)) (hk : ew_ck k k' [a0, a1, a2] S = true) (ho : ew_hd (ew_rcv k') n [a0, a1, a2] = true) (hF : ew_VM k' [a0, a1, a2] n M n' M') (kk : ew_X k nx L S n' M' Q) : ew_X k pc L (a2 :: a1 :: a0 :: S) n M Q :=
  xr_iC_3 hc h hk ho hF (fun w n2 M2 q => by obtain ⟨rfl, rfl, rfl⟩ := q; exact kk)
theorem xr_sC_4 {k pc nx k' i : Nat} {C : List ew_Ent} {L S : List ew_AV} {n : Nat} {M : ew_Mem} {Q Q1 : Option ew_AV → Nat → ew_Mem → Prop} {a0 a1 a2 a3 : ew_AV}  (hc : ew_cod k = C) (h : ew_lk C pc = some (.invokestatic i, nx, k', 4, 0)) (hk : ew_ck k k' [a0, a1, a2, a3] S = true) (hF : ew_C k' [a0, a1, a2, a3] n M Q1) (kk : ∀ w n2 M2, Q1 w n2 M2 → ew_X k nx L (w.toList ++ S) n2 M2 Q) : ew_X k pc L (a3 :: a2 :: a1 :: a0 :: S) n M Q :=
  ew_X.callv ((ew_stp_of hc h L _ n M).trans (ew_inv_go (Or.inl rfl) hk rfl rfl (by simp))) hF kk
theorem xr_s_4 {k pc nx k' i : Nat} {C : List ew_Ent} {L S : List ew_AV} {n n' : Nat} {M M' : ew_Mem} {Q : Option ew_AV → Nat → ew_Mem → Prop} {a0 a1 a2 a3 : ew_AV} {v : ew_AV} (hc : ew_cod k = C) (h : ew_lk C pc = some (.invokestatic i, nx, k', 4, 0)) (hk : ew_ck k k' [a0, a1, a2, a3] S = true) (hF : ew_FM k' [a0, a1, a2, a3] n M v n' M') (kk : ew_X k nx L (v :: S) n' M' Q) : ew_X k pc L (a3 :: a2 :: a1 :: a0 :: S) n M Q :=
  xr_sC_4 hc h hk hF (fun w n2 M2 q => by obtain ⟨rfl, rfl, rfl⟩ := q; exact kk)
theorem xr_vC_4 {k pc nx k' i : Nat} {C : List ew_Ent} {L S : List ew_AV} {n : Nat} {M : ew_Mem} {Q Q1 : Option ew_AV → Nat → ew_Mem → Prop} {a0 a1 a2 a3 : ew_AV}  (hc : ew_cod k = C) (h : ew_lk C pc = some (.invokevirtual i, nx, k', 4, 1)) (hk : ew_ck k k' [a0, a1, a2, a3] S = true) (ho : ew_hd (ew_rcv k') n [a0, a1, a2, a3] = true) (hF : ew_C k' [a0, a1, a2, a3] n M Q1) (kk : ∀ w n2 M2, Q1 w n2 M2 → ew_X k nx L (w.toList ++ S) n2 M2 Q) : ew_X k pc L (a3 :: a2 :: a1 :: a0 :: S) n M Q :=
  ew_X.callv ((ew_stp_of hc h L _ n M).trans (ew_inv_go (Or.inr (Or.inr ⟨Or.inl rfl, ho⟩)) hk rfl rfl (by simp))) hF kk
theorem xr_v_4 {k pc nx k' i : Nat} {C : List ew_Ent} {L S : List ew_AV} {n n' : Nat} {M M' : ew_Mem} {Q : Option ew_AV → Nat → ew_Mem → Prop} {a0 a1 a2 a3 : ew_AV} {v : ew_AV} (hc : ew_cod k = C) (h : ew_lk C pc = some (.invokevirtual i, nx, k', 4, 1)) (hk : ew_ck k k' [a0, a1, a2, a3] S = true) (ho : ew_hd (ew_rcv k') n [a0, a1, a2, a3] = true) (hF : ew_FM k' [a0, a1, a2, a3] n M v n' M') (kk : ew_X k nx L (v :: S) n' M' Q) : ew_X k pc L (a3 :: a2 :: a1 :: a0 :: S) n M Q :=
  xr_vC_4 hc h hk ho hF (fun w n2 M2 q => by obtain ⟨rfl, rfl, rfl⟩ := q; exact kk)
theorem xr_vv_4 {k pc nx k' i : Nat} {C : List ew_Ent} {L S : List ew_AV} {n n' : Nat} {M M' : ew_Mem} {Q : Option ew_AV → Nat → ew_Mem → Prop} {a0 a1 a2 a3 : ew_AV} {v : ew_AV} (hc : ew_cod k = C) (h : ew_lk C pc = some (.invokevirtual i, nx, k', 4, 1)) (hk : ew_ck k k' [a0, a1, a2, a3] S = true) (ho : ew_hd (ew_rcv k') n [a0, a1, a2, a3] = true) (hF : ew_VM k' [a0, a1, a2, a3] n M n' M') (kk : ew_X k nx L S n' M' Q) : ew_X k pc L (a3 :: a2 :: a1 :: a0 :: S) n M Q :=
  xr_vC_4 hc h hk ho hF (fun w n2 M2 q => by obtain ⟨rfl, rfl, rfl⟩ := q; exact kk)
theorem xr_iC_4 {k pc nx k' i : Nat} {C : List ew_Ent} {L S : List ew_AV} {n : Nat} {M : ew_Mem} {Q Q1 : Option ew_AV → Nat → ew_Mem → Prop} {a0 a1 a2 a3 : ew_AV}  (hc : ew_cod k = C) (h : ew_lk C pc = some (.invokespecial i, nx, k', 4, 2)) (hk : ew_ck k k' [a0, a1, a2, a3] S = true) (ho : ew_hd (ew_rcv k') n [a0, a1, a2, a3] = true) (hF : ew_C k' [a0, a1, a2, a3] n M Q1) (kk : ∀ w n2 M2, Q1 w n2 M2 → ew_X k nx L (w.toList ++ S) n2 M2 Q) : ew_X k pc L (a3 :: a2 :: a1 :: a0 :: S) n M Q :=
  ew_X.callv ((ew_stp_of hc h L _ n M).trans (ew_inv_go (Or.inr (Or.inr ⟨Or.inr (Or.inl rfl), ho⟩)) hk rfl rfl (by simp))) hF kk
theorem xr_iv_4 {k pc nx k' i : Nat} {C : List ew_Ent} {L S : List ew_AV} {n n' : Nat} {M M' : ew_Mem} {Q : Option ew_AV → Nat → ew_Mem → Prop} {a0 a1 a2 a3 : ew_AV} {v : ew_AV} (hc : ew_cod k = C) (h : ew_lk C pc = some (.invokespecial i, nx, k', 4, 2)) (hk : ew_ck k k' [a0, a1, a2, a3] S = true) (ho : ew_hd (ew_rcv k') n [a0, a1, a2, a3] = true) (hF : ew_VM k' [a0, a1, a2, a3] n M n' M') (kk : ew_X k nx L S n' M' Q) : ew_X k pc L (a3 :: a2 :: a1 :: a0 :: S) n M Q :=
  xr_iC_4 hc h hk ho hF (fun w n2 M2 q => by obtain ⟨rfl, rfl, rfl⟩ := q; exact kk)
theorem xr_sC_5 {k pc nx k' i : Nat} {C : List ew_Ent} {L S : List ew_AV} {n : Nat} {M : ew_Mem} {Q Q1 : Option ew_AV → Nat → ew_Mem → Prop} {a0 a1 a2 a3 a4 : ew_AV}  (hc : ew_cod k = C) (h : ew_lk C pc = some (.invokestatic i, nx, k', 5, 0)) (hk : ew_ck k k' [a0, a1, a2, a3, a4] S = true) (hF : ew_C k' [a0, a1, a2, a3, a4] n M Q1) (kk : ∀ w n2 M2, Q1 w n2 M2 → ew_X k nx L (w.toList ++ S) n2 M2 Q) : ew_X k pc L (a4 :: a3 :: a2 :: a1 :: a0 :: S) n M Q :=
  ew_X.callv ((ew_stp_of hc h L _ n M).trans (ew_inv_go (Or.inl rfl) hk rfl rfl (by simp))) hF kk
theorem xr_s_5 {k pc nx k' i : Nat} {C : List ew_Ent} {L S : List ew_AV} {n n' : Nat} {M M' : ew_Mem} {Q : Option ew_AV → Nat → ew_Mem → Prop} {a0 a1 a2 a3 a4 : ew_AV} {v : ew_AV} (hc : ew_cod k = C) (h : ew_lk C pc = some (.invokestatic i, nx, k', 5, 0)) (hk : ew_ck k k' [a0, a1, a2, a3, a4] S = true) (hF : ew_FM k' [a0, a1, a2, a3, a4] n M v n' M') (kk : ew_X k nx L (v :: S) n' M' Q) : ew_X k pc L (a4 :: a3 :: a2 :: a1 :: a0 :: S) n M Q :=
  xr_sC_5 hc h hk hF (fun w n2 M2 q => by obtain ⟨rfl, rfl, rfl⟩ := q; exact kk)
theorem xr_vC_5 {k pc nx k' i : Nat} {C : List ew_Ent} {L S : List ew_AV} {n : Nat} {M : ew_Mem} {Q Q1 : Option ew_AV → Nat → ew_Mem → Prop} {a0 a1 a2 a3 a4 : ew_AV}  (hc : ew_cod k = C) (h : ew_lk C pc = some (.invokevirtual i, nx, k', 5, 1)) (hk : ew_ck k k' [a0, a1, a2, a3, a4] S = true) (ho : ew_hd (ew_rcv k') n [a0, a1, a2, a3, a4] = true) (hF : ew_C k' [a0, a1, a2, a3, a4] n M Q1) (kk : ∀ w n2 M2, Q1 w n2 M2 → ew_X k nx L (w.toList ++ S) n2 M2 Q) : ew_X k pc L (a4 :: a3 :: a2 :: a1 :: a0 :: S) n M Q :=
  ew_X.callv ((ew_stp_of hc h L _ n M).trans (ew_inv_go (Or.inr (Or.inr ⟨Or.inl rfl, ho⟩)) hk rfl rfl (by simp))) hF kk
theorem xr_v_5 {k pc nx k' i : Nat} {C : List ew_Ent} {L S : List ew_AV} {n n' : Nat} {M M' : ew_Mem} {Q : Option ew_AV → Nat → ew_Mem → Prop} {a0 a1 a2 a3 a4 : ew_AV} {v : ew_AV} (hc : ew_cod k = C) (h : ew_lk C pc = some (.invokevirtual i, nx, k', 5, 1)) (hk : ew_ck k k' [a0, a1, a2, a3, a4] S = true) (ho : ew_hd (ew_rcv k') n [a0, a1, a2, a3, a4] = true) (hF : ew_FM k' [a0, a1, a2, a3, a4] n M v n' M') (kk : ew_X k nx L (v :: S) n' M' Q) : ew_X k pc L (a4 :: a3 :: a2 :: a1 :: a0 :: S) n M Q :=
  xr_vC_5 hc h hk ho hF (fun w n2 M2 q => by obtain ⟨rfl, rfl, rfl⟩ := q; exact kk)
theorem xr_vv_5 {k pc nx k' i : Nat} {C : List ew_Ent} {L S : List ew_AV} {n n' : Nat} {M M' : ew_Mem} {Q : Option ew_AV → Nat → ew_Mem → Prop} {a0 a1 a2 a3 a4 : ew_AV} {v : ew_AV} (hc : ew_cod k = C) (h : ew_lk C pc = some (.invokevirtual i, nx, k', 5, 1)) (hk : ew_ck k k' [a0, a1, a2, a3, a4] S = true) (ho : ew_hd (ew_rcv k') n [a0, a1, a2, a3, a4] = true) (hF : ew_VM k' [a0, a1, a2, a3, a4] n M n' M') (kk : ew_X k nx L S n' M' Q) : ew_X k pc L (a4 :: a3 :: a2 :: a1 :: a0 :: S) n M Q :=
  xr_vC_5 hc h hk ho hF (fun w n2 M2 q => by obtain ⟨rfl, rfl, rfl⟩ := q; exact kk)
theorem xr_iC_5 {k pc nx k' i : Nat} {C : List ew_Ent} {L S : List ew_AV} {n : Nat} {M : ew_Mem} {Q Q1 : Option ew_AV → Nat → ew_Mem → Prop} {a0 a1 a2 a3 a4 : ew_AV}  (hc : ew_cod k = C) (h : ew_lk C pc = some (.invokespecial i, nx, k', 5, 2)) (hk : ew_ck k k' [a0, a1, a2, a3, a4] S = true) (ho : ew_hd (ew_rcv k') n [a0, a1, a2, a3, a4] = true) (hF : ew_C k' [a0, a1, a2, a3, a4] n M Q1) (kk : ∀ w n2 M2, Q1 w n2 M2 → ew_X k nx L (w.toList ++ S) n2 M2 Q) : ew_X k pc L (a4 :: a3 :: a2 :: a1 :: a0 :: S) n M Q :=
  ew_X.callv ((ew_stp_of hc h L _ n M).trans (ew_inv_go (Or.inr (Or.inr ⟨Or.inr (Or.inl rfl), ho⟩)) hk rfl rfl (by simp))) hF kk
theorem xr_iv_5 {k pc nx k' i : Nat} {C : List ew_Ent} {L S : List ew_AV} {n n' : Nat} {M M' : ew_Mem} {Q : Option ew_AV → Nat → ew_Mem → Prop} {a0 a1 a2 a3 a4 : ew_AV} {v : ew_AV} (hc : ew_cod k = C) (h : ew_lk C pc = some (.invokespecial i, nx, k', 5, 2)) (hk : ew_ck k k' [a0, a1, a2, a3, a4] S = true) (ho : ew_hd (ew_rcv k') n [a0, a1, a2, a3, a4] = true) (hF : ew_VM k' [a0, a1, a2, a3, a4] n M n' M') (kk : ew_X k nx L S n' M' Q) : ew_X k pc L (a4 :: a3 :: a2 :: a1 :: a0 :: S) n M Q :=
  xr_iC_5 hc h hk ho hF (fun w n2 M2 q => by obtain ⟨rfl, rfl, rfl⟩ := q; exact kk)
theorem xr_sC_6 {k pc nx k' i : Nat} {C : List ew_Ent} {L S : List ew_AV} {n : Nat} {M : ew_Mem} {Q Q1 : Option ew_AV → Nat → ew_Mem → Prop} {a0 a1 a2 a3 a4 a5 : ew_AV}  (hc : ew_cod k = C) (h : ew_lk C pc = some (.invokestatic i, nx, k', 6, 0)) (hk : ew_ck k k' [a0, a1, a2, a3, a4, a5] S = true) (hF : ew_C k' [a0, a1, a2, a3, a4, a5] n M Q1) (kk : ∀ w n2 M2, Q1 w n2 M2 → ew_X k nx L (w.toList ++ S) n2 M2 Q) : ew_X k pc L (a5 :: a4 :: a3 :: a2 :: a1 :: a0 :: S) n M Q :=
  ew_X.callv ((ew_stp_of hc h L _ n M).trans (ew_inv_go (Or.inl rfl) hk rfl rfl (by simp))) hF kk
theorem xr_s_6 {k pc nx k' i : Nat} {C : List ew_Ent} {L S : List ew_AV} {n n' : Nat} {M M' : ew_Mem} {Q : Option ew_AV → Nat → ew_Mem → Prop} {a0 a1 a2 a3 a4 a5 : ew_AV} {v : ew_AV} (hc : ew_cod k = C) (h : ew_lk C pc = some (.invokestatic i, nx, k', 6, 0)) (hk : ew_ck k k' [a0, a1, a2, a3, a4, a5] S = true) (hF : ew_FM k' [a0, a1, a2, a3, a4, a5] n M v n' M') (kk : ew_X k nx L (v :: S) n' M' Q) : ew_X k pc L (a5 :: a4 :: a3 :: a2 :: a1 :: a0 :: S) n M Q :=
  xr_sC_6 hc h hk hF (fun w n2 M2 q => by obtain ⟨rfl, rfl, rfl⟩ := q; exact kk)
theorem xr_vC_6 {k pc nx k' i : Nat} {C : List ew_Ent} {L S : List ew_AV} {n : Nat} {M : ew_Mem} {Q Q1 : Option ew_AV → Nat → ew_Mem → Prop} {a0 a1 a2 a3 a4 a5 : ew_AV}  (hc : ew_cod k = C) (h : ew_lk C pc = some (.invokevirtual i, nx, k', 6, 1)) (hk : ew_ck k k' [a0, a1, a2, a3, a4, a5] S = true) (ho : ew_hd (ew_rcv k') n [a0, a1, a2, a3, a4, a5] = true) (hF : ew_C k' [a0, a1, a2, a3, a4, a5] n M Q1) (kk : ∀ w n2 M2, Q1 w n2 M2 → ew_X k nx L (w.toList ++ S) n2 M2 Q) : ew_X k pc L (a5 :: a4 :: a3 :: a2 :: a1 :: a0 :: S) n M Q :=
  ew_X.callv ((ew_stp_of hc h L _ n M).trans (ew_inv_go (Or.inr (Or.inr ⟨Or.inl rfl, ho⟩)) hk rfl rfl (by simp))) hF kk
theorem xr_v_6 {k pc nx k' i : Nat} {C : List ew_Ent} {L S : List ew_AV} {n n' : Nat} {M M' : ew_Mem} {Q : Option ew_AV → Nat → ew_Mem → Prop} {a0 a1 a2 a3 a4 a5 : ew_AV} {v : ew_AV} (hc : ew_cod k = C) (h : ew_lk C pc = some (.invokevirtual i, nx, k', 6, 1)) (hk : ew_ck k k' [a0, a1, a2, a3, a4, a5] S = true) (ho : ew_hd (ew_rcv k') n [a0, a1, a2, a3, a4, a5] = true) (hF : ew_FM k' [a0, a1, a2, a3, a4, a5] n M v n' M') (kk : ew_X k nx L (v :: S) n' M' Q) : ew_X k pc L (a5 :: a4 :: a3 :: a2 :: a1 :: a0 :: S) n M Q :=
  xr_vC_6 hc h hk ho hF (fun w n2 M2 q => by obtain ⟨rfl, rfl, rfl⟩ := q; exact kk)
theorem xr_vv_6 {k pc nx k' i : Nat} {C : List ew_Ent} {L S : List ew_AV} {n n' : Nat} {M M' : ew_Mem} {Q : Option ew_AV → Nat → ew_Mem → Prop} {a0 a1 a2 a3 a4 a5 : ew_AV} {v : ew_AV} (hc : ew_cod k = C) (h : ew_lk C pc = some (.invokevirtual i, nx, k', 6, 1)) (hk : ew_ck k k' [a0, a1, a2, a3, a4, a5] S = true) (ho : ew_hd (ew_rcv k') n [a0, a1, a2, a3, a4, a5] = true) (hF : ew_VM k' [a0, a1, a2, a3, a4, a5] n M n' M') (kk : ew_X k nx L S n' M' Q) : ew_X k pc L (a5 :: a4 :: a3 :: a2 :: a1 :: a0 :: S) n M Q :=
  xr_vC_6 hc h hk ho hF (fun w n2 M2 q => by obtain ⟨rfl, rfl, rfl⟩ := q; exact kk)
theorem xr_iC_6 {k pc nx k' i : Nat} {C : List ew_Ent} {L S : List ew_AV} {n : Nat} {M : ew_Mem} {Q Q1 : Option ew_AV → Nat → ew_Mem → Prop} {a0 a1 a2 a3 a4 a5 : ew_AV}  (hc : ew_cod k = C) (h : ew_lk C pc = some (.invokespecial i, nx, k', 6, 2)) (hk : ew_ck k k' [a0, a1, a2, a3, a4, a5] S = true) (ho : ew_hd (ew_rcv k') n [a0, a1, a2, a3, a4, a5] = true) (hF : ew_C k' [a0, a1, a2, a3, a4, a5] n M Q1) (kk : ∀ w n2 M2, Q1 w n2 M2 → ew_X k nx L (w.toList ++ S) n2 M2 Q) : ew_X k pc L (a5 :: a4 :: a3 :: a2 :: a1 :: a0 :: S) n M Q :=
  ew_X.callv ((ew_stp_of hc h L _ n M).trans (ew_inv_go (Or.inr (Or.inr ⟨Or.inr (Or.inl rfl), ho⟩)) hk rfl rfl (by simp))) hF kk
theorem xr_iv_6 {k pc nx k' i : Nat} {C : List ew_Ent} {L S : List ew_AV} {n n' : Nat} {M M' : ew_Mem} {Q : Option ew_AV → Nat → ew_Mem → Prop} {a0 a1 a2 a3 a4 a5 : ew_AV} {v : ew_AV} (hc : ew_cod k = C) (h : ew_lk C pc = some (.invokespecial i, nx, k', 6, 2)) (hk : ew_ck k k' [a0, a1, a2, a3, a4, a5] S = true) (ho : ew_hd (ew_rcv k') n [a0, a1, a2, a3, a4, a5] = true) (hF : ew_VM k' [a0, a1, a2, a3, a4, a5] n M n' M') (kk : ew_X k nx L S n' M' Q) : ew_X k pc L (a5 :: a4 :: a3 :: a2 :: a1 :: a0 :: S) n M Q :=
  xr_iC_6 hc h hk ho hF (fun w n2 M2 q => by obtain ⟨rfl, rfl, rfl⟩ := q; exact kk)
theorem xr_sC_7 {k pc nx k' i : Nat} {C : List ew_Ent} {L S : List ew_AV} {n : Nat} {M : ew_Mem} {Q Q1 : Option ew_AV → Nat → ew_Mem → Prop} {a0 a1 a2 a3 a4 a5 a6 : ew_AV}  (hc : ew_cod k = C) (h : ew_lk C pc = some (.invokestatic i, nx, k', 7, 0)) (hk : ew_ck k k' [a0, a1, a2, a3, a4, a5, a6] S = true) (hF : ew_C k' [a0, a1, a2, a3, a4, a5, a6] n M Q1) (kk : ∀ w n2 M2, Q1 w n2 M2 → ew_X k nx L (w.toList ++ S) n2 M2 Q) : ew_X k pc L (a6 :: a5 :: a4 :: a3 :: a2 :: a1 :: a0 :: S) n M Q :=
  ew_X.callv ((ew_stp_of hc h L _ n M).trans (ew_inv_go (Or.inl rfl) hk rfl rfl (by simp))) hF kk
theorem xr_s_7 {k pc nx k' i : Nat} {C : List ew_Ent} {L S : List ew_AV} {n n' : Nat} {M M' : ew_Mem} {Q : Option ew_AV → Nat → ew_Mem → Prop} {a0 a1 a2 a3 a4 a5 a6 : ew_AV} {v : ew_AV} (hc : ew_cod k = C) (h : ew_lk C pc = some (.invokestatic i, nx, k', 7, 0)) (hk : ew_ck k k' [a0, a1, a2, a3, a4, a5, a6] S = true) (hF : ew_FM k' [a0, a1, a2, a3, a4, a5, a6] n M v n' M') (kk : ew_X k nx L (v :: S) n' M' Q) : ew_X k pc L (a6 :: a5 :: a4 :: a3 :: a2 :: a1 :: a0 :: S) n M Q :=
  xr_sC_7 hc h hk hF (fun w n2 M2 q => by obtain ⟨rfl, rfl, rfl⟩ := q; exact kk)
theorem xr_vC_7 {k pc nx k' i : Nat} {C : List ew_Ent} {L S : List ew_AV} {n : Nat} {M : ew_Mem} {Q Q1 : Option ew_AV → Nat → ew_Mem → Prop} {a0 a1 a2 a3 a4 a5 a6 : ew_AV}  (hc : ew_cod k = C) (h : ew_lk C pc = some (.invokevirtual i, nx, k', 7, 1)) (hk : ew_ck k k' [a0, a1, a2, a3, a4, a5, a6] S = true) (ho : ew_hd (ew_rcv k') n [a0, a1, a2, a3, a4, a5, a6] = true) (hF : ew_C k' [a0, a1, a2, a3, a4, a5, a6] n M Q1) (kk : ∀ w n2 M2, Q1 w n2 M2 → ew_X k nx L (w.toList ++ S) n2 M2 Q) : ew_X k pc L (a6 :: a5 :: a4 :: a3 :: a2 :: a1 :: a0 :: S) n M Q :=
  ew_X.callv ((ew_stp_of hc h L _ n M).trans (ew_inv_go (Or.inr (Or.inr ⟨Or.inl rfl, ho⟩)) hk rfl rfl (by simp))) hF kk
theorem xr_v_7 {k pc nx k' i : Nat} {C : List ew_Ent} {L S : List ew_AV} {n n' : Nat} {M M' : ew_Mem} {Q : Option ew_AV → Nat → ew_Mem → Prop} {a0 a1 a2 a3 a4 a5 a6 : ew_AV} {v : ew_AV} (hc : ew_cod k = C) (h : ew_lk C pc = some (.invokevirtual i, nx, k', 7, 1)) (hk : ew_ck k k' [a0, a1, a2, a3, a4, a5, a6] S = true) (ho : ew_hd (ew_rcv k') n [a0, a1, a2, a3, a4, a5, a6] = true) (hF : ew_FM k' [a0, a1, a2, a3, a4, a5, a6] n M v n' M') (kk : ew_X k nx L (v :: S) n' M' Q) : ew_X k pc L (a6 :: a5 :: a4 :: a3 :: a2 :: a1 :: a0 :: S) n M Q :=
  xr_vC_7 hc h hk ho hF (fun w n2 M2 q => by obtain ⟨rfl, rfl, rfl⟩ := q; exact kk)
theorem xr_vv_7 {k pc nx k' i : Nat} {C : List ew_Ent} {L S : List ew_AV} {n n' : Nat} {M M' : ew_Mem} {Q : Option ew_AV → Nat → ew_Mem → Prop} {a0 a1 a2 a3 a4 a5 a6 : ew_AV} {v : ew_AV} (hc : ew_cod k = C) (h : ew_lk C pc = some (.invokevirtual i, nx, k', 7, 1)) (hk : ew_ck k k' [a0, a1, a2, a3, a4, a5, a6] S = true) (ho : ew_hd (ew_rcv k') n [a0, a1, a2, a3, a4, a5, a6] = true) (hF : ew_VM k' [a0, a1, a2, a3, a4, a5, a6] n M n' M') (kk : ew_X k nx L S n' M' Q) : ew_X k pc L (a6 :: a5 :: a4 :: a3 :: a2 :: a1 :: a0 :: S) n M Q :=
  xr_vC_7 hc h hk ho hF (fun w n2 M2 q => by obtain ⟨rfl, rfl, rfl⟩ := q; exact kk)
theorem xr_iC_7 {k pc nx k' i : Nat} {C : List ew_Ent} {L S : List ew_AV} {n : Nat} {M : ew_Mem} {Q Q1 : Option ew_AV → Nat → ew_Mem → Prop} {a0 a1 a2 a3 a4 a5 a6 : ew_AV}  (hc : ew_cod k = C) (h : ew_lk C pc = some (.invokespecial i, nx, k', 7, 2)) (hk : ew_ck k k' [a0, a1, a2, a3, a4, a5, a6] S = true) (ho : ew_hd (ew_rcv k') n [a0, a1, a2, a3, a4, a5, a6] = true) (hF : ew_C k' [a0, a1, a2, a3, a4, a5, a6] n M Q1) (kk : ∀ w n2 M2, Q1 w n2 M2 → ew_X k nx L (w.toList ++ S) n2 M2 Q) : ew_X k pc L (a6 :: a5 :: a4 :: a3 :: a2 :: a1 :: a0 :: S) n M Q :=
  ew_X.callv ((ew_stp_of hc h L _ n M).trans (ew_inv_go (Or.inr (Or.inr ⟨Or.inr (Or.inl rfl), ho⟩)) hk rfl rfl (by simp))) hF kk
theorem xr_iv_7 {k pc nx k' i : Nat} {C : List ew_Ent} {L S : List ew_AV} {n n' : Nat} {M M' : ew_Mem} {Q : Option ew_AV → Nat → ew_Mem → Prop} {a0 a1 a2 a3 a4 a5 a6 : ew_AV} {v : ew_AV} (hc : ew_cod k = C) (h : ew_lk C pc = some (.invokespecial i, nx, k', 7, 2)) (hk : ew_ck k k' [a0, a1, a2, a3, a4, a5, a6] S = true) (ho : ew_hd (ew_rcv k') n [a0, a1, a2, a3, a4, a5, a6] = true) (hF : ew_VM k' [a0, a1, a2, a3, a4, a5, a6] n M n' M') (kk : ew_X k nx L S n' M' Q) : ew_X k pc L (a6 :: a5 :: a4 :: a3 :: a2 :: a1 :: a0 :: S) n M Q :=
  xr_iC_7 hc h hk ho hF (fun w n2 M2 q => by obtain ⟨rfl, rfl, rfl⟩ := q; exact kk)
