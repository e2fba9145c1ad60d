
/-! words of 32 bits -/
abbrev ew_fw (x : Int) : Prop := 0 ≤ x ∧ x ≤ 2139095040
theorem fl_tn32 {x : Int} (h : 0 ≤ x ∧ x < 4294967296) : (ew_f x).toNat = x.toNat := UInt32.toNat_ofNat_of_lt' (by show x.toNat < 4294967296; omega)
theorem fl_eu32 (r : UInt32) : ew_f (ew_uf r) = r := by
  show UInt32.ofNat ((r.toNat : Int)).toNat = r
  rw [Int.toNat_natCast, UInt32.ofNat_toNat]
theorem fl_nn32 {x : Int} (h : ew_fw x) : FP.Core.val32 (ew_f x) ≠ .nan := (FP.Core.ne_nan32 _).mpr (by rw [fl_tn32 (by omega)]; omega)
theorem fl_no32 {x : Int} (h : ew_fw x) : FP.Core.fIsNaN (ew_f x) = false := (FP.Core.notNaN_iff32 _).mpr (fl_nn32 h)
theorem fl_fin32 {x : Int} (h : 0 ≤ x ∧ x < 2139095040) : FP.Core.FFin (ew_f x) := (FP.Core.fin_bits32 _).mpr (by rw [fl_tn32 (by omega)]; omega)
theorem fl_nz32 {x : Int} (h : 0 < x ∧ x < 2139095040) : ¬ FP.Core.FZero (ew_f x) := fun q => by
  have := (FP.Core.zero_bits232 _).mp q
  rw [fl_tn32 (by omega)] at this
  omega
theorem fl_key32 {x : Int} (h : ew_fw x) : FP.Core.fkey (ew_f x) = x := by
  unfold FP.Core.fkey
  rw [fl_tn32 (by omega), if_neg (by omega)]
  omega
theorem fl_cmp32 {x y : Int} (hx : ew_fw x) (hy : ew_fw y) : FP.fcmp (ew_f x) (ew_f y) = some (compare x y) := by
  have h := FP.Core.fcmp_key (fl_nn32 hx) (fl_nn32 hy)
  rw [fl_key32 hx, fl_key32 hy] at h
  exact h
theorem fl_cv32 {x y : Int} (hx : ew_fw x) (hy : ew_fw y) (op : CmpOp) : (Op.cmpValue (FP.fcmp (ew_f x) (ew_f y)) op).toInt = if x < y then -1 else if x = y then 0 else 1 := by
  rw [fl_cmp32 hx hy]
  have h : compare x y = if x < y then .lt else if x = y then .eq else .gt := rfl
  rw [h]
  by_cases h1 : x < y
  · rw [if_pos h1, if_pos h1]
    rfl
  · rw [if_neg h1, if_neg h1]
    by_cases h2 : x = y
    · rw [if_pos h2, if_pos h2]
      rfl
    · rw [if_neg h2, if_neg h2]
      rfl
theorem fl_nf32 {r : UInt32} (h : FP.Core.fIsNaN r = false) : ew_nf r = true := by
  have h1 : ¬ (2139095040 < r.toNat % 2 ^ 31) := fun q => by
    have := (FP.Core.isNaN_bits32 r).mpr q
    rw [h] at this
    exact Bool.noConfusion this
  unfold ew_nf
  rw [decide_eq_true_iff, UInt32.le_iff_toNat_le, UInt32.toNat_and]
  show r.toNat &&& (2 ^ 31 - 1) ≤ 2139095040
  rw [Nat.and_two_pow_sub_one_eq_mod]
  omega
theorem fl_tmul32 (a b : UInt32) : (FP.fmul a b).toNat = FP.Core.mul FP.Core.b32 a.toNat b.toNat := FP.Core.toNat_of32 (FP.Core.round_fits FP.Core.good_b32 _)
theorem fl_tsub32 (a b : UInt32) : (FP.fsub a b).toNat = FP.Core.sub FP.Core.b32 a.toNat b.toNat := FP.Core.toNat_of32 (FP.Core.round_fits FP.Core.good_b32 _)
theorem fl_tdiv32 (a b : UInt32) : (FP.fdiv a b).toNat = FP.Core.div FP.Core.b32 a.toNat b.toNat := FP.Core.toNat_of32 (FP.Core.quotient_fits FP.Core.good_b32 _ _)
theorem fl_b32 : FP.Core.b32.tails = 8388608 ∧ FP.Core.b32.emax = 127 ∧ FP.Core.b32.exps = 256 ∧ FP.Core.b32.p - 1 = 23 ∧ FP.Core.b32.qmin = -149 := by decide
theorem fl_m232 {x : Int} (h : 8388608 ≤ x ∧ x < 253 * 8388608) : ew_uf (FP.fmul (ew_f x) (ew_f 1073741824)) = x + 8388608 := by
  obtain ⟨b1, b2, b3, -⟩ := fl_b32
  have e := fl_mul2 FP.Core.good_b32 (E := x.toNat / 8388608) (t := x.toNat % 8388608) (by omega) (by rw [b3]; omega) (by rw [b1]; omega)
  rw [b1, b2, show x.toNat / 8388608 * 8388608 + x.toNat % 8388608 = x.toNat by omega] at e
  show ((FP.fmul (ew_f x) (ew_f 1073741824)).toNat : Int) = _
  rw [fl_tmul32, fl_tn32 (by omega), fl_tn32 (by decide), show (1073741824 : Int).toNat = (127 + 1) * 8388608 + 0 from rfl, e]
  omega
theorem fl_d232 {x : Int} (h : 2 * 8388608 ≤ x ∧ x < 2139095040) : ew_uf (FP.fdiv (ew_f x) (ew_f 1073741824)) = x - 8388608 := by
  obtain ⟨b1, b2, b3, -⟩ := fl_b32
  have e := fl_div2 FP.Core.good_b32 (E := x.toNat / 8388608) (t := x.toNat % 8388608) (by omega) (by rw [b3]; omega) (by rw [b1]; omega)
  rw [b1, b2, show x.toNat / 8388608 * 8388608 + x.toNat % 8388608 = x.toNat by omega] at e
  show ((FP.fdiv (ew_f x) (ew_f 1073741824)).toNat : Int) = _
  rw [fl_tdiv32, fl_tn32 (by omega), fl_tn32 (by decide), show (1073741824 : Int).toNat = (127 + 1) * 8388608 + 0 from rfl, e]
  omega
theorem fl_t32 {x : Int} (h : 1065353216 ≤ x ∧ x < 1073741824) : (FP.f2i (ew_f (ew_uf (FP.fmul (ew_f (ew_uf (FP.fsub (ew_f x) (ew_f 1065353216)))) (ew_f 1258291200))))).toInt = x - 1065353216 := by
  obtain ⟨b1, b2, b3, b4, -⟩ := fl_b32
  have e := fl_tail FP.Core.good_b32 FP.Core.wide_b32 (t := (x - 1065353216).toNat) (by rw [b1]; omega)
  rw [b1, b2, b4] at e
  rw [fl_eu32, fl_eu32]
  have hi : (ew_i (x - 1065353216)).toInt = x - 1065353216 := ew_i_in ⟨by omega, by omega⟩
  have hw : FP.Core.FInt (ew_i (x - 1065353216)).toInt (FP.fmul (FP.fsub (ew_f x) (ew_f 1065353216)) (ew_f 1258291200)) := by
    show FP.Core.Whole _ (FP.Core.decode FP.Core.b32 (FP.fmul (FP.fsub (ew_f x) (ew_f 1065353216)) (ew_f 1258291200)).toNat)
    rw [hi, fl_tmul32, fl_tsub32, fl_tn32 (by omega), fl_tn32 (by decide), fl_tn32 (by decide), show (1065353216 : Int).toNat = 127 * 8388608 + 0 from rfl, show (1258291200 : Int).toNat = (127 + 23) * 8388608 + 0 from rfl, show x.toNat = 127 * 8388608 + (x - 1065353216).toNat by omega, show x - 1065353216 = (((x - 1065353216).toNat : Nat) : Int) by omega]
    rw [Int.toNat_natCast]
    exact e
  have hg := FP.Core.f2i_int hw
  show (FP.Core.f2i _).toInt = _
  rw [hg, hi]
/-- a quotient's word -/
theorem fl_rat32 {r : UInt32} {A D j : Nat} (hr : FP.Core.val32 r = FP.Core.roundRatio FP.Core.b32 false A D 0) (hD : 0 < D) (h1 : A ≤ 2 ^ j * D) (hj : j < 127) (h2 : D ≤ 2 ^ 20 * A) : 8388608 ≤ ew_uf r ∧ ew_uf r ≤ (127 + j) * 8388608 := by
  obtain ⟨b1, b2, b3, b4, b5⟩ := fl_b32
  have hn : FP.Core.decode FP.Core.b32 r.toNat = FP.Core.roundRatio FP.Core.b32 false A D 0 := hr
  have g1 := fl_le FP.Core.good_b32 (K := 127 + j) (j := j) hn hD (by omega) (by rw [b4, b5]; omega) h1
  have g2 := fl_ge FP.Core.good_b32 (l := 20) hn hD (by rw [b4, b5]; decide) h2
  rw [b1, FP.Core.mag_toNat32] at g1 g2
  have hnn : FP.Core.val32 r ≠ .nan := by
    rw [hr]
    exact FP.Core.roundRatio_ne_nan _ _ _ _ _
  have hs := FP.Core.sgn_bits32 hnn
  rw [hr, FP.Core.sgn_roundRatio] at hs
  have hs2 := of_decide_eq_false hs.symm
  have : r.toNat % 2 ^ 31 = r.toNat := Nat.mod_eq_of_lt (by omega)
  rw [this] at g1 g2
  show 8388608 ≤ (r.toNat : Int) ∧ (r.toNat : Int) ≤ _
  omega
section
variable {k pc nx a b : Nat} {C : List ew_Ent} {ins : Instr} {z : Int} {L S : List ew_AV} {n : Nat} {M : ew_Mem} {Q : Option ew_AV → Nat → ew_Mem → Prop}
theorem xr_fmul {x y w : Int} (hc : ew_cod k = C) (h : ew_lk C pc = some (.fmul, nx, a, b, z)) (hn : FP.Core.fIsNaN (FP.fmul (ew_f x) (ew_f y)) = false) (hw : ew_uf (FP.fmul (ew_f x) (ew_f y)) = w) (kk : ew_X k nx L ((3, w) :: S) n M Q) : ew_X k pc L ((3, y) :: (3, x) :: S) n M Q := by
  subst hw
  exact ew_X.step ((ew_stp_of hc h L _ n M).trans (by simp only [ew_stI]; rw [if_pos (fl_nf32 hn)])) kk
theorem xr_fdiv {x y w : Int} (hc : ew_cod k = C) (h : ew_lk C pc = some (.fdiv, nx, a, b, z)) (hn : FP.Core.fIsNaN (FP.fdiv (ew_f x) (ew_f y)) = false) (hw : ew_uf (FP.fdiv (ew_f x) (ew_f y)) = w) (kk : ew_X k nx L ((3, w) :: S) n M Q) : ew_X k pc L ((3, y) :: (3, x) :: S) n M Q := by
  subst hw
  exact ew_X.step ((ew_stp_of hc h L _ n M).trans (by simp only [ew_stI]; rw [if_pos (fl_nf32 hn)])) kk
theorem xr_fsub {x y w : Int} (hc : ew_cod k = C) (h : ew_lk C pc = some (.fsub, nx, a, b, z)) (hn : FP.Core.fIsNaN (FP.fsub (ew_f x) (ew_f y)) = false) (hw : ew_uf (FP.fsub (ew_f x) (ew_f y)) = w) (kk : ew_X k nx L ((3, w) :: S) n M Q) : ew_X k pc L ((3, y) :: (3, x) :: S) n M Q := by
  subst hw
  exact ew_X.step ((ew_stp_of hc h L _ n M).trans (by simp only [ew_stI]; rw [if_pos (fl_nf32 hn)])) kk
theorem xr_i2f {x w : Int} (hc : ew_cod k = C) (h : ew_lk C pc = some (.i2f, nx, a, b, z)) (hw : ew_uf (FP.i2f (ew_i x)) = w) (kk : ew_X k nx L ((3, w) :: S) n M Q) : ew_X k pc L ((0, x) :: S) n M Q := by
  subst hw
  exact ew_X.step (ew_stp_of hc h L _ n M) kk
theorem xr_f2i {x w : Int} (hc : ew_cod k = C) (h : ew_lk C pc = some (.f2i, nx, a, b, z)) (hw : (FP.f2i (ew_f x)).toInt = w) (kk : ew_X k nx L ((0, w) :: S) n M Q) : ew_X k pc L ((3, x) :: S) n M Q := by
  subst hw
  exact ew_X.step (ew_stp_of hc h L _ n M) kk
theorem fl_sg32 (x y : Int) : ew_in (if x < y then -1 else if x = y then 0 else 1) := by
  split
  · decide
  · split <;> decide
theorem xr_f_gt {of x y : Int} {op : CmpOp} {nx0 a0 b0 : Nat} {z0 : Int} (hc : ew_cod k = C) (h0 : ew_lk C pc = some (.fcmp op, nx0, a0, b0, z0)) (h : ew_lk C nx0 = some (.ifCond .gt of, nx, a, b, z)) (rx : ew_fw x) (ry : ew_fw y) (kt : y < x → ew_X k a L S n M Q) (kf : x ≤ y → ew_X k nx L S n M Q) : ew_X k pc L ((3, y) :: (3, x) :: S) n M Q := by
  refine ew_X.step ((ew_stp_of hc h0 L _ n M).trans (by simp only [ew_stI]; rw [fl_cv32 rx ry])) (xr_if (P := y < x) ?_ hc h kt (fun q => kf (by omega)))
  rw [ew_cn_gt (fl_sg32 x y) ew_0_in]
  by_cases h1 : x < y
  · rw [if_pos h1]; omega
  · rw [if_neg h1]
    by_cases h2 : x = y
    · rw [if_pos h2]; omega
    · rw [if_neg h2]; omega
theorem xr_f_ge {of x y : Int} {op : CmpOp} {nx0 a0 b0 : Nat} {z0 : Int} (hc : ew_cod k = C) (h0 : ew_lk C pc = some (.fcmp op, nx0, a0, b0, z0)) (h : ew_lk C nx0 = some (.ifCond .ge of, nx, a, b, z)) (rx : ew_fw x) (ry : ew_fw y) (kt : y ≤ x → ew_X k a L S n M Q) (kf : x < y → ew_X k nx L S n M Q) : ew_X k pc L ((3, y) :: (3, x) :: S) n M Q := by
  refine ew_X.step ((ew_stp_of hc h0 L _ n M).trans (by simp only [ew_stI]; rw [fl_cv32 rx ry])) (xr_if (P := y ≤ x) ?_ hc h kt (fun q => kf (by omega)))
  rw [ew_cn_ge (fl_sg32 x y) ew_0_in]
  by_cases h1 : x < y
  · rw [if_pos h1]; omega
  · rw [if_neg h1]
    by_cases h2 : x = y
    · rw [if_pos h2]; omega
    · rw [if_neg h2]; omega
theorem xr_f_lt {of x y : Int} {op : CmpOp} {nx0 a0 b0 : Nat} {z0 : Int} (hc : ew_cod k = C) (h0 : ew_lk C pc = some (.fcmp op, nx0, a0, b0, z0)) (h : ew_lk C nx0 = some (.ifCond .lt of, nx, a, b, z)) (rx : ew_fw x) (ry : ew_fw y) (kt : x < y → ew_X k a L S n M Q) (kf : y ≤ x → ew_X k nx L S n M Q) : ew_X k pc L ((3, y) :: (3, x) :: S) n M Q := by
  refine ew_X.step ((ew_stp_of hc h0 L _ n M).trans (by simp only [ew_stI]; rw [fl_cv32 rx ry])) (xr_if (P := x < y) ?_ hc h kt (fun q => kf (by omega)))
  rw [ew_cn_lt (fl_sg32 x y) ew_0_in]
  by_cases h1 : x < y
  · rw [if_pos h1]; omega
  · rw [if_neg h1]
    by_cases h2 : x = y
    · rw [if_pos h2]; omega
    · rw [if_neg h2]; omega
theorem xr_f_le {of x y : Int} {op : CmpOp} {nx0 a0 b0 : Nat} {z0 : Int} (hc : ew_cod k = C) (h0 : ew_lk C pc = some (.fcmp op, nx0, a0, b0, z0)) (h : ew_lk C nx0 = some (.ifCond .le of, nx, a, b, z)) (rx : ew_fw x) (ry : ew_fw y) (kt : x ≤ y → ew_X k a L S n M Q) (kf : y < x → ew_X k nx L S n M Q) : ew_X k pc L ((3, y) :: (3, x) :: S) n M Q := by
  refine ew_X.step ((ew_stp_of hc h0 L _ n M).trans (by simp only [ew_stI]; rw [fl_cv32 rx ry])) (xr_if (P := x ≤ y) ?_ hc h kt (fun q => kf (by omega)))
  rw [ew_cn_le (fl_sg32 x y) ew_0_in]
  by_cases h1 : x < y
  · rw [if_pos h1]; omega
  · rw [if_neg h1]
    by_cases h2 : x = y
    · rw [if_pos h2]; omega
    · rw [if_neg h2]; omega
theorem xr_f_ne {of x y : Int} {op : CmpOp} {nx0 a0 b0 : Nat} {z0 : Int} (hc : ew_cod k = C) (h0 : ew_lk C pc = some (.fcmp op, nx0, a0, b0, z0)) (h : ew_lk C nx0 = some (.ifCond .ne of, nx, a, b, z)) (rx : ew_fw x) (ry : ew_fw y) (kt : ¬ x = y → ew_X k a L S n M Q) (kf : x = y → ew_X k nx L S n M Q) : ew_X k pc L ((3, y) :: (3, x) :: S) n M Q := by
  refine ew_X.step ((ew_stp_of hc h0 L _ n M).trans (by simp only [ew_stI]; rw [fl_cv32 rx ry])) (xr_if (P := ¬ x = y) ?_ hc h kt (fun q => kf (by omega)))
  rw [ew_cn_ne (fl_sg32 x y) ew_0_in]
  by_cases h1 : x < y
  · rw [if_pos h1]; omega
  · rw [if_neg h1]
    by_cases h2 : x = y
    · rw [if_pos h2]; omega
    · rw [if_neg h2]; omega
theorem xr_f_eq {of x y : Int} {op : CmpOp} {nx0 a0 b0 : Nat} {z0 : Int} (hc : ew_cod k = C) (h0 : ew_lk C pc = some (.fcmp op, nx0, a0, b0, z0)) (h : ew_lk C nx0 = some (.ifCond .eq of, nx, a, b, z)) (rx : ew_fw x) (ry : ew_fw y) (kt : x = y → ew_X k a L S n M Q) (kf : ¬ x = y → ew_X k nx L S n M Q) : ew_X k pc L ((3, y) :: (3, x) :: S) n M Q := by
  refine ew_X.step ((ew_stp_of hc h0 L _ n M).trans (by simp only [ew_stI]; rw [fl_cv32 rx ry])) (xr_if (P := x = y) ?_ hc h kt (fun q => kf (by omega)))
  rw [ew_cn_eq (fl_sg32 x y) ew_0_in]
  by_cases h1 : x < y
  · rw [if_pos h1]; omega
  · rw [if_neg h1]
    by_cases h2 : x = y
    · rw [if_pos h2]; omega
    · rw [if_neg h2]; omega
end


/-! words of 64 bits -/
abbrev ew_dw (x : Int) : Prop := 0 ≤ x ∧ x ≤ 9218868437227405312
theorem fl_tn64 {x : Int} (h : 0 ≤ x ∧ x < 18446744073709551616) : (ew_d x).toNat = x.toNat := UInt64.toNat_ofNat_of_lt' (by show x.toNat < 18446744073709551616; omega)
theorem fl_eu64 (r : UInt64) : ew_d (ew_ud r) = r := by
  show UInt64.ofNat ((r.toNat : Int)).toNat = r
  rw [Int.toNat_natCast, UInt64.ofNat_toNat]
theorem fl_nn64 {x : Int} (h : ew_dw x) : FP.Core.val64 (ew_d x) ≠ .nan := (FP.Core.ne_nan _).mpr (by rw [fl_tn64 (by omega)]; omega)
theorem fl_no64 {x : Int} (h : ew_dw x) : FP.Core.dIsNaN (ew_d x) = false := (FP.Core.notNaN_iff _).mpr (fl_nn64 h)
theorem fl_fin64 {x : Int} (h : 0 ≤ x ∧ x < 9218868437227405312) : FP.Core.DFin (ew_d x) := (FP.Core.fin_bits _).mpr (by rw [fl_tn64 (by omega)]; omega)
theorem fl_nz64 {x : Int} (h : 0 < x ∧ x < 9218868437227405312) : ¬ FP.Core.DZero (ew_d x) := fun q => by
  have := (FP.Core.zero_bits2 _).mp q
  rw [fl_tn64 (by omega)] at this
  omega
theorem fl_key64 {x : Int} (h : ew_dw x) : FP.Core.dkey (ew_d x) = x := by
  unfold FP.Core.dkey
  rw [fl_tn64 (by omega), if_neg (by omega)]
  omega
theorem fl_cmp64 {x y : Int} (hx : ew_dw x) (hy : ew_dw y) : FP.dcmp (ew_d x) (ew_d y) = some (compare x y) := by
  have h := FP.Core.dcmp_key (fl_nn64 hx) (fl_nn64 hy)
  rw [fl_key64 hx, fl_key64 hy] at h
  exact h
theorem fl_cv64 {x y : Int} (hx : ew_dw x) (hy : ew_dw y) (op : CmpOp) : (Op.cmpValue (FP.dcmp (ew_d x) (ew_d y)) op).toInt = if x < y then -1 else if x = y then 0 else 1 := by
  rw [fl_cmp64 hx hy]
  have h : compare x y = if x < y then .lt else if x = y then .eq else .gt := rfl
  rw [h]
  by_cases h1 : x < y
  · rw [if_pos h1, if_pos h1]
    rfl
  · rw [if_neg h1, if_neg h1]
    by_cases h2 : x = y
    · rw [if_pos h2, if_pos h2]
      rfl
    · rw [if_neg h2, if_neg h2]
      rfl
theorem fl_nf64 {r : UInt64} (h : FP.Core.dIsNaN r = false) : ew_nd r = true := by
  have h1 : ¬ (9218868437227405312 < r.toNat % 2 ^ 63) := fun q => by
    have := (FP.Core.isNaN_bits r).mpr q
    rw [h] at this
    exact Bool.noConfusion this
  unfold ew_nd
  rw [decide_eq_true_iff, UInt64.le_iff_toNat_le, UInt64.toNat_and]
  show r.toNat &&& (2 ^ 63 - 1) ≤ 9218868437227405312
  rw [Nat.and_two_pow_sub_one_eq_mod]
  omega
theorem fl_tmul64 (a b : UInt64) : (FP.dmul a b).toNat = FP.Core.mul FP.Core.b64 a.toNat b.toNat := FP.Core.toNat_of64 (FP.Core.round_fits FP.Core.good_b64 _)
theorem fl_tsub64 (a b : UInt64) : (FP.dsub a b).toNat = FP.Core.sub FP.Core.b64 a.toNat b.toNat := FP.Core.toNat_of64 (FP.Core.round_fits FP.Core.good_b64 _)
theorem fl_tdiv64 (a b : UInt64) : (FP.ddiv a b).toNat = FP.Core.div FP.Core.b64 a.toNat b.toNat := FP.Core.toNat_of64 (FP.Core.quotient_fits FP.Core.good_b64 _ _)
theorem fl_b64 : FP.Core.b64.tails = 4503599627370496 ∧ FP.Core.b64.emax = 1023 ∧ FP.Core.b64.exps = 2048 ∧ FP.Core.b64.p - 1 = 52 ∧ FP.Core.b64.qmin = -1074 := by decide
theorem fl_m264 {x : Int} (h : 4503599627370496 ≤ x ∧ x < 2045 * 4503599627370496) : ew_ud (FP.dmul (ew_d x) (ew_d 4611686018427387904)) = x + 4503599627370496 := by
  obtain ⟨b1, b2, b3, -⟩ := fl_b64
  have e := fl_mul2 FP.Core.good_b64 (E := x.toNat / 4503599627370496) (t := x.toNat % 4503599627370496) (by omega) (by rw [b3]; omega) (by rw [b1]; omega)
  rw [b1, b2, show x.toNat / 4503599627370496 * 4503599627370496 + x.toNat % 4503599627370496 = x.toNat by omega] at e
  show ((FP.dmul (ew_d x) (ew_d 4611686018427387904)).toNat : Int) = _
  rw [fl_tmul64, fl_tn64 (by omega), fl_tn64 (by decide), show (4611686018427387904 : Int).toNat = (1023 + 1) * 4503599627370496 + 0 from rfl, e]
  omega
theorem fl_d264 {x : Int} (h : 2 * 4503599627370496 ≤ x ∧ x < 9218868437227405312) : ew_ud (FP.ddiv (ew_d x) (ew_d 4611686018427387904)) = x - 4503599627370496 := by
  obtain ⟨b1, b2, b3, -⟩ := fl_b64
  have e := fl_div2 FP.Core.good_b64 (E := x.toNat / 4503599627370496) (t := x.toNat % 4503599627370496) (by omega) (by rw [b3]; omega) (by rw [b1]; omega)
  rw [b1, b2, show x.toNat / 4503599627370496 * 4503599627370496 + x.toNat % 4503599627370496 = x.toNat by omega] at e
  show ((FP.ddiv (ew_d x) (ew_d 4611686018427387904)).toNat : Int) = _
  rw [fl_tdiv64, fl_tn64 (by omega), fl_tn64 (by decide), show (4611686018427387904 : Int).toNat = (1023 + 1) * 4503599627370496 + 0 from rfl, e]
  omega
theorem fl_t64 {x : Int} (h : 4607182418800017408 ≤ x ∧ x < 4611686018427387904) : (FP.d2l (ew_d (ew_ud (FP.dmul (ew_d (ew_ud (FP.dsub (ew_d x) (ew_d 4607182418800017408)))) (ew_d 4841369599423283200))))).toInt = x - 4607182418800017408 := by
  obtain ⟨b1, b2, b3, b4, -⟩ := fl_b64
  have e := fl_tail FP.Core.good_b64 FP.Core.wide_b64 (t := (x - 4607182418800017408).toNat) (by rw [b1]; omega)
  rw [b1, b2, b4] at e
  rw [fl_eu64, fl_eu64]
  have hi : (ew_l (x - 4607182418800017408)).toInt = x - 4607182418800017408 := ew_l_in ⟨by omega, by omega⟩
  have hw : FP.Core.DInt (ew_l (x - 4607182418800017408)).toInt (FP.dmul (FP.dsub (ew_d x) (ew_d 4607182418800017408)) (ew_d 4841369599423283200)) := by
    show FP.Core.Whole _ (FP.Core.decode FP.Core.b64 (FP.dmul (FP.dsub (ew_d x) (ew_d 4607182418800017408)) (ew_d 4841369599423283200)).toNat)
    rw [hi, fl_tmul64, fl_tsub64, fl_tn64 (by omega), fl_tn64 (by decide), fl_tn64 (by decide), show (4607182418800017408 : Int).toNat = 1023 * 4503599627370496 + 0 from rfl, show (4841369599423283200 : Int).toNat = (1023 + 52) * 4503599627370496 + 0 from rfl, show x.toNat = 1023 * 4503599627370496 + (x - 4607182418800017408).toNat by omega, show x - 4607182418800017408 = (((x - 4607182418800017408).toNat : Nat) : Int) by omega]
    rw [Int.toNat_natCast]
    exact e
  have hg := FP.Core.d2l_int hw
  show (FP.Core.d2l _).toInt = _
  rw [hg, hi]
/-- a quotient's word -/
theorem fl_rat64 {r : UInt64} {A D j : Nat} (hr : FP.Core.val64 r = FP.Core.roundRatio FP.Core.b64 false A D 0) (hD : 0 < D) (h1 : A ≤ 2 ^ j * D) (hj : j < 1023) (h2 : D ≤ 2 ^ 20 * A) : 4503599627370496 ≤ ew_ud r ∧ ew_ud r ≤ (1023 + j) * 4503599627370496 := by
  obtain ⟨b1, b2, b3, b4, b5⟩ := fl_b64
  have hn : FP.Core.decode FP.Core.b64 r.toNat = FP.Core.roundRatio FP.Core.b64 false A D 0 := hr
  have g1 := fl_le FP.Core.good_b64 (K := 1023 + j) (j := j) hn hD (by omega) (by rw [b4, b5]; omega) h1
  have g2 := fl_ge FP.Core.good_b64 (l := 20) hn hD (by rw [b4, b5]; decide) h2
  rw [b1, FP.Core.mag_toNat64] at g1 g2
  have hnn : FP.Core.val64 r ≠ .nan := by
    rw [hr]
    exact FP.Core.roundRatio_ne_nan _ _ _ _ _
  have hs := FP.Core.sgn_bits hnn
  rw [hr, FP.Core.sgn_roundRatio] at hs
  have hs2 := of_decide_eq_false hs.symm
  have : r.toNat % 2 ^ 63 = r.toNat := Nat.mod_eq_of_lt (by omega)
  rw [this] at g1 g2
  show 4503599627370496 ≤ (r.toNat : Int) ∧ (r.toNat : Int) ≤ _
  omega
section
variable {k pc nx a b : Nat} {C : List ew_Ent} {ins : Instr} {z : Int} {L S : List ew_AV} {n : Nat} {M : ew_Mem} {Q : Option ew_AV → Nat → ew_Mem → Prop}
theorem xr_dmul {x y w : Int} (hc : ew_cod k = C) (h : ew_lk C pc = some (.dmul, nx, a, b, z)) (hn : FP.Core.dIsNaN (FP.dmul (ew_d x) (ew_d y)) = false) (hw : ew_ud (FP.dmul (ew_d x) (ew_d y)) = w) (kk : ew_X k nx L ((4, w) :: S) n M Q) : ew_X k pc L ((4, y) :: (4, x) :: S) n M Q := by
  subst hw
  exact ew_X.step ((ew_stp_of hc h L _ n M).trans (by simp only [ew_stI]; rw [if_pos (fl_nf64 hn)])) kk
theorem xr_ddiv {x y w : Int} (hc : ew_cod k = C) (h : ew_lk C pc = some (.ddiv, nx, a, b, z)) (hn : FP.Core.dIsNaN (FP.ddiv (ew_d x) (ew_d y)) = false) (hw : ew_ud (FP.ddiv (ew_d x) (ew_d y)) = w) (kk : ew_X k nx L ((4, w) :: S) n M Q) : ew_X k pc L ((4, y) :: (4, x) :: S) n M Q := by
  subst hw
  exact ew_X.step ((ew_stp_of hc h L _ n M).trans (by simp only [ew_stI]; rw [if_pos (fl_nf64 hn)])) kk
theorem xr_dsub {x y w : Int} (hc : ew_cod k = C) (h : ew_lk C pc = some (.dsub, nx, a, b, z)) (hn : FP.Core.dIsNaN (FP.dsub (ew_d x) (ew_d y)) = false) (hw : ew_ud (FP.dsub (ew_d x) (ew_d y)) = w) (kk : ew_X k nx L ((4, w) :: S) n M Q) : ew_X k pc L ((4, y) :: (4, x) :: S) n M Q := by
  subst hw
  exact ew_X.step ((ew_stp_of hc h L _ n M).trans (by simp only [ew_stI]; rw [if_pos (fl_nf64 hn)])) kk
theorem xr_i2d {x w : Int} (hc : ew_cod k = C) (h : ew_lk C pc = some (.i2d, nx, a, b, z)) (hw : ew_ud (FP.i2d (ew_i x)) = w) (kk : ew_X k nx L ((4, w) :: S) n M Q) : ew_X k pc L ((0, x) :: S) n M Q := by
  subst hw
  exact ew_X.step (ew_stp_of hc h L _ n M) kk
theorem xr_d2l {x w : Int} (hc : ew_cod k = C) (h : ew_lk C pc = some (.d2l, nx, a, b, z)) (hw : (FP.d2l (ew_d x)).toInt = w) (kk : ew_X k nx L ((1, w) :: S) n M Q) : ew_X k pc L ((4, x) :: S) n M Q := by
  subst hw
  exact ew_X.step (ew_stp_of hc h L _ n M) kk
theorem fl_sg64 (x y : Int) : ew_in (if x < y then -1 else if x = y then 0 else 1) := by
  split
  · decide
  · split <;> decide
theorem xr_d_gt {of x y : Int} {op : CmpOp} {nx0 a0 b0 : Nat} {z0 : Int} (hc : ew_cod k = C) (h0 : ew_lk C pc = some (.dcmp op, nx0, a0, b0, z0)) (h : ew_lk C nx0 = some (.ifCond .gt of, nx, a, b, z)) (rx : ew_dw x) (ry : ew_dw y) (kt : y < x → ew_X k a L S n M Q) (kf : x ≤ y → ew_X k nx L S n M Q) : ew_X k pc L ((4, y) :: (4, x) :: S) n M Q := by
  refine ew_X.step ((ew_stp_of hc h0 L _ n M).trans (by simp only [ew_stI]; rw [fl_cv64 rx ry])) (xr_if (P := y < x) ?_ hc h kt (fun q => kf (by omega)))
  rw [ew_cn_gt (fl_sg64 x y) ew_0_in]
  by_cases h1 : x < y
  · rw [if_pos h1]; omega
  · rw [if_neg h1]
    by_cases h2 : x = y
    · rw [if_pos h2]; omega
    · rw [if_neg h2]; omega
theorem xr_d_ge {of x y : Int} {op : CmpOp} {nx0 a0 b0 : Nat} {z0 : Int} (hc : ew_cod k = C) (h0 : ew_lk C pc = some (.dcmp op, nx0, a0, b0, z0)) (h : ew_lk C nx0 = some (.ifCond .ge of, nx, a, b, z)) (rx : ew_dw x) (ry : ew_dw y) (kt : y ≤ x → ew_X k a L S n M Q) (kf : x < y → ew_X k nx L S n M Q) : ew_X k pc L ((4, y) :: (4, x) :: S) n M Q := by
  refine ew_X.step ((ew_stp_of hc h0 L _ n M).trans (by simp only [ew_stI]; rw [fl_cv64 rx ry])) (xr_if (P := y ≤ x) ?_ hc h kt (fun q => kf (by omega)))
  rw [ew_cn_ge (fl_sg64 x y) ew_0_in]
  by_cases h1 : x < y
  · rw [if_pos h1]; omega
  · rw [if_neg h1]
    by_cases h2 : x = y
    · rw [if_pos h2]; omega
    · rw [if_neg h2]; omega
theorem xr_d_lt {of x y : Int} {op : CmpOp} {nx0 a0 b0 : Nat} {z0 : Int} (hc : ew_cod k = C) (h0 : ew_lk C pc = some (.dcmp op, nx0, a0, b0, z0)) (h : ew_lk C nx0 = some (.ifCond .lt of, nx, a, b, z)) (rx : ew_dw x) (ry : ew_dw y) (kt : x < y → ew_X k a L S n M Q) (kf : y ≤ x → ew_X k nx L S n M Q) : ew_X k pc L ((4, y) :: (4, x) :: S) n M Q := by
  refine ew_X.step ((ew_stp_of hc h0 L _ n M).trans (by simp only [ew_stI]; rw [fl_cv64 rx ry])) (xr_if (P := x < y) ?_ hc h kt (fun q => kf (by omega)))
  rw [ew_cn_lt (fl_sg64 x y) ew_0_in]
  by_cases h1 : x < y
  · rw [if_pos h1]; omega
  · rw [if_neg h1]
    by_cases h2 : x = y
    · rw [if_pos h2]; omega
    · rw [if_neg h2]; omega
theorem xr_d_le {of x y : Int} {op : CmpOp} {nx0 a0 b0 : Nat} {z0 : Int} (hc : ew_cod k = C) (h0 : ew_lk C pc = some (.dcmp op, nx0, a0, b0, z0)) (h : ew_lk C nx0 = some (.ifCond .le of, nx, a, b, z)) (rx : ew_dw x) (ry : ew_dw y) (kt : x ≤ y → ew_X k a L S n M Q) (kf : y < x → ew_X k nx L S n M Q) : ew_X k pc L ((4, y) :: (4, x) :: S) n M Q := by
  refine ew_X.step ((ew_stp_of hc h0 L _ n M).trans (by simp only [ew_stI]; rw [fl_cv64 rx ry])) (xr_if (P := x ≤ y) ?_ hc h kt (fun q => kf (by omega)))
  rw [ew_cn_le (fl_sg64 x y) ew_0_in]
  by_cases h1 : x < y
  · rw [if_pos h1]; omega
  · rw [if_neg h1]
    by_cases h2 : x = y
    · rw [if_pos h2]; omega
    · rw [if_neg h2]; omega
theorem xr_d_ne {of x y : Int} {op : CmpOp} {nx0 a0 b0 : Nat} {z0 : Int} (hc : ew_cod k = C) (h0 : ew_lk C pc = some (.dcmp op, nx0, a0, b0, z0)) (h : ew_lk C nx0 = some (.ifCond .ne of, nx, a, b, z)) (rx : ew_dw x) (ry : ew_dw y) (kt : ¬ x = y → ew_X k a L S n M Q) (kf : x = y → ew_X k nx L S n M Q) : ew_X k pc L ((4, y) :: (4, x) :: S) n M Q := by
  refine ew_X.step ((ew_stp_of hc h0 L _ n M).trans (by simp only [ew_stI]; rw [fl_cv64 rx ry])) (xr_if (P := ¬ x = y) ?_ hc h kt (fun q => kf (by omega)))
  rw [ew_cn_ne (fl_sg64 x y) ew_0_in]
  by_cases h1 : x < y
  · rw [if_pos h1]; omega
  · rw [if_neg h1]
    by_cases h2 : x = y
    · rw [if_pos h2]; omega
    · rw [if_neg h2]; omega
theorem xr_d_eq {of x y : Int} {op : CmpOp} {nx0 a0 b0 : Nat} {z0 : Int} (hc : ew_cod k = C) (h0 : ew_lk C pc = some (.dcmp op, nx0, a0, b0, z0)) (h : ew_lk C nx0 = some (.ifCond .eq of, nx, a, b, z)) (rx : ew_dw x) (ry : ew_dw y) (kt : x = y → ew_X k a L S n M Q) (kf : ¬ x = y → ew_X k nx L S n M Q) : ew_X k pc L ((4, y) :: (4, x) :: S) n M Q := by
  refine ew_X.step ((ew_stp_of hc h0 L _ n M).trans (by simp only [ew_stI]; rw [fl_cv64 rx ry])) (xr_if (P := x = y) ?_ hc h kt (fun q => kf (by omega)))
  rw [ew_cn_eq (fl_sg64 x y) ew_0_in]
  by_cases h1 : x < y
  · rw [if_pos h1]; omega
  · rw [if_neg h1]
    by_cases h2 : x = y
    · rw [if_pos h2]; omega
    · rw [if_neg h2]; omega
end
