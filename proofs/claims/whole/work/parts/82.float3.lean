/-! floats: their bits, angle, size, most -/
theorem fl_raw64 {x : Int} (h : 0 ≤ x ∧ x < 9223372036854775808) : (ew_d x).toInt64.toInt = x := by
  show (ew_d x).toBitVec.toInt = x
  have e := fl_tn64 (x := x) (by omega)
  rw [BitVec.toInt_eq_toNat_of_lt (by show 2 * (ew_d x).toNat < 2 ^ 64; rw [e]; omega)]
  show ((ew_d x).toNat : Int) = x
  rw [e]
  omega
theorem fl_raw32 {x : Int} (h : 0 ≤ x ∧ x < 2147483648) : (ew_f x).toInt32.toInt = x := by
  show (ew_f x).toBitVec.toInt = x
  have e := fl_tn32 (x := x) (by omega)
  rw [BitVec.toInt_eq_toNat_of_lt (by show 2 * (ew_f x).toNat < 2 ^ 32; rw [e]; omega)]
  show ((ew_f x).toNat : Int) = x
  rw [e]
  omega
theorem fl_shl32 {e : Int} (h : 0 ≤ e ∧ e ≤ 127) : (ew_i e <<< (ew_i 23 &&& 31)).toInt = e * 8388608 := by
  have h1 : ∀ k : Fin 128, (ew_i ((k.val : Nat) : Int) <<< (ew_i 23 &&& 31)).toInt = ((k.val : Nat) : Int) * 8388608 := by decide +kernel
  have h2 := h1 ⟨e.toNat, by omega⟩
  rw [show ((e.toNat : Nat) : Int) = e by omega] at h2
  exact h2
theorem fl_shl64 {e : Int} (h : 0 ≤ e ∧ e ≤ 2047) : (ew_l e <<< ((ew_i 52).toInt64 &&& 63)).toInt = e * 4503599627370496 := by
  have h1 : ∀ k : Fin 2048, (ew_l ((k.val : Nat) : Int) <<< ((ew_i 52).toInt64 &&& 63)).toInt = ((k.val : Nat) : Int) * 4503599627370496 := by decide +kernel
  have h2 := h1 ⟨e.toNat, by omega⟩
  rw [show ((e.toNat : Nat) : Int) = e by omega] at h2
  exact h2
theorem fl_sb32 {x : Int} (h : ew_fw x) : FP.Core.fIsNaN (FP.fsub (ew_f x) (ew_f 1065353216)) = false := FP.Core.fsub_out (fl_no32 h) (fl_fin32 (by decide))
theorem fl_sm32 {x : Int} (h : ew_fw x) : FP.Core.fIsNaN (FP.fmul (ew_f (ew_uf (FP.fsub (ew_f x) (ew_f 1065353216)))) (ew_f 1258291200)) = false := FP.Core.fmul_out' (by rw [fl_eu32]; exact fl_sb32 h) (fl_fin32 (by decide)) (fl_nz32 (by decide))
theorem fl_sb64 {x : Int} (h : ew_dw x) : FP.Core.dIsNaN (FP.dsub (ew_d x) (ew_d 4607182418800017408)) = false := FP.Core.dsub_out (fl_no64 h) (fl_fin64 (by decide))
theorem fl_sm64 {x : Int} (h : ew_dw x) : FP.Core.dIsNaN (FP.dmul (ew_d (ew_ud (FP.dsub (ew_d x) (ew_d 4607182418800017408)))) (ew_d 4841369599423283200)) = false := FP.Core.dmul_out' (by rw [fl_eu64]; exact fl_sb64 h) (fl_fin64 (by decide)) (fl_nz64 (by decide))
/-- a size's word -/
def s_szw (a b : Int) : Int := ew_uf (FP.fdiv (ew_f (ew_uf (FP.i2f (ew_i a)))) (ew_f (ew_uf (FP.i2f (ew_i b)))))
theorem fl_i2n {b : Int} (h : 1 ≤ b ∧ b ≤ 100000) : ¬ FP.Core.FZero (FP.i2f (ew_i b)) := fun q => by
  have hi : (ew_i b).toInt = b := ew_i_in (by omega)
  have := FP.Core.i2f_ne_zero (v := ew_i b) (fun e => by rw [e] at hi; have h0 : (0 : Int32).toInt = 0 := rfl; omega)
  exact this ((FP.Core.zero_bits232 _).mp q)
theorem fl_szn {a b : Int} (h : 1 ≤ b ∧ b ≤ 100000) : FP.Core.fIsNaN (FP.fdiv (ew_f (ew_uf (FP.i2f (ew_i a)))) (ew_f (ew_uf (FP.i2f (ew_i b))))) = false := by
  rw [fl_eu32, fl_eu32]
  exact FP.Core.fdiv_out (FP.Core.i2f_fin _).notNaN (FP.Core.i2f_fin _) (fl_i2n h)
theorem fl_sz {a b : Int} (ha : 0 ≤ a ∧ a < b) (hb : b ≤ 100000) : s_szw a b = 0 ∨ (8388608 ≤ s_szw a b ∧ s_szw a b ≤ 1065353216) := by
  unfold s_szw
  rw [fl_eu32, fl_eu32]
  have ib : (ew_i b).toInt = b := ew_i_in (by omega)
  have ia : (ew_i a).toInt = a := ew_i_in (by omega)
  have wb := FP.Core.i2f_int (a := ew_i b) (by rw [ib]; omega)
  rw [ib] at wb
  have wa := FP.Core.i2f_int (a := ew_i a) (by rw [ia]; omega)
  rw [ia] at wa
  have hd := FP.Core.val32_fdiv (FP.i2f (ew_i a)) (FP.i2f (ew_i b))
  have eb : b = ((b.toNat : Nat) : Int) := by omega
  by_cases h0 : a = 0
  · left
    subst h0
    have e0 : FP.Core.val32 (FP.i2f (ew_i 0)) = .fin false 0 FP.Core.b32.qmin := by decide +kernel
    obtain ⟨t, d, r, hv⟩ := FP.Core.i2f_fin (ew_i b)
    have wb2 : FP.Core.Whole b (FP.Core.val32 (FP.i2f (ew_i b))) := wb
    rw [hv] at wb2
    have z1 := FP.Core.whole_zero wb2
    have z2 := FP.Core.whole_sign wb2 (by omega)
    have z3 : t = false := by rw [z2]; exact decide_eq_false (by omega)
    have hv2 : FP.Core.val32 (FP.i2f (ew_i b)) = .fin t d r := hv
    rw [e0, hv2] at hd
    have hq : FP.Core.quotient FP.Core.b32 (.fin false 0 FP.Core.b32.qmin) (.fin t d r) = .fin false 0 FP.Core.b32.qmin := by
      show (if d = 0 then _ else FP.Core.roundRatio FP.Core.b32 (false != t) 0 d (FP.Core.b32.qmin - r)) = _
      rw [if_neg (by omega), z3]
      rfl
    rw [hq] at hd
    have hz := (FP.Core.zero_bits232 _).mp ⟨false, FP.Core.b32.qmin, hd⟩
    have hs := FP.Core.sgn_bits32 (a := FP.Core.fdiv (FP.i2f (ew_i 0)) (FP.i2f (ew_i b))) (by rw [hd]; exact FP.Core.Datum.noConfusion)
    rw [hd] at hs
    have hs2 := of_decide_eq_false hs.symm
    show ((FP.Core.fdiv (FP.i2f (ew_i 0)) (FP.i2f (ew_i b))).toNat : Int) = 0
    omega
  · right
    have ea : a = ((a.toNat : Nat) : Int) := by omega
    have wa2 : FP.Core.Whole ((a.toNat : Nat) : Int) (FP.Core.val32 (FP.i2f (ew_i a))) := by
      rw [← ea]
      exact wa
    have wb2 : FP.Core.Whole ((b.toNat : Nat) : Int) (FP.Core.val32 (FP.i2f (ew_i b))) := by
      rw [← eb]
      exact wb
    have hq := fl_quot (f := FP.Core.b32) wa2 wb2 (by omega) (by omega)
    exact fl_rat32 (j := 0) (hd.trans hq) (by omega) (by omega) (by decide) (by omega)
theorem fl_szw {a b : Int} (ha : 0 ≤ a ∧ a < b) (hb : b ≤ 100000) : 0 ≤ s_szw a b ∧ s_szw a b ≤ 1065353216 := by
  have := fl_sz ha hb
  omega
/-- an angle's word -/
def s_anw (p w : Int) : Int := ew_ud (FP.ddiv (ew_d (ew_ud (FP.dmul (ew_d 4645040803167600640) (ew_d (ew_ud (FP.i2d (ew_i p))))))) (ew_d (ew_ud (FP.i2d (ew_i w)))))
theorem fl_an1 {p : Int} : FP.Core.dIsNaN (FP.dmul (ew_d 4645040803167600640) (ew_d (ew_ud (FP.i2d (ew_i p))))) = false := by
  rw [fl_eu64]
  exact FP.Core.dmul_out (fl_fin64 (by decide)) (FP.Core.i2d_fin _)
theorem fl_i2dn {b : Int} (h : 1 ≤ b ∧ b ≤ 100000) : ¬ FP.Core.DZero (FP.i2d (ew_i b)) := fun q => by
  have hi : (ew_i b).toInt = b := ew_i_in (by omega)
  have := FP.Core.i2d_ne_zero (v := ew_i b) (fun e => by rw [e] at hi; have h0 : (0 : Int32).toInt = 0 := rfl; omega)
  exact this ((FP.Core.zero_bits2 _).mp q)
theorem fl_an2 {p w : Int} (h : 1 ≤ w ∧ w ≤ 100000) : FP.Core.dIsNaN (FP.ddiv (ew_d (ew_ud (FP.dmul (ew_d 4645040803167600640) (ew_d (ew_ud (FP.i2d (ew_i p))))))) (ew_d (ew_ud (FP.i2d (ew_i w))))) = false := by
  refine FP.Core.ddiv_out ?_ ?_ ?_
  · rw [fl_eu64 (FP.dmul _ _)]
    exact fl_an1
  · rw [fl_eu64]
    exact FP.Core.i2d_fin _
  · rw [fl_eu64]
    exact fl_i2dn h
theorem fl_an {p w : Int} (hp : 0 ≤ p ∧ p < w) (hw : w ≤ 100000) : s_anw p w = 0 ∨ (4503599627370496 ≤ s_anw p w ∧ s_anw p w ≤ 1032 * 4503599627370496) := by
  unfold s_anw
  rw [fl_eu64, fl_eu64, fl_eu64]
  have iw : (ew_i w).toInt = w := ew_i_in (by omega)
  have ip : (ew_i p).toInt = p := ew_i_in (by omega)
  have ww := FP.Core.i2d_int (ew_i w)
  rw [iw] at ww
  have wp := FP.Core.i2d_int (ew_i p)
  rw [ip] at wp
  have c360 : FP.Core.DInt 360 (ew_d 4645040803167600640) := by
    have e : FP.Core.val64 (ew_d 4645040803167600640) = .fin false 6333186975989760 (-44) := by decide +kernel
    show FP.Core.Whole 360 (FP.Core.val64 (ew_d 4645040803167600640))
    rw [e]
    show FP.Core.signed false (6333186975989760 * 2 ^ (-44 : Int).toNat) = (360 : Int) * ((2 ^ (-(-44 : Int)).toNat : Nat) : Int)
    decide +kernel
  have wm := FP.Core.dmul_int c360 wp (by omega)
  have hd := FP.Core.val64_ddiv (FP.Core.dmul (ew_d 4645040803167600640) (FP.i2d (ew_i p))) (FP.i2d (ew_i w))
  have ew : w = ((w.toNat : Nat) : Int) := by omega
  by_cases h0 : p = 0
  · left
    subst h0
    have e0 : FP.Core.val64 (FP.Core.dmul (ew_d 4645040803167600640) (FP.i2d (ew_i 0))) = .fin false 0 FP.Core.b64.qmin := by decide +kernel
    obtain ⟨t, d, r, hv⟩ := FP.Core.i2d_fin (ew_i w)
    have wb2 : FP.Core.Whole w (FP.Core.val64 (FP.i2d (ew_i w))) := ww
    rw [hv] at wb2
    have z1 := FP.Core.whole_zero wb2
    have z2 := FP.Core.whole_sign wb2 (by omega)
    have z3 : t = false := by rw [z2]; exact decide_eq_false (by omega)
    have hv2 : FP.Core.val64 (FP.i2d (ew_i w)) = .fin t d r := hv
    rw [e0, hv2] at hd
    have hq : FP.Core.quotient FP.Core.b64 (.fin false 0 FP.Core.b64.qmin) (.fin t d r) = .fin false 0 FP.Core.b64.qmin := by
      show (if d = 0 then _ else FP.Core.roundRatio FP.Core.b64 (false != t) 0 d (FP.Core.b64.qmin - r)) = _
      rw [if_neg (by omega), z3]
      rfl
    rw [hq] at hd
    have hz := (FP.Core.zero_bits2 _).mp ⟨false, FP.Core.b64.qmin, hd⟩
    have hs := FP.Core.sgn_bits (a := FP.Core.ddiv (FP.Core.dmul (ew_d 4645040803167600640) (FP.i2d (ew_i 0))) (FP.i2d (ew_i w))) (by rw [hd]; exact FP.Core.Datum.noConfusion)
    rw [hd] at hs
    have hs2 := of_decide_eq_false hs.symm
    show ((FP.Core.ddiv (FP.Core.dmul (ew_d 4645040803167600640) (FP.i2d (ew_i 0))) (FP.i2d (ew_i w))).toNat : Int) = 0
    omega
  · right
    have ea : 360 * p = (((360 * p).toNat : Nat) : Int) := by omega
    have wa2 : FP.Core.Whole (((360 * p).toNat : Nat) : Int) (FP.Core.val64 (FP.Core.dmul (ew_d 4645040803167600640) (FP.i2d (ew_i p)))) := by
      rw [← ea]
      exact wm
    have wb2 : FP.Core.Whole ((w.toNat : Nat) : Int) (FP.Core.val64 (FP.i2d (ew_i w))) := by
      rw [← ew]
      exact ww
    have hq := fl_quot (f := FP.Core.b64) wa2 wb2 (by omega) (by omega)
    exact fl_rat64 (j := 9) (hd.trans hq) (by omega) (by omega) (by decide) (by omega)
/-- what size and angle answer -/
def s_sz (V : ew_Mem) (m : Int) : Int := if s_ecl V m = 0 then 0 else s_szw (V 7 0 - s_far V m) (V 7 0 + 1)
def s_a_size (V : ew_Mem) (m x : Int) : Int := if s_isM m ∧ 0 ≤ x ∧ x ≤ 1 then (if V 6 0 = 0 then -3 else if x = 0 then s_sz V m else (FP.f2i (ew_f (ew_uf (FP.fmul (ew_f (s_sz V m)) (ew_f 1148846080))))).toInt) else -2
def s_a_angle (V : ew_Mem) (w m : Int) : Int := if s_isW V w ∧ s_isM m then s_anw (s_at V w.toNat m) (V w.toNat 1) else s_NO
/-- of the first so many the one with the greatest size -/
def s_mo (V : ew_Mem) (f : Nat → Int) : Nat → Nat
  | 0 => 0
  | i + 1 => if s_sz V (f (s_mo V f i)) < s_sz V (f (i + 1)) then i + 1 else s_mo V f i
theorem s_mo_le (V : ew_Mem) (f : Nat → Int) : ∀ i : Nat, s_mo V f i ≤ i
  | 0 => Nat.le_refl _
  | i + 1 => by
    rw [s_mo]
    split
    · exact Nat.le_refl _
    · exact Nat.le_succ_of_le (s_mo_le V f i)
def s_f4 (a b c d : Int) : Nat → Int := fun i => if i = 0 then a else if i = 1 then b else if i = 2 then c else d
abbrev s_okM (k a b c d : Int) : Prop := (1 ≤ k ∧ k ≤ 4) ∧ s_isM a ∧ (1 < k → s_isM b) ∧ (2 < k → s_isM c) ∧ (3 < k → s_isM d)
def s_a_most (V : ew_Mem) (k a b c d : Int) : Int := if s_okM k a b c d then (if V 6 0 = 0 then -3 else s_f4 a b c d (s_mo V (s_f4 a b c d) (k - 1).toNat) + 100000) else -2
theorem s_f4_M {k a b c d : Int} (h : s_okM k a b c d) {i : Nat} (hi : (i : Int) < k) : s_isM (s_f4 a b c d i) := by
  obtain ⟨h1, h2, h3, h4, h5⟩ := h
  have : i = 0 ∨ i = 1 ∨ i = 2 ∨ i = 3 := by omega
  rcases this with rfl | rfl | rfl | rfl
  · exact h2
  · exact h3 (by omega)
  · exact h4 (by omega)
  · exact h5 (by omega)
theorem s_near_0 {p q all : Int} (h : 0 < all) : 0 ≤ s_near p q all := by
  unfold s_near
  have h1 := Int.emod_nonneg (p - q) (show ¬ all = 0 by omega)
  have h2 := Int.emod_nonneg (q - p) (show ¬ all = 0 by omega)
  omega
theorem s_sz_bd {V : ew_Mem} (hV : s_VO V) (m : Int) : 0 ≤ s_sz V m ∧ s_sz V m ≤ 1065353216 ∧ (s_sz V m = 0 ∨ 8388608 ≤ s_sz V m) := by
  unfold s_sz
  split
  · exact ⟨Int.le_refl _, by decide, Or.inl rfl⟩
  · rename_i h
    obtain ⟨hc6, hVW, hnd, hap, hr0, -⟩ := hV
    have hf : s_far V m ≤ V 7 0 ∧ 0 < V 6 0 := by
      unfold s_ecl at h
      refine Classical.byContradiction (fun q => h ?_)
      by_cases h1 : V 6 0 = 0
      · rw [if_pos h1]
      · rw [if_neg h1, if_pos (by omega)]
    have h0 : 0 ≤ s_far V m := by
      have hW := (hVW (V 6 1).toNat (by omega)).2.1
      unfold s_far
      have h1 := s_near_0 (p := s_at V (V 6 1).toNat m) (q := 0) (all := V (V 6 1).toNat 1) (by omega)
      have h2 := s_near_0 (p := s_at V (V 6 1).toNat m) (q := V (V 6 1).toNat 1 / 2) (all := V (V 6 1).toNat 1) (by omega)
      omega
    have g := fl_sz (a := V 7 0 - s_far V m) (b := V 7 0 + 1) (by omega) (by omega)
    omega
set_option maxRecDepth 20000 in
theorem c_bof_1 {n : Nat} {M : ew_Mem} {x : Int} (hx : 8388608 ≤ x ∧ x < 1073741824) : ∀ (j : Nat) (y e i : Int), i + (j : Int) = 126 → 0 ≤ i → y = x + i * 8388608 → e = 127 - i → y < 1073741824 → ew_X 19 15 [(3, x), (3, y), (0, e), (0, i)] [] n M (fun r a b => r = some (0, x) ∧ a = n ∧ b = M) := by
  intro j
  induction j with
  | zero =>
    intro y e i hj hi hy he hy2
    have hc := ew_c_19
    refine xr_go hc rfl rfl ?_
    refine xr_go hc rfl rfl ?_
    refine xr_icmp_ge hc rfl (by omega) (by decide) (fun c1 => ?_) (fun c1 => ?_)
    · skip
      refine xr_go hc rfl rfl ?_
      refine xr_go hc rfl rfl ?_
      refine xr_go hc rfl rfl ?_
      refine xr_go hc rfl rfl ?_
      refine xr_go hc rfl rfl ?_
      refine xr_fsub hc rfl (fl_sb32 (by omega)) rfl ?_
      refine xr_go hc rfl rfl ?_
      refine xr_fmul hc rfl (fl_sm32 (by omega)) rfl ?_
      refine xr_f2i hc rfl (fl_t32 (by omega)) ?_
      refine xr_go hc rfl rfl ?_
      refine xr_ret hc rfl rfl ?_
      refine ⟨?_, rfl, rfl⟩
      rw [fl_shl32 (by omega)]
      congr 2
      omega
    · exfalso; omega
  | succ j ih =>
    intro y e i hj hi hy he hy2
    have hc := ew_c_19
    refine xr_go hc rfl rfl ?_
    refine xr_go hc rfl rfl ?_
    refine xr_icmp_ge hc rfl (by omega) (by decide) (fun c1 => ?_) (fun c1 => ?_)
    · exfalso; omega
    · skip
      refine xr_go hc rfl rfl ?_
      refine xr_go hc rfl rfl ?_
      refine xr_f_ge hc rfl rfl (by omega) (by decide) (fun c2 => ?_) (fun c2 => ?_)
      · skip
        refine xr_go hc rfl rfl ?_
        refine xr_go hc rfl rfl ?_
        refine xr_go hc rfl rfl ?_
        refine xr_go hc rfl rfl ?_
        refine xr_go hc rfl rfl ?_
        refine xr_fsub hc rfl (fl_sb32 (by omega)) rfl ?_
        refine xr_go hc rfl rfl ?_
        refine xr_fmul hc rfl (fl_sm32 (by omega)) rfl ?_
        refine xr_f2i hc rfl (fl_t32 (by omega)) ?_
        refine xr_go hc rfl rfl ?_
        refine xr_ret hc rfl rfl ?_
        refine ⟨?_, rfl, rfl⟩
        rw [fl_shl32 (by omega)]
        congr 2
        omega
      · skip
        refine xr_go hc rfl rfl ?_
        refine xr_go hc rfl rfl ?_
        refine xr_fmul hc rfl (FP.Core.fmul_out (fl_fin32 (by omega)) (fl_fin32 (by decide))) (fl_m232 (by omega)) ?_
        refine xr_s1_1 hc rfl rfl rfl ?_
        refine xr_inc_2 hc rfl ?_
        refine xr_inc_3 hc rfl ?_
        refine xr_go hc rfl rfl ?_
        exact ih (y + 8388608) (e + -1) (i + 1) (by omega) (by omega) (by omega) (by omega) (by omega)

set_option maxRecDepth 20000 in
theorem c_bof {n : Nat} {M : ew_Mem} {x : Int} (hx : x = 0 ∨ (8388608 ≤ x ∧ x < 1073741824)) : ew_FM 19 [(3, x)] n M (0, x) n M := by
  have hc := ew_c_19
  show ew_X 19 0 [(3, x), (5, 0), (5, 0), (5, 0)] [] n M _
  refine xr_go hc rfl rfl ?_
  refine xr_go hc rfl rfl ?_
  refine xr_f_gt hc rfl rfl (by omega) (by decide) (fun c1 => ?_) (fun c1 => ?_)
  · skip
    refine xr_go hc rfl rfl ?_
    refine xr_s1_1 hc rfl rfl rfl ?_
    refine xr_go hc rfl rfl ?_
    refine xr_s1_2 hc rfl rfl rfl ?_
    refine xr_go hc rfl rfl ?_
    refine xr_s1_3 hc rfl rfl rfl ?_
    exact c_bof_1 (by omega) 126 x 127 0 (by decide) (by decide) (by omega) (by decide) (by omega)
  · skip
    refine xr_go hc rfl rfl ?_
    refine xr_ret hc rfl rfl ?_
    refine ⟨?_, rfl, rfl⟩
    congr 2
    omega

set_option maxRecDepth 20000 in
theorem c_bod_2 {n : Nat} {M : ew_Mem} {x : Int} (hx : 4503599627370496 ≤ x ∧ x < 9218868437227405312) : ∀ (j : Nat) (y e i : Int), i + (j : Int) = 1022 → 0 ≤ i → e * 4503599627370496 + y = x + 4607182418800017408 → 4503599627370496 ≤ y → y < 4611686018427387904 → 4607182418800017408 ≤ y + (j : Int) * 4503599627370496 → ew_X 18 55 [(4, x), (5, 0), (4, y), (5, 0), (1, e), (5, 0), (0, i)] [] n M (fun r a b => r = some (1, x) ∧ a = n ∧ b = M) := by
  intro j
  induction j with
  | zero =>
    intro y e i hj hi he hy1 hy2 hy3
    have hc := ew_c_18
    refine xr_go hc rfl rfl ?_
    refine xr_go hc rfl rfl ?_
    refine xr_icmp_ge hc rfl (by omega) (by decide) (fun c1 => ?_) (fun c1 => ?_)
    · skip
      refine xr_go hc rfl rfl ?_
      refine xr_go hc rfl rfl ?_
      refine xr_go hc rfl rfl ?_
      refine xr_go hc rfl rfl ?_
      refine xr_go hc rfl rfl ?_
      refine xr_dsub hc rfl (fl_sb64 (by omega)) rfl ?_
      refine xr_go hc rfl rfl ?_
      refine xr_dmul hc rfl (fl_sm64 (by omega)) rfl ?_
      refine xr_d2l hc rfl (fl_t64 (by omega)) ?_
      refine xr_go hc rfl rfl ?_
      refine xr_ret hc rfl rfl ?_
      refine ⟨?_, rfl, rfl⟩
      rw [fl_shl64 (by omega)]
      congr 2
      omega
    · exfalso; omega
  | succ j ih =>
    intro y e i hj hi he hy1 hy2 hy3
    have hc := ew_c_18
    refine xr_go hc rfl rfl ?_
    refine xr_go hc rfl rfl ?_
    refine xr_icmp_ge hc rfl (by omega) (by decide) (fun c1 => ?_) (fun c1 => ?_)
    · exfalso; omega
    · skip
      refine xr_go hc rfl rfl ?_
      refine xr_go hc rfl rfl ?_
      refine xr_d_ge hc rfl rfl (by omega) (by decide) (fun c2 => ?_) (fun c2 => ?_)
      · skip
        refine xr_go hc rfl rfl ?_
        refine xr_go hc rfl rfl ?_
        refine xr_go hc rfl rfl ?_
        refine xr_go hc rfl rfl ?_
        refine xr_go hc rfl rfl ?_
        refine xr_dsub hc rfl (fl_sb64 (by omega)) rfl ?_
        refine xr_go hc rfl rfl ?_
        refine xr_dmul hc rfl (fl_sm64 (by omega)) rfl ?_
        refine xr_d2l hc rfl (fl_t64 (by omega)) ?_
        refine xr_go hc rfl rfl ?_
        refine xr_ret hc rfl rfl ?_
        refine ⟨?_, rfl, rfl⟩
        rw [fl_shl64 (by omega)]
        congr 2
        omega
      · skip
        refine xr_go hc rfl rfl ?_
        refine xr_go hc rfl rfl ?_
        refine xr_dmul hc rfl (FP.Core.dmul_out (fl_fin64 (by omega)) (fl_fin64 (by decide))) (fl_m264 (by omega)) ?_
        refine xr_s2_2 hc rfl rfl rfl ?_
        refine xr_go hc rfl rfl ?_
        refine xr_go hc rfl rfl ?_
        refine xr_go hc rfl rfl ?_
        refine xr_s2_4 hc rfl rfl rfl ?_
        refine xr_inc_6 hc rfl ?_
        refine xr_go hc rfl rfl ?_
        exact ih (y + 4503599627370496) (e - 1) (i + 1) (by omega) (by omega) (by omega) (by omega) (by omega) (by omega)

set_option maxRecDepth 20000 in
theorem c_bod_1 {n : Nat} {M : ew_Mem} {x : Int} (hx : 4503599627370496 ≤ x ∧ x < 9218868437227405312) : ∀ (j : Nat) (y e i : Int), i + (j : Int) = 1023 → 0 ≤ i → e * 4503599627370496 + y = x + 4607182418800017408 → 4503599627370496 ≤ y → y < 4611686018427387904 + (j : Int) * 4503599627370496 → y < 9218868437227405312 → ew_X 18 18 [(4, x), (5, 0), (4, y), (5, 0), (1, e), (5, 0), (0, i)] [] n M (fun r a b => r = some (1, x) ∧ a = n ∧ b = M) := by
  intro j
  induction j with
  | zero =>
    intro y e i hj hi he hy1 hy2 hy3
    have hc := ew_c_18
    refine xr_go hc rfl rfl ?_
    refine xr_go hc rfl rfl ?_
    refine xr_icmp_ge hc rfl (by omega) (by decide) (fun c1 => ?_) (fun c1 => ?_)
    · skip
      refine xr_go hc rfl rfl ?_
      refine xr_s1_6 hc rfl rfl rfl ?_
      exact c_bod_2 hx 1022 y e 0 (by decide) (by decide) (by omega) (by omega) (by omega) (by omega)
    · exfalso; omega
  | succ j ih =>
    intro y e i hj hi he hy1 hy2 hy3
    have hc := ew_c_18
    refine xr_go hc rfl rfl ?_
    refine xr_go hc rfl rfl ?_
    refine xr_icmp_ge hc rfl (by omega) (by decide) (fun c1 => ?_) (fun c1 => ?_)
    · exfalso; omega
    · skip
      refine xr_go hc rfl rfl ?_
      refine xr_go hc rfl rfl ?_
      refine xr_d_lt hc rfl rfl (by omega) (by decide) (fun c2 => ?_) (fun c2 => ?_)
      · skip
        refine xr_go hc rfl rfl ?_
        refine xr_s1_6 hc rfl rfl rfl ?_
        exact c_bod_2 hx 1022 y e 0 (by decide) (by decide) (by omega) (by omega) (by omega) (by omega)
      · skip
        refine xr_go hc rfl rfl ?_
        refine xr_go hc rfl rfl ?_
        refine xr_ddiv hc rfl (FP.Core.ddiv_out (fl_no64 (by omega)) (fl_fin64 (by decide)) (fl_nz64 (by decide))) (fl_d264 (by omega)) ?_
        refine xr_s2_2 hc rfl rfl rfl ?_
        refine xr_go hc rfl rfl ?_
        refine xr_go hc rfl rfl ?_
        refine xr_go hc rfl rfl ?_
        refine xr_s2_4 hc rfl rfl rfl ?_
        refine xr_inc_6 hc rfl ?_
        refine xr_go hc rfl rfl ?_
        exact ih (y - 4503599627370496) (e + 1) (i + 1) (by omega) (by omega) (by omega) (by omega) (by omega) (by omega)

set_option maxRecDepth 20000 in
theorem c_bod {n : Nat} {M : ew_Mem} {x : Int} (hx : x = 0 ∨ (4503599627370496 ≤ x ∧ x < 9218868437227405312)) : ew_FM 18 [(4, x)] n M (1, x) n M := by
  have hc := ew_c_18
  show ew_X 18 0 [(4, x), (5, 0), (5, 0), (5, 0), (5, 0), (5, 0), (5, 0)] [] n M _
  refine xr_go hc rfl rfl ?_
  refine xr_go hc rfl rfl ?_
  refine xr_d_gt hc rfl rfl (by omega) (by decide) (fun c1 => ?_) (fun c1 => ?_)
  · skip
    refine xr_go hc rfl rfl ?_
    refine xr_s2_2 hc rfl rfl rfl ?_
    refine xr_go hc rfl rfl ?_
    refine xr_s2_4 hc rfl rfl rfl ?_
    refine xr_go hc rfl rfl ?_
    refine xr_s1_6 hc rfl rfl rfl ?_
    exact c_bod_1 (by omega) 1023 x 1023 0 (by decide) (by decide) (by omega) (by omega) (by omega) (by omega)
  · skip
    refine xr_go hc rfl rfl ?_
    refine xr_ret hc rfl rfl ?_
    refine ⟨?_, rfl, rfl⟩
    congr 2
    omega

set_option maxRecDepth 20000 in
theorem m_fnan {n : Nat} {M : ew_Mem} {x : Int} (hx : ew_fw x) : ew_FM 9 [(3, x)] n M (0, 0) n M := by
  have hc := ew_c_9
  show ew_X 9 0 [(3, x)] [] n M _
  refine xr_go hc rfl rfl ?_
  refine xr_go hc rfl rfl ?_
  refine xr_f_eq hc rfl rfl hx hx (fun c1 => ?_) (fun c1 => ?_)
  · skip
    refine xr_go hc rfl rfl ?_
    refine xr_ret hc rfl rfl ?_
    exact ⟨rfl, rfl, rfl⟩
  · exfalso; omega

set_option maxRecDepth 20000 in
theorem m_dnan {n : Nat} {M : ew_Mem} {x : Int} (hx : ew_dw x) : ew_FM 7 [(4, x)] n M (0, 0) n M := by
  have hc := ew_c_7
  show ew_X 7 0 [(4, x), (5, 0)] [] n M _
  refine xr_go hc rfl rfl ?_
  refine xr_go hc rfl rfl ?_
  refine xr_d_eq hc rfl rfl hx hx (fun c1 => ?_) (fun c1 => ?_)
  · skip
    refine xr_go hc rfl rfl ?_
    refine xr_ret hc rfl rfl ?_
    exact ⟨rfl, rfl, rfl⟩
  · exfalso; omega

set_option maxRecDepth 20000 in
theorem m_f2b {n : Nat} {M : ew_Mem} {x : Int} (hx : ew_fw x) : ew_FM 8 [(3, x)] n M (0, x) n M := by
  have hc := ew_c_8
  show ew_X 8 0 [(3, x)] [] n M _
  refine xr_go hc rfl rfl ?_
  refine xr_s_1 hc rfl rfl (m_fnan hx) ?_
  refine xr_if_ne hc rfl (by decide) (fun c1 => by exfalso; omega) (fun c1 => ?_)
  refine xr_go hc rfl rfl ?_
  refine xr_go hc rfl rfl ?_
  refine xr_ret hc rfl rfl ?_
  refine ⟨?_, rfl, rfl⟩
  rw [fl_raw32 (by omega)]

set_option maxRecDepth 20000 in
theorem m_d2b {n : Nat} {M : ew_Mem} {x : Int} (hx : ew_dw x) : ew_FM 6 [(4, x)] n M (1, x) n M := by
  have hc := ew_c_6
  show ew_X 6 0 [(4, x), (5, 0)] [] n M _
  refine xr_go hc rfl rfl ?_
  refine xr_s_1 hc rfl rfl (m_dnan hx) ?_
  refine xr_if_ne hc rfl (by decide) (fun c1 => by exfalso; omega) (fun c1 => ?_)
  refine xr_go hc rfl rfl ?_
  refine xr_go hc rfl rfl ?_
  refine xr_ret hc rfl rfl ?_
  refine ⟨?_, rfl, rfl⟩
  rw [fl_raw64 (by omega)]

set_option maxRecDepth 20000 in
theorem c_sizeAt {V : ew_Mem} {n : Nat} {M : ew_Mem} (hC : s_C V n M) {m : Int} (hm : s_isM m) : ew_FM 85 [(2, 5), (0, m)] n M (3, s_sz V m) n M := by
  obtain ⟨hn, hp, hV, v0, v1, v2, v3, v4⟩ := id hC
  obtain ⟨hc6, hVW, hnd, hap, hr0, hr1, hr2, hr3, hr4, hr5⟩ := id hV
  have hc := ew_c_85
  have hM : s_isM m := hm
  have hsf : ¬ s_ecl V m = 0 → 0 < V 6 0 := fun q => by
    refine Classical.byContradiction (fun q2 => q ?_)
    unfold s_ecl
    rw [if_pos (by omega)]
  have heb : 0 ≤ s_ecl V m ∧ s_ecl V m ≤ 3 := by
    unfold s_ecl
    repeat' split
    all_goals omega
  show ew_X 85 0 [(2, 5), (0, m)] [] n M _
  refine xr_go hc rfl rfl ?_
  refine xr_go hc rfl rfl ?_
  refine xr_v_2 hc rfl rfl (ew_own_p hn rfl) (c_eclipseAt hC hm) ?_
  refine xr_if_ne hc rfl (by omega) (fun c1 => ?_) (fun c1 => ?_)
  · skip
    refine xr_go hc rfl rfl ?_
    refine xr_gf2 (A := 5) (w := 7) rfl hc rfl (ew_own_p hn rfl) (ew_pm hp rfl) ?_
    refine xr_go hc rfl rfl ?_
    refine xr_iald (A := 7) (N := 6) rfl rfl hc rfl (ew_ok_p hn rfl) (by decide) (by decide) (v3 0 (by decide)) ?_
    refine xr_go hc rfl rfl ?_
    refine xr_go hc rfl rfl ?_
    refine xr_v_2 hc rfl rfl (ew_own_p hn rfl) (c_farAt hC (hsf (by omega)) hm) ?_
    refine xr_go hc rfl rfl ?_
    refine xr_i2f hc rfl rfl ?_
    refine xr_go hc rfl rfl ?_
    refine xr_gf2 (A := 5) (w := 7) rfl hc rfl (ew_own_p hn rfl) (ew_pm hp rfl) ?_
    refine xr_go hc rfl rfl ?_
    refine xr_iald (A := 7) (N := 6) rfl rfl hc rfl (ew_ok_p hn rfl) (by decide) (by decide) (v3 0 (by decide)) ?_
    refine xr_go hc rfl rfl ?_
    refine xr_go hc rfl rfl ?_
    refine xr_i2f hc rfl rfl ?_
    refine xr_fdiv hc rfl (fl_szn (by omega)) rfl ?_
    refine xr_ret hc rfl rfl ?_
    refine ⟨?_, rfl, rfl⟩
    unfold s_sz
    first
      | (rw [if_pos (by omega)]; done)
      | (rw [if_neg (by omega)]; rfl)
  · skip
    refine xr_go hc rfl rfl ?_
    refine xr_ret hc rfl rfl ?_
    refine ⟨?_, rfl, rfl⟩
    unfold s_sz
    first
      | (rw [if_pos (by omega)]; done)
      | (rw [if_neg (by omega)]; rfl)

set_option maxRecDepth 20000 in
theorem m_sizeOf {V : ew_Mem} {n : Nat} {M : ew_Mem} (hM : s_M V n M) {m : Int} (hm : s_isM m) : ew_FM 199 [(2, 38), (0, m)] n M (3, s_sz V m) n M := by
  obtain ⟨hn, hp, hV, u0, u1, u2, u3, u4⟩ := id hM
  obtain ⟨hc6, hVW, hnd, hap, hr0, hr1, hr2, hr3, hr4, hr5⟩ := id hV
  have hc := ew_c_199
  have hMm : s_isM m := hm
  have hsf : ¬ s_ecl V m = 0 → 0 < V 6 0 := fun q => by
    refine Classical.byContradiction (fun q2 => q ?_)
    unfold s_ecl
    rw [if_pos (by omega)]
  have heb : 0 ≤ s_ecl V m ∧ s_ecl V m ≤ 3 := by
    unfold s_ecl
    repeat' split
    all_goals omega
  show ew_X 199 0 [(2, 38), (0, m)] [] n M _
  refine xr_go hc rfl rfl ?_
  refine xr_go hc rfl rfl ?_
  refine xr_v_2 hc rfl rfl (ew_own_p hn rfl) (m_eclipseAt hM hm) ?_
  refine xr_if_ne hc rfl (by omega) (fun c1 => ?_) (fun c1 => ?_)
  · skip
    refine xr_go hc rfl rfl ?_
    refine xr_gf2 (A := 38) (w := 45) rfl hc rfl (ew_own_p hn rfl) (ew_pm hp rfl) ?_
    refine xr_go hc rfl rfl ?_
    refine xr_iald (A := 45) (N := 6) rfl rfl hc rfl (ew_ok_p hn rfl) (by decide) (by decide) (u3 0 (by decide)) ?_
    refine xr_go hc rfl rfl ?_
    refine xr_go hc rfl rfl ?_
    refine xr_v_2 hc rfl rfl (ew_own_p hn rfl) (m_far hM (hsf (by omega)) hm) ?_
    refine xr_go hc rfl rfl ?_
    refine xr_i2f hc rfl rfl ?_
    refine xr_go hc rfl rfl ?_
    refine xr_gf2 (A := 38) (w := 45) rfl hc rfl (ew_own_p hn rfl) (ew_pm hp rfl) ?_
    refine xr_go hc rfl rfl ?_
    refine xr_iald (A := 45) (N := 6) rfl rfl hc rfl (ew_ok_p hn rfl) (by decide) (by decide) (u3 0 (by decide)) ?_
    refine xr_go hc rfl rfl ?_
    refine xr_go hc rfl rfl ?_
    refine xr_i2f hc rfl rfl ?_
    refine xr_fdiv hc rfl (fl_szn (by omega)) rfl ?_
    refine xr_ret hc rfl rfl ?_
    refine ⟨?_, rfl, rfl⟩
    unfold s_sz
    first
      | (rw [if_pos (by omega)]; done)
      | (rw [if_neg (by omega)]; rfl)
  · skip
    refine xr_go hc rfl rfl ?_
    refine xr_go hc rfl rfl ?_
    refine xr_ret hc rfl rfl ?_
    refine ⟨?_, rfl, rfl⟩
    unfold s_sz
    first
      | (rw [if_pos (by omega)]; done)
      | (rw [if_neg (by omega)]; rfl)

theorem s_sz_fw {V : ew_Mem} (hV : s_VO V) (m : Int) : ew_fw (s_sz V m) := by
  have := s_sz_bd hV m
  omega

set_option maxRecDepth 20000 in
theorem cx_angle {V : ew_Mem} {n : Nat} {M : ew_Mem} (hC : s_C V n M) {w m : Int} (hw : ew_in w) (hm : ew_in m) : ew_FM 117 [(2, 4), (0, w), (0, m)] n M (1, s_a_angle V w m) n M := by
  obtain ⟨hn, hp, hV, v0, v1, v2, v3, v4⟩ := id hC
  obtain ⟨hc6, hVW, hnd, hap, hr0, hr1, hr2, hr3, hr4, hr5⟩ := id hV
  have hc := ew_c_117
  have hat : s_isW V w → 0 ≤ s_at V w.toNat m ∧ s_at V w.toNat m < V w.toNat 1 ∧ 2 ≤ V w.toNat 1 ∧ V w.toNat 1 ≤ 100000 := fun q => by
    have hW := (hVW w.toNat (by omega)).2.1
    unfold s_at
    have g1 := Int.emod_nonneg (s_way V w.toNat m) (show ¬ V w.toNat 1 = 0 by omega)
    have g2 := Int.emod_lt_of_pos (s_way V w.toNat m) (show 0 < V w.toNat 1 by omega)
    omega
  show ew_X 117 0 [(2, 4), (0, w), (0, m), (5, 0)] [] n M _
  refine xr_go hc rfl rfl ?_
  refine xr_gf2 (A := 4) (w := 5) rfl hc rfl (ew_own_p hn rfl) (ew_pm hp rfl) ?_
  refine xr_go hc rfl rfl ?_
  by_cases hwn : 0 ≤ w ∧ w < V 6 0
  · skip
    refine xr_v_2 hc rfl rfl (ew_own_p hn rfl) (c_numbered hC hwn) ?_
    first
      | (have hwf := v4 w.toNat (by omega)
         have hw59 := hwf.1
         simp only [ew_own, Bool.and_eq_true, decide_eq_true_eq] at hw59
         have hWO := hVW w.toNat (by omega)
         obtain ⟨k0, k1, k2, k3, k4⟩ := id hWO)
      | skip
    refine xr_s1_3 hc rfl rfl rfl ?_
    refine xr_go hc rfl rfl ?_
    refine xr_null hc rfl (fun c1 => by exfalso; omega) (fun c1 => ?_)
    refine xr_go hc rfl rfl ?_
    refine xr_s_1 hc rfl rfl (c_isMonth hm) ?_
    refine xr_if_ne hc rfl (by split <;> omega) (fun c2 => ?_) (fun c2 => ?_)
    · skip
      refine xr_go hc rfl rfl ?_
      refine xr_go hc rfl rfl ?_
      refine xr_gf2 (A := 4) (w := 5) rfl hc rfl (ew_own_p hn rfl) (ew_pm hp rfl) ?_
      refine xr_go hc rfl rfl ?_
      refine xr_go hc rfl rfl ?_
      refine xr_v_3 hc rfl rfl (ew_own_p hn rfl) (c_placeAt hC (by omega) (by omega)) ?_
      refine xr_i2d hc rfl rfl ?_
      refine xr_dmul hc rfl fl_an1 rfl ?_
      refine xr_go hc rfl rfl ?_
      refine xr_gf0 rfl hc rfl hwf.1 hwf.2.2.1 ?_
      refine xr_i2d hc rfl rfl ?_
      have hat1 := hat hwn
      refine xr_ddiv hc rfl (fl_an2 (by omega)) rfl ?_
      have hat2 := hat hwn
      have hbo := fl_an (p := s_at V w.toNat m) (w := V w.toNat 1) (by omega) (by omega)
      have hbo : s_anw (s_at V w.toNat m) (V w.toNat 1) = 0 ∨ (4503599627370496 ≤ s_anw (s_at V w.toNat m) (V w.toNat 1) ∧ s_anw (s_at V w.toNat m) (V w.toNat 1) < 9218868437227405312) := by omega
      refine xr_s_1 hc rfl rfl (c_bod hbo) ?_
      refine xr_ret hc rfl rfl ?_
      first
        | (refine ⟨?_, rfl, rfl⟩
           unfold s_a_angle
           rw [if_pos (by omega)]
           rfl)
        | (refine ⟨?_, rfl, rfl⟩
           unfold s_a_angle
           rw [if_neg (by omega)]
           rfl)
    · skip
      refine xr_go hc rfl rfl ?_
      refine xr_ret hc rfl rfl ?_
      first
        | (refine ⟨?_, rfl, rfl⟩
           unfold s_a_angle
           rw [if_pos (by omega)]
           rfl)
        | (refine ⟨?_, rfl, rfl⟩
           unfold s_a_angle
           rw [if_neg (by omega)]
           rfl)
  · skip
    refine xr_v_2 hc rfl rfl (ew_own_p hn rfl) (c_numberedN hC hw hwn) ?_
    first
      | (have hwf := v4 w.toNat (by omega)
         have hw59 := hwf.1
         simp only [ew_own, Bool.and_eq_true, decide_eq_true_eq] at hw59
         have hWO := hVW w.toNat (by omega)
         obtain ⟨k0, k1, k2, k3, k4⟩ := id hWO)
      | skip
    refine xr_s1_3 hc rfl rfl rfl ?_
    refine xr_go hc rfl rfl ?_
    refine xr_null hc rfl (fun c3 => ?_) (fun c3 => by exfalso; omega)
    refine xr_go hc rfl rfl ?_
    refine xr_ret hc rfl rfl ?_
    first
      | (refine ⟨?_, rfl, rfl⟩
         unfold s_a_angle
         rw [if_pos (by omega)]
         rfl)
      | (refine ⟨?_, rfl, rfl⟩
         unfold s_a_angle
         rw [if_neg (by omega)]
         rfl)

set_option maxRecDepth 20000 in
theorem mx_angle {V : ew_Mem} {n : Nat} {M : ew_Mem} (hM : s_M V n M) {w m : Int} (hw : ew_in w) (hm : ew_in m) : ew_FM 197 [(2, 38), (0, w), (0, m)] n M (1, s_a_angle V w m) n M := by
  obtain ⟨hn, hp, hV, u0, u1, u2, u3, u4⟩ := id hM
  obtain ⟨hc6, hVW, hnd, hap, hr0, hr1, hr2, hr3, hr4, hr5⟩ := id hV
  have hc := ew_c_197
  have hat : s_isW V w → 0 ≤ s_at V w.toNat m ∧ s_at V w.toNat m < V w.toNat 1 ∧ 2 ≤ V w.toNat 1 ∧ V w.toNat 1 ≤ 100000 := fun q => by
    have hW := (hVW w.toNat (by omega)).2.1
    unfold s_at
    have g1 := Int.emod_nonneg (s_way V w.toNat m) (show ¬ V w.toNat 1 = 0 by omega)
    have g2 := Int.emod_lt_of_pos (s_way V w.toNat m) (show 0 < V w.toNat 1 by omega)
    omega
  show ew_X 197 0 [(2, 38), (0, w), (0, m)] [] n M _
  refine xr_go hc rfl rfl ?_
  refine xr_go hc rfl rfl ?_
  refine xr_v_2 hc rfl rfl (ew_own_p hn rfl) (m_isWheel hM hw) ?_
  refine xr_if_eq hc rfl (by split <;> omega) (fun c1 => ?_) (fun c1 => ?_)
  · skip
    refine xr_go hc rfl rfl ?_
    refine xr_ret hc rfl rfl ?_
    first
      | (refine ⟨?_, rfl, rfl⟩
         unfold s_a_angle
         rw [if_pos (by omega)]
         rfl)
      | (refine ⟨?_, rfl, rfl⟩
         unfold s_a_angle
         rw [if_neg (by omega)]
         rfl)
  · skip
    refine xr_go hc rfl rfl ?_
    refine xr_s_1 hc rfl rfl (m_isMonth hm) ?_
    refine xr_if_eq hc rfl (by split <;> omega) (fun c2 => ?_) (fun c2 => ?_)
    · skip
      refine xr_go hc rfl rfl ?_
      refine xr_ret hc rfl rfl ?_
      first
        | (refine ⟨?_, rfl, rfl⟩
           unfold s_a_angle
           rw [if_pos (by omega)]
           rfl)
        | (refine ⟨?_, rfl, rfl⟩
           unfold s_a_angle
           rw [if_neg (by omega)]
           rfl)
    · skip
      refine xr_go hc rfl rfl ?_
      refine xr_go hc rfl rfl ?_
      refine xr_go hc rfl rfl ?_
      refine xr_go hc rfl rfl ?_
      refine xr_v_3 hc rfl rfl (ew_own_p hn rfl) (m_place hM (by omega) (by omega)) ?_
      refine xr_i2d hc rfl rfl ?_
      refine xr_dmul hc rfl fl_an1 rfl ?_
      refine xr_go hc rfl rfl ?_
      obtain ⟨q0, q1, q2, q3, q4, q5⟩ := u4 w.toNat (by omega)
      refine xr_gf2 (A := 38) (w := 40) rfl hc rfl (ew_own_p hn rfl) (ew_pm hp rfl) ?_
      refine xr_go hc rfl rfl ?_
      refine xr_gf2 (A := 38) (w := 44) rfl hc rfl (ew_own_p hn rfl) (ew_pm hp rfl) ?_
      refine xr_go hc rfl rfl ?_
      refine xr_iald (A := 44) (N := 6) rfl rfl hc rfl (ew_ok_p hn rfl) (by omega) (by omega) rfl ?_
      refine xr_iald (A := 40) (N := 64) rfl rfl hc rfl (ew_ok_p hn rfl) (by omega) (by omega) q2 ?_
      refine xr_i2d hc rfl rfl ?_
      have hat2 := hat (by omega)
      refine xr_ddiv hc rfl (fl_an2 (by omega)) rfl ?_
      have hbo := fl_an (p := s_at V w.toNat m) (w := V w.toNat 1) (by omega) (by omega)
      have hbo : ew_dw (s_anw (s_at V w.toNat m) (V w.toNat 1)) := by omega
      refine xr_s_1 hc rfl rfl (m_d2b hbo) ?_
      refine xr_go hc rfl rfl ?_
      refine xr_ret hc rfl rfl ?_
      first
        | (refine ⟨?_, rfl, rfl⟩
           unfold s_a_angle
           rw [if_pos (by omega)]
           rfl)
        | (refine ⟨?_, rfl, rfl⟩
           unfold s_a_angle
           rw [if_neg (by omega)]
           rfl)

set_option maxRecDepth 20000 in
theorem cx_size {V : ew_Mem} {n : Nat} {M : ew_Mem} (hC : s_C V n M) {m x : Int} (hm : ew_in m) (hx : ew_in x) : ew_FM 118 [(2, 4), (0, m), (0, x)] n M (0, s_a_size V m x) n M := by
  obtain ⟨hn, hp, hV, v0, v1, v2, v3, v4⟩ := id hC
  obtain ⟨hc6, hVW, hnd, hap, hr0, hr1, hr2, hr3, hr4, hr5⟩ := id hV
  have hc := ew_c_118
  have hsb := s_sz_bd hV m
  show ew_X 118 0 [(2, 4), (0, m), (0, x), (5, 0)] [] n M _
  refine xr_go hc rfl rfl ?_
  refine xr_s_1 hc rfl rfl (c_isMonth hm) ?_
  refine xr_if_eq hc rfl (by split <;> omega) (fun c1 => ?_) (fun c1 => ?_)
  · skip
    refine xr_go hc rfl rfl ?_
    refine xr_ret hc rfl rfl ?_
    refine ⟨?_, rfl, rfl⟩
    unfold s_a_size
    first
      | (rw [if_neg (by omega)]; done)
      | (rw [if_pos (by omega), if_pos (by omega)]; done)
      | (rw [if_pos (by omega), if_neg (by omega), if_pos (by omega)]; done)
      | (rw [if_pos (by omega), if_neg (by omega), if_neg (by omega)]; done)
  · skip
    refine xr_go hc rfl rfl ?_
    refine xr_if_lt hc rfl (by omega) (fun c2 => ?_) (fun c2 => ?_)
    · skip
      refine xr_go hc rfl rfl ?_
      refine xr_ret hc rfl rfl ?_
      refine ⟨?_, rfl, rfl⟩
      unfold s_a_size
      first
        | (rw [if_neg (by omega)]; done)
        | (rw [if_pos (by omega), if_pos (by omega)]; done)
        | (rw [if_pos (by omega), if_neg (by omega), if_pos (by omega)]; done)
        | (rw [if_pos (by omega), if_neg (by omega), if_neg (by omega)]; done)
    · skip
      refine xr_go hc rfl rfl ?_
      refine xr_go hc rfl rfl ?_
      refine xr_icmp_le hc rfl (by omega) (by decide) (fun c3 => ?_) (fun c3 => ?_)
      · skip
        refine xr_go hc rfl rfl ?_
        refine xr_gf2 (A := 4) (w := 5) rfl hc rfl (ew_own_p hn rfl) (ew_pm hp rfl) ?_
        refine xr_gf0 (A := 5) rfl hc rfl (ew_own_p hn rfl) v0 ?_
        refine xr_if_ne hc rfl (by omega) (fun c4 => ?_) (fun c4 => ?_)
        · skip
          refine xr_go hc rfl rfl ?_
          refine xr_gf2 (A := 4) (w := 5) rfl hc rfl (ew_own_p hn rfl) (ew_pm hp rfl) ?_
          refine xr_go hc rfl rfl ?_
          refine xr_v_2 hc rfl rfl (ew_own_p hn rfl) (c_sizeAt hC (by omega)) ?_
          refine xr_s1_3 hc rfl rfl rfl ?_
          refine xr_go hc rfl rfl ?_
          refine xr_if_ne hc rfl (by omega) (fun c5 => ?_) (fun c5 => ?_)
          · skip
            refine xr_go hc rfl rfl ?_
            refine xr_go hc rfl rfl ?_
            refine xr_fmul hc rfl (FP.Core.fmul_out' (fl_no32 (s_sz_fw hV m)) (fl_fin32 (by decide)) (fl_nz32 (by decide))) rfl ?_
            refine xr_f2i hc rfl rfl ?_
            refine xr_ret hc rfl rfl ?_
            refine ⟨?_, rfl, rfl⟩
            unfold s_a_size
            first
              | (rw [if_neg (by omega)]; done)
              | (rw [if_pos (by omega), if_pos (by omega)]; done)
              | (rw [if_pos (by omega), if_neg (by omega), if_pos (by omega)]; done)
              | (rw [if_pos (by omega), if_neg (by omega), if_neg (by omega)]; done)
          · skip
            refine xr_go hc rfl rfl ?_
            refine xr_s_1 hc rfl rfl (c_bof (by omega)) ?_
            refine xr_go hc rfl rfl ?_
            refine xr_ret hc rfl rfl ?_
            refine ⟨?_, rfl, rfl⟩
            unfold s_a_size
            first
              | (rw [if_neg (by omega)]; done)
              | (rw [if_pos (by omega), if_pos (by omega)]; done)
              | (rw [if_pos (by omega), if_neg (by omega), if_pos (by omega)]; done)
              | (rw [if_pos (by omega), if_neg (by omega), if_neg (by omega)]; done)
        · skip
          refine xr_go hc rfl rfl ?_
          refine xr_ret hc rfl rfl ?_
          refine ⟨?_, rfl, rfl⟩
          unfold s_a_size
          first
            | (rw [if_neg (by omega)]; done)
            | (rw [if_pos (by omega), if_pos (by omega)]; done)
            | (rw [if_pos (by omega), if_neg (by omega), if_pos (by omega)]; done)
            | (rw [if_pos (by omega), if_neg (by omega), if_neg (by omega)]; done)
      · skip
        refine xr_go hc rfl rfl ?_
        refine xr_ret hc rfl rfl ?_
        refine ⟨?_, rfl, rfl⟩
        unfold s_a_size
        first
          | (rw [if_neg (by omega)]; done)
          | (rw [if_pos (by omega), if_pos (by omega)]; done)
          | (rw [if_pos (by omega), if_neg (by omega), if_pos (by omega)]; done)
          | (rw [if_pos (by omega), if_neg (by omega), if_neg (by omega)]; done)

set_option maxRecDepth 20000 in
theorem mx_size {V : ew_Mem} {n : Nat} {M : ew_Mem} (hM : s_M V n M) {m x : Int} (hm : ew_in m) (hx : ew_in x) : ew_FM 198 [(2, 38), (0, m), (0, x)] n M (0, s_a_size V m x) n M := by
  obtain ⟨hn, hp, hV, u0, u1, u2, u3, u4⟩ := id hM
  obtain ⟨hc6, hVW, hnd, hap, hr0, hr1, hr2, hr3, hr4, hr5⟩ := id hV
  have hc := ew_c_198
  have hsb := s_sz_bd hV m
  show ew_X 198 0 [(2, 38), (0, m), (0, x)] [] n M _
  refine xr_go hc rfl rfl ?_
  refine xr_s_1 hc rfl rfl (m_isMonth hm) ?_
  refine xr_if_eq hc rfl (by split <;> omega) (fun c1 => ?_) (fun c1 => ?_)
  · skip
    refine xr_go hc rfl rfl ?_
    refine xr_ret hc rfl rfl ?_
    refine ⟨?_, rfl, rfl⟩
    unfold s_a_size
    first
      | (rw [if_neg (by omega)]; done)
      | (rw [if_pos (by omega), if_pos (by omega)]; done)
      | (rw [if_pos (by omega), if_neg (by omega), if_pos (by omega)]; done)
      | (rw [if_pos (by omega), if_neg (by omega), if_neg (by omega)]; done)
  · skip
    refine xr_go hc rfl rfl ?_
    refine xr_i2l hc rfl (by omega) ?_
    refine xr_go hc rfl rfl ?_
    refine xr_go hc rfl rfl ?_
    refine xr_s_3 hc rfl rfl (c_in (by omega) (by decide) (by decide)) ?_
    refine xr_if_ne hc rfl (by split <;> omega) (fun c2 => ?_) (fun c2 => ?_)
    · skip
      refine xr_go hc rfl rfl ?_
      refine xr_gf0 (A := 38) rfl hc rfl (ew_own_p hn rfl) u0 ?_
      refine xr_if_ne hc rfl (by omega) (fun c3 => ?_) (fun c3 => ?_)
      · skip
        refine xr_go hc rfl rfl ?_
        refine xr_if_ne hc rfl (by omega) (fun c4 => ?_) (fun c4 => ?_)
        · skip
          refine xr_go hc rfl rfl ?_
          refine xr_go hc rfl rfl ?_
          refine xr_v_2 hc rfl rfl (ew_own_p hn rfl) (m_sizeOf hM (by omega)) ?_
          refine xr_go hc rfl rfl ?_
          refine xr_fmul hc rfl (FP.Core.fmul_out' (fl_no32 (s_sz_fw hV m)) (fl_fin32 (by decide)) (fl_nz32 (by decide))) rfl ?_
          refine xr_f2i hc rfl rfl ?_
          refine xr_ret hc rfl rfl ?_
          refine ⟨?_, rfl, rfl⟩
          unfold s_a_size
          first
            | (rw [if_neg (by omega)]; done)
            | (rw [if_pos (by omega), if_pos (by omega)]; done)
            | (rw [if_pos (by omega), if_neg (by omega), if_pos (by omega)]; done)
            | (rw [if_pos (by omega), if_neg (by omega), if_neg (by omega)]; done)
        · skip
          refine xr_go hc rfl rfl ?_
          refine xr_go hc rfl rfl ?_
          refine xr_v_2 hc rfl rfl (ew_own_p hn rfl) (m_sizeOf hM (by omega)) ?_
          refine xr_s_1 hc rfl rfl (m_f2b (s_sz_fw hV m)) ?_
          refine xr_go hc rfl rfl ?_
          refine xr_ret hc rfl rfl ?_
          refine ⟨?_, rfl, rfl⟩
          unfold s_a_size
          first
            | (rw [if_neg (by omega)]; done)
            | (rw [if_pos (by omega), if_pos (by omega)]; done)
            | (rw [if_pos (by omega), if_neg (by omega), if_pos (by omega)]; done)
            | (rw [if_pos (by omega), if_neg (by omega), if_neg (by omega)]; done)
      · skip
        refine xr_go hc rfl rfl ?_
        refine xr_ret hc rfl rfl ?_
        refine ⟨?_, rfl, rfl⟩
        unfold s_a_size
        first
          | (rw [if_neg (by omega)]; done)
          | (rw [if_pos (by omega), if_pos (by omega)]; done)
          | (rw [if_pos (by omega), if_neg (by omega), if_pos (by omega)]; done)
          | (rw [if_pos (by omega), if_neg (by omega), if_neg (by omega)]; done)
    · skip
      refine xr_go hc rfl rfl ?_
      refine xr_ret hc rfl rfl ?_
      refine ⟨?_, rfl, rfl⟩
      unfold s_a_size
      first
        | (rw [if_neg (by omega)]; done)
        | (rw [if_pos (by omega), if_pos (by omega)]; done)
        | (rw [if_pos (by omega), if_neg (by omega), if_pos (by omega)]; done)
        | (rw [if_pos (by omega), if_neg (by omega), if_neg (by omega)]; done)

