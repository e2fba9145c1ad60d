/-! floats: doubled, halved; what stands behind the leading digit; quotients' bounds (FP.Core's laws stand in JvmDerived.FloatLaws) -/
theorem fl_dec {f : FP.Core.Fmt} {E t : Nat} (h1 : 1 ≤ E) (h2 : E + 1 < f.exps) (ht : t < f.tails) : FP.Core.decode f (E * f.tails + t) = .fin false (f.tails + t) (f.qmin + ((E : Int) - 1)) := by
  have h := FP.Core.decode_assemble f false E t (by omega) ht
  rw [if_neg (by omega), if_neg (by omega)] at h
  have e : FP.Core.assemble f false E t = E * f.tails + t := by
    unfold FP.Core.assemble
    rw [show (false : Bool).toNat = 0 from rfl, Nat.zero_mul, Nat.zero_add]
  rw [e] at h
  exact h
theorem fl_enc {f : FP.Core.Fmt} {E t : Nat} (h1 : 1 ≤ E) : FP.Core.encode f (.fin false (f.tails + t) (f.qmin + ((E : Int) - 1))) = E * f.tails + t := by
  show (if f.tails + t < f.tails then _ else FP.Core.assemble f false ((f.qmin + ((E : Int) - 1) - f.qmin).toNat + 1) (f.tails + t - f.tails)) = _
  rw [if_neg (by omega)]
  unfold FP.Core.assemble
  rw [show (false : Bool).toNat = 0 from rfl, Nat.zero_mul, Nat.zero_add, show (f.qmin + ((E : Int) - 1) - f.qmin).toNat + 1 = E by omega, Nat.add_sub_cancel_left]
theorem fl_fits {f : FP.Core.Fmt} (hf : FP.Core.Good f) {E t : Nat} (h1 : 1 ≤ E) (h2 : E + 1 < f.exps) (ht : t < f.tails) : FP.Core.fits f (.fin false (f.tails + t) (f.qmin + ((E : Int) - 1))) := by
  rw [← fl_dec h1 h2 ht]
  exact FP.Core.decode_fits hf _
theorem fl_mul2 {f : FP.Core.Fmt} (hf : FP.Core.Good f) {E t : Nat} (h1 : 1 ≤ E) (h2 : E + 2 < f.exps) (ht : t < f.tails) : FP.Core.mul f (E * f.tails + t) ((f.emax + 1) * f.tails + 0) = (E + 1) * f.tails + t := by
  have k1 := FP.Core.emax_exps hf
  have k2 := FP.Core.emax_pos hf
  have k3 := FP.Core.tails_pos f
  unfold FP.Core.mul
  rw [fl_dec h1 (by omega) ht, fl_dec (by omega) (by omega) k3]
  show FP.Core.encode f (FP.Core.roundRatio f (false != false) ((f.tails + t) * (f.tails + 0)) 1 (f.qmin + ((E : Int) - 1) + (f.qmin + (((f.emax + 1 : Nat) : Int) - 1)))) = _
  have k4 := fl_fits hf (E := E + 1) (by omega) (by omega) ht
  have e1 : f.qmin = 2 - (f.emax : Int) - (f.p : Int) := rfl
  have e2 := hf.2
  have e3 : f.tails = 2 ^ (f.p - 1) := rfl
  rw [show (false != false) = false from rfl, FP.Core.roundRatio_exact hf (by decide) k4, fl_enc (by omega)]
  rw [show (f.qmin + ((E : Int) - 1) + (f.qmin + (((f.emax + 1 : Nat) : Int) - 1)) - (f.qmin + (((E + 1 : Nat) : Int) - 1))).toNat = 0 by omega, show (f.qmin + (((E + 1 : Nat) : Int) - 1) - (f.qmin + ((E : Int) - 1) + (f.qmin + (((f.emax + 1 : Nat) : Int) - 1)))).toNat = f.p - 1 by omega, ← e3]
  simp
theorem fl_div2 {f : FP.Core.Fmt} (hf : FP.Core.Good f) {E t : Nat} (h1 : 2 ≤ E) (h2 : E + 1 < f.exps) (ht : t < f.tails) : FP.Core.div f (E * f.tails + t) ((f.emax + 1) * f.tails + 0) = (E - 1) * f.tails + t := by
  have k1 := FP.Core.emax_exps hf
  have k2 := FP.Core.emax_pos hf
  have k3 := FP.Core.tails_pos f
  unfold FP.Core.div
  rw [fl_dec (by omega) (by omega) ht, fl_dec (by omega) (by omega) k3]
  show FP.Core.encode f (if f.tails + 0 = 0 then _ else FP.Core.roundRatio f (false != false) (f.tails + t) (f.tails + 0) (f.qmin + ((E : Int) - 1) - (f.qmin + (((f.emax + 1 : Nat) : Int) - 1)))) = _
  have k4 := fl_fits hf (E := E - 1) (by omega) (by omega) ht
  have e1 : f.qmin = 2 - (f.emax : Int) - (f.p : Int) := rfl
  have e2 := hf.2
  have e3 : f.tails = 2 ^ (f.p - 1) := rfl
  rw [if_neg (by omega), show (false != false) = false from rfl, FP.Core.roundRatio_exact hf (by omega) k4, fl_enc (by omega)]
  rw [show (f.qmin + ((E : Int) - 1) - (f.qmin + (((f.emax + 1 : Nat) : Int) - 1)) - (f.qmin + (((E - 1 : Nat) : Int) - 1))).toNat = f.p - 1 by omega, show (f.qmin + (((E - 1 : Nat) : Int) - 1) - (f.qmin + ((E : Int) - 1) - (f.qmin + (((f.emax + 1 : Nat) : Int) - 1)))).toNat = 0 by omega, ← e3]
  simp
/-- 1.t less 1, times 2 to the digits' number: t -/
theorem fl_tail {f : FP.Core.Fmt} (hf : FP.Core.Good f) (hw : FP.Core.Wide f) {t : Nat} (ht : t < f.tails) : FP.Core.Whole (t : Int) (FP.Core.decode f (FP.Core.mul f (FP.Core.sub f (f.emax * f.tails + t) (f.emax * f.tails + 0)) ((f.emax + (f.p - 1)) * f.tails + 0))) := by
  have k1 := FP.Core.emax_exps hf
  have k2 := FP.Core.emax_pos hf
  have k3 := FP.Core.tails_pos f
  have e1 : f.qmin = 2 - (f.emax : Int) - (f.p : Int) := rfl
  have e2 := hf.2
  have e3 : f.tails = 2 ^ (f.p - 1) := rfl
  have e4 : f.p ≤ f.emax := hw
  have e5 : f.qmax = (f.emax : Int) - (f.p : Int) + 1 := rfl
  have e6 := FP.Core.two_tails hf
  unfold FP.Core.mul FP.Core.sub
  rw [fl_dec (by omega) (by omega) ht, fl_dec (by omega) (by omega) k3, fl_dec (E := f.emax + (f.p - 1)) (by omega) (by omega) k3]
  have s1 : FP.Core.exactSum (.fin false (f.tails + t) (f.qmin + ((f.emax : Int) - 1))) (FP.Core.negate (.fin false (f.tails + 0) (f.qmin + ((f.emax : Int) - 1)))) = .fin false t (f.qmin + ((f.emax : Int) - 1)) := by
    show FP.Core.Datum.fin (FP.Core.sumSign false true (FP.Core.sumUnits false (f.tails + t) (f.qmin + ((f.emax : Int) - 1)) true (f.tails + 0) (f.qmin + ((f.emax : Int) - 1)) (min (f.qmin + ((f.emax : Int) - 1)) (f.qmin + ((f.emax : Int) - 1))))) (FP.Core.sumUnits false (f.tails + t) (f.qmin + ((f.emax : Int) - 1)) true (f.tails + 0) (f.qmin + ((f.emax : Int) - 1)) (min (f.qmin + ((f.emax : Int) - 1)) (f.qmin + ((f.emax : Int) - 1)))).natAbs (min (f.qmin + ((f.emax : Int) - 1)) (f.qmin + ((f.emax : Int) - 1))) = _
    have hv : FP.Core.sumUnits false (f.tails + t) (f.qmin + ((f.emax : Int) - 1)) true (f.tails + 0) (f.qmin + ((f.emax : Int) - 1)) (f.qmin + ((f.emax : Int) - 1)) = (t : Int) := by
      unfold FP.Core.sumUnits FP.Core.inUnits FP.Core.signed
      rw [Int.sub_self]
      simp
      omega
    rw [Int.min_self, hv]
    have hs : FP.Core.sumSign false true (t : Int) = false := by
      unfold FP.Core.sumSign
      split
      · rfl
      · exact decide_eq_false (by omega)
    rw [hs, Int.natAbs_natCast]
  rw [s1]
  obtain ⟨c', q', d1, d2⟩ := FP.Core.round_exact hf false (c := t) (q := f.qmin + ((f.emax : Int) - 1)) (by omega) (by omega) (by omega)
  have d3 := FP.Core.round_fits hf (.fin false t (f.qmin + ((f.emax : Int) - 1)))
  rw [FP.Core.decode_encode hf _ d3]
  rw [d1] at d3
  rw [d1]
  have hq := d3.2.1
  rw [FP.Core.decode_encode hf _ (FP.Core.round_fits hf _)]
  refine FP.Core.whole_round hf hw (by rw [Int.natAbs_natCast]; omega) ?_
  show FP.Core.signed (false != false) (c' * (f.tails + 0) * 2 ^ (q' + (f.qmin + (((f.emax + (f.p - 1) : Nat) : Int) - 1))).toNat) = (t : Int) * ((2 ^ (-(q' + (f.qmin + (((f.emax + (f.p - 1) : Nat) : Int) - 1)))).toNat : Nat) : Int)
  rw [show q' + (f.qmin + (((f.emax + (f.p - 1) : Nat) : Int) - 1)) = q' by omega, show (false != false) = false from rfl]
  unfold FP.Core.inUnits at d2
  show ((c' * (f.tails + 0) * 2 ^ q'.toNat : Nat) : Int) = _
  rw [← Int.natCast_mul]
  congr 1
  rw [Nat.add_zero, e3]
  by_cases hq0 : q' ≤ 0
  · rw [show q'.toNat = 0 by omega, Nat.pow_zero, Nat.mul_one]
    have h2 : 0 < 2 ^ (q' - f.qmin).toNat := Nat.two_pow_pos _
    refine Nat.eq_of_mul_eq_mul_right h2 ?_
    calc c' * 2 ^ (f.p - 1) * 2 ^ (q' - f.qmin).toNat = c' * 2 ^ (q' - f.qmin).toNat * 2 ^ (f.p - 1) := by ac_rfl
      _ = t * 2 ^ (f.qmin + ((f.emax : Int) - 1) - f.qmin).toNat * 2 ^ (f.p - 1) := by rw [d2]
      _ = t * 2 ^ (-q').toNat * 2 ^ (q' - f.qmin).toNat := by
        rw [Nat.mul_assoc, Nat.mul_assoc, ← Nat.pow_add, ← Nat.pow_add]
        congr 2
        omega
  · rw [show (-q').toNat = 0 by omega, Nat.pow_zero, Nat.mul_one]
    have h2 : 0 < 2 ^ (-f.qmin).toNat := Nat.two_pow_pos _
    refine Nat.eq_of_mul_eq_mul_right h2 ?_
    calc c' * 2 ^ (f.p - 1) * 2 ^ q'.toNat * 2 ^ (-f.qmin).toNat = c' * (2 ^ q'.toNat * 2 ^ (-f.qmin).toNat) * 2 ^ (f.p - 1) := by ac_rfl
      _ = c' * 2 ^ (q' - f.qmin).toNat * 2 ^ (f.p - 1) := by
        rw [← Nat.pow_add, show q'.toNat + (-f.qmin).toNat = (q' - f.qmin).toNat by omega]
      _ = t * 2 ^ (f.qmin + ((f.emax : Int) - 1) - f.qmin).toNat * 2 ^ (f.p - 1) := by rw [d2]
      _ = t * 2 ^ (-f.qmin).toNat := by
        rw [Nat.mul_assoc, ← Nat.pow_add]
        congr 2
        omega
/-- a quotient of whole numbers above 0 -/
theorem fl_quot {f : FP.Core.Fmt} {X Y : FP.Core.Datum} {a b : Nat} (hX : FP.Core.Whole (a : Int) X) (hY : FP.Core.Whole (b : Int) Y) (ha : 0 < a) (hb : 0 < b) : FP.Core.quotient f X Y = FP.Core.roundRatio f false a b 0 := by
  cases X with
  | nan => exact hX.elim
  | inf => exact hX.elim
  | fin s c q =>
  cases Y with
  | nan => exact hY.elim
  | inf => exact hY.elim
  | fin t d r =>
    have z1 := FP.Core.whole_zero hX
    have z2 := FP.Core.whole_zero hY
    have s1 := FP.Core.whole_sign hX (by omega)
    have s2 := FP.Core.whole_sign hY (by omega)
    have n1 := FP.Core.whole_natAbs hX
    have n2 := FP.Core.whole_natAbs hY
    rw [Int.natAbs_natCast] at n1 n2
    have hd : ¬ d = 0 := by omega
    have hs : s = false := by rw [s1]; exact decide_eq_false (by omega)
    have ht : t = false := by rw [s2]; exact decide_eq_false (by omega)
    show (if d = 0 then _ else FP.Core.roundRatio f (s != t) c d (q - r)) = _
    rw [if_neg hd, hs, ht, show (false != false) = false from rfl]
    refine FP.Core.roundRatio_congr (by omega) hb ?_
    rw [Int.sub_zero, show (0 : Int) - (q - r) = r - q by omega]
    have h2 : 0 < 2 ^ (min (q.toNat + (-r).toNat) (r.toNat + (-q).toNat)) := Nat.two_pow_pos _
    refine Nat.eq_of_mul_eq_mul_right h2 ?_
    calc c * b * 2 ^ (q - r).toNat * 2 ^ (min (q.toNat + (-r).toNat) (r.toNat + (-q).toNat)) = (c * 2 ^ q.toNat) * (b * 2 ^ (-r).toNat) := by
          rw [Nat.mul_assoc (c * b), ← Nat.pow_add, show (q - r).toNat + min (q.toNat + (-r).toNat) (r.toNat + (-q).toNat) = q.toNat + (-r).toNat by omega, Nat.pow_add]
          ac_rfl
      _ = (a * 2 ^ (-q).toNat) * (d * 2 ^ r.toNat) := by rw [n1, n2]
      _ = a * d * 2 ^ (r - q).toNat * 2 ^ (min (q.toNat + (-r).toNat) (r.toNat + (-q).toNat)) := by
          rw [Nat.mul_assoc (a * d), ← Nat.pow_add, show (r - q).toNat + min (q.toNat + (-r).toNat) (r.toNat + (-q).toNat) = r.toNat + (-q).toNat by omega, Nat.pow_add]
          ac_rfl
theorem fl_le {f : FP.Core.Fmt} (hf : FP.Core.Good f) {n A B K j : Nat} (hn : FP.Core.decode f n = FP.Core.roundRatio f false A B 0) (hB : 0 < B) (hK : 1 ≤ K) (hj : f.p - 1 + (K - 1) = (-f.qmin).toNat + j) (h : A ≤ 2 ^ j * B) : FP.Core.mag f n ≤ K * f.tails := by
  have hq := FP.Core.qmin_neg hf
  refine FP.Core.mag_le hf hn hB (e0 := f.qmin) (Int.le_refl _) (by omega) ?_
  rw [FP.Core.unitsOf_start hK, Int.sub_self]
  unfold FP.Core.inUnits
  rw [show (0 - f.qmin).toNat = (-f.qmin).toNat by omega, show f.tails = 2 ^ (f.p - 1) from rfl, ← Nat.pow_add, hj, Int.toNat_zero, Nat.pow_zero, Nat.mul_one, Nat.pow_add]
  calc A * 2 ^ (-f.qmin).toNat ≤ 2 ^ j * B * 2 ^ (-f.qmin).toNat := Nat.mul_le_mul_right _ h
    _ = 2 ^ (-f.qmin).toNat * 2 ^ j * B := by ac_rfl
theorem fl_ge {f : FP.Core.Fmt} (hf : FP.Core.Good f) {n A B l : Nat} (hn : FP.Core.decode f n = FP.Core.roundRatio f false A B 0) (hB : 0 < B) (hl : f.p - 1 + l ≤ (-f.qmin).toNat) (h : B ≤ 2 ^ l * A) : 1 * f.tails ≤ FP.Core.mag f n := by
  have hq := FP.Core.qmin_neg hf
  have k1 := FP.Core.emax_exps hf
  have k2 := FP.Core.emax_pos hf
  refine FP.Core.mag_ge hf hn hB (e0 := f.qmin) (Int.le_refl _) (by omega) ?_ ?_
  · unfold FP.Core.infBits
    exact Nat.mul_le_mul_right _ (by omega)
  · rw [FP.Core.unitsOf_start (Nat.le_refl 1), Int.sub_self]
    unfold FP.Core.inUnits
    rw [show (0 - f.qmin).toNat = (-f.qmin).toNat by omega, show f.tails = 2 ^ (f.p - 1) from rfl, Int.toNat_zero, Nat.pow_zero, Nat.mul_one, Nat.mul_one]
    calc 2 ^ (f.p - 1) * B ≤ 2 ^ (f.p - 1) * (2 ^ l * A) := Nat.mul_le_mul_left _ h
      _ = A * 2 ^ (f.p - 1 + l) := by rw [Nat.pow_add]; ac_rfl
      _ ≤ A * 2 ^ (-f.qmin).toNat := Nat.mul_le_mul_left _ (Nat.pow_le_pow_right (by decide) hl)
