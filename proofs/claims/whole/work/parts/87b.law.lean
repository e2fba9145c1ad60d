/-! the law -/
theorem ew_Cn {k : Nat} {A : List ew_AV} {n : Nat} {M : ew_Mem} {Q : Option ew_AV → Nat → ew_Mem → Prop} (h : ew_C k A n M Q) : ew_C k A n M (fun r a b => n ≤ a ∧ Q r a b) := by
  obtain ⟨f, v, n1, M1, h1, h2⟩ := h
  exact ⟨f, v, n1, M1, h1, ew_run_n f h1, h2⟩
theorem s_and63 (x : Int32) : 0 ≤ (x &&& ew_i 63).toInt ∧ (x &&& ew_i 63).toInt ≤ 63 := by
  have h1 : (ew_i 63).toBitVec = 63#32 := by decide
  have h2 : (x &&& ew_i 63).toInt = (x.toBitVec &&& 63#32).toInt := by
    rw [← Int32.toInt_toBitVec, Int32.toBitVec_and, h1]
  have h3 : (x.toBitVec &&& 63#32).toNat ≤ 63 := by
    rw [BitVec.toNat_and]
    exact Nat.and_le_right
  rw [h2, BitVec.toInt_eq_toNat_of_lt (by omega)]
  omega
theorem xr_icmp_same {k pc nx a b : Nat} {C : List ew_Ent} {z of x : Int} {L S : List ew_AV} {n : Nat} {M : ew_Mem} {Q : Option ew_AV → Nat → ew_Mem → Prop} (hc : ew_cod k = C) (h : ew_lk C pc = some (.if_icmp .eq of, nx, a, b, z)) (kt : ew_X k a L S n M Q) : ew_X k pc L ((0, x) :: (0, x) :: S) n M Q :=
  ew_X.step ((ew_stp_of hc h L _ n M).trans (by simp only [ew_stI]; rw [show ew_cn .eq (ew_i x) (ew_i x) = true from decide_eq_true rfl]; rfl)) kt
theorem lg_cmp_same (x : Int64) : (lg_cmp x x).toInt = 0 := by
  have h := ew_lcmp_of (x := x.toInt) (y := x.toInt) (by have h1 := x.le_toInt; have h2 := x.toInt_lt; exact ⟨h1, h2⟩) (by have h1 := x.le_toInt; have h2 := x.toInt_lt; exact ⟨h1, h2⟩)
  rw [if_neg (by omega), if_pos rfl] at h
  have e : ew_l x.toInt = x := Int64.ofInt_toInt x
  rw [e] at h
  exact h
theorem xr_lcmp_same {k pc nx a b nx0 a0 b0 : Nat} {C : List ew_Ent} {z z0 of x : Int} {L S : List ew_AV} {n : Nat} {M : ew_Mem} {Q : Option ew_AV → Nat → ew_Mem → Prop} (hc : ew_cod k = C) (h0 : ew_lk C pc = some (.lcmp, nx0, a0, b0, z0)) (h : ew_lk C nx0 = some (.ifCond .eq of, nx, a, b, z)) (kt : ew_X k a L S n M Q) : ew_X k pc L ((1, x) :: (1, x) :: S) n M Q :=
  ew_X.step ((ew_stp_of hc h0 L _ n M).trans (by simp only [ew_stI]; rw [lg_cmp_same])) (xr_if_eq hc h (by decide) (fun _ => kt) (fun q => absurd rfl q))
/-- a long out of two ints of the script -/
def s_pv (x y : Int) : Int := (ew_l ((ew_l x <<< ((ew_i 32).toInt64 &&& 63)).toInt) ||| ew_l ((ew_l y &&& ew_l 4294967295).toInt)).toInt
theorem s_pv_in (x y : Int) : ew_inl (s_pv x y) := by
  unfold s_pv
  have h1 := (ew_l ((ew_l x <<< ((ew_i 32).toInt64 &&& 63)).toInt) ||| ew_l ((ew_l y &&& ew_l 4294967295).toInt)).le_toInt
  have h2 := (ew_l ((ew_l x <<< ((ew_i 32).toInt64 &&& 63)).toInt) ||| ew_l ((ew_l y &&& ew_l 4294967295).toInt)).toInt_lt
  exact ⟨h1, h2⟩
set_option maxRecDepth 20000 in
theorem law_c0 {c n i L : Nat} {M : ew_Mem} (hJ : s_J c n M) (hn : 59 ≤ n) (hl : ew_len M 3 = L) (hiL : i + 6 ≤ L) (hs : ∀ k : Nat, k < 6 → ew_in (M 3 (i + k))) {Q : Option ew_AV → Nat → ew_Mem → Prop} (K : ∀ (n2 : Nat) (M2 : ew_Mem), s_J (c + 1) n2 M2 → s_lo M M2 → ew_X 239 1780 [(2, 3), (2, 4), (2, 38), (0, (i : Int))] [] n2 M2 Q) : ew_X 239 228 [(2, 3), (2, 4), (2, 38), (0, (i : Int))] [] n M Q := by
  have hc := ew_c_239
  refine xr_go hc rfl rfl ?_
  refine xr_go hc rfl rfl ?_
  refine xr_go hc rfl rfl ?_
  refine xr_go hc rfl rfl ?_
  refine xr_go hc rfl rfl ?_
  refine xr_iald (A := 3) (N := L) rfl hl hc rfl (ew_ok_p hn rfl) (by omega) (by omega) (show _ = M 3 (i + 1) from congrArg (M 3) (by omega)) ?_
  refine xr_go hc rfl rfl ?_
  refine xr_go hc rfl rfl ?_
  refine xr_go hc rfl rfl ?_
  refine xr_go hc rfl rfl ?_
  refine xr_iald (A := 3) (N := L) rfl hl hc rfl (ew_ok_p hn rfl) (by omega) (by omega) (show _ = M 3 (i + 2) from congrArg (M 3) (by omega)) ?_
  refine xr_go hc rfl rfl ?_
  refine xr_go hc rfl rfl ?_
  refine xr_go hc rfl rfl ?_
  refine xr_go hc rfl rfl ?_
  refine xr_iald (A := 3) (N := L) rfl hl hc rfl (ew_ok_p hn rfl) (by omega) (by omega) (show _ = M 3 (i + 3) from congrArg (M 3) (by omega)) ?_
  refine xr_go hc rfl rfl ?_
  refine xr_go hc rfl rfl ?_
  refine xr_go hc rfl rfl ?_
  refine xr_go hc rfl rfl ?_
  refine xr_iald (A := 3) (N := L) rfl hl hc rfl (ew_ok_p hn rfl) (by omega) (by omega) (show _ = M 3 (i + 4) from congrArg (M 3) (by omega)) ?_
  refine xr_vC_5 hc rfl rfl (ew_own_p hn rfl) (ew_Cn (J_wheel hJ (hs 1 (by decide)) (hs 2 (by decide)) (hs 3 (by decide)) (hs 4 (by decide)))) ?_
  rintro r n1 M1 ⟨hle, hlo1, x, rfl, hC2⟩
  have hn1 : 59 ≤ n1 := Nat.le_trans hn hle
  have hl1 : ew_len M1 3 = L := by
    show (M1 0 0).toNat = L
    rw [hlo1 0 0 (by decide)]
    exact hl
  show ew_X 239 252 _ [(0, x)] n1 M1 Q
  refine xr_go hc rfl rfl ?_
  refine xr_go hc rfl rfl ?_
  refine xr_go hc rfl rfl ?_
  refine xr_go hc rfl rfl ?_
  refine xr_go hc rfl rfl ?_
  refine xr_iald (A := 3) (N := L) rfl hl1 hc rfl (ew_ok_p hn1 rfl) (by omega) (by omega) (show _ = M 3 (i + 1) from (congrArg (M1 3) (by omega)).trans (hlo1 3 (i + 1) (by decide))) ?_
  refine xr_go hc rfl rfl ?_
  refine xr_go hc rfl rfl ?_
  refine xr_go hc rfl rfl ?_
  refine xr_go hc rfl rfl ?_
  refine xr_iald (A := 3) (N := L) rfl hl1 hc rfl (ew_ok_p hn1 rfl) (by omega) (by omega) (show _ = M 3 (i + 2) from (congrArg (M1 3) (by omega)).trans (hlo1 3 (i + 2) (by decide))) ?_
  refine xr_go hc rfl rfl ?_
  refine xr_go hc rfl rfl ?_
  refine xr_go hc rfl rfl ?_
  refine xr_go hc rfl rfl ?_
  refine xr_iald (A := 3) (N := L) rfl hl1 hc rfl (ew_ok_p hn1 rfl) (by omega) (by omega) (show _ = M 3 (i + 3) from (congrArg (M1 3) (by omega)).trans (hlo1 3 (i + 3) (by decide))) ?_
  refine xr_go hc rfl rfl ?_
  refine xr_go hc rfl rfl ?_
  refine xr_go hc rfl rfl ?_
  refine xr_go hc rfl rfl ?_
  refine xr_iald (A := 3) (N := L) rfl hl1 hc rfl (ew_ok_p hn1 rfl) (by omega) (by omega) (show _ = M 3 (i + 4) from (congrArg (M1 3) (by omega)).trans (hlo1 3 (i + 4) (by decide))) ?_
  refine xr_vC_5 hc rfl rfl (ew_own_p hn1 rfl) hC2 ?_
  rintro r n2 M2 ⟨rfl, hJ2, hlo2⟩
  show ew_X 239 276 _ [(0, x), (0, x)] n2 M2 Q
  refine xr_icmp_same hc rfl ?_
  exact K n2 M2 hJ2 hlo2

set_option maxRecDepth 20000 in
theorem law_c1 {c n i L : Nat} {M : ew_Mem} (hJ : s_J c n M) (hn : 59 ≤ n) (hl : ew_len M 3 = L) (hiL : i + 6 ≤ L) (hs : ∀ k : Nat, k < 6 → ew_in (M 3 (i + k))) {Q : Option ew_AV → Nat → ew_Mem → Prop} (K : ∀ (n2 : Nat) (M2 : ew_Mem), s_J (c + 1) n2 M2 → s_lo M M2 → ew_X 239 1780 [(2, 3), (2, 4), (2, 38), (0, (i : Int))] [] n2 M2 Q) : ew_X 239 281 [(2, 3), (2, 4), (2, 38), (0, (i : Int))] [] n M Q := by
  have hc := ew_c_239
  refine xr_go hc rfl rfl ?_
  refine xr_go hc rfl rfl ?_
  refine xr_go hc rfl rfl ?_
  refine xr_go hc rfl rfl ?_
  refine xr_go hc rfl rfl ?_
  refine xr_iald (A := 3) (N := L) rfl hl hc rfl (ew_ok_p hn rfl) (by omega) (by omega) (show _ = M 3 (i + 1) from congrArg (M 3) (by omega)) ?_
  refine xr_go hc rfl rfl ?_
  refine xr_go hc rfl rfl ?_
  refine xr_go hc rfl rfl ?_
  refine xr_go hc rfl rfl ?_
  refine xr_iald (A := 3) (N := L) rfl hl hc rfl (ew_ok_p hn rfl) (by omega) (by omega) (show _ = M 3 (i + 2) from congrArg (M 3) (by omega)) ?_
  refine xr_vC_3 hc rfl rfl (ew_own_p hn rfl) (ew_Cn (J_of hJ (hs 1 (by decide)) (hs 2 (by decide)))) ?_
  rintro r n1 M1 ⟨hle, hlo1, x, rfl, hC2⟩
  have hn1 : 59 ≤ n1 := Nat.le_trans hn hle
  have hl1 : ew_len M1 3 = L := by
    show (M1 0 0).toNat = L
    rw [hlo1 0 0 (by decide)]
    exact hl
  show ew_X 239 295 _ [(0, x)] n1 M1 Q
  refine xr_go hc rfl rfl ?_
  refine xr_go hc rfl rfl ?_
  refine xr_go hc rfl rfl ?_
  refine xr_go hc rfl rfl ?_
  refine xr_go hc rfl rfl ?_
  refine xr_iald (A := 3) (N := L) rfl hl1 hc rfl (ew_ok_p hn1 rfl) (by omega) (by omega) (show _ = M 3 (i + 1) from (congrArg (M1 3) (by omega)).trans (hlo1 3 (i + 1) (by decide))) ?_
  refine xr_go hc rfl rfl ?_
  refine xr_go hc rfl rfl ?_
  refine xr_go hc rfl rfl ?_
  refine xr_go hc rfl rfl ?_
  refine xr_iald (A := 3) (N := L) rfl hl1 hc rfl (ew_ok_p hn1 rfl) (by omega) (by omega) (show _ = M 3 (i + 2) from (congrArg (M1 3) (by omega)).trans (hlo1 3 (i + 2) (by decide))) ?_
  refine xr_vC_3 hc rfl rfl (ew_own_p hn1 rfl) hC2 ?_
  rintro r n2 M2 ⟨rfl, hJ2, hlo2⟩
  show ew_X 239 309 _ [(0, x), (0, x)] n2 M2 Q
  refine xr_icmp_same hc rfl ?_
  exact K n2 M2 hJ2 hlo2

set_option maxRecDepth 20000 in
theorem law_c2 {c n i L : Nat} {M : ew_Mem} (hJ : s_J c n M) (hn : 59 ≤ n) (hl : ew_len M 3 = L) (hiL : i + 6 ≤ L) (hs : ∀ k : Nat, k < 6 → ew_in (M 3 (i + k))) {Q : Option ew_AV → Nat → ew_Mem → Prop} (K : ∀ (n2 : Nat) (M2 : ew_Mem), s_J (c + 1) n2 M2 → s_lo M M2 → ew_X 239 1780 [(2, 3), (2, 4), (2, 38), (0, (i : Int))] [] n2 M2 Q) : ew_X 239 314 [(2, 3), (2, 4), (2, 38), (0, (i : Int))] [] n M Q := by
  have hc := ew_c_239
  refine xr_go hc rfl rfl ?_
  refine xr_go hc rfl rfl ?_
  refine xr_go hc rfl rfl ?_
  refine xr_go hc rfl rfl ?_
  refine xr_go hc rfl rfl ?_
  refine xr_iald (A := 3) (N := L) rfl hl hc rfl (ew_ok_p hn rfl) (by omega) (by omega) (show _ = M 3 (i + 1) from congrArg (M 3) (by omega)) ?_
  refine xr_go hc rfl rfl ?_
  refine xr_go hc rfl rfl ?_
  refine xr_go hc rfl rfl ?_
  refine xr_go hc rfl rfl ?_
  refine xr_iald (A := 3) (N := L) rfl hl hc rfl (ew_ok_p hn rfl) (by omega) (by omega) (show _ = M 3 (i + 2) from congrArg (M 3) (by omega)) ?_
  refine xr_go hc rfl rfl ?_
  refine xr_go hc rfl rfl ?_
  refine xr_go hc rfl rfl ?_
  refine xr_go hc rfl rfl ?_
  refine xr_iald (A := 3) (N := L) rfl hl hc rfl (ew_ok_p hn rfl) (by omega) (by omega) (show _ = M 3 (i + 3) from congrArg (M 3) (by omega)) ?_
  refine xr_vC_4 hc rfl rfl (ew_own_p hn rfl) (ew_Cn (J_turn hJ (hs 1 (by decide)) (hs 2 (by decide)) (hs 3 (by decide)))) ?_
  rintro r n1 M1 ⟨hle, hlo1, x, rfl, hC2⟩
  have hn1 : 59 ≤ n1 := Nat.le_trans hn hle
  have hl1 : ew_len M1 3 = L := by
    show (M1 0 0).toNat = L
    rw [hlo1 0 0 (by decide)]
    exact hl
  show ew_X 239 333 _ [(0, x)] n1 M1 Q
  refine xr_go hc rfl rfl ?_
  refine xr_go hc rfl rfl ?_
  refine xr_go hc rfl rfl ?_
  refine xr_go hc rfl rfl ?_
  refine xr_go hc rfl rfl ?_
  refine xr_iald (A := 3) (N := L) rfl hl1 hc rfl (ew_ok_p hn1 rfl) (by omega) (by omega) (show _ = M 3 (i + 1) from (congrArg (M1 3) (by omega)).trans (hlo1 3 (i + 1) (by decide))) ?_
  refine xr_go hc rfl rfl ?_
  refine xr_go hc rfl rfl ?_
  refine xr_go hc rfl rfl ?_
  refine xr_go hc rfl rfl ?_
  refine xr_iald (A := 3) (N := L) rfl hl1 hc rfl (ew_ok_p hn1 rfl) (by omega) (by omega) (show _ = M 3 (i + 2) from (congrArg (M1 3) (by omega)).trans (hlo1 3 (i + 2) (by decide))) ?_
  refine xr_go hc rfl rfl ?_
  refine xr_go hc rfl rfl ?_
  refine xr_go hc rfl rfl ?_
  refine xr_go hc rfl rfl ?_
  refine xr_iald (A := 3) (N := L) rfl hl1 hc rfl (ew_ok_p hn1 rfl) (by omega) (by omega) (show _ = M 3 (i + 3) from (congrArg (M1 3) (by omega)).trans (hlo1 3 (i + 3) (by decide))) ?_
  refine xr_vC_4 hc rfl rfl (ew_own_p hn1 rfl) hC2 ?_
  rintro r n2 M2 ⟨rfl, hJ2, hlo2⟩
  show ew_X 239 352 _ [(0, x), (0, x)] n2 M2 Q
  refine xr_icmp_same hc rfl ?_
  exact K n2 M2 hJ2 hlo2

set_option maxRecDepth 20000 in
theorem law_c3 {c n i L : Nat} {M : ew_Mem} (hJ : s_J c n M) (hn : 59 ≤ n) (hl : ew_len M 3 = L) (hiL : i + 6 ≤ L) (hs : ∀ k : Nat, k < 6 → ew_in (M 3 (i + k))) {Q : Option ew_AV → Nat → ew_Mem → Prop} (K : ∀ (n2 : Nat) (M2 : ew_Mem), s_J (c + 1) n2 M2 → s_lo M M2 → ew_X 239 1780 [(2, 3), (2, 4), (2, 38), (0, (i : Int))] [] n2 M2 Q) : ew_X 239 357 [(2, 3), (2, 4), (2, 38), (0, (i : Int))] [] n M Q := by
  have hc := ew_c_239
  refine xr_go hc rfl rfl ?_
  refine xr_vC_1 hc rfl rfl (ew_own_p hn rfl) (ew_Cn (J_drop hJ )) ?_
  rintro r n1 M1 ⟨hle, hlo1, x, rfl, hC2⟩
  have hn1 : 59 ≤ n1 := Nat.le_trans hn hle
  have hl1 : ew_len M1 3 = L := by
    show (M1 0 0).toNat = L
    rw [hlo1 0 0 (by decide)]
    exact hl
  show ew_X 239 361 _ [(0, x)] n1 M1 Q
  refine xr_go hc rfl rfl ?_
  refine xr_vC_1 hc rfl rfl (ew_own_p hn1 rfl) hC2 ?_
  rintro r n2 M2 ⟨rfl, hJ2, hlo2⟩
  show ew_X 239 365 _ [(0, x), (0, x)] n2 M2 Q
  refine xr_icmp_same hc rfl ?_
  exact K n2 M2 hJ2 hlo2

set_option maxRecDepth 20000 in
theorem law_c4 {c n i L : Nat} {M : ew_Mem} (hJ : s_J c n M) (hn : 59 ≤ n) (hl : ew_len M 3 = L) (hiL : i + 6 ≤ L) (hs : ∀ k : Nat, k < 6 → ew_in (M 3 (i + k))) {Q : Option ew_AV → Nat → ew_Mem → Prop} (K : ∀ (n2 : Nat) (M2 : ew_Mem), s_J (c + 1) n2 M2 → s_lo M M2 → ew_X 239 1780 [(2, 3), (2, 4), (2, 38), (0, (i : Int))] [] n2 M2 Q) : ew_X 239 370 [(2, 3), (2, 4), (2, 38), (0, (i : Int))] [] n M Q := by
  have hc := ew_c_239
  refine xr_go hc rfl rfl ?_
  refine xr_go hc rfl rfl ?_
  refine xr_go hc rfl rfl ?_
  refine xr_go hc rfl rfl ?_
  refine xr_go hc rfl rfl ?_
  refine xr_iald (A := 3) (N := L) rfl hl hc rfl (ew_ok_p hn rfl) (by omega) (by omega) (show _ = M 3 (i + 1) from congrArg (M 3) (by omega)) ?_
  refine xr_go hc rfl rfl ?_
  refine xr_go hc rfl rfl ?_
  refine xr_go hc rfl rfl ?_
  refine xr_go hc rfl rfl ?_
  refine xr_iald (A := 3) (N := L) rfl hl hc rfl (ew_ok_p hn rfl) (by omega) (by omega) (show _ = M 3 (i + 2) from congrArg (M 3) (by omega)) ?_
  refine xr_vC_3 hc rfl rfl (ew_own_p hn rfl) (ew_Cn (J_at hJ (hs 1 (by decide)) (hs 2 (by decide)))) ?_
  rintro r n1 M1 ⟨hle, hlo1, x, rfl, hC2⟩
  have hn1 : 59 ≤ n1 := Nat.le_trans hn hle
  have hl1 : ew_len M1 3 = L := by
    show (M1 0 0).toNat = L
    rw [hlo1 0 0 (by decide)]
    exact hl
  show ew_X 239 384 _ [(0, x)] n1 M1 Q
  refine xr_go hc rfl rfl ?_
  refine xr_go hc rfl rfl ?_
  refine xr_go hc rfl rfl ?_
  refine xr_go hc rfl rfl ?_
  refine xr_go hc rfl rfl ?_
  refine xr_iald (A := 3) (N := L) rfl hl1 hc rfl (ew_ok_p hn1 rfl) (by omega) (by omega) (show _ = M 3 (i + 1) from (congrArg (M1 3) (by omega)).trans (hlo1 3 (i + 1) (by decide))) ?_
  refine xr_go hc rfl rfl ?_
  refine xr_go hc rfl rfl ?_
  refine xr_go hc rfl rfl ?_
  refine xr_go hc rfl rfl ?_
  refine xr_iald (A := 3) (N := L) rfl hl1 hc rfl (ew_ok_p hn1 rfl) (by omega) (by omega) (show _ = M 3 (i + 2) from (congrArg (M1 3) (by omega)).trans (hlo1 3 (i + 2) (by decide))) ?_
  refine xr_vC_3 hc rfl rfl (ew_own_p hn1 rfl) hC2 ?_
  rintro r n2 M2 ⟨rfl, hJ2, hlo2⟩
  show ew_X 239 398 _ [(0, x), (0, x)] n2 M2 Q
  refine xr_icmp_same hc rfl ?_
  exact K n2 M2 hJ2 hlo2

set_option maxRecDepth 20000 in
theorem law_c5 {c n i L : Nat} {M : ew_Mem} (hJ : s_J c n M) (hn : 59 ≤ n) (hl : ew_len M 3 = L) (hiL : i + 6 ≤ L) (hs : ∀ k : Nat, k < 6 → ew_in (M 3 (i + k))) {Q : Option ew_AV → Nat → ew_Mem → Prop} (K : ∀ (n2 : Nat) (M2 : ew_Mem), s_J (c + 1) n2 M2 → s_lo M M2 → ew_X 239 1780 [(2, 3), (2, 4), (2, 38), (0, (i : Int))] [] n2 M2 Q) : ew_X 239 403 [(2, 3), (2, 4), (2, 38), (0, (i : Int))] [] n M Q := by
  have hc := ew_c_239
  refine xr_go hc rfl rfl ?_
  refine xr_go hc rfl rfl ?_
  refine xr_go hc rfl rfl ?_
  refine xr_go hc rfl rfl ?_
  refine xr_go hc rfl rfl ?_
  refine xr_iald (A := 3) (N := L) rfl hl hc rfl (ew_ok_p hn rfl) (by omega) (by omega) (show _ = M 3 (i + 1) from congrArg (M 3) (by omega)) ?_
  refine xr_go hc rfl rfl ?_
  refine xr_go hc rfl rfl ?_
  refine xr_go hc rfl rfl ?_
  refine xr_go hc rfl rfl ?_
  refine xr_iald (A := 3) (N := L) rfl hl hc rfl (ew_ok_p hn rfl) (by omega) (by omega) (show _ = M 3 (i + 2) from congrArg (M 3) (by omega)) ?_
  refine xr_vC_3 hc rfl rfl (ew_own_p hn rfl) (ew_Cn (J_rounds hJ (hs 1 (by decide)) (hs 2 (by decide)))) ?_
  rintro r n1 M1 ⟨hle, hlo1, x, rfl, hC2⟩
  have hn1 : 59 ≤ n1 := Nat.le_trans hn hle
  have hl1 : ew_len M1 3 = L := by
    show (M1 0 0).toNat = L
    rw [hlo1 0 0 (by decide)]
    exact hl
  show ew_X 239 417 _ [(1, x)] n1 M1 Q
  refine xr_go hc rfl rfl ?_
  refine xr_go hc rfl rfl ?_
  refine xr_go hc rfl rfl ?_
  refine xr_go hc rfl rfl ?_
  refine xr_go hc rfl rfl ?_
  refine xr_iald (A := 3) (N := L) rfl hl1 hc rfl (ew_ok_p hn1 rfl) (by omega) (by omega) (show _ = M 3 (i + 1) from (congrArg (M1 3) (by omega)).trans (hlo1 3 (i + 1) (by decide))) ?_
  refine xr_go hc rfl rfl ?_
  refine xr_go hc rfl rfl ?_
  refine xr_go hc rfl rfl ?_
  refine xr_go hc rfl rfl ?_
  refine xr_iald (A := 3) (N := L) rfl hl1 hc rfl (ew_ok_p hn1 rfl) (by omega) (by omega) (show _ = M 3 (i + 2) from (congrArg (M1 3) (by omega)).trans (hlo1 3 (i + 2) (by decide))) ?_
  refine xr_vC_3 hc rfl rfl (ew_own_p hn1 rfl) hC2 ?_
  rintro r n2 M2 ⟨rfl, hJ2, hlo2⟩
  show ew_X 239 431 _ [(1, x), (1, x)] n2 M2 Q
  refine xr_lcmp_same hc rfl rfl ?_
  exact K n2 M2 hJ2 hlo2

set_option maxRecDepth 20000 in
theorem law_c6 {c n i L : Nat} {M : ew_Mem} (hJ : s_J c n M) (hn : 59 ≤ n) (hl : ew_len M 3 = L) (hiL : i + 6 ≤ L) (hs : ∀ k : Nat, k < 6 → ew_in (M 3 (i + k))) {Q : Option ew_AV → Nat → ew_Mem → Prop} (K : ∀ (n2 : Nat) (M2 : ew_Mem), s_J (c + 1) n2 M2 → s_lo M M2 → ew_X 239 1780 [(2, 3), (2, 4), (2, 38), (0, (i : Int))] [] n2 M2 Q) : ew_X 239 437 [(2, 3), (2, 4), (2, 38), (0, (i : Int))] [] n M Q := by
  have hc := ew_c_239
  refine xr_go hc rfl rfl ?_
  refine xr_go hc rfl rfl ?_
  refine xr_go hc rfl rfl ?_
  refine xr_go hc rfl rfl ?_
  refine xr_go hc rfl rfl ?_
  refine xr_iald (A := 3) (N := L) rfl hl hc rfl (ew_ok_p hn rfl) (by omega) (by omega) (show _ = M 3 (i + 1) from congrArg (M 3) (by omega)) ?_
  refine xr_go hc rfl rfl ?_
  refine xr_go hc rfl rfl ?_
  refine xr_go hc rfl rfl ?_
  refine xr_go hc rfl rfl ?_
  refine xr_iald (A := 3) (N := L) rfl hl hc rfl (ew_ok_p hn rfl) (by omega) (by omega) (show _ = M 3 (i + 2) from congrArg (M 3) (by omega)) ?_
  refine xr_vC_3 hc rfl rfl (ew_own_p hn rfl) (ew_Cn (J_bind hJ (hs 1 (by decide)) (hs 2 (by decide)))) ?_
  rintro r n1 M1 ⟨hle, hlo1, x, rfl, hC2⟩
  have hn1 : 59 ≤ n1 := Nat.le_trans hn hle
  have hl1 : ew_len M1 3 = L := by
    show (M1 0 0).toNat = L
    rw [hlo1 0 0 (by decide)]
    exact hl
  show ew_X 239 451 _ [(0, x)] n1 M1 Q
  refine xr_go hc rfl rfl ?_
  refine xr_go hc rfl rfl ?_
  refine xr_go hc rfl rfl ?_
  refine xr_go hc rfl rfl ?_
  refine xr_go hc rfl rfl ?_
  refine xr_iald (A := 3) (N := L) rfl hl1 hc rfl (ew_ok_p hn1 rfl) (by omega) (by omega) (show _ = M 3 (i + 1) from (congrArg (M1 3) (by omega)).trans (hlo1 3 (i + 1) (by decide))) ?_
  refine xr_go hc rfl rfl ?_
  refine xr_go hc rfl rfl ?_
  refine xr_go hc rfl rfl ?_
  refine xr_go hc rfl rfl ?_
  refine xr_iald (A := 3) (N := L) rfl hl1 hc rfl (ew_ok_p hn1 rfl) (by omega) (by omega) (show _ = M 3 (i + 2) from (congrArg (M1 3) (by omega)).trans (hlo1 3 (i + 2) (by decide))) ?_
  refine xr_vC_3 hc rfl rfl (ew_own_p hn1 rfl) hC2 ?_
  rintro r n2 M2 ⟨rfl, hJ2, hlo2⟩
  show ew_X 239 465 _ [(0, x), (0, x)] n2 M2 Q
  refine xr_icmp_same hc rfl ?_
  exact K n2 M2 hJ2 hlo2

set_option maxRecDepth 20000 in
theorem law_c7 {c n i L : Nat} {M : ew_Mem} (hJ : s_J c n M) (hn : 59 ≤ n) (hl : ew_len M 3 = L) (hiL : i + 6 ≤ L) (hs : ∀ k : Nat, k < 6 → ew_in (M 3 (i + k))) {Q : Option ew_AV → Nat → ew_Mem → Prop} (K : ∀ (n2 : Nat) (M2 : ew_Mem), s_J (c + 1) n2 M2 → s_lo M M2 → ew_X 239 1780 [(2, 3), (2, 4), (2, 38), (0, (i : Int))] [] n2 M2 Q) : ew_X 239 470 [(2, 3), (2, 4), (2, 38), (0, (i : Int))] [] n M Q := by
  have hc := ew_c_239
  refine xr_go hc rfl rfl ?_
  refine xr_go hc rfl rfl ?_
  refine xr_go hc rfl rfl ?_
  refine xr_go hc rfl rfl ?_
  refine xr_go hc rfl rfl ?_
  refine xr_iald (A := 3) (N := L) rfl hl hc rfl (ew_ok_p hn rfl) (by omega) (by omega) (show _ = M 3 (i + 1) from congrArg (M 3) (by omega)) ?_
  refine xr_go hc rfl rfl ?_
  refine xr_go hc rfl rfl ?_
  refine xr_go hc rfl rfl ?_
  refine xr_go hc rfl rfl ?_
  refine xr_iald (A := 3) (N := L) rfl hl hc rfl (ew_ok_p hn rfl) (by omega) (by omega) (show _ = M 3 (i + 2) from congrArg (M 3) (by omega)) ?_
  refine xr_vC_3 hc rfl rfl (ew_own_p hn rfl) (ew_Cn (J_rule hJ (hs 1 (by decide)) (hs 2 (by decide)))) ?_
  rintro r n1 M1 ⟨hle, hlo1, x, rfl, hC2⟩
  have hn1 : 59 ≤ n1 := Nat.le_trans hn hle
  have hl1 : ew_len M1 3 = L := by
    show (M1 0 0).toNat = L
    rw [hlo1 0 0 (by decide)]
    exact hl
  show ew_X 239 484 _ [(0, x)] n1 M1 Q
  refine xr_go hc rfl rfl ?_
  refine xr_go hc rfl rfl ?_
  refine xr_go hc rfl rfl ?_
  refine xr_go hc rfl rfl ?_
  refine xr_go hc rfl rfl ?_
  refine xr_iald (A := 3) (N := L) rfl hl1 hc rfl (ew_ok_p hn1 rfl) (by omega) (by omega) (show _ = M 3 (i + 1) from (congrArg (M1 3) (by omega)).trans (hlo1 3 (i + 1) (by decide))) ?_
  refine xr_go hc rfl rfl ?_
  refine xr_go hc rfl rfl ?_
  refine xr_go hc rfl rfl ?_
  refine xr_go hc rfl rfl ?_
  refine xr_iald (A := 3) (N := L) rfl hl1 hc rfl (ew_ok_p hn1 rfl) (by omega) (by omega) (show _ = M 3 (i + 2) from (congrArg (M1 3) (by omega)).trans (hlo1 3 (i + 2) (by decide))) ?_
  refine xr_vC_3 hc rfl rfl (ew_own_p hn1 rfl) hC2 ?_
  rintro r n2 M2 ⟨rfl, hJ2, hlo2⟩
  show ew_X 239 498 _ [(0, x), (0, x)] n2 M2 Q
  refine xr_icmp_same hc rfl ?_
  exact K n2 M2 hJ2 hlo2

set_option maxRecDepth 20000 in
theorem law_c8 {c n i L : Nat} {M : ew_Mem} (hJ : s_J c n M) (hn : 59 ≤ n) (hl : ew_len M 3 = L) (hiL : i + 6 ≤ L) (hs : ∀ k : Nat, k < 6 → ew_in (M 3 (i + k))) {Q : Option ew_AV → Nat → ew_Mem → Prop} (K : ∀ (n2 : Nat) (M2 : ew_Mem), s_J (c + 1) n2 M2 → s_lo M M2 → ew_X 239 1780 [(2, 3), (2, 4), (2, 38), (0, (i : Int))] [] n2 M2 Q) : ew_X 239 503 [(2, 3), (2, 4), (2, 38), (0, (i : Int))] [] n M Q := by
  have hc := ew_c_239
  refine xr_go hc rfl rfl ?_
  refine xr_go hc rfl rfl ?_
  refine xr_go hc rfl rfl ?_
  refine xr_go hc rfl rfl ?_
  refine xr_go hc rfl rfl ?_
  refine xr_iald (A := 3) (N := L) rfl hl hc rfl (ew_ok_p hn rfl) (by omega) (by omega) (show _ = M 3 (i + 1) from congrArg (M 3) (by omega)) ?_
  refine xr_go hc rfl rfl ?_
  refine xr_go hc rfl rfl ?_
  refine xr_go hc rfl rfl ?_
  refine xr_go hc rfl rfl ?_
  refine xr_iald (A := 3) (N := L) rfl hl hc rfl (ew_ok_p hn rfl) (by omega) (by omega) (show _ = M 3 (i + 2) from congrArg (M 3) (by omega)) ?_
  refine xr_vC_3 hc rfl rfl (ew_own_p hn rfl) (ew_Cn (J_eclipse hJ (hs 1 (by decide)) (hs 2 (by decide)))) ?_
  rintro r n1 M1 ⟨hle, hlo1, x, rfl, hC2⟩
  have hn1 : 59 ≤ n1 := Nat.le_trans hn hle
  have hl1 : ew_len M1 3 = L := by
    show (M1 0 0).toNat = L
    rw [hlo1 0 0 (by decide)]
    exact hl
  show ew_X 239 517 _ [(0, x)] n1 M1 Q
  refine xr_go hc rfl rfl ?_
  refine xr_go hc rfl rfl ?_
  refine xr_go hc rfl rfl ?_
  refine xr_go hc rfl rfl ?_
  refine xr_go hc rfl rfl ?_
  refine xr_iald (A := 3) (N := L) rfl hl1 hc rfl (ew_ok_p hn1 rfl) (by omega) (by omega) (show _ = M 3 (i + 1) from (congrArg (M1 3) (by omega)).trans (hlo1 3 (i + 1) (by decide))) ?_
  refine xr_go hc rfl rfl ?_
  refine xr_go hc rfl rfl ?_
  refine xr_go hc rfl rfl ?_
  refine xr_go hc rfl rfl ?_
  refine xr_iald (A := 3) (N := L) rfl hl1 hc rfl (ew_ok_p hn1 rfl) (by omega) (by omega) (show _ = M 3 (i + 2) from (congrArg (M1 3) (by omega)).trans (hlo1 3 (i + 2) (by decide))) ?_
  refine xr_vC_3 hc rfl rfl (ew_own_p hn1 rfl) hC2 ?_
  rintro r n2 M2 ⟨rfl, hJ2, hlo2⟩
  show ew_X 239 531 _ [(0, x), (0, x)] n2 M2 Q
  refine xr_icmp_same hc rfl ?_
  exact K n2 M2 hJ2 hlo2

set_option maxRecDepth 20000 in
theorem law_c9 {c n i L : Nat} {M : ew_Mem} (hJ : s_J c n M) (hn : 59 ≤ n) (hl : ew_len M 3 = L) (hiL : i + 6 ≤ L) (hs : ∀ k : Nat, k < 6 → ew_in (M 3 (i + k))) {Q : Option ew_AV → Nat → ew_Mem → Prop} (K : ∀ (n2 : Nat) (M2 : ew_Mem), s_J (c + 1) n2 M2 → s_lo M M2 → ew_X 239 1780 [(2, 3), (2, 4), (2, 38), (0, (i : Int))] [] n2 M2 Q) : ew_X 239 536 [(2, 3), (2, 4), (2, 38), (0, (i : Int))] [] n M Q := by
  have hc := ew_c_239
  refine xr_go hc rfl rfl ?_
  refine xr_go hc rfl rfl ?_
  refine xr_go hc rfl rfl ?_
  refine xr_go hc rfl rfl ?_
  refine xr_go hc rfl rfl ?_
  refine xr_iald (A := 3) (N := L) rfl hl hc rfl (ew_ok_p hn rfl) (by omega) (by omega) (show _ = M 3 (i + 1) from congrArg (M 3) (by omega)) ?_
  refine xr_go hc rfl rfl ?_
  refine xr_go hc rfl rfl ?_
  refine xr_go hc rfl rfl ?_
  refine xr_go hc rfl rfl ?_
  refine xr_iald (A := 3) (N := L) rfl hl hc rfl (ew_ok_p hn rfl) (by omega) (by omega) (show _ = M 3 (i + 2) from congrArg (M 3) (by omega)) ?_
  refine xr_go hc rfl rfl ?_
  refine xr_go hc rfl rfl ?_
  refine xr_go hc rfl rfl ?_
  refine xr_go hc rfl rfl ?_
  refine xr_iald (A := 3) (N := L) rfl hl hc rfl (ew_ok_p hn rfl) (by omega) (by omega) (show _ = M 3 (i + 3) from congrArg (M 3) (by omega)) ?_
  refine xr_vC_4 hc rfl rfl (ew_own_p hn rfl) (ew_Cn (J_eclipses hJ (hs 1 (by decide)) (hs 2 (by decide)) (hs 3 (by decide)))) ?_
  rintro r n1 M1 ⟨hle, hlo1, x, rfl, hC2⟩
  have hn1 : 59 ≤ n1 := Nat.le_trans hn hle
  have hl1 : ew_len M1 3 = L := by
    show (M1 0 0).toNat = L
    rw [hlo1 0 0 (by decide)]
    exact hl
  show ew_X 239 555 _ [(0, x)] n1 M1 Q
  refine xr_go hc rfl rfl ?_
  refine xr_go hc rfl rfl ?_
  refine xr_go hc rfl rfl ?_
  refine xr_go hc rfl rfl ?_
  refine xr_go hc rfl rfl ?_
  refine xr_iald (A := 3) (N := L) rfl hl1 hc rfl (ew_ok_p hn1 rfl) (by omega) (by omega) (show _ = M 3 (i + 1) from (congrArg (M1 3) (by omega)).trans (hlo1 3 (i + 1) (by decide))) ?_
  refine xr_go hc rfl rfl ?_
  refine xr_go hc rfl rfl ?_
  refine xr_go hc rfl rfl ?_
  refine xr_go hc rfl rfl ?_
  refine xr_iald (A := 3) (N := L) rfl hl1 hc rfl (ew_ok_p hn1 rfl) (by omega) (by omega) (show _ = M 3 (i + 2) from (congrArg (M1 3) (by omega)).trans (hlo1 3 (i + 2) (by decide))) ?_
  refine xr_go hc rfl rfl ?_
  refine xr_go hc rfl rfl ?_
  refine xr_go hc rfl rfl ?_
  refine xr_go hc rfl rfl ?_
  refine xr_iald (A := 3) (N := L) rfl hl1 hc rfl (ew_ok_p hn1 rfl) (by omega) (by omega) (show _ = M 3 (i + 3) from (congrArg (M1 3) (by omega)).trans (hlo1 3 (i + 3) (by decide))) ?_
  refine xr_vC_4 hc rfl rfl (ew_own_p hn1 rfl) hC2 ?_
  rintro r n2 M2 ⟨rfl, hJ2, hlo2⟩
  show ew_X 239 574 _ [(0, x), (0, x)] n2 M2 Q
  refine xr_icmp_same hc rfl ?_
  exact K n2 M2 hJ2 hlo2

set_option maxRecDepth 20000 in
theorem law_c10 {c n i L : Nat} {M : ew_Mem} (hJ : s_J c n M) (hn : 59 ≤ n) (hl : ew_len M 3 = L) (hiL : i + 6 ≤ L) (hs : ∀ k : Nat, k < 6 → ew_in (M 3 (i + k))) {Q : Option ew_AV → Nat → ew_Mem → Prop} (K : ∀ (n2 : Nat) (M2 : ew_Mem), s_J (c + 1) n2 M2 → s_lo M M2 → ew_X 239 1780 [(2, 3), (2, 4), (2, 38), (0, (i : Int))] [] n2 M2 Q) : ew_X 239 579 [(2, 3), (2, 4), (2, 38), (0, (i : Int))] [] n M Q := by
  have hc := ew_c_239
  refine xr_go hc rfl rfl ?_
  refine xr_go hc rfl rfl ?_
  refine xr_go hc rfl rfl ?_
  refine xr_go hc rfl rfl ?_
  refine xr_go hc rfl rfl ?_
  refine xr_iald (A := 3) (N := L) rfl hl hc rfl (ew_ok_p hn rfl) (by omega) (by omega) (show _ = M 3 (i + 1) from congrArg (M 3) (by omega)) ?_
  refine xr_go hc rfl rfl ?_
  refine xr_go hc rfl rfl ?_
  refine xr_go hc rfl rfl ?_
  refine xr_go hc rfl rfl ?_
  refine xr_iald (A := 3) (N := L) rfl hl hc rfl (ew_ok_p hn rfl) (by omega) (by omega) (show _ = M 3 (i + 2) from congrArg (M 3) (by omega)) ?_
  refine xr_vC_3 hc rfl rfl (ew_own_p hn rfl) (ew_Cn (J_next hJ (hs 1 (by decide)) (hs 2 (by decide)))) ?_
  rintro r n1 M1 ⟨hle, hlo1, x, rfl, hC2⟩
  have hn1 : 59 ≤ n1 := Nat.le_trans hn hle
  have hl1 : ew_len M1 3 = L := by
    show (M1 0 0).toNat = L
    rw [hlo1 0 0 (by decide)]
    exact hl
  show ew_X 239 593 _ [(0, x)] n1 M1 Q
  refine xr_go hc rfl rfl ?_
  refine xr_go hc rfl rfl ?_
  refine xr_go hc rfl rfl ?_
  refine xr_go hc rfl rfl ?_
  refine xr_go hc rfl rfl ?_
  refine xr_iald (A := 3) (N := L) rfl hl1 hc rfl (ew_ok_p hn1 rfl) (by omega) (by omega) (show _ = M 3 (i + 1) from (congrArg (M1 3) (by omega)).trans (hlo1 3 (i + 1) (by decide))) ?_
  refine xr_go hc rfl rfl ?_
  refine xr_go hc rfl rfl ?_
  refine xr_go hc rfl rfl ?_
  refine xr_go hc rfl rfl ?_
  refine xr_iald (A := 3) (N := L) rfl hl1 hc rfl (ew_ok_p hn1 rfl) (by omega) (by omega) (show _ = M 3 (i + 2) from (congrArg (M1 3) (by omega)).trans (hlo1 3 (i + 2) (by decide))) ?_
  refine xr_vC_3 hc rfl rfl (ew_own_p hn1 rfl) hC2 ?_
  rintro r n2 M2 ⟨rfl, hJ2, hlo2⟩
  show ew_X 239 607 _ [(0, x), (0, x)] n2 M2 Q
  refine xr_icmp_same hc rfl ?_
  exact K n2 M2 hJ2 hlo2

set_option maxRecDepth 20000 in
theorem law_c11 {c n i L : Nat} {M : ew_Mem} (hJ : s_J c n M) (hn : 59 ≤ n) (hl : ew_len M 3 = L) (hiL : i + 6 ≤ L) (hs : ∀ k : Nat, k < 6 → ew_in (M 3 (i + k))) {Q : Option ew_AV → Nat → ew_Mem → Prop} (K : ∀ (n2 : Nat) (M2 : ew_Mem), s_J (c + 1) n2 M2 → s_lo M M2 → ew_X 239 1780 [(2, 3), (2, 4), (2, 38), (0, (i : Int))] [] n2 M2 Q) : ew_X 239 612 [(2, 3), (2, 4), (2, 38), (0, (i : Int))] [] n M Q := by
  have hc := ew_c_239
  refine xr_go hc rfl rfl ?_
  refine xr_go hc rfl rfl ?_
  refine xr_go hc rfl rfl ?_
  refine xr_go hc rfl rfl ?_
  refine xr_go hc rfl rfl ?_
  refine xr_iald (A := 3) (N := L) rfl hl hc rfl (ew_ok_p hn rfl) (by omega) (by omega) (show _ = M 3 (i + 1) from congrArg (M 3) (by omega)) ?_
  refine xr_go hc rfl rfl ?_
  refine xr_go hc rfl rfl ?_
  refine xr_go hc rfl rfl ?_
  refine xr_go hc rfl rfl ?_
  refine xr_iald (A := 3) (N := L) rfl hl hc rfl (ew_ok_p hn rfl) (by omega) (by omega) (show _ = M 3 (i + 2) from congrArg (M 3) (by omega)) ?_
  refine xr_go hc rfl rfl ?_
  refine xr_go hc rfl rfl ?_
  refine xr_go hc rfl rfl ?_
  refine xr_go hc rfl rfl ?_
  refine xr_iald (A := 3) (N := L) rfl hl hc rfl (ew_ok_p hn rfl) (by omega) (by omega) (show _ = M 3 (i + 3) from congrArg (M 3) (by omega)) ?_
  refine xr_vC_4 hc rfl rfl (ew_own_p hn rfl) (ew_Cn (J_family hJ (hs 1 (by decide)) (hs 2 (by decide)) (hs 3 (by decide)))) ?_
  rintro r n1 M1 ⟨hle, hlo1, x, rfl, hC2⟩
  have hn1 : 59 ≤ n1 := Nat.le_trans hn hle
  have hl1 : ew_len M1 3 = L := by
    show (M1 0 0).toNat = L
    rw [hlo1 0 0 (by decide)]
    exact hl
  show ew_X 239 631 _ [(0, x)] n1 M1 Q
  refine xr_go hc rfl rfl ?_
  refine xr_go hc rfl rfl ?_
  refine xr_go hc rfl rfl ?_
  refine xr_go hc rfl rfl ?_
  refine xr_go hc rfl rfl ?_
  refine xr_iald (A := 3) (N := L) rfl hl1 hc rfl (ew_ok_p hn1 rfl) (by omega) (by omega) (show _ = M 3 (i + 1) from (congrArg (M1 3) (by omega)).trans (hlo1 3 (i + 1) (by decide))) ?_
  refine xr_go hc rfl rfl ?_
  refine xr_go hc rfl rfl ?_
  refine xr_go hc rfl rfl ?_
  refine xr_go hc rfl rfl ?_
  refine xr_iald (A := 3) (N := L) rfl hl1 hc rfl (ew_ok_p hn1 rfl) (by omega) (by omega) (show _ = M 3 (i + 2) from (congrArg (M1 3) (by omega)).trans (hlo1 3 (i + 2) (by decide))) ?_
  refine xr_go hc rfl rfl ?_
  refine xr_go hc rfl rfl ?_
  refine xr_go hc rfl rfl ?_
  refine xr_go hc rfl rfl ?_
  refine xr_iald (A := 3) (N := L) rfl hl1 hc rfl (ew_ok_p hn1 rfl) (by omega) (by omega) (show _ = M 3 (i + 3) from (congrArg (M1 3) (by omega)).trans (hlo1 3 (i + 3) (by decide))) ?_
  refine xr_vC_4 hc rfl rfl (ew_own_p hn1 rfl) hC2 ?_
  rintro r n2 M2 ⟨rfl, hJ2, hlo2⟩
  show ew_X 239 650 _ [(0, x), (0, x)] n2 M2 Q
  refine xr_icmp_same hc rfl ?_
  exact K n2 M2 hJ2 hlo2

set_option maxRecDepth 20000 in
theorem law_c12 {c n i L : Nat} {M : ew_Mem} (hJ : s_J c n M) (hn : 59 ≤ n) (hl : ew_len M 3 = L) (hiL : i + 6 ≤ L) (hs : ∀ k : Nat, k < 6 → ew_in (M 3 (i + k))) {Q : Option ew_AV → Nat → ew_Mem → Prop} (K : ∀ (n2 : Nat) (M2 : ew_Mem), s_J (c + 1) n2 M2 → s_lo M M2 → ew_X 239 1780 [(2, 3), (2, 4), (2, 38), (0, (i : Int))] [] n2 M2 Q) : ew_X 239 655 [(2, 3), (2, 4), (2, 38), (0, (i : Int))] [] n M Q := by
  have hc := ew_c_239
  refine xr_go hc rfl rfl ?_
  refine xr_go hc rfl rfl ?_
  refine xr_go hc rfl rfl ?_
  refine xr_go hc rfl rfl ?_
  refine xr_go hc rfl rfl ?_
  refine xr_iald (A := 3) (N := L) rfl hl hc rfl (ew_ok_p hn rfl) (by omega) (by omega) (show _ = M 3 (i + 1) from congrArg (M 3) (by omega)) ?_
  refine xr_go hc rfl rfl ?_
  refine xr_go hc rfl rfl ?_
  refine xr_go hc rfl rfl ?_
  refine xr_go hc rfl rfl ?_
  refine xr_iald (A := 3) (N := L) rfl hl hc rfl (ew_ok_p hn rfl) (by omega) (by omega) (show _ = M 3 (i + 2) from congrArg (M 3) (by omega)) ?_
  refine xr_go hc rfl rfl ?_
  refine xr_go hc rfl rfl ?_
  refine xr_go hc rfl rfl ?_
  refine xr_go hc rfl rfl ?_
  refine xr_iald (A := 3) (N := L) rfl hl hc rfl (ew_ok_p hn rfl) (by omega) (by omega) (show _ = M 3 (i + 3) from congrArg (M 3) (by omega)) ?_
  refine xr_go hc rfl rfl ?_
  refine xr_go hc rfl rfl ?_
  refine xr_go hc rfl rfl ?_
  refine xr_go hc rfl rfl ?_
  refine xr_iald (A := 3) (N := L) rfl hl hc rfl (ew_ok_p hn rfl) (by omega) (by omega) (show _ = M 3 (i + 4) from congrArg (M 3) (by omega)) ?_
  refine xr_vC_5 hc rfl rfl (ew_own_p hn rfl) (ew_Cn (J_roll hJ (hs 1 (by decide)) (hs 2 (by decide)) (hs 3 (by decide)) (hs 4 (by decide)))) ?_
  rintro r n1 M1 ⟨hle, hlo1, x, rfl, hC2⟩
  have hn1 : 59 ≤ n1 := Nat.le_trans hn hle
  have hl1 : ew_len M1 3 = L := by
    show (M1 0 0).toNat = L
    rw [hlo1 0 0 (by decide)]
    exact hl
  show ew_X 239 679 _ [(0, x)] n1 M1 Q
  refine xr_go hc rfl rfl ?_
  refine xr_go hc rfl rfl ?_
  refine xr_go hc rfl rfl ?_
  refine xr_go hc rfl rfl ?_
  refine xr_go hc rfl rfl ?_
  refine xr_iald (A := 3) (N := L) rfl hl1 hc rfl (ew_ok_p hn1 rfl) (by omega) (by omega) (show _ = M 3 (i + 1) from (congrArg (M1 3) (by omega)).trans (hlo1 3 (i + 1) (by decide))) ?_
  refine xr_go hc rfl rfl ?_
  refine xr_go hc rfl rfl ?_
  refine xr_go hc rfl rfl ?_
  refine xr_go hc rfl rfl ?_
  refine xr_iald (A := 3) (N := L) rfl hl1 hc rfl (ew_ok_p hn1 rfl) (by omega) (by omega) (show _ = M 3 (i + 2) from (congrArg (M1 3) (by omega)).trans (hlo1 3 (i + 2) (by decide))) ?_
  refine xr_go hc rfl rfl ?_
  refine xr_go hc rfl rfl ?_
  refine xr_go hc rfl rfl ?_
  refine xr_go hc rfl rfl ?_
  refine xr_iald (A := 3) (N := L) rfl hl1 hc rfl (ew_ok_p hn1 rfl) (by omega) (by omega) (show _ = M 3 (i + 3) from (congrArg (M1 3) (by omega)).trans (hlo1 3 (i + 3) (by decide))) ?_
  refine xr_go hc rfl rfl ?_
  refine xr_go hc rfl rfl ?_
  refine xr_go hc rfl rfl ?_
  refine xr_go hc rfl rfl ?_
  refine xr_iald (A := 3) (N := L) rfl hl1 hc rfl (ew_ok_p hn1 rfl) (by omega) (by omega) (show _ = M 3 (i + 4) from (congrArg (M1 3) (by omega)).trans (hlo1 3 (i + 4) (by decide))) ?_
  refine xr_vC_5 hc rfl rfl (ew_own_p hn1 rfl) hC2 ?_
  rintro r n2 M2 ⟨rfl, hJ2, hlo2⟩
  show ew_X 239 703 _ [(0, x), (0, x)] n2 M2 Q
  refine xr_icmp_same hc rfl ?_
  exact K n2 M2 hJ2 hlo2

set_option maxRecDepth 20000 in
theorem law_c13 {c n i L : Nat} {M : ew_Mem} (hJ : s_J c n M) (hn : 59 ≤ n) (hl : ew_len M 3 = L) (hiL : i + 6 ≤ L) (hs : ∀ k : Nat, k < 6 → ew_in (M 3 (i + k))) {Q : Option ew_AV → Nat → ew_Mem → Prop} (K : ∀ (n2 : Nat) (M2 : ew_Mem), s_J (c + 1) n2 M2 → s_lo M M2 → ew_X 239 1780 [(2, 3), (2, 4), (2, 38), (0, (i : Int))] [] n2 M2 Q) : ew_X 239 708 [(2, 3), (2, 4), (2, 38), (0, (i : Int))] [] n M Q := by
  have hc := ew_c_239
  refine xr_go hc rfl rfl ?_
  refine xr_go hc rfl rfl ?_
  refine xr_go hc rfl rfl ?_
  refine xr_go hc rfl rfl ?_
  refine xr_go hc rfl rfl ?_
  refine xr_iald (A := 3) (N := L) rfl hl hc rfl (ew_ok_p hn rfl) (by omega) (by omega) (show _ = M 3 (i + 1) from congrArg (M 3) (by omega)) ?_
  refine xr_go hc rfl rfl ?_
  refine xr_go hc rfl rfl ?_
  refine xr_go hc rfl rfl ?_
  refine xr_go hc rfl rfl ?_
  refine xr_iald (A := 3) (N := L) rfl hl hc rfl (ew_ok_p hn rfl) (by omega) (by omega) (show _ = M 3 (i + 2) from congrArg (M 3) (by omega)) ?_
  refine xr_vC_3 hc rfl rfl (ew_own_p hn rfl) (ew_Cn (J_drift hJ (hs 1 (by decide)) (hs 2 (by decide)))) ?_
  rintro r n1 M1 ⟨hle, hlo1, x, rfl, hC2⟩
  have hn1 : 59 ≤ n1 := Nat.le_trans hn hle
  have hl1 : ew_len M1 3 = L := by
    show (M1 0 0).toNat = L
    rw [hlo1 0 0 (by decide)]
    exact hl
  show ew_X 239 722 _ [(0, x)] n1 M1 Q
  refine xr_go hc rfl rfl ?_
  refine xr_go hc rfl rfl ?_
  refine xr_go hc rfl rfl ?_
  refine xr_go hc rfl rfl ?_
  refine xr_go hc rfl rfl ?_
  refine xr_iald (A := 3) (N := L) rfl hl1 hc rfl (ew_ok_p hn1 rfl) (by omega) (by omega) (show _ = M 3 (i + 1) from (congrArg (M1 3) (by omega)).trans (hlo1 3 (i + 1) (by decide))) ?_
  refine xr_go hc rfl rfl ?_
  refine xr_go hc rfl rfl ?_
  refine xr_go hc rfl rfl ?_
  refine xr_go hc rfl rfl ?_
  refine xr_iald (A := 3) (N := L) rfl hl1 hc rfl (ew_ok_p hn1 rfl) (by omega) (by omega) (show _ = M 3 (i + 2) from (congrArg (M1 3) (by omega)).trans (hlo1 3 (i + 2) (by decide))) ?_
  refine xr_vC_3 hc rfl rfl (ew_own_p hn1 rfl) hC2 ?_
  rintro r n2 M2 ⟨rfl, hJ2, hlo2⟩
  show ew_X 239 736 _ [(0, x), (0, x)] n2 M2 Q
  refine xr_icmp_same hc rfl ?_
  exact K n2 M2 hJ2 hlo2

set_option maxRecDepth 20000 in
theorem law_c14 {c n i L : Nat} {M : ew_Mem} (hJ : s_J c n M) (hn : 59 ≤ n) (hl : ew_len M 3 = L) (hiL : i + 6 ≤ L) (hs : ∀ k : Nat, k < 6 → ew_in (M 3 (i + k))) {Q : Option ew_AV → Nat → ew_Mem → Prop} (K : ∀ (n2 : Nat) (M2 : ew_Mem), s_J (c + 1) n2 M2 → s_lo M M2 → ew_X 239 1780 [(2, 3), (2, 4), (2, 38), (0, (i : Int))] [] n2 M2 Q) : ew_X 239 741 [(2, 3), (2, 4), (2, 38), (0, (i : Int))] [] n M Q := by
  have hc := ew_c_239
  refine xr_go hc rfl rfl ?_
  refine xr_go hc rfl rfl ?_
  refine xr_go hc rfl rfl ?_
  refine xr_go hc rfl rfl ?_
  refine xr_go hc rfl rfl ?_
  refine xr_iald (A := 3) (N := L) rfl hl hc rfl (ew_ok_p hn rfl) (by omega) (by omega) (show _ = M 3 (i + 1) from congrArg (M 3) (by omega)) ?_
  refine xr_go hc rfl rfl ?_
  refine xr_go hc rfl rfl ?_
  refine xr_go hc rfl rfl ?_
  refine xr_go hc rfl rfl ?_
  refine xr_iald (A := 3) (N := L) rfl hl hc rfl (ew_ok_p hn rfl) (by omega) (by omega) (show _ = M 3 (i + 2) from congrArg (M 3) (by omega)) ?_
  refine xr_vC_3 hc rfl rfl (ew_own_p hn rfl) (ew_Cn (J_records hJ (hs 1 (by decide)) (hs 2 (by decide)))) ?_
  rintro r n1 M1 ⟨hle, hlo1, x, rfl, hC2⟩
  have hn1 : 59 ≤ n1 := Nat.le_trans hn hle
  have hl1 : ew_len M1 3 = L := by
    show (M1 0 0).toNat = L
    rw [hlo1 0 0 (by decide)]
    exact hl
  show ew_X 239 755 _ [(0, x)] n1 M1 Q
  refine xr_go hc rfl rfl ?_
  refine xr_go hc rfl rfl ?_
  refine xr_go hc rfl rfl ?_
  refine xr_go hc rfl rfl ?_
  refine xr_go hc rfl rfl ?_
  refine xr_iald (A := 3) (N := L) rfl hl1 hc rfl (ew_ok_p hn1 rfl) (by omega) (by omega) (show _ = M 3 (i + 1) from (congrArg (M1 3) (by omega)).trans (hlo1 3 (i + 1) (by decide))) ?_
  refine xr_go hc rfl rfl ?_
  refine xr_go hc rfl rfl ?_
  refine xr_go hc rfl rfl ?_
  refine xr_go hc rfl rfl ?_
  refine xr_iald (A := 3) (N := L) rfl hl1 hc rfl (ew_ok_p hn1 rfl) (by omega) (by omega) (show _ = M 3 (i + 2) from (congrArg (M1 3) (by omega)).trans (hlo1 3 (i + 2) (by decide))) ?_
  refine xr_vC_3 hc rfl rfl (ew_own_p hn1 rfl) hC2 ?_
  rintro r n2 M2 ⟨rfl, hJ2, hlo2⟩
  show ew_X 239 769 _ [(0, x), (0, x)] n2 M2 Q
  refine xr_icmp_same hc rfl ?_
  exact K n2 M2 hJ2 hlo2

set_option maxRecDepth 20000 in
theorem law_c15 {c n i L : Nat} {M : ew_Mem} (hJ : s_J c n M) (hn : 59 ≤ n) (hl : ew_len M 3 = L) (hiL : i + 6 ≤ L) (hs : ∀ k : Nat, k < 6 → ew_in (M 3 (i + k))) {Q : Option ew_AV → Nat → ew_Mem → Prop} (K : ∀ (n2 : Nat) (M2 : ew_Mem), s_J (c + 1) n2 M2 → s_lo M M2 → ew_X 239 1780 [(2, 3), (2, 4), (2, 38), (0, (i : Int))] [] n2 M2 Q) : ew_X 239 774 [(2, 3), (2, 4), (2, 38), (0, (i : Int))] [] n M Q := by
  have hc := ew_c_239
  refine xr_go hc rfl rfl ?_
  refine xr_go hc rfl rfl ?_
  refine xr_go hc rfl rfl ?_
  refine xr_go hc rfl rfl ?_
  refine xr_go hc rfl rfl ?_
  refine xr_iald (A := 3) (N := L) rfl hl hc rfl (ew_ok_p hn rfl) (by omega) (by omega) (show _ = M 3 (i + 1) from congrArg (M 3) (by omega)) ?_
  refine xr_go hc rfl rfl ?_
  refine xr_go hc rfl rfl ?_
  refine xr_go hc rfl rfl ?_
  refine xr_go hc rfl rfl ?_
  refine xr_iald (A := 3) (N := L) rfl hl hc rfl (ew_ok_p hn rfl) (by omega) (by omega) (show _ = M 3 (i + 2) from congrArg (M 3) (by omega)) ?_
  refine xr_vC_3 hc rfl rfl (ew_own_p hn rfl) (ew_Cn (J_record hJ (hs 1 (by decide)) (hs 2 (by decide)))) ?_
  rintro r n1 M1 ⟨hle, hlo1, x, rfl, hC2⟩
  have hn1 : 59 ≤ n1 := Nat.le_trans hn hle
  have hl1 : ew_len M1 3 = L := by
    show (M1 0 0).toNat = L
    rw [hlo1 0 0 (by decide)]
    exact hl
  show ew_X 239 788 _ [(0, x)] n1 M1 Q
  refine xr_go hc rfl rfl ?_
  refine xr_go hc rfl rfl ?_
  refine xr_go hc rfl rfl ?_
  refine xr_go hc rfl rfl ?_
  refine xr_go hc rfl rfl ?_
  refine xr_iald (A := 3) (N := L) rfl hl1 hc rfl (ew_ok_p hn1 rfl) (by omega) (by omega) (show _ = M 3 (i + 1) from (congrArg (M1 3) (by omega)).trans (hlo1 3 (i + 1) (by decide))) ?_
  refine xr_go hc rfl rfl ?_
  refine xr_go hc rfl rfl ?_
  refine xr_go hc rfl rfl ?_
  refine xr_go hc rfl rfl ?_
  refine xr_iald (A := 3) (N := L) rfl hl1 hc rfl (ew_ok_p hn1 rfl) (by omega) (by omega) (show _ = M 3 (i + 2) from (congrArg (M1 3) (by omega)).trans (hlo1 3 (i + 2) (by decide))) ?_
  refine xr_vC_3 hc rfl rfl (ew_own_p hn1 rfl) hC2 ?_
  rintro r n2 M2 ⟨rfl, hJ2, hlo2⟩
  show ew_X 239 802 _ [(0, x), (0, x)] n2 M2 Q
  refine xr_icmp_same hc rfl ?_
  exact K n2 M2 hJ2 hlo2

set_option maxRecDepth 20000 in
theorem law_c16 {c n i L : Nat} {M : ew_Mem} (hJ : s_J c n M) (hn : 59 ≤ n) (hl : ew_len M 3 = L) (hiL : i + 6 ≤ L) (hs : ∀ k : Nat, k < 6 → ew_in (M 3 (i + k))) {Q : Option ew_AV → Nat → ew_Mem → Prop} (K : ∀ (n2 : Nat) (M2 : ew_Mem), s_J (c + 1) n2 M2 → s_lo M M2 → ew_X 239 1780 [(2, 3), (2, 4), (2, 38), (0, (i : Int))] [] n2 M2 Q) : ew_X 239 807 [(2, 3), (2, 4), (2, 38), (0, (i : Int))] [] n M Q := by
  have hc := ew_c_239
  refine xr_go hc rfl rfl ?_
  refine xr_go hc rfl rfl ?_
  refine xr_go hc rfl rfl ?_
  refine xr_go hc rfl rfl ?_
  refine xr_go hc rfl rfl ?_
  refine xr_iald (A := 3) (N := L) rfl hl hc rfl (ew_ok_p hn rfl) (by omega) (by omega) (show _ = M 3 (i + 1) from congrArg (M 3) (by omega)) ?_
  refine xr_vC_2 hc rfl rfl (ew_own_p hn rfl) (ew_Cn (J_terms hJ (hs 1 (by decide)))) ?_
  rintro r n1 M1 ⟨hle, hlo1, x, rfl, hC2⟩
  have hn1 : 59 ≤ n1 := Nat.le_trans hn hle
  have hl1 : ew_len M1 3 = L := by
    show (M1 0 0).toNat = L
    rw [hlo1 0 0 (by decide)]
    exact hl
  show ew_X 239 816 _ [(0, x)] n1 M1 Q
  refine xr_go hc rfl rfl ?_
  refine xr_go hc rfl rfl ?_
  refine xr_go hc rfl rfl ?_
  refine xr_go hc rfl rfl ?_
  refine xr_go hc rfl rfl ?_
  refine xr_iald (A := 3) (N := L) rfl hl1 hc rfl (ew_ok_p hn1 rfl) (by omega) (by omega) (show _ = M 3 (i + 1) from (congrArg (M1 3) (by omega)).trans (hlo1 3 (i + 1) (by decide))) ?_
  refine xr_vC_2 hc rfl rfl (ew_own_p hn1 rfl) hC2 ?_
  rintro r n2 M2 ⟨rfl, hJ2, hlo2⟩
  show ew_X 239 825 _ [(0, x), (0, x)] n2 M2 Q
  refine xr_icmp_same hc rfl ?_
  exact K n2 M2 hJ2 hlo2

set_option maxRecDepth 20000 in
theorem law_c17 {c n i L : Nat} {M : ew_Mem} (hJ : s_J c n M) (hn : 59 ≤ n) (hl : ew_len M 3 = L) (hiL : i + 6 ≤ L) (hs : ∀ k : Nat, k < 6 → ew_in (M 3 (i + k))) {Q : Option ew_AV → Nat → ew_Mem → Prop} (K : ∀ (n2 : Nat) (M2 : ew_Mem), s_J (c + 1) n2 M2 → s_lo M M2 → ew_X 239 1780 [(2, 3), (2, 4), (2, 38), (0, (i : Int))] [] n2 M2 Q) : ew_X 239 830 [(2, 3), (2, 4), (2, 38), (0, (i : Int))] [] n M Q := by
  have hc := ew_c_239
  refine xr_go hc rfl rfl ?_
  refine xr_go hc rfl rfl ?_
  refine xr_go hc rfl rfl ?_
  refine xr_go hc rfl rfl ?_
  refine xr_go hc rfl rfl ?_
  refine xr_iald (A := 3) (N := L) rfl hl hc rfl (ew_ok_p hn rfl) (by omega) (by omega) (show _ = M 3 (i + 1) from congrArg (M 3) (by omega)) ?_
  refine xr_go hc rfl rfl ?_
  refine xr_go hc rfl rfl ?_
  refine xr_go hc rfl rfl ?_
  refine xr_go hc rfl rfl ?_
  refine xr_iald (A := 3) (N := L) rfl hl hc rfl (ew_ok_p hn rfl) (by omega) (by omega) (show _ = M 3 (i + 2) from congrArg (M 3) (by omega)) ?_
  refine xr_vC_3 hc rfl rfl (ew_own_p hn rfl) (ew_Cn (J_term hJ (hs 1 (by decide)) (hs 2 (by decide)))) ?_
  rintro r n1 M1 ⟨hle, hlo1, x, rfl, hC2⟩
  have hn1 : 59 ≤ n1 := Nat.le_trans hn hle
  have hl1 : ew_len M1 3 = L := by
    show (M1 0 0).toNat = L
    rw [hlo1 0 0 (by decide)]
    exact hl
  show ew_X 239 844 _ [(0, x)] n1 M1 Q
  refine xr_go hc rfl rfl ?_
  refine xr_go hc rfl rfl ?_
  refine xr_go hc rfl rfl ?_
  refine xr_go hc rfl rfl ?_
  refine xr_go hc rfl rfl ?_
  refine xr_iald (A := 3) (N := L) rfl hl1 hc rfl (ew_ok_p hn1 rfl) (by omega) (by omega) (show _ = M 3 (i + 1) from (congrArg (M1 3) (by omega)).trans (hlo1 3 (i + 1) (by decide))) ?_
  refine xr_go hc rfl rfl ?_
  refine xr_go hc rfl rfl ?_
  refine xr_go hc rfl rfl ?_
  refine xr_go hc rfl rfl ?_
  refine xr_iald (A := 3) (N := L) rfl hl1 hc rfl (ew_ok_p hn1 rfl) (by omega) (by omega) (show _ = M 3 (i + 2) from (congrArg (M1 3) (by omega)).trans (hlo1 3 (i + 2) (by decide))) ?_
  refine xr_vC_3 hc rfl rfl (ew_own_p hn1 rfl) hC2 ?_
  rintro r n2 M2 ⟨rfl, hJ2, hlo2⟩
  show ew_X 239 858 _ [(0, x), (0, x)] n2 M2 Q
  refine xr_icmp_same hc rfl ?_
  exact K n2 M2 hJ2 hlo2

set_option maxRecDepth 20000 in
theorem law_c18 {c n i L : Nat} {M : ew_Mem} (hJ : s_J c n M) (hn : 59 ≤ n) (hl : ew_len M 3 = L) (hiL : i + 6 ≤ L) (hs : ∀ k : Nat, k < 6 → ew_in (M 3 (i + k))) {Q : Option ew_AV → Nat → ew_Mem → Prop} (K : ∀ (n2 : Nat) (M2 : ew_Mem), s_J (c + 1) n2 M2 → s_lo M M2 → ew_X 239 1780 [(2, 3), (2, 4), (2, 38), (0, (i : Int))] [] n2 M2 Q) : ew_X 239 863 [(2, 3), (2, 4), (2, 38), (0, (i : Int))] [] n M Q := by
  have hc := ew_c_239
  refine xr_go hc rfl rfl ?_
  refine xr_go hc rfl rfl ?_
  refine xr_go hc rfl rfl ?_
  refine xr_go hc rfl rfl ?_
  refine xr_go hc rfl rfl ?_
  refine xr_iald (A := 3) (N := L) rfl hl hc rfl (ew_ok_p hn rfl) (by omega) (by omega) (show _ = M 3 (i + 1) from congrArg (M 3) (by omega)) ?_
  refine xr_go hc rfl rfl ?_
  refine xr_go hc rfl rfl ?_
  refine xr_go hc rfl rfl ?_
  refine xr_go hc rfl rfl ?_
  refine xr_iald (A := 3) (N := L) rfl hl hc rfl (ew_ok_p hn rfl) (by omega) (by omega) (show _ = M 3 (i + 2) from congrArg (M 3) (by omega)) ?_
  refine xr_go hc rfl rfl ?_
  refine xr_go hc rfl rfl ?_
  refine xr_go hc rfl rfl ?_
  refine xr_go hc rfl rfl ?_
  refine xr_iald (A := 3) (N := L) rfl hl hc rfl (ew_ok_p hn rfl) (by omega) (by omega) (show _ = M 3 (i + 3) from congrArg (M 3) (by omega)) ?_
  refine xr_vC_4 hc rfl rfl (ew_own_p hn rfl) (ew_Cn (J_convergent hJ (hs 1 (by decide)) (hs 2 (by decide)) (hs 3 (by decide)))) ?_
  rintro r n1 M1 ⟨hle, hlo1, x, rfl, hC2⟩
  have hn1 : 59 ≤ n1 := Nat.le_trans hn hle
  have hl1 : ew_len M1 3 = L := by
    show (M1 0 0).toNat = L
    rw [hlo1 0 0 (by decide)]
    exact hl
  show ew_X 239 882 _ [(1, x)] n1 M1 Q
  refine xr_go hc rfl rfl ?_
  refine xr_go hc rfl rfl ?_
  refine xr_go hc rfl rfl ?_
  refine xr_go hc rfl rfl ?_
  refine xr_go hc rfl rfl ?_
  refine xr_iald (A := 3) (N := L) rfl hl1 hc rfl (ew_ok_p hn1 rfl) (by omega) (by omega) (show _ = M 3 (i + 1) from (congrArg (M1 3) (by omega)).trans (hlo1 3 (i + 1) (by decide))) ?_
  refine xr_go hc rfl rfl ?_
  refine xr_go hc rfl rfl ?_
  refine xr_go hc rfl rfl ?_
  refine xr_go hc rfl rfl ?_
  refine xr_iald (A := 3) (N := L) rfl hl1 hc rfl (ew_ok_p hn1 rfl) (by omega) (by omega) (show _ = M 3 (i + 2) from (congrArg (M1 3) (by omega)).trans (hlo1 3 (i + 2) (by decide))) ?_
  refine xr_go hc rfl rfl ?_
  refine xr_go hc rfl rfl ?_
  refine xr_go hc rfl rfl ?_
  refine xr_go hc rfl rfl ?_
  refine xr_iald (A := 3) (N := L) rfl hl1 hc rfl (ew_ok_p hn1 rfl) (by omega) (by omega) (show _ = M 3 (i + 3) from (congrArg (M1 3) (by omega)).trans (hlo1 3 (i + 3) (by decide))) ?_
  refine xr_vC_4 hc rfl rfl (ew_own_p hn1 rfl) hC2 ?_
  rintro r n2 M2 ⟨rfl, hJ2, hlo2⟩
  show ew_X 239 901 _ [(1, x), (1, x)] n2 M2 Q
  refine xr_lcmp_same hc rfl rfl ?_
  exact K n2 M2 hJ2 hlo2

set_option maxRecDepth 20000 in
theorem law_c19 {c n i L : Nat} {M : ew_Mem} (hJ : s_J c n M) (hn : 59 ≤ n) (hl : ew_len M 3 = L) (hiL : i + 6 ≤ L) (hs : ∀ k : Nat, k < 6 → ew_in (M 3 (i + k))) {Q : Option ew_AV → Nat → ew_Mem → Prop} (K : ∀ (n2 : Nat) (M2 : ew_Mem), s_J (c + 1) n2 M2 → s_lo M M2 → ew_X 239 1780 [(2, 3), (2, 4), (2, 38), (0, (i : Int))] [] n2 M2 Q) : ew_X 239 907 [(2, 3), (2, 4), (2, 38), (0, (i : Int))] [] n M Q := by
  have hc := ew_c_239
  refine xr_go hc rfl rfl ?_
  refine xr_go hc rfl rfl ?_
  refine xr_go hc rfl rfl ?_
  refine xr_go hc rfl rfl ?_
  refine xr_go hc rfl rfl ?_
  refine xr_iald (A := 3) (N := L) rfl hl hc rfl (ew_ok_p hn rfl) (by omega) (by omega) (show _ = M 3 (i + 1) from congrArg (M 3) (by omega)) ?_
  refine xr_go hc rfl rfl ?_
  refine xr_go hc rfl rfl ?_
  refine xr_go hc rfl rfl ?_
  refine xr_go hc rfl rfl ?_
  refine xr_iald (A := 3) (N := L) rfl hl hc rfl (ew_ok_p hn rfl) (by omega) (by omega) (show _ = M 3 (i + 2) from congrArg (M 3) (by omega)) ?_
  refine xr_vC_3 hc rfl rfl (ew_own_p hn rfl) (ew_Cn (J_nearest hJ (hs 1 (by decide)) (hs 2 (by decide)))) ?_
  rintro r n1 M1 ⟨hle, hlo1, x, rfl, hC2⟩
  have hn1 : 59 ≤ n1 := Nat.le_trans hn hle
  have hl1 : ew_len M1 3 = L := by
    show (M1 0 0).toNat = L
    rw [hlo1 0 0 (by decide)]
    exact hl
  show ew_X 239 921 _ [(0, x)] n1 M1 Q
  refine xr_go hc rfl rfl ?_
  refine xr_go hc rfl rfl ?_
  refine xr_go hc rfl rfl ?_
  refine xr_go hc rfl rfl ?_
  refine xr_go hc rfl rfl ?_
  refine xr_iald (A := 3) (N := L) rfl hl1 hc rfl (ew_ok_p hn1 rfl) (by omega) (by omega) (show _ = M 3 (i + 1) from (congrArg (M1 3) (by omega)).trans (hlo1 3 (i + 1) (by decide))) ?_
  refine xr_go hc rfl rfl ?_
  refine xr_go hc rfl rfl ?_
  refine xr_go hc rfl rfl ?_
  refine xr_go hc rfl rfl ?_
  refine xr_iald (A := 3) (N := L) rfl hl1 hc rfl (ew_ok_p hn1 rfl) (by omega) (by omega) (show _ = M 3 (i + 2) from (congrArg (M1 3) (by omega)).trans (hlo1 3 (i + 2) (by decide))) ?_
  refine xr_vC_3 hc rfl rfl (ew_own_p hn1 rfl) hC2 ?_
  rintro r n2 M2 ⟨rfl, hJ2, hlo2⟩
  show ew_X 239 935 _ [(0, x), (0, x)] n2 M2 Q
  refine xr_icmp_same hc rfl ?_
  exact K n2 M2 hJ2 hlo2

set_option maxRecDepth 20000 in
theorem law_c20 {c n i L : Nat} {M : ew_Mem} (hJ : s_J c n M) (hn : 59 ≤ n) (hl : ew_len M 3 = L) (hiL : i + 6 ≤ L) (hs : ∀ k : Nat, k < 6 → ew_in (M 3 (i + k))) {Q : Option ew_AV → Nat → ew_Mem → Prop} (K : ∀ (n2 : Nat) (M2 : ew_Mem), s_J (c + 1) n2 M2 → s_lo M M2 → ew_X 239 1780 [(2, 3), (2, 4), (2, 38), (0, (i : Int))] [] n2 M2 Q) : ew_X 239 940 [(2, 3), (2, 4), (2, 38), (0, (i : Int))] [] n M Q := by
  have hc := ew_c_239
  refine xr_go hc rfl rfl ?_
  refine xr_go hc rfl rfl ?_
  refine xr_go hc rfl rfl ?_
  refine xr_go hc rfl rfl ?_
  refine xr_go hc rfl rfl ?_
  refine xr_iald (A := 3) (N := L) rfl hl hc rfl (ew_ok_p hn rfl) (by omega) (by omega) (show _ = M 3 (i + 1) from congrArg (M 3) (by omega)) ?_
  refine xr_go hc rfl rfl ?_
  refine xr_go hc rfl rfl ?_
  refine xr_go hc rfl rfl ?_
  refine xr_go hc rfl rfl ?_
  refine xr_iald (A := 3) (N := L) rfl hl hc rfl (ew_ok_p hn rfl) (by omega) (by omega) (show _ = M 3 (i + 2) from congrArg (M 3) (by omega)) ?_
  refine xr_vC_3 hc rfl rfl (ew_own_p hn rfl) (ew_Cn (J_date hJ (hs 1 (by decide)) (hs 2 (by decide)))) ?_
  rintro r n1 M1 ⟨hle, hlo1, x, rfl, hC2⟩
  have hn1 : 59 ≤ n1 := Nat.le_trans hn hle
  have hl1 : ew_len M1 3 = L := by
    show (M1 0 0).toNat = L
    rw [hlo1 0 0 (by decide)]
    exact hl
  show ew_X 239 954 _ [(1, x)] n1 M1 Q
  refine xr_go hc rfl rfl ?_
  refine xr_go hc rfl rfl ?_
  refine xr_go hc rfl rfl ?_
  refine xr_go hc rfl rfl ?_
  refine xr_go hc rfl rfl ?_
  refine xr_iald (A := 3) (N := L) rfl hl1 hc rfl (ew_ok_p hn1 rfl) (by omega) (by omega) (show _ = M 3 (i + 1) from (congrArg (M1 3) (by omega)).trans (hlo1 3 (i + 1) (by decide))) ?_
  refine xr_go hc rfl rfl ?_
  refine xr_go hc rfl rfl ?_
  refine xr_go hc rfl rfl ?_
  refine xr_go hc rfl rfl ?_
  refine xr_iald (A := 3) (N := L) rfl hl1 hc rfl (ew_ok_p hn1 rfl) (by omega) (by omega) (show _ = M 3 (i + 2) from (congrArg (M1 3) (by omega)).trans (hlo1 3 (i + 2) (by decide))) ?_
  refine xr_vC_3 hc rfl rfl (ew_own_p hn1 rfl) hC2 ?_
  rintro r n2 M2 ⟨rfl, hJ2, hlo2⟩
  show ew_X 239 968 _ [(1, x), (1, x)] n2 M2 Q
  refine xr_lcmp_same hc rfl rfl ?_
  exact K n2 M2 hJ2 hlo2

set_option maxRecDepth 20000 in
theorem law_c21 {c n i L : Nat} {M : ew_Mem} (hJ : s_J c n M) (hn : 59 ≤ n) (hl : ew_len M 3 = L) (hiL : i + 6 ≤ L) (hs : ∀ k : Nat, k < 6 → ew_in (M 3 (i + k))) {Q : Option ew_AV → Nat → ew_Mem → Prop} (K : ∀ (n2 : Nat) (M2 : ew_Mem), s_J (c + 1) n2 M2 → s_lo M M2 → ew_X 239 1780 [(2, 3), (2, 4), (2, 38), (0, (i : Int))] [] n2 M2 Q) : ew_X 239 974 [(2, 3), (2, 4), (2, 38), (0, (i : Int))] [] n M Q := by
  have hc := ew_c_239
  refine xr_go hc rfl rfl ?_
  refine xr_go hc rfl rfl ?_
  refine xr_go hc rfl rfl ?_
  refine xr_go hc rfl rfl ?_
  refine xr_go hc rfl rfl ?_
  refine xr_iald (A := 3) (N := L) rfl hl hc rfl (ew_ok_p hn rfl) (by omega) (by omega) (show _ = M 3 (i + 1) from congrArg (M 3) (by omega)) ?_
  refine xr_vC_2 hc rfl rfl (ew_own_p hn rfl) (ew_Cn (J_month hJ (hs 1 (by decide)))) ?_
  rintro r n1 M1 ⟨hle, hlo1, x, rfl, hC2⟩
  have hn1 : 59 ≤ n1 := Nat.le_trans hn hle
  have hl1 : ew_len M1 3 = L := by
    show (M1 0 0).toNat = L
    rw [hlo1 0 0 (by decide)]
    exact hl
  show ew_X 239 983 _ [(0, x)] n1 M1 Q
  refine xr_go hc rfl rfl ?_
  refine xr_go hc rfl rfl ?_
  refine xr_go hc rfl rfl ?_
  refine xr_go hc rfl rfl ?_
  refine xr_go hc rfl rfl ?_
  refine xr_iald (A := 3) (N := L) rfl hl1 hc rfl (ew_ok_p hn1 rfl) (by omega) (by omega) (show _ = M 3 (i + 1) from (congrArg (M1 3) (by omega)).trans (hlo1 3 (i + 1) (by decide))) ?_
  refine xr_vC_2 hc rfl rfl (ew_own_p hn1 rfl) hC2 ?_
  rintro r n2 M2 ⟨rfl, hJ2, hlo2⟩
  show ew_X 239 992 _ [(0, x), (0, x)] n2 M2 Q
  refine xr_icmp_same hc rfl ?_
  exact K n2 M2 hJ2 hlo2

set_option maxRecDepth 20000 in
theorem law_c22 {c n i L : Nat} {M : ew_Mem} (hJ : s_J c n M) (hn : 59 ≤ n) (hl : ew_len M 3 = L) (hiL : i + 6 ≤ L) (hs : ∀ k : Nat, k < 6 → ew_in (M 3 (i + k))) {Q : Option ew_AV → Nat → ew_Mem → Prop} (K : ∀ (n2 : Nat) (M2 : ew_Mem), s_J (c + 1) n2 M2 → s_lo M M2 → ew_X 239 1780 [(2, 3), (2, 4), (2, 38), (0, (i : Int))] [] n2 M2 Q) : ew_X 239 997 [(2, 3), (2, 4), (2, 38), (0, (i : Int))] [] n M Q := by
  have hc := ew_c_239
  refine xr_go hc rfl rfl ?_
  refine xr_go hc rfl rfl ?_
  refine xr_go hc rfl rfl ?_
  refine xr_go hc rfl rfl ?_
  refine xr_go hc rfl rfl ?_
  refine xr_iald (A := 3) (N := L) rfl hl hc rfl (ew_ok_p hn rfl) (by omega) (by omega) (show _ = M 3 (i + 1) from congrArg (M 3) (by omega)) ?_
  refine xr_go hc rfl rfl ?_
  refine xr_go hc rfl rfl ?_
  refine xr_go hc rfl rfl ?_
  refine xr_go hc rfl rfl ?_
  refine xr_iald (A := 3) (N := L) rfl hl hc rfl (ew_ok_p hn rfl) (by omega) (by omega) (show _ = M 3 (i + 2) from congrArg (M 3) (by omega)) ?_
  refine xr_vC_3 hc rfl rfl (ew_own_p hn rfl) (ew_Cn (J_angle hJ (hs 1 (by decide)) (hs 2 (by decide)))) ?_
  rintro r n1 M1 ⟨hle, hlo1, x, rfl, hC2⟩
  have hn1 : 59 ≤ n1 := Nat.le_trans hn hle
  have hl1 : ew_len M1 3 = L := by
    show (M1 0 0).toNat = L
    rw [hlo1 0 0 (by decide)]
    exact hl
  show ew_X 239 1011 _ [(1, x)] n1 M1 Q
  refine xr_go hc rfl rfl ?_
  refine xr_go hc rfl rfl ?_
  refine xr_go hc rfl rfl ?_
  refine xr_go hc rfl rfl ?_
  refine xr_go hc rfl rfl ?_
  refine xr_iald (A := 3) (N := L) rfl hl1 hc rfl (ew_ok_p hn1 rfl) (by omega) (by omega) (show _ = M 3 (i + 1) from (congrArg (M1 3) (by omega)).trans (hlo1 3 (i + 1) (by decide))) ?_
  refine xr_go hc rfl rfl ?_
  refine xr_go hc rfl rfl ?_
  refine xr_go hc rfl rfl ?_
  refine xr_go hc rfl rfl ?_
  refine xr_iald (A := 3) (N := L) rfl hl1 hc rfl (ew_ok_p hn1 rfl) (by omega) (by omega) (show _ = M 3 (i + 2) from (congrArg (M1 3) (by omega)).trans (hlo1 3 (i + 2) (by decide))) ?_
  refine xr_vC_3 hc rfl rfl (ew_own_p hn1 rfl) hC2 ?_
  rintro r n2 M2 ⟨rfl, hJ2, hlo2⟩
  show ew_X 239 1025 _ [(1, x), (1, x)] n2 M2 Q
  refine xr_lcmp_same hc rfl rfl ?_
  exact K n2 M2 hJ2 hlo2

set_option maxRecDepth 20000 in
theorem law_c23 {c n i L : Nat} {M : ew_Mem} (hJ : s_J c n M) (hn : 59 ≤ n) (hl : ew_len M 3 = L) (hiL : i + 6 ≤ L) (hs : ∀ k : Nat, k < 6 → ew_in (M 3 (i + k))) {Q : Option ew_AV → Nat → ew_Mem → Prop} (K : ∀ (n2 : Nat) (M2 : ew_Mem), s_J (c + 1) n2 M2 → s_lo M M2 → ew_X 239 1780 [(2, 3), (2, 4), (2, 38), (0, (i : Int))] [] n2 M2 Q) : ew_X 239 1031 [(2, 3), (2, 4), (2, 38), (0, (i : Int))] [] n M Q := by
  have hc := ew_c_239
  refine xr_go hc rfl rfl ?_
  refine xr_go hc rfl rfl ?_
  refine xr_go hc rfl rfl ?_
  refine xr_go hc rfl rfl ?_
  refine xr_go hc rfl rfl ?_
  refine xr_iald (A := 3) (N := L) rfl hl hc rfl (ew_ok_p hn rfl) (by omega) (by omega) (show _ = M 3 (i + 1) from congrArg (M 3) (by omega)) ?_
  refine xr_go hc rfl rfl ?_
  refine xr_go hc rfl rfl ?_
  refine xr_go hc rfl rfl ?_
  refine xr_go hc rfl rfl ?_
  refine xr_iald (A := 3) (N := L) rfl hl hc rfl (ew_ok_p hn rfl) (by omega) (by omega) (show _ = M 3 (i + 2) from congrArg (M 3) (by omega)) ?_
  refine xr_vC_3 hc rfl rfl (ew_own_p hn rfl) (ew_Cn (J_size hJ (hs 1 (by decide)) (hs 2 (by decide)))) ?_
  rintro r n1 M1 ⟨hle, hlo1, x, rfl, hC2⟩
  have hn1 : 59 ≤ n1 := Nat.le_trans hn hle
  have hl1 : ew_len M1 3 = L := by
    show (M1 0 0).toNat = L
    rw [hlo1 0 0 (by decide)]
    exact hl
  show ew_X 239 1045 _ [(0, x)] n1 M1 Q
  refine xr_go hc rfl rfl ?_
  refine xr_go hc rfl rfl ?_
  refine xr_go hc rfl rfl ?_
  refine xr_go hc rfl rfl ?_
  refine xr_go hc rfl rfl ?_
  refine xr_iald (A := 3) (N := L) rfl hl1 hc rfl (ew_ok_p hn1 rfl) (by omega) (by omega) (show _ = M 3 (i + 1) from (congrArg (M1 3) (by omega)).trans (hlo1 3 (i + 1) (by decide))) ?_
  refine xr_go hc rfl rfl ?_
  refine xr_go hc rfl rfl ?_
  refine xr_go hc rfl rfl ?_
  refine xr_go hc rfl rfl ?_
  refine xr_iald (A := 3) (N := L) rfl hl1 hc rfl (ew_ok_p hn1 rfl) (by omega) (by omega) (show _ = M 3 (i + 2) from (congrArg (M1 3) (by omega)).trans (hlo1 3 (i + 2) (by decide))) ?_
  refine xr_vC_3 hc rfl rfl (ew_own_p hn1 rfl) hC2 ?_
  rintro r n2 M2 ⟨rfl, hJ2, hlo2⟩
  show ew_X 239 1059 _ [(0, x), (0, x)] n2 M2 Q
  refine xr_icmp_same hc rfl ?_
  exact K n2 M2 hJ2 hlo2

set_option maxRecDepth 20000 in
theorem law_c24 {c n i L : Nat} {M : ew_Mem} (hJ : s_J c n M) (hn : 59 ≤ n) (hl : ew_len M 3 = L) (hiL : i + 6 ≤ L) (hs : ∀ k : Nat, k < 6 → ew_in (M 3 (i + k))) {Q : Option ew_AV → Nat → ew_Mem → Prop} (K : ∀ (n2 : Nat) (M2 : ew_Mem), s_J (c + 1) n2 M2 → s_lo M M2 → ew_X 239 1780 [(2, 3), (2, 4), (2, 38), (0, (i : Int))] [] n2 M2 Q) : ew_X 239 1064 [(2, 3), (2, 4), (2, 38), (0, (i : Int))] [] n M Q := by
  have hc := ew_c_239
  refine xr_go hc rfl rfl ?_
  refine xr_go hc rfl rfl ?_
  refine xr_go hc rfl rfl ?_
  refine xr_go hc rfl rfl ?_
  refine xr_go hc rfl rfl ?_
  refine xr_iald (A := 3) (N := L) rfl hl hc rfl (ew_ok_p hn rfl) (by omega) (by omega) (show _ = M 3 (i + 1) from congrArg (M 3) (by omega)) ?_
  refine xr_go hc rfl rfl ?_
  refine xr_go hc rfl rfl ?_
  refine xr_go hc rfl rfl ?_
  refine xr_go hc rfl rfl ?_
  refine xr_iald (A := 3) (N := L) rfl hl hc rfl (ew_ok_p hn rfl) (by omega) (by omega) (show _ = M 3 (i + 2) from congrArg (M 3) (by omega)) ?_
  refine xr_go hc rfl rfl ?_
  refine xr_go hc rfl rfl ?_
  refine xr_go hc rfl rfl ?_
  refine xr_go hc rfl rfl ?_
  refine xr_iald (A := 3) (N := L) rfl hl hc rfl (ew_ok_p hn rfl) (by omega) (by omega) (show _ = M 3 (i + 3) from congrArg (M 3) (by omega)) ?_
  refine xr_go hc rfl rfl ?_
  refine xr_go hc rfl rfl ?_
  refine xr_go hc rfl rfl ?_
  refine xr_go hc rfl rfl ?_
  refine xr_iald (A := 3) (N := L) rfl hl hc rfl (ew_ok_p hn rfl) (by omega) (by omega) (show _ = M 3 (i + 4) from congrArg (M 3) (by omega)) ?_
  refine xr_go hc rfl rfl ?_
  refine xr_go hc rfl rfl ?_
  refine xr_go hc rfl rfl ?_
  refine xr_go hc rfl rfl ?_
  refine xr_iald (A := 3) (N := L) rfl hl hc rfl (ew_ok_p hn rfl) (by omega) (by omega) (show _ = M 3 (i + 5) from congrArg (M 3) (by omega)) ?_
  refine xr_vC_6 hc rfl rfl (ew_own_p hn rfl) (ew_Cn (J_most hJ (hs 1 (by decide)) (hs 2 (by decide)) (hs 3 (by decide)) (hs 4 (by decide)) (hs 5 (by decide)))) ?_
  rintro r n1 M1 ⟨hle, hlo1, x, rfl, hC2⟩
  have hn1 : 59 ≤ n1 := Nat.le_trans hn hle
  have hl1 : ew_len M1 3 = L := by
    show (M1 0 0).toNat = L
    rw [hlo1 0 0 (by decide)]
    exact hl
  show ew_X 239 1093 _ [(0, x)] n1 M1 Q
  refine xr_go hc rfl rfl ?_
  refine xr_go hc rfl rfl ?_
  refine xr_go hc rfl rfl ?_
  refine xr_go hc rfl rfl ?_
  refine xr_go hc rfl rfl ?_
  refine xr_iald (A := 3) (N := L) rfl hl1 hc rfl (ew_ok_p hn1 rfl) (by omega) (by omega) (show _ = M 3 (i + 1) from (congrArg (M1 3) (by omega)).trans (hlo1 3 (i + 1) (by decide))) ?_
  refine xr_go hc rfl rfl ?_
  refine xr_go hc rfl rfl ?_
  refine xr_go hc rfl rfl ?_
  refine xr_go hc rfl rfl ?_
  refine xr_iald (A := 3) (N := L) rfl hl1 hc rfl (ew_ok_p hn1 rfl) (by omega) (by omega) (show _ = M 3 (i + 2) from (congrArg (M1 3) (by omega)).trans (hlo1 3 (i + 2) (by decide))) ?_
  refine xr_go hc rfl rfl ?_
  refine xr_go hc rfl rfl ?_
  refine xr_go hc rfl rfl ?_
  refine xr_go hc rfl rfl ?_
  refine xr_iald (A := 3) (N := L) rfl hl1 hc rfl (ew_ok_p hn1 rfl) (by omega) (by omega) (show _ = M 3 (i + 3) from (congrArg (M1 3) (by omega)).trans (hlo1 3 (i + 3) (by decide))) ?_
  refine xr_go hc rfl rfl ?_
  refine xr_go hc rfl rfl ?_
  refine xr_go hc rfl rfl ?_
  refine xr_go hc rfl rfl ?_
  refine xr_iald (A := 3) (N := L) rfl hl1 hc rfl (ew_ok_p hn1 rfl) (by omega) (by omega) (show _ = M 3 (i + 4) from (congrArg (M1 3) (by omega)).trans (hlo1 3 (i + 4) (by decide))) ?_
  refine xr_go hc rfl rfl ?_
  refine xr_go hc rfl rfl ?_
  refine xr_go hc rfl rfl ?_
  refine xr_go hc rfl rfl ?_
  refine xr_iald (A := 3) (N := L) rfl hl1 hc rfl (ew_ok_p hn1 rfl) (by omega) (by omega) (show _ = M 3 (i + 5) from (congrArg (M1 3) (by omega)).trans (hlo1 3 (i + 5) (by decide))) ?_
  refine xr_vC_6 hc rfl rfl (ew_own_p hn1 rfl) hC2 ?_
  rintro r n2 M2 ⟨rfl, hJ2, hlo2⟩
  show ew_X 239 1122 _ [(0, x), (0, x)] n2 M2 Q
  refine xr_icmp_same hc rfl ?_
  exact K n2 M2 hJ2 hlo2

set_option maxRecDepth 20000 in
theorem law_c25 {c n i L : Nat} {M : ew_Mem} (hJ : s_J c n M) (hn : 59 ≤ n) (hl : ew_len M 3 = L) (hiL : i + 6 ≤ L) (hs : ∀ k : Nat, k < 6 → ew_in (M 3 (i + k))) {Q : Option ew_AV → Nat → ew_Mem → Prop} (K : ∀ (n2 : Nat) (M2 : ew_Mem), s_J (c + 1) n2 M2 → s_lo M M2 → ew_X 239 1780 [(2, 3), (2, 4), (2, 38), (0, (i : Int))] [] n2 M2 Q) : ew_X 239 1127 [(2, 3), (2, 4), (2, 38), (0, (i : Int))] [] n M Q := by
  have hc := ew_c_239
  refine xr_go hc rfl rfl ?_
  refine xr_go hc rfl rfl ?_
  refine xr_go hc rfl rfl ?_
  refine xr_go hc rfl rfl ?_
  refine xr_go hc rfl rfl ?_
  refine xr_iald (A := 3) (N := L) rfl hl hc rfl (ew_ok_p hn rfl) (by omega) (by omega) (show _ = M 3 (i + 1) from congrArg (M 3) (by omega)) ?_
  refine xr_vC_2 hc rfl rfl (ew_own_p hn rfl) (ew_Cn (J_period hJ (hs 1 (by decide)))) ?_
  rintro r n1 M1 ⟨hle, hlo1, x, rfl, hC2⟩
  have hn1 : 59 ≤ n1 := Nat.le_trans hn hle
  have hl1 : ew_len M1 3 = L := by
    show (M1 0 0).toNat = L
    rw [hlo1 0 0 (by decide)]
    exact hl
  show ew_X 239 1136 _ [(1, x)] n1 M1 Q
  refine xr_go hc rfl rfl ?_
  refine xr_go hc rfl rfl ?_
  refine xr_go hc rfl rfl ?_
  refine xr_go hc rfl rfl ?_
  refine xr_go hc rfl rfl ?_
  refine xr_iald (A := 3) (N := L) rfl hl1 hc rfl (ew_ok_p hn1 rfl) (by omega) (by omega) (show _ = M 3 (i + 1) from (congrArg (M1 3) (by omega)).trans (hlo1 3 (i + 1) (by decide))) ?_
  refine xr_vC_2 hc rfl rfl (ew_own_p hn1 rfl) hC2 ?_
  rintro r n2 M2 ⟨rfl, hJ2, hlo2⟩
  show ew_X 239 1145 _ [(1, x), (1, x)] n2 M2 Q
  refine xr_lcmp_same hc rfl rfl ?_
  exact K n2 M2 hJ2 hlo2

set_option maxRecDepth 20000 in
theorem law_c26 {c n i L : Nat} {M : ew_Mem} (hJ : s_J c n M) (hn : 59 ≤ n) (hl : ew_len M 3 = L) (hiL : i + 6 ≤ L) (hs : ∀ k : Nat, k < 6 → ew_in (M 3 (i + k))) {Q : Option ew_AV → Nat → ew_Mem → Prop} (K : ∀ (n2 : Nat) (M2 : ew_Mem), s_J (c + 1) n2 M2 → s_lo M M2 → ew_X 239 1780 [(2, 3), (2, 4), (2, 38), (0, (i : Int))] [] n2 M2 Q) : ew_X 239 1151 [(2, 3), (2, 4), (2, 38), (0, (i : Int))] [] n M Q := by
  have hc := ew_c_239
  refine xr_go hc rfl rfl ?_
  refine xr_go hc rfl rfl ?_
  refine xr_go hc rfl rfl ?_
  refine xr_go hc rfl rfl ?_
  refine xr_go hc rfl rfl ?_
  refine xr_iald (A := 3) (N := L) rfl hl hc rfl (ew_ok_p hn rfl) (by omega) (by omega) (show _ = M 3 (i + 1) from congrArg (M 3) (by omega)) ?_
  refine xr_vC_2 hc rfl rfl (ew_own_p hn rfl) (ew_Cn (J_allRound hJ (hs 1 (by decide)))) ?_
  rintro r n1 M1 ⟨hle, hlo1, x, rfl, hC2⟩
  have hn1 : 59 ≤ n1 := Nat.le_trans hn hle
  have hl1 : ew_len M1 3 = L := by
    show (M1 0 0).toNat = L
    rw [hlo1 0 0 (by decide)]
    exact hl
  show ew_X 239 1160 _ [(1, x)] n1 M1 Q
  refine xr_go hc rfl rfl ?_
  refine xr_go hc rfl rfl ?_
  refine xr_go hc rfl rfl ?_
  refine xr_go hc rfl rfl ?_
  refine xr_go hc rfl rfl ?_
  refine xr_iald (A := 3) (N := L) rfl hl1 hc rfl (ew_ok_p hn1 rfl) (by omega) (by omega) (show _ = M 3 (i + 1) from (congrArg (M1 3) (by omega)).trans (hlo1 3 (i + 1) (by decide))) ?_
  refine xr_vC_2 hc rfl rfl (ew_own_p hn1 rfl) hC2 ?_
  rintro r n2 M2 ⟨rfl, hJ2, hlo2⟩
  show ew_X 239 1169 _ [(1, x), (1, x)] n2 M2 Q
  refine xr_lcmp_same hc rfl rfl ?_
  exact K n2 M2 hJ2 hlo2

set_option maxRecDepth 20000 in
theorem law_c27 {c n i L : Nat} {M : ew_Mem} (hJ : s_J c n M) (hn : 59 ≤ n) (hl : ew_len M 3 = L) (hiL : i + 6 ≤ L) (hs : ∀ k : Nat, k < 6 → ew_in (M 3 (i + k))) {Q : Option ew_AV → Nat → ew_Mem → Prop} (K : ∀ (n2 : Nat) (M2 : ew_Mem), s_J (c + 1) n2 M2 → s_lo M M2 → ew_X 239 1780 [(2, 3), (2, 4), (2, 38), (0, (i : Int))] [] n2 M2 Q) : ew_X 239 1175 [(2, 3), (2, 4), (2, 38), (0, (i : Int))] [] n M Q := by
  have hc := ew_c_239
  refine xr_go hc rfl rfl ?_
  refine xr_go hc rfl rfl ?_
  refine xr_go hc rfl rfl ?_
  refine xr_go hc rfl rfl ?_
  refine xr_go hc rfl rfl ?_
  refine xr_iald (A := 3) (N := L) rfl hl hc rfl (ew_ok_p hn rfl) (by omega) (by omega) (show _ = M 3 (i + 1) from congrArg (M 3) (by omega)) ?_
  refine xr_go hc rfl rfl ?_
  refine xr_go hc rfl rfl ?_
  refine xr_go hc rfl rfl ?_
  refine xr_go hc rfl rfl ?_
  refine xr_iald (A := 3) (N := L) rfl hl hc rfl (ew_ok_p hn rfl) (by omega) (by omega) (show _ = M 3 (i + 2) from congrArg (M 3) (by omega)) ?_
  refine xr_go hc rfl rfl ?_
  refine xr_go hc rfl rfl ?_
  refine xr_go hc rfl rfl ?_
  refine xr_go hc rfl rfl ?_
  refine xr_iald (A := 3) (N := L) rfl hl hc rfl (ew_ok_p hn rfl) (by omega) (by omega) (show _ = M 3 (i + 3) from congrArg (M 3) (by omega)) ?_
  refine xr_go hc rfl rfl ?_
  refine xr_go hc rfl rfl ?_
  refine xr_go hc rfl rfl ?_
  refine xr_go hc rfl rfl ?_
  refine xr_iald (A := 3) (N := L) rfl hl hc rfl (ew_ok_p hn rfl) (by omega) (by omega) (show _ = M 3 (i + 4) from congrArg (M 3) (by omega)) ?_
  refine xr_vC_5 hc rfl rfl (ew_own_p hn rfl) (ew_Cn (J_meeting hJ (hs 1 (by decide)) (hs 2 (by decide)) (hs 3 (by decide)) (hs 4 (by decide)))) ?_
  rintro r n1 M1 ⟨hle, hlo1, x, rfl, hC2⟩
  have hn1 : 59 ≤ n1 := Nat.le_trans hn hle
  have hl1 : ew_len M1 3 = L := by
    show (M1 0 0).toNat = L
    rw [hlo1 0 0 (by decide)]
    exact hl
  show ew_X 239 1199 _ [(0, x)] n1 M1 Q
  refine xr_go hc rfl rfl ?_
  refine xr_go hc rfl rfl ?_
  refine xr_go hc rfl rfl ?_
  refine xr_go hc rfl rfl ?_
  refine xr_go hc rfl rfl ?_
  refine xr_iald (A := 3) (N := L) rfl hl1 hc rfl (ew_ok_p hn1 rfl) (by omega) (by omega) (show _ = M 3 (i + 1) from (congrArg (M1 3) (by omega)).trans (hlo1 3 (i + 1) (by decide))) ?_
  refine xr_go hc rfl rfl ?_
  refine xr_go hc rfl rfl ?_
  refine xr_go hc rfl rfl ?_
  refine xr_go hc rfl rfl ?_
  refine xr_iald (A := 3) (N := L) rfl hl1 hc rfl (ew_ok_p hn1 rfl) (by omega) (by omega) (show _ = M 3 (i + 2) from (congrArg (M1 3) (by omega)).trans (hlo1 3 (i + 2) (by decide))) ?_
  refine xr_go hc rfl rfl ?_
  refine xr_go hc rfl rfl ?_
  refine xr_go hc rfl rfl ?_
  refine xr_go hc rfl rfl ?_
  refine xr_iald (A := 3) (N := L) rfl hl1 hc rfl (ew_ok_p hn1 rfl) (by omega) (by omega) (show _ = M 3 (i + 3) from (congrArg (M1 3) (by omega)).trans (hlo1 3 (i + 3) (by decide))) ?_
  refine xr_go hc rfl rfl ?_
  refine xr_go hc rfl rfl ?_
  refine xr_go hc rfl rfl ?_
  refine xr_go hc rfl rfl ?_
  refine xr_iald (A := 3) (N := L) rfl hl1 hc rfl (ew_ok_p hn1 rfl) (by omega) (by omega) (show _ = M 3 (i + 4) from (congrArg (M1 3) (by omega)).trans (hlo1 3 (i + 4) (by decide))) ?_
  refine xr_vC_5 hc rfl rfl (ew_own_p hn1 rfl) hC2 ?_
  rintro r n2 M2 ⟨rfl, hJ2, hlo2⟩
  show ew_X 239 1223 _ [(0, x), (0, x)] n2 M2 Q
  refine xr_icmp_same hc rfl ?_
  exact K n2 M2 hJ2 hlo2

set_option maxRecDepth 20000 in
theorem law_c28 {c n i L : Nat} {M : ew_Mem} (hJ : s_J c n M) (hn : 59 ≤ n) (hl : ew_len M 3 = L) (hiL : i + 6 ≤ L) (hs : ∀ k : Nat, k < 6 → ew_in (M 3 (i + k))) {Q : Option ew_AV → Nat → ew_Mem → Prop} (K : ∀ (n2 : Nat) (M2 : ew_Mem), s_J (c + 1) n2 M2 → s_lo M M2 → ew_X 239 1780 [(2, 3), (2, 4), (2, 38), (0, (i : Int))] [] n2 M2 Q) : ew_X 239 1228 [(2, 3), (2, 4), (2, 38), (0, (i : Int))] [] n M Q := by
  have hc := ew_c_239
  refine xr_go hc rfl rfl ?_
  refine xr_go hc rfl rfl ?_
  refine xr_go hc rfl rfl ?_
  refine xr_go hc rfl rfl ?_
  refine xr_go hc rfl rfl ?_
  refine xr_iald (A := 3) (N := L) rfl hl hc rfl (ew_ok_p hn rfl) (by omega) (by omega) (show _ = M 3 (i + 1) from congrArg (M 3) (by omega)) ?_
  refine xr_vC_2 hc rfl rfl (ew_own_p hn rfl) (ew_Cn (J_spell hJ (hs 1 (by decide)))) ?_
  rintro r n1 M1 ⟨hle, hlo1, x, rfl, hC2⟩
  have hn1 : 59 ≤ n1 := Nat.le_trans hn hle
  have hl1 : ew_len M1 3 = L := by
    show (M1 0 0).toNat = L
    rw [hlo1 0 0 (by decide)]
    exact hl
  show ew_X 239 1237 _ [(0, x)] n1 M1 Q
  refine xr_go hc rfl rfl ?_
  refine xr_go hc rfl rfl ?_
  refine xr_go hc rfl rfl ?_
  refine xr_go hc rfl rfl ?_
  refine xr_go hc rfl rfl ?_
  refine xr_iald (A := 3) (N := L) rfl hl1 hc rfl (ew_ok_p hn1 rfl) (by omega) (by omega) (show _ = M 3 (i + 1) from (congrArg (M1 3) (by omega)).trans (hlo1 3 (i + 1) (by decide))) ?_
  refine xr_vC_2 hc rfl rfl (ew_own_p hn1 rfl) hC2 ?_
  rintro r n2 M2 ⟨rfl, hJ2, hlo2⟩
  show ew_X 239 1246 _ [(0, x), (0, x)] n2 M2 Q
  refine xr_icmp_same hc rfl ?_
  exact K n2 M2 hJ2 hlo2

set_option maxRecDepth 20000 in
theorem law_c29 {c n i L : Nat} {M : ew_Mem} (hJ : s_J c n M) (hn : 59 ≤ n) (hl : ew_len M 3 = L) (hiL : i + 6 ≤ L) (hs : ∀ k : Nat, k < 6 → ew_in (M 3 (i + k))) {Q : Option ew_AV → Nat → ew_Mem → Prop} (K : ∀ (n2 : Nat) (M2 : ew_Mem), s_J (c + 1) n2 M2 → s_lo M M2 → ew_X 239 1780 [(2, 3), (2, 4), (2, 38), (0, (i : Int))] [] n2 M2 Q) : ew_X 239 1251 [(2, 3), (2, 4), (2, 38), (0, (i : Int))] [] n M Q := by
  have hc := ew_c_239
  refine xr_go hc rfl rfl ?_
  refine xr_go hc rfl rfl ?_
  refine xr_go hc rfl rfl ?_
  refine xr_go hc rfl rfl ?_
  refine xr_go hc rfl rfl ?_
  refine xr_iald (A := 3) (N := L) rfl hl hc rfl (ew_ok_p hn rfl) (by omega) (by omega) (show _ = M 3 (i + 1) from congrArg (M 3) (by omega)) ?_
  refine xr_go hc rfl rfl ?_
  refine xr_go hc rfl rfl ?_
  refine xr_go hc rfl rfl ?_
  refine xr_go hc rfl rfl ?_
  refine xr_iald (A := 3) (N := L) rfl hl hc rfl (ew_ok_p hn rfl) (by omega) (by omega) (show _ = M 3 (i + 2) from congrArg (M 3) (by omega)) ?_
  refine xr_vC_3 hc rfl rfl (ew_own_p hn rfl) (ew_Cn (J_paper hJ (hs 1 (by decide)) (hs 2 (by decide)))) ?_
  rintro r n1 M1 ⟨hle, hlo1, x, rfl, hC2⟩
  have hn1 : 59 ≤ n1 := Nat.le_trans hn hle
  have hl1 : ew_len M1 3 = L := by
    show (M1 0 0).toNat = L
    rw [hlo1 0 0 (by decide)]
    exact hl
  show ew_X 239 1265 _ [(0, x)] n1 M1 Q
  refine xr_go hc rfl rfl ?_
  refine xr_go hc rfl rfl ?_
  refine xr_go hc rfl rfl ?_
  refine xr_go hc rfl rfl ?_
  refine xr_go hc rfl rfl ?_
  refine xr_iald (A := 3) (N := L) rfl hl1 hc rfl (ew_ok_p hn1 rfl) (by omega) (by omega) (show _ = M 3 (i + 1) from (congrArg (M1 3) (by omega)).trans (hlo1 3 (i + 1) (by decide))) ?_
  refine xr_go hc rfl rfl ?_
  refine xr_go hc rfl rfl ?_
  refine xr_go hc rfl rfl ?_
  refine xr_go hc rfl rfl ?_
  refine xr_iald (A := 3) (N := L) rfl hl1 hc rfl (ew_ok_p hn1 rfl) (by omega) (by omega) (show _ = M 3 (i + 2) from (congrArg (M1 3) (by omega)).trans (hlo1 3 (i + 2) (by decide))) ?_
  refine xr_vC_3 hc rfl rfl (ew_own_p hn1 rfl) hC2 ?_
  rintro r n2 M2 ⟨rfl, hJ2, hlo2⟩
  show ew_X 239 1279 _ [(0, x), (0, x)] n2 M2 Q
  refine xr_icmp_same hc rfl ?_
  exact K n2 M2 hJ2 hlo2

set_option maxRecDepth 20000 in
theorem law_c30 {c n i L : Nat} {M : ew_Mem} (hJ : s_J c n M) (hn : 59 ≤ n) (hl : ew_len M 3 = L) (hiL : i + 6 ≤ L) (hs : ∀ k : Nat, k < 6 → ew_in (M 3 (i + k))) {Q : Option ew_AV → Nat → ew_Mem → Prop} (K : ∀ (n2 : Nat) (M2 : ew_Mem), s_J (c + 1) n2 M2 → s_lo M M2 → ew_X 239 1780 [(2, 3), (2, 4), (2, 38), (0, (i : Int))] [] n2 M2 Q) : ew_X 239 1284 [(2, 3), (2, 4), (2, 38), (0, (i : Int))] [] n M Q := by
  have hc := ew_c_239
  refine xr_go hc rfl rfl ?_
  refine xr_go hc rfl rfl ?_
  refine xr_go hc rfl rfl ?_
  refine xr_go hc rfl rfl ?_
  refine xr_go hc rfl rfl ?_
  refine xr_iald (A := 3) (N := L) rfl hl hc rfl (ew_ok_p hn rfl) (by omega) (by omega) (show _ = M 3 (i + 1) from congrArg (M 3) (by omega)) ?_
  refine xr_go hc rfl rfl ?_
  refine xr_go hc rfl rfl ?_
  refine xr_go hc rfl rfl ?_
  refine xr_go hc rfl rfl ?_
  refine xr_iald (A := 3) (N := L) rfl hl hc rfl (ew_ok_p hn rfl) (by omega) (by omega) (show _ = M 3 (i + 2) from congrArg (M 3) (by omega)) ?_
  refine xr_go hc rfl rfl ?_
  refine xr_go hc rfl rfl ?_
  refine xr_go hc rfl rfl ?_
  refine xr_go hc rfl rfl ?_
  refine xr_iald (A := 3) (N := L) rfl hl hc rfl (ew_ok_p hn rfl) (by omega) (by omega) (show _ = M 3 (i + 3) from congrArg (M 3) (by omega)) ?_
  refine xr_vC_4 hc rfl rfl (ew_own_p hn rfl) (ew_Cn (J_gap hJ (hs 1 (by decide)) (hs 2 (by decide)) (hs 3 (by decide)))) ?_
  rintro r n1 M1 ⟨hle, hlo1, x, rfl, hC2⟩
  have hn1 : 59 ≤ n1 := Nat.le_trans hn hle
  have hl1 : ew_len M1 3 = L := by
    show (M1 0 0).toNat = L
    rw [hlo1 0 0 (by decide)]
    exact hl
  show ew_X 239 1303 _ [(0, x)] n1 M1 Q
  refine xr_go hc rfl rfl ?_
  refine xr_go hc rfl rfl ?_
  refine xr_go hc rfl rfl ?_
  refine xr_go hc rfl rfl ?_
  refine xr_go hc rfl rfl ?_
  refine xr_iald (A := 3) (N := L) rfl hl1 hc rfl (ew_ok_p hn1 rfl) (by omega) (by omega) (show _ = M 3 (i + 1) from (congrArg (M1 3) (by omega)).trans (hlo1 3 (i + 1) (by decide))) ?_
  refine xr_go hc rfl rfl ?_
  refine xr_go hc rfl rfl ?_
  refine xr_go hc rfl rfl ?_
  refine xr_go hc rfl rfl ?_
  refine xr_iald (A := 3) (N := L) rfl hl1 hc rfl (ew_ok_p hn1 rfl) (by omega) (by omega) (show _ = M 3 (i + 2) from (congrArg (M1 3) (by omega)).trans (hlo1 3 (i + 2) (by decide))) ?_
  refine xr_go hc rfl rfl ?_
  refine xr_go hc rfl rfl ?_
  refine xr_go hc rfl rfl ?_
  refine xr_go hc rfl rfl ?_
  refine xr_iald (A := 3) (N := L) rfl hl1 hc rfl (ew_ok_p hn1 rfl) (by omega) (by omega) (show _ = M 3 (i + 3) from (congrArg (M1 3) (by omega)).trans (hlo1 3 (i + 3) (by decide))) ?_
  refine xr_vC_4 hc rfl rfl (ew_own_p hn1 rfl) hC2 ?_
  rintro r n2 M2 ⟨rfl, hJ2, hlo2⟩
  show ew_X 239 1322 _ [(0, x), (0, x)] n2 M2 Q
  refine xr_icmp_same hc rfl ?_
  exact K n2 M2 hJ2 hlo2

set_option maxRecDepth 20000 in
theorem law_c31 {c n i L : Nat} {M : ew_Mem} (hJ : s_J c n M) (hn : 59 ≤ n) (hl : ew_len M 3 = L) (hiL : i + 6 ≤ L) (hs : ∀ k : Nat, k < 6 → ew_in (M 3 (i + k))) {Q : Option ew_AV → Nat → ew_Mem → Prop} (K : ∀ (n2 : Nat) (M2 : ew_Mem), s_J (c + 1) n2 M2 → s_lo M M2 → ew_X 239 1780 [(2, 3), (2, 4), (2, 38), (0, (i : Int))] [] n2 M2 Q) : ew_X 239 1327 [(2, 3), (2, 4), (2, 38), (0, (i : Int))] [] n M Q := by
  have hc := ew_c_239
  refine xr_go hc rfl rfl ?_
  refine xr_go hc rfl rfl ?_
  refine xr_go hc rfl rfl ?_
  refine xr_go hc rfl rfl ?_
  refine xr_go hc rfl rfl ?_
  refine xr_iald (A := 3) (N := L) rfl hl hc rfl (ew_ok_p hn rfl) (by omega) (by omega) (show _ = M 3 (i + 1) from congrArg (M 3) (by omega)) ?_
  refine xr_vC_2 hc rfl rfl (ew_own_p hn rfl) (ew_Cn (J_feed hJ (hs 1 (by decide)))) ?_
  rintro r n1 M1 ⟨hle, hlo1, x, rfl, hC2⟩
  have hn1 : 59 ≤ n1 := Nat.le_trans hn hle
  have hl1 : ew_len M1 3 = L := by
    show (M1 0 0).toNat = L
    rw [hlo1 0 0 (by decide)]
    exact hl
  show ew_X 239 1336 _ [(0, x)] n1 M1 Q
  refine xr_go hc rfl rfl ?_
  refine xr_go hc rfl rfl ?_
  refine xr_go hc rfl rfl ?_
  refine xr_go hc rfl rfl ?_
  refine xr_go hc rfl rfl ?_
  refine xr_iald (A := 3) (N := L) rfl hl1 hc rfl (ew_ok_p hn1 rfl) (by omega) (by omega) (show _ = M 3 (i + 1) from (congrArg (M1 3) (by omega)).trans (hlo1 3 (i + 1) (by decide))) ?_
  refine xr_vC_2 hc rfl rfl (ew_own_p hn1 rfl) hC2 ?_
  rintro r n2 M2 ⟨rfl, hJ2, hlo2⟩
  show ew_X 239 1345 _ [(0, x), (0, x)] n2 M2 Q
  refine xr_icmp_same hc rfl ?_
  exact K n2 M2 hJ2 hlo2

set_option maxRecDepth 20000 in
theorem law_c32 {c n i L : Nat} {M : ew_Mem} (hJ : s_J c n M) (hn : 59 ≤ n) (hl : ew_len M 3 = L) (hiL : i + 6 ≤ L) (hs : ∀ k : Nat, k < 6 → ew_in (M 3 (i + k))) {Q : Option ew_AV → Nat → ew_Mem → Prop} (K : ∀ (n2 : Nat) (M2 : ew_Mem), s_J (c + 1) n2 M2 → s_lo M M2 → ew_X 239 1780 [(2, 3), (2, 4), (2, 38), (0, (i : Int))] [] n2 M2 Q) : ew_X 239 1350 [(2, 3), (2, 4), (2, 38), (0, (i : Int))] [] n M Q := by
  have hc := ew_c_239
  refine xr_go hc rfl rfl ?_
  refine xr_vC_1 hc rfl rfl (ew_own_p hn rfl) (ew_Cn (J_read2 hJ )) ?_
  rintro r n1 M1 ⟨hle, hlo1, x, rfl, hC2⟩
  have hn1 : 59 ≤ n1 := Nat.le_trans hn hle
  have hl1 : ew_len M1 3 = L := by
    show (M1 0 0).toNat = L
    rw [hlo1 0 0 (by decide)]
    exact hl
  show ew_X 239 1354 _ [(0, x)] n1 M1 Q
  refine xr_go hc rfl rfl ?_
  refine xr_vC_1 hc rfl rfl (ew_own_p hn1 rfl) hC2 ?_
  rintro r n2 M2 ⟨rfl, hJ2, hlo2⟩
  show ew_X 239 1358 _ [(0, x), (0, x)] n2 M2 Q
  refine xr_icmp_same hc rfl ?_
  exact K n2 M2 hJ2 hlo2

set_option maxRecDepth 20000 in
theorem law_c33 {c n i L : Nat} {M : ew_Mem} (hJ : s_J c n M) (hn : 59 ≤ n) (hl : ew_len M 3 = L) (hiL : i + 6 ≤ L) (hs : ∀ k : Nat, k < 6 → ew_in (M 3 (i + k))) {Q : Option ew_AV → Nat → ew_Mem → Prop} (K : ∀ (n2 : Nat) (M2 : ew_Mem), s_J (c + 1) n2 M2 → s_lo M M2 → ew_X 239 1780 [(2, 3), (2, 4), (2, 38), (0, (i : Int))] [] n2 M2 Q) : ew_X 239 1363 [(2, 3), (2, 4), (2, 38), (0, (i : Int))] [] n M Q := by
  have hc := ew_c_239
  refine xr_go hc rfl rfl ?_
  refine xr_go hc rfl rfl ?_
  refine xr_go hc rfl rfl ?_
  refine xr_go hc rfl rfl ?_
  refine xr_go hc rfl rfl ?_
  refine xr_iald (A := 3) (N := L) rfl hl hc rfl (ew_ok_p hn rfl) (by omega) (by omega) (show _ = M 3 (i + 1) from congrArg (M 3) (by omega)) ?_
  refine xr_go hc rfl rfl ?_
  refine xr_go hc rfl rfl ?_
  refine xr_go hc rfl rfl ?_
  refine xr_go hc rfl rfl ?_
  refine xr_iald (A := 3) (N := L) rfl hl hc rfl (ew_ok_p hn rfl) (by omega) (by omega) (show _ = M 3 (i + 2) from congrArg (M 3) (by omega)) ?_
  refine xr_go hc rfl rfl ?_
  refine xr_go hc rfl rfl ?_
  refine xr_go hc rfl rfl ?_
  refine xr_go hc rfl rfl ?_
  refine xr_iald (A := 3) (N := L) rfl hl hc rfl (ew_ok_p hn rfl) (by omega) (by omega) (show _ = M 3 (i + 3) from congrArg (M 3) (by omega)) ?_
  refine xr_vC_4 hc rfl rfl (ew_own_p hn rfl) (ew_Cn (J_tray hJ (hs 1 (by decide)) (hs 2 (by decide)) (hs 3 (by decide)))) ?_
  rintro r n1 M1 ⟨hle, hlo1, x, rfl, hC2⟩
  have hn1 : 59 ≤ n1 := Nat.le_trans hn hle
  have hl1 : ew_len M1 3 = L := by
    show (M1 0 0).toNat = L
    rw [hlo1 0 0 (by decide)]
    exact hl
  show ew_X 239 1382 _ [(0, x)] n1 M1 Q
  refine xr_go hc rfl rfl ?_
  refine xr_go hc rfl rfl ?_
  refine xr_go hc rfl rfl ?_
  refine xr_go hc rfl rfl ?_
  refine xr_go hc rfl rfl ?_
  refine xr_iald (A := 3) (N := L) rfl hl1 hc rfl (ew_ok_p hn1 rfl) (by omega) (by omega) (show _ = M 3 (i + 1) from (congrArg (M1 3) (by omega)).trans (hlo1 3 (i + 1) (by decide))) ?_
  refine xr_go hc rfl rfl ?_
  refine xr_go hc rfl rfl ?_
  refine xr_go hc rfl rfl ?_
  refine xr_go hc rfl rfl ?_
  refine xr_iald (A := 3) (N := L) rfl hl1 hc rfl (ew_ok_p hn1 rfl) (by omega) (by omega) (show _ = M 3 (i + 2) from (congrArg (M1 3) (by omega)).trans (hlo1 3 (i + 2) (by decide))) ?_
  refine xr_go hc rfl rfl ?_
  refine xr_go hc rfl rfl ?_
  refine xr_go hc rfl rfl ?_
  refine xr_go hc rfl rfl ?_
  refine xr_iald (A := 3) (N := L) rfl hl1 hc rfl (ew_ok_p hn1 rfl) (by omega) (by omega) (show _ = M 3 (i + 3) from (congrArg (M1 3) (by omega)).trans (hlo1 3 (i + 3) (by decide))) ?_
  refine xr_vC_4 hc rfl rfl (ew_own_p hn1 rfl) hC2 ?_
  rintro r n2 M2 ⟨rfl, hJ2, hlo2⟩
  show ew_X 239 1401 _ [(0, x), (0, x)] n2 M2 Q
  refine xr_icmp_same hc rfl ?_
  exact K n2 M2 hJ2 hlo2

set_option maxRecDepth 20000 in
theorem law_c34 {c n i L : Nat} {M : ew_Mem} (hJ : s_J c n M) (hn : 59 ≤ n) (hl : ew_len M 3 = L) (hiL : i + 6 ≤ L) (hs : ∀ k : Nat, k < 6 → ew_in (M 3 (i + k))) {Q : Option ew_AV → Nat → ew_Mem → Prop} (K : ∀ (n2 : Nat) (M2 : ew_Mem), s_J (c + 1) n2 M2 → s_lo M M2 → ew_X 239 1780 [(2, 3), (2, 4), (2, 38), (0, (i : Int))] [] n2 M2 Q) : ew_X 239 1406 [(2, 3), (2, 4), (2, 38), (0, (i : Int))] [] n M Q := by
  have hc := ew_c_239
  refine xr_go hc rfl rfl ?_
  refine xr_go hc rfl rfl ?_
  refine xr_go hc rfl rfl ?_
  refine xr_go hc rfl rfl ?_
  refine xr_go hc rfl rfl ?_
  refine xr_iald (A := 3) (N := L) rfl hl hc rfl (ew_ok_p hn rfl) (by omega) (by omega) (show _ = M 3 (i + 1) from congrArg (M 3) (by omega)) ?_
  refine xr_go hc rfl rfl ?_
  refine xr_go hc rfl rfl ?_
  refine xr_go hc rfl rfl ?_
  refine xr_go hc rfl rfl ?_
  refine xr_iald (A := 3) (N := L) rfl hl hc rfl (ew_ok_p hn rfl) (by omega) (by omega) (show _ = M 3 (i + 2) from congrArg (M 3) (by omega)) ?_
  refine xr_go hc rfl rfl ?_
  refine xr_go hc rfl rfl ?_
  refine xr_go hc rfl rfl ?_
  refine xr_go hc rfl rfl ?_
  refine xr_iald (A := 3) (N := L) rfl hl hc rfl (ew_ok_p hn rfl) (by omega) (by omega) (show _ = M 3 (i + 3) from congrArg (M 3) (by omega)) ?_
  refine xr_vC_4 hc rfl rfl (ew_own_p hn rfl) (ew_Cn (J_lay hJ (hs 1 (by decide)) (hs 2 (by decide)) (hs 3 (by decide)))) ?_
  rintro r n1 M1 ⟨hle, hlo1, x, rfl, hC2⟩
  have hn1 : 59 ≤ n1 := Nat.le_trans hn hle
  have hl1 : ew_len M1 3 = L := by
    show (M1 0 0).toNat = L
    rw [hlo1 0 0 (by decide)]
    exact hl
  show ew_X 239 1425 _ [(0, x)] n1 M1 Q
  refine xr_go hc rfl rfl ?_
  refine xr_go hc rfl rfl ?_
  refine xr_go hc rfl rfl ?_
  refine xr_go hc rfl rfl ?_
  refine xr_go hc rfl rfl ?_
  refine xr_iald (A := 3) (N := L) rfl hl1 hc rfl (ew_ok_p hn1 rfl) (by omega) (by omega) (show _ = M 3 (i + 1) from (congrArg (M1 3) (by omega)).trans (hlo1 3 (i + 1) (by decide))) ?_
  refine xr_go hc rfl rfl ?_
  refine xr_go hc rfl rfl ?_
  refine xr_go hc rfl rfl ?_
  refine xr_go hc rfl rfl ?_
  refine xr_iald (A := 3) (N := L) rfl hl1 hc rfl (ew_ok_p hn1 rfl) (by omega) (by omega) (show _ = M 3 (i + 2) from (congrArg (M1 3) (by omega)).trans (hlo1 3 (i + 2) (by decide))) ?_
  refine xr_go hc rfl rfl ?_
  refine xr_go hc rfl rfl ?_
  refine xr_go hc rfl rfl ?_
  refine xr_go hc rfl rfl ?_
  refine xr_iald (A := 3) (N := L) rfl hl1 hc rfl (ew_ok_p hn1 rfl) (by omega) (by omega) (show _ = M 3 (i + 3) from (congrArg (M1 3) (by omega)).trans (hlo1 3 (i + 3) (by decide))) ?_
  refine xr_vC_4 hc rfl rfl (ew_own_p hn1 rfl) hC2 ?_
  rintro r n2 M2 ⟨rfl, hJ2, hlo2⟩
  show ew_X 239 1444 _ [(0, x), (0, x)] n2 M2 Q
  refine xr_icmp_same hc rfl ?_
  exact K n2 M2 hJ2 hlo2

set_option maxRecDepth 20000 in
theorem law_c35 {c n i L : Nat} {M : ew_Mem} (hJ : s_J c n M) (hn : 59 ≤ n) (hl : ew_len M 3 = L) (hiL : i + 6 ≤ L) (hs : ∀ k : Nat, k < 6 → ew_in (M 3 (i + k))) {Q : Option ew_AV → Nat → ew_Mem → Prop} (K : ∀ (n2 : Nat) (M2 : ew_Mem), s_J (c + 1) n2 M2 → s_lo M M2 → ew_X 239 1780 [(2, 3), (2, 4), (2, 38), (0, (i : Int))] [] n2 M2 Q) : ew_X 239 1449 [(2, 3), (2, 4), (2, 38), (0, (i : Int))] [] n M Q := by
  have hc := ew_c_239
  refine xr_go hc rfl rfl ?_
  refine xr_go hc rfl rfl ?_
  refine xr_go hc rfl rfl ?_
  refine xr_go hc rfl rfl ?_
  refine xr_go hc rfl rfl ?_
  refine xr_iald (A := 3) (N := L) rfl hl hc rfl (ew_ok_p hn rfl) (by omega) (by omega) (show _ = M 3 (i + 1) from congrArg (M 3) (by omega)) ?_
  refine xr_go hc rfl rfl ?_
  refine xr_go hc rfl rfl ?_
  refine xr_go hc rfl rfl ?_
  refine xr_go hc rfl rfl ?_
  refine xr_iald (A := 3) (N := L) rfl hl hc rfl (ew_ok_p hn rfl) (by omega) (by omega) (show _ = M 3 (i + 2) from congrArg (M 3) (by omega)) ?_
  refine xr_go hc rfl rfl ?_
  refine xr_go hc rfl rfl ?_
  refine xr_go hc rfl rfl ?_
  refine xr_go hc rfl rfl ?_
  refine xr_iald (A := 3) (N := L) rfl hl hc rfl (ew_ok_p hn rfl) (by omega) (by omega) (show _ = M 3 (i + 3) from congrArg (M 3) (by omega)) ?_
  refine xr_vC_4 hc rfl rfl (ew_own_p hn rfl) (ew_Cn (J_laid hJ (hs 1 (by decide)) (hs 2 (by decide)) (hs 3 (by decide)))) ?_
  rintro r n1 M1 ⟨hle, hlo1, x, rfl, hC2⟩
  have hn1 : 59 ≤ n1 := Nat.le_trans hn hle
  have hl1 : ew_len M1 3 = L := by
    show (M1 0 0).toNat = L
    rw [hlo1 0 0 (by decide)]
    exact hl
  show ew_X 239 1468 _ [(0, x)] n1 M1 Q
  refine xr_go hc rfl rfl ?_
  refine xr_go hc rfl rfl ?_
  refine xr_go hc rfl rfl ?_
  refine xr_go hc rfl rfl ?_
  refine xr_go hc rfl rfl ?_
  refine xr_iald (A := 3) (N := L) rfl hl1 hc rfl (ew_ok_p hn1 rfl) (by omega) (by omega) (show _ = M 3 (i + 1) from (congrArg (M1 3) (by omega)).trans (hlo1 3 (i + 1) (by decide))) ?_
  refine xr_go hc rfl rfl ?_
  refine xr_go hc rfl rfl ?_
  refine xr_go hc rfl rfl ?_
  refine xr_go hc rfl rfl ?_
  refine xr_iald (A := 3) (N := L) rfl hl1 hc rfl (ew_ok_p hn1 rfl) (by omega) (by omega) (show _ = M 3 (i + 2) from (congrArg (M1 3) (by omega)).trans (hlo1 3 (i + 2) (by decide))) ?_
  refine xr_go hc rfl rfl ?_
  refine xr_go hc rfl rfl ?_
  refine xr_go hc rfl rfl ?_
  refine xr_go hc rfl rfl ?_
  refine xr_iald (A := 3) (N := L) rfl hl1 hc rfl (ew_ok_p hn1 rfl) (by omega) (by omega) (show _ = M 3 (i + 3) from (congrArg (M1 3) (by omega)).trans (hlo1 3 (i + 3) (by decide))) ?_
  refine xr_vC_4 hc rfl rfl (ew_own_p hn1 rfl) hC2 ?_
  rintro r n2 M2 ⟨rfl, hJ2, hlo2⟩
  show ew_X 239 1487 _ [(0, x), (0, x)] n2 M2 Q
  refine xr_icmp_same hc rfl ?_
  exact K n2 M2 hJ2 hlo2

set_option maxRecDepth 20000 in
theorem law_c36 {c n i L : Nat} {M : ew_Mem} (hJ : s_J c n M) (hn : 59 ≤ n) (hl : ew_len M 3 = L) (hiL : i + 6 ≤ L) (hs : ∀ k : Nat, k < 6 → ew_in (M 3 (i + k))) {Q : Option ew_AV → Nat → ew_Mem → Prop} (K : ∀ (n2 : Nat) (M2 : ew_Mem), s_J (c + 1) n2 M2 → s_lo M M2 → ew_X 239 1780 [(2, 3), (2, 4), (2, 38), (0, (i : Int))] [] n2 M2 Q) : ew_X 239 1492 [(2, 3), (2, 4), (2, 38), (0, (i : Int))] [] n M Q := by
  have hc := ew_c_239
  refine xr_go hc rfl rfl ?_
  refine xr_go hc rfl rfl ?_
  refine xr_go hc rfl rfl ?_
  refine xr_go hc rfl rfl ?_
  refine xr_go hc rfl rfl ?_
  refine xr_iald (A := 3) (N := L) rfl hl hc rfl (ew_ok_p hn rfl) (by omega) (by omega) (show _ = M 3 (i + 1) from congrArg (M 3) (by omega)) ?_
  refine xr_go hc rfl rfl ?_
  refine xr_go hc rfl rfl ?_
  refine xr_go hc rfl rfl ?_
  refine xr_go hc rfl rfl ?_
  refine xr_iald (A := 3) (N := L) rfl hl hc rfl (ew_ok_p hn rfl) (by omega) (by omega) (show _ = M 3 (i + 2) from congrArg (M 3) (by omega)) ?_
  refine xr_vC_3 hc rfl rfl (ew_own_p hn rfl) (ew_Cn (J_like hJ (hs 1 (by decide)) (hs 2 (by decide)))) ?_
  rintro r n1 M1 ⟨hle, hlo1, x, rfl, hC2⟩
  have hn1 : 59 ≤ n1 := Nat.le_trans hn hle
  have hl1 : ew_len M1 3 = L := by
    show (M1 0 0).toNat = L
    rw [hlo1 0 0 (by decide)]
    exact hl
  show ew_X 239 1506 _ [(0, x)] n1 M1 Q
  refine xr_go hc rfl rfl ?_
  refine xr_go hc rfl rfl ?_
  refine xr_go hc rfl rfl ?_
  refine xr_go hc rfl rfl ?_
  refine xr_go hc rfl rfl ?_
  refine xr_iald (A := 3) (N := L) rfl hl1 hc rfl (ew_ok_p hn1 rfl) (by omega) (by omega) (show _ = M 3 (i + 1) from (congrArg (M1 3) (by omega)).trans (hlo1 3 (i + 1) (by decide))) ?_
  refine xr_go hc rfl rfl ?_
  refine xr_go hc rfl rfl ?_
  refine xr_go hc rfl rfl ?_
  refine xr_go hc rfl rfl ?_
  refine xr_iald (A := 3) (N := L) rfl hl1 hc rfl (ew_ok_p hn1 rfl) (by omega) (by omega) (show _ = M 3 (i + 2) from (congrArg (M1 3) (by omega)).trans (hlo1 3 (i + 2) (by decide))) ?_
  refine xr_vC_3 hc rfl rfl (ew_own_p hn1 rfl) hC2 ?_
  rintro r n2 M2 ⟨rfl, hJ2, hlo2⟩
  show ew_X 239 1520 _ [(0, x), (0, x)] n2 M2 Q
  refine xr_icmp_same hc rfl ?_
  exact K n2 M2 hJ2 hlo2

set_option maxRecDepth 20000 in
theorem law_c37 {c n i L : Nat} {M : ew_Mem} (hJ : s_J c n M) (hn : 59 ≤ n) (hl : ew_len M 3 = L) (hiL : i + 6 ≤ L) (hs : ∀ k : Nat, k < 6 → ew_in (M 3 (i + k))) {Q : Option ew_AV → Nat → ew_Mem → Prop} (K : ∀ (n2 : Nat) (M2 : ew_Mem), s_J (c + 1) n2 M2 → s_lo M M2 → ew_X 239 1780 [(2, 3), (2, 4), (2, 38), (0, (i : Int))] [] n2 M2 Q) : ew_X 239 1525 [(2, 3), (2, 4), (2, 38), (0, (i : Int))] [] n M Q := by
  have hc := ew_c_239
  refine xr_go hc rfl rfl ?_
  refine xr_go hc rfl rfl ?_
  refine xr_go hc rfl rfl ?_
  refine xr_go hc rfl rfl ?_
  refine xr_go hc rfl rfl ?_
  refine xr_iald (A := 3) (N := L) rfl hl hc rfl (ew_ok_p hn rfl) (by omega) (by omega) (show _ = M 3 (i + 1) from congrArg (M 3) (by omega)) ?_
  refine xr_go hc rfl rfl ?_
  refine xr_go hc rfl rfl ?_
  refine xr_go hc rfl rfl ?_
  refine xr_go hc rfl rfl ?_
  refine xr_iald (A := 3) (N := L) rfl hl hc rfl (ew_ok_p hn rfl) (by omega) (by omega) (show _ = M 3 (i + 2) from congrArg (M 3) (by omega)) ?_
  refine xr_vC_3 hc rfl rfl (ew_own_p hn rfl) (ew_Cn (J_list hJ (hs 1 (by decide)) (hs 2 (by decide)))) ?_
  rintro r n1 M1 ⟨hle, hlo1, x, rfl, hC2⟩
  have hn1 : 59 ≤ n1 := Nat.le_trans hn hle
  have hl1 : ew_len M1 3 = L := by
    show (M1 0 0).toNat = L
    rw [hlo1 0 0 (by decide)]
    exact hl
  show ew_X 239 1539 _ [(0, x)] n1 M1 Q
  refine xr_go hc rfl rfl ?_
  refine xr_go hc rfl rfl ?_
  refine xr_go hc rfl rfl ?_
  refine xr_go hc rfl rfl ?_
  refine xr_go hc rfl rfl ?_
  refine xr_iald (A := 3) (N := L) rfl hl1 hc rfl (ew_ok_p hn1 rfl) (by omega) (by omega) (show _ = M 3 (i + 1) from (congrArg (M1 3) (by omega)).trans (hlo1 3 (i + 1) (by decide))) ?_
  refine xr_go hc rfl rfl ?_
  refine xr_go hc rfl rfl ?_
  refine xr_go hc rfl rfl ?_
  refine xr_go hc rfl rfl ?_
  refine xr_iald (A := 3) (N := L) rfl hl1 hc rfl (ew_ok_p hn1 rfl) (by omega) (by omega) (show _ = M 3 (i + 2) from (congrArg (M1 3) (by omega)).trans (hlo1 3 (i + 2) (by decide))) ?_
  refine xr_vC_3 hc rfl rfl (ew_own_p hn1 rfl) hC2 ?_
  rintro r n2 M2 ⟨rfl, hJ2, hlo2⟩
  show ew_X 239 1553 _ [(0, x), (0, x)] n2 M2 Q
  refine xr_icmp_same hc rfl ?_
  exact K n2 M2 hJ2 hlo2

set_option maxRecDepth 20000 in
theorem law_c38 {c n i L : Nat} {M : ew_Mem} (hJ : s_J c n M) (hn : 59 ≤ n) (hl : ew_len M 3 = L) (hiL : i + 6 ≤ L) (hs : ∀ k : Nat, k < 6 → ew_in (M 3 (i + k))) {Q : Option ew_AV → Nat → ew_Mem → Prop} (K : ∀ (n2 : Nat) (M2 : ew_Mem), s_J (c + 1) n2 M2 → s_lo M M2 → ew_X 239 1780 [(2, 3), (2, 4), (2, 38), (0, (i : Int))] [] n2 M2 Q) : ew_X 239 1558 [(2, 3), (2, 4), (2, 38), (0, (i : Int))] [] n M Q := by
  have hc := ew_c_239
  refine xr_go hc rfl rfl ?_
  refine xr_go hc rfl rfl ?_
  refine xr_go hc rfl rfl ?_
  refine xr_go hc rfl rfl ?_
  refine xr_go hc rfl rfl ?_
  refine xr_iald (A := 3) (N := L) rfl hl hc rfl (ew_ok_p hn rfl) (by omega) (by omega) (show _ = M 3 (i + 1) from congrArg (M 3) (by omega)) ?_
  refine xr_go hc rfl rfl ?_
  refine xr_go hc rfl rfl ?_
  refine xr_go hc rfl rfl ?_
  refine xr_go hc rfl rfl ?_
  refine xr_iald (A := 3) (N := L) rfl hl hc rfl (ew_ok_p hn rfl) (by omega) (by omega) (show _ = M 3 (i + 2) from congrArg (M 3) (by omega)) ?_
  refine xr_go hc rfl rfl ?_
  refine xr_go hc rfl rfl ?_
  refine xr_go hc rfl rfl ?_
  refine xr_go hc rfl rfl ?_
  refine xr_iald (A := 3) (N := L) rfl hl hc rfl (ew_ok_p hn rfl) (by omega) (by omega) (show _ = M 3 (i + 3) from congrArg (M 3) (by omega)) ?_
  refine xr_i2l hc rfl (hs 3 (by decide)) ?_
  refine xr_go hc rfl rfl ?_
  refine xr_go hc rfl rfl ?_
  refine xr_go hc rfl rfl ?_
  refine xr_go hc rfl rfl ?_
  refine xr_go hc rfl rfl ?_
  refine xr_go hc rfl rfl ?_
  refine xr_iald (A := 3) (N := L) rfl hl hc rfl (ew_ok_p hn rfl) (by omega) (by omega) (show _ = M 3 (i + 4) from congrArg (M 3) (by omega)) ?_
  refine xr_i2l hc rfl (hs 4 (by decide)) ?_
  refine xr_go hc rfl rfl ?_
  refine xr_go hc rfl rfl ?_
  refine xr_go hc rfl rfl ?_
  refine xr_vC_4 hc rfl rfl (ew_own_p hn rfl) (ew_Cn (J_put hJ (hs 1 (by decide)) (hs 2 (by decide)) (s_pv_in (M 3 (i + 3)) (M 3 (i + 4))))) ?_
  rintro r n1 M1 ⟨hle, hlo1, x, rfl, hC2⟩
  have hn1 : 59 ≤ n1 := Nat.le_trans hn hle
  have hl1 : ew_len M1 3 = L := by
    show (M1 0 0).toNat = L
    rw [hlo1 0 0 (by decide)]
    exact hl
  show ew_X 239 1592 _ [(0, x)] n1 M1 Q
  refine xr_go hc rfl rfl ?_
  refine xr_go hc rfl rfl ?_
  refine xr_go hc rfl rfl ?_
  refine xr_go hc rfl rfl ?_
  refine xr_go hc rfl rfl ?_
  refine xr_iald (A := 3) (N := L) rfl hl1 hc rfl (ew_ok_p hn1 rfl) (by omega) (by omega) (show _ = M 3 (i + 1) from (congrArg (M1 3) (by omega)).trans (hlo1 3 (i + 1) (by decide))) ?_
  refine xr_go hc rfl rfl ?_
  refine xr_go hc rfl rfl ?_
  refine xr_go hc rfl rfl ?_
  refine xr_go hc rfl rfl ?_
  refine xr_iald (A := 3) (N := L) rfl hl1 hc rfl (ew_ok_p hn1 rfl) (by omega) (by omega) (show _ = M 3 (i + 2) from (congrArg (M1 3) (by omega)).trans (hlo1 3 (i + 2) (by decide))) ?_
  refine xr_go hc rfl rfl ?_
  refine xr_go hc rfl rfl ?_
  refine xr_go hc rfl rfl ?_
  refine xr_go hc rfl rfl ?_
  refine xr_iald (A := 3) (N := L) rfl hl1 hc rfl (ew_ok_p hn1 rfl) (by omega) (by omega) (show _ = M 3 (i + 3) from (congrArg (M1 3) (by omega)).trans (hlo1 3 (i + 3) (by decide))) ?_
  refine xr_i2l hc rfl (hs 3 (by decide)) ?_
  refine xr_go hc rfl rfl ?_
  refine xr_go hc rfl rfl ?_
  refine xr_go hc rfl rfl ?_
  refine xr_go hc rfl rfl ?_
  refine xr_go hc rfl rfl ?_
  refine xr_go hc rfl rfl ?_
  refine xr_iald (A := 3) (N := L) rfl hl1 hc rfl (ew_ok_p hn1 rfl) (by omega) (by omega) (show _ = M 3 (i + 4) from (congrArg (M1 3) (by omega)).trans (hlo1 3 (i + 4) (by decide))) ?_
  refine xr_i2l hc rfl (hs 4 (by decide)) ?_
  refine xr_go hc rfl rfl ?_
  refine xr_go hc rfl rfl ?_
  refine xr_go hc rfl rfl ?_
  refine xr_vC_4 hc rfl rfl (ew_own_p hn1 rfl) hC2 ?_
  rintro r n2 M2 ⟨rfl, hJ2, hlo2⟩
  show ew_X 239 1626 _ [(0, x), (0, x)] n2 M2 Q
  refine xr_icmp_same hc rfl ?_
  exact K n2 M2 hJ2 hlo2

set_option maxRecDepth 20000 in
theorem law_c39 {c n i L : Nat} {M : ew_Mem} (hJ : s_J c n M) (hn : 59 ≤ n) (hl : ew_len M 3 = L) (hiL : i + 6 ≤ L) (hs : ∀ k : Nat, k < 6 → ew_in (M 3 (i + k))) {Q : Option ew_AV → Nat → ew_Mem → Prop} (K : ∀ (n2 : Nat) (M2 : ew_Mem), s_J (c + 1) n2 M2 → s_lo M M2 → ew_X 239 1780 [(2, 3), (2, 4), (2, 38), (0, (i : Int))] [] n2 M2 Q) : ew_X 239 1631 [(2, 3), (2, 4), (2, 38), (0, (i : Int))] [] n M Q := by
  have hc := ew_c_239
  refine xr_go hc rfl rfl ?_
  refine xr_go hc rfl rfl ?_
  refine xr_go hc rfl rfl ?_
  refine xr_go hc rfl rfl ?_
  refine xr_go hc rfl rfl ?_
  refine xr_iald (A := 3) (N := L) rfl hl hc rfl (ew_ok_p hn rfl) (by omega) (by omega) (show _ = M 3 (i + 1) from congrArg (M 3) (by omega)) ?_
  refine xr_go hc rfl rfl ?_
  refine xr_go hc rfl rfl ?_
  refine xr_go hc rfl rfl ?_
  refine xr_go hc rfl rfl ?_
  refine xr_iald (A := 3) (N := L) rfl hl hc rfl (ew_ok_p hn rfl) (by omega) (by omega) (show _ = M 3 (i + 2) from congrArg (M 3) (by omega)) ?_
  refine xr_vC_3 hc rfl rfl (ew_own_p hn rfl) (ew_Cn (J_get hJ (hs 1 (by decide)) (hs 2 (by decide)))) ?_
  rintro r n1 M1 ⟨hle, hlo1, x, rfl, hC2⟩
  have hn1 : 59 ≤ n1 := Nat.le_trans hn hle
  have hl1 : ew_len M1 3 = L := by
    show (M1 0 0).toNat = L
    rw [hlo1 0 0 (by decide)]
    exact hl
  show ew_X 239 1645 _ [(1, x)] n1 M1 Q
  refine xr_go hc rfl rfl ?_
  refine xr_go hc rfl rfl ?_
  refine xr_go hc rfl rfl ?_
  refine xr_go hc rfl rfl ?_
  refine xr_go hc rfl rfl ?_
  refine xr_iald (A := 3) (N := L) rfl hl1 hc rfl (ew_ok_p hn1 rfl) (by omega) (by omega) (show _ = M 3 (i + 1) from (congrArg (M1 3) (by omega)).trans (hlo1 3 (i + 1) (by decide))) ?_
  refine xr_go hc rfl rfl ?_
  refine xr_go hc rfl rfl ?_
  refine xr_go hc rfl rfl ?_
  refine xr_go hc rfl rfl ?_
  refine xr_iald (A := 3) (N := L) rfl hl1 hc rfl (ew_ok_p hn1 rfl) (by omega) (by omega) (show _ = M 3 (i + 2) from (congrArg (M1 3) (by omega)).trans (hlo1 3 (i + 2) (by decide))) ?_
  refine xr_vC_3 hc rfl rfl (ew_own_p hn1 rfl) hC2 ?_
  rintro r n2 M2 ⟨rfl, hJ2, hlo2⟩
  show ew_X 239 1659 _ [(1, x), (1, x)] n2 M2 Q
  refine xr_lcmp_same hc rfl rfl ?_
  exact K n2 M2 hJ2 hlo2

set_option maxRecDepth 20000 in
theorem law_c40 {c n i L : Nat} {M : ew_Mem} (hJ : s_J c n M) (hn : 59 ≤ n) (hl : ew_len M 3 = L) (hiL : i + 6 ≤ L) (hs : ∀ k : Nat, k < 6 → ew_in (M 3 (i + k))) {Q : Option ew_AV → Nat → ew_Mem → Prop} (K : ∀ (n2 : Nat) (M2 : ew_Mem), s_J (c + 1) n2 M2 → s_lo M M2 → ew_X 239 1780 [(2, 3), (2, 4), (2, 38), (0, (i : Int))] [] n2 M2 Q) : ew_X 239 1665 [(2, 3), (2, 4), (2, 38), (0, (i : Int))] [] n M Q := by
  have hc := ew_c_239
  refine xr_go hc rfl rfl ?_
  refine xr_go hc rfl rfl ?_
  refine xr_go hc rfl rfl ?_
  refine xr_go hc rfl rfl ?_
  refine xr_go hc rfl rfl ?_
  refine xr_iald (A := 3) (N := L) rfl hl hc rfl (ew_ok_p hn rfl) (by omega) (by omega) (show _ = M 3 (i + 1) from congrArg (M 3) (by omega)) ?_
  refine xr_go hc rfl rfl ?_
  refine xr_go hc rfl rfl ?_
  refine xr_go hc rfl rfl ?_
  refine xr_go hc rfl rfl ?_
  refine xr_iald (A := 3) (N := L) rfl hl hc rfl (ew_ok_p hn rfl) (by omega) (by omega) (show _ = M 3 (i + 2) from congrArg (M 3) (by omega)) ?_
  refine xr_vC_3 hc rfl rfl (ew_own_p hn rfl) (ew_Cn (J_fill hJ (hs 1 (by decide)) (hs 2 (by decide)))) ?_
  rintro r n1 M1 ⟨hle, hlo1, x, rfl, hC2⟩
  have hn1 : 59 ≤ n1 := Nat.le_trans hn hle
  have hl1 : ew_len M1 3 = L := by
    show (M1 0 0).toNat = L
    rw [hlo1 0 0 (by decide)]
    exact hl
  show ew_X 239 1679 _ [(0, x)] n1 M1 Q
  refine xr_go hc rfl rfl ?_
  refine xr_go hc rfl rfl ?_
  refine xr_go hc rfl rfl ?_
  refine xr_go hc rfl rfl ?_
  refine xr_go hc rfl rfl ?_
  refine xr_iald (A := 3) (N := L) rfl hl1 hc rfl (ew_ok_p hn1 rfl) (by omega) (by omega) (show _ = M 3 (i + 1) from (congrArg (M1 3) (by omega)).trans (hlo1 3 (i + 1) (by decide))) ?_
  refine xr_go hc rfl rfl ?_
  refine xr_go hc rfl rfl ?_
  refine xr_go hc rfl rfl ?_
  refine xr_go hc rfl rfl ?_
  refine xr_iald (A := 3) (N := L) rfl hl1 hc rfl (ew_ok_p hn1 rfl) (by omega) (by omega) (show _ = M 3 (i + 2) from (congrArg (M1 3) (by omega)).trans (hlo1 3 (i + 2) (by decide))) ?_
  refine xr_vC_3 hc rfl rfl (ew_own_p hn1 rfl) hC2 ?_
  rintro r n2 M2 ⟨rfl, hJ2, hlo2⟩
  show ew_X 239 1693 _ [(0, x), (0, x)] n2 M2 Q
  refine xr_icmp_same hc rfl ?_
  exact K n2 M2 hJ2 hlo2

set_option maxRecDepth 20000 in
theorem law_c41 {c n i L : Nat} {M : ew_Mem} (hJ : s_J c n M) (hn : 59 ≤ n) (hl : ew_len M 3 = L) (hiL : i + 6 ≤ L) (hs : ∀ k : Nat, k < 6 → ew_in (M 3 (i + k))) {Q : Option ew_AV → Nat → ew_Mem → Prop} (K : ∀ (n2 : Nat) (M2 : ew_Mem), s_J (c + 1) n2 M2 → s_lo M M2 → ew_X 239 1780 [(2, 3), (2, 4), (2, 38), (0, (i : Int))] [] n2 M2 Q) : ew_X 239 1698 [(2, 3), (2, 4), (2, 38), (0, (i : Int))] [] n M Q := by
  have hc := ew_c_239
  refine xr_go hc rfl rfl ?_
  refine xr_go hc rfl rfl ?_
  refine xr_go hc rfl rfl ?_
  refine xr_go hc rfl rfl ?_
  refine xr_go hc rfl rfl ?_
  refine xr_iald (A := 3) (N := L) rfl hl hc rfl (ew_ok_p hn rfl) (by omega) (by omega) (show _ = M 3 (i + 1) from congrArg (M 3) (by omega)) ?_
  refine xr_go hc rfl rfl ?_
  refine xr_go hc rfl rfl ?_
  refine xr_go hc rfl rfl ?_
  refine xr_go hc rfl rfl ?_
  refine xr_iald (A := 3) (N := L) rfl hl hc rfl (ew_ok_p hn rfl) (by omega) (by omega) (show _ = M 3 (i + 2) from congrArg (M 3) (by omega)) ?_
  refine xr_vC_3 hc rfl rfl (ew_own_p hn rfl) (ew_Cn (J_judge hJ (hs 1 (by decide)) (hs 2 (by decide)))) ?_
  rintro r n1 M1 ⟨hle, hlo1, x, rfl, hC2⟩
  have hn1 : 59 ≤ n1 := Nat.le_trans hn hle
  have hl1 : ew_len M1 3 = L := by
    show (M1 0 0).toNat = L
    rw [hlo1 0 0 (by decide)]
    exact hl
  show ew_X 239 1712 _ [(0, x)] n1 M1 Q
  refine xr_go hc rfl rfl ?_
  refine xr_go hc rfl rfl ?_
  refine xr_go hc rfl rfl ?_
  refine xr_go hc rfl rfl ?_
  refine xr_go hc rfl rfl ?_
  refine xr_iald (A := 3) (N := L) rfl hl1 hc rfl (ew_ok_p hn1 rfl) (by omega) (by omega) (show _ = M 3 (i + 1) from (congrArg (M1 3) (by omega)).trans (hlo1 3 (i + 1) (by decide))) ?_
  refine xr_go hc rfl rfl ?_
  refine xr_go hc rfl rfl ?_
  refine xr_go hc rfl rfl ?_
  refine xr_go hc rfl rfl ?_
  refine xr_iald (A := 3) (N := L) rfl hl1 hc rfl (ew_ok_p hn1 rfl) (by omega) (by omega) (show _ = M 3 (i + 2) from (congrArg (M1 3) (by omega)).trans (hlo1 3 (i + 2) (by decide))) ?_
  refine xr_vC_3 hc rfl rfl (ew_own_p hn1 rfl) hC2 ?_
  rintro r n2 M2 ⟨rfl, hJ2, hlo2⟩
  show ew_X 239 1726 _ [(0, x), (0, x)] n2 M2 Q
  refine xr_icmp_same hc rfl ?_
  exact K n2 M2 hJ2 hlo2

set_option maxRecDepth 20000 in
theorem law_c42 {c n i L : Nat} {M : ew_Mem} (hJ : s_J c n M) (hn : 59 ≤ n) (hl : ew_len M 3 = L) (hiL : i + 6 ≤ L) (hs : ∀ k : Nat, k < 6 → ew_in (M 3 (i + k))) {Q : Option ew_AV → Nat → ew_Mem → Prop} (K : ∀ (n2 : Nat) (M2 : ew_Mem), s_J (c + 1) n2 M2 → s_lo M M2 → ew_X 239 1780 [(2, 3), (2, 4), (2, 38), (0, (i : Int))] [] n2 M2 Q) : ew_X 239 1731 [(2, 3), (2, 4), (2, 38), (0, (i : Int))] [] n M Q := by
  have hc := ew_c_239
  refine xr_go hc rfl rfl ?_
  refine xr_go hc rfl rfl ?_
  refine xr_go hc rfl rfl ?_
  refine xr_go hc rfl rfl ?_
  refine xr_go hc rfl rfl ?_
  refine xr_iald (A := 3) (N := L) rfl hl hc rfl (ew_ok_p hn rfl) (by omega) (by omega) (show _ = M 3 (i + 1) from congrArg (M 3) (by omega)) ?_
  refine xr_vC_2 hc rfl rfl (ew_own_p hn rfl) (ew_Cn (J_count hJ (hs 1 (by decide)))) ?_
  rintro r n1 M1 ⟨hle, hlo1, x, rfl, hC2⟩
  have hn1 : 59 ≤ n1 := Nat.le_trans hn hle
  have hl1 : ew_len M1 3 = L := by
    show (M1 0 0).toNat = L
    rw [hlo1 0 0 (by decide)]
    exact hl
  show ew_X 239 1740 _ [(0, x)] n1 M1 Q
  refine xr_go hc rfl rfl ?_
  refine xr_go hc rfl rfl ?_
  refine xr_go hc rfl rfl ?_
  refine xr_go hc rfl rfl ?_
  refine xr_go hc rfl rfl ?_
  refine xr_iald (A := 3) (N := L) rfl hl1 hc rfl (ew_ok_p hn1 rfl) (by omega) (by omega) (show _ = M 3 (i + 1) from (congrArg (M1 3) (by omega)).trans (hlo1 3 (i + 1) (by decide))) ?_
  refine xr_vC_2 hc rfl rfl (ew_own_p hn1 rfl) hC2 ?_
  rintro r n2 M2 ⟨rfl, hJ2, hlo2⟩
  show ew_X 239 1749 _ [(0, x), (0, x)] n2 M2 Q
  refine xr_icmp_same hc rfl ?_
  exact K n2 M2 hJ2 hlo2

set_option maxRecDepth 20000 in
theorem law_c43 {c n i L : Nat} {M : ew_Mem} (hJ : s_J c n M) (hn : 59 ≤ n) (hl : ew_len M 3 = L) (hiL : i + 6 ≤ L) (hs : ∀ k : Nat, k < 6 → ew_in (M 3 (i + k))) {Q : Option ew_AV → Nat → ew_Mem → Prop} (K : ∀ (n2 : Nat) (M2 : ew_Mem), s_J (c + 1) n2 M2 → s_lo M M2 → ew_X 239 1780 [(2, 3), (2, 4), (2, 38), (0, (i : Int))] [] n2 M2 Q) : ew_X 239 1754 [(2, 3), (2, 4), (2, 38), (0, (i : Int))] [] n M Q := by
  have hc := ew_c_239
  refine xr_go hc rfl rfl ?_
  refine xr_vC_1 hc rfl rfl (ew_own_p hn rfl) (ew_Cn (J_image hJ )) ?_
  rintro r n1 M1 ⟨hle, hlo1, x, rfl, hC2⟩
  have hn1 : 59 ≤ n1 := Nat.le_trans hn hle
  have hl1 : ew_len M1 3 = L := by
    show (M1 0 0).toNat = L
    rw [hlo1 0 0 (by decide)]
    exact hl
  show ew_X 239 1758 _ [(0, x)] n1 M1 Q
  refine xr_go hc rfl rfl ?_
  refine xr_vC_1 hc rfl rfl (ew_own_p hn1 rfl) hC2 ?_
  rintro r n2 M2 ⟨rfl, hJ2, hlo2⟩
  show ew_X 239 1762 _ [(0, x), (0, x)] n2 M2 Q
  refine xr_icmp_same hc rfl ?_
  exact K n2 M2 hJ2 hlo2

set_option maxRecDepth 20000 in
theorem law_c44 {c n i L : Nat} {M : ew_Mem} (hJ : s_J c n M) (hn : 59 ≤ n) (hl : ew_len M 3 = L) (hiL : i + 6 ≤ L) (hs : ∀ k : Nat, k < 6 → ew_in (M 3 (i + k))) {Q : Option ew_AV → Nat → ew_Mem → Prop} (K : ∀ (n2 : Nat) (M2 : ew_Mem), s_J (c + 1) n2 M2 → s_lo M M2 → ew_X 239 1780 [(2, 3), (2, 4), (2, 38), (0, (i : Int))] [] n2 M2 Q) : ew_X 239 1767 [(2, 3), (2, 4), (2, 38), (0, (i : Int))] [] n M Q := by
  have hc := ew_c_239
  refine xr_go hc rfl rfl ?_
  refine xr_vC_1 hc rfl rfl (ew_own_p hn rfl) (ew_Cn (J_undo hJ )) ?_
  rintro r n1 M1 ⟨hle, hlo1, x, rfl, hC2⟩
  have hn1 : 59 ≤ n1 := Nat.le_trans hn hle
  have hl1 : ew_len M1 3 = L := by
    show (M1 0 0).toNat = L
    rw [hlo1 0 0 (by decide)]
    exact hl
  show ew_X 239 1771 _ [(0, x)] n1 M1 Q
  refine xr_go hc rfl rfl ?_
  refine xr_vC_1 hc rfl rfl (ew_own_p hn1 rfl) hC2 ?_
  rintro r n2 M2 ⟨rfl, hJ2, hlo2⟩
  show ew_X 239 1775 _ [(0, x), (0, x)] n2 M2 Q
  refine xr_icmp_same hc rfl ?_
  exact K n2 M2 hJ2 hlo2

set_option maxRecDepth 20000 in
theorem law_lp {L : Nat} {Mi : ew_Mem} (hLen : (Mi 0 0).toNat = L) (hsc : ∀ k : Nat, k < L → ew_in (Mi 3 k)) (hL : L ≤ 3072) : ∀ (j c n : Nat) (M : ew_Mem), L < 6 * (c + j) + 6 → 6 * c ≤ L → s_J c n M → s_lo Mi M → ew_X 239 18 [(2, 3), (2, 4), (2, 38), (0, ((6 * c : Nat) : Int))] [] n M (fun r a b => r = some (0, 1) ∧ 59 ≤ a ∧ a ≤ 6203) := by
  intro j
  induction j with
  | zero =>
    intro c n M hj hcL hJ hlo
    have hK := hJ.1
    have hl : ew_len M 3 = L := by
      show (M 0 0).toNat = L
      rw [hlo 0 0 (by decide)]
      exact hLen
    have hc := ew_c_239
    refine xr_go hc rfl rfl ?_
    refine xr_go hc rfl rfl ?_
    refine xr_alen (A := 3) (N := L) (t := 20) rfl hl hc rfl (ew_ok_p hK.1 rfl) (by decide) ?_
    refine xr_go hc rfl rfl ?_
    refine xr_go hc rfl rfl ?_
    refine xr_icmp_gt hc rfl (by omega) (by omega) (fun c1 => ?_) (fun c1 => ?_)
    · refine xr_go hc rfl rfl ?_
      refine xr_ret hc rfl rfl ?_
      exact ⟨rfl, hK.1, by have := hK.2.1; omega⟩
    · exfalso
      omega
  | succ j ih =>
    intro c n M hj hcL hJ hlo
    have hK := hJ.1
    have hl : ew_len M 3 = L := by
      show (M 0 0).toNat = L
      rw [hlo 0 0 (by decide)]
      exact hLen
    have hc := ew_c_239
    refine xr_go hc rfl rfl ?_
    refine xr_go hc rfl rfl ?_
    refine xr_alen (A := 3) (N := L) (t := 20) rfl hl hc rfl (ew_ok_p hK.1 rfl) (by decide) ?_
    refine xr_go hc rfl rfl ?_
    refine xr_go hc rfl rfl ?_
    refine xr_icmp_gt hc rfl (by omega) (by omega) (fun c1 => ?_) (fun c1 => ?_)
    · refine xr_go hc rfl rfl ?_
      refine xr_ret hc rfl rfl ?_
      exact ⟨rfl, hK.1, by have := hK.2.1; omega⟩
    · have hiL : 6 * c + 6 ≤ L := by omega
      have hs : ∀ k : Nat, k < 6 → ew_in (M 3 (6 * c + k)) := fun k hk => by
        rw [hlo 3 _ (by decide)]
        exact hsc _ (by omega)
      have hk : ∀ (n2 : Nat) (M2 : ew_Mem), s_J (c + 1) n2 M2 → s_lo M M2 → ew_X 239 1780 [(2, 3), (2, 4), (2, 38), (0, ((6 * c : Nat) : Int))] [] n2 M2 (fun r a b => r = some (0, 1) ∧ 59 ≤ a ∧ a ≤ 6203) := by
        intro n2 M2 hJ2 hlo2
        refine xr_inc_3 hc rfl ?_
        refine xr_go hc rfl rfl ?_
        rw [show ((6 * c : Nat) : Int) + 6 = ((6 * (c + 1) : Nat) : Int) by omega]
        exact ih (c + 1) n2 M2 (by omega) (by omega) hJ2 (s_lo_tr hlo hlo2)
      refine xr_go hc rfl rfl ?_
      refine xr_go hc rfl rfl ?_
      refine xr_iald (A := 3) (N := L) rfl hl hc rfl (ew_ok_p hK.1 rfl) (by omega) (by omega) (show _ = M 3 (6 * c) from congrArg (M 3) (by omega)) ?_
      refine xr_go hc rfl rfl ?_
      refine xr_go hc rfl rfl ?_
      have hy := s_and63 (ew_i (M 3 (6 * c)))
      generalize (ew_i (M 3 (6 * c)) &&& ew_i 63).toInt = y at hy ⊢
      refine xr_ts hc rfl (by omega) (fun _ => hk n M (s_J_c hJ) (fun _ _ _ => rfl)) (fun ca cb => ?_)
      obtain rfl | rfl | rfl | rfl | rfl | rfl | rfl | rfl | rfl | rfl | rfl | rfl | rfl | rfl | rfl | rfl | rfl | rfl | rfl | rfl | rfl | rfl | rfl | rfl | rfl | rfl | rfl | rfl | rfl | rfl | rfl | rfl | rfl | rfl | rfl | rfl | rfl | rfl | rfl | rfl | rfl | rfl | rfl | rfl | rfl : y = 0 ∨ y = 1 ∨ y = 2 ∨ y = 3 ∨ y = 4 ∨ y = 5 ∨ y = 6 ∨ y = 7 ∨ y = 8 ∨ y = 9 ∨ y = 10 ∨ y = 11 ∨ y = 12 ∨ y = 13 ∨ y = 14 ∨ y = 15 ∨ y = 16 ∨ y = 17 ∨ y = 18 ∨ y = 19 ∨ y = 20 ∨ y = 21 ∨ y = 22 ∨ y = 23 ∨ y = 24 ∨ y = 25 ∨ y = 26 ∨ y = 27 ∨ y = 28 ∨ y = 29 ∨ y = 30 ∨ y = 31 ∨ y = 32 ∨ y = 33 ∨ y = 34 ∨ y = 35 ∨ y = 36 ∨ y = 37 ∨ y = 38 ∨ y = 39 ∨ y = 40 ∨ y = 41 ∨ y = 42 ∨ y = 43 ∨ y = 44 := by omega
      · exact ⟨195, 228, rfl, rfl, law_c0 hJ hK.1 hl hiL hs hk⟩
      · exact ⟨248, 281, rfl, rfl, law_c1 hJ hK.1 hl hiL hs hk⟩
      · exact ⟨281, 314, rfl, rfl, law_c2 hJ hK.1 hl hiL hs hk⟩
      · exact ⟨324, 357, rfl, rfl, law_c3 hJ hK.1 hl hiL hs hk⟩
      · exact ⟨337, 370, rfl, rfl, law_c4 hJ hK.1 hl hiL hs hk⟩
      · exact ⟨370, 403, rfl, rfl, law_c5 hJ hK.1 hl hiL hs hk⟩
      · exact ⟨404, 437, rfl, rfl, law_c6 hJ hK.1 hl hiL hs hk⟩
      · exact ⟨437, 470, rfl, rfl, law_c7 hJ hK.1 hl hiL hs hk⟩
      · exact ⟨470, 503, rfl, rfl, law_c8 hJ hK.1 hl hiL hs hk⟩
      · exact ⟨503, 536, rfl, rfl, law_c9 hJ hK.1 hl hiL hs hk⟩
      · exact ⟨546, 579, rfl, rfl, law_c10 hJ hK.1 hl hiL hs hk⟩
      · exact ⟨579, 612, rfl, rfl, law_c11 hJ hK.1 hl hiL hs hk⟩
      · exact ⟨622, 655, rfl, rfl, law_c12 hJ hK.1 hl hiL hs hk⟩
      · exact ⟨675, 708, rfl, rfl, law_c13 hJ hK.1 hl hiL hs hk⟩
      · exact ⟨708, 741, rfl, rfl, law_c14 hJ hK.1 hl hiL hs hk⟩
      · exact ⟨741, 774, rfl, rfl, law_c15 hJ hK.1 hl hiL hs hk⟩
      · exact ⟨774, 807, rfl, rfl, law_c16 hJ hK.1 hl hiL hs hk⟩
      · exact ⟨797, 830, rfl, rfl, law_c17 hJ hK.1 hl hiL hs hk⟩
      · exact ⟨830, 863, rfl, rfl, law_c18 hJ hK.1 hl hiL hs hk⟩
      · exact ⟨874, 907, rfl, rfl, law_c19 hJ hK.1 hl hiL hs hk⟩
      · exact ⟨907, 940, rfl, rfl, law_c20 hJ hK.1 hl hiL hs hk⟩
      · exact ⟨941, 974, rfl, rfl, law_c21 hJ hK.1 hl hiL hs hk⟩
      · exact ⟨964, 997, rfl, rfl, law_c22 hJ hK.1 hl hiL hs hk⟩
      · exact ⟨998, 1031, rfl, rfl, law_c23 hJ hK.1 hl hiL hs hk⟩
      · exact ⟨1031, 1064, rfl, rfl, law_c24 hJ hK.1 hl hiL hs hk⟩
      · exact ⟨1094, 1127, rfl, rfl, law_c25 hJ hK.1 hl hiL hs hk⟩
      · exact ⟨1118, 1151, rfl, rfl, law_c26 hJ hK.1 hl hiL hs hk⟩
      · exact ⟨1142, 1175, rfl, rfl, law_c27 hJ hK.1 hl hiL hs hk⟩
      · exact ⟨1195, 1228, rfl, rfl, law_c28 hJ hK.1 hl hiL hs hk⟩
      · exact ⟨1218, 1251, rfl, rfl, law_c29 hJ hK.1 hl hiL hs hk⟩
      · exact ⟨1251, 1284, rfl, rfl, law_c30 hJ hK.1 hl hiL hs hk⟩
      · exact ⟨1294, 1327, rfl, rfl, law_c31 hJ hK.1 hl hiL hs hk⟩
      · exact ⟨1317, 1350, rfl, rfl, law_c32 hJ hK.1 hl hiL hs hk⟩
      · exact ⟨1330, 1363, rfl, rfl, law_c33 hJ hK.1 hl hiL hs hk⟩
      · exact ⟨1373, 1406, rfl, rfl, law_c34 hJ hK.1 hl hiL hs hk⟩
      · exact ⟨1416, 1449, rfl, rfl, law_c35 hJ hK.1 hl hiL hs hk⟩
      · exact ⟨1459, 1492, rfl, rfl, law_c36 hJ hK.1 hl hiL hs hk⟩
      · exact ⟨1492, 1525, rfl, rfl, law_c37 hJ hK.1 hl hiL hs hk⟩
      · exact ⟨1525, 1558, rfl, rfl, law_c38 hJ hK.1 hl hiL hs hk⟩
      · exact ⟨1598, 1631, rfl, rfl, law_c39 hJ hK.1 hl hiL hs hk⟩
      · exact ⟨1632, 1665, rfl, rfl, law_c40 hJ hK.1 hl hiL hs hk⟩
      · exact ⟨1665, 1698, rfl, rfl, law_c41 hJ hK.1 hl hiL hs hk⟩
      · exact ⟨1698, 1731, rfl, rfl, law_c42 hJ hK.1 hl hiL hs hk⟩
      · exact ⟨1721, 1754, rfl, rfl, law_c43 hJ hK.1 hl hiL hs hk⟩
      · exact ⟨1734, 1767, rfl, rfl, law_c44 hJ hK.1 hl hiL hs hk⟩
set_option maxRecDepth 20000 in
theorem law_run {L : Nat} {Mi : ew_Mem} (hLen : (Mi 0 0).toNat = L) (hsc : ∀ k : Nat, k < L → ew_in (Mi 3 k)) (hL : L ≤ 3072) (h1 : ∀ i : Nat, i < 6 → Mi 1 i = [0, 0, 0, 1, 1, 1].getD i 0) (h2 : ∀ i : Nat, i < 6 → Mi 2 i = [99999, 99999, 99999, 100000, 1000, 400].getD i 0) : ew_X 239 0 [(2, 3), (5, 0), (5, 0), (5, 0)] [] 4 Mi (fun r a b => r = some (0, 1) ∧ 59 ≤ a ∧ a ≤ 6203) := by
  have hc := ew_c_239
  refine xr_new hc rfl rfl ?_
  refine xr_go hc rfl rfl ?_
  refine xr_iv_1 (v := (0, 0)) hc rfl rfl rfl i_X_init_4 ?_
  refine xr_s1_1 hc rfl rfl rfl ?_
  refine xr_new hc rfl rfl ?_
  refine xr_go hc rfl rfl ?_
  refine xr_iv_1 (v := (0, 0)) hc rfl rfl rfl i_M_init_38 ?_
  refine xr_s1_2 hc rfl rfl rfl ?_
  refine xr_go hc rfl rfl ?_
  refine xr_s1_3 hc rfl rfl rfl ?_
  exact law_lp hLen hsc hL 512 0 59 (s_M0 Mi) (by omega) (by omega) (s_M0_J h1 h2) s_M0_lo

