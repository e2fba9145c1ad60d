/-! a small machine over numbers: values are (kind, number): 0 int, 1 long, 2 reference (0: null), 3 float, 4 double, 5 none; the heap is a number for each cell's each place -/
def ew_wr (M : ew_Mem) (a i : Nat) (v : Int) : ew_Mem := fun b j => if b = a then (if j = i then v else M b j) else M b j
def ew_clr (M : ew_Mem) (a : Nat) : ew_Mem := fun b j => if b = a then 0 else M b j
/-- next, locals, stack, cells, heap | an answer | a call: method, arguments, next, stack -/
abbrev ew_Res : Type := (Nat × List ew_AV × List ew_AV × Nat × ew_Mem) ⊕ (Option ew_AV ⊕ (Nat × List ew_AV × Nat × List ew_AV))
def ew_lk : List ew_Ent → Nat → Option (Instr × Nat × Nat × Nat × Int)
  | [], _ => none
  | (p, r) :: t, pc => cond (Nat.beq p pc) (some r) (ew_lk t pc)
def ew_len (M : ew_Mem) (a : Nat) : Nat := if a = 3 then (M 0 0).toNat else (ew_tag a).2
def ew_kl (L : List ew_AV) (i : Nat) : List ew_AV := match i with
  | 0 => L
  | j + 1 => match L[j]? with
    | some (1, _) => L.set j (5, 0)
    | some (4, _) => L.set j (5, 0)
    | _ => L
def ew_st1 (L : List ew_AV) (i : Nat) (v : ew_AV) : List ew_AV := (ew_kl L i).set i v
def ew_st2 (L : List ew_AV) (i : Nat) (v : ew_AV) : List ew_AV := ((ew_kl L i).set i v).set (i + 1) (5, 0)
def ew_ld (kd i nx : Nat) (L S : List ew_AV) (n : Nat) (M : ew_Mem) : Option ew_Res := match L[i]? with
  | some (t, v) => if t = kd then some (.inl (nx, L, (t, v) :: S, n, M)) else none
  | none => none
def ew_s1 (kd i nx : Nat) (L S : List ew_AV) (n : Nat) (M : ew_Mem) : Option ew_Res := match S with
  | (t, v) :: S' => if t = kd ∧ i < L.length then some (.inl (nx, ew_st1 L i (t, v), S', n, M)) else none
  | [] => none
def ew_s2 (kd i nx : Nat) (L S : List ew_AV) (n : Nat) (M : ew_Mem) : Option ew_Res := match S with
  | (t, v) :: S' => if t = kd ∧ i + 1 < L.length then some (.inl (nx, ew_st2 L i (t, v), S', n, M)) else none
  | [] => none
def ew_cn (c : Jvm.ClassFile.Cond) (x y : Int32) : Bool := match c with
  | .eq => decide (x = y)
  | .ne => decide (x ≠ y)
  | .lt => decide (x < y)
  | .ge => decide (y ≤ x)
  | .gt => decide (y < x)
  | .le => decide (x ≤ y)
def ew_nf (r : UInt32) : Bool := decide (r &&& 0x7fffffff ≤ 0x7f800000)
def ew_nd (r : UInt64) : Bool := decide (r &&& 0x7fffffffffffffff ≤ 0x7ff0000000000000)
/-- how many words stand on a stack -/
def ew_ws : List ew_AV → Nat
  | [] => 0
  | (1, _) :: S => 2 + ew_ws S
  | (4, _) :: S => 2 + ew_ws S
  | _ :: S => 1 + ew_ws S
/-- the cell o is there, of the tag t; of the program's own making -/
def ew_ok (t : Nat) (o : Int) (n : Nat) : Bool := decide (1 ≤ o.toNat) && (decide (o.toNat < n) && decide ((ew_tag o.toNat).1 = t))
def ew_own (t : Nat) (o : Int) (n : Nat) : Bool := decide (4 ≤ o.toNat) && (decide (o.toNat < n) && decide ((ew_tag o.toNat).1 = t))
def ew_inb (i : Int) (m : Nat) : Bool := decide (0 ≤ i) && decide (i < (m : Int))
def ew_hd (t : Nat) (n : Nat) (As : List ew_AV) : Bool := match As with
  | (2, o) :: _ => ew_own t o n
  | _ => false
def ew_lay : List ew_AV → List ew_AV
  | [] => []
  | (1, v) :: A => (1, v) :: (5, 0) :: ew_lay A
  | (4, v) :: A => (4, v) :: (5, 0) :: ew_lay A
  | v :: A => v :: ew_lay A
def ew_inv (k a b nx : Nat) (z : Int) (L S : List ew_AV) (n : Nat) (M : ew_Mem) : Option ew_Res :=
  if z = 4 then (match S with | (2, o) :: S' => if 0 < o ∧ ew_ws S' ≤ 8 then some (.inl (nx, L, S', n, M)) else none | _ => none)
  else if z = 5 then (match S with | (4, v) :: S' => if ew_ws S' ≤ 8 then some (.inl (nx, L, (1, (ew_d v).toInt64.toInt) :: S', n, M)) else none | _ => none)
  else if z = 6 then (match S with | (3, v) :: S' => if ew_ws S' ≤ 8 then some (.inl (nx, L, (0, (ew_f v).toInt32.toInt) :: S', n, M)) else none | _ => none)
  else if b ≤ S.length ∧ ew_lv a < ew_lv k ∧ ew_ws (S.drop b) ≤ 8 ∧ (z = 0 ∨ z = 7 ∨ ew_hd (ew_rcv a) n (S.take b).reverse = true) ∧ (ew_lay (S.take b).reverse).length ≤ ew_maxL a then some (.inr (.inr (a, (S.take b).reverse, nx, S.drop b))) else none
def ew_ret (v : Option ew_AV) : Option ew_Res := some (.inr (.inl v))
def ew_stI (k pc : Nat) (ins : Instr) (nx a b : Nat) (z : Int) (L S : List ew_AV) (n : Nat) (M : ew_Mem) : Option ew_Res := match ins with
  | .iload i => ew_ld 0 i nx L S n M
  | .iload_n i => ew_ld 0 i.val nx L S n M
  | .lload i => ew_ld 1 i nx L S n M
  | .lload_n i => ew_ld 1 i.val nx L S n M
  | .aload i => ew_ld 2 i nx L S n M
  | .aload_n i => ew_ld 2 i.val nx L S n M
  | .fload i => ew_ld 3 i nx L S n M
  | .fload_n i => ew_ld 3 i.val nx L S n M
  | .dload_n i => ew_ld 4 i.val nx L S n M
  | .istore i => ew_s1 0 i nx L S n M
  | .istore_n i => ew_s1 0 i.val nx L S n M
  | .astore i => ew_s1 2 i nx L S n M
  | .astore_n i => ew_s1 2 i.val nx L S n M
  | .fstore i => ew_s1 3 i nx L S n M
  | .fstore_n i => ew_s1 3 i.val nx L S n M
  | .lstore i => ew_s2 1 i nx L S n M
  | .lstore_n i => ew_s2 1 i.val nx L S n M
  | .dstore_n i => ew_s2 4 i.val nx L S n M
  | .iinc i c => (match L[i]? with | some (0, v) => some (.inl (nx, L.set i (0, v + c), S, n, M)) | _ => none)
  | .iconst _ => some (.inl (nx, L, (0, z) :: S, n, M))
  | .bipush _ => some (.inl (nx, L, (0, z) :: S, n, M))
  | .sipush _ => some (.inl (nx, L, (0, z) :: S, n, M))
  | .lconst _ => some (.inl (nx, L, (1, z) :: S, n, M))
  | .fconst _ => some (.inl (nx, L, (3, z) :: S, n, M))
  | .dconst _ => some (.inl (nx, L, (4, z) :: S, n, M))
  | .ldc _ => some (.inl (nx, L, (a, z) :: S, n, M))
  | .ldc_w _ => some (.inl (nx, L, (0, z) :: S, n, M))
  | .ldc2_w _ => some (.inl (nx, L, (a, z) :: S, n, M))
  | .aconst_null => some (.inl (nx, L, (2, 0) :: S, n, M))
  | .dup => (match S with | (0, x) :: S' => some (.inl (nx, L, (0, x) :: (0, x) :: S', n, M)) | (2, x) :: S' => some (.inl (nx, L, (2, x) :: (2, x) :: S', n, M)) | _ => none)
  | .pop => (match S with | (0, _) :: S' => some (.inl (nx, L, S', n, M)) | (2, _) :: S' => some (.inl (nx, L, S', n, M)) | _ => none)
  | .iadd => (match S with | (0, y) :: (0, x) :: S' => some (.inl (nx, L, (0, x + y) :: S', n, M)) | _ => none)
  | .isub => (match S with | (0, y) :: (0, x) :: S' => some (.inl (nx, L, (0, x - y) :: S', n, M)) | _ => none)
  | .imul => (match S with | (0, y) :: (0, x) :: S' => some (.inl (nx, L, (0, x * y) :: S', n, M)) | _ => none)
  | .ineg => (match S with | (0, x) :: S' => some (.inl (nx, L, (0, -x) :: S', n, M)) | _ => none)
  | .idiv => (match S with | (0, y) :: (0, x) :: S' => if ew_i y = 0 then none else some (.inl (nx, L, (0, (ew_i x / ew_i y).toInt) :: S', n, M)) | _ => none)
  | .irem => (match S with | (0, y) :: (0, x) :: S' => if ew_i y = 0 then none else some (.inl (nx, L, (0, (ew_i x - ew_i x / ew_i y * ew_i y).toInt) :: S', n, M)) | _ => none)
  | .iand => (match S with | (0, y) :: (0, x) :: S' => some (.inl (nx, L, (0, (ew_i x &&& ew_i y).toInt) :: S', n, M)) | _ => none)
  | .ishl => (match S with | (0, y) :: (0, x) :: S' => some (.inl (nx, L, (0, (ew_i x <<< (ew_i y &&& 31)).toInt) :: S', n, M)) | _ => none)
  | .iushr => (match S with | (0, y) :: (0, x) :: S' => some (.inl (nx, L, (0, ((ew_i x).toUInt32 >>> ((ew_i y).toUInt32 &&& Int32.toUInt32 31)).toInt32.toInt) :: S', n, M)) | _ => none)
  | .ladd => (match S with | (1, y) :: (1, x) :: S' => some (.inl (nx, L, (1, x + y) :: S', n, M)) | _ => none)
  | .lsub => (match S with | (1, y) :: (1, x) :: S' => some (.inl (nx, L, (1, x - y) :: S', n, M)) | _ => none)
  | .lmul => (match S with | (1, y) :: (1, x) :: S' => some (.inl (nx, L, (1, x * y) :: S', n, M)) | _ => none)
  | .ldiv => (match S with | (1, y) :: (1, x) :: S' => if ew_l y = 0 then none else some (.inl (nx, L, (1, (ew_l x / ew_l y).toInt) :: S', n, M)) | _ => none)
  | .lrem => (match S with | (1, y) :: (1, x) :: S' => if ew_l y = 0 then none else some (.inl (nx, L, (1, (ew_l x - ew_l x / ew_l y * ew_l y).toInt) :: S', n, M)) | _ => none)
  | .land => (match S with | (1, y) :: (1, x) :: S' => some (.inl (nx, L, (1, (ew_l x &&& ew_l y).toInt) :: S', n, M)) | _ => none)
  | .lor => (match S with | (1, y) :: (1, x) :: S' => some (.inl (nx, L, (1, (ew_l x ||| ew_l y).toInt) :: S', n, M)) | _ => none)
  | .lxor => (match S with | (1, y) :: (1, x) :: S' => some (.inl (nx, L, (1, (ew_l x ^^^ ew_l y).toInt) :: S', n, M)) | _ => none)
  | .lshl => (match S with | (0, y) :: (1, x) :: S' => some (.inl (nx, L, (1, (ew_l x <<< ((ew_i y).toInt64 &&& 63)).toInt) :: S', n, M)) | _ => none)
  | .lshr => (match S with | (0, y) :: (1, x) :: S' => some (.inl (nx, L, (1, (ew_l x >>> ((ew_i y).toInt64 &&& 63)).toInt) :: S', n, M)) | _ => none)
  | .lcmp => (match S with | (1, y) :: (1, x) :: S' => some (.inl (nx, L, (0, (lg_cmp (ew_l x) (ew_l y)).toInt) :: S', n, M)) | _ => none)
  | .i2l => (match S with | (0, x) :: S' => some (.inl (nx, L, (1, (ew_i x).toInt) :: S', n, M)) | _ => none)
  | .l2i => (match S with | (1, x) :: S' => some (.inl (nx, L, (0, x) :: S', n, M)) | _ => none)
  | .i2f => (match S with | (0, x) :: S' => some (.inl (nx, L, (3, ew_uf (FP.i2f (ew_i x))) :: S', n, M)) | _ => none)
  | .i2d => (match S with | (0, x) :: S' => some (.inl (nx, L, (4, ew_ud (FP.i2d (ew_i x))) :: S', n, M)) | _ => none)
  | .f2i => (match S with | (3, x) :: S' => some (.inl (nx, L, (0, (FP.f2i (ew_f x)).toInt) :: S', n, M)) | _ => none)
  | .d2l => (match S with | (4, x) :: S' => some (.inl (nx, L, (1, (FP.d2l (ew_d x)).toInt) :: S', n, M)) | _ => none)
  | .fmul => (match S with | (3, y) :: (3, x) :: S' => if ew_nf (FP.fmul (ew_f x) (ew_f y)) then some (.inl (nx, L, (3, ew_uf (FP.fmul (ew_f x) (ew_f y))) :: S', n, M)) else none | _ => none)
  | .fdiv => (match S with | (3, y) :: (3, x) :: S' => if ew_nf (FP.fdiv (ew_f x) (ew_f y)) then some (.inl (nx, L, (3, ew_uf (FP.fdiv (ew_f x) (ew_f y))) :: S', n, M)) else none | _ => none)
  | .fsub => (match S with | (3, y) :: (3, x) :: S' => if ew_nf (FP.fsub (ew_f x) (ew_f y)) then some (.inl (nx, L, (3, ew_uf (FP.fsub (ew_f x) (ew_f y))) :: S', n, M)) else none | _ => none)
  | .dmul => (match S with | (4, y) :: (4, x) :: S' => if ew_nd (FP.dmul (ew_d x) (ew_d y)) then some (.inl (nx, L, (4, ew_ud (FP.dmul (ew_d x) (ew_d y))) :: S', n, M)) else none | _ => none)
  | .ddiv => (match S with | (4, y) :: (4, x) :: S' => if ew_nd (FP.ddiv (ew_d x) (ew_d y)) then some (.inl (nx, L, (4, ew_ud (FP.ddiv (ew_d x) (ew_d y))) :: S', n, M)) else none | _ => none)
  | .dsub => (match S with | (4, y) :: (4, x) :: S' => if ew_nd (FP.dsub (ew_d x) (ew_d y)) then some (.inl (nx, L, (4, ew_ud (FP.dsub (ew_d x) (ew_d y))) :: S', n, M)) else none | _ => none)
  | .fcmp op => (match S with | (3, y) :: (3, x) :: S' => some (.inl (nx, L, (0, (Op.cmpValue (FP.fcmp (ew_f x) (ew_f y)) op).toInt) :: S', n, M)) | _ => none)
  | .dcmp op => (match S with | (4, y) :: (4, x) :: S' => some (.inl (nx, L, (0, (Op.cmpValue (FP.dcmp (ew_d x) (ew_d y)) op).toInt) :: S', n, M)) | _ => none)
  | .goto _ => some (.inl (a, L, S, n, M))
  | .ifCond c _ => (match S with | (0, x) :: S' => some (.inl (cond (ew_cn c (ew_i x) 0) a nx, L, S', n, M)) | _ => none)
  | .if_icmp c _ => (match S with | (0, y) :: (0, x) :: S' => some (.inl (cond (ew_cn c (ew_i x) (ew_i y)) a nx, L, S', n, M)) | _ => none)
  | .ifnull _ => (match S with | (2, o) :: S' => some (.inl (if o ≤ 0 then a else nx, L, S', n, M)) | _ => none)
  | .ifnonnull _ => (match S with | (2, o) :: S' => some (.inl (if o ≤ 0 then nx else a, L, S', n, M)) | _ => none)
  | .tableswitch _ lo hi offs => (match S with
    | (0, x) :: S' => if (ew_i x).toInt < lo ∨ hi < (ew_i x).toInt then some (.inl (a, L, S', n, M)) else (match offs[((ew_i x).toInt - lo).toNat]? with
      | some o => if 0 ≤ (pc : Int) + o then some (.inl (((pc : Int) + o).toNat, L, S', n, M)) else none
      | none => none)
    | _ => none)
  | .lookupswitch d ps => (match S with
    | (0, x) :: S' => if 0 ≤ (pc : Int) + Op.lookupswitch.offset ps.toList d (ew_i x).toInt then some (.inl (((pc : Int) + Op.lookupswitch.offset ps.toList d (ew_i x).toInt).toNat, L, S', n, M)) else none
    | _ => none)
  | .getfield _ => (match S with | (2, o) :: S' => if ew_own a o n then some (.inl (nx, L, (z.toNat, M o.toNat b) :: S', n, M)) else none | _ => none)
  | .putfield _ => (match S with
    | (t, v) :: (2, o) :: S' => if ew_own a o n = true ∧ ((z = 5 ∧ t = 0 ∧ (v = 0 ∨ v = 1)) ∨ (z = 0 ∧ t = 0) ∨ (z = 2 ∧ t = 2)) then some (.inl (nx, L, S', n, ew_wr M o.toNat b v)) else none
    | _ => none)
  | .getstatic _ => some (.inl (nx, L, (2, z) :: S, n, M))
  | .new _ => if (ew_tag n).1 = a then some (.inl (nx, L, (2, (n : Int)) :: S, n + 1, ew_clr M n)) else none
  | .newarray _ => (match S with | (0, c) :: S' => if (ew_tag n).1 = a ∧ c = ((ew_tag n).2 : Int) then some (.inl (nx, L, (2, (n : Int)) :: S', n + 1, ew_clr M n)) else none | _ => none)
  | .anewarray _ => (match S with | (0, c) :: S' => if (ew_tag n).1 = a ∧ c = ((ew_tag n).2 : Int) then some (.inl (nx, L, (2, (n : Int)) :: S', n + 1, ew_clr M n)) else none | _ => none)
  | .arraylength => (match S with | (2, o) :: S' => if 1 ≤ o.toNat ∧ o.toNat < n ∧ 20 ≤ (ew_tag o.toNat).1 then some (.inl (nx, L, (0, (ew_len M o.toNat : Int)) :: S', n, M)) else none | _ => none)
  | .iaload => (match S with | (0, i) :: (2, o) :: S' => if ew_ok 20 o n = true ∧ ew_inb i (ew_len M o.toNat) = true then some (.inl (nx, L, (0, M o.toNat i.toNat) :: S', n, M)) else none | _ => none)
  | .laload => (match S with | (0, i) :: (2, o) :: S' => if ew_own 21 o n = true ∧ ew_inb i (ew_tag o.toNat).2 = true then some (.inl (nx, L, (1, M o.toNat i.toNat) :: S', n, M)) else none | _ => none)
  | .aaload => (match S with | (0, i) :: (2, o) :: S' => if (4 ≤ o.toNat ∧ o.toNat < n ∧ 22 ≤ (ew_tag o.toNat).1) ∧ ew_inb i (ew_tag o.toNat).2 = true then some (.inl (nx, L, (2, M o.toNat i.toNat) :: S', n, M)) else none | _ => none)
  | .iastore => (match S with | (0, v) :: (0, i) :: (2, o) :: S' => if ew_own 20 o n = true ∧ ew_inb i (ew_tag o.toNat).2 = true then some (.inl (nx, L, S', n, ew_wr M o.toNat i.toNat v)) else none | _ => none)
  | .lastore => (match S with | (1, v) :: (0, i) :: (2, o) :: S' => if ew_own 21 o n = true ∧ ew_inb i (ew_tag o.toNat).2 = true then some (.inl (nx, L, S', n, ew_wr M o.toNat i.toNat v)) else none | _ => none)
  | .aastore => (match S with
    | (2, v) :: (0, i) :: (2, o) :: S' => if ((4 ≤ o.toNat ∧ o.toNat < n) ∧ ew_inb i (ew_tag o.toNat).2 = true) ∧
        (((ew_tag o.toNat).1 = 22 ∧ (v = 0 ∨ ew_own 6 v n = true)) ∨ ((ew_tag o.toNat).1 = 23 ∧ ew_own 5 v n = true) ∨ ((ew_tag o.toNat).1 = 24 ∧ ew_own 0 v n = true)) then some (.inl (nx, L, S', n, ew_wr M o.toNat i.toNat v)) else none
    | _ => none)
  | .invokevirtual _ => ew_inv k a b nx z L S n M
  | .invokespecial _ => ew_inv k a b nx z L S n M
  | .invokestatic _ => ew_inv k a b nx z L S n M
  | .ireturn => (match S with | [(0, v)] => if b = 1 → (v = 0 ∨ v = 1) then ew_ret (some (0, v)) else none | _ => none)
  | .lreturn => (match S with | [(1, v)] => ew_ret (some (1, v)) | _ => none)
  | .freturn => (match S with | [(3, v)] => ew_ret (some (3, v)) | _ => none)
  | .areturn => (match S with | [(2, v)] => ew_ret (some (2, v)) | _ => none)
  | .return_ => (match S with | [] => ew_ret none | _ => none)
  | _ => none
noncomputable def ew_stp (k pc : Nat) (L S : List ew_AV) (n : Nat) (M : ew_Mem) : Option ew_Res := match ew_lk (ew_cod k) pc with
  | none => none
  | some (ins, nx, a, b, z) => ew_stI k pc ins nx a b z L S n M
def ew_pad (A : List ew_AV) (m : Nat) : List ew_AV := A ++ List.replicate (m - A.length) (5, 0)
def ew_ent (k : Nat) (A : List ew_AV) : List ew_AV := ew_pad (ew_lay A) (ew_maxL k)
noncomputable def ew_run : Nat → Nat → Nat → List ew_AV → List ew_AV → Nat → ew_Mem → Option (Option ew_AV × Nat × ew_Mem)
  | 0, _, _, _, _, _, _ => none
  | f + 1, k, pc, L, S, n, M => match ew_stp k pc L S n M with
    | none => none
    | some (.inl (pc', L', S', n', M')) => ew_run f k pc' L' S' n' M'
    | some (.inr (.inl v)) => some (v, n, M)
    | some (.inr (.inr (k', A, pc', S'))) => match ew_run f k' 0 (ew_ent k' A) [] n M with
      | none => none
      | some (v, n', M') => ew_run f k pc' L (v.toList ++ S') n' M'
theorem ew_run_mono : ∀ (f : Nat) {k pc : Nat} {L S : List ew_AV} {n : Nat} {M : ew_Mem} {r : Option ew_AV × Nat × ew_Mem}, ew_run f k pc L S n M = some r → ew_run (f + 1) k pc L S n M = some r
  | 0, _, _, _, _, _, _, _, h => by simp [ew_run] at h
  | f + 1, k, pc, L, S, n, M, r, h => by
    rw [ew_run] at h ⊢
    split at h
    · cases h
    · exact ew_run_mono f h
    · exact h
    · split at h
      · cases h
      · rename_i h1
        rw [ew_run_mono f h1]
        exact ew_run_mono f h
theorem ew_run_le {f g : Nat} (hg : f ≤ g) {k pc : Nat} {L S : List ew_AV} {n : Nat} {M : ew_Mem} {r : Option ew_AV × Nat × ew_Mem} (h : ew_run f k pc L S n M = some r) : ew_run g k pc L S n M = some r := by
  induction hg with
  | refl => exact h
  | step _ ih => exact ew_run_mono _ ih
/-- from here the method answers, and Q holds of answer, cells, heap -/
def ew_X (k pc : Nat) (L S : List ew_AV) (n : Nat) (M : ew_Mem) (Q : Option ew_AV → Nat → ew_Mem → Prop) : Prop := ∃ (f : Nat) (v : Option ew_AV) (n' : Nat) (M' : ew_Mem), ew_run f k pc L S n M = some (v, n', M') ∧ Q v n' M'
/-- a call -/
def ew_C (k : Nat) (A : List ew_AV) (n : Nat) (M : ew_Mem) (Q : Option ew_AV → Nat → ew_Mem → Prop) : Prop := ew_X k 0 (ew_ent k A) [] n M Q
/-- a call that changes nothing and answers v -/
def ew_F (k : Nat) (A : List ew_AV) (n : Nat) (M : ew_Mem) (v : ew_AV) : Prop := ew_C k A n M (fun r n' M' => r = some v ∧ n' = n ∧ M' = M)
theorem ew_X.mono {k pc : Nat} {L S : List ew_AV} {n : Nat} {M : ew_Mem} {Q Q' : Option ew_AV → Nat → ew_Mem → Prop} (h : ew_X k pc L S n M Q) (hq : ∀ v n' M', Q v n' M' → Q' v n' M') : ew_X k pc L S n M Q' := by
  obtain ⟨f, v, n', M', h1, h2⟩ := h
  exact ⟨f, v, n', M', h1, hq _ _ _ h2⟩
theorem ew_X.step {k pc : Nat} {L S : List ew_AV} {n : Nat} {M : ew_Mem} {Q : Option ew_AV → Nat → ew_Mem → Prop} {pc' : Nat} {L' S' : List ew_AV} {n' : Nat} {M' : ew_Mem} (h : ew_stp k pc L S n M = some (.inl (pc', L', S', n', M'))) (kk : ew_X k pc' L' S' n' M' Q) : ew_X k pc L S n M Q := by
  obtain ⟨f, v, n2, M2, h1, h2⟩ := kk
  exact ⟨f + 1, v, n2, M2, by rw [ew_run, h]; exact h1, h2⟩
theorem ew_X.retv {k pc : Nat} {L S : List ew_AV} {n : Nat} {M : ew_Mem} {Q : Option ew_AV → Nat → ew_Mem → Prop} {v : Option ew_AV} (h : ew_stp k pc L S n M = some (.inr (.inl v))) (kk : Q v n M) : ew_X k pc L S n M Q :=
  ⟨1, v, n, M, by rw [ew_run, h], kk⟩
theorem ew_X.callv {k pc : Nat} {L S : List ew_AV} {n : Nat} {M : ew_Mem} {Q Q1 : Option ew_AV → Nat → ew_Mem → Prop} {k' pc' : Nat} {A S' : List ew_AV} (h : ew_stp k pc L S n M = some (.inr (.inr (k', A, pc', S')))) (hc : ew_C k' A n M Q1) (kk : ∀ v n' M', Q1 v n' M' → ew_X k pc' L (v.toList ++ S') n' M' Q) : ew_X k pc L S n M Q := by
  obtain ⟨f, v, n1, M1, h1, h2⟩ := hc
  obtain ⟨g, w, n2, M2, h3, h4⟩ := kk v n1 M1 h2
  refine ⟨max f g + 1, w, n2, M2, ?_, h4⟩
  rw [ew_run, h]
  dsimp only
  rw [ew_run_le (Nat.le_max_left f g) h1]
  exact ew_run_le (Nat.le_max_right f g) h3
