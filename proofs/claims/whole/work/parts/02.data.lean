/-! the class, the reference and the law as data: cells in the order of their making, methods by numbers, instructions with what they link to (written by a program: wip/gen) -/
abbrev ew_AV : Type := Nat × Int
abbrev ew_Mem : Type := Nat → Nat → Int
abbrev ew_Ent : Type := Nat × Instr × Nat × Nat × Nat × Int
abbrev ew_i (x : Int) : Int32 := Int32.ofInt x
abbrev ew_l (x : Int) : Int64 := Int64.ofInt x
abbrev ew_f (x : Int) : UInt32 := UInt32.ofNat x.toNat
abbrev ew_d (x : Int) : UInt64 := UInt64.ofNat x.toNat
abbrev ew_uf (x : UInt32) : Int := (x.toNat : Int)
abbrev ew_ud (x : UInt64) : Int := (x.toNat : Int)
def ew_tags : List (Nat × Nat) := [(99, 0), (20, 6), (20, 6), (20, 0), (7, 12), (2, 5), (22, 6), (20, 6), (2, 5), (22, 6), (20, 6), (23, 4), (5, 3), (22, 12), (5, 3), (22, 12), (5, 3), (22, 12), (5, 3), (22, 12), (24, 3), (0, 2), (21, 40), (0, 2), (21, 40), (0, 2), (21, 40), (4, 8), (20, 80), (20, 27), (20, 27), (20, 81), (20, 61), (20, 2000), (3, 2), (20, 120), (20, 200), (20, 200), (8, 33), (20, 64), (20, 64), (20, 64), (20, 64), (20, 64), (20, 6), (20, 6), (20, 40), (20, 200), (20, 200), (20, 64), (20, 4), (20, 140), (20, 60), (20, 80), (20, 4), (20, 4), (20, 48), (20, 3), (21, 120)]
def ew_tag (a : Nat) : Nat × Nat := ew_tags.getD a (6, 5)
def ew_maxLs : List Nat := [6, 6, 4, 2, 2, 1, 2, 2, 1, 1, 1, 3, 1, 2, 4, 2, 4, 4, 7, 4, 11, 6, 1, 2, 5, 2, 1, 4, 1, 2, 3, 2, 3, 4, 1, 4, 4, 1, 6, 2, 3, 3, 6, 18, 8, 5, 2, 1, 1, 2, 3, 5, 1, 1, 4, 2, 5, 2, 3, 4, 4, 4, 2, 1, 6, 2, 4, 7, 2, 2, 4, 1, 2, 2, 3, 4, 4, 4, 7, 5, 2, 2, 9, 5, 4, 2, 14, 4, 1, 5, 4, 6, 1, 3, 1, 3, 3, 4, 3, 7, 3, 6, 6, 1, 11, 7, 2, 3, 3, 7, 4, 5, 4, 5, 4, 5, 4, 4, 4, 11, 3, 8, 8, 2, 6, 3, 1, 3, 10, 2, 5, 2, 3, 4, 5, 2, 6, 6, 5, 4, 2, 6, 4, 6, 6, 2, 1, 1, 1, 5, 6, 3, 4, 7, 4, 4, 2, 5, 5, 9, 4, 6, 1, 3, 1, 3, 3, 3, 4, 2, 3, 3, 2, 3, 1, 4, 2, 7, 3, 5, 6, 1, 6, 13, 3, 5, 3, 8, 3, 2, 6, 3, 11, 13, 11, 2, 4, 3, 3, 2, 9, 2, 2, 7, 10, 8, 6, 2, 5, 2, 4, 3, 8, 7, 5, 2, 2, 9, 2, 1, 1, 3, 2, 1, 5, 1, 4, 2, 5, 4, 4, 1, 5, 3, 5, 5, 2, 2, 2, 4]
def ew_maxL (k : Nat) : Nat := ew_maxLs.getD k 0
def ew_lvs : List Nat := [1, 1, 1, 1, 1, 1, 2, 1, 2, 1, 1, 1, 1, 1, 2, 2, 2, 2, 1, 1, 1, 3, 1, 1, 2, 1, 1, 1, 1, 1, 2, 2, 1, 2, 1, 3, 2, 1, 1, 1, 1, 3, 1, 2, 4, 3, 1, 2, 1, 1, 5, 4, 1, 1, 2, 1, 1, 3, 2, 4, 3, 1, 1, 1, 4, 1, 4, 3, 1, 2, 4, 1, 2, 2, 2, 6, 5, 5, 7, 5, 3, 4, 3, 3, 3, 7, 5, 3, 2, 5, 2, 5, 2, 5, 1, 5, 3, 3, 7, 7, 2, 7, 8, 1, 8, 7, 1, 6, 7, 6, 7, 2, 2, 3, 5, 5, 4, 5, 8, 8, 4, 4, 6, 8, 7, 7, 1, 8, 8, 1, 2, 2, 6, 5, 2, 1, 3, 3, 2, 2, 1, 3, 3, 8, 8, 3, 4, 4, 1, 3, 1, 2, 1, 2, 1, 3, 2, 5, 4, 3, 2, 1, 1, 5, 2, 5, 4, 3, 3, 2, 8, 7, 6, 5, 1, 2, 6, 8, 3, 8, 9, 2, 8, 8, 6, 5, 7, 6, 7, 3, 1, 3, 3, 3, 3, 2, 2, 5, 9, 8, 9, 3, 1, 2, 1, 3, 5, 9, 8, 1, 2, 9, 9, 8, 1, 2, 6, 5, 3, 1, 1, 2, 2, 4, 3, 2, 3, 1, 3, 3, 3, 2, 3, 3, 8, 8, 2, 1, 3, 10]
def ew_lv (k : Nat) : Nat := ew_lvs.getD k 0
def ew_rcvs : List Nat := [99, 99, 99, 99, 99, 99, 99, 99, 99, 99, 0, 0, 0, 0, 0, 0, 1, 1, 1, 1, 1, 1, 3, 3, 3, 3, 5, 5, 5, 5, 5, 5, 5, 6, 6, 6, 6, 6, 6, 6, 6, 6, 6, 6, 6, 6, 6, 6, 4, 4, 4, 4, 4, 4, 4, 4, 4, 4, 4, 4, 4, 4, 4, 2, 2, 2, 2, 2, 2, 2, 2, 2, 2, 2, 2, 2, 2, 2, 2, 2, 2, 2, 2, 2, 2, 2, 2, 2, 7, 7, 7, 7, 7, 7, 7, 7, 7, 7, 7, 7, 7, 7, 7, 7, 7, 7, 7, 7, 7, 7, 7, 7, 7, 7, 7, 7, 7, 7, 7, 7, 7, 7, 7, 7, 7, 7, 7, 7, 7, 7, 7, 7, 7, 7, 7, 7, 7, 7, 7, 7, 7, 7, 7, 7, 7, 7, 7, 7, 8, 8, 8, 8, 8, 8, 8, 8, 8, 8, 8, 8, 8, 8, 8, 8, 8, 8, 8, 8, 8, 8, 8, 8, 8, 8, 8, 8, 8, 8, 8, 8, 8, 8, 8, 8, 8, 8, 8, 8, 8, 8, 8, 8, 8, 8, 8, 8, 8, 8, 8, 8, 8, 8, 8, 8, 8, 8, 8, 8, 8, 8, 8, 8, 8, 8, 8, 8, 8, 8, 8, 8, 8, 8, 8, 8, 8, 8, 8, 8, 8, 8, 8, 8, 8, 8, 8, 8, 8, 8, 8, 99]
def ew_rcv (k : Nat) : Nat := ew_rcvs.getD k 98
set_option maxRecDepth 100000 in
/-- Math.floorDiv(JJ)J -/
noncomputable def ew_cd_0 : List ew_Ent := [(0, (.lload_n 0), 1, 0, 0, 0), (1, (.lload_n 2), 2, 0, 0, 0), (2, .ldiv, 3, 0, 0, 0), (3, (.lstore 4), 5, 0, 0, 0), (5, (.lload_n 0), 6, 0, 0, 0), (6, (.lload_n 2), 7, 0, 0, 0),
  (7, .lxor, 8, 0, 0, 0), (8, (.lconst 0), 9, 1, 0, 0), (9, .lcmp, 10, 0, 0, 0), (10, (.ifCond .ge 17), 13, 27, 0, 0), (13, (.lload 4), 15, 0, 0, 0), (15, (.lload_n 2), 16, 0, 0, 0),
  (16, .lmul, 17, 0, 0, 0), (17, (.lload_n 0), 18, 0, 0, 0), (18, .lcmp, 19, 0, 0, 0), (19, (.ifCond .eq 8), 22, 27, 0, 0), (22, (.lload 4), 24, 0, 0, 0), (24, (.lconst 1), 25, 1, 0, 1),
  (25, .lsub, 26, 0, 0, 0), (26, .lreturn, 27, 0, 0, 0), (27, (.lload 4), 29, 0, 0, 0), (29, .lreturn, 30, 0, 0, 0)]
set_option maxRecDepth 100000 in
/-- Math.floorMod(JJ)J -/
noncomputable def ew_cd_1 : List ew_Ent := [(0, (.lload_n 0), 1, 0, 0, 0), (1, (.lload_n 2), 2, 0, 0, 0), (2, .lrem, 3, 0, 0, 0), (3, (.lstore 4), 5, 0, 0, 0), (5, (.lload_n 0), 6, 0, 0, 0), (6, (.lload_n 2), 7, 0, 0, 0),
  (7, .lxor, 8, 0, 0, 0), (8, (.lconst 0), 9, 1, 0, 0), (9, .lcmp, 10, 0, 0, 0), (10, (.ifCond .ge 15), 13, 25, 0, 0), (13, (.lload 4), 15, 0, 0, 0), (15, (.lconst 0), 16, 1, 0, 0),
  (16, .lcmp, 17, 0, 0, 0), (17, (.ifCond .eq 8), 20, 25, 0, 0), (20, (.lload 4), 22, 0, 0, 0), (22, (.lload_n 2), 23, 0, 0, 0), (23, .ladd, 24, 0, 0, 0), (24, .lreturn, 25, 0, 0, 0),
  (25, (.lload 4), 27, 0, 0, 0), (27, .lreturn, 28, 0, 0, 0)]
set_option maxRecDepth 100000 in
/-- Math.min(JJ)J -/
noncomputable def ew_cd_2 : List ew_Ent := [(0, (.lload_n 0), 1, 0, 0, 0), (1, (.lload_n 2), 2, 0, 0, 0), (2, .lcmp, 3, 0, 0, 0), (3, (.ifCond .gt 7), 6, 10, 0, 0), (6, (.lload_n 0), 7, 0, 0, 0), (7, (.goto 4), 10, 11, 0, 0),
  (10, (.lload_n 2), 11, 0, 0, 0), (11, .lreturn, 12, 0, 0, 0)]
set_option maxRecDepth 100000 in
/-- Math.min(II)I -/
noncomputable def ew_cd_3 : List ew_Ent := [(0, (.iload_n 0), 1, 0, 0, 0), (1, (.iload_n 1), 2, 0, 0, 0), (2, (.if_icmp .gt 7), 5, 9, 0, 0), (5, (.iload_n 0), 6, 0, 0, 0), (6, (.goto 4), 9, 10, 0, 0), (9, (.iload_n 1), 10, 0, 0, 0),
  (10, .ireturn, 11, 0, 0, 0)]
set_option maxRecDepth 100000 in
/-- Math.max(II)I -/
noncomputable def ew_cd_4 : List ew_Ent := [(0, (.iload_n 0), 1, 0, 0, 0), (1, (.iload_n 1), 2, 0, 0, 0), (2, (.if_icmp .lt 7), 5, 9, 0, 0), (5, (.iload_n 0), 6, 0, 0, 0), (6, (.goto 4), 9, 10, 0, 0), (9, (.iload_n 1), 10, 0, 0, 0),
  (10, .ireturn, 11, 0, 0, 0)]
set_option maxRecDepth 100000 in
/-- Math.abs(I)I -/
noncomputable def ew_cd_5 : List ew_Ent := [(0, (.iload_n 0), 1, 0, 0, 0), (1, (.ifCond .ge 8), 4, 9, 0, 0), (4, (.iload_n 0), 5, 0, 0, 0), (5, .ineg, 6, 0, 0, 0), (6, (.goto 4), 9, 10, 0, 0), (9, (.iload_n 0), 10, 0, 0, 0),
  (10, .ireturn, 11, 0, 0, 0)]
set_option maxRecDepth 100000 in
/-- Dbl.doubleToLongBits(D)J -/
noncomputable def ew_cd_6 : List ew_Ent := [(0, (.dload_n 0), 1, 0, 0, 0), (1, (.invokestatic 122), 4, 7, 1, 0), (4, (.ifCond .ne 8), 7, 12, 0, 0), (7, (.dload_n 0), 8, 0, 0, 0), (8, (.invokestatic 134), 11, 0, 1, 5), (11, .lreturn, 12, 0, 0, 0),
  (12, (.ldc2_w 137), 15, 1, 0, 9221120237041090560), (15, .lreturn, 16, 0, 0, 0)]
set_option maxRecDepth 100000 in
/-- Dbl.isNaN(D)Z -/
noncomputable def ew_cd_7 : List ew_Ent := [(0, (.dload_n 0), 1, 0, 0, 0), (1, (.dload_n 0), 2, 0, 0, 0), (2, (.dcmp .l), 3, 0, 0, 0), (3, (.ifCond .eq 7), 6, 10, 0, 0), (6, (.iconst 1), 7, 0, 0, 1), (7, (.goto 4), 10, 11, 0, 0),
  (10, (.iconst 0), 11, 0, 0, 0), (11, .ireturn, 12, 0, 1, 0)]
set_option maxRecDepth 100000 in
/-- Flt.floatToIntBits(F)I -/
noncomputable def ew_cd_8 : List ew_Ent := [(0, (.fload_n 0), 1, 0, 0, 0), (1, (.invokestatic 59), 4, 9, 1, 0), (4, (.ifCond .ne 8), 7, 12, 0, 0), (7, (.fload_n 0), 8, 0, 0, 0), (8, (.invokestatic 74), 11, 0, 1, 6), (11, .ireturn, 12, 0, 0, 0),
  (12, (.ldc 77), 14, 0, 0, 2143289344), (14, .ireturn, 15, 0, 0, 0)]
set_option maxRecDepth 100000 in
/-- Flt.isNaN(F)Z -/
noncomputable def ew_cd_9 : List ew_Ent := [(0, (.fload_n 0), 1, 0, 0, 0), (1, (.fload_n 0), 2, 0, 0, 0), (2, (.fcmp .l), 3, 0, 0, 0), (3, (.ifCond .eq 7), 6, 10, 0, 0), (6, (.iconst 1), 7, 0, 0, 1), (7, (.goto 4), 10, 11, 0, 0),
  (10, (.iconst 0), 11, 0, 0, 0), (11, .ireturn, 12, 0, 1, 0)]
set_option maxRecDepth 100000 in
/-- Items.<init>()V -/
noncomputable def ew_cd_10 : List ew_Ent := [(0, (.aload_n 0), 1, 0, 0, 0), (1, (.invokespecial 3), 4, 0, 1, 4), (4, (.aload_n 0), 5, 0, 0, 0), (5, (.bipush 40), 7, 0, 0, 40), (7, (.newarray .long), 9, 21, 0, 0), (9, (.putfield 11), 12, 0, 0, 2),
  (12, (.aload_n 0), 13, 0, 0, 0), (13, (.iconst (-1)), 14, 0, 0, -1), (14, (.putfield 15), 17, 0, 1, 0), (17, .return_, 18, 0, 0, 0)]
set_option maxRecDepth 100000 in
/-- Items.clear(I)V -/
noncomputable def ew_cd_11 : List ew_Ent := [(0, (.aload_n 0), 1, 0, 0, 0), (1, (.iload_n 1), 2, 0, 0, 0), (2, (.putfield 15), 5, 0, 1, 0), (5, (.iconst 0), 6, 0, 0, 0), (6, (.istore_n 2), 7, 0, 0, 0), (7, (.iload_n 2), 8, 0, 0, 0),
  (8, (.bipush 40), 10, 0, 0, 40), (10, (.if_icmp .ge 16), 13, 26, 0, 0), (13, (.aload_n 0), 14, 0, 0, 0), (14, (.getfield 11), 17, 0, 0, 2), (17, (.iload_n 2), 18, 0, 0, 0), (18, (.lconst 0), 19, 1, 0, 0),
  (19, .lastore, 20, 0, 0, 0), (20, (.iinc 2 1), 23, 0, 0, 0), (23, (.goto (-16)), 26, 7, 0, 0), (26, .return_, 27, 0, 0, 0)]
set_option maxRecDepth 100000 in
/-- Items.isMissing()Z -/
noncomputable def ew_cd_12 : List ew_Ent := [(0, (.aload_n 0), 1, 0, 0, 0), (1, (.getfield 15), 4, 0, 1, 0), (4, (.iconst (-1)), 5, 0, 0, -1), (5, (.if_icmp .ne 7), 8, 12, 0, 0), (8, (.iconst 1), 9, 0, 0, 1), (9, (.goto 4), 12, 13, 0, 0),
  (12, (.iconst 0), 13, 0, 0, 0), (13, .ireturn, 14, 0, 1, 0)]
set_option maxRecDepth 100000 in
/-- Items.hasItem(I)Z -/
noncomputable def ew_cd_13 : List ew_Ent := [(0, (.iload_n 1), 1, 0, 0, 0), (1, (.ifCond .lt 21), 4, 22, 0, 0), (4, (.iload_n 1), 5, 0, 0, 0), (5, (.aload_n 0), 6, 0, 0, 0), (6, (.getfield 15), 9, 0, 1, 0), (9, (.if_icmp .ge 13), 12, 22, 0, 0),
  (12, (.iload_n 1), 13, 0, 0, 0), (13, (.bipush 40), 15, 0, 0, 40), (15, (.if_icmp .ge 7), 18, 22, 0, 0), (18, (.iconst 1), 19, 0, 0, 1), (19, (.goto 4), 22, 23, 0, 0), (22, (.iconst 0), 23, 0, 0, 0),
  (23, .ireturn, 24, 0, 1, 0)]
set_option maxRecDepth 100000 in
/-- Items.setItem(IJ)V -/
noncomputable def ew_cd_14 : List ew_Ent := [(0, (.aload_n 0), 1, 0, 0, 0), (1, (.iload_n 1), 2, 0, 0, 0), (2, (.invokevirtual 19), 5, 13, 2, 1), (5, (.ifCond .eq 10), 8, 15, 0, 0), (8, (.aload_n 0), 9, 0, 0, 0), (9, (.getfield 11), 12, 0, 0, 2),
  (12, (.iload_n 1), 13, 0, 0, 0), (13, (.lload_n 2), 14, 0, 0, 0), (14, .lastore, 15, 0, 0, 0), (15, .return_, 16, 0, 0, 0)]
set_option maxRecDepth 100000 in
/-- Items.itemAt(I)J -/
noncomputable def ew_cd_15 : List ew_Ent := [(0, (.aload_n 0), 1, 0, 0, 0), (1, (.iload_n 1), 2, 0, 0, 0), (2, (.invokevirtual 19), 5, 13, 2, 1), (5, (.ifCond .eq 12), 8, 17, 0, 0), (8, (.aload_n 0), 9, 0, 0, 0), (9, (.getfield 11), 12, 0, 0, 2),
  (12, (.iload_n 1), 13, 0, 0, 0), (13, .laload, 14, 0, 0, 0), (14, (.goto 6), 17, 20, 0, 0), (17, (.ldc2_w 23), 20, 1, 0, -9223372036854775808), (20, .lreturn, 21, 0, 0, 0)]
set_option maxRecDepth 100000 in
/-- Num.cutDown(JJ)J -/
noncomputable def ew_cd_16 : List ew_Ent := [(0, (.lload_n 2), 1, 0, 0, 0), (1, (.lconst 0), 2, 1, 0, 0), (2, .lcmp, 3, 0, 0, 0), (3, (.ifCond .gt 7), 6, 10, 0, 0), (6, (.lconst 0), 7, 1, 0, 0), (7, (.goto 8), 10, 15, 0, 0),
  (10, (.lload_n 0), 11, 0, 0, 0), (11, (.lload_n 2), 12, 0, 0, 0), (12, (.invokestatic 9), 15, 0, 2, 0), (15, .lreturn, 16, 0, 0, 0)]
set_option maxRecDepth 100000 in
/-- Num.leftOver(JJ)J -/
noncomputable def ew_cd_17 : List ew_Ent := [(0, (.lload_n 2), 1, 0, 0, 0), (1, (.lconst 0), 2, 1, 0, 0), (2, .lcmp, 3, 0, 0, 0), (3, (.ifCond .gt 7), 6, 10, 0, 0), (6, (.lconst 0), 7, 1, 0, 0), (7, (.goto 8), 10, 15, 0, 0),
  (10, (.lload_n 0), 11, 0, 0, 0), (11, (.lload_n 2), 12, 0, 0, 0), (12, (.invokestatic 15), 15, 1, 2, 0), (15, .lreturn, 16, 0, 0, 0)]
set_option maxRecDepth 100000 in
/-- Num.bitsOfDouble(D)J -/
noncomputable def ew_cd_18 : List ew_Ent := [(0, (.dload_n 0), 1, 0, 0, 0), (1, (.dconst 0), 2, 4, 0, 0), (2, (.dcmp .g), 3, 0, 0, 0), (3, (.ifCond .gt 5), 6, 8, 0, 0), (6, (.lconst 0), 7, 1, 0, 0), (7, .lreturn, 8, 0, 0, 0),
  (8, (.dload_n 0), 9, 0, 0, 0), (9, (.dstore_n 2), 10, 0, 0, 0), (10, (.ldc2_w 30), 13, 1, 0, 1023), (13, (.lstore 4), 15, 0, 0, 0), (15, (.iconst 0), 16, 0, 0, 0), (16, (.istore 6), 18, 0, 0, 0),
  (18, (.iload 6), 20, 0, 0, 0), (20, (.sipush 1023), 23, 0, 0, 1023), (23, (.if_icmp .ge 29), 26, 52, 0, 0), (26, (.dload_n 2), 27, 0, 0, 0), (27, (.ldc2_w 32), 30, 4, 0, 4611686018427387904), (30, (.dcmp .l), 31, 0, 0, 0),
  (31, (.ifCond .lt 21), 34, 52, 0, 0), (34, (.dload_n 2), 35, 0, 0, 0), (35, (.ldc2_w 32), 38, 4, 0, 4611686018427387904), (38, .ddiv, 39, 0, 0, 0), (39, (.dstore_n 2), 40, 0, 0, 0), (40, (.lload 4), 42, 0, 0, 0),
  (42, (.lconst 1), 43, 1, 0, 1), (43, .ladd, 44, 0, 0, 0), (44, (.lstore 4), 46, 0, 0, 0), (46, (.iinc 6 1), 49, 0, 0, 0), (49, (.goto (-31)), 52, 18, 0, 0), (52, (.iconst 0), 53, 0, 0, 0),
  (53, (.istore 6), 55, 0, 0, 0), (55, (.iload 6), 57, 0, 0, 0), (57, (.sipush 1022), 60, 0, 0, 1022), (60, (.if_icmp .ge 27), 63, 87, 0, 0), (63, (.dload_n 2), 64, 0, 0, 0), (64, (.dconst 1), 65, 4, 0, 4607182418800017408),
  (65, (.dcmp .g), 66, 0, 0, 0), (66, (.ifCond .ge 21), 69, 87, 0, 0), (69, (.dload_n 2), 70, 0, 0, 0), (70, (.ldc2_w 32), 73, 4, 0, 4611686018427387904), (73, .dmul, 74, 0, 0, 0), (74, (.dstore_n 2), 75, 0, 0, 0),
  (75, (.lload 4), 77, 0, 0, 0), (77, (.lconst 1), 78, 1, 0, 1), (78, .lsub, 79, 0, 0, 0), (79, (.lstore 4), 81, 0, 0, 0), (81, (.iinc 6 1), 84, 0, 0, 0), (84, (.goto (-29)), 87, 55, 0, 0),
  (87, (.lload 4), 89, 0, 0, 0), (89, (.bipush 52), 91, 0, 0, 52), (91, .lshl, 92, 0, 0, 0), (92, (.dload_n 2), 93, 0, 0, 0), (93, (.dconst 1), 94, 4, 0, 4607182418800017408), (94, .dsub, 95, 0, 0, 0),
  (95, (.ldc2_w 34), 98, 4, 0, 4841369599423283200), (98, .dmul, 99, 0, 0, 0), (99, .d2l, 100, 0, 0, 0), (100, .ladd, 101, 0, 0, 0), (101, .lreturn, 102, 0, 0, 0)]
set_option maxRecDepth 100000 in
/-- Num.bitsOfFloat(F)I -/
noncomputable def ew_cd_19 : List ew_Ent := [(0, (.fload_n 0), 1, 0, 0, 0), (1, (.fconst 0), 2, 3, 0, 0), (2, (.fcmp .g), 3, 0, 0, 0), (3, (.ifCond .gt 5), 6, 8, 0, 0), (6, (.iconst 0), 7, 0, 0, 0), (7, .ireturn, 8, 0, 0, 0),
  (8, (.fload_n 0), 9, 0, 0, 0), (9, (.fstore_n 1), 10, 0, 0, 0), (10, (.bipush 127), 12, 0, 0, 127), (12, (.istore_n 2), 13, 0, 0, 0), (13, (.iconst 0), 14, 0, 0, 0), (14, (.istore_n 3), 15, 0, 0, 0),
  (15, (.iload_n 3), 16, 0, 0, 0), (16, (.bipush 126), 18, 0, 0, 126), (18, (.if_icmp .ge 22), 21, 40, 0, 0), (21, (.fload_n 1), 22, 0, 0, 0), (22, (.fconst 1), 23, 3, 0, 1065353216), (23, (.fcmp .g), 24, 0, 0, 0),
  (24, (.ifCond .ge 16), 27, 40, 0, 0), (27, (.fload_n 1), 28, 0, 0, 0), (28, (.fconst 2), 29, 3, 0, 1073741824), (29, .fmul, 30, 0, 0, 0), (30, (.fstore_n 1), 31, 0, 0, 0), (31, (.iinc 2 (-1)), 34, 0, 0, 0),
  (34, (.iinc 3 1), 37, 0, 0, 0), (37, (.goto (-22)), 40, 15, 0, 0), (40, (.iload_n 2), 41, 0, 0, 0), (41, (.bipush 23), 43, 0, 0, 23), (43, .ishl, 44, 0, 0, 0), (44, (.fload_n 1), 45, 0, 0, 0),
  (45, (.fconst 1), 46, 3, 0, 1065353216), (46, .fsub, 47, 0, 0, 0), (47, (.ldc 36), 49, 3, 0, 1258291200), (49, .fmul, 50, 0, 0, 0), (50, .f2i, 51, 0, 0, 0), (51, .iadd, 52, 0, 0, 0),
  (52, .ireturn, 53, 0, 0, 0)]
set_option maxRecDepth 100000 in
/-- Num.commonDivisor(JJ)J -/
noncomputable def ew_cd_20 : List ew_Ent := [(0, (.lload_n 0), 1, 0, 0, 0), (1, (.lstore 4), 3, 0, 0, 0), (3, (.lload_n 2), 4, 0, 0, 0), (4, (.lstore 6), 6, 0, 0, 0), (6, (.iconst 0), 7, 0, 0, 0), (7, (.istore 8), 9, 0, 0, 0),
  (9, (.iload 8), 11, 0, 0, 0), (11, (.sipush 200), 14, 0, 0, 200), (14, (.if_icmp .ge 31), 17, 45, 0, 0), (17, (.lload 6), 19, 0, 0, 0), (19, (.lconst 0), 20, 1, 0, 0), (20, .lcmp, 21, 0, 0, 0),
  (21, (.ifCond .le 24), 24, 45, 0, 0), (24, (.lload 4), 26, 0, 0, 0), (26, (.lload 6), 28, 0, 0, 0), (28, .lrem, 29, 0, 0, 0), (29, (.lstore 9), 31, 0, 0, 0), (31, (.lload 6), 33, 0, 0, 0),
  (33, (.lstore 4), 35, 0, 0, 0), (35, (.lload 9), 37, 0, 0, 0), (37, (.lstore 6), 39, 0, 0, 0), (39, (.iinc 8 1), 42, 0, 0, 0), (42, (.goto (-33)), 45, 9, 0, 0), (45, (.lload 4), 47, 0, 0, 0),
  (47, .lreturn, 48, 0, 0, 0)]
set_option maxRecDepth 100000 in
/-- Num.leastCommon(JJ)J -/
noncomputable def ew_cd_21 : List ew_Ent := [(0, (.lload_n 2), 1, 0, 0, 0), (1, (.lload_n 0), 2, 0, 0, 0), (2, (.lload_n 2), 3, 0, 0, 0), (3, (.invokestatic 18), 6, 20, 2, 0), (6, (.invokestatic 23), 9, 16, 2, 0), (9, (.lstore 4), 11, 0, 0, 0),
  (11, (.lload 4), 13, 0, 0, 0), (13, (.lconst 0), 14, 1, 0, 0), (14, .lcmp, 15, 0, 0, 0), (15, (.ifCond .le 14), 18, 29, 0, 0), (18, (.lload_n 0), 19, 0, 0, 0), (19, (.ldc2_w 26), 22, 1, 0, 9223372036854775807),
  (22, (.lload 4), 24, 0, 0, 0), (24, .ldiv, 25, 0, 0, 0), (25, .lcmp, 26, 0, 0, 0), (26, (.ifCond .le 7), 29, 33, 0, 0), (29, (.ldc2_w 28), 32, 1, 0, -9223372036854775808), (32, .lreturn, 33, 0, 0, 0),
  (33, (.lload_n 0), 34, 0, 0, 0), (34, (.lload 4), 36, 0, 0, 0), (36, .lmul, 37, 0, 0, 0), (37, .lreturn, 38, 0, 0, 0)]
set_option maxRecDepth 100000 in
/-- Sheet.<init>()V -/
noncomputable def ew_cd_22 : List ew_Ent := [(0, (.aload_n 0), 1, 0, 0, 0), (1, (.invokespecial 3), 4, 0, 1, 4), (4, (.aload_n 0), 5, 0, 0, 0), (5, (.bipush 120), 7, 0, 0, 120), (7, (.newarray .int), 9, 20, 0, 0), (9, (.putfield 9), 12, 3, 0, 2),
  (12, (.aload_n 0), 13, 0, 0, 0), (13, (.iconst 0), 14, 0, 0, 0), (14, (.putfield 15), 17, 3, 1, 0), (17, .return_, 18, 0, 0, 0)]
set_option maxRecDepth 100000 in
/-- Sheet.add(I)V -/
noncomputable def ew_cd_23 : List ew_Ent := [(0, (.aload_n 0), 1, 0, 0, 0), (1, (.getfield 15), 4, 3, 1, 0), (4, (.ifCond .lt 35), 7, 39, 0, 0), (7, (.aload_n 0), 8, 0, 0, 0), (8, (.getfield 15), 11, 3, 1, 0), (11, (.aload_n 0), 12, 0, 0, 0),
  (12, (.getfield 9), 15, 3, 0, 2), (15, .arraylength, 16, 0, 0, 0), (16, (.if_icmp .ge 23), 19, 39, 0, 0), (19, (.aload_n 0), 20, 0, 0, 0), (20, (.getfield 9), 23, 3, 0, 2), (23, (.aload_n 0), 24, 0, 0, 0),
  (24, (.getfield 15), 27, 3, 1, 0), (27, (.iload_n 1), 28, 0, 0, 0), (28, .iastore, 29, 0, 0, 0), (29, (.aload_n 0), 30, 0, 0, 0), (30, .dup, 31, 0, 0, 0), (31, (.getfield 15), 34, 3, 1, 0),
  (34, (.iconst 1), 35, 0, 0, 1), (35, .iadd, 36, 0, 0, 0), (36, (.putfield 15), 39, 3, 1, 0), (39, .return_, 40, 0, 0, 0)]
set_option maxRecDepth 100000 in
/-- Sheet.addNumber(I)V -/
noncomputable def ew_cd_24 : List ew_Ent := [(0, (.iload_n 1), 1, 0, 0, 0), (1, (.ifCond .ge 9), 4, 10, 0, 0), (4, (.aload_n 0), 5, 0, 0, 0), (5, (.bipush 45), 7, 0, 0, 45), (7, (.invokevirtual 19), 10, 23, 2, 1), (10, (.iload_n 1), 11, 0, 0, 0),
  (11, (.invokestatic 23), 14, 5, 1, 0), (14, (.istore_n 2), 15, 0, 0, 0), (15, (.iconst 1), 16, 0, 0, 1), (16, (.istore_n 3), 17, 0, 0, 0), (17, (.iconst 0), 18, 0, 0, 0), (18, (.istore 4), 20, 0, 0, 0),
  (20, (.iload 4), 22, 0, 0, 0), (22, (.bipush 6), 24, 0, 0, 6), (24, (.if_icmp .ge 22), 27, 46, 0, 0), (27, (.iload_n 2), 28, 0, 0, 0), (28, (.iload_n 3), 29, 0, 0, 0), (29, (.bipush 10), 31, 0, 0, 10),
  (31, .imul, 32, 0, 0, 0), (32, (.if_icmp .lt 14), 35, 46, 0, 0), (35, (.iload_n 3), 36, 0, 0, 0), (36, (.bipush 10), 38, 0, 0, 10), (38, .imul, 39, 0, 0, 0), (39, (.istore_n 3), 40, 0, 0, 0),
  (40, (.iinc 4 1), 43, 0, 0, 0), (43, (.goto (-23)), 46, 20, 0, 0), (46, (.iload_n 3), 47, 0, 0, 0), (47, (.istore 4), 49, 0, 0, 0), (49, (.iload 4), 51, 0, 0, 0), (51, (.iconst 1), 52, 0, 0, 1),
  (52, (.if_icmp .lt 27), 55, 79, 0, 0), (55, (.aload_n 0), 56, 0, 0, 0), (56, (.bipush 48), 58, 0, 0, 48), (58, (.iload_n 2), 59, 0, 0, 0), (59, (.iload 4), 61, 0, 0, 0), (61, .idiv, 62, 0, 0, 0),
  (62, (.bipush 10), 64, 0, 0, 10), (64, .irem, 65, 0, 0, 0), (65, .iadd, 66, 0, 0, 0), (66, (.invokevirtual 19), 69, 23, 2, 1), (69, (.iload 4), 71, 0, 0, 0), (71, (.bipush 10), 73, 0, 0, 10),
  (73, .idiv, 74, 0, 0, 0), (74, (.istore 4), 76, 0, 0, 0), (76, (.goto (-27)), 79, 49, 0, 0), (79, .return_, 80, 0, 0, 0)]
set_option maxRecDepth 100000 in
/-- Sheet.byteAt(I)I -/
noncomputable def ew_cd_25 : List ew_Ent := [(0, (.iload_n 1), 1, 0, 0, 0), (1, (.ifCond .lt 29), 4, 30, 0, 0), (4, (.iload_n 1), 5, 0, 0, 0), (5, (.aload_n 0), 6, 0, 0, 0), (6, (.getfield 15), 9, 3, 1, 0), (9, (.if_icmp .ge 21), 12, 30, 0, 0),
  (12, (.iload_n 1), 13, 0, 0, 0), (13, (.aload_n 0), 14, 0, 0, 0), (14, (.getfield 9), 17, 3, 0, 2), (17, .arraylength, 18, 0, 0, 0), (18, (.if_icmp .ge 12), 21, 30, 0, 0), (21, (.aload_n 0), 22, 0, 0, 0),
  (22, (.getfield 9), 25, 3, 0, 2), (25, (.iload_n 1), 26, 0, 0, 0), (26, .iaload, 27, 0, 0, 0), (27, (.goto 4), 30, 31, 0, 0), (30, (.iconst (-1)), 31, 0, 0, -1), (31, .ireturn, 32, 0, 0, 0)]
set_option maxRecDepth 100000 in
/-- Tray.<init>()V -/
noncomputable def ew_cd_26 : List ew_Ent := [(0, (.aload_n 0), 1, 0, 0, 0), (1, (.invokespecial 3), 4, 0, 1, 4), (4, (.aload_n 0), 5, 0, 0, 0), (5, (.bipush 12), 7, 0, 0, 12), (7, (.anewarray 11), 10, 22, 0, 0), (10, (.putfield 13), 13, 5, 0, 2),
  (13, (.aload_n 0), 14, 0, 0, 0), (14, (.iconst (-1)), 15, 0, 0, -1), (15, (.putfield 17), 18, 5, 1, 0), (18, (.aload_n 0), 19, 0, 0, 0), (19, (.iconst 0), 20, 0, 0, 0), (20, (.putfield 21), 23, 5, 2, 0),
  (23, .return_, 24, 0, 0, 0)]
set_option maxRecDepth 100000 in
/-- Tray.empty(II)V -/
noncomputable def ew_cd_27 : List ew_Ent := [(0, (.aload_n 0), 1, 0, 0, 0), (1, (.iload_n 1), 2, 0, 0, 0), (2, (.putfield 17), 5, 5, 1, 0), (5, (.aload_n 0), 6, 0, 0, 0), (6, (.iload_n 2), 7, 0, 0, 0), (7, (.putfield 21), 10, 5, 2, 0),
  (10, (.iconst 0), 11, 0, 0, 0), (11, (.istore_n 3), 12, 0, 0, 0), (12, (.iload_n 3), 13, 0, 0, 0), (13, (.bipush 12), 15, 0, 0, 12), (15, (.if_icmp .ge 16), 18, 31, 0, 0), (18, (.aload_n 0), 19, 0, 0, 0),
  (19, (.getfield 13), 22, 5, 0, 2), (22, (.iload_n 3), 23, 0, 0, 0), (23, .aconst_null, 24, 0, 0, 0), (24, .aastore, 25, 0, 0, 0), (25, (.iinc 3 1), 28, 0, 0, 0), (28, (.goto (-16)), 31, 12, 0, 0),
  (31, .return_, 32, 0, 0, 0)]
set_option maxRecDepth 100000 in
/-- Tray.isMissing()Z -/
noncomputable def ew_cd_28 : List ew_Ent := [(0, (.aload_n 0), 1, 0, 0, 0), (1, (.getfield 17), 4, 5, 1, 0), (4, (.iconst (-1)), 5, 0, 0, -1), (5, (.if_icmp .ne 7), 8, 12, 0, 0), (8, (.iconst 1), 9, 0, 0, 1), (9, (.goto 4), 12, 13, 0, 0),
  (12, (.iconst 0), 13, 0, 0, 0), (13, .ireturn, 14, 0, 1, 0)]
set_option maxRecDepth 100000 in
/-- Tray.hasPlace(I)Z -/
noncomputable def ew_cd_29 : List ew_Ent := [(0, (.iload_n 1), 1, 0, 0, 0), (1, (.ifCond .lt 21), 4, 22, 0, 0), (4, (.iload_n 1), 5, 0, 0, 0), (5, (.aload_n 0), 6, 0, 0, 0), (6, (.getfield 21), 9, 5, 2, 0), (9, (.if_icmp .ge 13), 12, 22, 0, 0),
  (12, (.iload_n 1), 13, 0, 0, 0), (13, (.bipush 12), 15, 0, 0, 12), (15, (.if_icmp .ge 7), 18, 22, 0, 0), (18, (.iconst 1), 19, 0, 0, 1), (19, (.goto 4), 22, 23, 0, 0), (22, (.iconst 0), 23, 0, 0, 0),
  (23, .ireturn, 24, 0, 1, 0)]
set_option maxRecDepth 100000 in
/-- Tray.setThing(ILEclipseWheel$Wheel;)V -/
noncomputable def ew_cd_30 : List ew_Ent := [(0, (.aload_n 0), 1, 0, 0, 0), (1, (.iload_n 1), 2, 0, 0, 0), (2, (.invokevirtual 24), 5, 29, 2, 1), (5, (.ifCond .eq 10), 8, 15, 0, 0), (8, (.aload_n 0), 9, 0, 0, 0), (9, (.getfield 13), 12, 5, 0, 2),
  (12, (.iload_n 1), 13, 0, 0, 0), (13, (.aload_n 2), 14, 0, 0, 0), (14, .aastore, 15, 0, 0, 0), (15, .return_, 16, 0, 0, 0)]
set_option maxRecDepth 100000 in
/-- Tray.thingAt(I)LEclipseWheel$Wheel; -/
noncomputable def ew_cd_31 : List ew_Ent := [(0, (.aload_n 0), 1, 0, 0, 0), (1, (.iload_n 1), 2, 0, 0, 0), (2, (.invokevirtual 24), 5, 29, 2, 1), (5, (.ifCond .eq 12), 8, 17, 0, 0), (8, (.aload_n 0), 9, 0, 0, 0), (9, (.getfield 13), 12, 5, 0, 2),
  (12, (.iload_n 1), 13, 0, 0, 0), (13, .aaload, 14, 0, 0, 0), (14, (.goto 4), 17, 18, 0, 0), (17, .aconst_null, 18, 0, 0, 0), (18, .areturn, 19, 0, 0, 0)]
set_option maxRecDepth 100000 in
/-- Tray.become(LEclipseWheel$Tray;)V -/
noncomputable def ew_cd_32 : List ew_Ent := [(0, (.aload_n 0), 1, 0, 0, 0), (1, (.aload_n 1), 2, 0, 0, 0), (2, (.getfield 17), 5, 5, 1, 0), (5, (.putfield 17), 8, 5, 1, 0), (8, (.aload_n 0), 9, 0, 0, 0), (9, (.aload_n 1), 10, 0, 0, 0),
  (10, (.getfield 21), 13, 5, 2, 0), (13, (.putfield 21), 16, 5, 2, 0), (16, (.iconst 0), 17, 0, 0, 0), (17, (.istore_n 2), 18, 0, 0, 0), (18, (.iload_n 2), 19, 0, 0, 0), (19, (.bipush 12), 21, 0, 0, 12),
  (21, (.if_icmp .ge 21), 24, 42, 0, 0), (24, (.aload_n 0), 25, 0, 0, 0), (25, (.getfield 13), 28, 5, 0, 2), (28, (.iload_n 2), 29, 0, 0, 0), (29, (.aload_n 1), 30, 0, 0, 0), (30, (.getfield 13), 33, 5, 0, 2),
  (33, (.iload_n 2), 34, 0, 0, 0), (34, .aaload, 35, 0, 0, 0), (35, .aastore, 36, 0, 0, 0), (36, (.iinc 2 1), 39, 0, 0, 0), (39, (.goto (-21)), 42, 18, 0, 0), (42, .return_, 43, 0, 0, 0)]
set_option maxRecDepth 100000 in
/-- Wh.canBe(IIII)Z -/
noncomputable def ew_cd_33 : List ew_Ent := [(0, (.iload_n 0), 1, 0, 0, 0), (1, (.invokestatic 27), 4, 34, 1, 0), (4, (.ifCond .eq 37), 7, 41, 0, 0), (7, (.iload_n 1), 8, 0, 0, 0), (8, (.iconst 2), 9, 0, 0, 2), (9, (.if_icmp .lt 32), 12, 41, 0, 0),
  (12, (.iload_n 1), 13, 0, 0, 0), (13, (.ldc 31), 15, 0, 0, 100000), (15, (.if_icmp .gt 26), 18, 41, 0, 0), (18, (.iload_n 2), 19, 0, 0, 0), (19, (.ifCond .lt 22), 22, 41, 0, 0), (22, (.iload_n 2), 23, 0, 0, 0),
  (23, (.ldc 32), 25, 0, 0, 99999), (25, (.if_icmp .gt 16), 28, 41, 0, 0), (28, (.iload_n 3), 29, 0, 0, 0), (29, (.ifCond .lt 12), 32, 41, 0, 0), (32, (.iload_n 3), 33, 0, 0, 0), (33, (.iload_n 1), 34, 0, 0, 0),
  (34, (.if_icmp .ge 7), 37, 41, 0, 0), (37, (.iconst 1), 38, 0, 0, 1), (38, (.goto 4), 41, 42, 0, 0), (41, (.iconst 0), 42, 0, 0, 0), (42, .ireturn, 43, 0, 1, 0)]
set_option maxRecDepth 100000 in
/-- Wh.isKind(I)Z -/
noncomputable def ew_cd_34 : List ew_Ent := [(0, (.iload_n 0), 1, 0, 0, 0), (1, (.ifCond .lt 12), 4, 13, 0, 0), (4, (.iload_n 0), 5, 0, 0, 0), (5, (.iconst 4), 6, 0, 0, 4), (6, (.if_icmp .gt 7), 9, 13, 0, 0), (9, (.iconst 1), 10, 0, 0, 1),
  (10, (.goto 4), 13, 14, 0, 0), (13, (.iconst 0), 14, 0, 0, 0), (14, .ireturn, 15, 0, 1, 0)]
set_option maxRecDepth 100000 in
/-- Wh.madeDigits(III)I -/
noncomputable def ew_cd_35 : List ew_Ent := [(0, (.iload_n 1), 1, 0, 0, 0), (1, (.ifCond .ne 8), 4, 9, 0, 0), (4, (.bipush 12), 6, 0, 0, 12), (6, (.goto 4), 9, 10, 0, 0), (9, (.iconst 1), 10, 0, 0, 1), (10, (.istore_n 3), 11, 0, 0, 0),
  (11, (.iload_n 0), 12, 0, 0, 0), (12, (.iconst 1), 13, 0, 0, 1), (13, (.invokestatic 37), 16, 36, 2, 0), (16, (.ifCond .eq 10), 19, 26, 0, 0), (19, (.iload_n 3), 20, 0, 0, 0), (20, (.bipush 10), 22, 0, 0, 10),
  (22, .imul, 23, 0, 0, 0), (23, (.iconst 3), 24, 0, 0, 3), (24, .iadd, 25, 0, 0, 0), (25, (.istore_n 3), 26, 0, 0, 0), (26, (.iload_n 0), 27, 0, 0, 0), (27, (.iconst 2), 28, 0, 0, 2),
  (28, (.invokestatic 37), 31, 36, 2, 0), (31, (.ifCond .eq 10), 34, 41, 0, 0), (34, (.iload_n 3), 35, 0, 0, 0), (35, (.bipush 10), 37, 0, 0, 10), (37, .imul, 38, 0, 0, 0), (38, (.iconst 4), 39, 0, 0, 4),
  (39, .iadd, 40, 0, 0, 0), (40, (.istore_n 3), 41, 0, 0, 0), (41, (.iload_n 0), 42, 0, 0, 0), (42, (.iconst 3), 43, 0, 0, 3), (43, (.if_icmp .ne 10), 46, 53, 0, 0), (46, (.iload_n 3), 47, 0, 0, 0),
  (47, (.bipush 10), 49, 0, 0, 10), (49, .imul, 50, 0, 0, 0), (50, (.iconst 5), 51, 0, 0, 5), (51, .iadd, 52, 0, 0, 0), (52, (.istore_n 3), 53, 0, 0, 0), (53, (.iload_n 0), 54, 0, 0, 0),
  (54, (.iconst 4), 55, 0, 0, 4), (55, (.if_icmp .ne 11), 58, 66, 0, 0), (58, (.iload_n 3), 59, 0, 0, 0), (59, (.bipush 10), 61, 0, 0, 10), (61, .imul, 62, 0, 0, 0), (62, (.bipush 6), 64, 0, 0, 6),
  (64, .iadd, 65, 0, 0, 0), (65, (.istore_n 3), 66, 0, 0, 0), (66, (.iload_n 0), 67, 0, 0, 0), (67, (.iconst 4), 68, 0, 0, 4), (68, (.if_icmp .ne 17), 71, 85, 0, 0), (71, (.iload_n 2), 72, 0, 0, 0),
  (72, (.ifCond .ne 13), 75, 85, 0, 0), (75, (.iload_n 3), 76, 0, 0, 0), (76, (.bipush 10), 78, 0, 0, 10), (78, .imul, 79, 0, 0, 0), (79, (.bipush 7), 81, 0, 0, 7), (81, .iadd, 82, 0, 0, 0),
  (82, (.goto 4), 85, 86, 0, 0), (85, (.iload_n 3), 86, 0, 0, 0), (86, .ireturn, 87, 0, 0, 0)]
set_option maxRecDepth 100000 in
/-- Wh.isUnder(II)Z -/
noncomputable def ew_cd_36 : List ew_Ent := [(0, (.iload_n 0), 1, 0, 0, 0), (1, (.istore_n 2), 2, 0, 0, 0), (2, (.iconst 0), 3, 0, 0, 0), (3, (.istore_n 3), 4, 0, 0, 0), (4, (.iload_n 3), 5, 0, 0, 0), (5, (.iconst 4), 6, 0, 0, 4),
  (6, (.if_icmp .gt 26), 9, 32, 0, 0), (9, (.iload_n 2), 10, 0, 0, 0), (10, (.iconst (-1)), 11, 0, 0, -1), (11, (.if_icmp .eq 21), 14, 32, 0, 0), (14, (.iload_n 2), 15, 0, 0, 0), (15, (.iload_n 1), 16, 0, 0, 0),
  (16, (.if_icmp .ne 5), 19, 21, 0, 0), (19, (.iconst 1), 20, 0, 0, 1), (20, .ireturn, 21, 0, 1, 0), (21, (.iload_n 2), 22, 0, 0, 0), (22, (.invokestatic 33), 25, 37, 1, 0), (25, (.istore_n 2), 26, 0, 0, 0),
  (26, (.iinc 3 1), 29, 0, 0, 0), (29, (.goto (-25)), 32, 4, 0, 0), (32, (.iconst 0), 33, 0, 0, 0), (33, .ireturn, 34, 0, 1, 0)]
set_option maxRecDepth 100000 in
/-- Wh.kindAbove(I)I -/
noncomputable def ew_cd_37 : List ew_Ent := [(0, (.iload_n 0), 1, 0, 0, 0), (1, (.tableswitch 39 1 4 #[31, 33, 35, 37]), 32, 40, 0, 0), (32, (.iconst 0), 33, 0, 0, 0), (33, .ireturn, 34, 0, 0, 0), (34, (.iconst 0), 35, 0, 0, 0), (35, .ireturn, 36, 0, 0, 0),
  (36, (.iconst 1), 37, 0, 0, 1), (37, .ireturn, 38, 0, 0, 0), (38, (.iconst 2), 39, 0, 0, 2), (39, .ireturn, 40, 0, 0, 0), (40, (.iconst (-1)), 41, 0, 0, -1), (41, .ireturn, 42, 0, 0, 0)]
set_option maxRecDepth 100000 in
/-- Wh.<init>(IIIII)V -/
noncomputable def ew_cd_38 : List ew_Ent := [(0, (.aload_n 0), 1, 0, 0, 0), (1, (.invokespecial 3), 4, 0, 1, 4), (4, (.aload_n 0), 5, 0, 0, 0), (5, (.iload_n 1), 6, 0, 0, 0), (6, (.putfield 9), 9, 6, 0, 0), (9, (.aload_n 0), 10, 0, 0, 0),
  (10, (.iload_n 2), 11, 0, 0, 0), (11, (.putfield 15), 14, 6, 1, 0), (14, (.aload_n 0), 15, 0, 0, 0), (15, (.iload_n 3), 16, 0, 0, 0), (16, (.putfield 18), 19, 6, 3, 0), (19, (.aload_n 0), 20, 0, 0, 0),
  (20, (.iload 4), 22, 0, 0, 0), (22, (.putfield 21), 25, 6, 4, 0), (25, (.aload_n 0), 26, 0, 0, 0), (26, (.iload 5), 28, 0, 0, 0), (28, (.putfield 24), 31, 6, 2, 0), (31, .return_, 32, 0, 0, 0)]
set_option maxRecDepth 100000 in
/-- Wh.told(I)I -/
noncomputable def ew_cd_39 : List ew_Ent := [(0, (.iload_n 1), 1, 0, 0, 0), (1, (.tableswitch 60 0 4 #[35, 40, 45, 50, 55]), 36, 61, 0, 0), (36, (.aload_n 0), 37, 0, 0, 0), (37, (.getfield 9), 40, 6, 0, 0), (40, .ireturn, 41, 0, 0, 0), (41, (.aload_n 0), 42, 0, 0, 0),
  (42, (.getfield 15), 45, 6, 1, 0), (45, .ireturn, 46, 0, 0, 0), (46, (.aload_n 0), 47, 0, 0, 0), (47, (.getfield 18), 50, 6, 3, 0), (50, .ireturn, 51, 0, 0, 0), (51, (.aload_n 0), 52, 0, 0, 0),
  (52, (.getfield 21), 55, 6, 4, 0), (55, .ireturn, 56, 0, 0, 0), (56, (.aload_n 0), 57, 0, 0, 0), (57, (.getfield 24), 60, 6, 2, 0), (60, .ireturn, 61, 0, 0, 0), (61, (.iconst (-1)), 62, 0, 0, -1),
  (62, .ireturn, 63, 0, 0, 0)]
set_option maxRecDepth 100000 in
/-- Wh.wayBy(J)J -/
noncomputable def ew_cd_40 : List ew_Ent := [(0, (.aload_n 0), 1, 0, 0, 0), (1, (.getfield 9), 4, 6, 0, 0), (4, (.tableswitch 76 1 3 #[28, 42, 58]), 32, 80, 0, 0), (32, (.aload_n 0), 33, 0, 0, 0), (33, (.getfield 21), 36, 6, 4, 0), (36, .i2l, 37, 0, 0, 0),
  (37, (.aload_n 0), 38, 0, 0, 0), (38, (.getfield 18), 41, 6, 3, 0), (41, .i2l, 42, 0, 0, 0), (42, (.lload_n 1), 43, 0, 0, 0), (43, .lmul, 44, 0, 0, 0), (44, .lsub, 45, 0, 0, 0),
  (45, .lreturn, 46, 0, 0, 0), (46, (.aload_n 0), 47, 0, 0, 0), (47, (.getfield 21), 50, 6, 4, 0), (50, .i2l, 51, 0, 0, 0), (51, (.aload_n 0), 52, 0, 0, 0), (52, (.getfield 18), 55, 6, 3, 0),
  (55, .i2l, 56, 0, 0, 0), (56, (.lload_n 1), 57, 0, 0, 0), (57, (.iconst 1), 58, 0, 0, 1), (58, .lshr, 59, 0, 0, 0), (59, .lmul, 60, 0, 0, 0), (60, .ladd, 61, 0, 0, 0),
  (61, .lreturn, 62, 0, 0, 0), (62, (.aload_n 0), 63, 0, 0, 0), (63, (.getfield 21), 66, 6, 4, 0), (66, .i2l, 67, 0, 0, 0), (67, (.aload_n 0), 68, 0, 0, 0), (68, (.getfield 18), 71, 6, 3, 0),
  (71, .i2l, 72, 0, 0, 0), (72, (.ldc2_w 44), 75, 1, 0, 2), (75, (.lload_n 1), 76, 0, 0, 0), (76, .lmul, 77, 0, 0, 0), (77, .lmul, 78, 0, 0, 0), (78, .lsub, 79, 0, 0, 0),
  (79, .lreturn, 80, 0, 0, 0), (80, (.aload_n 0), 81, 0, 0, 0), (81, (.getfield 21), 84, 6, 4, 0), (84, .i2l, 85, 0, 0, 0), (85, (.aload_n 0), 86, 0, 0, 0), (86, (.getfield 18), 89, 6, 3, 0),
  (89, .i2l, 90, 0, 0, 0), (90, (.lload_n 1), 91, 0, 0, 0), (91, .lmul, 92, 0, 0, 0), (92, .ladd, 93, 0, 0, 0), (93, .lreturn, 94, 0, 0, 0)]
set_option maxRecDepth 100000 in
/-- Wh.near(II)I -/
noncomputable def ew_cd_41 : List ew_Ent := [(0, (.iload_n 1), 1, 0, 0, 0), (1, (.iload_n 2), 2, 0, 0, 0), (2, .isub, 3, 0, 0, 0), (3, .i2l, 4, 0, 0, 0), (4, (.aload_n 0), 5, 0, 0, 0), (5, (.getfield 15), 8, 6, 1, 0),
  (8, .i2l, 9, 0, 0, 0), (9, (.invokestatic 46), 12, 17, 2, 0), (12, (.iload_n 2), 13, 0, 0, 0), (13, (.iload_n 1), 14, 0, 0, 0), (14, .isub, 15, 0, 0, 0), (15, .i2l, 16, 0, 0, 0),
  (16, (.aload_n 0), 17, 0, 0, 0), (17, (.getfield 15), 20, 6, 1, 0), (20, .i2l, 21, 0, 0, 0), (21, (.invokestatic 46), 24, 17, 2, 0), (24, (.invokestatic 52), 27, 2, 2, 0), (27, .l2i, 28, 0, 0, 0),
  (28, .ireturn, 29, 0, 0, 0)]
set_option maxRecDepth 100000 in
/-- Wh.termNumbered(I)I -/
noncomputable def ew_cd_42 : List ew_Ent := [(0, (.aload_n 0), 1, 0, 0, 0), (1, (.getfield 18), 4, 6, 3, 0), (4, (.istore_n 2), 5, 0, 0, 0), (5, (.aload_n 0), 6, 0, 0, 0), (6, (.getfield 15), 9, 6, 1, 0), (9, (.istore_n 3), 10, 0, 0, 0),
  (10, (.iconst 0), 11, 0, 0, 0), (11, (.istore 4), 13, 0, 0, 0), (13, (.iload 4), 15, 0, 0, 0), (15, (.bipush 64), 17, 0, 0, 64), (17, (.if_icmp .ge 33), 20, 50, 0, 0), (20, (.iload_n 3), 21, 0, 0, 0),
  (21, (.ifCond .le 29), 24, 50, 0, 0), (24, (.iload 4), 26, 0, 0, 0), (26, (.iload_n 1), 27, 0, 0, 0), (27, (.if_icmp .ne 7), 30, 34, 0, 0), (30, (.iload_n 2), 31, 0, 0, 0), (31, (.iload_n 3), 32, 0, 0, 0),
  (32, .idiv, 33, 0, 0, 0), (33, .ireturn, 34, 0, 0, 0), (34, (.iload_n 2), 35, 0, 0, 0), (35, (.iload_n 3), 36, 0, 0, 0), (36, .irem, 37, 0, 0, 0), (37, (.istore 5), 39, 0, 0, 0),
  (39, (.iload_n 3), 40, 0, 0, 0), (40, (.istore_n 2), 41, 0, 0, 0), (41, (.iload 5), 43, 0, 0, 0), (43, (.istore_n 3), 44, 0, 0, 0), (44, (.iinc 4 1), 47, 0, 0, 0), (47, (.goto (-34)), 50, 13, 0, 0),
  (50, (.iconst (-1)), 51, 0, 0, -1), (51, .ireturn, 52, 0, 0, 0)]
set_option maxRecDepth 100000 in
/-- Wh.convergentNumbered(II)J -/
noncomputable def ew_cd_43 : List ew_Ent := [(0, (.lconst 1), 1, 1, 0, 1), (1, (.lstore_n 3), 2, 0, 0, 0), (2, (.lconst 0), 3, 1, 0, 0), (3, (.lstore 5), 5, 0, 0, 0), (5, (.lconst 0), 6, 1, 0, 0), (6, (.lstore 7), 8, 0, 0, 0),
  (8, (.lconst 1), 9, 1, 0, 1), (9, (.lstore 9), 11, 0, 0, 0), (11, (.iconst 0), 12, 0, 0, 0), (12, (.istore 11), 14, 0, 0, 0), (14, (.iload 11), 16, 0, 0, 0), (16, (.iload_n 1), 17, 0, 0, 0),
  (17, (.if_icmp .gt 58), 20, 75, 0, 0), (20, (.iload 11), 22, 0, 0, 0), (22, (.bipush 64), 24, 0, 0, 64), (24, (.if_icmp .ge 51), 27, 75, 0, 0), (27, (.aload_n 0), 28, 0, 0, 0), (28, (.iload 11), 30, 0, 0, 0),
  (30, (.invokevirtual 57), 33, 42, 2, 1), (33, .i2l, 34, 0, 0, 0), (34, (.lstore 12), 36, 0, 0, 0), (36, (.lload 12), 38, 0, 0, 0), (38, (.lload_n 3), 39, 0, 0, 0), (39, .lmul, 40, 0, 0, 0),
  (40, (.lload 5), 42, 0, 0, 0), (42, .ladd, 43, 0, 0, 0), (43, (.lstore 14), 45, 0, 0, 0), (45, (.lload 12), 47, 0, 0, 0), (47, (.lload 7), 49, 0, 0, 0), (49, .lmul, 50, 0, 0, 0),
  (50, (.lload 9), 52, 0, 0, 0), (52, .ladd, 53, 0, 0, 0), (53, (.lstore 16), 55, 0, 0, 0), (55, (.lload_n 3), 56, 0, 0, 0), (56, (.lstore 5), 58, 0, 0, 0), (58, (.lload 7), 60, 0, 0, 0),
  (60, (.lstore 9), 62, 0, 0, 0), (62, (.lload 14), 64, 0, 0, 0), (64, (.lstore_n 3), 65, 0, 0, 0), (65, (.lload 16), 67, 0, 0, 0), (67, (.lstore 7), 69, 0, 0, 0), (69, (.iinc 11 1), 72, 0, 0, 0),
  (72, (.goto (-58)), 75, 14, 0, 0), (75, (.iload_n 2), 76, 0, 0, 0), (76, (.ifCond .ne 7), 79, 83, 0, 0), (79, (.lload_n 3), 80, 0, 0, 0), (80, (.goto 5), 83, 85, 0, 0), (83, (.lload 7), 85, 0, 0, 0),
  (85, .lreturn, 86, 0, 0, 0)]
set_option maxRecDepth 100000 in
/-- Wh.nearestBelowLine(I)I -/
noncomputable def ew_cd_44 : List ew_Ent := [(0, (.iconst 1), 1, 0, 0, 1), (1, (.istore_n 2), 2, 0, 0, 0), (2, (.aload_n 0), 3, 0, 0, 0), (3, (.aload_n 0), 4, 0, 0, 0), (4, (.getfield 18), 7, 6, 3, 0), (7, .i2l, 8, 0, 0, 0),
  (8, (.aload_n 0), 9, 0, 0, 0), (9, (.getfield 15), 12, 6, 1, 0), (12, .i2l, 13, 0, 0, 0), (13, (.invokestatic 46), 16, 17, 2, 0), (16, .l2i, 17, 0, 0, 0), (17, (.iconst 0), 18, 0, 0, 0),
  (18, (.invokevirtual 60), 21, 41, 3, 1), (21, .i2l, 22, 0, 0, 0), (22, (.lstore_n 3), 23, 0, 0, 0), (23, (.iconst 2), 24, 0, 0, 2), (24, (.istore 5), 26, 0, 0, 0), (26, (.iload 5), 28, 0, 0, 0),
  (28, (.iload_n 1), 29, 0, 0, 0), (29, (.if_icmp .gt 55), 32, 84, 0, 0), (32, (.aload_n 0), 33, 0, 0, 0), (33, (.aload_n 0), 34, 0, 0, 0), (34, (.getfield 18), 37, 6, 3, 0), (37, .i2l, 38, 0, 0, 0),
  (38, (.iload 5), 40, 0, 0, 0), (40, .i2l, 41, 0, 0, 0), (41, .lmul, 42, 0, 0, 0), (42, (.aload_n 0), 43, 0, 0, 0), (43, (.getfield 15), 46, 6, 1, 0), (46, .i2l, 47, 0, 0, 0),
  (47, (.invokestatic 46), 50, 17, 2, 0), (50, .l2i, 51, 0, 0, 0), (51, (.iconst 0), 52, 0, 0, 0), (52, (.invokevirtual 60), 55, 41, 3, 1), (55, .i2l, 56, 0, 0, 0), (56, (.lstore 6), 58, 0, 0, 0),
  (58, (.lload 6), 60, 0, 0, 0), (60, (.iload_n 2), 61, 0, 0, 0), (61, .i2l, 62, 0, 0, 0), (62, .lmul, 63, 0, 0, 0), (63, (.lload_n 3), 64, 0, 0, 0), (64, (.iload 5), 66, 0, 0, 0),
  (66, .i2l, 67, 0, 0, 0), (67, .lmul, 68, 0, 0, 0), (68, .lcmp, 69, 0, 0, 0), (69, (.ifCond .ge 9), 72, 78, 0, 0), (72, (.iload 5), 74, 0, 0, 0), (74, (.istore_n 2), 75, 0, 0, 0),
  (75, (.lload 6), 77, 0, 0, 0), (77, (.lstore_n 3), 78, 0, 0, 0), (78, (.iinc 5 1), 81, 0, 0, 0), (81, (.goto (-55)), 84, 26, 0, 0), (84, (.iload_n 2), 85, 0, 0, 0), (85, .ireturn, 86, 0, 0, 0)]
set_option maxRecDepth 100000 in
/-- Wh.ownPeriod()J -/
noncomputable def ew_cd_45 : List ew_Ent := [(0, (.aload_n 0), 1, 0, 0, 0), (1, (.getfield 9), 4, 6, 0, 0), (4, (.iconst 4), 5, 0, 0, 4), (5, (.if_icmp .ne 7), 8, 12, 0, 0), (8, (.ldc2_w 64), 11, 1, 0, -9223372036854775808), (11, .lreturn, 12, 0, 0, 0),
  (12, (.aload_n 0), 13, 0, 0, 0), (13, (.getfield 9), 16, 6, 0, 0), (16, (.iconst 3), 17, 0, 0, 3), (17, (.if_icmp .ne 15), 20, 32, 0, 0), (20, (.ldc2_w 44), 23, 1, 0, 2), (23, (.aload_n 0), 24, 0, 0, 0),
  (24, (.getfield 18), 27, 6, 3, 0), (27, .i2l, 28, 0, 0, 0), (28, .lmul, 29, 0, 0, 0), (29, (.goto 8), 32, 37, 0, 0), (32, (.aload_n 0), 33, 0, 0, 0), (33, (.getfield 18), 36, 6, 3, 0),
  (36, .i2l, 37, 0, 0, 0), (37, (.lstore_n 1), 38, 0, 0, 0), (38, (.aload_n 0), 39, 0, 0, 0), (39, (.getfield 15), 42, 6, 1, 0), (42, .i2l, 43, 0, 0, 0), (43, (.aload_n 0), 44, 0, 0, 0),
  (44, (.getfield 15), 47, 6, 1, 0), (47, .i2l, 48, 0, 0, 0), (48, (.lload_n 1), 49, 0, 0, 0), (49, (.invokestatic 66), 52, 20, 2, 0), (52, (.invokestatic 69), 55, 16, 2, 0), (55, (.lstore_n 3), 56, 0, 0, 0),
  (56, (.aload_n 0), 57, 0, 0, 0), (57, (.getfield 9), 60, 6, 0, 0), (60, (.iconst 2), 61, 0, 0, 2), (61, (.if_icmp .ne 17), 64, 78, 0, 0), (64, (.lload_n 3), 65, 0, 0, 0), (65, (.lconst 1), 66, 1, 0, 1),
  (66, .lcmp, 67, 0, 0, 0), (67, (.ifCond .le 11), 70, 78, 0, 0), (70, (.ldc2_w 44), 73, 1, 0, 2), (73, (.lload_n 3), 74, 0, 0, 0), (74, .lmul, 75, 0, 0, 0), (75, (.goto 4), 78, 79, 0, 0),
  (78, (.lload_n 3), 79, 0, 0, 0), (79, .lreturn, 80, 0, 0, 0)]
set_option maxRecDepth 100000 in
/-- Wh.hasPlace(I)Z -/
noncomputable def ew_cd_46 : List ew_Ent := [(0, (.iload_n 1), 1, 0, 0, 0), (1, (.ifCond .lt 15), 4, 16, 0, 0), (4, (.iload_n 1), 5, 0, 0, 0), (5, (.aload_n 0), 6, 0, 0, 0), (6, (.getfield 15), 9, 6, 1, 0), (9, (.if_icmp .ge 7), 12, 16, 0, 0),
  (12, (.iconst 1), 13, 0, 0, 1), (13, (.goto 4), 16, 17, 0, 0), (16, (.iconst 0), 17, 0, 0, 0), (17, .ireturn, 18, 0, 1, 0)]
set_option maxRecDepth 100000 in
/-- Wh.copied()LEclipseWheel$Wheel; -/
noncomputable def ew_cd_47 : List ew_Ent := [(0, (.new 10), 3, 6, 0, 0), (3, .dup, 4, 0, 0, 0), (4, (.aload_n 0), 5, 0, 0, 0), (5, (.getfield 9), 8, 6, 0, 0), (8, (.aload_n 0), 9, 0, 0, 0), (9, (.getfield 15), 12, 6, 1, 0),
  (12, (.aload_n 0), 13, 0, 0, 0), (13, (.getfield 18), 16, 6, 3, 0), (16, (.aload_n 0), 17, 0, 0, 0), (17, (.getfield 21), 20, 6, 4, 0), (20, (.aload_n 0), 21, 0, 0, 0), (21, (.getfield 24), 24, 6, 2, 0),
  (24, (.invokespecial 41), 27, 38, 6, 2), (27, .areturn, 28, 0, 0, 0)]
set_option maxRecDepth 100000 in
/-- Tape.<init>()V -/
noncomputable def ew_cd_48 : List ew_Ent := [(0, (.aload_n 0), 1, 0, 0, 0), (1, (.invokespecial 3), 4, 0, 1, 4), (4, (.aload_n 0), 5, 0, 0, 0), (5, (.bipush 80), 7, 0, 0, 80), (7, (.newarray .int), 9, 20, 0, 0), (9, (.putfield 11), 12, 4, 0, 2),
  (12, (.aload_n 0), 13, 0, 0, 0), (13, (.iconst 0), 14, 0, 0, 0), (14, (.putfield 15), 17, 4, 1, 0), (17, (.aload_n 0), 18, 0, 0, 0), (18, (.bipush 27), 20, 0, 0, 27), (20, (.newarray .int), 22, 20, 0, 0),
  (22, (.putfield 19), 25, 4, 2, 2), (25, (.aload_n 0), 26, 0, 0, 0), (26, (.bipush 27), 28, 0, 0, 27), (28, (.newarray .int), 30, 20, 0, 0), (30, (.putfield 22), 33, 4, 3, 2), (33, (.aload_n 0), 34, 0, 0, 0),
  (34, (.bipush 81), 36, 0, 0, 81), (36, (.newarray .int), 38, 20, 0, 0), (38, (.putfield 25), 41, 4, 4, 2), (41, (.aload_n 0), 42, 0, 0, 0), (42, (.iconst 0), 43, 0, 0, 0), (43, (.putfield 28), 46, 4, 5, 0),
  (46, (.aload_n 0), 47, 0, 0, 0), (47, (.iconst 0), 48, 0, 0, 0), (48, (.putfield 31), 51, 4, 6, 0), (51, (.aload_n 0), 52, 0, 0, 0), (52, (.iconst 0), 53, 0, 0, 0), (53, (.putfield 34), 56, 4, 7, 5),
  (56, .return_, 57, 0, 0, 0)]
set_option maxRecDepth 100000 in
/-- Tape.add(I)Z -/
noncomputable def ew_cd_49 : List ew_Ent := [(0, (.aload_n 0), 1, 0, 0, 0), (1, (.getfield 15), 4, 4, 1, 0), (4, (.ifCond .lt 12), 7, 16, 0, 0), (7, (.aload_n 0), 8, 0, 0, 0), (8, (.getfield 15), 11, 4, 1, 0), (11, (.bipush 80), 13, 0, 0, 80),
  (13, (.if_icmp .lt 5), 16, 18, 0, 0), (16, (.iconst 0), 17, 0, 0, 0), (17, .ireturn, 18, 0, 1, 0), (18, (.aload_n 0), 19, 0, 0, 0), (19, (.getfield 11), 22, 4, 0, 2), (22, (.aload_n 0), 23, 0, 0, 0),
  (23, (.getfield 15), 26, 4, 1, 0), (26, (.iload_n 1), 27, 0, 0, 0), (27, .iastore, 28, 0, 0, 0), (28, (.aload_n 0), 29, 0, 0, 0), (29, .dup, 30, 0, 0, 0), (30, (.getfield 15), 33, 4, 1, 0),
  (33, (.iconst 1), 34, 0, 0, 1), (34, .iadd, 35, 0, 0, 0), (35, (.putfield 15), 38, 4, 1, 0), (38, (.iconst 1), 39, 0, 0, 1), (39, .ireturn, 40, 0, 1, 0)]
set_option maxRecDepth 100000 in
/-- Tape.formFault()I -/
noncomputable def ew_cd_50 : List ew_Ent := [(0, (.aload_n 0), 1, 0, 0, 0), (1, (.iconst 0), 2, 0, 0, 0), (2, (.putfield 28), 5, 4, 5, 0), (5, (.aload_n 0), 6, 0, 0, 0), (6, (.iconst 0), 7, 0, 0, 0), (7, (.putfield 31), 10, 4, 6, 0),
  (10, (.aload_n 0), 11, 0, 0, 0), (11, (.iconst 0), 12, 0, 0, 0), (12, (.putfield 34), 15, 4, 7, 5), (15, (.iconst 1), 16, 0, 0, 1), (16, (.istore_n 1), 17, 0, 0, 0), (17, (.iconst 0), 18, 0, 0, 0),
  (18, (.istore_n 2), 19, 0, 0, 0), (19, (.iload_n 2), 20, 0, 0, 0), (20, (.bipush 27), 22, 0, 0, 27), (22, (.if_icmp .ge 40), 25, 62, 0, 0), (25, (.iload_n 1), 26, 0, 0, 0), (26, (.ifCond .eq 36), 29, 62, 0, 0),
  (29, (.aload_n 0), 30, 0, 0, 0), (30, (.iload_n 2), 31, 0, 0, 0), (31, (.invokevirtual 38), 34, 51, 2, 1), (34, (.aload_n 0), 35, 0, 0, 0), (35, (.getfield 34), 38, 4, 7, 0), (38, (.ifCond .ne 16), 41, 54, 0, 0),
  (41, (.aload_n 0), 42, 0, 0, 0), (42, (.bipush 59), 44, 0, 0, 59), (44, (.invokevirtual 42), 47, 58, 2, 1), (47, (.ifCond .eq 7), 50, 54, 0, 0), (50, (.iconst 1), 51, 0, 0, 1), (51, (.goto 4), 54, 55, 0, 0),
  (54, (.iconst 0), 55, 0, 0, 0), (55, (.istore_n 1), 56, 0, 0, 0), (56, (.iinc 2 1), 59, 0, 0, 0), (59, (.goto (-40)), 62, 19, 0, 0), (62, (.aload_n 0), 63, 0, 0, 0), (63, (.getfield 34), 66, 4, 7, 0),
  (66, (.ifCond .ne 14), 69, 80, 0, 0), (69, (.aload_n 0), 70, 0, 0, 0), (70, (.getfield 31), 73, 4, 6, 0), (73, (.aload_n 0), 74, 0, 0, 0), (74, (.getfield 15), 77, 4, 1, 0), (77, (.if_icmp .ge 13), 80, 90, 0, 0),
  (80, (.bipush (-100)), 82, 0, 0, -100), (82, (.aload_n 0), 83, 0, 0, 0), (83, (.getfield 31), 86, 4, 6, 0), (86, .isub, 87, 0, 0, 0), (87, (.goto 4), 90, 91, 0, 0), (90, (.iconst 0), 91, 0, 0, 0),
  (91, .ireturn, 92, 0, 0, 0)]
set_option maxRecDepth 100000 in
/-- Tape.parseStatement(I)V -/
noncomputable def ew_cd_51 : List ew_Ent := [(0, (.aload_n 0), 1, 0, 0, 0), (1, (.invokevirtual 46), 4, 52, 1, 1), (4, (.istore_n 2), 5, 0, 0, 0), (5, (.iload_n 2), 6, 0, 0, 0), (6, (.invokestatic 50), 9, 53, 1, 0), (9, (.iconst (-1)), 10, 0, 0, -1),
  (10, (.if_icmp .eq 7), 13, 17, 0, 0), (13, (.iconst 1), 14, 0, 0, 1), (14, (.goto 4), 17, 18, 0, 0), (17, (.iconst 0), 18, 0, 0, 0), (18, (.istore_n 3), 19, 0, 0, 0), (19, (.iload_n 2), 20, 0, 0, 0),
  (20, (.bipush 110), 22, 0, 0, 110), (22, (.if_icmp .eq 21), 25, 43, 0, 0), (25, (.iload_n 2), 26, 0, 0, 0), (26, (.bipush 97), 28, 0, 0, 97), (28, (.if_icmp .eq 15), 31, 43, 0, 0), (31, (.iload_n 2), 32, 0, 0, 0),
  (32, (.bipush 111), 34, 0, 0, 111), (34, (.if_icmp .eq 9), 37, 43, 0, 0), (37, (.iload_n 2), 38, 0, 0, 0), (38, (.bipush 105), 40, 0, 0, 105), (40, (.if_icmp .ne 7), 43, 47, 0, 0), (43, (.iconst 1), 44, 0, 0, 1),
  (44, (.goto 4), 47, 48, 0, 0), (47, (.iconst 0), 48, 0, 0, 0), (48, (.istore 4), 50, 0, 0, 0), (50, (.iload_n 1), 51, 0, 0, 0), (51, (.ifCond .lt 18), 54, 69, 0, 0), (54, (.iload_n 1), 55, 0, 0, 0),
  (55, (.bipush 27), 57, 0, 0, 27), (57, (.if_icmp .ge 12), 60, 69, 0, 0), (60, (.iload_n 3), 61, 0, 0, 0), (61, (.ifCond .ne 14), 64, 75, 0, 0), (64, (.iload 4), 66, 0, 0, 0), (66, (.ifCond .ne 9), 69, 75, 0, 0),
  (69, (.aload_n 0), 70, 0, 0, 0), (70, (.iconst 1), 71, 0, 0, 1), (71, (.putfield 34), 74, 4, 7, 5), (74, .return_, 75, 0, 0, 0), (75, (.aload_n 0), 76, 0, 0, 0), (76, (.getfield 22), 79, 4, 3, 2),
  (79, (.iload_n 1), 80, 0, 0, 0), (80, (.iload_n 2), 81, 0, 0, 0), (81, .iastore, 82, 0, 0, 0), (82, (.aload_n 0), 83, 0, 0, 0), (83, (.getfield 19), 86, 4, 2, 2), (86, (.iload_n 1), 87, 0, 0, 0),
  (87, (.aload_n 0), 88, 0, 0, 0), (88, (.getfield 31), 91, 4, 6, 0), (91, .iastore, 92, 0, 0, 0), (92, (.aload_n 0), 93, 0, 0, 0), (93, .dup, 94, 0, 0, 0), (94, (.getfield 31), 97, 4, 6, 0),
  (97, (.iconst 1), 98, 0, 0, 1), (98, .iadd, 99, 0, 0, 0), (99, (.putfield 31), 102, 4, 6, 0), (102, (.aload_n 0), 103, 0, 0, 0), (103, (.iload_n 1), 104, 0, 0, 0), (104, (.iconst 0), 105, 0, 0, 0),
  (105, (.aload_n 0), 106, 0, 0, 0), (106, (.invokevirtual 54), 109, 54, 1, 1), (109, (.invokevirtual 57), 112, 56, 4, 1), (112, (.iload_n 3), 113, 0, 0, 0), (113, (.ifCond .eq 8), 116, 121, 0, 0), (116, (.aload_n 0), 117, 0, 0, 0),
  (117, (.iload_n 1), 118, 0, 0, 0), (118, (.invokevirtual 61), 121, 57, 2, 1), (121, (.aload_n 0), 122, 0, 0, 0), (122, (.iload_n 1), 123, 0, 0, 0), (123, (.iconst 1), 124, 0, 0, 1), (124, .iadd, 125, 0, 0, 0),
  (125, (.putfield 28), 128, 4, 5, 0), (128, .return_, 129, 0, 0, 0)]
set_option maxRecDepth 100000 in
/-- Tape.byteHere()I -/
noncomputable def ew_cd_52 : List ew_Ent := [(0, (.aload_n 0), 1, 0, 0, 0), (1, (.getfield 31), 4, 4, 6, 0), (4, (.ifCond .lt 35), 7, 39, 0, 0), (7, (.aload_n 0), 8, 0, 0, 0), (8, (.getfield 31), 11, 4, 6, 0), (11, (.aload_n 0), 12, 0, 0, 0),
  (12, (.getfield 15), 15, 4, 1, 0), (15, (.if_icmp .ge 24), 18, 39, 0, 0), (18, (.aload_n 0), 19, 0, 0, 0), (19, (.getfield 31), 22, 4, 6, 0), (22, (.bipush 80), 24, 0, 0, 80), (24, (.if_icmp .ge 15), 27, 39, 0, 0),
  (27, (.aload_n 0), 28, 0, 0, 0), (28, (.getfield 11), 31, 4, 0, 2), (31, (.aload_n 0), 32, 0, 0, 0), (32, (.getfield 31), 35, 4, 6, 0), (35, .iaload, 36, 0, 0, 0), (36, (.goto 4), 39, 40, 0, 0),
  (39, (.iconst (-1)), 40, 0, 0, -1), (40, .ireturn, 41, 0, 0, 0)]
set_option maxRecDepth 100000 in
/-- Tape.kindOf(I)I -/
noncomputable def ew_cd_53 : List ew_Ent := [(0, (.iload_n 0), 1, 0, 0, 0), (1, (.lookupswitch 61 #[(98, 53), (103, 59), (104, 57), (108, 55), (119, 51)]), 52, 62, 0, 0), (52, (.iconst 0), 53, 0, 0, 0), (53, .ireturn, 54, 0, 0, 0), (54, (.iconst 1), 55, 0, 0, 1), (55, .ireturn, 56, 0, 0, 0),
  (56, (.iconst 2), 57, 0, 0, 2), (57, .ireturn, 58, 0, 0, 0), (58, (.iconst 3), 59, 0, 0, 3), (59, .ireturn, 60, 0, 0, 0), (60, (.iconst 4), 61, 0, 0, 4), (61, .ireturn, 62, 0, 0, 0),
  (62, (.iconst (-1)), 63, 0, 0, -1), (63, .ireturn, 64, 0, 0, 0)]
set_option maxRecDepth 100000 in
/-- Tape.parseNumber()I -/
noncomputable def ew_cd_54 : List ew_Ent := [(0, (.iconst 0), 1, 0, 0, 0), (1, (.istore_n 1), 2, 0, 0, 0), (2, (.iconst 0), 3, 0, 0, 0), (3, (.istore_n 2), 4, 0, 0, 0), (4, (.iconst 0), 5, 0, 0, 0), (5, (.istore_n 3), 6, 0, 0, 0),
  (6, (.iload_n 3), 7, 0, 0, 0), (7, (.bipush 6), 9, 0, 0, 6), (9, (.if_icmp .ge 53), 12, 62, 0, 0), (12, (.aload_n 0), 13, 0, 0, 0), (13, (.getfield 34), 16, 4, 7, 0), (16, (.ifCond .ne 46), 19, 62, 0, 0),
  (19, (.aload_n 0), 20, 0, 0, 0), (20, (.aload_n 0), 21, 0, 0, 0), (21, (.invokevirtual 46), 24, 52, 1, 1), (24, (.invokevirtual 64), 27, 55, 2, 1), (27, (.ifCond .eq 35), 30, 62, 0, 0), (30, (.iload_n 1), 31, 0, 0, 0),
  (31, (.bipush 10), 33, 0, 0, 10), (33, .imul, 34, 0, 0, 0), (34, (.aload_n 0), 35, 0, 0, 0), (35, (.invokevirtual 46), 38, 52, 1, 1), (38, .iadd, 39, 0, 0, 0), (39, (.bipush 48), 41, 0, 0, 48),
  (41, .isub, 42, 0, 0, 0), (42, (.istore_n 1), 43, 0, 0, 0), (43, (.iinc 2 1), 46, 0, 0, 0), (46, (.aload_n 0), 47, 0, 0, 0), (47, .dup, 48, 0, 0, 0), (48, (.getfield 31), 51, 4, 6, 0),
  (51, (.iconst 1), 52, 0, 0, 1), (52, .iadd, 53, 0, 0, 0), (53, (.putfield 31), 56, 4, 6, 0), (56, (.iinc 3 1), 59, 0, 0, 0), (59, (.goto (-53)), 62, 6, 0, 0), (62, (.aload_n 0), 63, 0, 0, 0),
  (63, (.aload_n 0), 64, 0, 0, 0), (64, (.getfield 34), 67, 4, 7, 0), (67, (.ifCond .ne 7), 70, 74, 0, 0), (70, (.iload_n 2), 71, 0, 0, 0), (71, (.ifCond .ne 7), 74, 78, 0, 0), (74, (.iconst 1), 75, 0, 0, 1),
  (75, (.goto 4), 78, 79, 0, 0), (78, (.iconst 0), 79, 0, 0, 0), (79, (.putfield 34), 82, 4, 7, 5), (82, (.iload_n 1), 83, 0, 0, 0), (83, .ireturn, 84, 0, 0, 0)]
set_option maxRecDepth 100000 in
/-- Tape.isDigit(I)Z -/
noncomputable def ew_cd_55 : List ew_Ent := [(0, (.iload_n 1), 1, 0, 0, 0), (1, (.bipush 48), 3, 0, 0, 48), (3, (.if_icmp .lt 13), 6, 16, 0, 0), (6, (.iload_n 1), 7, 0, 0, 0), (7, (.bipush 57), 9, 0, 0, 57), (9, (.if_icmp .gt 7), 12, 16, 0, 0),
  (12, (.iconst 1), 13, 0, 0, 1), (13, (.goto 4), 16, 17, 0, 0), (16, (.iconst 0), 17, 0, 0, 0), (17, .ireturn, 18, 0, 1, 0)]
set_option maxRecDepth 100000 in
/-- Tape.setNumber(III)V -/
noncomputable def ew_cd_56 : List ew_Ent := [(0, (.iload_n 1), 1, 0, 0, 0), (1, (.iconst 3), 2, 0, 0, 3), (2, .imul, 3, 0, 0, 0), (3, (.iload_n 2), 4, 0, 0, 0), (4, .iadd, 5, 0, 0, 0), (5, (.istore 4), 7, 0, 0, 0),
  (7, (.iload 4), 9, 0, 0, 0), (9, (.ifCond .lt 21), 12, 30, 0, 0), (12, (.iload 4), 14, 0, 0, 0), (14, (.aload_n 0), 15, 0, 0, 0), (15, (.getfield 25), 18, 4, 4, 2), (18, .arraylength, 19, 0, 0, 0),
  (19, (.if_icmp .ge 11), 22, 30, 0, 0), (22, (.aload_n 0), 23, 0, 0, 0), (23, (.getfield 25), 26, 4, 4, 2), (26, (.iload 4), 28, 0, 0, 0), (28, (.iload_n 3), 29, 0, 0, 0), (29, .iastore, 30, 0, 0, 0),
  (30, .return_, 31, 0, 0, 0)]
set_option maxRecDepth 100000 in
/-- Tape.parseWheel(I)V -/
noncomputable def ew_cd_57 : List ew_Ent := [(0, (.aload_n 0), 1, 0, 0, 0), (1, (.aload_n 0), 2, 0, 0, 0), (2, (.getfield 34), 5, 4, 7, 0), (5, (.ifCond .ne 12), 8, 17, 0, 0), (8, (.aload_n 0), 9, 0, 0, 0), (9, (.bipush 47), 11, 0, 0, 47),
  (11, (.invokevirtual 42), 14, 58, 2, 1), (14, (.ifCond .ne 7), 17, 21, 0, 0), (17, (.iconst 1), 18, 0, 0, 1), (18, (.goto 4), 21, 22, 0, 0), (21, (.iconst 0), 22, 0, 0, 0), (22, (.putfield 34), 25, 4, 7, 5),
  (25, (.aload_n 0), 26, 0, 0, 0), (26, (.iload_n 1), 27, 0, 0, 0), (27, (.iconst 1), 28, 0, 0, 1), (28, (.aload_n 0), 29, 0, 0, 0), (29, (.invokevirtual 54), 32, 54, 1, 1), (32, (.invokevirtual 57), 35, 56, 4, 1),
  (35, (.aload_n 0), 36, 0, 0, 0), (36, (.iload_n 1), 37, 0, 0, 0), (37, (.iconst 2), 38, 0, 0, 2), (38, (.aload_n 0), 39, 0, 0, 0), (39, (.getfield 34), 42, 4, 7, 0), (42, (.ifCond .ne 19), 45, 61, 0, 0),
  (45, (.aload_n 0), 46, 0, 0, 0), (46, (.bipush 43), 48, 0, 0, 43), (48, (.invokevirtual 42), 51, 58, 2, 1), (51, (.ifCond .eq 10), 54, 61, 0, 0), (54, (.aload_n 0), 55, 0, 0, 0), (55, (.invokevirtual 54), 58, 54, 1, 1),
  (58, (.goto 4), 61, 62, 0, 0), (61, (.iconst 0), 62, 0, 0, 0), (62, (.invokevirtual 57), 65, 56, 4, 1), (65, .return_, 66, 0, 0, 0)]
set_option maxRecDepth 100000 in
/-- Tape.accept(I)Z -/
noncomputable def ew_cd_58 : List ew_Ent := [(0, (.aload_n 0), 1, 0, 0, 0), (1, (.invokevirtual 46), 4, 52, 1, 1), (4, (.iload_n 1), 5, 0, 0, 0), (5, (.if_icmp .ne 7), 8, 12, 0, 0), (8, (.iconst 1), 9, 0, 0, 1), (9, (.goto 4), 12, 13, 0, 0),
  (12, (.iconst 0), 13, 0, 0, 0), (13, (.istore_n 2), 14, 0, 0, 0), (14, (.iload_n 2), 15, 0, 0, 0), (15, (.ifCond .eq 13), 18, 28, 0, 0), (18, (.aload_n 0), 19, 0, 0, 0), (19, .dup, 20, 0, 0, 0),
  (20, (.getfield 31), 23, 4, 6, 0), (23, (.iconst 1), 24, 0, 0, 1), (24, .iadd, 25, 0, 0, 0), (25, (.putfield 31), 28, 4, 6, 0), (28, (.iload_n 2), 29, 0, 0, 0), (29, .ireturn, 30, 0, 1, 0)]
set_option maxRecDepth 100000 in
/-- Tape.doingFault(I)I -/
noncomputable def ew_cd_59 : List ew_Ent := [(0, (.iload_n 1), 1, 0, 0, 0), (1, (.istore_n 2), 2, 0, 0, 0), (2, (.iconst 0), 3, 0, 0, 0), (3, (.istore_n 3), 4, 0, 0, 0), (4, (.iload_n 3), 5, 0, 0, 0), (5, (.aload_n 0), 6, 0, 0, 0),
  (6, (.getfield 28), 9, 4, 5, 0), (9, (.if_icmp .ge 51), 12, 60, 0, 0), (12, (.iload_n 3), 13, 0, 0, 0), (13, (.bipush 27), 15, 0, 0, 27), (15, (.if_icmp .ge 45), 18, 60, 0, 0), (18, (.aload_n 0), 19, 0, 0, 0),
  (19, (.iload_n 3), 20, 0, 0, 0), (20, (.iload_n 2), 21, 0, 0, 0), (21, (.invokevirtual 67), 24, 60, 3, 1), (24, (.ifCond .ne 14), 27, 38, 0, 0), (27, (.sipush (-300)), 30, 0, 0, -300), (30, (.aload_n 0), 31, 0, 0, 0),
  (31, (.getfield 19), 34, 4, 2, 2), (34, (.iload_n 3), 35, 0, 0, 0), (35, .iaload, 36, 0, 0, 0), (36, .isub, 37, 0, 0, 0), (37, .ireturn, 38, 0, 0, 0), (38, (.aload_n 0), 39, 0, 0, 0),
  (39, (.getfield 22), 42, 4, 3, 2), (42, (.iload_n 3), 43, 0, 0, 0), (43, .iaload, 44, 0, 0, 0), (44, (.invokestatic 50), 47, 53, 1, 0), (47, (.iconst (-1)), 48, 0, 0, -1), (48, (.if_icmp .eq 6), 51, 54, 0, 0),
  (51, (.iinc 2 1), 54, 0, 0, 0), (54, (.iinc 3 1), 57, 0, 0, 0), (57, (.goto (-53)), 60, 4, 0, 0), (60, (.iconst 0), 61, 0, 0, 0), (61, .ireturn, 62, 0, 0, 0)]
set_option maxRecDepth 100000 in
/-- Tape.canBeDone(II)Z -/
noncomputable def ew_cd_60 : List ew_Ent := [(0, (.aload_n 0), 1, 0, 0, 0), (1, (.iload_n 1), 2, 0, 0, 0), (2, (.iconst 0), 3, 0, 0, 0), (3, (.invokevirtual 71), 6, 61, 3, 1), (6, (.istore_n 3), 7, 0, 0, 0), (7, (.aload_n 0), 8, 0, 0, 0),
  (8, (.iload_n 1), 9, 0, 0, 0), (9, (.invokevirtual 75), 12, 62, 2, 1), (12, (.lookupswitch 78 #[(97, 55), (105, 72), (110, 44), (111, 66)]), 56, 90, 0, 0), (56, (.iload_n 3), 57, 0, 0, 0), (57, (.iload_n 2), 58, 0, 0, 0), (58, (.if_icmp .ge 7), 61, 65, 0, 0),
  (61, (.iconst 1), 62, 0, 0, 1), (62, (.goto 4), 65, 66, 0, 0), (65, (.iconst 0), 66, 0, 0, 0), (66, .ireturn, 67, 0, 1, 0), (67, (.iload_n 3), 68, 0, 0, 0), (68, (.iload_n 2), 69, 0, 0, 0),
  (69, (.if_icmp .ge 7), 72, 76, 0, 0), (72, (.iconst 1), 73, 0, 0, 1), (73, (.goto 4), 76, 77, 0, 0), (76, (.iconst 0), 77, 0, 0, 0), (77, .ireturn, 78, 0, 1, 0), (78, (.iconst 0), 79, 0, 0, 0),
  (79, (.iload_n 3), 80, 0, 0, 0), (80, (.invokestatic 80), 83, 72, 2, 0), (83, .ireturn, 84, 0, 1, 0), (84, (.iconst 1), 85, 0, 0, 1), (85, (.iload_n 3), 86, 0, 0, 0), (86, (.invokestatic 80), 89, 72, 2, 0),
  (89, .ireturn, 90, 0, 1, 0), (90, (.iload_n 2), 91, 0, 0, 0), (91, (.bipush 6), 93, 0, 0, 6), (93, (.if_icmp .ge 34), 96, 127, 0, 0), (96, (.aload_n 0), 97, 0, 0, 0), (97, (.iload_n 1), 98, 0, 0, 0),
  (98, (.invokevirtual 75), 101, 62, 2, 1), (101, (.invokestatic 50), 104, 53, 1, 0), (104, (.aload_n 0), 105, 0, 0, 0), (105, (.iload_n 1), 106, 0, 0, 0), (106, (.iconst 1), 107, 0, 0, 1), (107, (.invokevirtual 71), 110, 61, 3, 1),
  (110, (.iload_n 3), 111, 0, 0, 0), (111, (.aload_n 0), 112, 0, 0, 0), (112, (.iload_n 1), 113, 0, 0, 0), (113, (.iconst 2), 114, 0, 0, 2), (114, (.invokevirtual 71), 117, 61, 3, 1), (117, (.invokestatic 83), 120, 33, 4, 0),
  (120, (.ifCond .eq 7), 123, 127, 0, 0), (123, (.iconst 1), 124, 0, 0, 1), (124, (.goto 4), 127, 128, 0, 0), (127, (.iconst 0), 128, 0, 0, 0), (128, .ireturn, 129, 0, 1, 0)]
set_option maxRecDepth 100000 in
/-- Tape.numberOf(II)I -/
noncomputable def ew_cd_61 : List ew_Ent := [(0, (.iload_n 1), 1, 0, 0, 0), (1, (.iconst 3), 2, 0, 0, 3), (2, .imul, 3, 0, 0, 0), (3, (.iload_n 2), 4, 0, 0, 0), (4, .iadd, 5, 0, 0, 0), (5, (.istore_n 3), 6, 0, 0, 0),
  (6, (.iload_n 3), 7, 0, 0, 0), (7, (.ifCond .lt 21), 10, 28, 0, 0), (10, (.iload_n 3), 11, 0, 0, 0), (11, (.aload_n 0), 12, 0, 0, 0), (12, (.getfield 25), 15, 4, 4, 2), (15, .arraylength, 16, 0, 0, 0),
  (16, (.if_icmp .ge 12), 19, 28, 0, 0), (19, (.aload_n 0), 20, 0, 0, 0), (20, (.getfield 25), 23, 4, 4, 2), (23, (.iload_n 3), 24, 0, 0, 0), (24, .iaload, 25, 0, 0, 0), (25, (.goto 4), 28, 29, 0, 0),
  (28, (.iconst 0), 29, 0, 0, 0), (29, .ireturn, 30, 0, 0, 0)]
set_option maxRecDepth 100000 in
/-- Tape.letterOf(I)I -/
noncomputable def ew_cd_62 : List ew_Ent := [(0, (.iload_n 1), 1, 0, 0, 0), (1, (.ifCond .lt 18), 4, 19, 0, 0), (4, (.iload_n 1), 5, 0, 0, 0), (5, (.bipush 27), 7, 0, 0, 27), (7, (.if_icmp .ge 12), 10, 19, 0, 0), (10, (.aload_n 0), 11, 0, 0, 0),
  (11, (.getfield 22), 14, 4, 3, 2), (14, (.iload_n 1), 15, 0, 0, 0), (15, .iaload, 16, 0, 0, 0), (16, (.goto 4), 19, 20, 0, 0), (19, (.iconst 0), 20, 0, 0, 0), (20, .ireturn, 21, 0, 0, 0)]
set_option maxRecDepth 100000 in
/-- Setup.<init>()V -/
noncomputable def ew_cd_63 : List ew_Ent := [(0, (.aload_n 0), 1, 0, 0, 0), (1, (.invokespecial 3), 4, 0, 1, 4), (4, (.aload_n 0), 5, 0, 0, 0), (5, (.bipush 6), 7, 0, 0, 6), (7, (.anewarray 9), 10, 22, 0, 0), (10, (.putfield 11), 13, 2, 0, 2),
  (13, (.aload_n 0), 14, 0, 0, 0), (14, (.bipush 6), 16, 0, 0, 6), (16, (.newarray .int), 18, 20, 0, 0), (18, .dup, 19, 0, 0, 0), (19, (.iconst 0), 20, 0, 0, 0), (20, (.bipush 15), 22, 0, 0, 15),
  (22, .iastore, 23, 0, 0, 0), (23, .dup, 24, 0, 0, 0), (24, (.iconst 1), 25, 0, 0, 1), (25, (.bipush 9), 27, 0, 0, 9), (27, .iastore, 28, 0, 0, 0), (28, .dup, 29, 0, 0, 0),
  (29, (.iconst 2), 30, 0, 0, 2), (30, (.bipush 20), 32, 0, 0, 20), (32, .iastore, 33, 0, 0, 0), (33, .dup, 34, 0, 0, 0), (34, (.iconst 3), 35, 0, 0, 3), (35, (.bipush 59), 37, 0, 0, 59),
  (37, .iastore, 38, 0, 0, 0), (38, .dup, 39, 0, 0, 0), (39, (.iconst 4), 40, 0, 0, 4), (40, (.iconst 2), 41, 0, 0, 2), (41, .iastore, 42, 0, 0, 0), (42, .dup, 43, 0, 0, 0),
  (43, (.iconst 5), 44, 0, 0, 5), (44, (.iconst 4), 45, 0, 0, 4), (45, .iastore, 46, 0, 0, 0), (46, (.putfield 17), 49, 2, 1, 2), (49, (.aload_n 0), 50, 0, 0, 0), (50, (.iconst 0), 51, 0, 0, 0),
  (51, (.putfield 21), 54, 2, 2, 0), (54, (.aload_n 0), 55, 0, 0, 0), (55, (.iconst 0), 56, 0, 0, 0), (56, (.putfield 25), 59, 2, 3, 0), (59, (.aload_n 0), 60, 0, 0, 0), (60, (.iconst (-1)), 61, 0, 0, -1),
  (61, (.putfield 28), 64, 2, 4, 0), (64, .return_, 65, 0, 0, 0)]
set_option maxRecDepth 100000 in
/-- Setup.addWheel(IIII)I -/
noncomputable def ew_cd_64 : List ew_Ent := [(0, (.aload_n 0), 1, 0, 0, 0), (1, (.getfield 21), 4, 2, 2, 0), (4, (.bipush 6), 6, 0, 0, 6), (6, (.if_icmp .lt 6), 9, 12, 0, 0), (9, (.bipush (-4)), 11, 0, 0, -4), (11, .ireturn, 12, 0, 0, 0),
  (12, (.aload_n 0), 13, 0, 0, 0), (13, (.getfield 21), 16, 2, 2, 0), (16, (.istore 5), 18, 0, 0, 0), (18, (.aload_n 0), 19, 0, 0, 0), (19, (.getfield 11), 22, 2, 0, 2), (22, (.iload 5), 24, 0, 0, 0),
  (24, (.new 9), 27, 6, 0, 0), (27, .dup, 28, 0, 0, 0), (28, (.iload_n 1), 29, 0, 0, 0), (29, (.iload_n 2), 30, 0, 0, 0), (30, (.iload_n 3), 31, 0, 0, 0), (31, (.iload 4), 33, 0, 0, 0),
  (33, (.iload_n 1), 34, 0, 0, 0), (34, (.iload 4), 36, 0, 0, 0), (36, (.iload 5), 38, 0, 0, 0), (38, (.invokestatic 49), 41, 35, 3, 0), (41, (.invokespecial 53), 44, 38, 6, 2), (44, .aastore, 45, 0, 0, 0),
  (45, (.aload_n 0), 46, 0, 0, 0), (46, .dup, 47, 0, 0, 0), (47, (.getfield 21), 50, 2, 2, 0), (50, (.iconst 1), 51, 0, 0, 1), (51, .iadd, 52, 0, 0, 0), (52, (.putfield 21), 55, 2, 2, 0),
  (55, (.iload 5), 57, 0, 0, 0), (57, .ireturn, 58, 0, 0, 0)]
set_option maxRecDepth 100000 in
/-- Setup.numbered(I)LEclipseWheel$Wheel; -/
noncomputable def ew_cd_65 : List ew_Ent := [(0, (.iload_n 1), 1, 0, 0, 0), (1, (.ifCond .lt 26), 4, 27, 0, 0), (4, (.iload_n 1), 5, 0, 0, 0), (5, (.aload_n 0), 6, 0, 0, 0), (6, (.getfield 21), 9, 2, 2, 0), (9, (.if_icmp .ge 18), 12, 27, 0, 0),
  (12, (.iload_n 1), 13, 0, 0, 0), (13, (.bipush 6), 15, 0, 0, 6), (15, (.if_icmp .ge 12), 18, 27, 0, 0), (18, (.aload_n 0), 19, 0, 0, 0), (19, (.getfield 11), 22, 2, 0, 2), (22, (.iload_n 1), 23, 0, 0, 0),
  (23, .aaload, 24, 0, 0, 0), (24, (.goto 4), 27, 28, 0, 0), (27, .aconst_null, 28, 0, 0, 0), (28, .areturn, 29, 0, 0, 0)]
set_option maxRecDepth 100000 in
/-- Setup.placeAt(II)I -/
noncomputable def ew_cd_66 : List ew_Ent := [(0, (.aload_n 0), 1, 0, 0, 0), (1, (.iload_n 1), 2, 0, 0, 0), (2, (.invokevirtual 45), 5, 65, 2, 1), (5, (.astore_n 3), 6, 0, 0, 0), (6, (.aload_n 3), 7, 0, 0, 0), (7, (.ifnonnull 7), 10, 14, 0, 0),
  (10, (.iconst 0), 11, 0, 0, 0), (11, (.goto 18), 14, 29, 0, 0), (14, (.aload_n 0), 15, 0, 0, 0), (15, (.iload_n 1), 16, 0, 0, 0), (16, (.iload_n 2), 17, 0, 0, 0), (17, (.invokevirtual 77), 20, 67, 3, 1),
  (20, (.aload_n 3), 21, 0, 0, 0), (21, (.getfield 63), 24, 6, 1, 0), (24, .i2l, 25, 0, 0, 0), (25, (.invokestatic 74), 28, 17, 2, 0), (28, .l2i, 29, 0, 0, 0), (29, .ireturn, 30, 0, 0, 0)]
set_option maxRecDepth 100000 in
/-- Setup.wayAt(II)J -/
noncomputable def ew_cd_67 : List ew_Ent := [(0, (.iload_n 1), 1, 0, 0, 0), (1, (.istore_n 3), 2, 0, 0, 0), (2, (.aload_n 0), 3, 0, 0, 0), (3, (.iload_n 3), 4, 0, 0, 0), (4, (.invokevirtual 45), 7, 65, 2, 1), (7, (.astore 4), 9, 0, 0, 0),
  (9, (.iload_n 3), 10, 0, 0, 0), (10, (.ifCond .le 30), 13, 40, 0, 0), (13, (.aload 4), 15, 0, 0, 0), (15, (.ifnull 25), 18, 40, 0, 0), (18, (.aload 4), 20, 0, 0, 0), (20, (.getfield 56), 23, 6, 0, 0),
  (23, (.iconst 4), 24, 0, 0, 4), (24, (.if_icmp .ne 16), 27, 40, 0, 0), (27, (.iinc 3 (-1)), 30, 0, 0, 0), (30, (.aload_n 0), 31, 0, 0, 0), (31, (.iload_n 3), 32, 0, 0, 0), (32, (.invokevirtual 45), 35, 65, 2, 1),
  (35, (.astore 4), 37, 0, 0, 0), (37, (.goto (-28)), 40, 9, 0, 0), (40, (.iload_n 2), 41, 0, 0, 0), (41, .i2l, 42, 0, 0, 0), (42, (.lstore 5), 44, 0, 0, 0), (44, (.iload_n 3), 45, 0, 0, 0),
  (45, (.iload_n 1), 46, 0, 0, 0), (46, (.if_icmp .ge 45), 49, 91, 0, 0), (49, (.aload 4), 51, 0, 0, 0), (51, (.ifnull 40), 54, 91, 0, 0), (54, (.aload 4), 56, 0, 0, 0), (56, (.lload 5), 58, 0, 0, 0),
  (58, (.invokevirtual 59), 61, 40, 2, 1), (61, (.aload 4), 63, 0, 0, 0), (63, (.getfield 63), 66, 6, 1, 0), (66, .i2l, 67, 0, 0, 0), (67, (.invokestatic 66), 70, 16, 2, 0), (70, (.ldc2_w 72), 73, 1, 0, 100000),
  (73, (.invokestatic 74), 76, 17, 2, 0), (76, (.lstore 5), 78, 0, 0, 0), (78, (.iinc 3 1), 81, 0, 0, 0), (81, (.aload_n 0), 82, 0, 0, 0), (82, (.iload_n 3), 83, 0, 0, 0), (83, (.invokevirtual 45), 86, 65, 2, 1),
  (86, (.astore 4), 88, 0, 0, 0), (88, (.goto (-44)), 91, 44, 0, 0), (91, (.aload 4), 93, 0, 0, 0), (93, (.ifnonnull 7), 96, 100, 0, 0), (96, (.lconst 0), 97, 1, 0, 0), (97, (.goto 10), 100, 107, 0, 0),
  (100, (.aload 4), 102, 0, 0, 0), (102, (.lload 5), 104, 0, 0, 0), (104, (.invokevirtual 59), 107, 40, 2, 1), (107, .lreturn, 108, 0, 0, 0)]
set_option maxRecDepth 100000 in
/-- Setup.dropLast()I -/
noncomputable def ew_cd_68 : List ew_Ent := [(0, (.aload_n 0), 1, 0, 0, 0), (1, (.getfield 21), 4, 2, 2, 0), (4, (.iconst 1), 5, 0, 0, 1), (5, .isub, 6, 0, 0, 0), (6, (.istore_n 1), 7, 0, 0, 0), (7, (.iload_n 1), 8, 0, 0, 0),
  (8, (.ifCond .lt 9), 11, 17, 0, 0), (11, (.iload_n 1), 12, 0, 0, 0), (12, (.bipush 6), 14, 0, 0, 6), (14, (.if_icmp .lt 6), 17, 20, 0, 0), (17, (.bipush (-3)), 19, 0, 0, -3), (19, .ireturn, 20, 0, 0, 0),
  (20, (.aload_n 0), 21, 0, 0, 0), (21, (.getfield 11), 24, 2, 0, 2), (24, (.iload_n 1), 25, 0, 0, 0), (25, .aconst_null, 26, 0, 0, 0), (26, .aastore, 27, 0, 0, 0), (27, (.aload_n 0), 28, 0, 0, 0),
  (28, (.iload_n 1), 29, 0, 0, 0), (29, (.putfield 21), 32, 2, 2, 0), (32, (.aload_n 0), 33, 0, 0, 0), (33, (.aload_n 0), 34, 0, 0, 0), (34, (.getfield 25), 37, 2, 3, 0), (37, (.iload_n 1), 38, 0, 0, 0),
  (38, (.if_icmp .ne 7), 41, 45, 0, 0), (41, (.iconst 0), 42, 0, 0, 0), (42, (.goto 7), 45, 49, 0, 0), (45, (.aload_n 0), 46, 0, 0, 0), (46, (.getfield 25), 49, 2, 3, 0), (49, (.putfield 25), 52, 2, 3, 0),
  (52, (.aload_n 0), 53, 0, 0, 0), (53, (.aload_n 0), 54, 0, 0, 0), (54, (.getfield 28), 57, 2, 4, 0), (57, (.iload_n 1), 58, 0, 0, 0), (58, (.if_icmp .ne 7), 61, 65, 0, 0), (61, (.iconst (-1)), 62, 0, 0, -1),
  (62, (.goto 7), 65, 69, 0, 0), (65, (.aload_n 0), 66, 0, 0, 0), (66, (.getfield 28), 69, 2, 4, 0), (69, (.putfield 28), 72, 2, 4, 0), (72, (.aload_n 0), 73, 0, 0, 0), (73, (.getfield 21), 76, 2, 2, 0),
  (76, .ireturn, 77, 0, 0, 0)]
set_option maxRecDepth 100000 in
/-- Setup.has(I)Z -/
noncomputable def ew_cd_69 : List ew_Ent := [(0, (.aload_n 0), 1, 0, 0, 0), (1, (.iload_n 1), 2, 0, 0, 0), (2, (.invokevirtual 45), 5, 65, 2, 1), (5, (.ifnull 7), 8, 12, 0, 0), (8, (.iconst 1), 9, 0, 0, 1), (9, (.goto 4), 12, 13, 0, 0),
  (12, (.iconst 0), 13, 0, 0, 0), (13, .ireturn, 14, 0, 1, 0)]
set_option maxRecDepth 100000 in
/-- Setup.roundsAt(II)J -/
noncomputable def ew_cd_70 : List ew_Ent := [(0, (.aload_n 0), 1, 0, 0, 0), (1, (.iload_n 1), 2, 0, 0, 0), (2, (.invokevirtual 45), 5, 65, 2, 1), (5, (.astore_n 3), 6, 0, 0, 0), (6, (.aload_n 3), 7, 0, 0, 0), (7, (.ifnonnull 7), 10, 14, 0, 0),
  (10, (.lconst 0), 11, 1, 0, 0), (11, (.goto 17), 14, 28, 0, 0), (14, (.aload_n 0), 15, 0, 0, 0), (15, (.iload_n 1), 16, 0, 0, 0), (16, (.iload_n 2), 17, 0, 0, 0), (17, (.invokevirtual 77), 20, 67, 3, 1),
  (20, (.aload_n 3), 21, 0, 0, 0), (21, (.getfield 63), 24, 6, 1, 0), (24, .i2l, 25, 0, 0, 0), (25, (.invokestatic 66), 28, 16, 2, 0), (28, .lreturn, 29, 0, 0, 0)]
set_option maxRecDepth 100000 in
/-- Setup.isRule(I)Z -/
noncomputable def ew_cd_71 : List ew_Ent := [(0, (.iload_n 0), 1, 0, 0, 0), (1, (.ifCond .lt 13), 4, 14, 0, 0), (4, (.iload_n 0), 5, 0, 0, 0), (5, (.bipush 6), 7, 0, 0, 6), (7, (.if_icmp .ge 7), 10, 14, 0, 0), (10, (.iconst 1), 11, 0, 0, 1),
  (11, (.goto 4), 14, 15, 0, 0), (14, (.iconst 0), 15, 0, 0, 0), (15, .ireturn, 16, 0, 1, 0)]
set_option maxRecDepth 100000 in
/-- Setup.isWithinRule(II)Z -/
noncomputable def ew_cd_72 : List ew_Ent := [(0, (.iload_n 0), 1, 0, 0, 0), (1, (.invokestatic 31), 4, 71, 1, 0), (4, (.ifCond .eq 25), 7, 29, 0, 0), (7, (.iload_n 1), 8, 0, 0, 0), (8, (.getstatic 35), 11, 0, 0, 1), (11, (.iload_n 0), 12, 0, 0, 0),
  (12, .iaload, 13, 0, 0, 0), (13, (.if_icmp .lt 16), 16, 29, 0, 0), (16, (.iload_n 1), 17, 0, 0, 0), (17, (.getstatic 38), 20, 0, 0, 2), (20, (.iload_n 0), 21, 0, 0, 0), (21, .iaload, 22, 0, 0, 0),
  (22, (.if_icmp .gt 7), 25, 29, 0, 0), (25, (.iconst 1), 26, 0, 0, 1), (26, (.goto 4), 29, 30, 0, 0), (29, (.iconst 0), 30, 0, 0, 0), (30, .ireturn, 31, 0, 1, 0)]
set_option maxRecDepth 100000 in
/-- Setup.ruled(I)I -/
noncomputable def ew_cd_73 : List ew_Ent := [(0, (.iload_n 1), 1, 0, 0, 0), (1, (.invokestatic 31), 4, 71, 1, 0), (4, (.ifCond .eq 12), 7, 16, 0, 0), (7, (.aload_n 0), 8, 0, 0, 0), (8, (.getfield 17), 11, 2, 1, 2), (11, (.iload_n 1), 12, 0, 0, 0),
  (12, .iaload, 13, 0, 0, 0), (13, (.goto 4), 16, 17, 0, 0), (16, (.iconst (-1)), 17, 0, 0, -1), (17, .ireturn, 18, 0, 0, 0)]
set_option maxRecDepth 100000 in
/-- Setup.setRule(II)V -/
noncomputable def ew_cd_74 : List ew_Ent := [(0, (.iload_n 1), 1, 0, 0, 0), (1, (.invokestatic 31), 4, 71, 1, 0), (4, (.ifCond .eq 10), 7, 14, 0, 0), (7, (.aload_n 0), 8, 0, 0, 0), (8, (.getfield 17), 11, 2, 1, 2), (11, (.iload_n 1), 12, 0, 0, 0),
  (12, (.iload_n 2), 13, 0, 0, 0), (13, .iastore, 14, 0, 0, 0), (14, .return_, 15, 0, 0, 0)]
set_option maxRecDepth 100000 in
/-- Setup.eclipseAt(I)I -/
noncomputable def ew_cd_75 : List ew_Ent := [(0, (.aload_n 0), 1, 0, 0, 0), (1, (.getfield 21), 4, 2, 2, 0), (4, (.ifCond .ne 5), 7, 9, 0, 0), (7, (.iconst 0), 8, 0, 0, 0), (8, .ireturn, 9, 0, 0, 0), (9, (.aload_n 0), 10, 0, 0, 0),
  (10, (.iload_n 1), 11, 0, 0, 0), (11, (.invokevirtual 93), 14, 76, 2, 1), (14, (.istore_n 2), 15, 0, 0, 0), (15, (.iload_n 2), 16, 0, 0, 0), (16, (.aload_n 0), 17, 0, 0, 0), (17, (.getfield 17), 20, 2, 1, 2),
  (20, (.iconst 0), 21, 0, 0, 0), (21, .iaload, 22, 0, 0, 0), (22, (.if_icmp .le 5), 25, 27, 0, 0), (25, (.iconst 0), 26, 0, 0, 0), (26, .ireturn, 27, 0, 0, 0), (27, (.iload_n 2), 28, 0, 0, 0),
  (28, (.aload_n 0), 29, 0, 0, 0), (29, (.getfield 17), 32, 2, 1, 2), (32, (.iconst 1), 33, 0, 0, 1), (33, .iaload, 34, 0, 0, 0), (34, (.if_icmp .le 5), 37, 39, 0, 0), (37, (.iconst 1), 38, 0, 0, 1),
  (38, .ireturn, 39, 0, 0, 0), (39, (.aload_n 0), 40, 0, 0, 0), (40, (.aload_n 0), 41, 0, 0, 0), (41, (.getfield 28), 44, 2, 4, 0), (44, (.invokevirtual 45), 47, 65, 2, 1), (47, (.astore_n 3), 48, 0, 0, 0),
  (48, (.aload_n 3), 49, 0, 0, 0), (49, (.ifnull 30), 52, 79, 0, 0), (52, (.aload_n 3), 53, 0, 0, 0), (53, (.aload_n 0), 54, 0, 0, 0), (54, (.aload_n 0), 55, 0, 0, 0), (55, (.getfield 28), 58, 2, 4, 0),
  (58, (.iload_n 1), 59, 0, 0, 0), (59, (.invokevirtual 81), 62, 66, 3, 1), (62, (.iconst 0), 63, 0, 0, 0), (63, (.invokevirtual 85), 66, 41, 3, 1), (66, (.aload_n 0), 67, 0, 0, 0), (67, (.getfield 17), 70, 2, 1, 2),
  (70, (.iconst 2), 71, 0, 0, 2), (71, .iaload, 72, 0, 0, 0), (72, (.if_icmp .le 7), 75, 79, 0, 0), (75, (.iconst 3), 76, 0, 0, 3), (76, (.goto 4), 79, 80, 0, 0), (79, (.iconst 2), 80, 0, 0, 2),
  (80, .ireturn, 81, 0, 0, 0)]
set_option maxRecDepth 100000 in
/-- Setup.farAt(I)I -/
noncomputable def ew_cd_76 : List ew_Ent := [(0, (.aload_n 0), 1, 0, 0, 0), (1, (.aload_n 0), 2, 0, 0, 0), (2, (.getfield 25), 5, 2, 3, 0), (5, (.invokevirtual 45), 8, 65, 2, 1), (8, (.astore_n 2), 9, 0, 0, 0), (9, (.aload_n 2), 10, 0, 0, 0),
  (10, (.ifnonnull 5), 13, 15, 0, 0), (13, (.iconst 0), 14, 0, 0, 0), (14, .ireturn, 15, 0, 0, 0), (15, (.aload_n 0), 16, 0, 0, 0), (16, (.aload_n 0), 17, 0, 0, 0), (17, (.getfield 25), 20, 2, 3, 0),
  (20, (.iload_n 1), 21, 0, 0, 0), (21, (.invokevirtual 81), 24, 66, 3, 1), (24, (.istore_n 3), 25, 0, 0, 0), (25, (.aload_n 2), 26, 0, 0, 0), (26, (.iload_n 3), 27, 0, 0, 0), (27, (.iconst 0), 28, 0, 0, 0),
  (28, (.invokevirtual 85), 31, 41, 3, 1), (31, (.aload_n 2), 32, 0, 0, 0), (32, (.iload_n 3), 33, 0, 0, 0), (33, (.aload_n 2), 34, 0, 0, 0), (34, (.getfield 63), 37, 6, 1, 0), (37, (.iconst 2), 38, 0, 0, 2),
  (38, .idiv, 39, 0, 0, 0), (39, (.invokevirtual 85), 42, 41, 3, 1), (42, (.invokestatic 88), 45, 3, 2, 0), (45, .ireturn, 46, 0, 0, 0)]
set_option maxRecDepth 100000 in
/-- Setup.sideAt(I)I -/
noncomputable def ew_cd_77 : List ew_Ent := [(0, (.aload_n 0), 1, 0, 0, 0), (1, (.aload_n 0), 2, 0, 0, 0), (2, (.getfield 25), 5, 2, 3, 0), (5, (.invokevirtual 45), 8, 65, 2, 1), (8, (.astore_n 2), 9, 0, 0, 0), (9, (.aload_n 2), 10, 0, 0, 0),
  (10, (.ifnonnull 5), 13, 15, 0, 0), (13, (.iconst 0), 14, 0, 0, 0), (14, .ireturn, 15, 0, 0, 0), (15, (.aload_n 0), 16, 0, 0, 0), (16, (.aload_n 0), 17, 0, 0, 0), (17, (.getfield 25), 20, 2, 3, 0),
  (20, (.iload_n 1), 21, 0, 0, 0), (21, (.invokevirtual 81), 24, 66, 3, 1), (24, (.istore_n 3), 25, 0, 0, 0), (25, (.aload_n 2), 26, 0, 0, 0), (26, (.iload_n 3), 27, 0, 0, 0), (27, (.aload_n 2), 28, 0, 0, 0),
  (28, (.getfield 63), 31, 6, 1, 0), (31, (.iconst 2), 32, 0, 0, 2), (32, .idiv, 33, 0, 0, 0), (33, (.invokevirtual 85), 36, 41, 3, 1), (36, (.aload_n 2), 37, 0, 0, 0), (37, (.iload_n 3), 38, 0, 0, 0),
  (38, (.iconst 0), 39, 0, 0, 0), (39, (.invokevirtual 85), 42, 41, 3, 1), (42, (.if_icmp .ge 7), 45, 49, 0, 0), (45, (.iconst 1), 46, 0, 0, 1), (46, (.goto 4), 49, 50, 0, 0), (49, (.iconst 0), 50, 0, 0, 0),
  (50, .ireturn, 51, 0, 0, 0)]
set_option maxRecDepth 100000 in
/-- Setup.relatives(II)I -/
noncomputable def ew_cd_78 : List ew_Ent := [(0, (.aload_n 0), 1, 0, 0, 0), (1, (.iload_n 1), 2, 0, 0, 0), (2, (.invokevirtual 97), 5, 77, 2, 1), (5, (.istore_n 3), 6, 0, 0, 0), (6, (.iconst 0), 7, 0, 0, 0), (7, (.istore 4), 9, 0, 0, 0),
  (9, (.iconst 1), 10, 0, 0, 1), (10, (.istore 5), 12, 0, 0, 0), (12, (.iload 5), 14, 0, 0, 0), (14, (.sipush 500), 17, 0, 0, 500), (17, (.if_icmp .gt 51), 20, 68, 0, 0), (20, (.iload_n 1), 21, 0, 0, 0),
  (21, (.iload 5), 23, 0, 0, 0), (23, (.iload_n 2), 24, 0, 0, 0), (24, .imul, 25, 0, 0, 0), (25, .iadd, 26, 0, 0, 0), (26, (.istore 6), 28, 0, 0, 0), (28, (.iload 6), 30, 0, 0, 0),
  (30, (.invokestatic 100), 33, 94, 1, 7), (33, (.ifCond .eq 22), 36, 55, 0, 0), (36, (.aload_n 0), 37, 0, 0, 0), (37, (.iload 6), 39, 0, 0, 0), (39, (.invokevirtual 103), 42, 75, 2, 1), (42, (.ifCond .eq 13), 45, 55, 0, 0),
  (45, (.aload_n 0), 46, 0, 0, 0), (46, (.iload 6), 48, 0, 0, 0), (48, (.invokevirtual 97), 51, 77, 2, 1), (51, (.iload_n 3), 52, 0, 0, 0), (52, (.if_icmp .eq 6), 55, 58, 0, 0), (55, (.iload 4), 57, 0, 0, 0),
  (57, .ireturn, 58, 0, 0, 0), (58, (.iload 5), 60, 0, 0, 0), (60, (.istore 4), 62, 0, 0, 0), (62, (.iinc 5 1), 65, 0, 0, 0), (65, (.goto (-53)), 68, 12, 0, 0), (68, (.iload 4), 70, 0, 0, 0),
  (70, .ireturn, 71, 0, 0, 0)]
set_option maxRecDepth 100000 in
/-- Setup.driftOf(II)I -/
noncomputable def ew_cd_79 : List ew_Ent := [(0, (.aload_n 0), 1, 0, 0, 0), (1, (.aload_n 0), 2, 0, 0, 0), (2, (.getfield 25), 5, 2, 3, 0), (5, (.invokevirtual 45), 8, 65, 2, 1), (8, (.astore_n 3), 9, 0, 0, 0), (9, (.aload_n 3), 10, 0, 0, 0),
  (10, (.ifnonnull 5), 13, 15, 0, 0), (13, (.iconst 0), 14, 0, 0, 0), (14, .ireturn, 15, 0, 0, 0), (15, (.aload_n 0), 16, 0, 0, 0), (16, (.aload_n 0), 17, 0, 0, 0), (17, (.getfield 25), 20, 2, 3, 0),
  (20, (.iconst 0), 21, 0, 0, 0), (21, (.invokevirtual 81), 24, 66, 3, 1), (24, (.iload_n 2), 25, 0, 0, 0), (25, (.ifCond .ne 7), 28, 32, 0, 0), (28, (.iconst 0), 29, 0, 0, 0), (29, (.goto 9), 32, 38, 0, 0),
  (32, (.aload_n 3), 33, 0, 0, 0), (33, (.getfield 63), 36, 6, 1, 0), (36, (.iconst 2), 37, 0, 0, 2), (37, .idiv, 38, 0, 0, 0), (38, .iadd, 39, 0, 0, 0), (39, (.istore 4), 41, 0, 0, 0),
  (41, (.aload_n 3), 42, 0, 0, 0), (42, (.aload_n 0), 43, 0, 0, 0), (43, (.aload_n 0), 44, 0, 0, 0), (44, (.getfield 25), 47, 2, 3, 0), (47, (.iload_n 1), 48, 0, 0, 0), (48, (.invokevirtual 81), 51, 66, 3, 1),
  (51, (.iload 4), 53, 0, 0, 0), (53, (.invokevirtual 85), 56, 41, 3, 1), (56, .ireturn, 57, 0, 0, 0)]
set_option maxRecDepth 100000 in
/-- Setup.dayOf(I)J -/
noncomputable def ew_cd_80 : List ew_Ent := [(0, (.aload_n 0), 1, 0, 0, 0), (1, (.getfield 17), 4, 2, 1, 2), (4, (.iconst 3), 5, 0, 0, 3), (5, .iaload, 6, 0, 0, 0), (6, .i2l, 7, 0, 0, 0), (7, (.iload_n 1), 8, 0, 0, 0),
  (8, .i2l, 9, 0, 0, 0), (9, .lmul, 10, 0, 0, 0), (10, (.aload_n 0), 11, 0, 0, 0), (11, (.getfield 17), 14, 2, 1, 2), (14, (.iconst 4), 15, 0, 0, 4), (15, .iaload, 16, 0, 0, 0),
  (16, .i2l, 17, 0, 0, 0), (17, (.invokestatic 66), 20, 16, 2, 0), (20, .lreturn, 21, 0, 0, 0)]
set_option maxRecDepth 100000 in
/-- Setup.restOf(I)J -/
noncomputable def ew_cd_81 : List ew_Ent := [(0, (.aload_n 0), 1, 0, 0, 0), (1, (.getfield 17), 4, 2, 1, 2), (4, (.iconst 3), 5, 0, 0, 3), (5, .iaload, 6, 0, 0, 0), (6, .i2l, 7, 0, 0, 0), (7, (.iload_n 1), 8, 0, 0, 0),
  (8, .i2l, 9, 0, 0, 0), (9, .lmul, 10, 0, 0, 0), (10, (.aload_n 0), 11, 0, 0, 0), (11, (.getfield 17), 14, 2, 1, 2), (14, (.iconst 4), 15, 0, 0, 4), (15, .iaload, 16, 0, 0, 0),
  (16, .i2l, 17, 0, 0, 0), (17, (.aload_n 0), 18, 0, 0, 0), (18, (.iload_n 1), 19, 0, 0, 0), (19, (.invokevirtual 113), 22, 80, 2, 1), (22, .lmul, 23, 0, 0, 0), (23, .lsub, 24, 0, 0, 0),
  (24, .lreturn, 25, 0, 0, 0)]
set_option maxRecDepth 100000 in
/-- Setup.yearOf(J)J -/
noncomputable def ew_cd_82 : List ew_Ent := [(0, (.ldc2_w 117), 3, 1, 0, 365), (3, (.aload_n 0), 4, 0, 0, 0), (4, (.getfield 17), 7, 2, 1, 2), (7, (.iconst 5), 8, 0, 0, 5), (8, .iaload, 9, 0, 0, 0), (9, .i2l, 10, 0, 0, 0),
  (10, .lmul, 11, 0, 0, 0), (11, (.lconst 1), 12, 1, 0, 1), (12, .ladd, 13, 0, 0, 0), (13, (.lstore_n 3), 14, 0, 0, 0), (14, (.lload_n 1), 15, 0, 0, 0), (15, (.lload_n 3), 16, 0, 0, 0),
  (16, (.invokestatic 74), 19, 17, 2, 0), (19, (.lstore 5), 21, 0, 0, 0), (21, (.lload 5), 23, 0, 0, 0), (23, (.ldc2_w 119), 26, 1, 0, 366), (26, .lcmp, 27, 0, 0, 0), (27, (.ifCond .ge 7), 30, 34, 0, 0),
  (30, (.lconst 0), 31, 1, 0, 0), (31, (.goto 11), 34, 42, 0, 0), (34, (.lload 5), 36, 0, 0, 0), (36, (.lconst 1), 37, 1, 0, 1), (37, .lsub, 38, 0, 0, 0), (38, (.ldc2_w 117), 41, 1, 0, 365),
  (41, .ldiv, 42, 0, 0, 0), (42, (.lstore 7), 44, 0, 0, 0), (44, (.lload_n 1), 45, 0, 0, 0), (45, (.lload_n 3), 46, 0, 0, 0), (46, (.invokestatic 66), 49, 16, 2, 0), (49, (.aload_n 0), 50, 0, 0, 0),
  (50, (.getfield 17), 53, 2, 1, 2), (53, (.iconst 5), 54, 0, 0, 5), (54, .iaload, 55, 0, 0, 0), (55, .i2l, 56, 0, 0, 0), (56, .lmul, 57, 0, 0, 0), (57, (.lload 7), 59, 0, 0, 0),
  (59, .ladd, 60, 0, 0, 0), (60, .lreturn, 61, 0, 0, 0)]
set_option maxRecDepth 100000 in
/-- Setup.firstDayOf(J)J -/
noncomputable def ew_cd_83 : List ew_Ent := [(0, (.lload_n 1), 1, 0, 0, 0), (1, (.aload_n 0), 2, 0, 0, 0), (2, (.getfield 17), 5, 2, 1, 2), (5, (.iconst 5), 6, 0, 0, 5), (6, .iaload, 7, 0, 0, 0), (7, .i2l, 8, 0, 0, 0),
  (8, .ladd, 9, 0, 0, 0), (9, (.lconst 1), 10, 1, 0, 1), (10, .lsub, 11, 0, 0, 0), (11, (.aload_n 0), 12, 0, 0, 0), (12, (.getfield 17), 15, 2, 1, 2), (15, (.iconst 5), 16, 0, 0, 5),
  (16, .iaload, 17, 0, 0, 0), (17, .i2l, 18, 0, 0, 0), (18, (.invokestatic 66), 21, 16, 2, 0), (21, (.lstore_n 3), 22, 0, 0, 0), (22, (.ldc2_w 117), 25, 1, 0, 365), (25, (.lload_n 1), 26, 0, 0, 0),
  (26, .lmul, 27, 0, 0, 0), (27, (.lload_n 3), 28, 0, 0, 0), (28, .ladd, 29, 0, 0, 0), (29, .lreturn, 30, 0, 0, 0)]
set_option maxRecDepth 100000 in
/-- Setup.monthFrom(I)J -/
noncomputable def ew_cd_84 : List ew_Ent := [(0, (.iload_n 1), 1, 0, 0, 0), (1, .i2l, 2, 0, 0, 0), (2, (.aload_n 0), 3, 0, 0, 0), (3, (.getfield 17), 6, 2, 1, 2), (6, (.iconst 4), 7, 0, 0, 4), (7, .iaload, 8, 0, 0, 0),
  (8, .i2l, 9, 0, 0, 0), (9, .lmul, 10, 0, 0, 0), (10, (.lstore_n 2), 11, 0, 0, 0), (11, (.lload_n 2), 12, 0, 0, 0), (12, (.aload_n 0), 13, 0, 0, 0), (13, (.getfield 17), 16, 2, 1, 2),
  (16, (.iconst 3), 17, 0, 0, 3), (17, .iaload, 18, 0, 0, 0), (18, .i2l, 19, 0, 0, 0), (19, .ladd, 20, 0, 0, 0), (20, (.lconst 1), 21, 1, 0, 1), (21, .lsub, 22, 0, 0, 0),
  (22, (.aload_n 0), 23, 0, 0, 0), (23, (.getfield 17), 26, 2, 1, 2), (26, (.iconst 3), 27, 0, 0, 3), (27, .iaload, 28, 0, 0, 0), (28, .i2l, 29, 0, 0, 0), (29, (.invokestatic 66), 32, 16, 2, 0),
  (32, .lreturn, 33, 0, 0, 0)]
set_option maxRecDepth 100000 in
/-- Setup.sizeAt(I)F -/
noncomputable def ew_cd_85 : List ew_Ent := [(0, (.aload_n 0), 1, 0, 0, 0), (1, (.iload_n 1), 2, 0, 0, 0), (2, (.invokevirtual 103), 5, 75, 2, 1), (5, (.ifCond .ne 5), 8, 10, 0, 0), (8, (.fconst 0), 9, 3, 0, 0), (9, .freturn, 10, 0, 0, 0),
  (10, (.aload_n 0), 11, 0, 0, 0), (11, (.getfield 17), 14, 2, 1, 2), (14, (.iconst 0), 15, 0, 0, 0), (15, .iaload, 16, 0, 0, 0), (16, (.aload_n 0), 17, 0, 0, 0), (17, (.iload_n 1), 18, 0, 0, 0),
  (18, (.invokevirtual 93), 21, 76, 2, 1), (21, .isub, 22, 0, 0, 0), (22, .i2f, 23, 0, 0, 0), (23, (.aload_n 0), 24, 0, 0, 0), (24, (.getfield 17), 27, 2, 1, 2), (27, (.iconst 0), 28, 0, 0, 0),
  (28, .iaload, 29, 0, 0, 0), (29, (.iconst 1), 30, 0, 0, 1), (30, .iadd, 31, 0, 0, 0), (31, .i2f, 32, 0, 0, 0), (32, .fdiv, 33, 0, 0, 0), (33, .freturn, 34, 0, 0, 0)]
set_option maxRecDepth 100000 in
/-- Setup.firstMeeting(IIII)I -/
noncomputable def ew_cd_86 : List ew_Ent := [(0, (.aload_n 0), 1, 0, 0, 0), (1, (.iload_n 1), 2, 0, 0, 0), (2, (.invokevirtual 45), 5, 65, 2, 1), (5, (.astore 5), 7, 0, 0, 0), (7, (.ldc 106), 9, 0, 0, 100001), (9, (.istore 6), 11, 0, 0, 0),
  (11, (.aload 5), 13, 0, 0, 0), (13, (.ifnonnull 9), 16, 22, 0, 0), (16, (.ldc2_w 107), 19, 1, 0, -9223372036854775808), (19, (.goto 8), 22, 27, 0, 0), (22, (.aload 5), 24, 0, 0, 0), (24, (.invokevirtual 109), 27, 45, 1, 1),
  (27, (.lstore 7), 29, 0, 0, 0), (29, (.lload 7), 31, 0, 0, 0), (31, (.lconst 1), 32, 1, 0, 1), (32, .lcmp, 33, 0, 0, 0), (33, (.ifCond .lt 12), 36, 45, 0, 0), (36, (.lload 7), 38, 0, 0, 0),
  (38, (.ldc2_w 72), 41, 1, 0, 100000), (41, .lcmp, 42, 0, 0, 0), (42, (.ifCond .le 8), 45, 50, 0, 0), (45, (.iload 6), 47, 0, 0, 0), (47, (.goto 6), 50, 53, 0, 0), (50, (.lload 7), 52, 0, 0, 0),
  (52, .l2i, 53, 0, 0, 0), (53, (.istore 9), 55, 0, 0, 0), (55, (.iload 6), 57, 0, 0, 0), (57, (.istore 10), 59, 0, 0, 0), (59, (.iconst 0), 60, 0, 0, 0), (60, (.istore 11), 62, 0, 0, 0),
  (62, (.iload 11), 64, 0, 0, 0), (64, (.iload 9), 66, 0, 0, 0), (66, (.if_icmp .ge 76), 69, 142, 0, 0), (69, (.iload 11), 71, 0, 0, 0), (71, (.iload 10), 73, 0, 0, 0), (73, (.if_icmp .ge 69), 76, 142, 0, 0),
  (76, (.aload_n 0), 77, 0, 0, 0), (77, (.iload_n 1), 78, 0, 0, 0), (78, (.iload 11), 80, 0, 0, 0), (80, (.invokevirtual 81), 83, 66, 3, 1), (83, (.iload_n 2), 84, 0, 0, 0), (84, (.if_icmp .ne 7), 87, 91, 0, 0),
  (87, (.iconst 1), 88, 0, 0, 1), (88, (.goto 4), 91, 92, 0, 0), (91, (.iconst 0), 92, 0, 0, 0), (92, (.istore 12), 94, 0, 0, 0), (94, (.iload 11), 96, 0, 0, 0), (96, (.istore 13), 98, 0, 0, 0),
  (98, (.iload 12), 100, 0, 0, 0), (100, (.ifCond .eq 36), 103, 136, 0, 0), (103, (.iload 13), 105, 0, 0, 0), (105, (.iload 10), 107, 0, 0, 0), (107, (.if_icmp .ge 29), 110, 136, 0, 0), (110, (.aload_n 0), 111, 0, 0, 0),
  (111, (.iload_n 3), 112, 0, 0, 0), (112, (.iload 13), 114, 0, 0, 0), (114, (.invokevirtual 81), 117, 66, 3, 1), (117, (.iload 4), 119, 0, 0, 0), (119, (.if_icmp .ne 7), 122, 126, 0, 0), (122, (.iload 13), 124, 0, 0, 0),
  (124, (.istore 10), 126, 0, 0, 0), (126, (.iload 13), 128, 0, 0, 0), (128, (.iload 9), 130, 0, 0, 0), (130, .iadd, 131, 0, 0, 0), (131, (.istore 13), 133, 0, 0, 0), (133, (.goto (-35)), 136, 98, 0, 0),
  (136, (.iinc 11 1), 139, 0, 0, 0), (139, (.goto (-77)), 142, 62, 0, 0), (142, (.iload 10), 144, 0, 0, 0), (144, .ireturn, 145, 0, 0, 0)]
set_option maxRecDepth 100000 in
/-- Setup.become(LEclipseWheel$Setup;)V -/
noncomputable def ew_cd_87 : List ew_Ent := [(0, (.iconst 0), 1, 0, 0, 0), (1, (.istore_n 2), 2, 0, 0, 0), (2, (.iload_n 2), 3, 0, 0, 0), (3, (.bipush 6), 5, 0, 0, 6), (5, (.if_icmp .ge 34), 8, 39, 0, 0), (8, (.aload_n 1), 9, 0, 0, 0),
  (9, (.getfield 11), 12, 2, 0, 2), (12, (.iload_n 2), 13, 0, 0, 0), (13, .aaload, 14, 0, 0, 0), (14, (.astore_n 3), 15, 0, 0, 0), (15, (.aload_n 0), 16, 0, 0, 0), (16, (.getfield 11), 19, 2, 0, 2),
  (19, (.iload_n 2), 20, 0, 0, 0), (20, (.aload_n 3), 21, 0, 0, 0), (21, (.ifnonnull 7), 24, 28, 0, 0), (24, .aconst_null, 25, 0, 0, 0), (25, (.goto 7), 28, 32, 0, 0), (28, (.aload_n 3), 29, 0, 0, 0),
  (29, (.invokevirtual 41), 32, 47, 1, 1), (32, .aastore, 33, 0, 0, 0), (33, (.iinc 2 1), 36, 0, 0, 0), (36, (.goto (-34)), 39, 2, 0, 0), (39, (.iconst 0), 40, 0, 0, 0), (40, (.istore_n 2), 41, 0, 0, 0),
  (41, (.iload_n 2), 42, 0, 0, 0), (42, (.bipush 6), 44, 0, 0, 6), (44, (.if_icmp .ge 21), 47, 65, 0, 0), (47, (.aload_n 0), 48, 0, 0, 0), (48, (.getfield 17), 51, 2, 1, 2), (51, (.iload_n 2), 52, 0, 0, 0),
  (52, (.aload_n 1), 53, 0, 0, 0), (53, (.getfield 17), 56, 2, 1, 2), (56, (.iload_n 2), 57, 0, 0, 0), (57, .iaload, 58, 0, 0, 0), (58, .iastore, 59, 0, 0, 0), (59, (.iinc 2 1), 62, 0, 0, 0),
  (62, (.goto (-21)), 65, 41, 0, 0), (65, (.aload_n 0), 66, 0, 0, 0), (66, (.aload_n 1), 67, 0, 0, 0), (67, (.getfield 21), 70, 2, 2, 0), (70, (.putfield 21), 73, 2, 2, 0), (73, (.aload_n 0), 74, 0, 0, 0),
  (74, (.aload_n 1), 75, 0, 0, 0), (75, (.getfield 25), 78, 2, 3, 0), (78, (.putfield 25), 81, 2, 3, 0), (81, (.aload_n 0), 82, 0, 0, 0), (82, (.aload_n 1), 83, 0, 0, 0), (83, (.getfield 28), 86, 2, 4, 0),
  (86, (.putfield 28), 89, 2, 4, 0), (89, .return_, 90, 0, 0, 0)]
set_option maxRecDepth 100000 in
/-- X.<init>()V -/
noncomputable def ew_cd_88 : List ew_Ent := [(0, (.aload_n 0), 1, 0, 0, 0), (1, (.invokespecial 3), 4, 0, 1, 4), (4, (.aload_n 0), 5, 0, 0, 0), (5, (.new 9), 8, 2, 0, 0), (8, .dup, 9, 0, 0, 0), (9, (.invokespecial 11), 12, 63, 1, 3),
  (12, (.putfield 12), 15, 7, 0, 2), (15, (.aload_n 0), 16, 0, 0, 0), (16, (.new 9), 19, 2, 0, 0), (19, .dup, 20, 0, 0, 0), (20, (.invokespecial 11), 23, 63, 1, 3), (23, (.putfield 18), 26, 7, 1, 2),
  (26, (.aload_n 0), 27, 0, 0, 0), (27, (.iconst 0), 28, 0, 0, 0), (28, (.putfield 21), 31, 7, 2, 5), (31, (.aload_n 0), 32, 0, 0, 0), (32, (.iconst 4), 33, 0, 0, 4), (33, (.anewarray 25), 36, 23, 0, 0),
  (36, .dup, 37, 0, 0, 0), (37, (.iconst 0), 38, 0, 0, 0), (38, (.new 25), 41, 5, 0, 0), (41, .dup, 42, 0, 0, 0), (42, (.invokespecial 27), 45, 26, 1, 3), (45, .aastore, 46, 0, 0, 0),
  (46, .dup, 47, 0, 0, 0), (47, (.iconst 1), 48, 0, 0, 1), (48, (.new 25), 51, 5, 0, 0), (51, .dup, 52, 0, 0, 0), (52, (.invokespecial 27), 55, 26, 1, 3), (55, .aastore, 56, 0, 0, 0),
  (56, .dup, 57, 0, 0, 0), (57, (.iconst 2), 58, 0, 0, 2), (58, (.new 25), 61, 5, 0, 0), (61, .dup, 62, 0, 0, 0), (62, (.invokespecial 27), 65, 26, 1, 3), (65, .aastore, 66, 0, 0, 0),
  (66, .dup, 67, 0, 0, 0), (67, (.iconst 3), 68, 0, 0, 3), (68, (.new 25), 71, 5, 0, 0), (71, .dup, 72, 0, 0, 0), (72, (.invokespecial 27), 75, 26, 1, 3), (75, .aastore, 76, 0, 0, 0),
  (76, (.putfield 28), 79, 7, 3, 2), (79, (.aload_n 0), 80, 0, 0, 0), (80, (.iconst 3), 81, 0, 0, 3), (81, (.anewarray 32), 84, 24, 0, 0), (84, .dup, 85, 0, 0, 0), (85, (.iconst 0), 86, 0, 0, 0),
  (86, (.new 32), 89, 0, 0, 0), (89, .dup, 90, 0, 0, 0), (90, (.invokespecial 34), 93, 10, 1, 3), (93, .aastore, 94, 0, 0, 0), (94, .dup, 95, 0, 0, 0), (95, (.iconst 1), 96, 0, 0, 1),
  (96, (.new 32), 99, 0, 0, 0), (99, .dup, 100, 0, 0, 0), (100, (.invokespecial 34), 103, 10, 1, 3), (103, .aastore, 104, 0, 0, 0), (104, .dup, 105, 0, 0, 0), (105, (.iconst 2), 106, 0, 0, 2),
  (106, (.new 32), 109, 0, 0, 0), (109, .dup, 110, 0, 0, 0), (110, (.invokespecial 34), 113, 10, 1, 3), (113, .aastore, 114, 0, 0, 0), (114, (.putfield 35), 117, 7, 4, 2), (117, (.aload_n 0), 118, 0, 0, 0),
  (118, (.new 39), 121, 4, 0, 0), (121, .dup, 122, 0, 0, 0), (122, (.invokespecial 41), 125, 48, 1, 3), (125, (.putfield 42), 128, 7, 5, 2), (128, (.aload_n 0), 129, 0, 0, 0), (129, (.iconst 0), 130, 0, 0, 0),
  (130, (.putfield 46), 133, 7, 6, 0), (133, (.aload_n 0), 134, 0, 0, 0), (134, (.bipush 61), 136, 0, 0, 61), (136, (.newarray .int), 138, 20, 0, 0), (138, (.putfield 50), 141, 7, 7, 2), (141, (.aload_n 0), 142, 0, 0, 0),
  (142, (.sipush 2000), 145, 0, 0, 2000), (145, (.newarray .int), 147, 20, 0, 0), (147, (.putfield 54), 150, 7, 8, 2), (150, (.aload_n 0), 151, 0, 0, 0), (151, (.new 57), 154, 3, 0, 0), (154, .dup, 155, 0, 0, 0),
  (155, (.invokespecial 59), 158, 22, 1, 3), (158, (.putfield 60), 161, 7, 9, 2), (161, (.aload_n 0), 162, 0, 0, 0), (162, (.sipush 200), 165, 0, 0, 200), (165, (.newarray .int), 167, 20, 0, 0), (167, (.putfield 64), 170, 7, 10, 2),
  (170, (.aload_n 0), 171, 0, 0, 0), (171, (.sipush 200), 174, 0, 0, 200), (174, (.newarray .int), 176, 20, 0, 0), (176, (.putfield 67), 179, 7, 11, 2), (179, .return_, 180, 0, 0, 0)]
set_option maxRecDepth 100000 in
/-- X.wheel(IIII)I -/
noncomputable def ew_cd_89 : List ew_Ent := [(0, (.iload_n 1), 1, 0, 0, 0), (1, (.iload_n 2), 2, 0, 0, 0), (2, (.iload_n 3), 3, 0, 0, 0), (3, (.iload 4), 5, 0, 0, 0), (5, (.invokestatic 70), 8, 33, 4, 0), (8, (.ifCond .eq 18), 11, 26, 0, 0),
  (11, (.aload_n 0), 12, 0, 0, 0), (12, (.getfield 12), 15, 7, 0, 2), (15, (.iload_n 1), 16, 0, 0, 0), (16, (.iload_n 2), 17, 0, 0, 0), (17, (.iload_n 3), 18, 0, 0, 0), (18, (.iload 4), 20, 0, 0, 0),
  (20, (.invokevirtual 76), 23, 64, 5, 1), (23, (.goto 5), 26, 28, 0, 0), (26, (.bipush (-2)), 28, 0, 0, -2), (28, .ireturn, 29, 0, 0, 0)]
set_option maxRecDepth 100000 in
/-- X.of(II)I -/
noncomputable def ew_cd_90 : List ew_Ent := [(0, (.aload_n 0), 1, 0, 0, 0), (1, (.getfield 12), 4, 7, 0, 2), (4, (.iload_n 1), 5, 0, 0, 0), (5, (.invokevirtual 80), 8, 65, 2, 1), (8, (.astore_n 3), 9, 0, 0, 0), (9, (.aload_n 3), 10, 0, 0, 0),
  (10, (.ifnonnull 7), 13, 17, 0, 0), (13, (.iconst (-1)), 14, 0, 0, -1), (14, (.goto 8), 17, 22, 0, 0), (17, (.aload_n 3), 18, 0, 0, 0), (18, (.iload_n 2), 19, 0, 0, 0), (19, (.invokevirtual 84), 22, 39, 2, 1),
  (22, .ireturn, 23, 0, 0, 0)]
set_option maxRecDepth 100000 in
/-- X.turn(III)I -/
noncomputable def ew_cd_91 : List ew_Ent := [(0, (.aload_n 0), 1, 0, 0, 0), (1, (.getfield 12), 4, 7, 0, 2), (4, (.iload_n 1), 5, 0, 0, 0), (5, (.invokevirtual 80), 8, 65, 2, 1), (8, (.astore 4), 10, 0, 0, 0), (10, (.aload 4), 12, 0, 0, 0),
  (12, (.ifnonnull 5), 15, 17, 0, 0), (15, (.iconst (-1)), 16, 0, 0, -1), (16, .ireturn, 17, 0, 0, 0), (17, (.aload 4), 19, 0, 0, 0), (19, (.getfield 88), 22, 6, 0, 0), (22, (.aload 4), 24, 0, 0, 0),
  (24, (.getfield 91), 27, 6, 1, 0), (27, (.iload_n 2), 28, 0, 0, 0), (28, (.iload_n 3), 29, 0, 0, 0), (29, (.invokestatic 70), 32, 33, 4, 0), (32, (.ifCond .ne 6), 35, 38, 0, 0), (35, (.bipush (-2)), 37, 0, 0, -2),
  (37, .ireturn, 38, 0, 0, 0), (38, (.aload_n 0), 39, 0, 0, 0), (39, (.getfield 12), 42, 7, 0, 2), (42, (.iload_n 1), 43, 0, 0, 0), (43, (.iconst 0), 44, 0, 0, 0), (44, (.invokevirtual 94), 47, 66, 3, 1),
  (47, (.istore 5), 49, 0, 0, 0), (49, (.aload 4), 51, 0, 0, 0), (51, (.iload_n 2), 52, 0, 0, 0), (52, (.putfield 98), 55, 6, 3, 0), (55, (.aload 4), 57, 0, 0, 0), (57, (.iload_n 3), 58, 0, 0, 0),
  (58, (.putfield 101), 61, 6, 4, 0), (61, (.iload 5), 63, 0, 0, 0), (63, .ireturn, 64, 0, 0, 0)]
set_option maxRecDepth 100000 in
/-- X.drop()I -/
noncomputable def ew_cd_92 : List ew_Ent := [(0, (.aload_n 0), 1, 0, 0, 0), (1, (.getfield 12), 4, 7, 0, 2), (4, (.invokevirtual 104), 7, 68, 1, 1), (7, .ireturn, 8, 0, 0, 0)]
set_option maxRecDepth 100000 in
/-- X.at(II)I -/
noncomputable def ew_cd_93 : List ew_Ent := [(0, (.aload_n 0), 1, 0, 0, 0), (1, (.getfield 12), 4, 7, 0, 2), (4, (.iload_n 1), 5, 0, 0, 0), (5, (.invokevirtual 108), 8, 69, 2, 1), (8, (.ifCond .ne 5), 11, 13, 0, 0), (11, (.iconst (-1)), 12, 0, 0, -1),
  (12, .ireturn, 13, 0, 0, 0), (13, (.iload_n 2), 14, 0, 0, 0), (14, (.invokestatic 112), 17, 94, 1, 0), (17, (.ifCond .eq 15), 20, 32, 0, 0), (20, (.aload_n 0), 21, 0, 0, 0), (21, (.getfield 12), 24, 7, 0, 2),
  (24, (.iload_n 1), 25, 0, 0, 0), (25, (.iload_n 2), 26, 0, 0, 0), (26, (.invokevirtual 94), 29, 66, 3, 1), (29, (.goto 5), 32, 34, 0, 0), (32, (.bipush (-2)), 34, 0, 0, -2), (34, .ireturn, 35, 0, 0, 0)]
set_option maxRecDepth 100000 in
/-- X.isMonth(I)Z -/
noncomputable def ew_cd_94 : List ew_Ent := [(0, (.iload_n 0), 1, 0, 0, 0), (1, (.ldc_w 330), 4, 0, 0, -100000), (4, (.if_icmp .lt 13), 7, 17, 0, 0), (7, (.iload_n 0), 8, 0, 0, 0), (8, (.ldc 157), 10, 0, 0, 100000), (10, (.if_icmp .gt 7), 13, 17, 0, 0),
  (13, (.iconst 1), 14, 0, 0, 1), (14, (.goto 4), 17, 18, 0, 0), (17, (.iconst 0), 18, 0, 0, 0), (18, .ireturn, 19, 0, 1, 0)]
set_option maxRecDepth 100000 in
/-- X.rounds(II)J -/
noncomputable def ew_cd_95 : List ew_Ent := [(0, (.aload_n 0), 1, 0, 0, 0), (1, (.getfield 12), 4, 7, 0, 2), (4, (.iload_n 1), 5, 0, 0, 0), (5, (.invokevirtual 108), 8, 69, 2, 1), (8, (.ifCond .eq 22), 11, 30, 0, 0), (11, (.iload_n 2), 12, 0, 0, 0),
  (12, (.invokestatic 112), 15, 94, 1, 0), (15, (.ifCond .eq 15), 18, 30, 0, 0), (18, (.aload_n 0), 19, 0, 0, 0), (19, (.getfield 12), 22, 7, 0, 2), (22, (.iload_n 1), 23, 0, 0, 0), (23, (.iload_n 2), 24, 0, 0, 0),
  (24, (.invokevirtual 115), 27, 70, 3, 1), (27, (.goto 6), 30, 33, 0, 0), (30, (.ldc2_w 119), 33, 1, 0, -9223372036854775808), (33, .lreturn, 34, 0, 0, 0)]
set_option maxRecDepth 100000 in
/-- X.bind(II)I -/
noncomputable def ew_cd_96 : List ew_Ent := [(0, (.aload_n 0), 1, 0, 0, 0), (1, (.getfield 12), 4, 7, 0, 2), (4, (.iload_n 1), 5, 0, 0, 0), (5, (.invokevirtual 108), 8, 69, 2, 1), (8, (.ifCond .eq 19), 11, 27, 0, 0), (11, (.iload_n 2), 12, 0, 0, 0),
  (12, (.iconst (-1)), 13, 0, 0, -1), (13, (.if_icmp .eq 16), 16, 29, 0, 0), (16, (.aload_n 0), 17, 0, 0, 0), (17, (.getfield 12), 20, 7, 0, 2), (20, (.iload_n 2), 21, 0, 0, 0), (21, (.invokevirtual 108), 24, 69, 2, 1),
  (24, (.ifCond .ne 5), 27, 29, 0, 0), (27, (.iconst (-1)), 28, 0, 0, -1), (28, .ireturn, 29, 0, 0, 0), (29, (.aload_n 0), 30, 0, 0, 0), (30, (.getfield 12), 33, 7, 0, 2), (33, (.iload_n 1), 34, 0, 0, 0),
  (34, (.putfield 121), 37, 2, 3, 0), (37, (.aload_n 0), 38, 0, 0, 0), (38, (.getfield 12), 41, 7, 0, 2), (41, (.iload_n 2), 42, 0, 0, 0), (42, (.putfield 124), 45, 2, 4, 0), (45, (.iconst 1), 46, 0, 0, 1),
  (46, .ireturn, 47, 0, 0, 0)]
set_option maxRecDepth 100000 in
/-- X.rule(II)I -/
noncomputable def ew_cd_97 : List ew_Ent := [(0, (.iload_n 1), 1, 0, 0, 0), (1, (.invokestatic 127), 4, 71, 1, 0), (4, (.ifCond .ne 5), 7, 9, 0, 0), (7, (.iconst (-1)), 8, 0, 0, -1), (8, .ireturn, 9, 0, 0, 0), (9, (.iload_n 1), 10, 0, 0, 0),
  (10, (.iload_n 2), 11, 0, 0, 0), (11, (.invokestatic 130), 14, 72, 2, 0), (14, (.ifCond .ne 6), 17, 20, 0, 0), (17, (.bipush (-2)), 19, 0, 0, -2), (19, .ireturn, 20, 0, 0, 0), (20, (.aload_n 0), 21, 0, 0, 0),
  (21, (.getfield 12), 24, 7, 0, 2), (24, (.iload_n 1), 25, 0, 0, 0), (25, (.invokevirtual 134), 28, 73, 2, 1), (28, (.istore_n 3), 29, 0, 0, 0), (29, (.aload_n 0), 30, 0, 0, 0), (30, (.getfield 12), 33, 7, 0, 2),
  (33, (.iload_n 1), 34, 0, 0, 0), (34, (.iload_n 2), 35, 0, 0, 0), (35, (.invokevirtual 137), 38, 74, 3, 1), (38, (.iload_n 3), 39, 0, 0, 0), (39, .ireturn, 40, 0, 0, 0)]
set_option maxRecDepth 100000 in
/-- X.eclipse(II)I -/
noncomputable def ew_cd_98 : List ew_Ent := [(0, (.iload_n 1), 1, 0, 0, 0), (1, (.invokestatic 112), 4, 94, 1, 0), (4, (.ifCond .eq 12), 7, 16, 0, 0), (7, (.iload_n 2), 8, 0, 0, 0), (8, (.ifCond .lt 8), 11, 16, 0, 0), (11, (.iload_n 2), 12, 0, 0, 0),
  (12, (.iconst 2), 13, 0, 0, 2), (13, (.if_icmp .le 6), 16, 19, 0, 0), (16, (.bipush (-2)), 18, 0, 0, -2), (18, .ireturn, 19, 0, 0, 0), (19, (.aload_n 0), 20, 0, 0, 0), (20, (.getfield 12), 23, 7, 0, 2),
  (23, (.getfield 141), 26, 2, 2, 0), (26, (.ifCond .ne 6), 29, 32, 0, 0), (29, (.bipush (-3)), 31, 0, 0, -3), (31, .ireturn, 32, 0, 0, 0), (32, (.iload_n 2), 33, 0, 0, 0), (33, (.ifCond .ne 12), 36, 45, 0, 0),
  (36, (.aload_n 0), 37, 0, 0, 0), (37, (.getfield 12), 40, 7, 0, 2), (40, (.iload_n 1), 41, 0, 0, 0), (41, (.invokevirtual 144), 44, 75, 2, 1), (44, .ireturn, 45, 0, 0, 0), (45, (.iload_n 2), 46, 0, 0, 0),
  (46, (.iconst 1), 47, 0, 0, 1), (47, (.if_icmp .ne 14), 50, 61, 0, 0), (50, (.aload_n 0), 51, 0, 0, 0), (51, (.getfield 12), 54, 7, 0, 2), (54, (.iload_n 1), 55, 0, 0, 0), (55, (.invokevirtual 147), 58, 76, 2, 1),
  (58, (.goto 11), 61, 69, 0, 0), (61, (.aload_n 0), 62, 0, 0, 0), (62, (.getfield 12), 65, 7, 0, 2), (65, (.iload_n 1), 66, 0, 0, 0), (66, (.invokevirtual 150), 69, 77, 2, 1), (69, .ireturn, 70, 0, 0, 0)]
set_option maxRecDepth 100000 in
/-- X.eclipses(III)I -/
noncomputable def ew_cd_99 : List ew_Ent := [(0, (.iload_n 1), 1, 0, 0, 0), (1, (.iload_n 2), 2, 0, 0, 0), (2, (.sipush 4000), 5, 0, 0, 4000), (5, (.invokestatic 153), 8, 100, 3, 0), (8, (.ifCond .ne 6), 11, 14, 0, 0), (11, (.bipush (-2)), 13, 0, 0, -2),
  (13, .ireturn, 14, 0, 0, 0), (14, (.iload_n 3), 15, 0, 0, 0), (15, (.ifCond .lt 8), 18, 23, 0, 0), (18, (.iload_n 3), 19, 0, 0, 0), (19, (.iconst 3), 20, 0, 0, 3), (20, (.if_icmp .le 5), 23, 25, 0, 0),
  (23, (.iconst (-1)), 24, 0, 0, -1), (24, .ireturn, 25, 0, 0, 0), (25, (.iconst 0), 26, 0, 0, 0), (26, (.istore 4), 28, 0, 0, 0), (28, (.iload_n 1), 29, 0, 0, 0), (29, (.istore 5), 31, 0, 0, 0),
  (31, (.iload 5), 33, 0, 0, 0), (33, (.iload_n 2), 34, 0, 0, 0), (34, (.if_icmp .gt 38), 37, 72, 0, 0), (37, (.aload_n 0), 38, 0, 0, 0), (38, (.getfield 12), 41, 7, 0, 2), (41, (.iload 5), 43, 0, 0, 0),
  (43, (.invokevirtual 144), 46, 75, 2, 1), (46, (.istore 6), 48, 0, 0, 0), (48, (.iload 6), 50, 0, 0, 0), (50, (.ifCond .eq 16), 53, 66, 0, 0), (53, (.iload_n 3), 54, 0, 0, 0), (54, (.ifCond .eq 9), 57, 63, 0, 0),
  (57, (.iload 6), 59, 0, 0, 0), (59, (.iload_n 3), 60, 0, 0, 0), (60, (.if_icmp .ne 6), 63, 66, 0, 0), (63, (.iinc 4 1), 66, 0, 0, 0), (66, (.iinc 5 1), 69, 0, 0, 0), (69, (.goto (-38)), 72, 31, 0, 0),
  (72, (.iload 4), 74, 0, 0, 0), (74, .ireturn, 75, 0, 0, 0)]
set_option maxRecDepth 100000 in
/-- X.isStretch(III)Z -/
noncomputable def ew_cd_100 : List ew_Ent := [(0, (.iload_n 0), 1, 0, 0, 0), (1, (.invokestatic 112), 4, 94, 1, 0), (4, (.ifCond .eq 26), 7, 30, 0, 0), (7, (.iload_n 1), 8, 0, 0, 0), (8, (.invokestatic 112), 11, 94, 1, 0), (11, (.ifCond .eq 19), 14, 30, 0, 0),
  (14, (.iload_n 0), 15, 0, 0, 0), (15, (.iload_n 1), 16, 0, 0, 0), (16, (.if_icmp .gt 14), 19, 30, 0, 0), (19, (.iload_n 1), 20, 0, 0, 0), (20, (.iload_n 0), 21, 0, 0, 0), (21, .isub, 22, 0, 0, 0),
  (22, (.iload_n 2), 23, 0, 0, 0), (23, (.if_icmp .ge 7), 26, 30, 0, 0), (26, (.iconst 1), 27, 0, 0, 1), (27, (.goto 4), 30, 31, 0, 0), (30, (.iconst 0), 31, 0, 0, 0), (31, .ireturn, 32, 0, 1, 0)]
set_option maxRecDepth 100000 in
/-- X.next(II)I -/
noncomputable def ew_cd_101 : List ew_Ent := [(0, (.iload_n 1), 1, 0, 0, 0), (1, (.invokestatic 112), 4, 94, 1, 0), (4, (.ifCond .eq 12), 7, 16, 0, 0), (7, (.iload_n 2), 8, 0, 0, 0), (8, (.ifCond .lt 8), 11, 16, 0, 0), (11, (.iload_n 2), 12, 0, 0, 0),
  (12, (.iconst 1), 13, 0, 0, 1), (13, (.if_icmp .le 6), 16, 19, 0, 0), (16, (.bipush (-2)), 18, 0, 0, -2), (18, .ireturn, 19, 0, 0, 0), (19, (.iload_n 2), 20, 0, 0, 0), (20, (.ifCond .ne 7), 23, 27, 0, 0),
  (23, (.iconst 1), 24, 0, 0, 1), (24, (.goto 4), 27, 28, 0, 0), (27, (.iconst (-1)), 28, 0, 0, -1), (28, (.istore_n 3), 29, 0, 0, 0), (29, (.iconst 1), 30, 0, 0, 1), (30, (.istore 4), 32, 0, 0, 0),
  (32, (.iload 4), 34, 0, 0, 0), (34, (.sipush 4000), 37, 0, 0, 4000), (37, (.if_icmp .gt 43), 40, 80, 0, 0), (40, (.iload_n 1), 41, 0, 0, 0), (41, (.iload_n 3), 42, 0, 0, 0), (42, (.iload 4), 44, 0, 0, 0),
  (44, .imul, 45, 0, 0, 0), (45, .iadd, 46, 0, 0, 0), (46, (.istore 5), 48, 0, 0, 0), (48, (.iload 5), 50, 0, 0, 0), (50, (.invokestatic 112), 53, 94, 1, 0), (53, (.ifCond .eq 21), 56, 74, 0, 0),
  (56, (.aload_n 0), 57, 0, 0, 0), (57, (.getfield 12), 60, 7, 0, 2), (60, (.iload 5), 62, 0, 0, 0), (62, (.invokevirtual 144), 65, 75, 2, 1), (65, (.ifCond .eq 9), 68, 74, 0, 0), (68, (.iload 5), 70, 0, 0, 0),
  (70, (.ldc 157), 72, 0, 0, 100000), (72, .iadd, 73, 0, 0, 0), (73, .ireturn, 74, 0, 0, 0), (74, (.iinc 4 1), 77, 0, 0, 0), (77, (.goto (-45)), 80, 32, 0, 0), (80, (.bipush (-5)), 82, 0, 0, -5),
  (82, .ireturn, 83, 0, 0, 0)]
set_option maxRecDepth 100000 in
/-- X.family(III)I -/
noncomputable def ew_cd_102 : List ew_Ent := [(0, (.iload_n 1), 1, 0, 0, 0), (1, (.invokestatic 112), 4, 94, 1, 0), (4, (.ifCond .eq 19), 7, 23, 0, 0), (7, (.iload_n 2), 8, 0, 0, 0), (8, (.invokestatic 158), 11, 103, 1, 0), (11, (.ifCond .eq 12), 14, 23, 0, 0),
  (14, (.iload_n 3), 15, 0, 0, 0), (15, (.ifCond .lt 8), 18, 23, 0, 0), (18, (.iload_n 3), 19, 0, 0, 0), (19, (.iconst 2), 20, 0, 0, 2), (20, (.if_icmp .le 6), 23, 26, 0, 0), (23, (.bipush (-2)), 25, 0, 0, -2),
  (25, .ireturn, 26, 0, 0, 0), (26, (.aload_n 0), 27, 0, 0, 0), (27, (.getfield 12), 30, 7, 0, 2), (30, (.iload_n 1), 31, 0, 0, 0), (31, (.invokevirtual 144), 34, 75, 2, 1), (34, (.ifCond .ne 6), 37, 40, 0, 0),
  (37, (.bipush (-5)), 39, 0, 0, -5), (39, .ireturn, 40, 0, 0, 0), (40, (.aload_n 0), 41, 0, 0, 0), (41, (.getfield 12), 44, 7, 0, 2), (44, (.iload_n 1), 45, 0, 0, 0), (45, (.iload_n 2), 46, 0, 0, 0),
  (46, .ineg, 47, 0, 0, 0), (47, (.invokevirtual 161), 50, 78, 3, 1), (50, (.istore 4), 52, 0, 0, 0), (52, (.aload_n 0), 53, 0, 0, 0), (53, (.getfield 12), 56, 7, 0, 2), (56, (.iload_n 1), 57, 0, 0, 0),
  (57, (.iload_n 2), 58, 0, 0, 0), (58, (.invokevirtual 161), 61, 78, 3, 1), (61, (.istore 5), 63, 0, 0, 0), (63, (.iload_n 3), 64, 0, 0, 0), (64, (.iconst 2), 65, 0, 0, 2), (65, (.if_icmp .ne 11), 68, 76, 0, 0),
  (68, (.iload 4), 70, 0, 0, 0), (70, (.iconst 1), 71, 0, 0, 1), (71, .iadd, 72, 0, 0, 0), (72, (.iload 5), 74, 0, 0, 0), (74, .iadd, 75, 0, 0, 0), (75, .ireturn, 76, 0, 0, 0),
  (76, (.ldc 157), 78, 0, 0, 100000), (78, (.iload_n 3), 79, 0, 0, 0), (79, (.ifCond .ne 12), 82, 91, 0, 0), (82, (.iload_n 1), 83, 0, 0, 0), (83, (.iload 4), 85, 0, 0, 0), (85, (.iload_n 2), 86, 0, 0, 0),
  (86, .imul, 87, 0, 0, 0), (87, .isub, 88, 0, 0, 0), (88, (.goto 9), 91, 97, 0, 0), (91, (.iload_n 1), 92, 0, 0, 0), (92, (.iload 5), 94, 0, 0, 0), (94, (.iload_n 2), 95, 0, 0, 0),
  (95, .imul, 96, 0, 0, 0), (96, .iadd, 97, 0, 0, 0), (97, .iadd, 98, 0, 0, 0), (98, .ireturn, 99, 0, 0, 0)]
set_option maxRecDepth 100000 in
/-- X.isCycle(I)Z -/
noncomputable def ew_cd_103 : List ew_Ent := [(0, (.iload_n 0), 1, 0, 0, 0), (1, (.iconst 1), 2, 0, 0, 1), (2, (.if_icmp .lt 14), 5, 16, 0, 0), (5, (.iload_n 0), 6, 0, 0, 0), (6, (.sipush 2000), 9, 0, 0, 2000), (9, (.if_icmp .gt 7), 12, 16, 0, 0),
  (12, (.iconst 1), 13, 0, 0, 1), (13, (.goto 4), 16, 17, 0, 0), (16, (.iconst 0), 17, 0, 0, 0), (17, .ireturn, 18, 0, 1, 0)]
set_option maxRecDepth 100000 in
/-- X.roll(IIII)I -/
noncomputable def ew_cd_104 : List ew_Ent := [(0, (.iload_n 1), 1, 0, 0, 0), (1, (.iload_n 2), 2, 0, 0, 0), (2, (.sipush 200), 5, 0, 0, 200), (5, (.invokestatic 153), 8, 100, 3, 0), (8, (.ifCond .eq 21), 11, 29, 0, 0), (11, (.iload_n 3), 12, 0, 0, 0),
  (12, (.invokestatic 158), 15, 103, 1, 0), (15, (.ifCond .eq 14), 18, 29, 0, 0), (18, (.iload 4), 20, 0, 0, 0), (20, (.ifCond .lt 9), 23, 29, 0, 0), (23, (.iload 4), 25, 0, 0, 0), (25, (.iconst 4), 26, 0, 0, 4),
  (26, (.if_icmp .le 6), 29, 32, 0, 0), (29, (.bipush (-2)), 31, 0, 0, -2), (31, .ireturn, 32, 0, 0, 0), (32, (.iconst 0), 33, 0, 0, 0), (33, (.istore 5), 35, 0, 0, 0), (35, (.iconst 0), 36, 0, 0, 0),
  (36, (.istore 6), 38, 0, 0, 0), (38, (.iconst 0), 39, 0, 0, 0), (39, (.istore 7), 41, 0, 0, 0), (41, (.iconst 0), 42, 0, 0, 0), (42, (.istore 8), 44, 0, 0, 0), (44, (.iconst 0), 45, 0, 0, 0),
  (45, (.istore 9), 47, 0, 0, 0), (47, (.iload 9), 49, 0, 0, 0), (49, (.iload_n 2), 50, 0, 0, 0), (50, (.iload_n 1), 51, 0, 0, 0), (51, .isub, 52, 0, 0, 0), (52, (.if_icmp .gt 77), 55, 129, 0, 0),
  (55, (.iload 9), 57, 0, 0, 0), (57, (.sipush 200), 60, 0, 0, 200), (60, (.if_icmp .ge 69), 63, 129, 0, 0), (63, (.aload_n 0), 64, 0, 0, 0), (64, (.iload_n 1), 65, 0, 0, 0), (65, (.iload 9), 67, 0, 0, 0),
  (67, (.iload_n 3), 68, 0, 0, 0), (68, (.invokevirtual 164), 71, 105, 4, 1), (71, (.istore 10), 73, 0, 0, 0), (73, (.iload 7), 75, 0, 0, 0), (75, (.iload 10), 77, 0, 0, 0), (77, (.invokestatic 168), 80, 4, 2, 0),
  (80, (.istore 7), 82, 0, 0, 0), (82, (.iload 10), 84, 0, 0, 0), (84, (.iconst 1), 85, 0, 0, 1), (85, (.if_icmp .ne 6), 88, 91, 0, 0), (88, (.iinc 5 1), 91, 0, 0, 0), (91, (.aload_n 0), 92, 0, 0, 0),
  (92, (.iload 9), 94, 0, 0, 0), (94, (.iload_n 3), 95, 0, 0, 0), (95, .isub, 96, 0, 0, 0), (96, (.invokevirtual 173), 99, 106, 2, 1), (99, (.ifCond .le 12), 102, 111, 0, 0), (102, (.iload 10), 104, 0, 0, 0),
  (104, (.iconst 1), 105, 0, 0, 1), (105, (.if_icmp .gt 6), 108, 111, 0, 0), (108, (.iinc 6 1), 111, 0, 0, 0), (111, (.iload 8), 113, 0, 0, 0), (113, (.iload 5), 115, 0, 0, 0), (115, (.iload 6), 117, 0, 0, 0),
  (117, .isub, 118, 0, 0, 0), (118, (.invokestatic 168), 121, 4, 2, 0), (121, (.istore 8), 123, 0, 0, 0), (123, (.iinc 9 1), 126, 0, 0, 0), (126, (.goto (-79)), 129, 47, 0, 0), (129, (.iload 4), 131, 0, 0, 0),
  (131, (.tableswitch 44 0 3 #[29, 32, 35, 41]), 160, 175, 0, 0), (160, (.iload 5), 162, 0, 0, 0), (162, .ireturn, 163, 0, 0, 0), (163, (.iload 6), 165, 0, 0, 0), (165, .ireturn, 166, 0, 0, 0), (166, (.iload 5), 168, 0, 0, 0),
  (168, (.iload 6), 170, 0, 0, 0), (170, .isub, 171, 0, 0, 0), (171, .ireturn, 172, 0, 0, 0), (172, (.iload 7), 174, 0, 0, 0), (174, .ireturn, 175, 0, 0, 0), (175, (.iload 8), 177, 0, 0, 0),
  (177, .ireturn, 178, 0, 0, 0)]
set_option maxRecDepth 100000 in
/-- X.rollOnto(III)I -/
noncomputable def ew_cd_105 : List ew_Ent := [(0, (.iconst 0), 1, 0, 0, 0), (1, (.istore 4), 3, 0, 0, 0), (3, (.iconst 0), 4, 0, 0, 0), (4, (.istore 5), 6, 0, 0, 0), (6, (.aload_n 0), 7, 0, 0, 0), (7, (.getfield 12), 10, 7, 0, 2),
  (10, (.iload_n 1), 11, 0, 0, 0), (11, (.iload_n 2), 12, 0, 0, 0), (12, .iadd, 13, 0, 0, 0), (13, (.invokevirtual 144), 16, 75, 2, 1), (16, (.ifCond .eq 66), 19, 82, 0, 0), (19, (.aload_n 0), 20, 0, 0, 0),
  (20, (.getfield 12), 23, 7, 0, 2), (23, (.iload_n 1), 24, 0, 0, 0), (24, (.iload_n 2), 25, 0, 0, 0), (25, .iadd, 26, 0, 0, 0), (26, (.invokevirtual 150), 29, 77, 2, 1), (29, (.istore 5), 31, 0, 0, 0),
  (31, (.aload_n 0), 32, 0, 0, 0), (32, (.iload_n 2), 33, 0, 0, 0), (33, (.iload_n 3), 34, 0, 0, 0), (34, .isub, 35, 0, 0, 0), (35, (.invokevirtual 173), 38, 106, 2, 1), (38, (.ifCond .le 20), 41, 58, 0, 0),
  (41, (.aload_n 0), 42, 0, 0, 0), (42, (.getfield 67), 45, 7, 11, 2), (45, (.iload_n 2), 46, 0, 0, 0), (46, (.iload_n 3), 47, 0, 0, 0), (47, .isub, 48, 0, 0, 0), (48, .iaload, 49, 0, 0, 0),
  (49, (.iload 5), 51, 0, 0, 0), (51, (.if_icmp .ne 7), 54, 58, 0, 0), (54, (.iconst 1), 55, 0, 0, 1), (55, (.goto 4), 58, 59, 0, 0), (58, (.iconst 0), 59, 0, 0, 0), (59, (.istore 6), 61, 0, 0, 0),
  (61, (.iload 6), 63, 0, 0, 0), (63, (.ifCond .eq 16), 66, 79, 0, 0), (66, (.aload_n 0), 67, 0, 0, 0), (67, (.getfield 64), 70, 7, 10, 2), (70, (.iload_n 2), 71, 0, 0, 0), (71, (.iload_n 3), 72, 0, 0, 0),
  (72, .isub, 73, 0, 0, 0), (73, .iaload, 74, 0, 0, 0), (74, (.iconst 1), 75, 0, 0, 1), (75, .iadd, 76, 0, 0, 0), (76, (.goto 4), 79, 80, 0, 0), (79, (.iconst 1), 80, 0, 0, 1),
  (80, (.istore 4), 82, 0, 0, 0), (82, (.iload_n 2), 83, 0, 0, 0), (83, (.ifCond .lt 26), 86, 109, 0, 0), (86, (.iload_n 2), 87, 0, 0, 0), (87, (.sipush 200), 90, 0, 0, 200), (90, (.if_icmp .ge 19), 93, 109, 0, 0),
  (93, (.aload_n 0), 94, 0, 0, 0), (94, (.getfield 64), 97, 7, 10, 2), (97, (.iload_n 2), 98, 0, 0, 0), (98, (.iload 4), 100, 0, 0, 0), (100, .iastore, 101, 0, 0, 0), (101, (.aload_n 0), 102, 0, 0, 0),
  (102, (.getfield 67), 105, 7, 11, 2), (105, (.iload_n 2), 106, 0, 0, 0), (106, (.iload 5), 108, 0, 0, 0), (108, .iastore, 109, 0, 0, 0), (109, (.iload 4), 111, 0, 0, 0), (111, .ireturn, 112, 0, 0, 0)]
set_option maxRecDepth 100000 in
/-- X.rolledSize(I)I -/
noncomputable def ew_cd_106 : List ew_Ent := [(0, (.iload_n 1), 1, 0, 0, 0), (1, (.ifCond .lt 21), 4, 22, 0, 0), (4, (.iload_n 1), 5, 0, 0, 0), (5, (.aload_n 0), 6, 0, 0, 0), (6, (.getfield 64), 9, 7, 10, 2), (9, .arraylength, 10, 0, 0, 0),
  (10, (.if_icmp .ge 12), 13, 22, 0, 0), (13, (.aload_n 0), 14, 0, 0, 0), (14, (.getfield 64), 17, 7, 10, 2), (17, (.iload_n 1), 18, 0, 0, 0), (18, .iaload, 19, 0, 0, 0), (19, (.goto 4), 22, 23, 0, 0),
  (22, (.iconst 0), 23, 0, 0, 0), (23, .ireturn, 24, 0, 0, 0)]
set_option maxRecDepth 100000 in
/-- X.drift(II)I -/
noncomputable def ew_cd_107 : List ew_Ent := [(0, (.iload_n 1), 1, 0, 0, 0), (1, (.invokestatic 158), 4, 103, 1, 0), (4, (.ifCond .eq 12), 7, 16, 0, 0), (7, (.iload_n 2), 8, 0, 0, 0), (8, (.ifCond .lt 8), 11, 16, 0, 0), (11, (.iload_n 2), 12, 0, 0, 0),
  (12, (.iconst 1), 13, 0, 0, 1), (13, (.if_icmp .le 6), 16, 19, 0, 0), (16, (.bipush (-2)), 18, 0, 0, -2), (18, .ireturn, 19, 0, 0, 0), (19, (.aload_n 0), 20, 0, 0, 0), (20, (.getfield 12), 23, 7, 0, 2),
  (23, (.getfield 141), 26, 2, 2, 0), (26, (.ifCond .ne 8), 29, 34, 0, 0), (29, (.bipush (-3)), 31, 0, 0, -3), (31, (.goto 12), 34, 43, 0, 0), (34, (.aload_n 0), 35, 0, 0, 0), (35, (.getfield 12), 38, 7, 0, 2),
  (38, (.iload_n 1), 39, 0, 0, 0), (39, (.iload_n 2), 40, 0, 0, 0), (40, (.invokevirtual 176), 43, 79, 3, 1), (43, .ireturn, 44, 0, 0, 0)]
set_option maxRecDepth 100000 in
/-- X.records(II)I -/
noncomputable def ew_cd_108 : List ew_Ent := [(0, (.iload_n 1), 1, 0, 0, 0), (1, (.invokestatic 158), 4, 103, 1, 0), (4, (.ifCond .eq 12), 7, 16, 0, 0), (7, (.iload_n 2), 8, 0, 0, 0), (8, (.ifCond .lt 8), 11, 16, 0, 0), (11, (.iload_n 2), 12, 0, 0, 0),
  (12, (.iconst 1), 13, 0, 0, 1), (13, (.if_icmp .le 6), 16, 19, 0, 0), (16, (.bipush (-2)), 18, 0, 0, -2), (18, .ireturn, 19, 0, 0, 0), (19, (.aload_n 0), 20, 0, 0, 0), (20, (.getfield 12), 23, 7, 0, 2),
  (23, (.getfield 141), 26, 2, 2, 0), (26, (.ifCond .ne 6), 29, 32, 0, 0), (29, (.bipush (-3)), 31, 0, 0, -3), (31, .ireturn, 32, 0, 0, 0), (32, (.aload_n 0), 33, 0, 0, 0), (33, (.iload_n 1), 34, 0, 0, 0),
  (34, (.iload_n 2), 35, 0, 0, 0), (35, (.invokevirtual 179), 38, 109, 3, 1), (38, .ireturn, 39, 0, 0, 0)]
set_option maxRecDepth 100000 in
/-- X.findRecords(II)I -/
noncomputable def ew_cd_109 : List ew_Ent := [(0, (.iconst 0), 1, 0, 0, 0), (1, (.istore_n 3), 2, 0, 0, 0), (2, (.ldc 157), 4, 0, 0, 100000), (4, (.istore 4), 6, 0, 0, 0), (6, (.iconst 1), 7, 0, 0, 1), (7, (.istore 5), 9, 0, 0, 0),
  (9, (.iload 5), 11, 0, 0, 0), (11, (.iload_n 1), 12, 0, 0, 0), (12, (.if_icmp .gt 57), 15, 69, 0, 0), (15, (.iload_n 3), 16, 0, 0, 0), (16, (.aload_n 0), 17, 0, 0, 0), (17, (.getfield 54), 20, 7, 8, 2),
  (20, .arraylength, 21, 0, 0, 0), (21, (.if_icmp .ge 48), 24, 69, 0, 0), (24, (.iload 4), 26, 0, 0, 0), (26, (.ifCond .le 43), 29, 69, 0, 0), (29, (.aload_n 0), 30, 0, 0, 0), (30, (.getfield 12), 33, 7, 0, 2),
  (33, (.iload 5), 35, 0, 0, 0), (35, (.iload_n 2), 36, 0, 0, 0), (36, (.invokevirtual 176), 39, 79, 3, 1), (39, (.istore 6), 41, 0, 0, 0), (41, (.iload 6), 43, 0, 0, 0), (43, (.iload 4), 45, 0, 0, 0),
  (45, (.if_icmp .ge 18), 48, 63, 0, 0), (48, (.iload 6), 50, 0, 0, 0), (50, (.istore 4), 52, 0, 0, 0), (52, (.aload_n 0), 53, 0, 0, 0), (53, (.getfield 54), 56, 7, 8, 2), (56, (.iload_n 3), 57, 0, 0, 0),
  (57, (.iload 5), 59, 0, 0, 0), (59, .iastore, 60, 0, 0, 0), (60, (.iinc 3 1), 63, 0, 0, 0), (63, (.iinc 5 1), 66, 0, 0, 0), (66, (.goto (-57)), 69, 9, 0, 0), (69, (.iload_n 3), 70, 0, 0, 0),
  (70, .ireturn, 71, 0, 0, 0)]
set_option maxRecDepth 100000 in
/-- X.record(II)I -/
noncomputable def ew_cd_110 : List ew_Ent := [(0, (.iload_n 2), 1, 0, 0, 0), (1, (.ifCond .lt 8), 4, 9, 0, 0), (4, (.iload_n 2), 5, 0, 0, 0), (5, (.iconst 1), 6, 0, 0, 1), (6, (.if_icmp .le 6), 9, 12, 0, 0), (9, (.bipush (-2)), 11, 0, 0, -2),
  (11, .ireturn, 12, 0, 0, 0), (12, (.aload_n 0), 13, 0, 0, 0), (13, (.getfield 12), 16, 7, 0, 2), (16, (.getfield 141), 19, 2, 2, 0), (19, (.ifCond .ne 6), 22, 25, 0, 0), (22, (.bipush (-3)), 24, 0, 0, -3),
  (24, .ireturn, 25, 0, 0, 0), (25, (.aload_n 0), 26, 0, 0, 0), (26, (.sipush 2000), 29, 0, 0, 2000), (29, (.iload_n 2), 30, 0, 0, 0), (30, (.invokevirtual 179), 33, 109, 3, 1), (33, (.istore_n 3), 34, 0, 0, 0),
  (34, (.iload_n 1), 35, 0, 0, 0), (35, (.ifCond .lt 26), 38, 61, 0, 0), (38, (.iload_n 1), 39, 0, 0, 0), (39, (.iload_n 3), 40, 0, 0, 0), (40, (.if_icmp .ge 21), 43, 61, 0, 0), (43, (.iload_n 1), 44, 0, 0, 0),
  (44, (.aload_n 0), 45, 0, 0, 0), (45, (.getfield 54), 48, 7, 8, 2), (48, .arraylength, 49, 0, 0, 0), (49, (.if_icmp .ge 12), 52, 61, 0, 0), (52, (.aload_n 0), 53, 0, 0, 0), (53, (.getfield 54), 56, 7, 8, 2),
  (56, (.iload_n 1), 57, 0, 0, 0), (57, .iaload, 58, 0, 0, 0), (58, (.goto 4), 61, 62, 0, 0), (61, (.iconst (-1)), 62, 0, 0, -1), (62, .ireturn, 63, 0, 0, 0)]
set_option maxRecDepth 100000 in
/-- X.terms(I)I -/
noncomputable def ew_cd_111 : List ew_Ent := [(0, (.aload_n 0), 1, 0, 0, 0), (1, (.getfield 12), 4, 7, 0, 2), (4, (.iload_n 1), 5, 0, 0, 0), (5, (.invokevirtual 80), 8, 65, 2, 1), (8, (.astore_n 2), 9, 0, 0, 0), (9, (.aload_n 2), 10, 0, 0, 0),
  (10, (.ifnonnull 5), 13, 15, 0, 0), (13, (.iconst (-1)), 14, 0, 0, -1), (14, .ireturn, 15, 0, 0, 0), (15, (.iconst 0), 16, 0, 0, 0), (16, (.istore_n 3), 17, 0, 0, 0), (17, (.iconst 0), 18, 0, 0, 0),
  (18, (.istore 4), 20, 0, 0, 0), (20, (.iload 4), 22, 0, 0, 0), (22, (.bipush 64), 24, 0, 0, 64), (24, (.if_icmp .ge 22), 27, 46, 0, 0), (27, (.aload_n 2), 28, 0, 0, 0), (28, (.iload 4), 30, 0, 0, 0),
  (30, (.invokevirtual 182), 33, 42, 2, 1), (33, (.iconst (-1)), 34, 0, 0, -1), (34, (.if_icmp .eq 12), 37, 46, 0, 0), (37, (.iinc 3 1), 40, 0, 0, 0), (40, (.iinc 4 1), 43, 0, 0, 0), (43, (.goto (-23)), 46, 20, 0, 0),
  (46, (.iload_n 3), 47, 0, 0, 0), (47, .ireturn, 48, 0, 0, 0)]
set_option maxRecDepth 100000 in
/-- X.term(II)I -/
noncomputable def ew_cd_112 : List ew_Ent := [(0, (.aload_n 0), 1, 0, 0, 0), (1, (.getfield 12), 4, 7, 0, 2), (4, (.iload_n 1), 5, 0, 0, 0), (5, (.invokevirtual 80), 8, 65, 2, 1), (8, (.astore_n 3), 9, 0, 0, 0), (9, (.aload_n 3), 10, 0, 0, 0),
  (10, (.ifnonnull 7), 13, 17, 0, 0), (13, (.iconst (-1)), 14, 0, 0, -1), (14, (.goto 8), 17, 22, 0, 0), (17, (.aload_n 3), 18, 0, 0, 0), (18, (.iload_n 2), 19, 0, 0, 0), (19, (.invokevirtual 182), 22, 42, 2, 1),
  (22, .ireturn, 23, 0, 0, 0)]
set_option maxRecDepth 100000 in
/-- X.convergent(III)J -/
noncomputable def ew_cd_113 : List ew_Ent := [(0, (.aload_n 0), 1, 0, 0, 0), (1, (.getfield 12), 4, 7, 0, 2), (4, (.iload_n 1), 5, 0, 0, 0), (5, (.invokevirtual 80), 8, 65, 2, 1), (8, (.astore 4), 10, 0, 0, 0), (10, (.aload 4), 12, 0, 0, 0),
  (12, (.ifnull 22), 15, 34, 0, 0), (15, (.aload 4), 17, 0, 0, 0), (17, (.iload_n 2), 18, 0, 0, 0), (18, (.invokevirtual 182), 21, 42, 2, 1), (21, (.iconst (-1)), 22, 0, 0, -1), (22, (.if_icmp .eq 12), 25, 34, 0, 0),
  (25, (.iload_n 3), 26, 0, 0, 0), (26, (.ifCond .lt 8), 29, 34, 0, 0), (29, (.iload_n 3), 30, 0, 0, 0), (30, (.iconst 1), 31, 0, 0, 1), (31, (.if_icmp .le 7), 34, 38, 0, 0), (34, (.ldc2_w 119), 37, 1, 0, -9223372036854775808),
  (37, .lreturn, 38, 0, 0, 0), (38, (.aload 4), 40, 0, 0, 0), (40, (.iload_n 2), 41, 0, 0, 0), (41, (.iload_n 3), 42, 0, 0, 0), (42, (.invokevirtual 185), 45, 43, 3, 1), (45, .lreturn, 46, 0, 0, 0)]
set_option maxRecDepth 100000 in
/-- X.nearest(II)I -/
noncomputable def ew_cd_114 : List ew_Ent := [(0, (.aload_n 0), 1, 0, 0, 0), (1, (.getfield 12), 4, 7, 0, 2), (4, (.iload_n 1), 5, 0, 0, 0), (5, (.invokevirtual 80), 8, 65, 2, 1), (8, (.astore_n 3), 9, 0, 0, 0), (9, (.aload_n 3), 10, 0, 0, 0),
  (10, (.ifnonnull 5), 13, 15, 0, 0), (13, (.iconst (-1)), 14, 0, 0, -1), (14, .ireturn, 15, 0, 0, 0), (15, (.iload_n 2), 16, 0, 0, 0), (16, (.iconst 1), 17, 0, 0, 1), (17, (.if_icmp .lt 10), 20, 27, 0, 0),
  (20, (.iload_n 2), 21, 0, 0, 0), (21, (.sipush 1000), 24, 0, 0, 1000), (24, (.if_icmp .le 8), 27, 32, 0, 0), (27, (.bipush (-2)), 29, 0, 0, -2), (29, (.goto 8), 32, 37, 0, 0), (32, (.aload_n 3), 33, 0, 0, 0),
  (33, (.iload_n 2), 34, 0, 0, 0), (34, (.invokevirtual 188), 37, 44, 2, 1), (37, .ireturn, 38, 0, 0, 0)]
set_option maxRecDepth 100000 in
/-- X.date(II)J -/
noncomputable def ew_cd_115 : List ew_Ent := [(0, (.iload_n 1), 1, 0, 0, 0), (1, (.invokestatic 112), 4, 94, 1, 0), (4, (.ifCond .ne 7), 7, 11, 0, 0), (7, (.ldc2_w 119), 10, 1, 0, -9223372036854775808), (10, .lreturn, 11, 0, 0, 0), (11, (.aload_n 0), 12, 0, 0, 0),
  (12, (.getfield 12), 15, 7, 0, 2), (15, (.iload_n 1), 16, 0, 0, 0), (16, (.invokevirtual 191), 19, 80, 2, 1), (19, (.lstore_n 3), 20, 0, 0, 0), (20, (.iload_n 2), 21, 0, 0, 0), (21, (.tableswitch 93 0 3 #[31, 33, 42, 63]), 52, 114, 0, 0),
  (52, (.lload_n 3), 53, 0, 0, 0), (53, .lreturn, 54, 0, 0, 0), (54, (.aload_n 0), 55, 0, 0, 0), (55, (.getfield 12), 58, 7, 0, 2), (58, (.iload_n 1), 59, 0, 0, 0), (59, (.invokevirtual 195), 62, 81, 2, 1),
  (62, .lreturn, 63, 0, 0, 0), (63, (.lload_n 3), 64, 0, 0, 0), (64, (.lconst 0), 65, 1, 0, 0), (65, .lcmp, 66, 0, 0, 0), (66, (.ifCond .ge 9), 69, 75, 0, 0), (69, (.ldc2_w 119), 72, 1, 0, -9223372036854775808),
  (72, (.goto 11), 75, 83, 0, 0), (75, (.aload_n 0), 76, 0, 0, 0), (76, (.getfield 12), 79, 7, 0, 2), (79, (.lload_n 3), 80, 0, 0, 0), (80, (.invokevirtual 198), 83, 82, 2, 1), (83, .lreturn, 84, 0, 0, 0),
  (84, (.lload_n 3), 85, 0, 0, 0), (85, (.lconst 0), 86, 1, 0, 0), (86, .lcmp, 87, 0, 0, 0), (87, (.ifCond .ge 9), 90, 96, 0, 0), (90, (.ldc2_w 119), 93, 1, 0, -9223372036854775808), (93, (.goto 20), 96, 113, 0, 0),
  (96, (.lload_n 3), 97, 0, 0, 0), (97, (.aload_n 0), 98, 0, 0, 0), (98, (.getfield 12), 101, 7, 0, 2), (101, (.aload_n 0), 102, 0, 0, 0), (102, (.getfield 12), 105, 7, 0, 2), (105, (.lload_n 3), 106, 0, 0, 0),
  (106, (.invokevirtual 198), 109, 82, 2, 1), (109, (.invokevirtual 202), 112, 83, 2, 1), (112, .lsub, 113, 0, 0, 0), (113, .lreturn, 114, 0, 0, 0), (114, (.ldc2_w 119), 117, 1, 0, -9223372036854775808), (117, .lreturn, 118, 0, 0, 0)]
set_option maxRecDepth 100000 in
/-- X.month(I)I -/
noncomputable def ew_cd_116 : List ew_Ent := [(0, (.iload_n 1), 1, 0, 0, 0), (1, (.ifCond .lt 9), 4, 10, 0, 0), (4, (.iload_n 1), 5, 0, 0, 0), (5, (.ldc 205), 7, 0, 0, 1000000), (7, (.if_icmp .le 6), 10, 13, 0, 0), (10, (.bipush (-2)), 12, 0, 0, -2),
  (12, .ireturn, 13, 0, 0, 0), (13, (.aload_n 0), 14, 0, 0, 0), (14, (.getfield 12), 17, 7, 0, 2), (17, (.iload_n 1), 18, 0, 0, 0), (18, (.invokevirtual 206), 21, 84, 2, 1), (21, (.lstore_n 2), 22, 0, 0, 0),
  (22, (.lload_n 2), 23, 0, 0, 0), (23, (.ldc2_w 209), 26, 1, 0, 100000), (26, .lcmp, 27, 0, 0, 0), (27, (.ifCond .le 8), 30, 35, 0, 0), (30, (.bipush (-5)), 32, 0, 0, -5), (32, (.goto 5), 35, 37, 0, 0),
  (35, (.lload_n 2), 36, 0, 0, 0), (36, .l2i, 37, 0, 0, 0), (37, .ireturn, 38, 0, 0, 0)]
set_option maxRecDepth 100000 in
/-- X.angle(II)J -/
noncomputable def ew_cd_117 : List ew_Ent := [(0, (.aload_n 0), 1, 0, 0, 0), (1, (.getfield 12), 4, 7, 0, 2), (4, (.iload_n 1), 5, 0, 0, 0), (5, (.invokevirtual 80), 8, 65, 2, 1), (8, (.astore_n 3), 9, 0, 0, 0), (9, (.aload_n 3), 10, 0, 0, 0),
  (10, (.ifnull 10), 13, 20, 0, 0), (13, (.iload_n 2), 14, 0, 0, 0), (14, (.invokestatic 112), 17, 94, 1, 0), (17, (.ifCond .ne 7), 20, 24, 0, 0), (20, (.ldc2_w 119), 23, 1, 0, -9223372036854775808), (23, .lreturn, 24, 0, 0, 0),
  (24, (.ldc2_w 211), 27, 4, 0, 4645040803167600640), (27, (.aload_n 0), 28, 0, 0, 0), (28, (.getfield 12), 31, 7, 0, 2), (31, (.iload_n 1), 32, 0, 0, 0), (32, (.iload_n 2), 33, 0, 0, 0), (33, (.invokevirtual 94), 36, 66, 3, 1),
  (36, .i2d, 37, 0, 0, 0), (37, .dmul, 38, 0, 0, 0), (38, (.aload_n 3), 39, 0, 0, 0), (39, (.getfield 91), 42, 6, 1, 0), (42, .i2d, 43, 0, 0, 0), (43, .ddiv, 44, 0, 0, 0),
  (44, (.invokestatic 213), 47, 18, 1, 0), (47, .lreturn, 48, 0, 0, 0)]
set_option maxRecDepth 100000 in
/-- X.size(II)I -/
noncomputable def ew_cd_118 : List ew_Ent := [(0, (.iload_n 1), 1, 0, 0, 0), (1, (.invokestatic 112), 4, 94, 1, 0), (4, (.ifCond .eq 12), 7, 16, 0, 0), (7, (.iload_n 2), 8, 0, 0, 0), (8, (.ifCond .lt 8), 11, 16, 0, 0), (11, (.iload_n 2), 12, 0, 0, 0),
  (12, (.iconst 1), 13, 0, 0, 1), (13, (.if_icmp .le 6), 16, 19, 0, 0), (16, (.bipush (-2)), 18, 0, 0, -2), (18, .ireturn, 19, 0, 0, 0), (19, (.aload_n 0), 20, 0, 0, 0), (20, (.getfield 12), 23, 7, 0, 2),
  (23, (.getfield 141), 26, 2, 2, 0), (26, (.ifCond .ne 6), 29, 32, 0, 0), (29, (.bipush (-3)), 31, 0, 0, -3), (31, .ireturn, 32, 0, 0, 0), (32, (.aload_n 0), 33, 0, 0, 0), (33, (.getfield 12), 36, 7, 0, 2),
  (36, (.iload_n 1), 37, 0, 0, 0), (37, (.invokevirtual 219), 40, 85, 2, 1), (40, (.fstore_n 3), 41, 0, 0, 0), (41, (.iload_n 2), 42, 0, 0, 0), (42, (.ifCond .ne 10), 45, 52, 0, 0), (45, (.fload_n 3), 46, 0, 0, 0),
  (46, (.invokestatic 223), 49, 19, 1, 0), (49, (.goto 8), 52, 57, 0, 0), (52, (.fload_n 3), 53, 0, 0, 0), (53, (.ldc 227), 55, 3, 0, 1148846080), (55, .fmul, 56, 0, 0, 0), (56, .f2i, 57, 0, 0, 0),
  (57, .ireturn, 58, 0, 0, 0)]
set_option maxRecDepth 100000 in
/-- X.most(IIIII)I -/
noncomputable def ew_cd_119 : List ew_Ent := [(0, (.iload_n 1), 1, 0, 0, 0), (1, (.iconst 1), 2, 0, 0, 1), (2, (.if_icmp .lt 15), 5, 17, 0, 0), (5, (.iload_n 1), 6, 0, 0, 0), (6, (.iconst 4), 7, 0, 0, 4), (7, (.if_icmp .gt 10), 10, 17, 0, 0),
  (10, (.iload_n 2), 11, 0, 0, 0), (11, (.invokestatic 112), 14, 94, 1, 0), (14, (.ifCond .ne 6), 17, 20, 0, 0), (17, (.bipush (-2)), 19, 0, 0, -2), (19, .ireturn, 20, 0, 0, 0), (20, (.iload_n 1), 21, 0, 0, 0),
  (21, (.iconst 1), 22, 0, 0, 1), (22, (.if_icmp .le 10), 25, 32, 0, 0), (25, (.iload_n 3), 26, 0, 0, 0), (26, (.invokestatic 112), 29, 94, 1, 0), (29, (.ifCond .eq 29), 32, 58, 0, 0), (32, (.iload_n 1), 33, 0, 0, 0),
  (33, (.iconst 2), 34, 0, 0, 2), (34, (.if_icmp .le 11), 37, 45, 0, 0), (37, (.iload 4), 39, 0, 0, 0), (39, (.invokestatic 112), 42, 94, 1, 0), (42, (.ifCond .eq 16), 45, 58, 0, 0), (45, (.iload_n 1), 46, 0, 0, 0),
  (46, (.iconst 3), 47, 0, 0, 3), (47, (.if_icmp .le 14), 50, 61, 0, 0), (50, (.iload 5), 52, 0, 0, 0), (52, (.invokestatic 112), 55, 94, 1, 0), (55, (.ifCond .ne 6), 58, 61, 0, 0), (58, (.bipush (-2)), 60, 0, 0, -2),
  (60, .ireturn, 61, 0, 0, 0), (61, (.aload_n 0), 62, 0, 0, 0), (62, (.getfield 12), 65, 7, 0, 2), (65, (.getfield 141), 68, 2, 2, 0), (68, (.ifCond .ne 6), 71, 74, 0, 0), (71, (.bipush (-3)), 73, 0, 0, -3),
  (73, .ireturn, 74, 0, 0, 0), (74, (.iload_n 2), 75, 0, 0, 0), (75, (.istore 6), 77, 0, 0, 0), (77, (.aload_n 0), 78, 0, 0, 0), (78, (.getfield 12), 81, 7, 0, 2), (81, (.iload_n 2), 82, 0, 0, 0),
  (82, (.invokevirtual 219), 85, 85, 2, 1), (85, (.fstore 7), 87, 0, 0, 0), (87, (.iconst 1), 88, 0, 0, 1), (88, (.istore 8), 90, 0, 0, 0), (90, (.iload 8), 92, 0, 0, 0), (92, (.iload_n 1), 93, 0, 0, 0),
  (93, (.if_icmp .ge 61), 96, 154, 0, 0), (96, (.iload 8), 98, 0, 0, 0), (98, (.iconst 1), 99, 0, 0, 1), (99, (.if_icmp .ne 7), 102, 106, 0, 0), (102, (.iload_n 3), 103, 0, 0, 0), (103, (.goto 16), 106, 119, 0, 0),
  (106, (.iload 8), 108, 0, 0, 0), (108, (.iconst 2), 109, 0, 0, 2), (109, (.if_icmp .ne 8), 112, 117, 0, 0), (112, (.iload 4), 114, 0, 0, 0), (114, (.goto 5), 117, 119, 0, 0), (117, (.iload 5), 119, 0, 0, 0),
  (119, (.istore 9), 121, 0, 0, 0), (121, (.aload_n 0), 122, 0, 0, 0), (122, (.getfield 12), 125, 7, 0, 2), (125, (.iload 9), 127, 0, 0, 0), (127, (.invokevirtual 219), 130, 85, 2, 1), (130, (.fstore 10), 132, 0, 0, 0),
  (132, (.fload 10), 134, 0, 0, 0), (134, (.fload 7), 136, 0, 0, 0), (136, (.fcmp .l), 137, 0, 0, 0), (137, (.ifCond .le 11), 140, 148, 0, 0), (140, (.iload 9), 142, 0, 0, 0), (142, (.istore 6), 144, 0, 0, 0),
  (144, (.fload 10), 146, 0, 0, 0), (146, (.fstore 7), 148, 0, 0, 0), (148, (.iinc 8 1), 151, 0, 0, 0), (151, (.goto (-61)), 154, 90, 0, 0), (154, (.iload 6), 156, 0, 0, 0), (156, (.ldc 157), 158, 0, 0, 100000),
  (158, .iadd, 159, 0, 0, 0), (159, .ireturn, 160, 0, 0, 0)]
set_option maxRecDepth 100000 in
/-- X.period(I)J -/
noncomputable def ew_cd_120 : List ew_Ent := [(0, (.aload_n 0), 1, 0, 0, 0), (1, (.getfield 12), 4, 7, 0, 2), (4, (.iload_n 1), 5, 0, 0, 0), (5, (.invokevirtual 80), 8, 65, 2, 1), (8, (.astore_n 2), 9, 0, 0, 0), (9, (.aload_n 2), 10, 0, 0, 0),
  (10, (.ifnonnull 9), 13, 19, 0, 0), (13, (.ldc2_w 119), 16, 1, 0, -9223372036854775808), (16, (.goto 7), 19, 23, 0, 0), (19, (.aload_n 2), 20, 0, 0, 0), (20, (.invokevirtual 228), 23, 45, 1, 1), (23, .lreturn, 24, 0, 0, 0)]
set_option maxRecDepth 100000 in
/-- X.allRound(I)J -/
noncomputable def ew_cd_121 : List ew_Ent := [(0, (.lconst 1), 1, 1, 0, 1), (1, (.lstore_n 2), 2, 0, 0, 0), (2, (.iconst 0), 3, 0, 0, 0), (3, (.istore 4), 5, 0, 0, 0), (5, (.iload 4), 7, 0, 0, 0), (7, (.bipush 32), 9, 0, 0, 32),
  (9, (.if_icmp .ge 82), 12, 91, 0, 0), (12, (.iload_n 1), 13, 0, 0, 0), (13, (.iload 4), 15, 0, 0, 0), (15, .iushr, 16, 0, 0, 0), (16, (.iconst 1), 17, 0, 0, 1), (17, .iand, 18, 0, 0, 0),
  (18, (.iconst 1), 19, 0, 0, 1), (19, (.if_icmp .ne 66), 22, 85, 0, 0), (22, (.aload_n 0), 23, 0, 0, 0), (23, (.getfield 12), 26, 7, 0, 2), (26, (.iload 4), 28, 0, 0, 0), (28, (.invokevirtual 80), 31, 65, 2, 1),
  (31, (.astore 5), 33, 0, 0, 0), (33, (.aload 5), 35, 0, 0, 0), (35, (.ifnonnull 9), 38, 44, 0, 0), (38, (.ldc2_w 119), 41, 1, 0, -9223372036854775808), (41, (.goto 8), 44, 49, 0, 0), (44, (.aload 5), 46, 0, 0, 0),
  (46, (.invokevirtual 228), 49, 45, 1, 1), (49, (.lstore 6), 51, 0, 0, 0), (51, (.lload 6), 53, 0, 0, 0), (53, (.ldc2_w 119), 56, 1, 0, -9223372036854775808), (56, .lcmp, 57, 0, 0, 0), (57, (.ifCond .ne 9), 60, 66, 0, 0),
  (60, (.ldc2_w 119), 63, 1, 0, -9223372036854775808), (63, (.goto 9), 66, 72, 0, 0), (66, (.lload_n 2), 67, 0, 0, 0), (67, (.lload 6), 69, 0, 0, 0), (69, (.invokestatic 232), 72, 21, 2, 0), (72, (.lstore_n 2), 73, 0, 0, 0),
  (73, (.lload_n 2), 74, 0, 0, 0), (74, (.ldc2_w 119), 77, 1, 0, -9223372036854775808), (77, .lcmp, 78, 0, 0, 0), (78, (.ifCond .ne 7), 81, 85, 0, 0), (81, (.ldc2_w 119), 84, 1, 0, -9223372036854775808), (84, .lreturn, 85, 0, 0, 0),
  (85, (.iinc 4 1), 88, 0, 0, 0), (88, (.goto (-83)), 91, 5, 0, 0), (91, (.lload_n 2), 92, 0, 0, 0), (92, .lreturn, 93, 0, 0, 0)]
set_option maxRecDepth 100000 in
/-- X.meeting(IIII)I -/
noncomputable def ew_cd_122 : List ew_Ent := [(0, (.aload_n 0), 1, 0, 0, 0), (1, (.getfield 12), 4, 7, 0, 2), (4, (.iload_n 1), 5, 0, 0, 0), (5, (.invokevirtual 80), 8, 65, 2, 1), (8, (.astore 5), 10, 0, 0, 0), (10, (.aload_n 0), 11, 0, 0, 0),
  (11, (.getfield 12), 14, 7, 0, 2), (14, (.iload_n 3), 15, 0, 0, 0), (15, (.invokevirtual 80), 18, 65, 2, 1), (18, (.astore 6), 20, 0, 0, 0), (20, (.aload 5), 22, 0, 0, 0), (22, (.ifnull 8), 25, 30, 0, 0),
  (25, (.aload 6), 27, 0, 0, 0), (27, (.ifnonnull 5), 30, 32, 0, 0), (30, (.iconst (-1)), 31, 0, 0, -1), (31, .ireturn, 32, 0, 0, 0), (32, (.aload 5), 34, 0, 0, 0), (34, (.iload_n 2), 35, 0, 0, 0),
  (35, (.invokevirtual 236), 38, 46, 2, 1), (38, (.ifCond .eq 13), 41, 51, 0, 0), (41, (.aload 6), 43, 0, 0, 0), (43, (.iload 4), 45, 0, 0, 0), (45, (.invokevirtual 236), 48, 46, 2, 1), (48, (.ifCond .ne 6), 51, 54, 0, 0),
  (51, (.bipush (-2)), 53, 0, 0, -2), (53, .ireturn, 54, 0, 0, 0), (54, (.aload 5), 56, 0, 0, 0), (56, (.getfield 88), 59, 6, 0, 0), (59, (.iconst 4), 60, 0, 0, 4), (60, (.if_icmp .ne 18), 63, 78, 0, 0),
  (63, (.aload_n 0), 64, 0, 0, 0), (64, (.getfield 12), 67, 7, 0, 2), (67, (.iload_n 3), 68, 0, 0, 0), (68, (.iload 4), 70, 0, 0, 0), (70, (.iload_n 1), 71, 0, 0, 0), (71, (.iload_n 2), 72, 0, 0, 0),
  (72, (.invokevirtual 239), 75, 86, 5, 1), (75, (.goto 15), 78, 90, 0, 0), (78, (.aload_n 0), 79, 0, 0, 0), (79, (.getfield 12), 82, 7, 0, 2), (82, (.iload_n 1), 83, 0, 0, 0), (83, (.iload_n 2), 84, 0, 0, 0),
  (84, (.iload_n 3), 85, 0, 0, 0), (85, (.iload 4), 87, 0, 0, 0), (87, (.invokevirtual 239), 90, 86, 5, 1), (90, (.istore 7), 92, 0, 0, 0), (92, (.iload 7), 94, 0, 0, 0), (94, (.ldc 157), 96, 0, 0, 100000),
  (96, (.if_icmp .le 8), 99, 104, 0, 0), (99, (.bipush (-5)), 101, 0, 0, -5), (101, (.goto 5), 104, 106, 0, 0), (104, (.iload 7), 106, 0, 0, 0), (106, .ireturn, 107, 0, 0, 0)]
set_option maxRecDepth 100000 in
/-- X.spell(I)I -/
noncomputable def ew_cd_123 : List ew_Ent := [(0, (.iload_n 1), 1, 0, 0, 0), (1, (.invokestatic 112), 4, 94, 1, 0), (4, (.ifCond .ne 6), 7, 10, 0, 0), (7, (.bipush (-2)), 9, 0, 0, -2), (9, .ireturn, 10, 0, 0, 0), (10, (.aload_n 0), 11, 0, 0, 0),
  (11, (.aload_n 0), 12, 0, 0, 0), (12, (.iload_n 1), 13, 0, 0, 0), (13, (.bipush 12), 15, 0, 0, 12), (15, (.invokevirtual 242), 18, 124, 3, 1), (18, (.invokevirtual 245), 21, 125, 2, 1), (21, (.aload_n 0), 22, 0, 0, 0),
  (22, (.getfield 60), 25, 7, 9, 2), (25, (.getfield 249), 28, 3, 1, 0), (28, .ireturn, 29, 0, 0, 0)]
set_option maxRecDepth 100000 in
/-- X.find(II)I -/
noncomputable def ew_cd_124 : List ew_Ent := [(0, (.iconst 0), 1, 0, 0, 0), (1, (.istore_n 3), 2, 0, 0, 0), (2, (.iload_n 1), 3, 0, 0, 0), (3, (.sipush 4000), 6, 0, 0, 4000), (6, .iadd, 7, 0, 0, 0), (7, (.iconst 1), 8, 0, 0, 1),
  (8, .isub, 9, 0, 0, 0), (9, (.ldc 157), 11, 0, 0, 100000), (11, (.invokestatic 331), 14, 3, 2, 0), (14, (.istore 4), 16, 0, 0, 0), (16, (.iload_n 1), 17, 0, 0, 0), (17, (.istore 5), 19, 0, 0, 0),
  (19, (.iload 5), 21, 0, 0, 0), (21, (.iload 4), 23, 0, 0, 0), (23, (.if_icmp .gt 46), 26, 69, 0, 0), (26, (.iload_n 3), 27, 0, 0, 0), (27, (.iload_n 2), 28, 0, 0, 0), (28, (.if_icmp .ge 41), 31, 69, 0, 0),
  (31, (.iload_n 3), 32, 0, 0, 0), (32, (.aload_n 0), 33, 0, 0, 0), (33, (.getfield 50), 36, 7, 7, 2), (36, .arraylength, 37, 0, 0, 0), (37, (.if_icmp .ge 32), 40, 69, 0, 0), (40, (.aload_n 0), 41, 0, 0, 0),
  (41, (.getfield 12), 44, 7, 0, 2), (44, (.iload 5), 46, 0, 0, 0), (46, (.invokevirtual 144), 49, 75, 2, 1), (49, (.ifCond .eq 14), 52, 63, 0, 0), (52, (.aload_n 0), 53, 0, 0, 0), (53, (.getfield 50), 56, 7, 7, 2),
  (56, (.iload_n 3), 57, 0, 0, 0), (57, (.iload 5), 59, 0, 0, 0), (59, .iastore, 60, 0, 0, 0), (60, (.iinc 3 1), 63, 0, 0, 0), (63, (.iinc 5 1), 66, 0, 0, 0), (66, (.goto (-47)), 69, 19, 0, 0),
  (69, (.iload_n 3), 70, 0, 0, 0), (70, .ireturn, 71, 0, 0, 0)]
set_option maxRecDepth 100000 in
/-- X.writePaper(I)V -/
noncomputable def ew_cd_125 : List ew_Ent := [(0, (.aload_n 0), 1, 0, 0, 0), (1, (.getfield 60), 4, 7, 9, 2), (4, (.iconst 0), 5, 0, 0, 0), (5, (.putfield 249), 8, 3, 1, 0), (8, (.iconst 0), 9, 0, 0, 0), (9, (.istore_n 2), 10, 0, 0, 0),
  (10, (.iload_n 2), 11, 0, 0, 0), (11, (.iload_n 1), 12, 0, 0, 0), (12, (.if_icmp .ge 90), 15, 102, 0, 0), (15, (.iload_n 2), 16, 0, 0, 0), (16, (.aload_n 0), 17, 0, 0, 0), (17, (.getfield 50), 20, 7, 7, 2),
  (20, .arraylength, 21, 0, 0, 0), (21, (.if_icmp .ge 81), 24, 102, 0, 0), (24, (.iload_n 2), 25, 0, 0, 0), (25, (.ifCond .le 12), 28, 37, 0, 0), (28, (.aload_n 0), 29, 0, 0, 0), (29, (.getfield 60), 32, 7, 9, 2),
  (32, (.bipush 59), 34, 0, 0, 59), (34, (.invokevirtual 334), 37, 23, 2, 1), (37, (.aload_n 0), 38, 0, 0, 0), (38, (.getfield 60), 41, 7, 9, 2), (41, (.aload_n 0), 42, 0, 0, 0), (42, (.getfield 50), 45, 7, 7, 2),
  (45, (.iload_n 2), 46, 0, 0, 0), (46, .iaload, 47, 0, 0, 0), (47, (.invokevirtual 336), 50, 24, 2, 1), (50, (.aload_n 0), 51, 0, 0, 0), (51, (.getfield 60), 54, 7, 9, 2), (54, (.aload_n 0), 55, 0, 0, 0),
  (55, (.getfield 12), 58, 7, 0, 2), (58, (.aload_n 0), 59, 0, 0, 0), (59, (.getfield 50), 62, 7, 7, 2), (62, (.iload_n 2), 63, 0, 0, 0), (63, .iaload, 64, 0, 0, 0), (64, (.invokevirtual 144), 67, 75, 2, 1),
  (67, (.invokestatic 339), 70, 126, 1, 0), (70, (.invokevirtual 334), 73, 23, 2, 1), (73, (.aload_n 0), 74, 0, 0, 0), (74, (.getfield 60), 77, 7, 9, 2), (77, (.bipush 48), 79, 0, 0, 48), (79, (.aload_n 0), 80, 0, 0, 0),
  (80, (.getfield 12), 83, 7, 0, 2), (83, (.aload_n 0), 84, 0, 0, 0), (84, (.getfield 50), 87, 7, 7, 2), (87, (.iload_n 2), 88, 0, 0, 0), (88, .iaload, 89, 0, 0, 0), (89, (.invokevirtual 150), 92, 77, 2, 1),
  (92, .iadd, 93, 0, 0, 0), (93, (.invokevirtual 334), 96, 23, 2, 1), (96, (.iinc 2 1), 99, 0, 0, 0), (99, (.goto (-89)), 102, 10, 0, 0), (102, .return_, 103, 0, 0, 0)]
set_option maxRecDepth 100000 in
/-- X.letterOf(I)I -/
noncomputable def ew_cd_126 : List ew_Ent := [(0, (.iload_n 0), 1, 0, 0, 0), (1, (.iconst 1), 2, 0, 0, 1), (2, (.if_icmp .ne 6), 5, 8, 0, 0), (5, (.bipush 112), 7, 0, 0, 112), (7, .ireturn, 8, 0, 0, 0), (8, (.iload_n 0), 9, 0, 0, 0),
  (9, (.iconst 2), 10, 0, 0, 2), (10, (.if_icmp .ne 8), 13, 18, 0, 0), (13, (.bipush 119), 15, 0, 0, 119), (15, (.goto 5), 18, 20, 0, 0), (18, (.bipush 114), 20, 0, 0, 114), (20, .ireturn, 21, 0, 0, 0)]
set_option maxRecDepth 100000 in
/-- X.paper(II)I -/
noncomputable def ew_cd_127 : List ew_Ent := [(0, (.iload_n 1), 1, 0, 0, 0), (1, (.invokestatic 112), 4, 94, 1, 0), (4, (.ifCond .ne 6), 7, 10, 0, 0), (7, (.bipush (-2)), 9, 0, 0, -2), (9, .ireturn, 10, 0, 0, 0), (10, (.aload_n 0), 11, 0, 0, 0),
  (11, (.aload_n 0), 12, 0, 0, 0), (12, (.iload_n 1), 13, 0, 0, 0), (13, (.bipush 12), 15, 0, 0, 12), (15, (.invokevirtual 242), 18, 124, 3, 1), (18, (.invokevirtual 245), 21, 125, 2, 1), (21, (.aload_n 0), 22, 0, 0, 0),
  (22, (.getfield 60), 25, 7, 9, 2), (25, (.iload_n 2), 26, 0, 0, 0), (26, (.invokevirtual 252), 29, 25, 2, 1), (29, .ireturn, 30, 0, 0, 0)]
set_option maxRecDepth 100000 in
/-- X.gap(III)I -/
noncomputable def ew_cd_128 : List ew_Ent := [(0, (.iload_n 1), 1, 0, 0, 0), (1, (.invokestatic 112), 4, 94, 1, 0), (4, (.ifCond .eq 23), 7, 27, 0, 0), (7, (.iload_n 2), 8, 0, 0, 0), (8, (.iconst 1), 9, 0, 0, 1), (9, (.if_icmp .lt 18), 12, 27, 0, 0),
  (12, (.iload_n 2), 13, 0, 0, 0), (13, (.bipush 60), 15, 0, 0, 60), (15, (.if_icmp .gt 12), 18, 27, 0, 0), (18, (.iload_n 3), 19, 0, 0, 0), (19, (.ifCond .lt 8), 22, 27, 0, 0), (22, (.iload_n 3), 23, 0, 0, 0),
  (23, (.iconst 2), 24, 0, 0, 2), (24, (.if_icmp .le 6), 27, 30, 0, 0), (27, (.bipush (-2)), 29, 0, 0, -2), (29, .ireturn, 30, 0, 0, 0), (30, (.aload_n 0), 31, 0, 0, 0), (31, (.iload_n 1), 32, 0, 0, 0),
  (32, (.iload_n 2), 33, 0, 0, 0), (33, (.iconst 1), 34, 0, 0, 1), (34, .iadd, 35, 0, 0, 0), (35, (.invokevirtual 242), 38, 124, 3, 1), (38, (.iload_n 2), 39, 0, 0, 0), (39, (.iconst 1), 40, 0, 0, 1),
  (40, .iadd, 41, 0, 0, 0), (41, (.if_icmp .ge 6), 44, 47, 0, 0), (44, (.bipush (-5)), 46, 0, 0, -5), (46, .ireturn, 47, 0, 0, 0), (47, (.iconst 0), 48, 0, 0, 0), (48, (.istore 4), 50, 0, 0, 0),
  (50, (.iconst 0), 51, 0, 0, 0), (51, (.istore 5), 53, 0, 0, 0), (53, (.iconst 0), 54, 0, 0, 0), (54, (.istore 6), 56, 0, 0, 0), (56, (.iconst 0), 57, 0, 0, 0), (57, (.istore 7), 59, 0, 0, 0),
  (59, (.iload 7), 61, 0, 0, 0), (61, (.iload_n 2), 62, 0, 0, 0), (62, (.if_icmp .ge 64), 65, 126, 0, 0), (65, (.aload_n 0), 66, 0, 0, 0), (66, (.iload 7), 68, 0, 0, 0), (68, (.invokevirtual 255), 71, 129, 2, 1),
  (71, (.istore 8), 73, 0, 0, 0), (73, (.aload_n 0), 74, 0, 0, 0), (74, (.iload_n 2), 75, 0, 0, 0), (75, (.iload 8), 77, 0, 0, 0), (77, (.invokevirtual 258), 80, 130, 3, 1), (80, (.istore 9), 82, 0, 0, 0),
  (82, (.iload 9), 84, 0, 0, 0), (84, (.iload 5), 86, 0, 0, 0), (86, (.if_icmp .gt 17), 89, 103, 0, 0), (89, (.iload 9), 91, 0, 0, 0), (91, (.iload 5), 93, 0, 0, 0), (93, (.if_icmp .ne 18), 96, 111, 0, 0),
  (96, (.iload 8), 98, 0, 0, 0), (98, (.iload 4), 100, 0, 0, 0), (100, (.if_icmp .ge 11), 103, 111, 0, 0), (103, (.iload 8), 105, 0, 0, 0), (105, (.istore 4), 107, 0, 0, 0), (107, (.iload 9), 109, 0, 0, 0),
  (109, (.istore 5), 111, 0, 0, 0), (111, (.iload 6), 113, 0, 0, 0), (113, (.iload 8), 115, 0, 0, 0), (115, (.invokestatic 168), 118, 4, 2, 0), (118, (.istore 6), 120, 0, 0, 0), (120, (.iinc 7 1), 123, 0, 0, 0),
  (123, (.goto (-64)), 126, 59, 0, 0), (126, (.iload_n 3), 127, 0, 0, 0), (127, (.ifCond .ne 6), 130, 133, 0, 0), (130, (.iload 4), 132, 0, 0, 0), (132, .ireturn, 133, 0, 0, 0), (133, (.iload_n 3), 134, 0, 0, 0),
  (134, (.iconst 1), 135, 0, 0, 1), (135, (.if_icmp .ne 8), 138, 143, 0, 0), (138, (.iload 5), 140, 0, 0, 0), (140, (.goto 5), 143, 145, 0, 0), (143, (.iload 6), 145, 0, 0, 0), (145, .ireturn, 146, 0, 0, 0)]
set_option maxRecDepth 100000 in
/-- X.gapNumbered(I)I -/
noncomputable def ew_cd_129 : List ew_Ent := [(0, (.iload_n 1), 1, 0, 0, 0), (1, (.ifCond .lt 32), 4, 33, 0, 0), (4, (.iload_n 1), 5, 0, 0, 0), (5, (.iconst 1), 6, 0, 0, 1), (6, .iadd, 7, 0, 0, 0), (7, (.aload_n 0), 8, 0, 0, 0),
  (8, (.getfield 50), 11, 7, 7, 2), (11, .arraylength, 12, 0, 0, 0), (12, (.if_icmp .ge 21), 15, 33, 0, 0), (15, (.aload_n 0), 16, 0, 0, 0), (16, (.getfield 50), 19, 7, 7, 2), (19, (.iload_n 1), 20, 0, 0, 0),
  (20, (.iconst 1), 21, 0, 0, 1), (21, .iadd, 22, 0, 0, 0), (22, .iaload, 23, 0, 0, 0), (23, (.aload_n 0), 24, 0, 0, 0), (24, (.getfield 50), 27, 7, 7, 2), (27, (.iload_n 1), 28, 0, 0, 0),
  (28, .iaload, 29, 0, 0, 0), (29, .isub, 30, 0, 0, 0), (30, (.goto 4), 33, 34, 0, 0), (33, (.iconst 0), 34, 0, 0, 0), (34, .ireturn, 35, 0, 0, 0)]
set_option maxRecDepth 100000 in
/-- X.countGaps(II)I -/
noncomputable def ew_cd_130 : List ew_Ent := [(0, (.iconst 0), 1, 0, 0, 0), (1, (.istore_n 3), 2, 0, 0, 0), (2, (.iconst 0), 3, 0, 0, 0), (3, (.istore 4), 5, 0, 0, 0), (5, (.iload 4), 7, 0, 0, 0), (7, (.iload_n 1), 8, 0, 0, 0),
  (8, (.if_icmp .ge 22), 11, 30, 0, 0), (11, (.aload_n 0), 12, 0, 0, 0), (12, (.iload 4), 14, 0, 0, 0), (14, (.invokevirtual 255), 17, 129, 2, 1), (17, (.iload_n 2), 18, 0, 0, 0), (18, (.if_icmp .ne 6), 21, 24, 0, 0),
  (21, (.iinc 3 1), 24, 0, 0, 0), (24, (.iinc 4 1), 27, 0, 0, 0), (27, (.goto (-22)), 30, 5, 0, 0), (30, (.iload_n 3), 31, 0, 0, 0), (31, .ireturn, 32, 0, 0, 0)]
set_option maxRecDepth 100000 in
/-- X.feed(I)I -/
noncomputable def ew_cd_131 : List ew_Ent := [(0, (.iload_n 1), 1, 0, 0, 0), (1, (.ifCond .lt 9), 4, 10, 0, 0), (4, (.iload_n 1), 5, 0, 0, 0), (5, (.bipush 127), 7, 0, 0, 127), (7, (.if_icmp .le 6), 10, 13, 0, 0), (10, (.bipush (-2)), 12, 0, 0, -2),
  (12, .ireturn, 13, 0, 0, 0), (13, (.aload_n 0), 14, 0, 0, 0), (14, (.getfield 42), 17, 7, 5, 2), (17, (.iload_n 1), 18, 0, 0, 0), (18, (.invokevirtual 261), 21, 49, 2, 1), (21, (.ifCond .eq 13), 24, 34, 0, 0),
  (24, (.aload_n 0), 25, 0, 0, 0), (25, (.getfield 42), 28, 7, 5, 2), (28, (.getfield 264), 31, 4, 1, 0), (31, (.goto 5), 34, 36, 0, 0), (34, (.bipush (-4)), 36, 0, 0, -4), (36, .ireturn, 37, 0, 0, 0)]
set_option maxRecDepth 100000 in
/-- X.read()I -/
noncomputable def ew_cd_132 : List ew_Ent := [(0, (.aload_n 0), 1, 0, 0, 0), (1, (.getfield 42), 4, 7, 5, 2), (4, (.invokevirtual 265), 7, 50, 1, 1), (7, (.istore_n 1), 8, 0, 0, 0), (8, (.iload_n 1), 9, 0, 0, 0), (9, (.ifCond .ne 18), 12, 27, 0, 0),
  (12, (.aload_n 0), 13, 0, 0, 0), (13, (.getfield 42), 16, 7, 5, 2), (16, (.aload_n 0), 17, 0, 0, 0), (17, (.getfield 12), 20, 7, 0, 2), (20, (.getfield 141), 23, 2, 2, 0), (23, (.invokevirtual 268), 26, 59, 2, 1),
  (26, (.istore_n 1), 27, 0, 0, 0), (27, (.aload_n 0), 28, 0, 0, 0), (28, (.getfield 42), 31, 7, 5, 2), (31, (.iconst 0), 32, 0, 0, 0), (32, (.putfield 264), 35, 4, 1, 0), (35, (.iload_n 1), 36, 0, 0, 0),
  (36, (.ifCond .eq 5), 39, 41, 0, 0), (39, (.iload_n 1), 40, 0, 0, 0), (40, .ireturn, 41, 0, 0, 0), (41, (.iconst 0), 42, 0, 0, 0), (42, (.istore_n 2), 43, 0, 0, 0), (43, (.iload_n 2), 44, 0, 0, 0),
  (44, (.aload_n 0), 45, 0, 0, 0), (45, (.getfield 42), 48, 7, 5, 2), (48, (.getfield 271), 51, 4, 5, 0), (51, (.if_icmp .ge 14), 54, 65, 0, 0), (54, (.aload_n 0), 55, 0, 0, 0), (55, (.iload_n 2), 56, 0, 0, 0),
  (56, (.invokevirtual 274), 59, 133, 2, 1), (59, (.iinc 2 1), 62, 0, 0, 0), (62, (.goto (-19)), 65, 43, 0, 0), (65, (.aload_n 0), 66, 0, 0, 0), (66, .dup, 67, 0, 0, 0), (67, (.getfield 46), 70, 7, 6, 0),
  (70, (.iconst 1), 71, 0, 0, 1), (71, .iadd, 72, 0, 0, 0), (72, (.putfield 46), 75, 7, 6, 0), (75, (.aload_n 0), 76, 0, 0, 0), (76, (.getfield 42), 79, 7, 5, 2), (79, (.getfield 271), 82, 4, 5, 0),
  (82, .ireturn, 83, 0, 0, 0)]
set_option maxRecDepth 100000 in
/-- X.doStatement(I)V -/
noncomputable def ew_cd_133 : List ew_Ent := [(0, (.aload_n 0), 1, 0, 0, 0), (1, (.getfield 42), 4, 7, 5, 2), (4, (.iload_n 1), 5, 0, 0, 0), (5, (.invokevirtual 342), 8, 62, 2, 1), (8, (.istore_n 2), 9, 0, 0, 0), (9, (.aload_n 0), 10, 0, 0, 0),
  (10, (.getfield 42), 13, 7, 5, 2), (13, (.iload_n 1), 14, 0, 0, 0), (14, (.iconst 0), 15, 0, 0, 0), (15, (.invokevirtual 343), 18, 61, 3, 1), (18, (.istore_n 3), 19, 0, 0, 0), (19, (.iload_n 2), 20, 0, 0, 0),
  (20, (.lookupswitch 90 #[(97, 55), (105, 78), (110, 44), (111, 66)]), 64, 110, 0, 0), (64, (.aload_n 0), 65, 0, 0, 0), (65, (.getfield 12), 68, 7, 0, 2), (68, (.iload_n 3), 69, 0, 0, 0), (69, (.putfield 121), 72, 2, 3, 0), (72, (.goto 69), 75, 141, 0, 0),
  (75, (.aload_n 0), 76, 0, 0, 0), (76, (.getfield 12), 79, 7, 0, 2), (79, (.iload_n 3), 80, 0, 0, 0), (80, (.putfield 124), 83, 2, 4, 0), (83, (.goto 58), 86, 141, 0, 0), (86, (.aload_n 0), 87, 0, 0, 0),
  (87, (.getfield 12), 90, 7, 0, 2), (90, (.iconst 0), 91, 0, 0, 0), (91, (.iload_n 3), 92, 0, 0, 0), (92, (.invokevirtual 137), 95, 74, 3, 1), (95, (.goto 46), 98, 141, 0, 0), (98, (.aload_n 0), 99, 0, 0, 0),
  (99, (.getfield 12), 102, 7, 0, 2), (102, (.iconst 1), 103, 0, 0, 1), (103, (.iload_n 3), 104, 0, 0, 0), (104, (.invokevirtual 137), 107, 74, 3, 1), (107, (.goto 34), 110, 141, 0, 0), (110, (.aload_n 0), 111, 0, 0, 0),
  (111, (.getfield 12), 114, 7, 0, 2), (114, (.iload_n 2), 115, 0, 0, 0), (115, (.invokestatic 346), 118, 53, 1, 0), (118, (.aload_n 0), 119, 0, 0, 0), (119, (.getfield 42), 122, 7, 5, 2), (122, (.iload_n 1), 123, 0, 0, 0),
  (123, (.iconst 1), 124, 0, 0, 1), (124, (.invokevirtual 343), 127, 61, 3, 1), (127, (.iload_n 3), 128, 0, 0, 0), (128, (.aload_n 0), 129, 0, 0, 0), (129, (.getfield 42), 132, 7, 5, 2), (132, (.iload_n 1), 133, 0, 0, 0),
  (133, (.iconst 2), 134, 0, 0, 2), (134, (.invokevirtual 343), 137, 61, 3, 1), (137, (.invokevirtual 76), 140, 64, 5, 1), (140, .pop, 141, 0, 0, 0), (141, .return_, 142, 0, 0, 0)]
set_option maxRecDepth 100000 in
/-- X.tray(III)I -/
noncomputable def ew_cd_134 : List ew_Ent := [(0, (.aload_n 0), 1, 0, 0, 0), (1, (.iload_n 1), 2, 0, 0, 0), (2, (.invokevirtual 277), 5, 135, 2, 1), (5, (.astore 4), 7, 0, 0, 0), (7, (.aload 4), 9, 0, 0, 0), (9, (.ifnonnull 5), 12, 14, 0, 0),
  (12, (.iconst (-1)), 13, 0, 0, -1), (13, .ireturn, 14, 0, 0, 0), (14, (.iload_n 2), 15, 0, 0, 0), (15, (.iconst (-1)), 16, 0, 0, -1), (16, (.if_icmp .ne 12), 19, 28, 0, 0), (19, (.aload 4), 21, 0, 0, 0),
  (21, (.iconst (-1)), 22, 0, 0, -1), (22, (.iconst 0), 23, 0, 0, 0), (23, (.invokevirtual 281), 26, 27, 3, 1), (26, (.iconst 1), 27, 0, 0, 1), (27, .ireturn, 28, 0, 0, 0), (28, (.iload_n 2), 29, 0, 0, 0),
  (29, (.invokestatic 284), 32, 34, 1, 0), (32, (.ifCond .eq 9), 35, 41, 0, 0), (35, (.iload_n 3), 36, 0, 0, 0), (36, (.bipush 12), 38, 0, 0, 12), (38, (.if_icmp .le 6), 41, 44, 0, 0), (41, (.bipush (-2)), 43, 0, 0, -2),
  (43, .ireturn, 44, 0, 0, 0), (44, (.iload_n 3), 45, 0, 0, 0), (45, (.ifCond .ge 6), 48, 51, 0, 0), (48, (.bipush (-14)), 50, 0, 0, -14), (50, .ireturn, 51, 0, 0, 0), (51, (.aload 4), 53, 0, 0, 0),
  (53, (.iload_n 2), 54, 0, 0, 0), (54, (.iload_n 3), 55, 0, 0, 0), (55, (.invokevirtual 281), 58, 27, 3, 1), (58, (.iconst 1), 59, 0, 0, 1), (59, .ireturn, 60, 0, 0, 0)]
set_option maxRecDepth 100000 in
/-- X.trayNumbered(I)LEclipseWheel$Tray; -/
noncomputable def ew_cd_135 : List ew_Ent := [(0, (.iload_n 1), 1, 0, 0, 0), (1, (.ifCond .lt 21), 4, 22, 0, 0), (4, (.iload_n 1), 5, 0, 0, 0), (5, (.aload_n 0), 6, 0, 0, 0), (6, (.getfield 28), 9, 7, 3, 2), (9, .arraylength, 10, 0, 0, 0),
  (10, (.if_icmp .ge 12), 13, 22, 0, 0), (13, (.aload_n 0), 14, 0, 0, 0), (14, (.getfield 28), 17, 7, 3, 2), (17, (.iload_n 1), 18, 0, 0, 0), (18, .aaload, 19, 0, 0, 0), (19, (.goto 4), 22, 23, 0, 0),
  (22, .aconst_null, 23, 0, 0, 0), (23, .areturn, 24, 0, 0, 0)]
set_option maxRecDepth 100000 in
/-- X.lay(III)I -/
noncomputable def ew_cd_136 : List ew_Ent := [(0, (.aload_n 0), 1, 0, 0, 0), (1, (.iload_n 1), 2, 0, 0, 0), (2, (.invokevirtual 277), 5, 135, 2, 1), (5, (.astore 4), 7, 0, 0, 0), (7, (.aload 4), 9, 0, 0, 0), (9, (.ifnull 19), 12, 28, 0, 0),
  (12, (.iload_n 3), 13, 0, 0, 0), (13, (.iconst (-1)), 14, 0, 0, -1), (14, (.if_icmp .eq 16), 17, 30, 0, 0), (17, (.aload_n 0), 18, 0, 0, 0), (18, (.getfield 12), 21, 7, 0, 2), (21, (.iload_n 3), 22, 0, 0, 0),
  (22, (.invokevirtual 108), 25, 69, 2, 1), (25, (.ifCond .ne 5), 28, 30, 0, 0), (28, (.iconst (-1)), 29, 0, 0, -1), (29, .ireturn, 30, 0, 0, 0), (30, (.aload 4), 32, 0, 0, 0), (32, (.invokevirtual 287), 35, 28, 1, 1),
  (35, (.ifCond .eq 6), 38, 41, 0, 0), (38, (.bipush (-11)), 40, 0, 0, -11), (40, .ireturn, 41, 0, 0, 0), (41, (.aload 4), 43, 0, 0, 0), (43, (.iload_n 2), 44, 0, 0, 0), (44, (.invokevirtual 291), 47, 29, 2, 1),
  (47, (.ifCond .ne 6), 50, 53, 0, 0), (50, (.bipush (-12)), 52, 0, 0, -12), (52, .ireturn, 53, 0, 0, 0), (53, (.aload_n 0), 54, 0, 0, 0), (54, (.getfield 12), 57, 7, 0, 2), (57, (.iload_n 3), 58, 0, 0, 0),
  (58, (.invokevirtual 80), 61, 65, 2, 1), (61, (.astore 5), 63, 0, 0, 0), (63, (.aload 5), 65, 0, 0, 0), (65, (.ifnull 22), 68, 87, 0, 0), (68, (.aload 5), 70, 0, 0, 0), (70, (.getfield 88), 73, 6, 0, 0),
  (73, (.aload 4), 75, 0, 0, 0), (75, (.getfield 292), 78, 5, 1, 0), (78, (.invokestatic 293), 81, 36, 2, 0), (81, (.ifCond .ne 6), 84, 87, 0, 0), (84, (.bipush (-13)), 86, 0, 0, -13), (86, .ireturn, 87, 0, 0, 0),
  (87, (.aload 4), 89, 0, 0, 0), (89, (.iload_n 2), 90, 0, 0, 0), (90, (.aload 5), 92, 0, 0, 0), (92, (.invokevirtual 296), 95, 30, 3, 1), (95, (.iconst 1), 96, 0, 0, 1), (96, .ireturn, 97, 0, 0, 0)]
set_option maxRecDepth 100000 in
/-- X.laid(III)I -/
noncomputable def ew_cd_137 : List ew_Ent := [(0, (.aload_n 0), 1, 0, 0, 0), (1, (.iload_n 1), 2, 0, 0, 0), (2, (.invokevirtual 277), 5, 135, 2, 1), (5, (.astore 4), 7, 0, 0, 0), (7, (.aload 4), 9, 0, 0, 0), (9, (.ifnull 12), 12, 21, 0, 0),
  (12, (.iload_n 3), 13, 0, 0, 0), (13, (.ifCond .lt 8), 16, 21, 0, 0), (16, (.iload_n 3), 17, 0, 0, 0), (17, (.iconst 3), 18, 0, 0, 3), (18, (.if_icmp .le 5), 21, 23, 0, 0), (21, (.iconst (-1)), 22, 0, 0, -1),
  (22, .ireturn, 23, 0, 0, 0), (23, (.aload 4), 25, 0, 0, 0), (25, (.invokevirtual 287), 28, 28, 1, 1), (28, (.ifCond .eq 6), 31, 34, 0, 0), (31, (.bipush (-11)), 33, 0, 0, -11), (33, .ireturn, 34, 0, 0, 0),
  (34, (.aload 4), 36, 0, 0, 0), (36, (.iload_n 2), 37, 0, 0, 0), (37, (.invokevirtual 291), 40, 29, 2, 1), (40, (.ifCond .ne 6), 43, 46, 0, 0), (43, (.bipush (-12)), 45, 0, 0, -12), (45, .ireturn, 46, 0, 0, 0),
  (46, (.aload 4), 48, 0, 0, 0), (48, (.iload_n 2), 49, 0, 0, 0), (49, (.invokevirtual 300), 52, 31, 2, 1), (52, (.astore 5), 54, 0, 0, 0), (54, (.aload 5), 56, 0, 0, 0), (56, (.ifnonnull 8), 59, 64, 0, 0),
  (59, (.bipush (-5)), 61, 0, 0, -5), (61, (.goto 9), 64, 70, 0, 0), (64, (.aload 5), 66, 0, 0, 0), (66, (.iload_n 3), 67, 0, 0, 0), (67, (.invokevirtual 84), 70, 39, 2, 1), (70, .ireturn, 71, 0, 0, 0)]
set_option maxRecDepth 100000 in
/-- X.like(II)I -/
noncomputable def ew_cd_138 : List ew_Ent := [(0, (.aload_n 0), 1, 0, 0, 0), (1, (.iload_n 1), 2, 0, 0, 0), (2, (.invokevirtual 277), 5, 135, 2, 1), (5, (.astore_n 3), 6, 0, 0, 0), (6, (.aload_n 0), 7, 0, 0, 0), (7, (.iload_n 2), 8, 0, 0, 0),
  (8, (.invokevirtual 277), 11, 135, 2, 1), (11, (.astore 4), 13, 0, 0, 0), (13, (.aload_n 3), 14, 0, 0, 0), (14, (.ifnull 8), 17, 22, 0, 0), (17, (.aload 4), 19, 0, 0, 0), (19, (.ifnonnull 5), 22, 24, 0, 0),
  (22, (.iconst (-1)), 23, 0, 0, -1), (23, .ireturn, 24, 0, 0, 0), (24, (.aload 4), 26, 0, 0, 0), (26, (.invokevirtual 287), 29, 28, 1, 1), (29, (.ifCond .eq 6), 32, 35, 0, 0), (32, (.bipush (-11)), 34, 0, 0, -11),
  (34, .ireturn, 35, 0, 0, 0), (35, (.aload_n 3), 36, 0, 0, 0), (36, (.aload 4), 38, 0, 0, 0), (38, (.invokevirtual 303), 41, 32, 2, 1), (41, (.aload_n 3), 42, 0, 0, 0), (42, (.getfield 307), 45, 5, 2, 0),
  (45, .ireturn, 46, 0, 0, 0)]
set_option maxRecDepth 100000 in
/-- X.list(II)I -/
noncomputable def ew_cd_139 : List ew_Ent := [(0, (.aload_n 0), 1, 0, 0, 0), (1, (.iload_n 1), 2, 0, 0, 0), (2, (.invokevirtual 308), 5, 140, 2, 1), (5, (.astore_n 3), 6, 0, 0, 0), (6, (.aload_n 3), 7, 0, 0, 0), (7, (.ifnonnull 5), 10, 12, 0, 0),
  (10, (.iconst (-1)), 11, 0, 0, -1), (11, .ireturn, 12, 0, 0, 0), (12, (.iload_n 2), 13, 0, 0, 0), (13, (.bipush 40), 15, 0, 0, 40), (15, (.if_icmp .le 6), 18, 21, 0, 0), (18, (.bipush (-2)), 20, 0, 0, -2),
  (20, .ireturn, 21, 0, 0, 0), (21, (.iload_n 2), 22, 0, 0, 0), (22, (.iconst (-1)), 23, 0, 0, -1), (23, (.if_icmp .ge 6), 26, 29, 0, 0), (26, (.bipush (-14)), 28, 0, 0, -14), (28, .ireturn, 29, 0, 0, 0),
  (29, (.aload_n 3), 30, 0, 0, 0), (30, (.iload_n 2), 31, 0, 0, 0), (31, (.invokevirtual 312), 34, 11, 2, 1), (34, (.iconst 1), 35, 0, 0, 1), (35, .ireturn, 36, 0, 0, 0)]
set_option maxRecDepth 100000 in
/-- X.listNumbered(I)LEclipseWheel$Items; -/
noncomputable def ew_cd_140 : List ew_Ent := [(0, (.iload_n 1), 1, 0, 0, 0), (1, (.ifCond .lt 21), 4, 22, 0, 0), (4, (.iload_n 1), 5, 0, 0, 0), (5, (.aload_n 0), 6, 0, 0, 0), (6, (.getfield 35), 9, 7, 4, 2), (9, .arraylength, 10, 0, 0, 0),
  (10, (.if_icmp .ge 12), 13, 22, 0, 0), (13, (.aload_n 0), 14, 0, 0, 0), (14, (.getfield 35), 17, 7, 4, 2), (17, (.iload_n 1), 18, 0, 0, 0), (18, .aaload, 19, 0, 0, 0), (19, (.goto 4), 22, 23, 0, 0),
  (22, .aconst_null, 23, 0, 0, 0), (23, .areturn, 24, 0, 0, 0)]
set_option maxRecDepth 100000 in
/-- X.put(IIJ)I -/
noncomputable def ew_cd_141 : List ew_Ent := [(0, (.aload_n 0), 1, 0, 0, 0), (1, (.iload_n 1), 2, 0, 0, 0), (2, (.invokevirtual 308), 5, 140, 2, 1), (5, (.astore 5), 7, 0, 0, 0), (7, (.aload 5), 9, 0, 0, 0), (9, (.ifnonnull 5), 12, 14, 0, 0),
  (12, (.iconst (-1)), 13, 0, 0, -1), (13, .ireturn, 14, 0, 0, 0), (14, (.aload 5), 16, 0, 0, 0), (16, (.invokevirtual 315), 19, 12, 1, 1), (19, (.ifCond .eq 6), 22, 25, 0, 0), (22, (.bipush (-11)), 24, 0, 0, -11),
  (24, .ireturn, 25, 0, 0, 0), (25, (.aload 5), 27, 0, 0, 0), (27, (.iload_n 2), 28, 0, 0, 0), (28, (.invokevirtual 316), 31, 13, 2, 1), (31, (.ifCond .ne 6), 34, 37, 0, 0), (34, (.bipush (-12)), 36, 0, 0, -12),
  (36, .ireturn, 37, 0, 0, 0), (37, (.aload 5), 39, 0, 0, 0), (39, (.iload_n 2), 40, 0, 0, 0), (40, (.lload_n 3), 41, 0, 0, 0), (41, (.invokevirtual 319), 44, 14, 3, 1), (44, (.iconst 1), 45, 0, 0, 1),
  (45, .ireturn, 46, 0, 0, 0)]
set_option maxRecDepth 100000 in
/-- X.get(II)J -/
noncomputable def ew_cd_142 : List ew_Ent := [(0, (.aload_n 0), 1, 0, 0, 0), (1, (.iload_n 1), 2, 0, 0, 0), (2, (.invokevirtual 308), 5, 140, 2, 1), (5, (.astore_n 3), 6, 0, 0, 0), (6, (.aload_n 3), 7, 0, 0, 0), (7, (.ifnonnull 9), 10, 16, 0, 0),
  (10, (.ldc2_w 119), 13, 1, 0, -9223372036854775808), (13, (.goto 8), 16, 21, 0, 0), (16, (.aload_n 3), 17, 0, 0, 0), (17, (.iload_n 2), 18, 0, 0, 0), (18, (.invokevirtual 323), 21, 15, 2, 1), (21, .lreturn, 22, 0, 0, 0)]
set_option maxRecDepth 100000 in
/-- X.fill(II)I -/
noncomputable def ew_cd_143 : List ew_Ent := [(0, (.aload_n 0), 1, 0, 0, 0), (1, (.iload_n 1), 2, 0, 0, 0), (2, (.invokevirtual 308), 5, 140, 2, 1), (5, (.astore_n 3), 6, 0, 0, 0), (6, (.aload_n 3), 7, 0, 0, 0), (7, (.ifnonnull 5), 10, 12, 0, 0),
  (10, (.iconst (-1)), 11, 0, 0, -1), (11, .ireturn, 12, 0, 0, 0), (12, (.iload_n 2), 13, 0, 0, 0), (13, (.invokestatic 112), 16, 94, 1, 0), (16, (.ifCond .ne 6), 19, 22, 0, 0), (19, (.bipush (-2)), 21, 0, 0, -2),
  (21, .ireturn, 22, 0, 0, 0), (22, (.aload_n 3), 23, 0, 0, 0), (23, (.invokevirtual 315), 26, 12, 1, 1), (26, (.ifCond .eq 6), 29, 32, 0, 0), (29, (.bipush (-11)), 31, 0, 0, -11), (31, .ireturn, 32, 0, 0, 0),
  (32, (.aload_n 0), 33, 0, 0, 0), (33, (.iload_n 2), 34, 0, 0, 0), (34, (.aload_n 3), 35, 0, 0, 0), (35, (.getfield 326), 38, 0, 1, 0), (38, (.invokevirtual 242), 41, 124, 3, 1), (41, (.istore 4), 43, 0, 0, 0),
  (43, (.iconst 0), 44, 0, 0, 0), (44, (.istore 5), 46, 0, 0, 0), (46, (.iload 5), 48, 0, 0, 0), (48, (.iload 4), 50, 0, 0, 0), (50, (.if_icmp .ge 33), 53, 83, 0, 0), (53, (.iload 5), 55, 0, 0, 0),
  (55, (.aload_n 0), 56, 0, 0, 0), (56, (.getfield 50), 59, 7, 7, 2), (59, .arraylength, 60, 0, 0, 0), (60, (.if_icmp .ge 23), 63, 83, 0, 0), (63, (.aload_n 3), 64, 0, 0, 0), (64, (.iload 5), 66, 0, 0, 0),
  (66, (.aload_n 0), 67, 0, 0, 0), (67, (.getfield 50), 70, 7, 7, 2), (70, (.iload 5), 72, 0, 0, 0), (72, .iaload, 73, 0, 0, 0), (73, .i2l, 74, 0, 0, 0), (74, (.invokevirtual 319), 77, 14, 3, 1),
  (77, (.iinc 5 1), 80, 0, 0, 0), (80, (.goto (-34)), 83, 46, 0, 0), (83, (.iload 4), 85, 0, 0, 0), (85, .ireturn, 86, 0, 0, 0)]
set_option maxRecDepth 100000 in
/-- X.judge(II)I -/
noncomputable def ew_cd_144 : List ew_Ent := [(0, (.aload_n 0), 1, 0, 0, 0), (1, (.iload_n 1), 2, 0, 0, 0), (2, (.invokevirtual 308), 5, 140, 2, 1), (5, (.astore_n 3), 6, 0, 0, 0), (6, (.aload_n 3), 7, 0, 0, 0), (7, (.ifnonnull 5), 10, 12, 0, 0),
  (10, (.iconst (-1)), 11, 0, 0, -1), (11, .ireturn, 12, 0, 0, 0), (12, (.iload_n 2), 13, 0, 0, 0), (13, (.invokestatic 112), 16, 94, 1, 0), (16, (.ifCond .ne 6), 19, 22, 0, 0), (19, (.bipush (-2)), 21, 0, 0, -2),
  (21, .ireturn, 22, 0, 0, 0), (22, (.aload_n 3), 23, 0, 0, 0), (23, (.invokevirtual 315), 26, 12, 1, 1), (26, (.ifCond .eq 6), 29, 32, 0, 0), (29, (.bipush (-11)), 31, 0, 0, -11), (31, .ireturn, 32, 0, 0, 0),
  (32, (.aload_n 0), 33, 0, 0, 0), (33, (.iload_n 2), 34, 0, 0, 0), (34, (.aload_n 3), 35, 0, 0, 0), (35, (.getfield 326), 38, 0, 1, 0), (38, (.invokevirtual 242), 41, 124, 3, 1), (41, (.istore 4), 43, 0, 0, 0),
  (43, (.iconst 0), 44, 0, 0, 0), (44, (.istore 5), 46, 0, 0, 0), (46, (.iload 5), 48, 0, 0, 0), (48, (.aload_n 3), 49, 0, 0, 0), (49, (.getfield 326), 52, 0, 1, 0), (52, (.if_icmp .ge 47), 55, 99, 0, 0),
  (55, (.iload 5), 57, 0, 0, 0), (57, (.iload 4), 59, 0, 0, 0), (59, (.if_icmp .ge 31), 62, 90, 0, 0), (62, (.iload 5), 64, 0, 0, 0), (64, (.aload_n 0), 65, 0, 0, 0), (65, (.getfield 50), 68, 7, 7, 2),
  (68, .arraylength, 69, 0, 0, 0), (69, (.if_icmp .ge 21), 72, 90, 0, 0), (72, (.aload_n 3), 73, 0, 0, 0), (73, (.iload 5), 75, 0, 0, 0), (75, (.invokevirtual 323), 78, 15, 2, 1), (78, (.aload_n 0), 79, 0, 0, 0),
  (79, (.getfield 50), 82, 7, 7, 2), (82, (.iload 5), 84, 0, 0, 0), (84, .iaload, 85, 0, 0, 0), (85, .i2l, 86, 0, 0, 0), (86, .lcmp, 87, 0, 0, 0), (87, (.ifCond .eq 6), 90, 93, 0, 0),
  (90, (.iload 5), 92, 0, 0, 0), (92, .ireturn, 93, 0, 0, 0), (93, (.iinc 5 1), 96, 0, 0, 0), (96, (.goto (-50)), 99, 46, 0, 0), (99, (.bipush (-5)), 101, 0, 0, -5), (101, .ireturn, 102, 0, 0, 0)]
set_option maxRecDepth 100000 in
/-- X.count(I)I -/
noncomputable def ew_cd_145 : List ew_Ent := [(0, (.iload_n 1), 1, 0, 0, 0), (1, (.tableswitch 72 0 4 #[35, 43, 51, 56, 64]), 36, 73, 0, 0), (36, (.aload_n 0), 37, 0, 0, 0), (37, (.getfield 12), 40, 7, 0, 2), (40, (.getfield 141), 43, 2, 2, 0), (43, .ireturn, 44, 0, 0, 0),
  (44, (.aload_n 0), 45, 0, 0, 0), (45, (.getfield 42), 48, 7, 5, 2), (48, (.getfield 264), 51, 4, 1, 0), (51, .ireturn, 52, 0, 0, 0), (52, (.aload_n 0), 53, 0, 0, 0), (53, (.getfield 46), 56, 7, 6, 0),
  (56, .ireturn, 57, 0, 0, 0), (57, (.aload_n 0), 58, 0, 0, 0), (58, (.getfield 12), 61, 7, 0, 2), (61, (.getfield 121), 64, 2, 3, 0), (64, .ireturn, 65, 0, 0, 0), (65, (.aload_n 0), 66, 0, 0, 0),
  (66, (.getfield 12), 69, 7, 0, 2), (69, (.getfield 124), 72, 2, 4, 0), (72, .ireturn, 73, 0, 0, 0), (73, (.iload_n 1), 74, 0, 0, 0), (74, (.iconst 5), 75, 0, 0, 5), (75, .isub, 76, 0, 0, 0),
  (76, (.invokestatic 127), 79, 71, 1, 0), (79, (.ifCond .eq 16), 82, 95, 0, 0), (82, (.aload_n 0), 83, 0, 0, 0), (83, (.getfield 12), 86, 7, 0, 2), (86, (.iload_n 1), 87, 0, 0, 0), (87, (.iconst 5), 88, 0, 0, 5),
  (88, .isub, 89, 0, 0, 0), (89, (.invokevirtual 134), 92, 73, 2, 1), (92, (.goto 5), 95, 97, 0, 0), (95, (.bipush (-2)), 97, 0, 0, -2), (97, .ireturn, 98, 0, 0, 0)]
set_option maxRecDepth 100000 in
/-- X.image()I -/
noncomputable def ew_cd_146 : List ew_Ent := [(0, (.aload_n 0), 1, 0, 0, 0), (1, (.getfield 18), 4, 7, 1, 2), (4, (.aload_n 0), 5, 0, 0, 0), (5, (.getfield 12), 8, 7, 0, 2), (8, (.invokevirtual 327), 11, 87, 2, 1), (11, (.aload_n 0), 12, 0, 0, 0),
  (12, (.iconst 1), 13, 0, 0, 1), (13, (.putfield 21), 16, 7, 2, 5), (16, (.aload_n 0), 17, 0, 0, 0), (17, (.getfield 12), 20, 7, 0, 2), (20, (.getfield 141), 23, 2, 2, 0), (23, .ireturn, 24, 0, 0, 0)]
set_option maxRecDepth 100000 in
/-- X.undo()I -/
noncomputable def ew_cd_147 : List ew_Ent := [(0, (.aload_n 0), 1, 0, 0, 0), (1, (.getfield 21), 4, 7, 2, 0), (4, (.ifCond .ne 6), 7, 10, 0, 0), (7, (.bipush (-3)), 9, 0, 0, -3), (9, .ireturn, 10, 0, 0, 0), (10, (.aload_n 0), 11, 0, 0, 0),
  (11, (.getfield 12), 14, 7, 0, 2), (14, (.aload_n 0), 15, 0, 0, 0), (15, (.getfield 18), 18, 7, 1, 2), (18, (.invokevirtual 327), 21, 87, 2, 1), (21, (.aload_n 0), 22, 0, 0, 0), (22, (.getfield 12), 25, 7, 0, 2),
  (25, (.getfield 141), 28, 2, 2, 0), (28, .ireturn, 29, 0, 0, 0)]
set_option maxRecDepth 100000 in
/-- M.<init>()V -/
noncomputable def ew_cd_148 : List ew_Ent := [(0, (.aload_n 0), 1, 0, 0, 0), (1, (.invokespecial 3), 4, 0, 1, 4), (4, (.aload_n 0), 5, 0, 0, 0), (5, (.bipush 64), 7, 0, 0, 64), (7, (.newarray .int), 9, 20, 0, 0), (9, (.putfield 9), 12, 8, 0, 2),
  (12, (.aload_n 0), 13, 0, 0, 0), (13, (.bipush 64), 15, 0, 0, 64), (15, (.newarray .int), 17, 20, 0, 0), (17, (.putfield 15), 20, 8, 1, 2), (20, (.aload_n 0), 21, 0, 0, 0), (21, (.bipush 64), 23, 0, 0, 64),
  (23, (.newarray .int), 25, 20, 0, 0), (25, (.putfield 18), 28, 8, 2, 2), (28, (.aload_n 0), 29, 0, 0, 0), (29, (.bipush 64), 31, 0, 0, 64), (31, (.newarray .int), 33, 20, 0, 0), (33, (.putfield 21), 36, 8, 3, 2),
  (36, (.aload_n 0), 37, 0, 0, 0), (37, (.bipush 64), 39, 0, 0, 64), (39, (.newarray .int), 41, 20, 0, 0), (41, (.putfield 24), 44, 8, 4, 2), (44, (.aload_n 0), 45, 0, 0, 0), (45, (.bipush 6), 47, 0, 0, 6),
  (47, (.newarray .int), 49, 20, 0, 0), (49, (.putfield 27), 52, 8, 6, 2), (52, (.aload_n 0), 53, 0, 0, 0), (53, (.iconst (-1)), 54, 0, 0, -1), (54, (.putfield 30), 57, 8, 8, 0), (57, (.aload_n 0), 58, 0, 0, 0),
  (58, (.bipush 6), 60, 0, 0, 6), (60, (.newarray .int), 62, 20, 0, 0), (62, .dup, 63, 0, 0, 0), (63, (.iconst 0), 64, 0, 0, 0), (64, (.bipush 15), 66, 0, 0, 15), (66, .iastore, 67, 0, 0, 0),
  (67, .dup, 68, 0, 0, 0), (68, (.iconst 1), 69, 0, 0, 1), (69, (.bipush 9), 71, 0, 0, 9), (71, .iastore, 72, 0, 0, 0), (72, .dup, 73, 0, 0, 0), (73, (.iconst 2), 74, 0, 0, 2),
  (74, (.bipush 20), 76, 0, 0, 20), (76, .iastore, 77, 0, 0, 0), (77, .dup, 78, 0, 0, 0), (78, (.iconst 3), 79, 0, 0, 3), (79, (.bipush 59), 81, 0, 0, 59), (81, .iastore, 82, 0, 0, 0),
  (82, .dup, 83, 0, 0, 0), (83, (.iconst 4), 84, 0, 0, 4), (84, (.iconst 2), 85, 0, 0, 2), (85, .iastore, 86, 0, 0, 0), (86, .dup, 87, 0, 0, 0), (87, (.iconst 5), 88, 0, 0, 5),
  (88, (.iconst 4), 89, 0, 0, 4), (89, .iastore, 90, 0, 0, 0), (90, (.putfield 34), 93, 8, 9, 2), (93, (.aload_n 0), 94, 0, 0, 0), (94, (.bipush 40), 96, 0, 0, 40), (96, (.newarray .int), 98, 20, 0, 0),
  (98, (.putfield 37), 101, 8, 10, 2), (101, (.aload_n 0), 102, 0, 0, 0), (102, (.sipush 200), 105, 0, 0, 200), (105, (.newarray .int), 107, 20, 0, 0), (107, (.putfield 40), 110, 8, 12, 2), (110, (.aload_n 0), 111, 0, 0, 0),
  (111, (.sipush 200), 114, 0, 0, 200), (114, (.newarray .int), 116, 20, 0, 0), (116, (.putfield 43), 119, 8, 13, 2), (119, (.aload_n 0), 120, 0, 0, 0), (120, (.bipush 64), 122, 0, 0, 64), (122, (.newarray .int), 124, 20, 0, 0),
  (124, (.putfield 46), 127, 8, 15, 2), (127, (.aload_n 0), 128, 0, 0, 0), (128, (.iconst 4), 129, 0, 0, 4), (129, (.newarray .int), 131, 20, 0, 0), (131, (.putfield 49), 134, 8, 16, 2), (134, (.aload_n 0), 135, 0, 0, 0),
  (135, (.sipush 140), 138, 0, 0, 140), (138, (.newarray .int), 140, 20, 0, 0), (140, (.putfield 52), 143, 8, 17, 2), (143, (.aload_n 0), 144, 0, 0, 0), (144, (.bipush 60), 146, 0, 0, 60), (146, (.newarray .int), 148, 20, 0, 0),
  (148, (.putfield 55), 151, 8, 19, 2), (151, (.aload_n 0), 152, 0, 0, 0), (152, (.bipush 80), 154, 0, 0, 80), (154, (.newarray .int), 156, 20, 0, 0), (156, (.putfield 58), 159, 8, 20, 2), (159, (.aload_n 0), 160, 0, 0, 0),
  (160, (.iconst 4), 161, 0, 0, 4), (161, (.newarray .int), 163, 20, 0, 0), (163, .dup, 164, 0, 0, 0), (164, (.iconst 0), 165, 0, 0, 0), (165, (.iconst (-1)), 166, 0, 0, -1), (166, .iastore, 167, 0, 0, 0),
  (167, .dup, 168, 0, 0, 0), (168, (.iconst 1), 169, 0, 0, 1), (169, (.iconst (-1)), 170, 0, 0, -1), (170, .iastore, 171, 0, 0, 0), (171, .dup, 172, 0, 0, 0), (172, (.iconst 2), 173, 0, 0, 2),
  (173, (.iconst (-1)), 174, 0, 0, -1), (174, .iastore, 175, 0, 0, 0), (175, .dup, 176, 0, 0, 0), (176, (.iconst 3), 177, 0, 0, 3), (177, (.iconst (-1)), 178, 0, 0, -1), (178, .iastore, 179, 0, 0, 0),
  (179, (.putfield 61), 182, 8, 28, 2), (182, (.aload_n 0), 183, 0, 0, 0), (183, (.iconst 4), 184, 0, 0, 4), (184, (.newarray .int), 186, 20, 0, 0), (186, (.putfield 64), 189, 8, 29, 2), (189, (.aload_n 0), 190, 0, 0, 0),
  (190, (.bipush 48), 192, 0, 0, 48), (192, (.newarray .int), 194, 20, 0, 0), (194, .dup, 195, 0, 0, 0), (195, (.iconst 0), 196, 0, 0, 0), (196, (.iconst (-1)), 197, 0, 0, -1), (197, .iastore, 198, 0, 0, 0),
  (198, .dup, 199, 0, 0, 0), (199, (.iconst 1), 200, 0, 0, 1), (200, (.iconst (-1)), 201, 0, 0, -1), (201, .iastore, 202, 0, 0, 0), (202, .dup, 203, 0, 0, 0), (203, (.iconst 2), 204, 0, 0, 2),
  (204, (.iconst (-1)), 205, 0, 0, -1), (205, .iastore, 206, 0, 0, 0), (206, .dup, 207, 0, 0, 0), (207, (.iconst 3), 208, 0, 0, 3), (208, (.iconst (-1)), 209, 0, 0, -1), (209, .iastore, 210, 0, 0, 0),
  (210, .dup, 211, 0, 0, 0), (211, (.iconst 4), 212, 0, 0, 4), (212, (.iconst (-1)), 213, 0, 0, -1), (213, .iastore, 214, 0, 0, 0), (214, .dup, 215, 0, 0, 0), (215, (.iconst 5), 216, 0, 0, 5),
  (216, (.iconst (-1)), 217, 0, 0, -1), (217, .iastore, 218, 0, 0, 0), (218, .dup, 219, 0, 0, 0), (219, (.bipush 6), 221, 0, 0, 6), (221, (.iconst (-1)), 222, 0, 0, -1), (222, .iastore, 223, 0, 0, 0),
  (223, .dup, 224, 0, 0, 0), (224, (.bipush 7), 226, 0, 0, 7), (226, (.iconst (-1)), 227, 0, 0, -1), (227, .iastore, 228, 0, 0, 0), (228, .dup, 229, 0, 0, 0), (229, (.bipush 8), 231, 0, 0, 8),
  (231, (.iconst (-1)), 232, 0, 0, -1), (232, .iastore, 233, 0, 0, 0), (233, .dup, 234, 0, 0, 0), (234, (.bipush 9), 236, 0, 0, 9), (236, (.iconst (-1)), 237, 0, 0, -1), (237, .iastore, 238, 0, 0, 0),
  (238, .dup, 239, 0, 0, 0), (239, (.bipush 10), 241, 0, 0, 10), (241, (.iconst (-1)), 242, 0, 0, -1), (242, .iastore, 243, 0, 0, 0), (243, .dup, 244, 0, 0, 0), (244, (.bipush 11), 246, 0, 0, 11),
  (246, (.iconst (-1)), 247, 0, 0, -1), (247, .iastore, 248, 0, 0, 0), (248, .dup, 249, 0, 0, 0), (249, (.bipush 12), 251, 0, 0, 12), (251, (.iconst (-1)), 252, 0, 0, -1), (252, .iastore, 253, 0, 0, 0),
  (253, .dup, 254, 0, 0, 0), (254, (.bipush 13), 256, 0, 0, 13), (256, (.iconst (-1)), 257, 0, 0, -1), (257, .iastore, 258, 0, 0, 0), (258, .dup, 259, 0, 0, 0), (259, (.bipush 14), 261, 0, 0, 14),
  (261, (.iconst (-1)), 262, 0, 0, -1), (262, .iastore, 263, 0, 0, 0), (263, .dup, 264, 0, 0, 0), (264, (.bipush 15), 266, 0, 0, 15), (266, (.iconst (-1)), 267, 0, 0, -1), (267, .iastore, 268, 0, 0, 0),
  (268, .dup, 269, 0, 0, 0), (269, (.bipush 16), 271, 0, 0, 16), (271, (.iconst (-1)), 272, 0, 0, -1), (272, .iastore, 273, 0, 0, 0), (273, .dup, 274, 0, 0, 0), (274, (.bipush 17), 276, 0, 0, 17),
  (276, (.iconst (-1)), 277, 0, 0, -1), (277, .iastore, 278, 0, 0, 0), (278, .dup, 279, 0, 0, 0), (279, (.bipush 18), 281, 0, 0, 18), (281, (.iconst (-1)), 282, 0, 0, -1), (282, .iastore, 283, 0, 0, 0),
  (283, .dup, 284, 0, 0, 0), (284, (.bipush 19), 286, 0, 0, 19), (286, (.iconst (-1)), 287, 0, 0, -1), (287, .iastore, 288, 0, 0, 0), (288, .dup, 289, 0, 0, 0), (289, (.bipush 20), 291, 0, 0, 20),
  (291, (.iconst (-1)), 292, 0, 0, -1), (292, .iastore, 293, 0, 0, 0), (293, .dup, 294, 0, 0, 0), (294, (.bipush 21), 296, 0, 0, 21), (296, (.iconst (-1)), 297, 0, 0, -1), (297, .iastore, 298, 0, 0, 0),
  (298, .dup, 299, 0, 0, 0), (299, (.bipush 22), 301, 0, 0, 22), (301, (.iconst (-1)), 302, 0, 0, -1), (302, .iastore, 303, 0, 0, 0), (303, .dup, 304, 0, 0, 0), (304, (.bipush 23), 306, 0, 0, 23),
  (306, (.iconst (-1)), 307, 0, 0, -1), (307, .iastore, 308, 0, 0, 0), (308, .dup, 309, 0, 0, 0), (309, (.bipush 24), 311, 0, 0, 24), (311, (.iconst (-1)), 312, 0, 0, -1), (312, .iastore, 313, 0, 0, 0),
  (313, .dup, 314, 0, 0, 0), (314, (.bipush 25), 316, 0, 0, 25), (316, (.iconst (-1)), 317, 0, 0, -1), (317, .iastore, 318, 0, 0, 0), (318, .dup, 319, 0, 0, 0), (319, (.bipush 26), 321, 0, 0, 26),
  (321, (.iconst (-1)), 322, 0, 0, -1), (322, .iastore, 323, 0, 0, 0), (323, .dup, 324, 0, 0, 0), (324, (.bipush 27), 326, 0, 0, 27), (326, (.iconst (-1)), 327, 0, 0, -1), (327, .iastore, 328, 0, 0, 0),
  (328, .dup, 329, 0, 0, 0), (329, (.bipush 28), 331, 0, 0, 28), (331, (.iconst (-1)), 332, 0, 0, -1), (332, .iastore, 333, 0, 0, 0), (333, .dup, 334, 0, 0, 0), (334, (.bipush 29), 336, 0, 0, 29),
  (336, (.iconst (-1)), 337, 0, 0, -1), (337, .iastore, 338, 0, 0, 0), (338, .dup, 339, 0, 0, 0), (339, (.bipush 30), 341, 0, 0, 30), (341, (.iconst (-1)), 342, 0, 0, -1), (342, .iastore, 343, 0, 0, 0),
  (343, .dup, 344, 0, 0, 0), (344, (.bipush 31), 346, 0, 0, 31), (346, (.iconst (-1)), 347, 0, 0, -1), (347, .iastore, 348, 0, 0, 0), (348, .dup, 349, 0, 0, 0), (349, (.bipush 32), 351, 0, 0, 32),
  (351, (.iconst (-1)), 352, 0, 0, -1), (352, .iastore, 353, 0, 0, 0), (353, .dup, 354, 0, 0, 0), (354, (.bipush 33), 356, 0, 0, 33), (356, (.iconst (-1)), 357, 0, 0, -1), (357, .iastore, 358, 0, 0, 0),
  (358, .dup, 359, 0, 0, 0), (359, (.bipush 34), 361, 0, 0, 34), (361, (.iconst (-1)), 362, 0, 0, -1), (362, .iastore, 363, 0, 0, 0), (363, .dup, 364, 0, 0, 0), (364, (.bipush 35), 366, 0, 0, 35),
  (366, (.iconst (-1)), 367, 0, 0, -1), (367, .iastore, 368, 0, 0, 0), (368, .dup, 369, 0, 0, 0), (369, (.bipush 36), 371, 0, 0, 36), (371, (.iconst (-1)), 372, 0, 0, -1), (372, .iastore, 373, 0, 0, 0),
  (373, .dup, 374, 0, 0, 0), (374, (.bipush 37), 376, 0, 0, 37), (376, (.iconst (-1)), 377, 0, 0, -1), (377, .iastore, 378, 0, 0, 0), (378, .dup, 379, 0, 0, 0), (379, (.bipush 38), 381, 0, 0, 38),
  (381, (.iconst (-1)), 382, 0, 0, -1), (382, .iastore, 383, 0, 0, 0), (383, .dup, 384, 0, 0, 0), (384, (.bipush 39), 386, 0, 0, 39), (386, (.iconst (-1)), 387, 0, 0, -1), (387, .iastore, 388, 0, 0, 0),
  (388, .dup, 389, 0, 0, 0), (389, (.bipush 40), 391, 0, 0, 40), (391, (.iconst (-1)), 392, 0, 0, -1), (392, .iastore, 393, 0, 0, 0), (393, .dup, 394, 0, 0, 0), (394, (.bipush 41), 396, 0, 0, 41),
  (396, (.iconst (-1)), 397, 0, 0, -1), (397, .iastore, 398, 0, 0, 0), (398, .dup, 399, 0, 0, 0), (399, (.bipush 42), 401, 0, 0, 42), (401, (.iconst (-1)), 402, 0, 0, -1), (402, .iastore, 403, 0, 0, 0),
  (403, .dup, 404, 0, 0, 0), (404, (.bipush 43), 406, 0, 0, 43), (406, (.iconst (-1)), 407, 0, 0, -1), (407, .iastore, 408, 0, 0, 0), (408, .dup, 409, 0, 0, 0), (409, (.bipush 44), 411, 0, 0, 44),
  (411, (.iconst (-1)), 412, 0, 0, -1), (412, .iastore, 413, 0, 0, 0), (413, .dup, 414, 0, 0, 0), (414, (.bipush 45), 416, 0, 0, 45), (416, (.iconst (-1)), 417, 0, 0, -1), (417, .iastore, 418, 0, 0, 0),
  (418, .dup, 419, 0, 0, 0), (419, (.bipush 46), 421, 0, 0, 46), (421, (.iconst (-1)), 422, 0, 0, -1), (422, .iastore, 423, 0, 0, 0), (423, .dup, 424, 0, 0, 0), (424, (.bipush 47), 426, 0, 0, 47),
  (426, (.iconst (-1)), 427, 0, 0, -1), (427, .iastore, 428, 0, 0, 0), (428, (.putfield 67), 431, 8, 30, 2), (431, (.aload_n 0), 432, 0, 0, 0), (432, (.iconst 3), 433, 0, 0, 3), (433, (.newarray .int), 435, 20, 0, 0),
  (435, .dup, 436, 0, 0, 0), (436, (.iconst 0), 437, 0, 0, 0), (437, (.iconst (-1)), 438, 0, 0, -1), (438, .iastore, 439, 0, 0, 0), (439, .dup, 440, 0, 0, 0), (440, (.iconst 1), 441, 0, 0, 1),
  (441, (.iconst (-1)), 442, 0, 0, -1), (442, .iastore, 443, 0, 0, 0), (443, .dup, 444, 0, 0, 0), (444, (.iconst 2), 445, 0, 0, 2), (445, (.iconst (-1)), 446, 0, 0, -1), (446, .iastore, 447, 0, 0, 0),
  (447, (.putfield 70), 450, 8, 31, 2), (450, (.aload_n 0), 451, 0, 0, 0), (451, (.bipush 120), 453, 0, 0, 120), (453, (.newarray .long), 455, 21, 0, 0), (455, (.putfield 73), 458, 8, 32, 2), (458, .return_, 459, 0, 0, 0)]
set_option maxRecDepth 100000 in
/-- M.wheel(IIII)I -/
noncomputable def ew_cd_149 : List ew_Ent := [(0, (.iload_n 1), 1, 0, 0, 0), (1, .i2l, 2, 0, 0, 0), (2, (.lconst 0), 3, 1, 0, 0), (3, (.ldc2_w 96), 6, 1, 0, 4), (6, (.invokestatic 80), 9, 150, 3, 0), (9, (.ifCond .eq 13), 12, 22, 0, 0),
  (12, (.iload_n 2), 13, 0, 0, 0), (13, (.iload_n 3), 14, 0, 0, 0), (14, (.iload 4), 16, 0, 0, 0), (16, (.invokestatic 98), 19, 151, 3, 0), (19, (.ifCond .ne 6), 22, 25, 0, 0), (22, (.bipush (-2)), 24, 0, 0, -2),
  (24, .ireturn, 25, 0, 0, 0), (25, (.aload_n 0), 26, 0, 0, 0), (26, (.getfield 77), 29, 8, 5, 0), (29, (.bipush 6), 31, 0, 0, 6), (31, (.if_icmp .ne 6), 34, 37, 0, 0), (34, (.bipush (-4)), 36, 0, 0, -4),
  (36, .ireturn, 37, 0, 0, 0), (37, (.aload_n 0), 38, 0, 0, 0), (38, (.iload_n 1), 39, 0, 0, 0), (39, (.iload_n 2), 40, 0, 0, 0), (40, (.iload_n 3), 41, 0, 0, 0), (41, (.iload 4), 43, 0, 0, 0),
  (43, (.iload_n 1), 44, 0, 0, 0), (44, (.iload 4), 46, 0, 0, 0), (46, (.aload_n 0), 47, 0, 0, 0), (47, (.getfield 77), 50, 8, 5, 0), (50, (.ifCond .ne 7), 53, 57, 0, 0), (53, (.iconst 1), 54, 0, 0, 1),
  (54, (.goto 4), 57, 58, 0, 0), (57, (.iconst 0), 58, 0, 0, 0), (58, (.invokestatic 102), 61, 152, 3, 0), (61, (.invokevirtual 106), 64, 153, 6, 1), (64, (.aload_n 0), 65, 0, 0, 0), (65, (.getfield 77), 68, 8, 5, 0),
  (68, (.iconst 1), 69, 0, 0, 1), (69, .isub, 70, 0, 0, 0), (70, .ireturn, 71, 0, 0, 0)]
set_option maxRecDepth 100000 in
/-- M.in(JJJ)Z -/
noncomputable def ew_cd_150 : List ew_Ent := [(0, (.lload_n 0), 1, 0, 0, 0), (1, (.lload_n 2), 2, 0, 0, 0), (2, .lcmp, 3, 0, 0, 0), (3, (.ifCond .lt 14), 6, 17, 0, 0), (6, (.lload_n 0), 7, 0, 0, 0), (7, (.lload 4), 9, 0, 0, 0),
  (9, .lcmp, 10, 0, 0, 0), (10, (.ifCond .gt 7), 13, 17, 0, 0), (13, (.iconst 1), 14, 0, 0, 1), (14, (.goto 4), 17, 18, 0, 0), (17, (.iconst 0), 18, 0, 0, 0), (18, .ireturn, 19, 0, 1, 0)]
set_option maxRecDepth 100000 in
/-- M.areBounds(III)Z -/
noncomputable def ew_cd_151 : List ew_Ent := [(0, (.iload_n 0), 1, 0, 0, 0), (1, .i2l, 2, 0, 0, 0), (2, (.ldc2_w 88), 5, 1, 0, 2), (5, (.ldc2_w 86), 8, 1, 0, 100000), (8, (.invokestatic 80), 11, 150, 3, 0), (11, (.ifCond .eq 32), 14, 43, 0, 0),
  (14, (.iload_n 1), 15, 0, 0, 0), (15, .i2l, 16, 0, 0, 0), (16, (.lconst 0), 17, 1, 0, 0), (17, (.ldc2_w 90), 20, 1, 0, 99999), (20, (.invokestatic 80), 23, 150, 3, 0), (23, (.ifCond .eq 20), 26, 43, 0, 0),
  (26, (.iload_n 2), 27, 0, 0, 0), (27, .i2l, 28, 0, 0, 0), (28, (.lconst 0), 29, 1, 0, 0), (29, (.iload_n 0), 30, 0, 0, 0), (30, (.iconst 1), 31, 0, 0, 1), (31, .isub, 32, 0, 0, 0),
  (32, .i2l, 33, 0, 0, 0), (33, (.invokestatic 80), 36, 150, 3, 0), (36, (.ifCond .eq 7), 39, 43, 0, 0), (39, (.iconst 1), 40, 0, 0, 1), (40, (.goto 4), 43, 44, 0, 0), (43, (.iconst 0), 44, 0, 0, 0),
  (44, .ireturn, 45, 0, 1, 0)]
set_option maxRecDepth 100000 in
/-- M.madeOf(IIZ)I -/
noncomputable def ew_cd_152 : List ew_Ent := [(0, (.iload_n 1), 1, 0, 0, 0), (1, (.ifCond .ne 8), 4, 9, 0, 0), (4, (.bipush 12), 6, 0, 0, 12), (6, (.goto 4), 9, 10, 0, 0), (9, (.iconst 1), 10, 0, 0, 1), (10, (.istore_n 3), 11, 0, 0, 0),
  (11, (.iload_n 0), 12, 0, 0, 0), (12, (.iconst 1), 13, 0, 0, 1), (13, (.if_icmp .eq 8), 16, 21, 0, 0), (16, (.iload_n 0), 17, 0, 0, 0), (17, (.iconst 3), 18, 0, 0, 3), (18, (.if_icmp .ne 10), 21, 28, 0, 0),
  (21, (.bipush 10), 23, 0, 0, 10), (23, (.iload_n 3), 24, 0, 0, 0), (24, .imul, 25, 0, 0, 0), (25, (.iconst 3), 26, 0, 0, 3), (26, .iadd, 27, 0, 0, 0), (27, (.istore_n 3), 28, 0, 0, 0),
  (28, (.iload_n 0), 29, 0, 0, 0), (29, (.iconst 2), 30, 0, 0, 2), (30, (.if_icmp .eq 8), 33, 38, 0, 0), (33, (.iload_n 0), 34, 0, 0, 0), (34, (.iconst 4), 35, 0, 0, 4), (35, (.if_icmp .ne 10), 38, 45, 0, 0),
  (38, (.bipush 10), 40, 0, 0, 10), (40, (.iload_n 3), 41, 0, 0, 0), (41, .imul, 42, 0, 0, 0), (42, (.iconst 4), 43, 0, 0, 4), (43, .iadd, 44, 0, 0, 0), (44, (.istore_n 3), 45, 0, 0, 0),
  (45, (.iload_n 0), 46, 0, 0, 0), (46, (.iconst 3), 47, 0, 0, 3), (47, (.if_icmp .ne 10), 50, 57, 0, 0), (50, (.bipush 10), 52, 0, 0, 10), (52, (.iload_n 3), 53, 0, 0, 0), (53, .imul, 54, 0, 0, 0),
  (54, (.iconst 5), 55, 0, 0, 5), (55, .iadd, 56, 0, 0, 0), (56, (.istore_n 3), 57, 0, 0, 0), (57, (.iload_n 0), 58, 0, 0, 0), (58, (.iconst 4), 59, 0, 0, 4), (59, (.if_icmp .ne 11), 62, 70, 0, 0),
  (62, (.bipush 10), 64, 0, 0, 10), (64, (.iload_n 3), 65, 0, 0, 0), (65, .imul, 66, 0, 0, 0), (66, (.bipush 6), 68, 0, 0, 6), (68, .iadd, 69, 0, 0, 0), (69, (.istore_n 3), 70, 0, 0, 0),
  (70, (.iload_n 0), 71, 0, 0, 0), (71, (.iconst 4), 72, 0, 0, 4), (72, (.if_icmp .ne 17), 75, 89, 0, 0), (75, (.iload_n 2), 76, 0, 0, 0), (76, (.ifCond .eq 13), 79, 89, 0, 0), (79, (.bipush 10), 81, 0, 0, 10),
  (81, (.iload_n 3), 82, 0, 0, 0), (82, .imul, 83, 0, 0, 0), (83, (.bipush 7), 85, 0, 0, 7), (85, .iadd, 86, 0, 0, 0), (86, (.goto 4), 89, 90, 0, 0), (89, (.iload_n 3), 90, 0, 0, 0),
  (90, .ireturn, 91, 0, 0, 0)]
set_option maxRecDepth 100000 in
/-- M.comes(IIIII)V -/
noncomputable def ew_cd_153 : List ew_Ent := [(0, (.aload_n 0), 1, 0, 0, 0), (1, (.invokevirtual 92), 4, 154, 1, 1), (4, (.istore 6), 6, 0, 0, 0), (6, (.aload_n 0), 7, 0, 0, 0), (7, (.getfield 9), 10, 8, 0, 2), (10, (.iload 6), 12, 0, 0, 0),
  (12, (.iload_n 1), 13, 0, 0, 0), (13, .iastore, 14, 0, 0, 0), (14, (.aload_n 0), 15, 0, 0, 0), (15, (.getfield 15), 18, 8, 1, 2), (18, (.iload 6), 20, 0, 0, 0), (20, (.iload_n 2), 21, 0, 0, 0),
  (21, .iastore, 22, 0, 0, 0), (22, (.aload_n 0), 23, 0, 0, 0), (23, (.getfield 18), 26, 8, 2, 2), (26, (.iload 6), 28, 0, 0, 0), (28, (.iload_n 3), 29, 0, 0, 0), (29, .iastore, 30, 0, 0, 0),
  (30, (.aload_n 0), 31, 0, 0, 0), (31, (.getfield 21), 34, 8, 3, 2), (34, (.iload 6), 36, 0, 0, 0), (36, (.iload 4), 38, 0, 0, 0), (38, .iastore, 39, 0, 0, 0), (39, (.aload_n 0), 40, 0, 0, 0),
  (40, (.getfield 24), 43, 8, 4, 2), (43, (.iload 6), 45, 0, 0, 0), (45, (.iload 5), 47, 0, 0, 0), (47, .iastore, 48, 0, 0, 0), (48, (.aload_n 0), 49, 0, 0, 0), (49, (.getfield 27), 52, 8, 6, 2),
  (52, (.aload_n 0), 53, 0, 0, 0), (53, (.getfield 77), 56, 8, 5, 0), (56, (.iload 6), 58, 0, 0, 0), (58, .iastore, 59, 0, 0, 0), (59, (.aload_n 0), 60, 0, 0, 0), (60, .dup, 61, 0, 0, 0),
  (61, (.getfield 77), 64, 8, 5, 0), (64, (.iconst 1), 65, 0, 0, 1), (65, .iadd, 66, 0, 0, 0), (66, (.putfield 77), 69, 8, 5, 0), (69, .return_, 70, 0, 0, 0)]
set_option maxRecDepth 100000 in
/-- M.free()I -/
noncomputable def ew_cd_154 : List ew_Ent := [(0, (.iconst 0), 1, 0, 0, 0), (1, (.istore_n 1), 2, 0, 0, 0), (2, (.iload_n 1), 3, 0, 0, 0), (3, (.bipush 64), 5, 0, 0, 64), (5, (.if_icmp .ge 87), 8, 92, 0, 0), (8, (.iconst 1), 9, 0, 0, 1),
  (9, (.istore_n 2), 10, 0, 0, 0), (10, (.iconst 0), 11, 0, 0, 0), (11, (.istore_n 3), 12, 0, 0, 0), (12, (.iload_n 3), 13, 0, 0, 0), (13, (.aload_n 0), 14, 0, 0, 0), (14, (.getfield 77), 17, 8, 5, 0),
  (17, (.if_icmp .ge 29), 20, 46, 0, 0), (20, (.iload_n 2), 21, 0, 0, 0), (21, (.ifCond .eq 17), 24, 38, 0, 0), (24, (.aload_n 0), 25, 0, 0, 0), (25, (.getfield 27), 28, 8, 6, 2), (28, (.iload_n 3), 29, 0, 0, 0),
  (29, .iaload, 30, 0, 0, 0), (30, (.iload_n 1), 31, 0, 0, 0), (31, (.if_icmp .eq 7), 34, 38, 0, 0), (34, (.iconst 1), 35, 0, 0, 1), (35, (.goto 4), 38, 39, 0, 0), (38, (.iconst 0), 39, 0, 0, 0),
  (39, (.istore_n 2), 40, 0, 0, 0), (40, (.iinc 3 1), 43, 0, 0, 0), (43, (.goto (-31)), 46, 12, 0, 0), (46, (.iconst 0), 47, 0, 0, 0), (47, (.istore_n 3), 48, 0, 0, 0), (48, (.iload_n 3), 49, 0, 0, 0),
  (49, (.bipush 48), 51, 0, 0, 48), (51, (.if_icmp .ge 29), 54, 80, 0, 0), (54, (.iload_n 2), 55, 0, 0, 0), (55, (.ifCond .eq 17), 58, 72, 0, 0), (58, (.aload_n 0), 59, 0, 0, 0), (59, (.getfield 67), 62, 8, 30, 2),
  (62, (.iload_n 3), 63, 0, 0, 0), (63, .iaload, 64, 0, 0, 0), (64, (.iload_n 1), 65, 0, 0, 0), (65, (.if_icmp .eq 7), 68, 72, 0, 0), (68, (.iconst 1), 69, 0, 0, 1), (69, (.goto 4), 72, 73, 0, 0),
  (72, (.iconst 0), 73, 0, 0, 0), (73, (.istore_n 2), 74, 0, 0, 0), (74, (.iinc 3 1), 77, 0, 0, 0), (77, (.goto (-29)), 80, 48, 0, 0), (80, (.iload_n 2), 81, 0, 0, 0), (81, (.ifCond .eq 5), 84, 86, 0, 0),
  (84, (.iload_n 1), 85, 0, 0, 0), (85, .ireturn, 86, 0, 0, 0), (86, (.iinc 1 1), 89, 0, 0, 0), (89, (.goto (-87)), 92, 2, 0, 0), (92, (.iconst (-1)), 93, 0, 0, -1), (93, .ireturn, 94, 0, 0, 0)]
set_option maxRecDepth 100000 in
/-- M.of(II)I -/
noncomputable def ew_cd_155 : List ew_Ent := [(0, (.aload_n 0), 1, 0, 0, 0), (1, (.iload_n 1), 2, 0, 0, 0), (2, (.invokevirtual 110), 5, 156, 2, 1), (5, (.ifCond .ne 5), 8, 10, 0, 0), (8, (.iconst (-1)), 9, 0, 0, -1), (9, .ireturn, 10, 0, 0, 0),
  (10, (.aload_n 0), 11, 0, 0, 0), (11, (.getfield 27), 14, 8, 6, 2), (14, (.iload_n 1), 15, 0, 0, 0), (15, .iaload, 16, 0, 0, 0), (16, (.istore_n 3), 17, 0, 0, 0), (17, (.iload_n 2), 18, 0, 0, 0),
  (18, (.tableswitch 69 0 4 #[34, 41, 48, 55, 62]), 52, 87, 0, 0), (52, (.aload_n 0), 53, 0, 0, 0), (53, (.getfield 9), 56, 8, 0, 2), (56, (.iload_n 3), 57, 0, 0, 0), (57, .iaload, 58, 0, 0, 0), (58, .ireturn, 59, 0, 0, 0),
  (59, (.aload_n 0), 60, 0, 0, 0), (60, (.getfield 15), 63, 8, 1, 2), (63, (.iload_n 3), 64, 0, 0, 0), (64, .iaload, 65, 0, 0, 0), (65, .ireturn, 66, 0, 0, 0), (66, (.aload_n 0), 67, 0, 0, 0),
  (67, (.getfield 18), 70, 8, 2, 2), (70, (.iload_n 3), 71, 0, 0, 0), (71, .iaload, 72, 0, 0, 0), (72, .ireturn, 73, 0, 0, 0), (73, (.aload_n 0), 74, 0, 0, 0), (74, (.getfield 21), 77, 8, 3, 2),
  (77, (.iload_n 3), 78, 0, 0, 0), (78, .iaload, 79, 0, 0, 0), (79, .ireturn, 80, 0, 0, 0), (80, (.aload_n 0), 81, 0, 0, 0), (81, (.getfield 24), 84, 8, 4, 2), (84, (.iload_n 3), 85, 0, 0, 0),
  (85, .iaload, 86, 0, 0, 0), (86, .ireturn, 87, 0, 0, 0), (87, (.iconst (-1)), 88, 0, 0, -1), (88, .ireturn, 89, 0, 0, 0)]
set_option maxRecDepth 100000 in
/-- M.isWheel(I)Z -/
noncomputable def ew_cd_156 : List ew_Ent := [(0, (.iload_n 1), 1, 0, 0, 0), (1, .i2l, 2, 0, 0, 0), (2, (.lconst 0), 3, 1, 0, 0), (3, (.aload_n 0), 4, 0, 0, 0), (4, (.getfield 77), 7, 8, 5, 0), (7, (.iconst 1), 8, 0, 0, 1),
  (8, .isub, 9, 0, 0, 0), (9, .i2l, 10, 0, 0, 0), (10, (.invokestatic 80), 13, 150, 3, 0), (13, .ireturn, 14, 0, 1, 0)]
set_option maxRecDepth 100000 in
/-- M.turn(III)I -/
noncomputable def ew_cd_157 : List ew_Ent := [(0, (.aload_n 0), 1, 0, 0, 0), (1, (.iload_n 1), 2, 0, 0, 0), (2, (.invokevirtual 110), 5, 156, 2, 1), (5, (.ifCond .ne 5), 8, 10, 0, 0), (8, (.iconst (-1)), 9, 0, 0, -1), (9, .ireturn, 10, 0, 0, 0),
  (10, (.aload_n 0), 11, 0, 0, 0), (11, (.getfield 15), 14, 8, 1, 2), (14, (.aload_n 0), 15, 0, 0, 0), (15, (.getfield 27), 18, 8, 6, 2), (18, (.iload_n 1), 19, 0, 0, 0), (19, .iaload, 20, 0, 0, 0),
  (20, .iaload, 21, 0, 0, 0), (21, (.iload_n 2), 22, 0, 0, 0), (22, (.iload_n 3), 23, 0, 0, 0), (23, (.invokestatic 98), 26, 151, 3, 0), (26, (.ifCond .ne 6), 29, 32, 0, 0), (29, (.bipush (-2)), 31, 0, 0, -2),
  (31, .ireturn, 32, 0, 0, 0), (32, (.aload_n 0), 33, 0, 0, 0), (33, (.iload_n 1), 34, 0, 0, 0), (34, (.iconst 0), 35, 0, 0, 0), (35, (.invokevirtual 126), 38, 158, 3, 1), (38, (.istore 4), 40, 0, 0, 0),
  (40, (.aload_n 0), 41, 0, 0, 0), (41, (.getfield 18), 44, 8, 2, 2), (44, (.aload_n 0), 45, 0, 0, 0), (45, (.getfield 27), 48, 8, 6, 2), (48, (.iload_n 1), 49, 0, 0, 0), (49, .iaload, 50, 0, 0, 0),
  (50, (.iload_n 2), 51, 0, 0, 0), (51, .iastore, 52, 0, 0, 0), (52, (.aload_n 0), 53, 0, 0, 0), (53, (.getfield 21), 56, 8, 3, 2), (56, (.aload_n 0), 57, 0, 0, 0), (57, (.getfield 27), 60, 8, 6, 2),
  (60, (.iload_n 1), 61, 0, 0, 0), (61, .iaload, 62, 0, 0, 0), (62, (.iload_n 3), 63, 0, 0, 0), (63, .iastore, 64, 0, 0, 0), (64, (.iload 4), 66, 0, 0, 0), (66, .ireturn, 67, 0, 0, 0)]
set_option maxRecDepth 100000 in
/-- M.place(II)I -/
noncomputable def ew_cd_158 : List ew_Ent := [(0, (.aload_n 0), 1, 0, 0, 0), (1, (.iload_n 1), 2, 0, 0, 0), (2, (.iload_n 2), 3, 0, 0, 0), (3, (.invokevirtual 122), 6, 159, 3, 1), (6, (.lstore_n 3), 7, 0, 0, 0), (7, (.lload_n 3), 8, 0, 0, 0),
  (8, (.lload_n 3), 9, 0, 0, 0), (9, (.aload_n 0), 10, 0, 0, 0), (10, (.getfield 15), 13, 8, 1, 2), (13, (.aload_n 0), 14, 0, 0, 0), (14, (.getfield 27), 17, 8, 6, 2), (17, (.iload_n 1), 18, 0, 0, 0),
  (18, .iaload, 19, 0, 0, 0), (19, .iaload, 20, 0, 0, 0), (20, .i2l, 21, 0, 0, 0), (21, (.invokestatic 114), 24, 161, 2, 0), (24, (.aload_n 0), 25, 0, 0, 0), (25, (.getfield 15), 28, 8, 1, 2),
  (28, (.aload_n 0), 29, 0, 0, 0), (29, (.getfield 27), 32, 8, 6, 2), (32, (.iload_n 1), 33, 0, 0, 0), (33, .iaload, 34, 0, 0, 0), (34, .iaload, 35, 0, 0, 0), (35, .i2l, 36, 0, 0, 0),
  (36, .lmul, 37, 0, 0, 0), (37, .lsub, 38, 0, 0, 0), (38, .l2i, 39, 0, 0, 0), (39, .ireturn, 40, 0, 0, 0)]
set_option maxRecDepth 100000 in
/-- M.way(II)J -/
noncomputable def ew_cd_159 : List ew_Ent := [(0, (.iload_n 1), 1, 0, 0, 0), (1, (.istore_n 3), 2, 0, 0, 0), (2, (.iload_n 3), 3, 0, 0, 0), (3, (.ifCond .le 24), 6, 27, 0, 0), (6, (.aload_n 0), 7, 0, 0, 0), (7, (.getfield 9), 10, 8, 0, 2),
  (10, (.aload_n 0), 11, 0, 0, 0), (11, (.getfield 27), 14, 8, 6, 2), (14, (.iload_n 3), 15, 0, 0, 0), (15, .iaload, 16, 0, 0, 0), (16, .iaload, 17, 0, 0, 0), (17, (.iconst 4), 18, 0, 0, 4),
  (18, (.if_icmp .ne 9), 21, 27, 0, 0), (21, (.iinc 3 (-1)), 24, 0, 0, 0), (24, (.goto (-22)), 27, 2, 0, 0), (27, (.aload_n 0), 28, 0, 0, 0), (28, (.aload_n 0), 29, 0, 0, 0), (29, (.getfield 27), 32, 8, 6, 2),
  (32, (.iload_n 3), 33, 0, 0, 0), (33, .iaload, 34, 0, 0, 0), (34, (.iload_n 2), 35, 0, 0, 0), (35, .i2l, 36, 0, 0, 0), (36, (.invokevirtual 118), 39, 160, 3, 1), (39, (.lstore 4), 41, 0, 0, 0),
  (41, (.iload_n 3), 42, 0, 0, 0), (42, (.iconst 1), 43, 0, 0, 1), (43, .iadd, 44, 0, 0, 0), (44, (.istore 6), 46, 0, 0, 0), (46, (.iload 6), 48, 0, 0, 0), (48, (.iload_n 1), 49, 0, 0, 0),
  (49, (.if_icmp .gt 76), 52, 125, 0, 0), (52, (.lload 4), 54, 0, 0, 0), (54, (.aload_n 0), 55, 0, 0, 0), (55, (.getfield 15), 58, 8, 1, 2), (58, (.aload_n 0), 59, 0, 0, 0), (59, (.getfield 27), 62, 8, 6, 2),
  (62, (.iload 6), 64, 0, 0, 0), (64, (.iconst 1), 65, 0, 0, 1), (65, .isub, 66, 0, 0, 0), (66, .iaload, 67, 0, 0, 0), (67, .iaload, 68, 0, 0, 0), (68, .i2l, 69, 0, 0, 0),
  (69, (.invokestatic 114), 72, 161, 2, 0), (72, (.lstore 7), 74, 0, 0, 0), (74, (.aload_n 0), 75, 0, 0, 0), (75, (.getfield 21), 78, 8, 3, 2), (78, (.aload_n 0), 79, 0, 0, 0), (79, (.getfield 27), 82, 8, 6, 2),
  (82, (.iload 6), 84, 0, 0, 0), (84, .iaload, 85, 0, 0, 0), (85, .iaload, 86, 0, 0, 0), (86, .i2l, 87, 0, 0, 0), (87, (.aload_n 0), 88, 0, 0, 0), (88, (.getfield 18), 91, 8, 2, 2),
  (91, (.aload_n 0), 92, 0, 0, 0), (92, (.getfield 27), 95, 8, 6, 2), (95, (.iload 6), 97, 0, 0, 0), (97, .iaload, 98, 0, 0, 0), (98, .iaload, 99, 0, 0, 0), (99, .i2l, 100, 0, 0, 0),
  (100, (.lload 7), 102, 0, 0, 0), (102, (.lload 7), 104, 0, 0, 0), (104, (.ldc2_w 86), 107, 1, 0, 100000), (107, (.invokestatic 114), 110, 161, 2, 0), (110, (.ldc2_w 86), 113, 1, 0, 100000), (113, .lmul, 114, 0, 0, 0),
  (114, .lsub, 115, 0, 0, 0), (115, .lmul, 116, 0, 0, 0), (116, .ladd, 117, 0, 0, 0), (117, (.lstore 4), 119, 0, 0, 0), (119, (.iinc 6 1), 122, 0, 0, 0), (122, (.goto (-76)), 125, 46, 0, 0),
  (125, (.lload 4), 127, 0, 0, 0), (127, .lreturn, 128, 0, 0, 0)]
set_option maxRecDepth 100000 in
/-- M.plainWay(IJ)J -/
noncomputable def ew_cd_160 : List ew_Ent := [(0, (.aload_n 0), 1, 0, 0, 0), (1, (.getfield 9), 4, 8, 0, 2), (4, (.iload_n 1), 5, 0, 0, 0), (5, .iaload, 6, 0, 0, 0), (6, (.tableswitch 90 1 3 #[26, 44, 68]), 32, 96, 0, 0), (32, (.aload_n 0), 33, 0, 0, 0),
  (33, (.getfield 21), 36, 8, 3, 2), (36, (.iload_n 1), 37, 0, 0, 0), (37, .iaload, 38, 0, 0, 0), (38, .i2l, 39, 0, 0, 0), (39, (.aload_n 0), 40, 0, 0, 0), (40, (.getfield 18), 43, 8, 2, 2),
  (43, (.iload_n 1), 44, 0, 0, 0), (44, .iaload, 45, 0, 0, 0), (45, .i2l, 46, 0, 0, 0), (46, (.lload_n 2), 47, 0, 0, 0), (47, .lmul, 48, 0, 0, 0), (48, .lsub, 49, 0, 0, 0),
  (49, .lreturn, 50, 0, 0, 0), (50, (.aload_n 0), 51, 0, 0, 0), (51, (.getfield 21), 54, 8, 3, 2), (54, (.iload_n 1), 55, 0, 0, 0), (55, .iaload, 56, 0, 0, 0), (56, .i2l, 57, 0, 0, 0),
  (57, (.aload_n 0), 58, 0, 0, 0), (58, (.getfield 18), 61, 8, 2, 2), (61, (.iload_n 1), 62, 0, 0, 0), (62, .iaload, 63, 0, 0, 0), (63, .i2l, 64, 0, 0, 0), (64, (.lload_n 2), 65, 0, 0, 0),
  (65, (.ldc2_w 88), 68, 1, 0, 2), (68, (.invokestatic 114), 71, 161, 2, 0), (71, .lmul, 72, 0, 0, 0), (72, .ladd, 73, 0, 0, 0), (73, .lreturn, 74, 0, 0, 0), (74, (.aload_n 0), 75, 0, 0, 0),
  (75, (.getfield 21), 78, 8, 3, 2), (78, (.iload_n 1), 79, 0, 0, 0), (79, .iaload, 80, 0, 0, 0), (80, .i2l, 81, 0, 0, 0), (81, (.aload_n 0), 82, 0, 0, 0), (82, (.getfield 18), 85, 8, 2, 2),
  (85, (.iload_n 1), 86, 0, 0, 0), (86, .iaload, 87, 0, 0, 0), (87, .i2l, 88, 0, 0, 0), (88, (.ldc2_w 88), 91, 1, 0, 2), (91, .lmul, 92, 0, 0, 0), (92, (.lload_n 2), 93, 0, 0, 0),
  (93, .lmul, 94, 0, 0, 0), (94, .lsub, 95, 0, 0, 0), (95, .lreturn, 96, 0, 0, 0), (96, (.aload_n 0), 97, 0, 0, 0), (97, (.getfield 21), 100, 8, 3, 2), (100, (.iload_n 1), 101, 0, 0, 0),
  (101, .iaload, 102, 0, 0, 0), (102, .i2l, 103, 0, 0, 0), (103, (.aload_n 0), 104, 0, 0, 0), (104, (.getfield 18), 107, 8, 2, 2), (107, (.iload_n 1), 108, 0, 0, 0), (108, .iaload, 109, 0, 0, 0),
  (109, .i2l, 110, 0, 0, 0), (110, (.lload_n 2), 111, 0, 0, 0), (111, .lmul, 112, 0, 0, 0), (112, .ladd, 113, 0, 0, 0), (113, .lreturn, 114, 0, 0, 0)]
set_option maxRecDepth 100000 in
/-- M.floor(JJ)J -/
noncomputable def ew_cd_161 : List ew_Ent := [(0, (.lload_n 0), 1, 0, 0, 0), (1, (.lload_n 2), 2, 0, 0, 0), (2, .ldiv, 3, 0, 0, 0), (3, (.lstore 4), 5, 0, 0, 0), (5, (.lload_n 0), 6, 0, 0, 0), (6, (.lload_n 2), 7, 0, 0, 0),
  (7, .lrem, 8, 0, 0, 0), (8, (.lconst 0), 9, 1, 0, 0), (9, .lcmp, 10, 0, 0, 0), (10, (.ifCond .ge 10), 13, 20, 0, 0), (13, (.lload 4), 15, 0, 0, 0), (15, (.lconst 1), 16, 1, 0, 1),
  (16, .lsub, 17, 0, 0, 0), (17, (.goto 5), 20, 22, 0, 0), (20, (.lload 4), 22, 0, 0, 0), (22, .lreturn, 23, 0, 0, 0)]
set_option maxRecDepth 100000 in
/-- M.drop()I -/
noncomputable def ew_cd_162 : List ew_Ent := [(0, (.aload_n 0), 1, 0, 0, 0), (1, (.getfield 77), 4, 8, 5, 0), (4, (.ifCond .ne 6), 7, 10, 0, 0), (7, (.bipush (-3)), 9, 0, 0, -3), (9, .ireturn, 10, 0, 0, 0), (10, (.aload_n 0), 11, 0, 0, 0),
  (11, .dup, 12, 0, 0, 0), (12, (.getfield 77), 15, 8, 5, 0), (15, (.iconst 1), 16, 0, 0, 1), (16, .isub, 17, 0, 0, 0), (17, (.putfield 77), 20, 8, 5, 0), (20, (.aload_n 0), 21, 0, 0, 0),
  (21, (.aload_n 0), 22, 0, 0, 0), (22, (.getfield 130), 25, 8, 7, 0), (25, (.aload_n 0), 26, 0, 0, 0), (26, (.getfield 77), 29, 8, 5, 0), (29, (.if_icmp .ne 7), 32, 36, 0, 0), (32, (.iconst 0), 33, 0, 0, 0),
  (33, (.goto 7), 36, 40, 0, 0), (36, (.aload_n 0), 37, 0, 0, 0), (37, (.getfield 130), 40, 8, 7, 0), (40, (.putfield 130), 43, 8, 7, 0), (43, (.aload_n 0), 44, 0, 0, 0), (44, (.aload_n 0), 45, 0, 0, 0),
  (45, (.getfield 30), 48, 8, 8, 0), (48, (.aload_n 0), 49, 0, 0, 0), (49, (.getfield 77), 52, 8, 5, 0), (52, (.if_icmp .ne 7), 55, 59, 0, 0), (55, (.iconst (-1)), 56, 0, 0, -1), (56, (.goto 7), 59, 63, 0, 0),
  (59, (.aload_n 0), 60, 0, 0, 0), (60, (.getfield 30), 63, 8, 8, 0), (63, (.putfield 30), 66, 8, 8, 0), (66, (.aload_n 0), 67, 0, 0, 0), (67, (.getfield 77), 70, 8, 5, 0), (70, .ireturn, 71, 0, 0, 0)]
set_option maxRecDepth 100000 in
/-- M.at(II)I -/
noncomputable def ew_cd_163 : List ew_Ent := [(0, (.aload_n 0), 1, 0, 0, 0), (1, (.iload_n 1), 2, 0, 0, 0), (2, (.invokevirtual 110), 5, 156, 2, 1), (5, (.ifCond .ne 5), 8, 10, 0, 0), (8, (.iconst (-1)), 9, 0, 0, -1), (9, .ireturn, 10, 0, 0, 0),
  (10, (.iload_n 2), 11, 0, 0, 0), (11, (.invokestatic 133), 14, 164, 1, 0), (14, (.ifCond .eq 12), 17, 26, 0, 0), (17, (.aload_n 0), 18, 0, 0, 0), (18, (.iload_n 1), 19, 0, 0, 0), (19, (.iload_n 2), 20, 0, 0, 0),
  (20, (.invokevirtual 126), 23, 158, 3, 1), (23, (.goto 5), 26, 28, 0, 0), (26, (.bipush (-2)), 28, 0, 0, -2), (28, .ireturn, 29, 0, 0, 0)]
set_option maxRecDepth 100000 in
/-- M.isMonth(I)Z -/
noncomputable def ew_cd_164 : List ew_Ent := [(0, (.iload_n 0), 1, 0, 0, 0), (1, .i2l, 2, 0, 0, 0), (2, (.ldc2_w 84), 5, 1, 0, -100000), (5, (.ldc2_w 86), 8, 1, 0, 100000), (8, (.invokestatic 80), 11, 150, 3, 0), (11, .ireturn, 12, 0, 1, 0)]
set_option maxRecDepth 100000 in
/-- M.rounds(II)J -/
noncomputable def ew_cd_165 : List ew_Ent := [(0, (.aload_n 0), 1, 0, 0, 0), (1, (.iload_n 1), 2, 0, 0, 0), (2, (.invokevirtual 110), 5, 156, 2, 1), (5, (.ifCond .eq 19), 8, 24, 0, 0), (8, (.iload_n 2), 9, 0, 0, 0), (9, (.invokestatic 133), 12, 164, 1, 0),
  (12, (.ifCond .eq 12), 15, 24, 0, 0), (15, (.aload_n 0), 16, 0, 0, 0), (16, (.iload_n 1), 17, 0, 0, 0), (17, (.iload_n 2), 18, 0, 0, 0), (18, (.invokevirtual 136), 21, 166, 3, 1), (21, (.goto 6), 24, 27, 0, 0),
  (24, (.ldc2_w 139), 27, 1, 0, -9223372036854775808), (27, .lreturn, 28, 0, 0, 0)]
set_option maxRecDepth 100000 in
/-- M.roundsOf(II)J -/
noncomputable def ew_cd_166 : List ew_Ent := [(0, (.aload_n 0), 1, 0, 0, 0), (1, (.iload_n 1), 2, 0, 0, 0), (2, (.iload_n 2), 3, 0, 0, 0), (3, (.invokevirtual 122), 6, 159, 3, 1), (6, (.aload_n 0), 7, 0, 0, 0), (7, (.getfield 15), 10, 8, 1, 2),
  (10, (.aload_n 0), 11, 0, 0, 0), (11, (.getfield 27), 14, 8, 6, 2), (14, (.iload_n 1), 15, 0, 0, 0), (15, .iaload, 16, 0, 0, 0), (16, .iaload, 17, 0, 0, 0), (17, .i2l, 18, 0, 0, 0),
  (18, (.invokestatic 114), 21, 161, 2, 0), (21, .lreturn, 22, 0, 0, 0)]
set_option maxRecDepth 100000 in
/-- M.bind(II)I -/
noncomputable def ew_cd_167 : List ew_Ent := [(0, (.aload_n 0), 1, 0, 0, 0), (1, (.iload_n 1), 2, 0, 0, 0), (2, (.invokevirtual 110), 5, 156, 2, 1), (5, (.ifCond .eq 16), 8, 21, 0, 0), (8, (.iload_n 2), 9, 0, 0, 0), (9, (.iconst (-1)), 10, 0, 0, -1),
  (10, (.if_icmp .eq 13), 13, 23, 0, 0), (13, (.aload_n 0), 14, 0, 0, 0), (14, (.iload_n 2), 15, 0, 0, 0), (15, (.invokevirtual 110), 18, 156, 2, 1), (18, (.ifCond .ne 5), 21, 23, 0, 0), (21, (.iconst (-1)), 22, 0, 0, -1),
  (22, .ireturn, 23, 0, 0, 0), (23, (.aload_n 0), 24, 0, 0, 0), (24, (.iload_n 1), 25, 0, 0, 0), (25, (.putfield 130), 28, 8, 7, 0), (28, (.aload_n 0), 29, 0, 0, 0), (29, (.iload_n 2), 30, 0, 0, 0),
  (30, (.putfield 30), 33, 8, 8, 0), (33, (.iconst 1), 34, 0, 0, 1), (34, .ireturn, 35, 0, 0, 0)]
set_option maxRecDepth 100000 in
/-- M.rule(II)I -/
noncomputable def ew_cd_168 : List ew_Ent := [(0, (.iload_n 1), 1, 0, 0, 0), (1, .i2l, 2, 0, 0, 0), (2, (.lconst 0), 3, 1, 0, 0), (3, (.ldc2_w 145), 6, 1, 0, 5), (6, (.invokestatic 80), 9, 150, 3, 0), (9, (.ifCond .ne 5), 12, 14, 0, 0),
  (12, (.iconst (-1)), 13, 0, 0, -1), (13, .ireturn, 14, 0, 0, 0), (14, (.iload_n 1), 15, 0, 0, 0), (15, (.iload_n 2), 16, 0, 0, 0), (16, (.invokestatic 147), 19, 169, 2, 0), (19, (.ifCond .ne 6), 22, 25, 0, 0),
  (22, (.bipush (-2)), 24, 0, 0, -2), (24, .ireturn, 25, 0, 0, 0), (25, (.aload_n 0), 26, 0, 0, 0), (26, (.getfield 34), 29, 8, 9, 2), (29, (.iload_n 1), 30, 0, 0, 0), (30, .iaload, 31, 0, 0, 0),
  (31, (.istore_n 3), 32, 0, 0, 0), (32, (.aload_n 0), 33, 0, 0, 0), (33, (.getfield 34), 36, 8, 9, 2), (36, (.iload_n 1), 37, 0, 0, 0), (37, (.iload_n 2), 38, 0, 0, 0), (38, .iastore, 39, 0, 0, 0),
  (39, (.iload_n 3), 40, 0, 0, 0), (40, .ireturn, 41, 0, 0, 0)]
set_option maxRecDepth 100000 in
/-- M.isRule(II)Z -/
noncomputable def ew_cd_169 : List ew_Ent := [(0, (.iload_n 0), 1, 0, 0, 0), (1, (.tableswitch 57 3 5 #[27, 37, 47]), 28, 58, 0, 0), (28, (.iload_n 1), 29, 0, 0, 0), (29, .i2l, 30, 0, 0, 0), (30, (.lconst 1), 31, 1, 0, 1), (31, (.ldc2_w 86), 34, 1, 0, 100000),
  (34, (.invokestatic 80), 37, 150, 3, 0), (37, .ireturn, 38, 0, 1, 0), (38, (.iload_n 1), 39, 0, 0, 0), (39, .i2l, 40, 0, 0, 0), (40, (.lconst 1), 41, 1, 0, 1), (41, (.ldc2_w 141), 44, 1, 0, 1000),
  (44, (.invokestatic 80), 47, 150, 3, 0), (47, .ireturn, 48, 0, 1, 0), (48, (.iload_n 1), 49, 0, 0, 0), (49, .i2l, 50, 0, 0, 0), (50, (.lconst 1), 51, 1, 0, 1), (51, (.ldc2_w 143), 54, 1, 0, 400),
  (54, (.invokestatic 80), 57, 150, 3, 0), (57, .ireturn, 58, 0, 1, 0), (58, (.iload_n 1), 59, 0, 0, 0), (59, .i2l, 60, 0, 0, 0), (60, (.lconst 0), 61, 1, 0, 0), (61, (.ldc2_w 90), 64, 1, 0, 99999),
  (64, (.invokestatic 80), 67, 150, 3, 0), (67, .ireturn, 68, 0, 1, 0)]
set_option maxRecDepth 100000 in
/-- M.eclipse(II)I -/
noncomputable def ew_cd_170 : List ew_Ent := [(0, (.iload_n 1), 1, 0, 0, 0), (1, (.invokestatic 133), 4, 164, 1, 0), (4, (.ifCond .eq 15), 7, 19, 0, 0), (7, (.iload_n 2), 8, 0, 0, 0), (8, .i2l, 9, 0, 0, 0), (9, (.lconst 0), 10, 1, 0, 0),
  (10, (.ldc2_w 88), 13, 1, 0, 2), (13, (.invokestatic 80), 16, 150, 3, 0), (16, (.ifCond .ne 6), 19, 22, 0, 0), (19, (.bipush (-2)), 21, 0, 0, -2), (21, .ireturn, 22, 0, 0, 0), (22, (.aload_n 0), 23, 0, 0, 0),
  (23, (.getfield 77), 26, 8, 5, 0), (26, (.ifCond .ne 6), 29, 32, 0, 0), (29, (.bipush (-3)), 31, 0, 0, -3), (31, .ireturn, 32, 0, 0, 0), (32, (.iload_n 2), 33, 0, 0, 0), (33, (.ifCond .ne 11), 36, 44, 0, 0),
  (36, (.aload_n 0), 37, 0, 0, 0), (37, (.iload_n 1), 38, 0, 0, 0), (38, (.invokevirtual 173), 41, 171, 2, 1), (41, (.goto 21), 44, 62, 0, 0), (44, (.iload_n 2), 45, 0, 0, 0), (45, (.iconst 1), 46, 0, 0, 1),
  (46, (.if_icmp .ne 11), 49, 57, 0, 0), (49, (.aload_n 0), 50, 0, 0, 0), (50, (.iload_n 1), 51, 0, 0, 0), (51, (.invokevirtual 170), 54, 172, 2, 1), (54, (.goto 8), 57, 62, 0, 0), (57, (.aload_n 0), 58, 0, 0, 0),
  (58, (.iload_n 1), 59, 0, 0, 0), (59, (.invokevirtual 176), 62, 176, 2, 1), (62, .ireturn, 63, 0, 0, 0)]
set_option maxRecDepth 100000 in
/-- M.eclipseAt(I)I -/
noncomputable def ew_cd_171 : List ew_Ent := [(0, (.aload_n 0), 1, 0, 0, 0), (1, (.getfield 77), 4, 8, 5, 0), (4, (.ifCond .ne 5), 7, 9, 0, 0), (7, (.iconst 0), 8, 0, 0, 0), (8, .ireturn, 9, 0, 0, 0), (9, (.aload_n 0), 10, 0, 0, 0),
  (10, (.iload_n 1), 11, 0, 0, 0), (11, (.invokevirtual 170), 14, 172, 2, 1), (14, (.istore_n 2), 15, 0, 0, 0), (15, (.iload_n 2), 16, 0, 0, 0), (16, (.aload_n 0), 17, 0, 0, 0), (17, (.getfield 34), 20, 8, 9, 2),
  (20, (.iconst 0), 21, 0, 0, 0), (21, .iaload, 22, 0, 0, 0), (22, (.if_icmp .le 5), 25, 27, 0, 0), (25, (.iconst 0), 26, 0, 0, 0), (26, .ireturn, 27, 0, 0, 0), (27, (.iload_n 2), 28, 0, 0, 0),
  (28, (.aload_n 0), 29, 0, 0, 0), (29, (.getfield 34), 32, 8, 9, 2), (32, (.iconst 1), 33, 0, 0, 1), (33, .iaload, 34, 0, 0, 0), (34, (.if_icmp .le 5), 37, 39, 0, 0), (37, (.iconst 1), 38, 0, 0, 1),
  (38, .ireturn, 39, 0, 0, 0), (39, (.aload_n 0), 40, 0, 0, 0), (40, (.getfield 30), 43, 8, 8, 0), (43, (.ifCond .lt 43), 46, 86, 0, 0), (46, (.aload_n 0), 47, 0, 0, 0), (47, (.aload_n 0), 48, 0, 0, 0),
  (48, (.getfield 30), 51, 8, 8, 0), (51, (.iload_n 1), 52, 0, 0, 0), (52, (.invokevirtual 126), 55, 158, 3, 1), (55, (.iconst 0), 56, 0, 0, 0), (56, (.aload_n 0), 57, 0, 0, 0), (57, (.getfield 15), 60, 8, 1, 2),
  (60, (.aload_n 0), 61, 0, 0, 0), (61, (.getfield 27), 64, 8, 6, 2), (64, (.aload_n 0), 65, 0, 0, 0), (65, (.getfield 30), 68, 8, 8, 0), (68, .iaload, 69, 0, 0, 0), (69, .iaload, 70, 0, 0, 0),
  (70, (.invokestatic 163), 73, 175, 3, 0), (73, (.aload_n 0), 74, 0, 0, 0), (74, (.getfield 34), 77, 8, 9, 2), (77, (.iconst 2), 78, 0, 0, 2), (78, .iaload, 79, 0, 0, 0), (79, (.if_icmp .le 7), 82, 86, 0, 0),
  (82, (.iconst 3), 83, 0, 0, 3), (83, (.goto 4), 86, 87, 0, 0), (86, (.iconst 2), 87, 0, 0, 2), (87, .ireturn, 88, 0, 0, 0)]
set_option maxRecDepth 100000 in
/-- M.far(I)I -/
noncomputable def ew_cd_172 : List ew_Ent := [(0, (.aload_n 0), 1, 0, 0, 0), (1, (.iload_n 1), 2, 0, 0, 0), (2, (.iconst 0), 3, 0, 0, 0), (3, (.invokevirtual 167), 6, 173, 3, 1), (6, (.aload_n 0), 7, 0, 0, 0), (7, (.iload_n 1), 8, 0, 0, 0),
  (8, (.iconst 1), 9, 0, 0, 1), (9, (.invokevirtual 167), 12, 173, 3, 1), (12, (.invokestatic 157), 15, 3, 2, 0), (15, .ireturn, 16, 0, 0, 0)]
set_option maxRecDepth 100000 in
/-- M.farFrom(II)I -/
noncomputable def ew_cd_173 : List ew_Ent := [(0, (.aload_n 0), 1, 0, 0, 0), (1, (.aload_n 0), 2, 0, 0, 0), (2, (.getfield 130), 5, 8, 7, 0), (5, (.iload_n 1), 6, 0, 0, 0), (6, (.invokevirtual 126), 9, 158, 3, 1), (9, (.iload_n 2), 10, 0, 0, 0),
  (10, (.ifCond .ne 7), 13, 17, 0, 0), (13, (.iconst 0), 14, 0, 0, 0), (14, (.goto 9), 17, 23, 0, 0), (17, (.aload_n 0), 18, 0, 0, 0), (18, (.invokevirtual 160), 21, 174, 1, 1), (21, (.iconst 2), 22, 0, 0, 2),
  (22, .idiv, 23, 0, 0, 0), (23, (.aload_n 0), 24, 0, 0, 0), (24, (.invokevirtual 160), 27, 174, 1, 1), (27, (.invokestatic 163), 30, 175, 3, 0), (30, .ireturn, 31, 0, 0, 0)]
set_option maxRecDepth 100000 in
/-- M.nodeParts()I -/
noncomputable def ew_cd_174 : List ew_Ent := [(0, (.aload_n 0), 1, 0, 0, 0), (1, (.getfield 15), 4, 8, 1, 2), (4, (.aload_n 0), 5, 0, 0, 0), (5, (.getfield 27), 8, 8, 6, 2), (8, (.aload_n 0), 9, 0, 0, 0), (9, (.getfield 130), 12, 8, 7, 0),
  (12, .iaload, 13, 0, 0, 0), (13, .iaload, 14, 0, 0, 0), (14, .ireturn, 15, 0, 0, 0)]
set_option maxRecDepth 100000 in
/-- M.near(III)I -/
noncomputable def ew_cd_175 : List ew_Ent := [(0, (.iload_n 0), 1, 0, 0, 0), (1, (.iload_n 1), 2, 0, 0, 0), (2, .isub, 3, 0, 0, 0), (3, (.invokestatic 151), 6, 5, 1, 0), (6, (.iload_n 2), 7, 0, 0, 0), (7, .irem, 8, 0, 0, 0),
  (8, (.istore_n 3), 9, 0, 0, 0), (9, (.iload_n 3), 10, 0, 0, 0), (10, (.iload_n 2), 11, 0, 0, 0), (11, (.iload_n 3), 12, 0, 0, 0), (12, .isub, 13, 0, 0, 0), (13, (.invokestatic 157), 16, 3, 2, 0),
  (16, .ireturn, 17, 0, 0, 0)]
set_option maxRecDepth 100000 in
/-- M.sideOf(I)I -/
noncomputable def ew_cd_176 : List ew_Ent := [(0, (.aload_n 0), 1, 0, 0, 0), (1, (.iload_n 1), 2, 0, 0, 0), (2, (.iconst 1), 3, 0, 0, 1), (3, (.invokevirtual 167), 6, 173, 3, 1), (6, (.aload_n 0), 7, 0, 0, 0), (7, (.iload_n 1), 8, 0, 0, 0),
  (8, (.iconst 0), 9, 0, 0, 0), (9, (.invokevirtual 167), 12, 173, 3, 1), (12, (.if_icmp .ge 7), 15, 19, 0, 0), (15, (.iconst 1), 16, 0, 0, 1), (16, (.goto 4), 19, 20, 0, 0), (19, (.iconst 0), 20, 0, 0, 0),
  (20, .ireturn, 21, 0, 0, 0)]
set_option maxRecDepth 100000 in
/-- M.eclipses(III)I -/
noncomputable def ew_cd_177 : List ew_Ent := [(0, (.iload_n 1), 1, 0, 0, 0), (1, (.iload_n 2), 2, 0, 0, 0), (2, (.sipush 4000), 5, 0, 0, 4000), (5, (.invokestatic 179), 8, 178, 3, 0), (8, (.ifCond .ne 6), 11, 14, 0, 0), (11, (.bipush (-2)), 13, 0, 0, -2),
  (13, .ireturn, 14, 0, 0, 0), (14, (.iload_n 3), 15, 0, 0, 0), (15, .i2l, 16, 0, 0, 0), (16, (.lconst 0), 17, 1, 0, 0), (17, (.ldc2_w 182), 20, 1, 0, 3), (20, (.invokestatic 80), 23, 150, 3, 0),
  (23, (.ifCond .ne 5), 26, 28, 0, 0), (26, (.iconst (-1)), 27, 0, 0, -1), (27, .ireturn, 28, 0, 0, 0), (28, (.iconst 0), 29, 0, 0, 0), (29, (.istore 4), 31, 0, 0, 0), (31, (.iload_n 1), 32, 0, 0, 0),
  (32, (.istore 5), 34, 0, 0, 0), (34, (.iload 5), 36, 0, 0, 0), (36, (.iload_n 2), 37, 0, 0, 0), (37, (.if_icmp .gt 42), 40, 79, 0, 0), (40, (.aload_n 0), 41, 0, 0, 0), (41, (.iload 5), 43, 0, 0, 0),
  (43, (.invokevirtual 173), 46, 171, 2, 1), (46, (.istore 6), 48, 0, 0, 0), (48, (.iload 4), 50, 0, 0, 0), (50, (.iload 6), 52, 0, 0, 0), (52, (.ifCond .le 17), 55, 69, 0, 0), (55, (.iload_n 3), 56, 0, 0, 0),
  (56, (.ifCond .eq 9), 59, 65, 0, 0), (59, (.iload 6), 61, 0, 0, 0), (61, (.iload_n 3), 62, 0, 0, 0), (62, (.if_icmp .ne 7), 65, 69, 0, 0), (65, (.iconst 1), 66, 0, 0, 1), (66, (.goto 4), 69, 70, 0, 0),
  (69, (.iconst 0), 70, 0, 0, 0), (70, .iadd, 71, 0, 0, 0), (71, (.istore 4), 73, 0, 0, 0), (73, (.iinc 5 1), 76, 0, 0, 0), (76, (.goto (-42)), 79, 34, 0, 0), (79, (.iload 4), 81, 0, 0, 0),
  (81, .ireturn, 82, 0, 0, 0)]
set_option maxRecDepth 100000 in
/-- M.isSpan(III)Z -/
noncomputable def ew_cd_178 : List ew_Ent := [(0, (.iload_n 0), 1, 0, 0, 0), (1, (.invokestatic 133), 4, 164, 1, 0), (4, (.ifCond .eq 26), 7, 30, 0, 0), (7, (.iload_n 1), 8, 0, 0, 0), (8, (.invokestatic 133), 11, 164, 1, 0), (11, (.ifCond .eq 19), 14, 30, 0, 0),
  (14, (.iload_n 1), 15, 0, 0, 0), (15, (.iload_n 0), 16, 0, 0, 0), (16, (.if_icmp .lt 14), 19, 30, 0, 0), (19, (.iload_n 1), 20, 0, 0, 0), (20, (.iload_n 0), 21, 0, 0, 0), (21, .isub, 22, 0, 0, 0),
  (22, (.iload_n 2), 23, 0, 0, 0), (23, (.if_icmp .ge 7), 26, 30, 0, 0), (26, (.iconst 1), 27, 0, 0, 1), (27, (.goto 4), 30, 31, 0, 0), (30, (.iconst 0), 31, 0, 0, 0), (31, .ireturn, 32, 0, 1, 0)]
set_option maxRecDepth 100000 in
/-- M.next(II)I -/
noncomputable def ew_cd_179 : List ew_Ent := [(0, (.iload_n 1), 1, 0, 0, 0), (1, (.invokestatic 133), 4, 164, 1, 0), (4, (.ifCond .eq 13), 7, 17, 0, 0), (7, (.iload_n 2), 8, 0, 0, 0), (8, .i2l, 9, 0, 0, 0), (9, (.lconst 0), 10, 1, 0, 0),
  (10, (.lconst 1), 11, 1, 0, 1), (11, (.invokestatic 80), 14, 150, 3, 0), (14, (.ifCond .ne 6), 17, 20, 0, 0), (17, (.bipush (-2)), 19, 0, 0, -2), (19, .ireturn, 20, 0, 0, 0), (20, (.iload_n 2), 21, 0, 0, 0),
  (21, (.ifCond .ne 7), 24, 28, 0, 0), (24, (.iconst 1), 25, 0, 0, 1), (25, (.goto 4), 28, 29, 0, 0), (28, (.iconst (-1)), 29, 0, 0, -1), (29, (.istore_n 3), 30, 0, 0, 0), (30, (.iconst 1), 31, 0, 0, 1),
  (31, (.istore 4), 33, 0, 0, 0), (33, (.iload 4), 35, 0, 0, 0), (35, (.sipush 4000), 38, 0, 0, 4000), (38, (.if_icmp .gt 44), 41, 82, 0, 0), (41, (.iload_n 1), 42, 0, 0, 0), (42, (.iload_n 3), 43, 0, 0, 0),
  (43, (.iload 4), 45, 0, 0, 0), (45, .imul, 46, 0, 0, 0), (46, .iadd, 47, 0, 0, 0), (47, (.invokestatic 133), 50, 164, 1, 0), (50, (.ifCond .eq 32), 53, 82, 0, 0), (53, (.aload_n 0), 54, 0, 0, 0),
  (54, (.iload_n 1), 55, 0, 0, 0), (55, (.iload_n 3), 56, 0, 0, 0), (56, (.iload 4), 58, 0, 0, 0), (58, .imul, 59, 0, 0, 0), (59, .iadd, 60, 0, 0, 0), (60, (.invokevirtual 173), 63, 171, 2, 1),
  (63, (.ifCond .le 13), 66, 76, 0, 0), (66, (.iload_n 1), 67, 0, 0, 0), (67, (.iload_n 3), 68, 0, 0, 0), (68, (.iload 4), 70, 0, 0, 0), (70, .imul, 71, 0, 0, 0), (71, .iadd, 72, 0, 0, 0),
  (72, (.ldc 184), 74, 0, 0, 100000), (74, .iadd, 75, 0, 0, 0), (75, .ireturn, 76, 0, 0, 0), (76, (.iinc 4 1), 79, 0, 0, 0), (79, (.goto (-46)), 82, 33, 0, 0), (82, (.bipush (-5)), 84, 0, 0, -5),
  (84, .ireturn, 85, 0, 0, 0)]
set_option maxRecDepth 100000 in
/-- M.family(III)I -/
noncomputable def ew_cd_180 : List ew_Ent := [(0, (.iload_n 1), 1, 0, 0, 0), (1, (.invokestatic 133), 4, 164, 1, 0), (4, (.ifCond .eq 22), 7, 26, 0, 0), (7, (.iload_n 2), 8, 0, 0, 0), (8, (.invokestatic 187), 11, 181, 1, 0), (11, (.ifCond .eq 15), 14, 26, 0, 0),
  (14, (.iload_n 3), 15, 0, 0, 0), (15, .i2l, 16, 0, 0, 0), (16, (.lconst 0), 17, 1, 0, 0), (17, (.ldc2_w 88), 20, 1, 0, 2), (20, (.invokestatic 80), 23, 150, 3, 0), (23, (.ifCond .ne 6), 26, 29, 0, 0),
  (26, (.bipush (-2)), 28, 0, 0, -2), (28, .ireturn, 29, 0, 0, 0), (29, (.aload_n 0), 30, 0, 0, 0), (30, (.iload_n 1), 31, 0, 0, 0), (31, (.invokevirtual 173), 34, 171, 2, 1), (34, (.ifCond .ne 6), 37, 40, 0, 0),
  (37, (.bipush (-5)), 39, 0, 0, -5), (39, .ireturn, 40, 0, 0, 0), (40, (.aload_n 0), 41, 0, 0, 0), (41, (.iload_n 1), 42, 0, 0, 0), (42, (.iload_n 2), 43, 0, 0, 0), (43, .ineg, 44, 0, 0, 0),
  (44, (.invokevirtual 190), 47, 182, 3, 1), (47, (.istore 4), 49, 0, 0, 0), (49, (.aload_n 0), 50, 0, 0, 0), (50, (.iload_n 1), 51, 0, 0, 0), (51, (.iload_n 2), 52, 0, 0, 0), (52, (.invokevirtual 190), 55, 182, 3, 1),
  (55, (.istore 5), 57, 0, 0, 0), (57, (.iload_n 3), 58, 0, 0, 0), (58, (.ifCond .ne 11), 61, 69, 0, 0), (61, (.iload 4), 63, 0, 0, 0), (63, (.ldc 184), 65, 0, 0, 100000), (65, .iadd, 66, 0, 0, 0),
  (66, (.goto 25), 69, 91, 0, 0), (69, (.iload_n 3), 70, 0, 0, 0), (70, (.iconst 1), 71, 0, 0, 1), (71, (.if_icmp .ne 11), 74, 82, 0, 0), (74, (.iload 5), 76, 0, 0, 0), (76, (.ldc 184), 78, 0, 0, 100000),
  (78, .iadd, 79, 0, 0, 0), (79, (.goto 12), 82, 91, 0, 0), (82, (.iload 5), 84, 0, 0, 0), (84, (.iload 4), 86, 0, 0, 0), (86, .isub, 87, 0, 0, 0), (87, (.iload_n 2), 88, 0, 0, 0),
  (88, .idiv, 89, 0, 0, 0), (89, (.iconst 1), 90, 0, 0, 1), (90, .iadd, 91, 0, 0, 0), (91, .ireturn, 92, 0, 0, 0)]
set_option maxRecDepth 100000 in
/-- M.isCycle(I)Z -/
noncomputable def ew_cd_181 : List ew_Ent := [(0, (.iload_n 0), 1, 0, 0, 0), (1, .i2l, 2, 0, 0, 0), (2, (.lconst 1), 3, 1, 0, 1), (3, (.ldc2_w 185), 6, 1, 0, 2000), (6, (.invokestatic 80), 9, 150, 3, 0), (9, .ireturn, 10, 0, 1, 0)]
set_option maxRecDepth 100000 in
/-- M.lastOf(II)I -/
noncomputable def ew_cd_182 : List ew_Ent := [(0, (.aload_n 0), 1, 0, 0, 0), (1, (.iload_n 1), 2, 0, 0, 0), (2, (.invokevirtual 176), 5, 176, 2, 1), (5, (.istore_n 3), 6, 0, 0, 0), (6, (.iload_n 1), 7, 0, 0, 0), (7, (.istore 4), 9, 0, 0, 0),
  (9, (.iconst 0), 10, 0, 0, 0), (10, (.istore 5), 12, 0, 0, 0), (12, (.iload 5), 14, 0, 0, 0), (14, (.sipush 500), 17, 0, 0, 500), (17, (.if_icmp .ge 48), 20, 65, 0, 0), (20, (.iload 4), 22, 0, 0, 0),
  (22, (.iload_n 2), 23, 0, 0, 0), (23, .iadd, 24, 0, 0, 0), (24, (.invokestatic 133), 27, 164, 1, 0), (27, (.ifCond .eq 38), 30, 65, 0, 0), (30, (.aload_n 0), 31, 0, 0, 0), (31, (.iload 4), 33, 0, 0, 0),
  (33, (.iload_n 2), 34, 0, 0, 0), (34, .iadd, 35, 0, 0, 0), (35, (.invokevirtual 173), 38, 171, 2, 1), (38, (.ifCond .le 27), 41, 65, 0, 0), (41, (.aload_n 0), 42, 0, 0, 0), (42, (.iload 4), 44, 0, 0, 0),
  (44, (.iload_n 2), 45, 0, 0, 0), (45, .iadd, 46, 0, 0, 0), (46, (.invokevirtual 176), 49, 176, 2, 1), (49, (.iload_n 3), 50, 0, 0, 0), (50, (.if_icmp .ne 15), 53, 65, 0, 0), (53, (.iload 4), 55, 0, 0, 0),
  (55, (.iload_n 2), 56, 0, 0, 0), (56, .iadd, 57, 0, 0, 0), (57, (.istore 4), 59, 0, 0, 0), (59, (.iinc 5 1), 62, 0, 0, 0), (62, (.goto (-50)), 65, 12, 0, 0), (65, (.iload 4), 67, 0, 0, 0),
  (67, .ireturn, 68, 0, 0, 0)]
set_option maxRecDepth 100000 in
/-- M.roll(IIII)I -/
noncomputable def ew_cd_183 : List ew_Ent := [(0, (.iload_n 1), 1, 0, 0, 0), (1, (.iload_n 2), 2, 0, 0, 0), (2, (.sipush 200), 5, 0, 0, 200), (5, (.invokestatic 179), 8, 178, 3, 0), (8, (.ifCond .eq 23), 11, 31, 0, 0), (11, (.iload_n 3), 12, 0, 0, 0),
  (12, (.invokestatic 187), 15, 181, 1, 0), (15, (.ifCond .eq 16), 18, 31, 0, 0), (18, (.iload 4), 20, 0, 0, 0), (20, .i2l, 21, 0, 0, 0), (21, (.lconst 0), 22, 1, 0, 0), (22, (.ldc2_w 96), 25, 1, 0, 4),
  (25, (.invokestatic 80), 28, 150, 3, 0), (28, (.ifCond .ne 6), 31, 34, 0, 0), (31, (.bipush (-2)), 33, 0, 0, -2), (33, .ireturn, 34, 0, 0, 0), (34, (.iconst 0), 35, 0, 0, 0), (35, (.istore 5), 37, 0, 0, 0),
  (37, (.iconst 0), 38, 0, 0, 0), (38, (.istore 6), 40, 0, 0, 0), (40, (.iconst 0), 41, 0, 0, 0), (41, (.istore 7), 43, 0, 0, 0), (43, (.iconst 0), 44, 0, 0, 0), (44, (.istore 8), 46, 0, 0, 0),
  (46, (.iconst 0), 47, 0, 0, 0), (47, (.istore 9), 49, 0, 0, 0), (49, (.iload 9), 51, 0, 0, 0), (51, (.iload_n 2), 52, 0, 0, 0), (52, (.iload_n 1), 53, 0, 0, 0), (53, .isub, 54, 0, 0, 0),
  (54, (.if_icmp .gt 227), 57, 281, 0, 0), (57, (.aload_n 0), 58, 0, 0, 0), (58, (.iload_n 1), 59, 0, 0, 0), (59, (.iload 9), 61, 0, 0, 0), (61, .iadd, 62, 0, 0, 0), (62, (.invokevirtual 173), 65, 171, 2, 1),
  (65, (.ifCond .le 7), 68, 72, 0, 0), (68, (.iconst 1), 69, 0, 0, 1), (69, (.goto 4), 72, 73, 0, 0), (72, (.iconst 0), 73, 0, 0, 0), (73, (.istore 10), 75, 0, 0, 0), (75, (.aload_n 0), 76, 0, 0, 0),
  (76, (.getfield 43), 79, 8, 13, 2), (79, (.iload 9), 81, 0, 0, 0), (81, (.iload 10), 83, 0, 0, 0), (83, (.ifCond .eq 14), 86, 97, 0, 0), (86, (.aload_n 0), 87, 0, 0, 0), (87, (.iload_n 1), 88, 0, 0, 0),
  (88, (.iload 9), 90, 0, 0, 0), (90, .iadd, 91, 0, 0, 0), (91, (.invokevirtual 176), 94, 176, 2, 1), (94, (.goto 4), 97, 98, 0, 0), (97, (.iconst 0), 98, 0, 0, 0), (98, .iastore, 99, 0, 0, 0),
  (99, (.iload 10), 101, 0, 0, 0), (101, (.ifCond .eq 44), 104, 145, 0, 0), (104, (.iload 9), 106, 0, 0, 0), (106, (.iload_n 3), 107, 0, 0, 0), (107, (.if_icmp .lt 38), 110, 145, 0, 0), (110, (.aload_n 0), 111, 0, 0, 0),
  (111, (.getfield 40), 114, 8, 12, 2), (114, (.iload 9), 116, 0, 0, 0), (116, (.iload_n 3), 117, 0, 0, 0), (117, .isub, 118, 0, 0, 0), (118, .iaload, 119, 0, 0, 0), (119, (.ifCond .le 26), 122, 145, 0, 0),
  (122, (.aload_n 0), 123, 0, 0, 0), (123, (.getfield 43), 126, 8, 13, 2), (126, (.iload 9), 128, 0, 0, 0), (128, (.iload_n 3), 129, 0, 0, 0), (129, .isub, 130, 0, 0, 0), (130, .iaload, 131, 0, 0, 0),
  (131, (.aload_n 0), 132, 0, 0, 0), (132, (.getfield 43), 135, 8, 13, 2), (135, (.iload 9), 137, 0, 0, 0), (137, .iaload, 138, 0, 0, 0), (138, (.if_icmp .ne 7), 141, 145, 0, 0), (141, (.iconst 1), 142, 0, 0, 1),
  (142, (.goto 4), 145, 146, 0, 0), (145, (.iconst 0), 146, 0, 0, 0), (146, (.istore 11), 148, 0, 0, 0), (148, (.aload_n 0), 149, 0, 0, 0), (149, (.getfield 40), 152, 8, 12, 2), (152, (.iload 9), 154, 0, 0, 0),
  (154, (.iload 10), 156, 0, 0, 0), (156, (.ifCond .ne 7), 159, 163, 0, 0), (159, (.iconst 0), 160, 0, 0, 0), (160, (.goto 23), 163, 183, 0, 0), (163, (.iload 11), 165, 0, 0, 0), (165, (.ifCond .eq 17), 168, 182, 0, 0),
  (168, (.aload_n 0), 169, 0, 0, 0), (169, (.getfield 40), 172, 8, 12, 2), (172, (.iload 9), 174, 0, 0, 0), (174, (.iload_n 3), 175, 0, 0, 0), (175, .isub, 176, 0, 0, 0), (176, .iaload, 177, 0, 0, 0),
  (177, (.iconst 1), 178, 0, 0, 1), (178, .iadd, 179, 0, 0, 0), (179, (.goto 4), 182, 183, 0, 0), (182, (.iconst 1), 183, 0, 0, 1), (183, .iastore, 184, 0, 0, 0), (184, (.iload 5), 186, 0, 0, 0),
  (186, (.iload 10), 188, 0, 0, 0), (188, (.ifCond .eq 12), 191, 200, 0, 0), (191, (.iload 11), 193, 0, 0, 0), (193, (.ifCond .ne 7), 196, 200, 0, 0), (196, (.iconst 1), 197, 0, 0, 1), (197, (.goto 4), 200, 201, 0, 0),
  (200, (.iconst 0), 201, 0, 0, 0), (201, .iadd, 202, 0, 0, 0), (202, (.istore 5), 204, 0, 0, 0), (204, (.iload 6), 206, 0, 0, 0), (206, (.aload_n 0), 207, 0, 0, 0), (207, (.getfield 40), 210, 8, 12, 2),
  (210, (.iload 9), 212, 0, 0, 0), (212, .iaload, 213, 0, 0, 0), (213, (.invokestatic 193), 216, 4, 2, 0), (216, (.istore 6), 218, 0, 0, 0), (218, (.iconst 0), 219, 0, 0, 0), (219, (.istore 7), 221, 0, 0, 0),
  (221, (.iconst 0), 222, 0, 0, 0), (222, (.iload 9), 224, 0, 0, 0), (224, (.iload_n 3), 225, 0, 0, 0), (225, .isub, 226, 0, 0, 0), (226, (.iconst 1), 227, 0, 0, 1), (227, .iadd, 228, 0, 0, 0),
  (228, (.invokestatic 193), 231, 4, 2, 0), (231, (.istore 12), 233, 0, 0, 0), (233, (.iload 12), 235, 0, 0, 0), (235, (.iload 9), 237, 0, 0, 0), (237, (.if_icmp .gt 29), 240, 266, 0, 0), (240, (.iload 7), 242, 0, 0, 0),
  (242, (.aload_n 0), 243, 0, 0, 0), (243, (.getfield 40), 246, 8, 12, 2), (246, (.iload 12), 248, 0, 0, 0), (248, .iaload, 249, 0, 0, 0), (249, (.ifCond .le 7), 252, 256, 0, 0), (252, (.iconst 1), 253, 0, 0, 1),
  (253, (.goto 4), 256, 257, 0, 0), (256, (.iconst 0), 257, 0, 0, 0), (257, .iadd, 258, 0, 0, 0), (258, (.istore 7), 260, 0, 0, 0), (260, (.iinc 12 1), 263, 0, 0, 0), (263, (.goto (-30)), 266, 233, 0, 0),
  (266, (.iload 8), 268, 0, 0, 0), (268, (.iload 7), 270, 0, 0, 0), (270, (.invokestatic 193), 273, 4, 2, 0), (273, (.istore 8), 275, 0, 0, 0), (275, (.iinc 9 1), 278, 0, 0, 0), (278, (.goto (-229)), 281, 49, 0, 0),
  (281, (.iload 4), 283, 0, 0, 0), (283, (.tableswitch 44 0 3 #[29, 32, 38, 41]), 312, 327, 0, 0), (312, (.iload 5), 314, 0, 0, 0), (314, .ireturn, 315, 0, 0, 0), (315, (.iload 5), 317, 0, 0, 0), (317, (.iload 7), 319, 0, 0, 0),
  (319, .isub, 320, 0, 0, 0), (320, .ireturn, 321, 0, 0, 0), (321, (.iload 7), 323, 0, 0, 0), (323, .ireturn, 324, 0, 0, 0), (324, (.iload 6), 326, 0, 0, 0), (326, .ireturn, 327, 0, 0, 0),
  (327, (.iload 8), 329, 0, 0, 0), (329, .ireturn, 330, 0, 0, 0)]
set_option maxRecDepth 100000 in
/-- M.drift(II)I -/
noncomputable def ew_cd_184 : List ew_Ent := [(0, (.iload_n 1), 1, 0, 0, 0), (1, (.invokestatic 187), 4, 181, 1, 0), (4, (.ifCond .eq 13), 7, 17, 0, 0), (7, (.iload_n 2), 8, 0, 0, 0), (8, .i2l, 9, 0, 0, 0), (9, (.lconst 0), 10, 1, 0, 0),
  (10, (.lconst 1), 11, 1, 0, 1), (11, (.invokestatic 80), 14, 150, 3, 0), (14, (.ifCond .ne 6), 17, 20, 0, 0), (17, (.bipush (-2)), 19, 0, 0, -2), (19, .ireturn, 20, 0, 0, 0), (20, (.aload_n 0), 21, 0, 0, 0),
  (21, (.getfield 77), 24, 8, 5, 0), (24, (.ifCond .ne 8), 27, 32, 0, 0), (27, (.bipush (-3)), 29, 0, 0, -3), (29, (.goto 9), 32, 38, 0, 0), (32, (.aload_n 0), 33, 0, 0, 0), (33, (.iload_n 1), 34, 0, 0, 0),
  (34, (.iload_n 2), 35, 0, 0, 0), (35, (.invokevirtual 196), 38, 185, 3, 1), (38, .ireturn, 39, 0, 0, 0)]
set_option maxRecDepth 100000 in
/-- M.driftOf(II)I -/
noncomputable def ew_cd_185 : List ew_Ent := [(0, (.aload_n 0), 1, 0, 0, 0), (1, (.invokevirtual 160), 4, 174, 1, 1), (4, (.istore_n 3), 5, 0, 0, 0), (5, (.iload_n 2), 6, 0, 0, 0), (6, (.ifCond .ne 15), 9, 21, 0, 0), (9, (.aload_n 0), 10, 0, 0, 0),
  (10, (.aload_n 0), 11, 0, 0, 0), (11, (.getfield 130), 14, 8, 7, 0), (14, (.iconst 0), 15, 0, 0, 0), (15, (.invokevirtual 126), 18, 158, 3, 1), (18, (.goto 18), 21, 36, 0, 0), (21, (.aload_n 0), 22, 0, 0, 0),
  (22, (.aload_n 0), 23, 0, 0, 0), (23, (.getfield 130), 26, 8, 7, 0), (26, (.iconst 0), 27, 0, 0, 0), (27, (.invokevirtual 126), 30, 158, 3, 1), (30, (.iload_n 3), 31, 0, 0, 0), (31, (.iconst 2), 32, 0, 0, 2),
  (32, .idiv, 33, 0, 0, 0), (33, .iadd, 34, 0, 0, 0), (34, (.iload_n 3), 35, 0, 0, 0), (35, .irem, 36, 0, 0, 0), (36, (.istore 4), 38, 0, 0, 0), (38, (.aload_n 0), 39, 0, 0, 0),
  (39, (.aload_n 0), 40, 0, 0, 0), (40, (.getfield 130), 43, 8, 7, 0), (43, (.iload_n 1), 44, 0, 0, 0), (44, (.invokevirtual 126), 47, 158, 3, 1), (47, (.iload 4), 49, 0, 0, 0), (49, (.iload_n 3), 50, 0, 0, 0),
  (50, (.invokestatic 163), 53, 175, 3, 0), (53, .ireturn, 54, 0, 0, 0)]
set_option maxRecDepth 100000 in
/-- M.records(II)I -/
noncomputable def ew_cd_186 : List ew_Ent := [(0, (.iload_n 1), 1, 0, 0, 0), (1, (.invokestatic 187), 4, 181, 1, 0), (4, (.ifCond .eq 13), 7, 17, 0, 0), (7, (.iload_n 2), 8, 0, 0, 0), (8, .i2l, 9, 0, 0, 0), (9, (.lconst 0), 10, 1, 0, 0),
  (10, (.lconst 1), 11, 1, 0, 1), (11, (.invokestatic 80), 14, 150, 3, 0), (14, (.ifCond .ne 6), 17, 20, 0, 0), (17, (.bipush (-2)), 19, 0, 0, -2), (19, .ireturn, 20, 0, 0, 0), (20, (.aload_n 0), 21, 0, 0, 0),
  (21, (.getfield 77), 24, 8, 5, 0), (24, (.ifCond .ne 8), 27, 32, 0, 0), (27, (.bipush (-3)), 29, 0, 0, -3), (29, (.goto 10), 32, 39, 0, 0), (32, (.aload_n 0), 33, 0, 0, 0), (33, (.iload_n 1), 34, 0, 0, 0),
  (34, (.iload_n 2), 35, 0, 0, 0), (35, (.iconst (-1)), 36, 0, 0, -1), (36, (.invokevirtual 205), 39, 187, 4, 1), (39, .ireturn, 40, 0, 0, 0)]
set_option maxRecDepth 100000 in
/-- M.recordsTo(III)I -/
noncomputable def ew_cd_187 : List ew_Ent := [(0, (.iconst 0), 1, 0, 0, 0), (1, (.istore 4), 3, 0, 0, 0), (3, (.ldc 201), 5, 0, 0, 2147483647), (5, (.istore 5), 7, 0, 0, 0), (7, (.iconst 1), 8, 0, 0, 1), (8, (.istore 6), 10, 0, 0, 0),
  (10, (.iload 6), 12, 0, 0, 0), (12, (.iload_n 1), 13, 0, 0, 0), (13, (.if_icmp .gt 51), 16, 64, 0, 0), (16, (.aload_n 0), 17, 0, 0, 0), (17, (.iload 6), 19, 0, 0, 0), (19, (.iload_n 2), 20, 0, 0, 0),
  (20, (.invokevirtual 196), 23, 185, 3, 1), (23, (.istore 7), 25, 0, 0, 0), (25, (.iload 7), 27, 0, 0, 0), (27, (.iload 5), 29, 0, 0, 0), (29, (.if_icmp .ge 29), 32, 58, 0, 0), (32, (.iload 7), 34, 0, 0, 0),
  (34, (.istore 5), 36, 0, 0, 0), (36, (.aload_n 0), 37, 0, 0, 0), (37, (.iload 4), 39, 0, 0, 0), (39, (.iload_n 3), 40, 0, 0, 0), (40, (.if_icmp .ne 8), 43, 48, 0, 0), (43, (.iload 6), 45, 0, 0, 0),
  (45, (.goto 7), 48, 52, 0, 0), (48, (.aload_n 0), 49, 0, 0, 0), (49, (.getfield 202), 52, 8, 14, 0), (52, (.putfield 202), 55, 8, 14, 0), (55, (.iinc 4 1), 58, 0, 0, 0), (58, (.iinc 6 1), 61, 0, 0, 0),
  (61, (.goto (-51)), 64, 10, 0, 0), (64, (.iload 4), 66, 0, 0, 0), (66, .ireturn, 67, 0, 0, 0)]
set_option maxRecDepth 100000 in
/-- M.record(II)I -/
noncomputable def ew_cd_188 : List ew_Ent := [(0, (.iload_n 2), 1, 0, 0, 0), (1, .i2l, 2, 0, 0, 0), (2, (.lconst 0), 3, 1, 0, 0), (3, (.lconst 1), 4, 1, 0, 1), (4, (.invokestatic 80), 7, 150, 3, 0), (7, (.ifCond .ne 6), 10, 13, 0, 0),
  (10, (.bipush (-2)), 12, 0, 0, -2), (12, .ireturn, 13, 0, 0, 0), (13, (.aload_n 0), 14, 0, 0, 0), (14, (.getfield 77), 17, 8, 5, 0), (17, (.ifCond .ne 6), 20, 23, 0, 0), (20, (.bipush (-3)), 22, 0, 0, -3),
  (22, .ireturn, 23, 0, 0, 0), (23, (.iload_n 1), 24, 0, 0, 0), (24, .i2l, 25, 0, 0, 0), (25, (.lconst 0), 26, 1, 0, 0), (26, (.aload_n 0), 27, 0, 0, 0), (27, (.sipush 2000), 30, 0, 0, 2000),
  (30, (.iload_n 2), 31, 0, 0, 0), (31, (.iload_n 1), 32, 0, 0, 0), (32, (.invokevirtual 205), 35, 187, 4, 1), (35, (.iconst 1), 36, 0, 0, 1), (36, .isub, 37, 0, 0, 0), (37, .i2l, 38, 0, 0, 0),
  (38, (.invokestatic 80), 41, 150, 3, 0), (41, (.ifCond .eq 10), 44, 51, 0, 0), (44, (.aload_n 0), 45, 0, 0, 0), (45, (.getfield 202), 48, 8, 14, 0), (48, (.goto 4), 51, 52, 0, 0), (51, (.iconst (-1)), 52, 0, 0, -1),
  (52, .ireturn, 53, 0, 0, 0)]
set_option maxRecDepth 100000 in
/-- M.terms(I)I -/
noncomputable def ew_cd_189 : List ew_Ent := [(0, (.aload_n 0), 1, 0, 0, 0), (1, (.iload_n 1), 2, 0, 0, 0), (2, (.invokevirtual 110), 5, 156, 2, 1), (5, (.ifCond .eq 11), 8, 16, 0, 0), (8, (.aload_n 0), 9, 0, 0, 0), (9, (.iload_n 1), 10, 0, 0, 0),
  (10, (.invokevirtual 208), 13, 190, 2, 1), (13, (.goto 4), 16, 17, 0, 0), (16, (.iconst (-1)), 17, 0, 0, -1), (17, .ireturn, 18, 0, 0, 0)]
set_option maxRecDepth 100000 in
/-- M.termsOf(I)I -/
noncomputable def ew_cd_190 : List ew_Ent := [(0, (.aload_n 0), 1, 0, 0, 0), (1, (.getfield 18), 4, 8, 2, 2), (4, (.aload_n 0), 5, 0, 0, 0), (5, (.getfield 27), 8, 8, 6, 2), (8, (.iload_n 1), 9, 0, 0, 0), (9, .iaload, 10, 0, 0, 0),
  (10, .iaload, 11, 0, 0, 0), (11, (.istore_n 2), 12, 0, 0, 0), (12, (.aload_n 0), 13, 0, 0, 0), (13, (.getfield 15), 16, 8, 1, 2), (16, (.aload_n 0), 17, 0, 0, 0), (17, (.getfield 27), 20, 8, 6, 2),
  (20, (.iload_n 1), 21, 0, 0, 0), (21, .iaload, 22, 0, 0, 0), (22, .iaload, 23, 0, 0, 0), (23, (.istore_n 3), 24, 0, 0, 0), (24, (.iconst 0), 25, 0, 0, 0), (25, (.istore 4), 27, 0, 0, 0),
  (27, (.iload_n 3), 28, 0, 0, 0), (28, (.ifCond .le 29), 31, 57, 0, 0), (31, (.aload_n 0), 32, 0, 0, 0), (32, (.getfield 46), 35, 8, 15, 2), (35, (.iload 4), 37, 0, 0, 0), (37, (.iload_n 2), 38, 0, 0, 0),
  (38, (.iload_n 3), 39, 0, 0, 0), (39, .idiv, 40, 0, 0, 0), (40, .iastore, 41, 0, 0, 0), (41, (.iload_n 2), 42, 0, 0, 0), (42, (.iload_n 3), 43, 0, 0, 0), (43, .irem, 44, 0, 0, 0),
  (44, (.istore 5), 46, 0, 0, 0), (46, (.iload_n 3), 47, 0, 0, 0), (47, (.istore_n 2), 48, 0, 0, 0), (48, (.iload 5), 50, 0, 0, 0), (50, (.istore_n 3), 51, 0, 0, 0), (51, (.iinc 4 1), 54, 0, 0, 0),
  (54, (.goto (-27)), 57, 27, 0, 0), (57, (.iload 4), 59, 0, 0, 0), (59, .ireturn, 60, 0, 0, 0)]
set_option maxRecDepth 100000 in
/-- M.term(II)I -/
noncomputable def ew_cd_191 : List ew_Ent := [(0, (.aload_n 0), 1, 0, 0, 0), (1, (.iload_n 1), 2, 0, 0, 0), (2, (.invokevirtual 110), 5, 156, 2, 1), (5, (.ifCond .eq 29), 8, 34, 0, 0), (8, (.iload_n 2), 9, 0, 0, 0), (9, .i2l, 10, 0, 0, 0),
  (10, (.lconst 0), 11, 1, 0, 0), (11, (.aload_n 0), 12, 0, 0, 0), (12, (.iload_n 1), 13, 0, 0, 0), (13, (.invokevirtual 208), 16, 190, 2, 1), (16, (.iconst 1), 17, 0, 0, 1), (17, .isub, 18, 0, 0, 0),
  (18, .i2l, 19, 0, 0, 0), (19, (.invokestatic 80), 22, 150, 3, 0), (22, (.ifCond .eq 12), 25, 34, 0, 0), (25, (.aload_n 0), 26, 0, 0, 0), (26, (.getfield 46), 29, 8, 15, 2), (29, (.iload_n 2), 30, 0, 0, 0),
  (30, .iaload, 31, 0, 0, 0), (31, (.goto 4), 34, 35, 0, 0), (34, (.iconst (-1)), 35, 0, 0, -1), (35, .ireturn, 36, 0, 0, 0)]
set_option maxRecDepth 100000 in
/-- M.convergent(III)J -/
noncomputable def ew_cd_192 : List ew_Ent := [(0, (.aload_n 0), 1, 0, 0, 0), (1, (.iload_n 1), 2, 0, 0, 0), (2, (.invokevirtual 110), 5, 156, 2, 1), (5, (.ifCond .eq 30), 8, 35, 0, 0), (8, (.iload_n 2), 9, 0, 0, 0), (9, .i2l, 10, 0, 0, 0),
  (10, (.lconst 0), 11, 1, 0, 0), (11, (.aload_n 0), 12, 0, 0, 0), (12, (.iload_n 1), 13, 0, 0, 0), (13, (.invokevirtual 208), 16, 190, 2, 1), (16, (.iconst 1), 17, 0, 0, 1), (17, .isub, 18, 0, 0, 0),
  (18, .i2l, 19, 0, 0, 0), (19, (.invokestatic 80), 22, 150, 3, 0), (22, (.ifCond .eq 13), 25, 35, 0, 0), (25, (.iload_n 3), 26, 0, 0, 0), (26, .i2l, 27, 0, 0, 0), (27, (.lconst 0), 28, 1, 0, 0),
  (28, (.lconst 1), 29, 1, 0, 1), (29, (.invokestatic 80), 32, 150, 3, 0), (32, (.ifCond .ne 7), 35, 39, 0, 0), (35, (.ldc2_w 139), 38, 1, 0, -9223372036854775808), (38, .lreturn, 39, 0, 0, 0), (39, (.aload_n 0), 40, 0, 0, 0),
  (40, (.getfield 46), 43, 8, 15, 2), (43, (.iload_n 2), 44, 0, 0, 0), (44, .iaload, 45, 0, 0, 0), (45, .i2l, 46, 0, 0, 0), (46, (.lstore 4), 48, 0, 0, 0), (48, (.lconst 1), 49, 1, 0, 1),
  (49, (.lstore 6), 51, 0, 0, 0), (51, (.iload_n 2), 52, 0, 0, 0), (52, (.iconst 1), 53, 0, 0, 1), (53, .isub, 54, 0, 0, 0), (54, (.istore 8), 56, 0, 0, 0), (56, (.iload 8), 58, 0, 0, 0),
  (58, (.ifCond .lt 33), 61, 91, 0, 0), (61, (.lload 4), 63, 0, 0, 0), (63, (.lstore 9), 65, 0, 0, 0), (65, (.aload_n 0), 66, 0, 0, 0), (66, (.getfield 46), 69, 8, 15, 2), (69, (.iload 8), 71, 0, 0, 0),
  (71, .iaload, 72, 0, 0, 0), (72, .i2l, 73, 0, 0, 0), (73, (.lload 4), 75, 0, 0, 0), (75, .lmul, 76, 0, 0, 0), (76, (.lload 6), 78, 0, 0, 0), (78, .ladd, 79, 0, 0, 0),
  (79, (.lstore 4), 81, 0, 0, 0), (81, (.lload 9), 83, 0, 0, 0), (83, (.lstore 6), 85, 0, 0, 0), (85, (.iinc 8 (-1)), 88, 0, 0, 0), (88, (.goto (-32)), 91, 56, 0, 0), (91, (.iload_n 3), 92, 0, 0, 0),
  (92, (.ifCond .ne 8), 95, 100, 0, 0), (95, (.lload 4), 97, 0, 0, 0), (97, (.goto 5), 100, 102, 0, 0), (100, (.lload 6), 102, 0, 0, 0), (102, .lreturn, 103, 0, 0, 0)]
set_option maxRecDepth 100000 in
/-- M.nearest(II)I -/
noncomputable def ew_cd_193 : List ew_Ent := [(0, (.aload_n 0), 1, 0, 0, 0), (1, (.iload_n 1), 2, 0, 0, 0), (2, (.invokevirtual 110), 5, 156, 2, 1), (5, (.ifCond .ne 5), 8, 10, 0, 0), (8, (.iconst (-1)), 9, 0, 0, -1), (9, .ireturn, 10, 0, 0, 0),
  (10, (.iload_n 2), 11, 0, 0, 0), (11, .i2l, 12, 0, 0, 0), (12, (.lconst 1), 13, 1, 0, 1), (13, (.ldc2_w 141), 16, 1, 0, 1000), (16, (.invokestatic 80), 19, 150, 3, 0), (19, (.ifCond .ne 6), 22, 25, 0, 0),
  (22, (.bipush (-2)), 24, 0, 0, -2), (24, .ireturn, 25, 0, 0, 0), (25, (.aload_n 0), 26, 0, 0, 0), (26, (.getfield 15), 29, 8, 1, 2), (29, (.aload_n 0), 30, 0, 0, 0), (30, (.getfield 27), 33, 8, 6, 2),
  (33, (.iload_n 1), 34, 0, 0, 0), (34, .iaload, 35, 0, 0, 0), (35, .iaload, 36, 0, 0, 0), (36, .i2l, 37, 0, 0, 0), (37, (.lstore_n 3), 38, 0, 0, 0), (38, (.iconst 1), 39, 0, 0, 1),
  (39, (.istore 5), 41, 0, 0, 0), (41, (.ldc2_w 211), 44, 1, 0, -1), (44, (.lstore 6), 46, 0, 0, 0), (46, (.iconst 1), 47, 0, 0, 1), (47, (.istore 8), 49, 0, 0, 0), (49, (.iload 8), 51, 0, 0, 0),
  (51, (.iload_n 2), 52, 0, 0, 0), (52, (.if_icmp .gt 71), 55, 123, 0, 0), (55, (.aload_n 0), 56, 0, 0, 0), (56, (.getfield 18), 59, 8, 2, 2), (59, (.aload_n 0), 60, 0, 0, 0), (60, (.getfield 27), 63, 8, 6, 2),
  (63, (.iload_n 1), 64, 0, 0, 0), (64, .iaload, 65, 0, 0, 0), (65, .iaload, 66, 0, 0, 0), (66, .i2l, 67, 0, 0, 0), (67, (.iload 8), 69, 0, 0, 0), (69, .i2l, 70, 0, 0, 0),
  (70, .lmul, 71, 0, 0, 0), (71, (.lload_n 3), 72, 0, 0, 0), (72, .lrem, 73, 0, 0, 0), (73, (.lstore 9), 75, 0, 0, 0), (75, (.lload 9), 77, 0, 0, 0), (77, (.lload_n 3), 78, 0, 0, 0),
  (78, (.lload 9), 80, 0, 0, 0), (80, .lsub, 81, 0, 0, 0), (81, (.invokestatic 213), 84, 2, 2, 0), (84, (.lstore 11), 86, 0, 0, 0), (86, (.lload 6), 88, 0, 0, 0), (88, (.lconst 0), 89, 1, 0, 0),
  (89, .lcmp, 90, 0, 0, 0), (90, (.ifCond .lt 19), 93, 109, 0, 0), (93, (.lload 11), 95, 0, 0, 0), (95, (.iload 5), 97, 0, 0, 0), (97, .i2l, 98, 0, 0, 0), (98, .lmul, 99, 0, 0, 0),
  (99, (.lload 6), 101, 0, 0, 0), (101, (.iload 8), 103, 0, 0, 0), (103, .i2l, 104, 0, 0, 0), (104, .lmul, 105, 0, 0, 0), (105, .lcmp, 106, 0, 0, 0), (106, (.ifCond .ge 11), 109, 117, 0, 0),
  (109, (.lload 11), 111, 0, 0, 0), (111, (.lstore 6), 113, 0, 0, 0), (113, (.iload 8), 115, 0, 0, 0), (115, (.istore 5), 117, 0, 0, 0), (117, (.iinc 8 1), 120, 0, 0, 0), (120, (.goto (-71)), 123, 49, 0, 0),
  (123, (.iload 5), 125, 0, 0, 0), (125, .ireturn, 126, 0, 0, 0)]
set_option maxRecDepth 100000 in
/-- M.date(II)J -/
noncomputable def ew_cd_194 : List ew_Ent := [(0, (.iload_n 1), 1, 0, 0, 0), (1, (.invokestatic 133), 4, 164, 1, 0), (4, (.ifCond .eq 15), 7, 19, 0, 0), (7, (.iload_n 2), 8, 0, 0, 0), (8, .i2l, 9, 0, 0, 0), (9, (.lconst 0), 10, 1, 0, 0),
  (10, (.ldc2_w 182), 13, 1, 0, 3), (13, (.invokestatic 80), 16, 150, 3, 0), (16, (.ifCond .ne 7), 19, 23, 0, 0), (19, (.ldc2_w 139), 22, 1, 0, -9223372036854775808), (22, .lreturn, 23, 0, 0, 0), (23, (.aload_n 0), 24, 0, 0, 0),
  (24, (.iload_n 1), 25, 0, 0, 0), (25, (.invokevirtual 215), 28, 195, 2, 1), (28, (.lstore_n 3), 29, 0, 0, 0), (29, (.iload_n 2), 30, 0, 0, 0), (30, (.iconst 2), 31, 0, 0, 2), (31, (.if_icmp .ge 32), 34, 63, 0, 0),
  (34, (.iload_n 2), 35, 0, 0, 0), (35, (.ifCond .ne 7), 38, 42, 0, 0), (38, (.lload_n 3), 39, 0, 0, 0), (39, (.goto 23), 42, 62, 0, 0), (42, (.aload_n 0), 43, 0, 0, 0), (43, (.getfield 34), 46, 8, 9, 2),
  (46, (.iconst 3), 47, 0, 0, 3), (47, .iaload, 48, 0, 0, 0), (48, .i2l, 49, 0, 0, 0), (49, (.iload_n 1), 50, 0, 0, 0), (50, .i2l, 51, 0, 0, 0), (51, .lmul, 52, 0, 0, 0),
  (52, (.aload_n 0), 53, 0, 0, 0), (53, (.getfield 34), 56, 8, 9, 2), (56, (.iconst 4), 57, 0, 0, 4), (57, .iaload, 58, 0, 0, 0), (58, .i2l, 59, 0, 0, 0), (59, (.lload_n 3), 60, 0, 0, 0),
  (60, .lmul, 61, 0, 0, 0), (61, .lsub, 62, 0, 0, 0), (62, .lreturn, 63, 0, 0, 0), (63, (.lload_n 3), 64, 0, 0, 0), (64, (.lconst 0), 65, 1, 0, 0), (65, .lcmp, 66, 0, 0, 0),
  (66, (.ifCond .ge 7), 69, 73, 0, 0), (69, (.ldc2_w 139), 72, 1, 0, -9223372036854775808), (72, .lreturn, 73, 0, 0, 0), (73, (.ldc2_w 219), 76, 1, 0, 365), (76, (.aload_n 0), 77, 0, 0, 0), (77, (.getfield 34), 80, 8, 9, 2),
  (80, (.iconst 5), 81, 0, 0, 5), (81, .iaload, 82, 0, 0, 0), (82, .i2l, 83, 0, 0, 0), (83, .lmul, 84, 0, 0, 0), (84, (.lconst 1), 85, 1, 0, 1), (85, .ladd, 86, 0, 0, 0),
  (86, (.lstore 5), 88, 0, 0, 0), (88, (.lload_n 3), 89, 0, 0, 0), (89, (.lload 5), 91, 0, 0, 0), (91, .lrem, 92, 0, 0, 0), (92, (.lstore 7), 94, 0, 0, 0), (94, (.lload 7), 96, 0, 0, 0),
  (96, (.ldc2_w 221), 99, 1, 0, 366), (99, .lcmp, 100, 0, 0, 0), (100, (.ifCond .ge 7), 103, 107, 0, 0), (103, (.lconst 0), 104, 1, 0, 0), (104, (.goto 15), 107, 119, 0, 0), (107, (.lconst 1), 108, 1, 0, 1),
  (108, (.lload 7), 110, 0, 0, 0), (110, (.ldc2_w 221), 113, 1, 0, 366), (113, .lsub, 114, 0, 0, 0), (114, (.ldc2_w 219), 117, 1, 0, 365), (117, .ldiv, 118, 0, 0, 0), (118, .ladd, 119, 0, 0, 0),
  (119, (.lstore 9), 121, 0, 0, 0), (121, (.iload_n 2), 122, 0, 0, 0), (122, (.iconst 2), 123, 0, 0, 2), (123, (.if_icmp .ne 19), 126, 142, 0, 0), (126, (.lload_n 3), 127, 0, 0, 0), (127, (.lload 5), 129, 0, 0, 0),
  (129, .ldiv, 130, 0, 0, 0), (130, (.aload_n 0), 131, 0, 0, 0), (131, (.getfield 34), 134, 8, 9, 2), (134, (.iconst 5), 135, 0, 0, 5), (135, .iaload, 136, 0, 0, 0), (136, .i2l, 137, 0, 0, 0),
  (137, .lmul, 138, 0, 0, 0), (138, (.lload 9), 140, 0, 0, 0), (140, .ladd, 141, 0, 0, 0), (141, .lreturn, 142, 0, 0, 0), (142, (.lload 7), 144, 0, 0, 0), (144, (.ldc2_w 221), 147, 1, 0, 366),
  (147, .lcmp, 148, 0, 0, 0), (148, (.ifCond .ge 8), 151, 156, 0, 0), (151, (.lload 7), 153, 0, 0, 0), (153, (.goto 13), 156, 166, 0, 0), (156, (.lload 7), 158, 0, 0, 0), (158, (.ldc2_w 221), 161, 1, 0, 366),
  (161, .lsub, 162, 0, 0, 0), (162, (.ldc2_w 219), 165, 1, 0, 365), (165, .lrem, 166, 0, 0, 0), (166, .lreturn, 167, 0, 0, 0)]
set_option maxRecDepth 100000 in
/-- M.dayOf(I)J -/
noncomputable def ew_cd_195 : List ew_Ent := [(0, (.aload_n 0), 1, 0, 0, 0), (1, (.getfield 34), 4, 8, 9, 2), (4, (.iconst 3), 5, 0, 0, 3), (5, .iaload, 6, 0, 0, 0), (6, .i2l, 7, 0, 0, 0), (7, (.iload_n 1), 8, 0, 0, 0),
  (8, .i2l, 9, 0, 0, 0), (9, .lmul, 10, 0, 0, 0), (10, (.aload_n 0), 11, 0, 0, 0), (11, (.getfield 34), 14, 8, 9, 2), (14, (.iconst 4), 15, 0, 0, 4), (15, .iaload, 16, 0, 0, 0),
  (16, .i2l, 17, 0, 0, 0), (17, (.invokestatic 114), 20, 161, 2, 0), (20, .lreturn, 21, 0, 0, 0)]
set_option maxRecDepth 100000 in
/-- M.month(I)I -/
noncomputable def ew_cd_196 : List ew_Ent := [(0, (.iload_n 1), 1, 0, 0, 0), (1, .i2l, 2, 0, 0, 0), (2, (.lconst 0), 3, 1, 0, 0), (3, (.ldc2_w 223), 6, 1, 0, 1000000), (6, (.invokestatic 80), 9, 150, 3, 0), (9, (.ifCond .ne 6), 12, 15, 0, 0),
  (12, (.bipush (-2)), 14, 0, 0, -2), (14, .ireturn, 15, 0, 0, 0), (15, (.aload_n 0), 16, 0, 0, 0), (16, (.getfield 34), 19, 8, 9, 2), (19, (.iconst 4), 20, 0, 0, 4), (20, .iaload, 21, 0, 0, 0),
  (21, .i2l, 22, 0, 0, 0), (22, (.iload_n 1), 23, 0, 0, 0), (23, .i2l, 24, 0, 0, 0), (24, .lmul, 25, 0, 0, 0), (25, (.aload_n 0), 26, 0, 0, 0), (26, (.getfield 34), 29, 8, 9, 2),
  (29, (.iconst 3), 30, 0, 0, 3), (30, .iaload, 31, 0, 0, 0), (31, .i2l, 32, 0, 0, 0), (32, .ladd, 33, 0, 0, 0), (33, (.lconst 1), 34, 1, 0, 1), (34, .lsub, 35, 0, 0, 0),
  (35, (.aload_n 0), 36, 0, 0, 0), (36, (.getfield 34), 39, 8, 9, 2), (39, (.iconst 3), 40, 0, 0, 3), (40, .iaload, 41, 0, 0, 0), (41, .i2l, 42, 0, 0, 0), (42, .ldiv, 43, 0, 0, 0),
  (43, (.lstore_n 2), 44, 0, 0, 0), (44, (.lload_n 2), 45, 0, 0, 0), (45, (.ldc2_w 86), 48, 1, 0, 100000), (48, .lcmp, 49, 0, 0, 0), (49, (.ifCond .le 8), 52, 57, 0, 0), (52, (.bipush (-5)), 54, 0, 0, -5),
  (54, (.goto 5), 57, 59, 0, 0), (57, (.lload_n 2), 58, 0, 0, 0), (58, .l2i, 59, 0, 0, 0), (59, .ireturn, 60, 0, 0, 0)]
set_option maxRecDepth 100000 in
/-- M.angle(II)J -/
noncomputable def ew_cd_197 : List ew_Ent := [(0, (.aload_n 0), 1, 0, 0, 0), (1, (.iload_n 1), 2, 0, 0, 0), (2, (.invokevirtual 110), 5, 156, 2, 1), (5, (.ifCond .eq 40), 8, 45, 0, 0), (8, (.iload_n 2), 9, 0, 0, 0), (9, (.invokestatic 133), 12, 164, 1, 0),
  (12, (.ifCond .eq 33), 15, 45, 0, 0), (15, (.ldc2_w 225), 18, 4, 0, 4645040803167600640), (18, (.aload_n 0), 19, 0, 0, 0), (19, (.iload_n 1), 20, 0, 0, 0), (20, (.iload_n 2), 21, 0, 0, 0), (21, (.invokevirtual 126), 24, 158, 3, 1),
  (24, .i2d, 25, 0, 0, 0), (25, .dmul, 26, 0, 0, 0), (26, (.aload_n 0), 27, 0, 0, 0), (27, (.getfield 15), 30, 8, 1, 2), (30, (.aload_n 0), 31, 0, 0, 0), (31, (.getfield 27), 34, 8, 6, 2),
  (34, (.iload_n 1), 35, 0, 0, 0), (35, .iaload, 36, 0, 0, 0), (36, .iaload, 37, 0, 0, 0), (37, .i2d, 38, 0, 0, 0), (38, .ddiv, 39, 0, 0, 0), (39, (.invokestatic 227), 42, 6, 1, 0),
  (42, (.goto 6), 45, 48, 0, 0), (45, (.ldc2_w 139), 48, 1, 0, -9223372036854775808), (48, .lreturn, 49, 0, 0, 0)]
set_option maxRecDepth 100000 in
/-- M.size(II)I -/
noncomputable def ew_cd_198 : List ew_Ent := [(0, (.iload_n 1), 1, 0, 0, 0), (1, (.invokestatic 133), 4, 164, 1, 0), (4, (.ifCond .eq 13), 7, 17, 0, 0), (7, (.iload_n 2), 8, 0, 0, 0), (8, .i2l, 9, 0, 0, 0), (9, (.lconst 0), 10, 1, 0, 0),
  (10, (.lconst 1), 11, 1, 0, 1), (11, (.invokestatic 80), 14, 150, 3, 0), (14, (.ifCond .ne 6), 17, 20, 0, 0), (17, (.bipush (-2)), 19, 0, 0, -2), (19, .ireturn, 20, 0, 0, 0), (20, (.aload_n 0), 21, 0, 0, 0),
  (21, (.getfield 77), 24, 8, 5, 0), (24, (.ifCond .ne 6), 27, 30, 0, 0), (27, (.bipush (-3)), 29, 0, 0, -3), (29, .ireturn, 30, 0, 0, 0), (30, (.iload_n 2), 31, 0, 0, 0), (31, (.ifCond .ne 14), 34, 45, 0, 0),
  (34, (.aload_n 0), 35, 0, 0, 0), (35, (.iload_n 1), 36, 0, 0, 0), (36, (.invokevirtual 233), 39, 199, 2, 1), (39, (.invokestatic 237), 42, 8, 1, 0), (42, (.goto 12), 45, 54, 0, 0), (45, (.aload_n 0), 46, 0, 0, 0),
  (46, (.iload_n 1), 47, 0, 0, 0), (47, (.invokevirtual 233), 50, 199, 2, 1), (50, (.ldc 243), 52, 3, 0, 1148846080), (52, .fmul, 53, 0, 0, 0), (53, .f2i, 54, 0, 0, 0), (54, .ireturn, 55, 0, 0, 0)]
set_option maxRecDepth 100000 in
/-- M.sizeOf(I)F -/
noncomputable def ew_cd_199 : List ew_Ent := [(0, (.aload_n 0), 1, 0, 0, 0), (1, (.iload_n 1), 2, 0, 0, 0), (2, (.invokevirtual 173), 5, 171, 2, 1), (5, (.ifCond .ne 7), 8, 12, 0, 0), (8, (.fconst 0), 9, 3, 0, 0), (9, (.goto 26), 12, 35, 0, 0),
  (12, (.aload_n 0), 13, 0, 0, 0), (13, (.getfield 34), 16, 8, 9, 2), (16, (.iconst 0), 17, 0, 0, 0), (17, .iaload, 18, 0, 0, 0), (18, (.aload_n 0), 19, 0, 0, 0), (19, (.iload_n 1), 20, 0, 0, 0),
  (20, (.invokevirtual 170), 23, 172, 2, 1), (23, .isub, 24, 0, 0, 0), (24, .i2f, 25, 0, 0, 0), (25, (.aload_n 0), 26, 0, 0, 0), (26, (.getfield 34), 29, 8, 9, 2), (29, (.iconst 0), 30, 0, 0, 0),
  (30, .iaload, 31, 0, 0, 0), (31, (.iconst 1), 32, 0, 0, 1), (32, .iadd, 33, 0, 0, 0), (33, .i2f, 34, 0, 0, 0), (34, .fdiv, 35, 0, 0, 0), (35, .freturn, 36, 0, 0, 0)]
set_option maxRecDepth 100000 in
/-- M.most(IIIII)I -/
noncomputable def ew_cd_200 : List ew_Ent := [(0, (.aload_n 0), 1, 0, 0, 0), (1, (.getfield 49), 4, 8, 16, 2), (4, (.iconst 0), 5, 0, 0, 0), (5, (.iload_n 2), 6, 0, 0, 0), (6, .iastore, 7, 0, 0, 0), (7, (.aload_n 0), 8, 0, 0, 0),
  (8, (.getfield 49), 11, 8, 16, 2), (11, (.iconst 1), 12, 0, 0, 1), (12, (.iload_n 3), 13, 0, 0, 0), (13, .iastore, 14, 0, 0, 0), (14, (.aload_n 0), 15, 0, 0, 0), (15, (.getfield 49), 18, 8, 16, 2),
  (18, (.iconst 2), 19, 0, 0, 2), (19, (.iload 4), 21, 0, 0, 0), (21, .iastore, 22, 0, 0, 0), (22, (.aload_n 0), 23, 0, 0, 0), (23, (.getfield 49), 26, 8, 16, 2), (26, (.iconst 3), 27, 0, 0, 3),
  (27, (.iload 5), 29, 0, 0, 0), (29, .iastore, 30, 0, 0, 0), (30, (.iload_n 1), 31, 0, 0, 0), (31, .i2l, 32, 0, 0, 0), (32, (.lconst 1), 33, 1, 0, 1), (33, (.ldc2_w 96), 36, 1, 0, 4),
  (36, (.invokestatic 80), 39, 150, 3, 0), (39, (.istore 6), 41, 0, 0, 0), (41, (.iconst 0), 42, 0, 0, 0), (42, (.istore 7), 44, 0, 0, 0), (44, (.iload 7), 46, 0, 0, 0), (46, (.iload_n 1), 47, 0, 0, 0),
  (47, (.if_icmp .ge 26), 50, 73, 0, 0), (50, (.iload 6), 52, 0, 0, 0), (52, (.ifCond .eq 21), 55, 73, 0, 0), (55, (.aload_n 0), 56, 0, 0, 0), (56, (.getfield 49), 59, 8, 16, 2), (59, (.iload 7), 61, 0, 0, 0),
  (61, .iaload, 62, 0, 0, 0), (62, (.invokestatic 133), 65, 164, 1, 0), (65, (.istore 6), 67, 0, 0, 0), (67, (.iinc 7 1), 70, 0, 0, 0), (70, (.goto (-26)), 73, 44, 0, 0), (73, (.iload 6), 75, 0, 0, 0),
  (75, (.ifCond .ne 6), 78, 81, 0, 0), (78, (.bipush (-2)), 80, 0, 0, -2), (80, .ireturn, 81, 0, 0, 0), (81, (.aload_n 0), 82, 0, 0, 0), (82, (.getfield 77), 85, 8, 5, 0), (85, (.ifCond .ne 6), 88, 91, 0, 0),
  (88, (.bipush (-3)), 90, 0, 0, -3), (90, .ireturn, 91, 0, 0, 0), (91, (.iconst 0), 92, 0, 0, 0), (92, (.istore 7), 94, 0, 0, 0), (94, (.iconst 1), 95, 0, 0, 1), (95, (.istore 8), 97, 0, 0, 0),
  (97, (.iload 8), 99, 0, 0, 0), (99, (.iload_n 1), 100, 0, 0, 0), (100, (.if_icmp .ge 44), 103, 144, 0, 0), (103, (.aload_n 0), 104, 0, 0, 0), (104, (.aload_n 0), 105, 0, 0, 0), (105, (.getfield 49), 108, 8, 16, 2),
  (108, (.iload 8), 110, 0, 0, 0), (110, .iaload, 111, 0, 0, 0), (111, (.invokevirtual 233), 114, 199, 2, 1), (114, (.aload_n 0), 115, 0, 0, 0), (115, (.aload_n 0), 116, 0, 0, 0), (116, (.getfield 49), 119, 8, 16, 2),
  (119, (.iload 7), 121, 0, 0, 0), (121, .iaload, 122, 0, 0, 0), (122, (.invokevirtual 233), 125, 199, 2, 1), (125, (.fcmp .l), 126, 0, 0, 0), (126, (.ifCond .le 8), 129, 134, 0, 0), (129, (.iload 8), 131, 0, 0, 0),
  (131, (.goto 5), 134, 136, 0, 0), (134, (.iload 7), 136, 0, 0, 0), (136, (.istore 7), 138, 0, 0, 0), (138, (.iinc 8 1), 141, 0, 0, 0), (141, (.goto (-44)), 144, 97, 0, 0), (144, (.aload_n 0), 145, 0, 0, 0),
  (145, (.getfield 49), 148, 8, 16, 2), (148, (.iload 7), 150, 0, 0, 0), (150, .iaload, 151, 0, 0, 0), (151, (.ldc 184), 153, 0, 0, 100000), (153, .iadd, 154, 0, 0, 0), (154, .ireturn, 155, 0, 0, 0)]
set_option maxRecDepth 100000 in
/-- M.period(I)J -/
noncomputable def ew_cd_201 : List ew_Ent := [(0, (.aload_n 0), 1, 0, 0, 0), (1, (.iload_n 1), 2, 0, 0, 0), (2, (.invokevirtual 110), 5, 156, 2, 1), (5, (.ifCond .eq 19), 8, 24, 0, 0), (8, (.aload_n 0), 9, 0, 0, 0), (9, (.iload_n 1), 10, 0, 0, 0),
  (10, (.invokevirtual 247), 13, 202, 2, 1), (13, (.ifCond .ne 11), 16, 24, 0, 0), (16, (.aload_n 0), 17, 0, 0, 0), (17, (.iload_n 1), 18, 0, 0, 0), (18, (.invokevirtual 250), 21, 203, 2, 1), (21, (.goto 6), 24, 27, 0, 0),
  (24, (.ldc2_w 139), 27, 1, 0, -9223372036854775808), (27, .lreturn, 28, 0, 0, 0)]
set_option maxRecDepth 100000 in
/-- M.isGeared(I)Z -/
noncomputable def ew_cd_202 : List ew_Ent := [(0, (.aload_n 0), 1, 0, 0, 0), (1, (.getfield 9), 4, 8, 0, 2), (4, (.aload_n 0), 5, 0, 0, 0), (5, (.getfield 27), 8, 8, 6, 2), (8, (.iload_n 1), 9, 0, 0, 0), (9, .iaload, 10, 0, 0, 0),
  (10, .iaload, 11, 0, 0, 0), (11, (.iconst 4), 12, 0, 0, 4), (12, (.if_icmp .ne 7), 15, 19, 0, 0), (15, (.iconst 1), 16, 0, 0, 1), (16, (.goto 4), 19, 20, 0, 0), (19, (.iconst 0), 20, 0, 0, 0),
  (20, .ireturn, 21, 0, 1, 0)]
set_option maxRecDepth 100000 in
/-- M.periodOf(I)J -/
noncomputable def ew_cd_203 : List ew_Ent := [(0, (.aload_n 0), 1, 0, 0, 0), (1, (.getfield 27), 4, 8, 6, 2), (4, (.iload_n 1), 5, 0, 0, 0), (5, .iaload, 6, 0, 0, 0), (6, (.istore_n 2), 7, 0, 0, 0), (7, (.aload_n 0), 8, 0, 0, 0),
  (8, (.getfield 9), 11, 8, 0, 2), (11, (.iload_n 2), 12, 0, 0, 0), (12, .iaload, 13, 0, 0, 0), (13, (.iconst 3), 14, 0, 0, 3), (14, (.if_icmp .ne 17), 17, 31, 0, 0), (17, (.ldc2_w 88), 20, 1, 0, 2),
  (20, (.aload_n 0), 21, 0, 0, 0), (21, (.getfield 18), 24, 8, 2, 2), (24, (.iload_n 2), 25, 0, 0, 0), (25, .iaload, 26, 0, 0, 0), (26, .i2l, 27, 0, 0, 0), (27, .lmul, 28, 0, 0, 0),
  (28, (.goto 10), 31, 38, 0, 0), (31, (.aload_n 0), 32, 0, 0, 0), (32, (.getfield 18), 35, 8, 2, 2), (35, (.iload_n 2), 36, 0, 0, 0), (36, .iaload, 37, 0, 0, 0), (37, .i2l, 38, 0, 0, 0),
  (38, (.lstore_n 3), 39, 0, 0, 0), (39, (.aload_n 0), 40, 0, 0, 0), (40, (.getfield 15), 43, 8, 1, 2), (43, (.iload_n 2), 44, 0, 0, 0), (44, .iaload, 45, 0, 0, 0), (45, .i2l, 46, 0, 0, 0),
  (46, (.lload_n 3), 47, 0, 0, 0), (47, (.aload_n 0), 48, 0, 0, 0), (48, (.getfield 15), 51, 8, 1, 2), (51, (.iload_n 2), 52, 0, 0, 0), (52, .iaload, 53, 0, 0, 0), (53, .i2l, 54, 0, 0, 0),
  (54, (.invokestatic 244), 57, 204, 2, 0), (57, .ldiv, 58, 0, 0, 0), (58, (.lstore 5), 60, 0, 0, 0), (60, (.aload_n 0), 61, 0, 0, 0), (61, (.getfield 9), 64, 8, 0, 2), (64, (.iload_n 2), 65, 0, 0, 0),
  (65, .iaload, 66, 0, 0, 0), (66, (.iconst 2), 67, 0, 0, 2), (67, (.if_icmp .ne 19), 70, 86, 0, 0), (70, (.lload 5), 72, 0, 0, 0), (72, (.lconst 1), 73, 1, 0, 1), (73, .lcmp, 74, 0, 0, 0),
  (74, (.ifCond .le 12), 77, 86, 0, 0), (77, (.ldc2_w 88), 80, 1, 0, 2), (80, (.lload 5), 82, 0, 0, 0), (82, .lmul, 83, 0, 0, 0), (83, (.goto 5), 86, 88, 0, 0), (86, (.lload 5), 88, 0, 0, 0),
  (88, .lreturn, 89, 0, 0, 0)]
set_option maxRecDepth 100000 in
/-- M.divisor(JJ)J -/
noncomputable def ew_cd_204 : List ew_Ent := [(0, (.lload_n 0), 1, 0, 0, 0), (1, (.lstore 4), 3, 0, 0, 0), (3, (.lload_n 2), 4, 0, 0, 0), (4, (.lstore 6), 6, 0, 0, 0), (6, (.lload 6), 8, 0, 0, 0), (8, (.lconst 0), 9, 1, 0, 0),
  (9, .lcmp, 10, 0, 0, 0), (10, (.ifCond .eq 21), 13, 31, 0, 0), (13, (.lload 4), 15, 0, 0, 0), (15, (.lload 6), 17, 0, 0, 0), (17, .lrem, 18, 0, 0, 0), (18, (.lstore 8), 20, 0, 0, 0),
  (20, (.lload 6), 22, 0, 0, 0), (22, (.lstore 4), 24, 0, 0, 0), (24, (.lload 8), 26, 0, 0, 0), (26, (.lstore 6), 28, 0, 0, 0), (28, (.goto (-22)), 31, 6, 0, 0), (31, (.lload 4), 33, 0, 0, 0),
  (33, .lreturn, 34, 0, 0, 0)]
set_option maxRecDepth 100000 in
/-- M.allRound(I)J -/
noncomputable def ew_cd_205 : List ew_Ent := [(0, (.lconst 1), 1, 1, 0, 1), (1, (.lstore_n 2), 2, 0, 0, 0), (2, (.iconst 1), 3, 0, 0, 1), (3, (.istore 4), 5, 0, 0, 0), (5, (.iconst 0), 6, 0, 0, 0), (6, (.istore 5), 8, 0, 0, 0),
  (8, (.iload 5), 10, 0, 0, 0), (10, (.bipush 32), 12, 0, 0, 32), (12, (.if_icmp .ge 84), 15, 96, 0, 0), (15, (.iload_n 1), 16, 0, 0, 0), (16, (.iload 5), 18, 0, 0, 0), (18, .iushr, 19, 0, 0, 0),
  (19, (.iconst 1), 20, 0, 0, 1), (20, .iand, 21, 0, 0, 0), (21, (.ifCond .ne 6), 24, 27, 0, 0), (24, (.goto 66), 27, 90, 0, 0), (27, (.aload_n 0), 28, 0, 0, 0), (28, (.iload 5), 30, 0, 0, 0),
  (30, (.invokevirtual 110), 33, 156, 2, 1), (33, (.ifCond .eq 12), 36, 45, 0, 0), (36, (.aload_n 0), 37, 0, 0, 0), (37, (.iload 5), 39, 0, 0, 0), (39, (.invokevirtual 247), 42, 202, 2, 1), (42, (.ifCond .eq 7), 45, 49, 0, 0),
  (45, (.ldc2_w 139), 48, 1, 0, -9223372036854775808), (48, .lreturn, 49, 0, 0, 0), (49, (.aload_n 0), 50, 0, 0, 0), (50, (.iload 5), 52, 0, 0, 0), (52, (.invokevirtual 250), 55, 203, 2, 1), (55, (.lload_n 2), 56, 0, 0, 0),
  (56, (.aload_n 0), 57, 0, 0, 0), (57, (.iload 5), 59, 0, 0, 0), (59, (.invokevirtual 250), 62, 203, 2, 1), (62, (.invokestatic 244), 65, 204, 2, 0), (65, .ldiv, 66, 0, 0, 0), (66, (.lstore 6), 68, 0, 0, 0),
  (68, (.lload_n 2), 69, 0, 0, 0), (69, (.ldc2_w 253), 72, 1, 0, 9223372036854775807), (72, (.lload 6), 74, 0, 0, 0), (74, .ldiv, 75, 0, 0, 0), (75, .lcmp, 76, 0, 0, 0), (76, (.ifCond .le 9), 79, 85, 0, 0),
  (79, (.iconst 0), 80, 0, 0, 0), (80, (.istore 4), 82, 0, 0, 0), (82, (.goto 14), 85, 96, 0, 0), (85, (.lload_n 2), 86, 0, 0, 0), (86, (.lload 6), 88, 0, 0, 0), (88, .lmul, 89, 0, 0, 0),
  (89, (.lstore_n 2), 90, 0, 0, 0), (90, (.iinc 5 1), 93, 0, 0, 0), (93, (.goto (-85)), 96, 8, 0, 0), (96, (.iload 4), 98, 0, 0, 0), (98, (.ifCond .eq 7), 101, 105, 0, 0), (101, (.lload_n 2), 102, 0, 0, 0),
  (102, (.goto 6), 105, 108, 0, 0), (105, (.ldc2_w 139), 108, 1, 0, -9223372036854775808), (108, .lreturn, 109, 0, 0, 0)]
set_option maxRecDepth 100000 in
/-- M.meeting(IIII)I -/
noncomputable def ew_cd_206 : List ew_Ent := [(0, (.aload_n 0), 1, 0, 0, 0), (1, (.iload_n 1), 2, 0, 0, 0), (2, (.invokevirtual 110), 5, 156, 2, 1), (5, (.ifCond .eq 11), 8, 16, 0, 0), (8, (.aload_n 0), 9, 0, 0, 0), (9, (.iload_n 3), 10, 0, 0, 0),
  (10, (.invokevirtual 110), 13, 156, 2, 1), (13, (.ifCond .ne 5), 16, 18, 0, 0), (16, (.iconst (-1)), 17, 0, 0, -1), (17, .ireturn, 18, 0, 0, 0), (18, (.iload_n 2), 19, 0, 0, 0), (19, .i2l, 20, 0, 0, 0),
  (20, (.lconst 0), 21, 1, 0, 0), (21, (.aload_n 0), 22, 0, 0, 0), (22, (.getfield 15), 25, 8, 1, 2), (25, (.aload_n 0), 26, 0, 0, 0), (26, (.getfield 27), 29, 8, 6, 2), (29, (.iload_n 1), 30, 0, 0, 0),
  (30, .iaload, 31, 0, 0, 0), (31, .iaload, 32, 0, 0, 0), (32, (.iconst 1), 33, 0, 0, 1), (33, .isub, 34, 0, 0, 0), (34, .i2l, 35, 0, 0, 0), (35, (.invokestatic 80), 38, 150, 3, 0),
  (38, (.ifCond .eq 27), 41, 65, 0, 0), (41, (.iload 4), 43, 0, 0, 0), (43, .i2l, 44, 0, 0, 0), (44, (.lconst 0), 45, 1, 0, 0), (45, (.aload_n 0), 46, 0, 0, 0), (46, (.getfield 15), 49, 8, 1, 2),
  (49, (.aload_n 0), 50, 0, 0, 0), (50, (.getfield 27), 53, 8, 6, 2), (53, (.iload_n 3), 54, 0, 0, 0), (54, .iaload, 55, 0, 0, 0), (55, .iaload, 56, 0, 0, 0), (56, (.iconst 1), 57, 0, 0, 1),
  (57, .isub, 58, 0, 0, 0), (58, .i2l, 59, 0, 0, 0), (59, (.invokestatic 80), 62, 150, 3, 0), (62, (.ifCond .ne 6), 65, 68, 0, 0), (65, (.bipush (-2)), 67, 0, 0, -2), (67, .ireturn, 68, 0, 0, 0),
  (68, (.iconst 0), 69, 0, 0, 0), (69, (.istore 5), 71, 0, 0, 0), (71, (.iload 5), 73, 0, 0, 0), (73, (.ldc 184), 75, 0, 0, 100000), (75, (.if_icmp .gt 35), 78, 110, 0, 0), (78, (.aload_n 0), 79, 0, 0, 0),
  (79, (.iload_n 1), 80, 0, 0, 0), (80, (.iload 5), 82, 0, 0, 0), (82, (.invokevirtual 126), 85, 158, 3, 1), (85, (.iload_n 2), 86, 0, 0, 0), (86, (.if_icmp .ne 18), 89, 104, 0, 0), (89, (.aload_n 0), 90, 0, 0, 0),
  (90, (.iload_n 3), 91, 0, 0, 0), (91, (.iload 5), 93, 0, 0, 0), (93, (.invokevirtual 126), 96, 158, 3, 1), (96, (.iload 4), 98, 0, 0, 0), (98, (.if_icmp .ne 6), 101, 104, 0, 0), (101, (.iload 5), 103, 0, 0, 0),
  (103, .ireturn, 104, 0, 0, 0), (104, (.iinc 5 1), 107, 0, 0, 0), (107, (.goto (-36)), 110, 71, 0, 0), (110, (.bipush (-5)), 112, 0, 0, -5), (112, .ireturn, 113, 0, 0, 0)]
set_option maxRecDepth 100000 in
/-- M.spell(I)I -/
noncomputable def ew_cd_207 : List ew_Ent := [(0, (.iload_n 1), 1, 0, 0, 0), (1, (.invokestatic 133), 4, 164, 1, 0), (4, (.ifCond .ne 6), 7, 10, 0, 0), (7, (.bipush (-2)), 9, 0, 0, -2), (9, .ireturn, 10, 0, 0, 0), (10, (.aload_n 0), 11, 0, 0, 0),
  (11, (.iload_n 1), 12, 0, 0, 0), (12, (.invokevirtual 265), 15, 208, 2, 1), (15, (.aload_n 0), 16, 0, 0, 0), (16, (.getfield 255), 19, 8, 18, 0), (19, .ireturn, 20, 0, 0, 0)]
set_option maxRecDepth 100000 in
/-- M.prints(I)V -/
noncomputable def ew_cd_208 : List ew_Ent := [(0, (.aload_n 0), 1, 0, 0, 0), (1, (.iconst 0), 2, 0, 0, 0), (2, (.putfield 255), 5, 8, 18, 0), (5, (.iconst 0), 6, 0, 0, 0), (6, (.istore_n 2), 7, 0, 0, 0), (7, (.iload_n 1), 8, 0, 0, 0),
  (8, (.istore_n 3), 9, 0, 0, 0), (9, (.iload_n 3), 10, 0, 0, 0), (10, (.iload_n 1), 11, 0, 0, 0), (11, (.sipush 4000), 14, 0, 0, 4000), (14, .iadd, 15, 0, 0, 0), (15, (.if_icmp .ge 94), 18, 109, 0, 0),
  (18, (.iload_n 3), 19, 0, 0, 0), (19, (.ldc 184), 21, 0, 0, 100000), (21, (.if_icmp .gt 88), 24, 109, 0, 0), (24, (.iload_n 2), 25, 0, 0, 0), (25, (.bipush 12), 27, 0, 0, 12), (27, (.if_icmp .ge 82), 30, 109, 0, 0),
  (30, (.aload_n 0), 31, 0, 0, 0), (31, (.iload_n 3), 32, 0, 0, 0), (32, (.invokevirtual 173), 35, 171, 2, 1), (35, (.istore 4), 37, 0, 0, 0), (37, (.iload 4), 39, 0, 0, 0), (39, (.ifCond .ne 6), 42, 45, 0, 0),
  (42, (.goto 61), 45, 103, 0, 0), (45, (.iload_n 2), 46, 0, 0, 0), (46, (.ifCond .le 9), 49, 55, 0, 0), (49, (.aload_n 0), 50, 0, 0, 0), (50, (.bipush 59), 52, 0, 0, 59), (52, (.invokevirtual 258), 55, 209, 2, 1),
  (55, (.aload_n 0), 56, 0, 0, 0), (56, (.iload_n 3), 57, 0, 0, 0), (57, (.invokevirtual 262), 60, 210, 2, 1), (60, (.aload_n 0), 61, 0, 0, 0), (61, (.iload 4), 63, 0, 0, 0), (63, (.iconst 1), 64, 0, 0, 1),
  (64, (.if_icmp .ne 8), 67, 72, 0, 0), (67, (.bipush 112), 69, 0, 0, 112), (69, (.goto 16), 72, 85, 0, 0), (72, (.iload 4), 74, 0, 0, 0), (74, (.iconst 2), 75, 0, 0, 2), (75, (.if_icmp .ne 8), 78, 83, 0, 0),
  (78, (.bipush 119), 80, 0, 0, 119), (80, (.goto 5), 83, 85, 0, 0), (83, (.bipush 114), 85, 0, 0, 114), (85, (.invokevirtual 258), 88, 209, 2, 1), (88, (.aload_n 0), 89, 0, 0, 0), (89, (.bipush 48), 91, 0, 0, 48),
  (91, (.aload_n 0), 92, 0, 0, 0), (92, (.iload_n 3), 93, 0, 0, 0), (93, (.invokevirtual 176), 96, 176, 2, 1), (96, .iadd, 97, 0, 0, 0), (97, (.invokevirtual 258), 100, 209, 2, 1), (100, (.iinc 2 1), 103, 0, 0, 0),
  (103, (.iinc 3 1), 106, 0, 0, 0), (106, (.goto (-97)), 109, 9, 0, 0), (109, .return_, 110, 0, 0, 0)]
set_option maxRecDepth 100000 in
/-- M.print(I)V -/
noncomputable def ew_cd_209 : List ew_Ent := [(0, (.aload_n 0), 1, 0, 0, 0), (1, (.getfield 52), 4, 8, 17, 2), (4, (.aload_n 0), 5, 0, 0, 0), (5, (.getfield 255), 8, 8, 18, 0), (8, (.iload_n 1), 9, 0, 0, 0), (9, .iastore, 10, 0, 0, 0),
  (10, (.aload_n 0), 11, 0, 0, 0), (11, .dup, 12, 0, 0, 0), (12, (.getfield 255), 15, 8, 18, 0), (15, (.iconst 1), 16, 0, 0, 1), (16, .iadd, 17, 0, 0, 0), (17, (.putfield 255), 20, 8, 18, 0),
  (20, .return_, 21, 0, 0, 0)]
set_option maxRecDepth 100000 in
/-- M.printNumber(I)V -/
noncomputable def ew_cd_210 : List ew_Ent := [(0, (.iload_n 1), 1, 0, 0, 0), (1, (.ifCond .ge 9), 4, 10, 0, 0), (4, (.aload_n 0), 5, 0, 0, 0), (5, (.bipush 45), 7, 0, 0, 45), (7, (.invokevirtual 258), 10, 209, 2, 1), (10, (.iload_n 1), 11, 0, 0, 0),
  (11, (.invokestatic 151), 14, 5, 1, 0), (14, (.istore_n 2), 15, 0, 0, 0), (15, (.iconst 1), 16, 0, 0, 1), (16, (.istore_n 3), 17, 0, 0, 0), (17, (.iload_n 2), 18, 0, 0, 0), (18, (.iload_n 3), 19, 0, 0, 0),
  (19, .idiv, 20, 0, 0, 0), (20, (.bipush 9), 22, 0, 0, 9), (22, (.if_icmp .le 11), 25, 33, 0, 0), (25, (.iload_n 3), 26, 0, 0, 0), (26, (.bipush 10), 28, 0, 0, 10), (28, .imul, 29, 0, 0, 0),
  (29, (.istore_n 3), 30, 0, 0, 0), (30, (.goto (-13)), 33, 17, 0, 0), (33, (.iload_n 3), 34, 0, 0, 0), (34, (.ifCond .le 24), 37, 58, 0, 0), (37, (.aload_n 0), 38, 0, 0, 0), (38, (.bipush 48), 40, 0, 0, 48),
  (40, (.iload_n 2), 41, 0, 0, 0), (41, (.iload_n 3), 42, 0, 0, 0), (42, .idiv, 43, 0, 0, 0), (43, (.bipush 10), 45, 0, 0, 10), (45, .irem, 46, 0, 0, 0), (46, .iadd, 47, 0, 0, 0),
  (47, (.invokevirtual 258), 50, 209, 2, 1), (50, (.iload_n 3), 51, 0, 0, 0), (51, (.bipush 10), 53, 0, 0, 10), (53, .idiv, 54, 0, 0, 0), (54, (.istore_n 3), 55, 0, 0, 0), (55, (.goto (-22)), 58, 33, 0, 0),
  (58, .return_, 59, 0, 0, 0)]
set_option maxRecDepth 100000 in
/-- M.paper(II)I -/
noncomputable def ew_cd_211 : List ew_Ent := [(0, (.iload_n 1), 1, 0, 0, 0), (1, (.invokestatic 133), 4, 164, 1, 0), (4, (.ifCond .ne 6), 7, 10, 0, 0), (7, (.bipush (-2)), 9, 0, 0, -2), (9, .ireturn, 10, 0, 0, 0), (10, (.aload_n 0), 11, 0, 0, 0),
  (11, (.iload_n 1), 12, 0, 0, 0), (12, (.invokevirtual 265), 15, 208, 2, 1), (15, (.iload_n 2), 16, 0, 0, 0), (16, .i2l, 17, 0, 0, 0), (17, (.lconst 0), 18, 1, 0, 0), (18, (.aload_n 0), 19, 0, 0, 0),
  (19, (.getfield 255), 22, 8, 18, 0), (22, (.iconst 1), 23, 0, 0, 1), (23, .isub, 24, 0, 0, 0), (24, .i2l, 25, 0, 0, 0), (25, (.invokestatic 80), 28, 150, 3, 0), (28, (.ifCond .eq 12), 31, 40, 0, 0),
  (31, (.aload_n 0), 32, 0, 0, 0), (32, (.getfield 52), 35, 8, 17, 2), (35, (.iload_n 2), 36, 0, 0, 0), (36, .iaload, 37, 0, 0, 0), (37, (.goto 4), 40, 41, 0, 0), (40, (.iconst (-1)), 41, 0, 0, -1),
  (41, .ireturn, 42, 0, 0, 0)]
set_option maxRecDepth 100000 in
/-- M.gap(III)I -/
noncomputable def ew_cd_212 : List ew_Ent := [(0, (.iload_n 1), 1, 0, 0, 0), (1, (.invokestatic 133), 4, 164, 1, 0), (4, (.ifCond .eq 27), 7, 31, 0, 0), (7, (.iload_n 2), 8, 0, 0, 0), (8, .i2l, 9, 0, 0, 0), (9, (.lconst 1), 10, 1, 0, 1),
  (10, (.ldc2_w 268), 13, 1, 0, 60), (13, (.invokestatic 80), 16, 150, 3, 0), (16, (.ifCond .eq 15), 19, 31, 0, 0), (19, (.iload_n 3), 20, 0, 0, 0), (20, .i2l, 21, 0, 0, 0), (21, (.lconst 0), 22, 1, 0, 0),
  (22, (.ldc2_w 88), 25, 1, 0, 2), (25, (.invokestatic 80), 28, 150, 3, 0), (28, (.ifCond .ne 6), 31, 34, 0, 0), (31, (.bipush (-2)), 33, 0, 0, -2), (33, .ireturn, 34, 0, 0, 0), (34, (.aload_n 0), 35, 0, 0, 0),
  (35, (.iload_n 1), 36, 0, 0, 0), (36, (.iload_n 2), 37, 0, 0, 0), (37, (.invokevirtual 270), 40, 213, 3, 1), (40, (.iload_n 2), 41, 0, 0, 0), (41, (.if_icmp .ge 6), 44, 47, 0, 0), (44, (.bipush (-5)), 46, 0, 0, -5),
  (46, .ireturn, 47, 0, 0, 0), (47, (.aload_n 0), 48, 0, 0, 0), (48, (.getfield 55), 51, 8, 19, 2), (51, (.iconst 0), 52, 0, 0, 0), (52, .iaload, 53, 0, 0, 0), (53, (.istore 4), 55, 0, 0, 0),
  (55, (.aload_n 0), 56, 0, 0, 0), (56, (.getfield 55), 59, 8, 19, 2), (59, (.iconst 0), 60, 0, 0, 0), (60, .iaload, 61, 0, 0, 0), (61, (.istore 5), 63, 0, 0, 0), (63, (.iconst 1), 64, 0, 0, 1),
  (64, (.istore 6), 66, 0, 0, 0), (66, (.iload 6), 68, 0, 0, 0), (68, (.iload_n 2), 69, 0, 0, 0), (69, (.if_icmp .ge 81), 72, 150, 0, 0), (72, (.aload_n 0), 73, 0, 0, 0), (73, (.aload_n 0), 74, 0, 0, 0),
  (74, (.getfield 55), 77, 8, 19, 2), (77, (.iload 6), 79, 0, 0, 0), (79, .iaload, 80, 0, 0, 0), (80, (.iload_n 2), 81, 0, 0, 0), (81, (.invokevirtual 273), 84, 214, 3, 1), (84, (.aload_n 0), 85, 0, 0, 0),
  (85, (.iload 4), 87, 0, 0, 0), (87, (.iload_n 2), 88, 0, 0, 0), (88, (.invokevirtual 273), 91, 214, 3, 1), (91, .isub, 92, 0, 0, 0), (92, (.istore 7), 94, 0, 0, 0), (94, (.iload 7), 96, 0, 0, 0),
  (96, (.ifCond .gt 20), 99, 116, 0, 0), (99, (.iload 7), 101, 0, 0, 0), (101, (.ifCond .ne 25), 104, 126, 0, 0), (104, (.aload_n 0), 105, 0, 0, 0), (105, (.getfield 55), 108, 8, 19, 2), (108, (.iload 6), 110, 0, 0, 0),
  (110, .iaload, 111, 0, 0, 0), (111, (.iload 4), 113, 0, 0, 0), (113, (.if_icmp .ge 13), 116, 126, 0, 0), (116, (.aload_n 0), 117, 0, 0, 0), (117, (.getfield 55), 120, 8, 19, 2), (120, (.iload 6), 122, 0, 0, 0),
  (122, .iaload, 123, 0, 0, 0), (123, (.goto 5), 126, 128, 0, 0), (126, (.iload 4), 128, 0, 0, 0), (128, (.istore 4), 130, 0, 0, 0), (130, (.iload 5), 132, 0, 0, 0), (132, (.aload_n 0), 133, 0, 0, 0),
  (133, (.getfield 55), 136, 8, 19, 2), (136, (.iload 6), 138, 0, 0, 0), (138, .iaload, 139, 0, 0, 0), (139, (.invokestatic 193), 142, 4, 2, 0), (142, (.istore 5), 144, 0, 0, 0), (144, (.iinc 6 1), 147, 0, 0, 0),
  (147, (.goto (-81)), 150, 66, 0, 0), (150, (.iload_n 3), 151, 0, 0, 0), (151, (.ifCond .ne 8), 154, 159, 0, 0), (154, (.iload 4), 156, 0, 0, 0), (156, (.goto 20), 159, 176, 0, 0), (159, (.iload_n 3), 160, 0, 0, 0),
  (160, (.iconst 1), 161, 0, 0, 1), (161, (.if_icmp .ne 13), 164, 174, 0, 0), (164, (.aload_n 0), 165, 0, 0, 0), (165, (.iload 4), 167, 0, 0, 0), (167, (.iload_n 2), 168, 0, 0, 0), (168, (.invokevirtual 273), 171, 214, 3, 1),
  (171, (.goto 5), 174, 176, 0, 0), (174, (.iload 5), 176, 0, 0, 0), (176, .ireturn, 177, 0, 0, 0)]
set_option maxRecDepth 100000 in
/-- M.gapsFrom(II)I -/
noncomputable def ew_cd_213 : List ew_Ent := [(0, (.iconst 0), 1, 0, 0, 0), (1, (.istore_n 3), 2, 0, 0, 0), (2, (.iload_n 1), 3, 0, 0, 0), (3, (.iconst 1), 4, 0, 0, 1), (4, .isub, 5, 0, 0, 0), (5, (.istore 4), 7, 0, 0, 0),
  (7, (.iconst 0), 8, 0, 0, 0), (8, (.istore 5), 10, 0, 0, 0), (10, (.iload_n 1), 11, 0, 0, 0), (11, (.istore 6), 13, 0, 0, 0), (13, (.iload 6), 15, 0, 0, 0), (15, (.iload_n 1), 16, 0, 0, 0),
  (16, (.sipush 4000), 19, 0, 0, 4000), (19, .iadd, 20, 0, 0, 0), (20, (.if_icmp .ge 56), 23, 76, 0, 0), (23, (.iload 6), 25, 0, 0, 0), (25, (.ldc 184), 27, 0, 0, 100000), (27, (.if_icmp .gt 49), 30, 76, 0, 0),
  (30, (.iload_n 3), 31, 0, 0, 0), (31, (.iload_n 2), 32, 0, 0, 0), (32, (.if_icmp .ge 44), 35, 76, 0, 0), (35, (.aload_n 0), 36, 0, 0, 0), (36, (.iload 6), 38, 0, 0, 0), (38, (.invokevirtual 173), 41, 171, 2, 1),
  (41, (.ifCond .le 29), 44, 70, 0, 0), (44, (.iload 5), 46, 0, 0, 0), (46, (.ifCond .eq 17), 49, 63, 0, 0), (49, (.aload_n 0), 50, 0, 0, 0), (50, (.getfield 55), 53, 8, 19, 2), (53, (.iload_n 3), 54, 0, 0, 0),
  (54, (.iload 6), 56, 0, 0, 0), (56, (.iload 4), 58, 0, 0, 0), (58, .isub, 59, 0, 0, 0), (59, .iastore, 60, 0, 0, 0), (60, (.iinc 3 1), 63, 0, 0, 0), (63, (.iconst 1), 64, 0, 0, 1),
  (64, (.istore 5), 66, 0, 0, 0), (66, (.iload 6), 68, 0, 0, 0), (68, (.istore 4), 70, 0, 0, 0), (70, (.iinc 6 1), 73, 0, 0, 0), (73, (.goto (-60)), 76, 13, 0, 0), (76, (.iload_n 3), 77, 0, 0, 0),
  (77, .ireturn, 78, 0, 0, 0)]
set_option maxRecDepth 100000 in
/-- M.timesOf(II)I -/
noncomputable def ew_cd_214 : List ew_Ent := [(0, (.iconst 0), 1, 0, 0, 0), (1, (.istore_n 3), 2, 0, 0, 0), (2, (.iconst 0), 3, 0, 0, 0), (3, (.istore 4), 5, 0, 0, 0), (5, (.iload 4), 7, 0, 0, 0), (7, (.iload_n 2), 8, 0, 0, 0),
  (8, (.if_icmp .ge 28), 11, 36, 0, 0), (11, (.iload_n 3), 12, 0, 0, 0), (12, (.aload_n 0), 13, 0, 0, 0), (13, (.getfield 55), 16, 8, 19, 2), (16, (.iload 4), 18, 0, 0, 0), (18, .iaload, 19, 0, 0, 0),
  (19, (.iload_n 1), 20, 0, 0, 0), (20, (.if_icmp .ne 7), 23, 27, 0, 0), (23, (.iconst 1), 24, 0, 0, 1), (24, (.goto 4), 27, 28, 0, 0), (27, (.iconst 0), 28, 0, 0, 0), (28, .iadd, 29, 0, 0, 0),
  (29, (.istore_n 3), 30, 0, 0, 0), (30, (.iinc 4 1), 33, 0, 0, 0), (33, (.goto (-28)), 36, 5, 0, 0), (36, (.iload_n 3), 37, 0, 0, 0), (37, .ireturn, 38, 0, 0, 0)]
set_option maxRecDepth 100000 in
/-- M.feed(I)I -/
noncomputable def ew_cd_215 : List ew_Ent := [(0, (.iload_n 1), 1, 0, 0, 0), (1, .i2l, 2, 0, 0, 0), (2, (.lconst 0), 3, 1, 0, 0), (3, (.ldc2_w 276), 6, 1, 0, 127), (6, (.invokestatic 80), 9, 150, 3, 0), (9, (.ifCond .ne 6), 12, 15, 0, 0),
  (12, (.bipush (-2)), 14, 0, 0, -2), (14, .ireturn, 15, 0, 0, 0), (15, (.aload_n 0), 16, 0, 0, 0), (16, (.getfield 278), 19, 8, 21, 0), (19, (.bipush 80), 21, 0, 0, 80), (21, (.if_icmp .ne 6), 24, 27, 0, 0),
  (24, (.bipush (-4)), 26, 0, 0, -4), (26, .ireturn, 27, 0, 0, 0), (27, (.aload_n 0), 28, 0, 0, 0), (28, (.getfield 58), 31, 8, 20, 2), (31, (.aload_n 0), 32, 0, 0, 0), (32, (.getfield 278), 35, 8, 21, 0),
  (35, (.iload_n 1), 36, 0, 0, 0), (36, .iastore, 37, 0, 0, 0), (37, (.aload_n 0), 38, 0, 0, 0), (38, .dup, 39, 0, 0, 0), (39, (.getfield 278), 42, 8, 21, 0), (42, (.iconst 1), 43, 0, 0, 1),
  (43, .iadd, 44, 0, 0, 0), (44, (.putfield 278), 47, 8, 21, 0), (47, (.aload_n 0), 48, 0, 0, 0), (48, (.getfield 278), 51, 8, 21, 0), (51, .ireturn, 52, 0, 0, 0)]
set_option maxRecDepth 100000 in
/-- M.read()I -/
noncomputable def ew_cd_216 : List ew_Ent := [(0, (.aload_n 0), 1, 0, 0, 0), (1, (.invokevirtual 331), 4, 217, 1, 1), (4, (.istore_n 1), 5, 0, 0, 0), (5, (.aload_n 0), 6, 0, 0, 0), (6, (.iconst 0), 7, 0, 0, 0), (7, (.putfield 278), 10, 8, 21, 0),
  (10, (.iload_n 1), 11, 0, 0, 0), (11, .ireturn, 12, 0, 0, 0)]
set_option maxRecDepth 100000 in
/-- M.readsAll()I -/
noncomputable def ew_cd_217 : List ew_Ent := [(0, (.aload_n 0), 1, 0, 0, 0), (1, (.iconst 0), 2, 0, 0, 0), (2, (.putfield 281), 5, 8, 23, 0), (5, (.aload_n 0), 6, 0, 0, 0), (6, (.invokevirtual 321), 9, 218, 1, 1), (9, (.ifCond .ne 11), 12, 20, 0, 0),
  (12, (.bipush (-100)), 14, 0, 0, -100), (14, (.aload_n 0), 15, 0, 0, 0), (15, (.getfield 281), 18, 8, 23, 0), (18, .isub, 19, 0, 0, 0), (19, .ireturn, 20, 0, 0, 0), (20, (.aload_n 0), 21, 0, 0, 0),
  (21, (.bipush 59), 23, 0, 0, 59), (23, (.invokevirtual 306), 26, 222, 2, 1), (26, (.ifCond .ne (-21)), 29, 5, 0, 0), (29, (.aload_n 0), 30, 0, 0, 0), (30, (.getfield 281), 33, 8, 23, 0), (33, (.aload_n 0), 34, 0, 0, 0),
  (34, (.getfield 278), 37, 8, 21, 0), (37, (.if_icmp .ge 11), 40, 48, 0, 0), (40, (.bipush (-100)), 42, 0, 0, -100), (42, (.aload_n 0), 43, 0, 0, 0), (43, (.getfield 281), 46, 8, 23, 0), (46, .isub, 47, 0, 0, 0),
  (47, .ireturn, 48, 0, 0, 0), (48, (.aload_n 0), 49, 0, 0, 0), (49, (.getfield 77), 52, 8, 5, 0), (52, (.istore_n 1), 53, 0, 0, 0), (53, (.aload_n 0), 54, 0, 0, 0), (54, (.getfield 130), 57, 8, 7, 0),
  (57, (.istore_n 2), 58, 0, 0, 0), (58, (.aload_n 0), 59, 0, 0, 0), (59, (.getfield 30), 62, 8, 8, 0), (62, (.istore_n 3), 63, 0, 0, 0), (63, (.aload_n 0), 64, 0, 0, 0), (64, (.getfield 34), 67, 8, 9, 2),
  (67, (.iconst 0), 68, 0, 0, 0), (68, .iaload, 69, 0, 0, 0), (69, (.istore 4), 71, 0, 0, 0), (71, (.aload_n 0), 72, 0, 0, 0), (72, (.getfield 34), 75, 8, 9, 2), (75, (.iconst 1), 76, 0, 0, 1),
  (76, .iaload, 77, 0, 0, 0), (77, (.istore 5), 79, 0, 0, 0), (79, (.iconst 0), 80, 0, 0, 0), (80, (.istore 6), 82, 0, 0, 0), (82, (.aload_n 0), 83, 0, 0, 0), (83, (.iconst 0), 84, 0, 0, 0),
  (84, (.putfield 281), 87, 8, 23, 0), (87, (.iconst 1), 88, 0, 0, 1), (88, (.istore 7), 90, 0, 0, 0), (90, (.iload 7), 92, 0, 0, 0), (92, (.ifCond .eq 73), 95, 165, 0, 0), (95, (.aload_n 0), 96, 0, 0, 0),
  (96, (.getfield 281), 99, 8, 23, 0), (99, (.istore 8), 101, 0, 0, 0), (101, (.aload_n 0), 102, 0, 0, 0), (102, (.invokevirtual 321), 105, 218, 1, 1), (105, .pop, 106, 0, 0, 0), (106, (.aload_n 0), 107, 0, 0, 0),
  (107, (.invokevirtual 325), 110, 223, 1, 1), (110, (.ifCond .ne 41), 113, 151, 0, 0), (113, (.aload_n 0), 114, 0, 0, 0), (114, (.iload_n 1), 115, 0, 0, 0), (115, (.putfield 77), 118, 8, 5, 0), (118, (.aload_n 0), 119, 0, 0, 0),
  (119, (.iload_n 2), 120, 0, 0, 0), (120, (.putfield 130), 123, 8, 7, 0), (123, (.aload_n 0), 124, 0, 0, 0), (124, (.iload_n 3), 125, 0, 0, 0), (125, (.putfield 30), 128, 8, 8, 0), (128, (.aload_n 0), 129, 0, 0, 0),
  (129, (.getfield 34), 132, 8, 9, 2), (132, (.iconst 0), 133, 0, 0, 0), (133, (.iload 4), 135, 0, 0, 0), (135, .iastore, 136, 0, 0, 0), (136, (.aload_n 0), 137, 0, 0, 0), (137, (.getfield 34), 140, 8, 9, 2),
  (140, (.iconst 1), 141, 0, 0, 1), (141, (.iload 5), 143, 0, 0, 0), (143, .iastore, 144, 0, 0, 0), (144, (.sipush (-300)), 147, 0, 0, -300), (147, (.iload 8), 149, 0, 0, 0), (149, .isub, 150, 0, 0, 0),
  (150, .ireturn, 151, 0, 0, 0), (151, (.iinc 6 1), 154, 0, 0, 0), (154, (.aload_n 0), 155, 0, 0, 0), (155, (.bipush 59), 157, 0, 0, 59), (157, (.invokevirtual 306), 160, 222, 2, 1), (160, (.istore 7), 162, 0, 0, 0),
  (162, (.goto (-72)), 165, 90, 0, 0), (165, (.aload_n 0), 166, 0, 0, 0), (166, .dup, 167, 0, 0, 0), (167, (.getfield 328), 170, 8, 22, 0), (170, (.iconst 1), 171, 0, 0, 1), (171, .iadd, 172, 0, 0, 0),
  (172, (.putfield 328), 175, 8, 22, 0), (175, (.iload 6), 177, 0, 0, 0), (177, .ireturn, 178, 0, 0, 0)]
set_option maxRecDepth 100000 in
/-- M.statement()Z -/
noncomputable def ew_cd_218 : List ew_Ent := [(0, (.aload_n 0), 1, 0, 0, 0), (1, (.aload_n 0), 2, 0, 0, 0), (2, (.invokevirtual 284), 5, 219, 1, 1), (5, (.putfield 291), 8, 8, 24, 0), (8, (.aload_n 0), 9, 0, 0, 0), (9, (.getfield 291), 12, 8, 24, 0),
  (12, (.invokestatic 294), 15, 220, 1, 0), (15, (.ifCond .lt 7), 18, 22, 0, 0), (18, (.iconst 1), 19, 0, 0, 1), (19, (.goto 4), 22, 23, 0, 0), (22, (.iconst 0), 23, 0, 0, 0), (23, (.istore_n 1), 24, 0, 0, 0),
  (24, (.iload_n 1), 25, 0, 0, 0), (25, (.ifCond .ne 41), 28, 66, 0, 0), (28, (.aload_n 0), 29, 0, 0, 0), (29, (.getfield 291), 32, 8, 24, 0), (32, (.bipush 110), 34, 0, 0, 110), (34, (.if_icmp .eq 32), 37, 66, 0, 0),
  (37, (.aload_n 0), 38, 0, 0, 0), (38, (.getfield 291), 41, 8, 24, 0), (41, (.bipush 97), 43, 0, 0, 97), (43, (.if_icmp .eq 23), 46, 66, 0, 0), (46, (.aload_n 0), 47, 0, 0, 0), (47, (.getfield 291), 50, 8, 24, 0),
  (50, (.bipush 111), 52, 0, 0, 111), (52, (.if_icmp .eq 14), 55, 66, 0, 0), (55, (.aload_n 0), 56, 0, 0, 0), (56, (.getfield 291), 59, 8, 24, 0), (59, (.bipush 105), 61, 0, 0, 105), (61, (.if_icmp .eq 5), 64, 66, 0, 0),
  (64, (.iconst 0), 65, 0, 0, 0), (65, .ireturn, 66, 0, 1, 0), (66, (.aload_n 0), 67, 0, 0, 0), (67, .dup, 68, 0, 0, 0), (68, (.getfield 281), 71, 8, 23, 0), (71, (.iconst 1), 72, 0, 0, 1),
  (72, .iadd, 73, 0, 0, 0), (73, (.putfield 281), 76, 8, 23, 0), (76, (.aload_n 0), 77, 0, 0, 0), (77, (.aload_n 0), 78, 0, 0, 0), (78, (.invokevirtual 297), 81, 221, 1, 1), (81, (.putfield 300), 84, 8, 25, 0),
  (84, (.aload_n 0), 85, 0, 0, 0), (85, (.iconst 0), 86, 0, 0, 0), (86, (.putfield 303), 89, 8, 27, 0), (89, (.aload_n 0), 90, 0, 0, 0), (90, (.getfield 300), 93, 8, 25, 0), (93, (.ifCond .lt 7), 96, 100, 0, 0),
  (96, (.iload_n 1), 97, 0, 0, 0), (97, (.ifCond .ne 16), 100, 113, 0, 0), (100, (.aload_n 0), 101, 0, 0, 0), (101, (.getfield 300), 104, 8, 25, 0), (104, (.ifCond .lt 7), 107, 111, 0, 0), (107, (.iconst 1), 108, 0, 0, 1),
  (108, (.goto 4), 111, 112, 0, 0), (111, (.iconst 0), 112, 0, 0, 0), (112, .ireturn, 113, 0, 1, 0), (113, (.aload_n 0), 114, 0, 0, 0), (114, (.bipush 47), 116, 0, 0, 47), (116, (.invokevirtual 306), 119, 222, 2, 1),
  (119, (.ifCond .ne 5), 122, 124, 0, 0), (122, (.iconst 0), 123, 0, 0, 0), (123, .ireturn, 124, 0, 1, 0), (124, (.aload_n 0), 125, 0, 0, 0), (125, (.aload_n 0), 126, 0, 0, 0), (126, (.invokevirtual 297), 129, 221, 1, 1),
  (129, (.putfield 309), 132, 8, 26, 0), (132, (.aload_n 0), 133, 0, 0, 0), (133, (.getfield 309), 136, 8, 26, 0), (136, (.ifCond .ge 5), 139, 141, 0, 0), (139, (.iconst 0), 140, 0, 0, 0), (140, .ireturn, 141, 0, 1, 0),
  (141, (.aload_n 0), 142, 0, 0, 0), (142, (.bipush 43), 144, 0, 0, 43), (144, (.invokevirtual 306), 147, 222, 2, 1), (147, (.ifCond .eq 11), 150, 158, 0, 0), (150, (.aload_n 0), 151, 0, 0, 0), (151, (.aload_n 0), 152, 0, 0, 0),
  (152, (.invokevirtual 297), 155, 221, 1, 1), (155, (.putfield 303), 158, 8, 27, 0), (158, (.aload_n 0), 159, 0, 0, 0), (159, (.getfield 303), 162, 8, 27, 0), (162, (.ifCond .lt 7), 165, 169, 0, 0), (165, (.iconst 1), 166, 0, 0, 1),
  (166, (.goto 4), 169, 170, 0, 0), (169, (.iconst 0), 170, 0, 0, 0), (170, .ireturn, 171, 0, 1, 0)]
set_option maxRecDepth 100000 in
/-- M.here()I -/
noncomputable def ew_cd_219 : List ew_Ent := [(0, (.aload_n 0), 1, 0, 0, 0), (1, (.getfield 281), 4, 8, 23, 0), (4, (.aload_n 0), 5, 0, 0, 0), (5, (.getfield 278), 8, 8, 21, 0), (8, (.if_icmp .ge 15), 11, 23, 0, 0), (11, (.aload_n 0), 12, 0, 0, 0),
  (12, (.getfield 58), 15, 8, 20, 2), (15, (.aload_n 0), 16, 0, 0, 0), (16, (.getfield 281), 19, 8, 23, 0), (19, .iaload, 20, 0, 0, 0), (20, (.goto 4), 23, 24, 0, 0), (23, (.iconst (-1)), 24, 0, 0, -1),
  (24, .ireturn, 25, 0, 0, 0)]
set_option maxRecDepth 100000 in
/-- M.kindOf(I)I -/
noncomputable def ew_cd_220 : List ew_Ent := [(0, (.iload_n 0), 1, 0, 0, 0), (1, (.lookupswitch 61 #[(98, 53), (103, 59), (104, 57), (108, 55), (119, 51)]), 52, 62, 0, 0), (52, (.iconst 0), 53, 0, 0, 0), (53, .ireturn, 54, 0, 0, 0), (54, (.iconst 1), 55, 0, 0, 1), (55, .ireturn, 56, 0, 0, 0),
  (56, (.iconst 2), 57, 0, 0, 2), (57, .ireturn, 58, 0, 0, 0), (58, (.iconst 3), 59, 0, 0, 3), (59, .ireturn, 60, 0, 0, 0), (60, (.iconst 4), 61, 0, 0, 4), (61, .ireturn, 62, 0, 0, 0),
  (62, (.iconst (-1)), 63, 0, 0, -1), (63, .ireturn, 64, 0, 0, 0)]
set_option maxRecDepth 100000 in
/-- M.number()I -/
noncomputable def ew_cd_221 : List ew_Ent := [(0, (.aload_n 0), 1, 0, 0, 0), (1, (.invokevirtual 284), 4, 219, 1, 1), (4, .i2l, 5, 0, 0, 0), (5, (.ldc2_w 287), 8, 1, 0, 48), (8, (.ldc2_w 289), 11, 1, 0, 57), (11, (.invokestatic 80), 14, 150, 3, 0),
  (14, (.ifCond .ne 5), 17, 19, 0, 0), (17, (.iconst (-1)), 18, 0, 0, -1), (18, .ireturn, 19, 0, 0, 0), (19, (.iconst 0), 20, 0, 0, 0), (20, (.istore_n 1), 21, 0, 0, 0), (21, (.iconst 0), 22, 0, 0, 0),
  (22, (.istore_n 2), 23, 0, 0, 0), (23, (.iload_n 2), 24, 0, 0, 0), (24, (.bipush 6), 26, 0, 0, 6), (26, (.if_icmp .ge 49), 29, 75, 0, 0), (29, (.aload_n 0), 30, 0, 0, 0), (30, (.invokevirtual 284), 33, 219, 1, 1),
  (33, .i2l, 34, 0, 0, 0), (34, (.ldc2_w 287), 37, 1, 0, 48), (37, (.ldc2_w 289), 40, 1, 0, 57), (40, (.invokestatic 80), 43, 150, 3, 0), (43, (.ifCond .eq 32), 46, 75, 0, 0), (46, (.bipush 10), 48, 0, 0, 10),
  (48, (.iload_n 1), 49, 0, 0, 0), (49, .imul, 50, 0, 0, 0), (50, (.aload_n 0), 51, 0, 0, 0), (51, (.invokevirtual 284), 54, 219, 1, 1), (54, .iadd, 55, 0, 0, 0), (55, (.bipush 48), 57, 0, 0, 48),
  (57, .isub, 58, 0, 0, 0), (58, (.istore_n 1), 59, 0, 0, 0), (59, (.aload_n 0), 60, 0, 0, 0), (60, .dup, 61, 0, 0, 0), (61, (.getfield 281), 64, 8, 23, 0), (64, (.iconst 1), 65, 0, 0, 1),
  (65, .iadd, 66, 0, 0, 0), (66, (.putfield 281), 69, 8, 23, 0), (69, (.iinc 2 1), 72, 0, 0, 0), (72, (.goto (-49)), 75, 23, 0, 0), (75, (.iload_n 1), 76, 0, 0, 0), (76, .ireturn, 77, 0, 0, 0)]
set_option maxRecDepth 100000 in
/-- M.takes(I)Z -/
noncomputable def ew_cd_222 : List ew_Ent := [(0, (.aload_n 0), 1, 0, 0, 0), (1, (.invokevirtual 284), 4, 219, 1, 1), (4, (.iload_n 1), 5, 0, 0, 0), (5, (.if_icmp .eq 5), 8, 10, 0, 0), (8, (.iconst 0), 9, 0, 0, 0), (9, .ireturn, 10, 0, 1, 0),
  (10, (.aload_n 0), 11, 0, 0, 0), (11, .dup, 12, 0, 0, 0), (12, (.getfield 281), 15, 8, 23, 0), (15, (.iconst 1), 16, 0, 0, 1), (16, .iadd, 17, 0, 0, 0), (17, (.putfield 281), 20, 8, 23, 0),
  (20, (.iconst 1), 21, 0, 0, 1), (21, .ireturn, 22, 0, 1, 0)]
set_option maxRecDepth 100000 in
/-- M.isDone()Z -/
noncomputable def ew_cd_223 : List ew_Ent := [(0, (.aload_n 0), 1, 0, 0, 0), (1, (.getfield 291), 4, 8, 24, 0), (4, (.lookupswitch 135 #[(97, 66), (105, 117), (110, 44), (111, 99)]), 48, 139, 0, 0), (48, (.aload_n 0), 49, 0, 0, 0), (49, (.aload_n 0), 50, 0, 0, 0), (50, (.getfield 300), 53, 8, 25, 0),
  (53, (.aload_n 0), 54, 0, 0, 0), (54, (.getfield 30), 57, 8, 8, 0), (57, (.invokevirtual 312), 60, 167, 3, 1), (60, (.iconst 1), 61, 0, 0, 1), (61, (.if_icmp .ne 7), 64, 68, 0, 0), (64, (.iconst 1), 65, 0, 0, 1),
  (65, (.goto 4), 68, 69, 0, 0), (68, (.iconst 0), 69, 0, 0, 0), (69, .ireturn, 70, 0, 1, 0), (70, (.aload_n 0), 71, 0, 0, 0), (71, (.aload_n 0), 72, 0, 0, 0), (72, (.getfield 300), 75, 8, 25, 0),
  (75, (.invokevirtual 110), 78, 156, 2, 1), (78, (.ifCond .eq 23), 81, 101, 0, 0), (81, (.aload_n 0), 82, 0, 0, 0), (82, (.aload_n 0), 83, 0, 0, 0), (83, (.getfield 130), 86, 8, 7, 0), (86, (.aload_n 0), 87, 0, 0, 0),
  (87, (.getfield 300), 90, 8, 25, 0), (90, (.invokevirtual 312), 93, 167, 3, 1), (93, (.iconst 1), 94, 0, 0, 1), (94, (.if_icmp .ne 7), 97, 101, 0, 0), (97, (.iconst 1), 98, 0, 0, 1), (98, (.goto 4), 101, 102, 0, 0),
  (101, (.iconst 0), 102, 0, 0, 0), (102, .ireturn, 103, 0, 1, 0), (103, (.aload_n 0), 104, 0, 0, 0), (104, (.iconst 0), 105, 0, 0, 0), (105, (.aload_n 0), 106, 0, 0, 0), (106, (.getfield 300), 109, 8, 25, 0),
  (109, (.invokevirtual 315), 112, 168, 3, 1), (112, (.ifCond .lt 7), 115, 119, 0, 0), (115, (.iconst 1), 116, 0, 0, 1), (116, (.goto 4), 119, 120, 0, 0), (119, (.iconst 0), 120, 0, 0, 0), (120, .ireturn, 121, 0, 1, 0),
  (121, (.aload_n 0), 122, 0, 0, 0), (122, (.iconst 1), 123, 0, 0, 1), (123, (.aload_n 0), 124, 0, 0, 0), (124, (.getfield 300), 127, 8, 25, 0), (127, (.invokevirtual 315), 130, 168, 3, 1), (130, (.ifCond .lt 7), 133, 137, 0, 0),
  (133, (.iconst 1), 134, 0, 0, 1), (134, (.goto 4), 137, 138, 0, 0), (137, (.iconst 0), 138, 0, 0, 0), (138, .ireturn, 139, 0, 1, 0), (139, (.aload_n 0), 140, 0, 0, 0), (140, (.aload_n 0), 141, 0, 0, 0),
  (141, (.getfield 291), 144, 8, 24, 0), (144, (.invokestatic 294), 147, 220, 1, 0), (147, (.aload_n 0), 148, 0, 0, 0), (148, (.getfield 309), 151, 8, 26, 0), (151, (.aload_n 0), 152, 0, 0, 0), (152, (.getfield 300), 155, 8, 25, 0),
  (155, (.aload_n 0), 156, 0, 0, 0), (156, (.getfield 303), 159, 8, 27, 0), (159, (.invokevirtual 317), 162, 149, 5, 1), (162, (.ifCond .lt 7), 165, 169, 0, 0), (165, (.iconst 1), 166, 0, 0, 1), (166, (.goto 4), 169, 170, 0, 0),
  (169, (.iconst 0), 170, 0, 0, 0), (170, .ireturn, 171, 0, 1, 0)]
set_option maxRecDepth 100000 in
/-- M.tray(III)I -/
noncomputable def ew_cd_224 : List ew_Ent := [(0, (.iload_n 1), 1, 0, 0, 0), (1, (.invokestatic 334), 4, 225, 1, 0), (4, (.ifCond .ne 5), 7, 9, 0, 0), (7, (.iconst (-1)), 8, 0, 0, -1), (8, .ireturn, 9, 0, 0, 0), (9, (.iload_n 2), 10, 0, 0, 0),
  (10, .i2l, 11, 0, 0, 0), (11, (.ldc2_w 211), 14, 1, 0, -1), (14, (.ldc2_w 96), 17, 1, 0, 4), (17, (.invokestatic 80), 20, 150, 3, 0), (20, (.ifCond .eq 13), 23, 33, 0, 0), (23, (.iload_n 2), 24, 0, 0, 0),
  (24, (.ifCond .lt 12), 27, 36, 0, 0), (27, (.iload_n 3), 28, 0, 0, 0), (28, (.bipush 12), 30, 0, 0, 12), (30, (.if_icmp .le 6), 33, 36, 0, 0), (33, (.bipush (-2)), 35, 0, 0, -2), (35, .ireturn, 36, 0, 0, 0),
  (36, (.iload_n 2), 37, 0, 0, 0), (37, (.ifCond .lt 10), 40, 47, 0, 0), (40, (.iload_n 3), 41, 0, 0, 0), (41, (.ifCond .ge 6), 44, 47, 0, 0), (44, (.bipush (-14)), 46, 0, 0, -14), (46, .ireturn, 47, 0, 0, 0),
  (47, (.aload_n 0), 48, 0, 0, 0), (48, (.getfield 61), 51, 8, 28, 2), (51, (.iload_n 1), 52, 0, 0, 0), (52, (.iload_n 2), 53, 0, 0, 0), (53, .iastore, 54, 0, 0, 0), (54, (.aload_n 0), 55, 0, 0, 0),
  (55, (.getfield 64), 58, 8, 29, 2), (58, (.iload_n 1), 59, 0, 0, 0), (59, (.iload_n 2), 60, 0, 0, 0), (60, (.ifCond .ge 7), 63, 67, 0, 0), (63, (.iconst 0), 64, 0, 0, 0), (64, (.goto 4), 67, 68, 0, 0),
  (67, (.iload_n 3), 68, 0, 0, 0), (68, .iastore, 69, 0, 0, 0), (69, (.iconst 0), 70, 0, 0, 0), (70, (.istore 4), 72, 0, 0, 0), (72, (.iload 4), 74, 0, 0, 0), (74, (.bipush 12), 76, 0, 0, 12),
  (76, (.if_icmp .ge 22), 79, 98, 0, 0), (79, (.aload_n 0), 80, 0, 0, 0), (80, (.getfield 67), 83, 8, 30, 2), (83, (.bipush 12), 85, 0, 0, 12), (85, (.iload_n 1), 86, 0, 0, 0), (86, .imul, 87, 0, 0, 0),
  (87, (.iload 4), 89, 0, 0, 0), (89, .iadd, 90, 0, 0, 0), (90, (.iconst (-1)), 91, 0, 0, -1), (91, .iastore, 92, 0, 0, 0), (92, (.iinc 4 1), 95, 0, 0, 0), (95, (.goto (-23)), 98, 72, 0, 0),
  (98, (.iconst 1), 99, 0, 0, 1), (99, .ireturn, 100, 0, 0, 0)]
set_option maxRecDepth 100000 in
/-- M.isTray(I)Z -/
noncomputable def ew_cd_225 : List ew_Ent := [(0, (.iload_n 0), 1, 0, 0, 0), (1, .i2l, 2, 0, 0, 0), (2, (.lconst 0), 3, 1, 0, 0), (3, (.ldc2_w 182), 6, 1, 0, 3), (6, (.invokestatic 80), 9, 150, 3, 0), (9, .ireturn, 10, 0, 1, 0)]
set_option maxRecDepth 100000 in
/-- M.lay(III)I -/
noncomputable def ew_cd_226 : List ew_Ent := [(0, (.iload_n 1), 1, 0, 0, 0), (1, (.invokestatic 334), 4, 225, 1, 0), (4, (.ifCond .eq 16), 7, 20, 0, 0), (7, (.iload_n 3), 8, 0, 0, 0), (8, (.iconst (-1)), 9, 0, 0, -1), (9, (.if_icmp .eq 13), 12, 22, 0, 0),
  (12, (.aload_n 0), 13, 0, 0, 0), (13, (.iload_n 3), 14, 0, 0, 0), (14, (.invokevirtual 110), 17, 156, 2, 1), (17, (.ifCond .ne 5), 20, 22, 0, 0), (20, (.iconst (-1)), 21, 0, 0, -1), (21, .ireturn, 22, 0, 0, 0),
  (22, (.aload_n 0), 23, 0, 0, 0), (23, (.getfield 61), 26, 8, 28, 2), (26, (.iload_n 1), 27, 0, 0, 0), (27, .iaload, 28, 0, 0, 0), (28, (.ifCond .ge 6), 31, 34, 0, 0), (31, (.bipush (-11)), 33, 0, 0, -11),
  (33, .ireturn, 34, 0, 0, 0), (34, (.iload_n 2), 35, 0, 0, 0), (35, .i2l, 36, 0, 0, 0), (36, (.lconst 0), 37, 1, 0, 0), (37, (.aload_n 0), 38, 0, 0, 0), (38, (.getfield 64), 41, 8, 29, 2),
  (41, (.iload_n 1), 42, 0, 0, 0), (42, .iaload, 43, 0, 0, 0), (43, (.iconst 1), 44, 0, 0, 1), (44, .isub, 45, 0, 0, 0), (45, .i2l, 46, 0, 0, 0), (46, (.invokestatic 80), 49, 150, 3, 0),
  (49, (.ifCond .ne 6), 52, 55, 0, 0), (52, (.bipush (-12)), 54, 0, 0, -12), (54, .ireturn, 55, 0, 0, 0), (55, (.iload_n 3), 56, 0, 0, 0), (56, (.ifCond .lt 29), 59, 85, 0, 0), (59, (.aload_n 0), 60, 0, 0, 0),
  (60, (.getfield 9), 63, 8, 0, 2), (63, (.aload_n 0), 64, 0, 0, 0), (64, (.getfield 27), 67, 8, 6, 2), (67, (.iload_n 3), 68, 0, 0, 0), (68, .iaload, 69, 0, 0, 0), (69, .iaload, 70, 0, 0, 0),
  (70, (.aload_n 0), 71, 0, 0, 0), (71, (.getfield 61), 74, 8, 28, 2), (74, (.iload_n 1), 75, 0, 0, 0), (75, .iaload, 76, 0, 0, 0), (76, (.invokestatic 337), 79, 227, 2, 0), (79, (.ifCond .ne 6), 82, 85, 0, 0),
  (82, (.bipush (-13)), 84, 0, 0, -13), (84, .ireturn, 85, 0, 0, 0), (85, (.aload_n 0), 86, 0, 0, 0), (86, (.getfield 67), 89, 8, 30, 2), (89, (.bipush 12), 91, 0, 0, 12), (91, (.iload_n 1), 92, 0, 0, 0),
  (92, .imul, 93, 0, 0, 0), (93, (.iload_n 2), 94, 0, 0, 0), (94, .iadd, 95, 0, 0, 0), (95, (.iload_n 3), 96, 0, 0, 0), (96, (.ifCond .ge 7), 99, 103, 0, 0), (99, (.iconst (-1)), 100, 0, 0, -1),
  (100, (.goto 9), 103, 109, 0, 0), (103, (.aload_n 0), 104, 0, 0, 0), (104, (.getfield 27), 107, 8, 6, 2), (107, (.iload_n 3), 108, 0, 0, 0), (108, .iaload, 109, 0, 0, 0), (109, .iastore, 110, 0, 0, 0),
  (110, (.iconst 1), 111, 0, 0, 1), (111, .ireturn, 112, 0, 0, 0)]
set_option maxRecDepth 100000 in
/-- M.isUnder(II)Z -/
noncomputable def ew_cd_227 : List ew_Ent := [(0, (.iload_n 0), 1, 0, 0, 0), (1, (.iload_n 1), 2, 0, 0, 0), (2, (.if_icmp .eq 27), 5, 29, 0, 0), (5, (.iload_n 1), 6, 0, 0, 0), (6, (.ifCond .eq 23), 9, 29, 0, 0), (9, (.iload_n 1), 10, 0, 0, 0),
  (10, (.iconst 1), 11, 0, 0, 1), (11, (.if_icmp .ne 8), 14, 19, 0, 0), (14, (.iload_n 0), 15, 0, 0, 0), (15, (.iconst 3), 16, 0, 0, 3), (16, (.if_icmp .eq 13), 19, 29, 0, 0), (19, (.iload_n 1), 20, 0, 0, 0),
  (20, (.iconst 2), 21, 0, 0, 2), (21, (.if_icmp .ne 12), 24, 33, 0, 0), (24, (.iload_n 0), 25, 0, 0, 0), (25, (.iconst 4), 26, 0, 0, 4), (26, (.if_icmp .ne 7), 29, 33, 0, 0), (29, (.iconst 1), 30, 0, 0, 1),
  (30, (.goto 4), 33, 34, 0, 0), (33, (.iconst 0), 34, 0, 0, 0), (34, .ireturn, 35, 0, 1, 0)]
set_option maxRecDepth 100000 in
/-- M.laid(III)I -/
noncomputable def ew_cd_228 : List ew_Ent := [(0, (.iload_n 1), 1, 0, 0, 0), (1, (.invokestatic 334), 4, 225, 1, 0), (4, (.ifCond .eq 15), 7, 19, 0, 0), (7, (.iload_n 3), 8, 0, 0, 0), (8, .i2l, 9, 0, 0, 0), (9, (.lconst 0), 10, 1, 0, 0),
  (10, (.ldc2_w 182), 13, 1, 0, 3), (13, (.invokestatic 80), 16, 150, 3, 0), (16, (.ifCond .ne 5), 19, 21, 0, 0), (19, (.iconst (-1)), 20, 0, 0, -1), (20, .ireturn, 21, 0, 0, 0), (21, (.aload_n 0), 22, 0, 0, 0),
  (22, (.getfield 61), 25, 8, 28, 2), (25, (.iload_n 1), 26, 0, 0, 0), (26, .iaload, 27, 0, 0, 0), (27, (.ifCond .ge 6), 30, 33, 0, 0), (30, (.bipush (-11)), 32, 0, 0, -11), (32, .ireturn, 33, 0, 0, 0),
  (33, (.iload_n 2), 34, 0, 0, 0), (34, .i2l, 35, 0, 0, 0), (35, (.lconst 0), 36, 1, 0, 0), (36, (.aload_n 0), 37, 0, 0, 0), (37, (.getfield 64), 40, 8, 29, 2), (40, (.iload_n 1), 41, 0, 0, 0),
  (41, .iaload, 42, 0, 0, 0), (42, (.iconst 1), 43, 0, 0, 1), (43, .isub, 44, 0, 0, 0), (44, .i2l, 45, 0, 0, 0), (45, (.invokestatic 80), 48, 150, 3, 0), (48, (.ifCond .ne 6), 51, 54, 0, 0),
  (51, (.bipush (-12)), 53, 0, 0, -12), (53, .ireturn, 54, 0, 0, 0), (54, (.aload_n 0), 55, 0, 0, 0), (55, (.getfield 67), 58, 8, 30, 2), (58, (.bipush 12), 60, 0, 0, 12), (60, (.iload_n 1), 61, 0, 0, 0),
  (61, .imul, 62, 0, 0, 0), (62, (.iload_n 2), 63, 0, 0, 0), (63, .iadd, 64, 0, 0, 0), (64, .iaload, 65, 0, 0, 0), (65, (.istore 4), 67, 0, 0, 0), (67, (.iload 4), 69, 0, 0, 0),
  (69, (.ifCond .ge 6), 72, 75, 0, 0), (72, (.bipush (-5)), 74, 0, 0, -5), (74, .ireturn, 75, 0, 0, 0), (75, (.iload_n 3), 76, 0, 0, 0), (76, (.ifCond .ne 13), 79, 89, 0, 0), (79, (.aload_n 0), 80, 0, 0, 0),
  (80, (.getfield 9), 83, 8, 0, 2), (83, (.iload 4), 85, 0, 0, 0), (85, .iaload, 86, 0, 0, 0), (86, (.goto 40), 89, 126, 0, 0), (89, (.iload_n 3), 90, 0, 0, 0), (90, (.iconst 1), 91, 0, 0, 1),
  (91, (.if_icmp .ne 13), 94, 104, 0, 0), (94, (.aload_n 0), 95, 0, 0, 0), (95, (.getfield 15), 98, 8, 1, 2), (98, (.iload 4), 100, 0, 0, 0), (100, .iaload, 101, 0, 0, 0), (101, (.goto 25), 104, 126, 0, 0),
  (104, (.iload_n 3), 105, 0, 0, 0), (105, (.iconst 2), 106, 0, 0, 2), (106, (.if_icmp .ne 13), 109, 119, 0, 0), (109, (.aload_n 0), 110, 0, 0, 0), (110, (.getfield 18), 113, 8, 2, 2), (113, (.iload 4), 115, 0, 0, 0),
  (115, .iaload, 116, 0, 0, 0), (116, (.goto 10), 119, 126, 0, 0), (119, (.aload_n 0), 120, 0, 0, 0), (120, (.getfield 21), 123, 8, 3, 2), (123, (.iload 4), 125, 0, 0, 0), (125, .iaload, 126, 0, 0, 0),
  (126, .ireturn, 127, 0, 0, 0)]
set_option maxRecDepth 100000 in
/-- M.like(II)I -/
noncomputable def ew_cd_229 : List ew_Ent := [(0, (.iload_n 1), 1, 0, 0, 0), (1, (.invokestatic 334), 4, 225, 1, 0), (4, (.ifCond .eq 10), 7, 14, 0, 0), (7, (.iload_n 2), 8, 0, 0, 0), (8, (.invokestatic 334), 11, 225, 1, 0), (11, (.ifCond .ne 5), 14, 16, 0, 0),
  (14, (.iconst (-1)), 15, 0, 0, -1), (15, .ireturn, 16, 0, 0, 0), (16, (.aload_n 0), 17, 0, 0, 0), (17, (.getfield 61), 20, 8, 28, 2), (20, (.iload_n 2), 21, 0, 0, 0), (21, .iaload, 22, 0, 0, 0),
  (22, (.ifCond .ge 6), 25, 28, 0, 0), (25, (.bipush (-11)), 27, 0, 0, -11), (27, .ireturn, 28, 0, 0, 0), (28, (.aload_n 0), 29, 0, 0, 0), (29, (.getfield 61), 32, 8, 28, 2), (32, (.iload_n 1), 33, 0, 0, 0),
  (33, (.aload_n 0), 34, 0, 0, 0), (34, (.getfield 61), 37, 8, 28, 2), (37, (.iload_n 2), 38, 0, 0, 0), (38, .iaload, 39, 0, 0, 0), (39, .iastore, 40, 0, 0, 0), (40, (.aload_n 0), 41, 0, 0, 0),
  (41, (.getfield 64), 44, 8, 29, 2), (44, (.iload_n 1), 45, 0, 0, 0), (45, (.aload_n 0), 46, 0, 0, 0), (46, (.getfield 64), 49, 8, 29, 2), (49, (.iload_n 2), 50, 0, 0, 0), (50, .iaload, 51, 0, 0, 0),
  (51, .iastore, 52, 0, 0, 0), (52, (.iconst 0), 53, 0, 0, 0), (53, (.istore_n 3), 54, 0, 0, 0), (54, (.iload_n 3), 55, 0, 0, 0), (55, (.bipush 12), 57, 0, 0, 12), (57, (.if_icmp .ge 31), 60, 88, 0, 0),
  (60, (.aload_n 0), 61, 0, 0, 0), (61, (.getfield 67), 64, 8, 30, 2), (64, (.bipush 12), 66, 0, 0, 12), (66, (.iload_n 1), 67, 0, 0, 0), (67, .imul, 68, 0, 0, 0), (68, (.iload_n 3), 69, 0, 0, 0),
  (69, .iadd, 70, 0, 0, 0), (70, (.aload_n 0), 71, 0, 0, 0), (71, (.getfield 67), 74, 8, 30, 2), (74, (.bipush 12), 76, 0, 0, 12), (76, (.iload_n 2), 77, 0, 0, 0), (77, .imul, 78, 0, 0, 0),
  (78, (.iload_n 3), 79, 0, 0, 0), (79, .iadd, 80, 0, 0, 0), (80, .iaload, 81, 0, 0, 0), (81, .iastore, 82, 0, 0, 0), (82, (.iinc 3 1), 85, 0, 0, 0), (85, (.goto (-31)), 88, 54, 0, 0),
  (88, (.aload_n 0), 89, 0, 0, 0), (89, (.getfield 64), 92, 8, 29, 2), (92, (.iload_n 1), 93, 0, 0, 0), (93, .iaload, 94, 0, 0, 0), (94, .ireturn, 95, 0, 0, 0)]
set_option maxRecDepth 100000 in
/-- M.list(II)I -/
noncomputable def ew_cd_230 : List ew_Ent := [(0, (.iload_n 1), 1, 0, 0, 0), (1, (.invokestatic 340), 4, 231, 1, 0), (4, (.ifCond .ne 5), 7, 9, 0, 0), (7, (.iconst (-1)), 8, 0, 0, -1), (8, .ireturn, 9, 0, 0, 0), (9, (.iload_n 2), 10, 0, 0, 0),
  (10, (.bipush 40), 12, 0, 0, 40), (12, (.if_icmp .le 6), 15, 18, 0, 0), (15, (.bipush (-2)), 17, 0, 0, -2), (17, .ireturn, 18, 0, 0, 0), (18, (.iload_n 2), 19, 0, 0, 0), (19, (.iconst (-1)), 20, 0, 0, -1),
  (20, (.if_icmp .ge 6), 23, 26, 0, 0), (23, (.bipush (-14)), 25, 0, 0, -14), (25, .ireturn, 26, 0, 0, 0), (26, (.aload_n 0), 27, 0, 0, 0), (27, (.getfield 70), 30, 8, 31, 2), (30, (.iload_n 1), 31, 0, 0, 0),
  (31, (.iload_n 2), 32, 0, 0, 0), (32, .iastore, 33, 0, 0, 0), (33, (.iconst 0), 34, 0, 0, 0), (34, (.istore_n 3), 35, 0, 0, 0), (35, (.iload_n 3), 36, 0, 0, 0), (36, (.bipush 40), 38, 0, 0, 40),
  (38, (.if_icmp .ge 21), 41, 59, 0, 0), (41, (.aload_n 0), 42, 0, 0, 0), (42, (.getfield 73), 45, 8, 32, 2), (45, (.bipush 40), 47, 0, 0, 40), (47, (.iload_n 1), 48, 0, 0, 0), (48, .imul, 49, 0, 0, 0),
  (49, (.iload_n 3), 50, 0, 0, 0), (50, .iadd, 51, 0, 0, 0), (51, (.lconst 0), 52, 1, 0, 0), (52, .lastore, 53, 0, 0, 0), (53, (.iinc 3 1), 56, 0, 0, 0), (56, (.goto (-21)), 59, 35, 0, 0),
  (59, (.iconst 1), 60, 0, 0, 1), (60, .ireturn, 61, 0, 0, 0)]
set_option maxRecDepth 100000 in
/-- M.isList(I)Z -/
noncomputable def ew_cd_231 : List ew_Ent := [(0, (.iload_n 0), 1, 0, 0, 0), (1, .i2l, 2, 0, 0, 0), (2, (.lconst 0), 3, 1, 0, 0), (3, (.ldc2_w 88), 6, 1, 0, 2), (6, (.invokestatic 80), 9, 150, 3, 0), (9, .ireturn, 10, 0, 1, 0)]
set_option maxRecDepth 100000 in
/-- M.put(IIJ)I -/
noncomputable def ew_cd_232 : List ew_Ent := [(0, (.iload_n 1), 1, 0, 0, 0), (1, (.invokestatic 340), 4, 231, 1, 0), (4, (.ifCond .ne 5), 7, 9, 0, 0), (7, (.iconst (-1)), 8, 0, 0, -1), (8, .ireturn, 9, 0, 0, 0), (9, (.aload_n 0), 10, 0, 0, 0),
  (10, (.getfield 70), 13, 8, 31, 2), (13, (.iload_n 1), 14, 0, 0, 0), (14, .iaload, 15, 0, 0, 0), (15, (.ifCond .ge 6), 18, 21, 0, 0), (18, (.bipush (-11)), 20, 0, 0, -11), (20, .ireturn, 21, 0, 0, 0),
  (21, (.iload_n 2), 22, 0, 0, 0), (22, .i2l, 23, 0, 0, 0), (23, (.lconst 0), 24, 1, 0, 0), (24, (.aload_n 0), 25, 0, 0, 0), (25, (.getfield 70), 28, 8, 31, 2), (28, (.iload_n 1), 29, 0, 0, 0),
  (29, .iaload, 30, 0, 0, 0), (30, (.iconst 1), 31, 0, 0, 1), (31, .isub, 32, 0, 0, 0), (32, .i2l, 33, 0, 0, 0), (33, (.invokestatic 80), 36, 150, 3, 0), (36, (.ifCond .ne 6), 39, 42, 0, 0),
  (39, (.bipush (-12)), 41, 0, 0, -12), (41, .ireturn, 42, 0, 0, 0), (42, (.aload_n 0), 43, 0, 0, 0), (43, (.getfield 73), 46, 8, 32, 2), (46, (.bipush 40), 48, 0, 0, 40), (48, (.iload_n 1), 49, 0, 0, 0),
  (49, .imul, 50, 0, 0, 0), (50, (.iload_n 2), 51, 0, 0, 0), (51, .iadd, 52, 0, 0, 0), (52, (.lload_n 3), 53, 0, 0, 0), (53, .lastore, 54, 0, 0, 0), (54, (.iconst 1), 55, 0, 0, 1),
  (55, .ireturn, 56, 0, 0, 0)]
set_option maxRecDepth 100000 in
/-- M.get(II)J -/
noncomputable def ew_cd_233 : List ew_Ent := [(0, (.iload_n 1), 1, 0, 0, 0), (1, (.invokestatic 340), 4, 231, 1, 0), (4, (.ifCond .eq 35), 7, 39, 0, 0), (7, (.iload_n 2), 8, 0, 0, 0), (8, .i2l, 9, 0, 0, 0), (9, (.lconst 0), 10, 1, 0, 0),
  (10, (.aload_n 0), 11, 0, 0, 0), (11, (.getfield 70), 14, 8, 31, 2), (14, (.iload_n 1), 15, 0, 0, 0), (15, .iaload, 16, 0, 0, 0), (16, (.iconst 1), 17, 0, 0, 1), (17, .isub, 18, 0, 0, 0),
  (18, .i2l, 19, 0, 0, 0), (19, (.invokestatic 80), 22, 150, 3, 0), (22, (.ifCond .eq 17), 25, 39, 0, 0), (25, (.aload_n 0), 26, 0, 0, 0), (26, (.getfield 73), 29, 8, 32, 2), (29, (.bipush 40), 31, 0, 0, 40),
  (31, (.iload_n 1), 32, 0, 0, 0), (32, .imul, 33, 0, 0, 0), (33, (.iload_n 2), 34, 0, 0, 0), (34, .iadd, 35, 0, 0, 0), (35, .laload, 36, 0, 0, 0), (36, (.goto 6), 39, 42, 0, 0),
  (39, (.ldc2_w 139), 42, 1, 0, -9223372036854775808), (42, .lreturn, 43, 0, 0, 0)]
set_option maxRecDepth 100000 in
/-- M.fill(II)I -/
noncomputable def ew_cd_234 : List ew_Ent := [(0, (.iload_n 1), 1, 0, 0, 0), (1, (.invokestatic 340), 4, 231, 1, 0), (4, (.ifCond .ne 5), 7, 9, 0, 0), (7, (.iconst (-1)), 8, 0, 0, -1), (8, .ireturn, 9, 0, 0, 0), (9, (.iload_n 2), 10, 0, 0, 0),
  (10, (.invokestatic 133), 13, 164, 1, 0), (13, (.ifCond .ne 6), 16, 19, 0, 0), (16, (.bipush (-2)), 18, 0, 0, -2), (18, .ireturn, 19, 0, 0, 0), (19, (.aload_n 0), 20, 0, 0, 0), (20, (.getfield 70), 23, 8, 31, 2),
  (23, (.iload_n 1), 24, 0, 0, 0), (24, .iaload, 25, 0, 0, 0), (25, (.ifCond .ge 6), 28, 31, 0, 0), (28, (.bipush (-11)), 30, 0, 0, -11), (30, .ireturn, 31, 0, 0, 0), (31, (.iconst 0), 32, 0, 0, 0),
  (32, (.istore_n 3), 33, 0, 0, 0), (33, (.iload_n 2), 34, 0, 0, 0), (34, (.istore 4), 36, 0, 0, 0), (36, (.iload 4), 38, 0, 0, 0), (38, (.iload_n 2), 39, 0, 0, 0), (39, (.sipush 4000), 42, 0, 0, 4000),
  (42, .iadd, 43, 0, 0, 0), (43, (.if_icmp .ge 52), 46, 95, 0, 0), (46, (.iload 4), 48, 0, 0, 0), (48, (.ldc 184), 50, 0, 0, 100000), (50, (.if_icmp .gt 45), 53, 95, 0, 0), (53, (.iload_n 3), 54, 0, 0, 0),
  (54, (.aload_n 0), 55, 0, 0, 0), (55, (.getfield 70), 58, 8, 31, 2), (58, (.iload_n 1), 59, 0, 0, 0), (59, .iaload, 60, 0, 0, 0), (60, (.if_icmp .ge 35), 63, 95, 0, 0), (63, (.aload_n 0), 64, 0, 0, 0),
  (64, (.iload 4), 66, 0, 0, 0), (66, (.invokevirtual 173), 69, 171, 2, 1), (69, (.ifCond .le 20), 72, 89, 0, 0), (72, (.aload_n 0), 73, 0, 0, 0), (73, (.getfield 73), 76, 8, 32, 2), (76, (.bipush 40), 78, 0, 0, 40),
  (78, (.iload_n 1), 79, 0, 0, 0), (79, .imul, 80, 0, 0, 0), (80, (.iload_n 3), 81, 0, 0, 0), (81, .iadd, 82, 0, 0, 0), (82, (.iload 4), 84, 0, 0, 0), (84, .i2l, 85, 0, 0, 0),
  (85, .lastore, 86, 0, 0, 0), (86, (.iinc 3 1), 89, 0, 0, 0), (89, (.iinc 4 1), 92, 0, 0, 0), (92, (.goto (-56)), 95, 36, 0, 0), (95, (.iload_n 3), 96, 0, 0, 0), (96, .ireturn, 97, 0, 0, 0)]
set_option maxRecDepth 100000 in
/-- M.judge(II)I -/
noncomputable def ew_cd_235 : List ew_Ent := [(0, (.iload_n 1), 1, 0, 0, 0), (1, (.invokestatic 340), 4, 231, 1, 0), (4, (.ifCond .ne 5), 7, 9, 0, 0), (7, (.iconst (-1)), 8, 0, 0, -1), (8, .ireturn, 9, 0, 0, 0), (9, (.iload_n 2), 10, 0, 0, 0),
  (10, (.invokestatic 133), 13, 164, 1, 0), (13, (.ifCond .ne 6), 16, 19, 0, 0), (16, (.bipush (-2)), 18, 0, 0, -2), (18, .ireturn, 19, 0, 0, 0), (19, (.aload_n 0), 20, 0, 0, 0), (20, (.getfield 70), 23, 8, 31, 2),
  (23, (.iload_n 1), 24, 0, 0, 0), (24, .iaload, 25, 0, 0, 0), (25, (.ifCond .ge 6), 28, 31, 0, 0), (28, (.bipush (-11)), 30, 0, 0, -11), (30, .ireturn, 31, 0, 0, 0), (31, (.iconst 0), 32, 0, 0, 0),
  (32, (.istore_n 3), 33, 0, 0, 0), (33, (.iload_n 2), 34, 0, 0, 0), (34, (.istore 4), 36, 0, 0, 0), (36, (.iload 4), 38, 0, 0, 0), (38, (.iload_n 2), 39, 0, 0, 0), (39, (.sipush 4000), 42, 0, 0, 4000),
  (42, .iadd, 43, 0, 0, 0), (43, (.if_icmp .ge 58), 46, 101, 0, 0), (46, (.iload 4), 48, 0, 0, 0), (48, (.ldc 184), 50, 0, 0, 100000), (50, (.if_icmp .gt 51), 53, 101, 0, 0), (53, (.iload_n 3), 54, 0, 0, 0),
  (54, (.aload_n 0), 55, 0, 0, 0), (55, (.getfield 70), 58, 8, 31, 2), (58, (.iload_n 1), 59, 0, 0, 0), (59, .iaload, 60, 0, 0, 0), (60, (.if_icmp .ge 41), 63, 101, 0, 0), (63, (.aload_n 0), 64, 0, 0, 0),
  (64, (.iload 4), 66, 0, 0, 0), (66, (.invokevirtual 173), 69, 171, 2, 1), (69, (.ifCond .le 26), 72, 95, 0, 0), (72, (.aload_n 0), 73, 0, 0, 0), (73, (.getfield 73), 76, 8, 32, 2), (76, (.bipush 40), 78, 0, 0, 40),
  (78, (.iload_n 1), 79, 0, 0, 0), (79, .imul, 80, 0, 0, 0), (80, (.iload_n 3), 81, 0, 0, 0), (81, .iadd, 82, 0, 0, 0), (82, .laload, 83, 0, 0, 0), (83, (.iload 4), 85, 0, 0, 0),
  (85, .i2l, 86, 0, 0, 0), (86, .lcmp, 87, 0, 0, 0), (87, (.ifCond .eq 5), 90, 92, 0, 0), (90, (.iload_n 3), 91, 0, 0, 0), (91, .ireturn, 92, 0, 0, 0), (92, (.iinc 3 1), 95, 0, 0, 0),
  (95, (.iinc 4 1), 98, 0, 0, 0), (98, (.goto (-62)), 101, 36, 0, 0), (101, (.iload_n 3), 102, 0, 0, 0), (102, (.aload_n 0), 103, 0, 0, 0), (103, (.getfield 70), 106, 8, 31, 2), (106, (.iload_n 1), 107, 0, 0, 0),
  (107, .iaload, 108, 0, 0, 0), (108, (.if_icmp .ge 7), 111, 115, 0, 0), (111, (.iload_n 3), 112, 0, 0, 0), (112, (.goto 5), 115, 117, 0, 0), (115, (.bipush (-5)), 117, 0, 0, -5), (117, .ireturn, 118, 0, 0, 0)]
set_option maxRecDepth 100000 in
/-- M.count(I)I -/
noncomputable def ew_cd_236 : List ew_Ent := [(0, (.iload_n 1), 1, 0, 0, 0), (1, (.tableswitch 60 0 4 #[35, 40, 45, 50, 55]), 36, 61, 0, 0), (36, (.aload_n 0), 37, 0, 0, 0), (37, (.getfield 77), 40, 8, 5, 0), (40, .ireturn, 41, 0, 0, 0), (41, (.aload_n 0), 42, 0, 0, 0),
  (42, (.getfield 278), 45, 8, 21, 0), (45, .ireturn, 46, 0, 0, 0), (46, (.aload_n 0), 47, 0, 0, 0), (47, (.getfield 328), 50, 8, 22, 0), (50, .ireturn, 51, 0, 0, 0), (51, (.aload_n 0), 52, 0, 0, 0),
  (52, (.getfield 130), 55, 8, 7, 0), (55, .ireturn, 56, 0, 0, 0), (56, (.aload_n 0), 57, 0, 0, 0), (57, (.getfield 30), 60, 8, 8, 0), (60, .ireturn, 61, 0, 0, 0), (61, (.iload_n 1), 62, 0, 0, 0),
  (62, .i2l, 63, 0, 0, 0), (63, (.ldc2_w 145), 66, 1, 0, 5), (66, (.ldc2_w 343), 69, 1, 0, 10), (69, (.invokestatic 80), 72, 150, 3, 0), (72, (.ifCond .eq 14), 75, 86, 0, 0), (75, (.aload_n 0), 76, 0, 0, 0),
  (76, (.getfield 34), 79, 8, 9, 2), (79, (.iload_n 1), 80, 0, 0, 0), (80, (.iconst 5), 81, 0, 0, 5), (81, .isub, 82, 0, 0, 0), (82, .iaload, 83, 0, 0, 0), (83, (.goto 5), 86, 88, 0, 0),
  (86, (.bipush (-2)), 88, 0, 0, -2), (88, .ireturn, 89, 0, 0, 0)]
set_option maxRecDepth 100000 in
/-- M.image()I -/
noncomputable def ew_cd_237 : List ew_Ent := [(0, (.aload_n 0), 1, 0, 0, 0), (1, (.iconst 1), 2, 0, 0, 1), (2, (.putfield 345), 5, 8, 11, 5), (5, (.iconst 0), 6, 0, 0, 0), (6, (.istore_n 1), 7, 0, 0, 0), (7, (.iload_n 1), 8, 0, 0, 0),
  (8, (.aload_n 0), 9, 0, 0, 0), (9, (.getfield 77), 12, 8, 5, 0), (12, (.if_icmp .ge 112), 15, 124, 0, 0), (15, (.aload_n 0), 16, 0, 0, 0), (16, (.getfield 37), 19, 8, 10, 2), (19, (.iconst 5), 20, 0, 0, 5),
  (20, (.iload_n 1), 21, 0, 0, 0), (21, .imul, 22, 0, 0, 0), (22, (.aload_n 0), 23, 0, 0, 0), (23, (.getfield 9), 26, 8, 0, 2), (26, (.aload_n 0), 27, 0, 0, 0), (27, (.getfield 27), 30, 8, 6, 2),
  (30, (.iload_n 1), 31, 0, 0, 0), (31, .iaload, 32, 0, 0, 0), (32, .iaload, 33, 0, 0, 0), (33, .iastore, 34, 0, 0, 0), (34, (.aload_n 0), 35, 0, 0, 0), (35, (.getfield 37), 38, 8, 10, 2),
  (38, (.iconst 5), 39, 0, 0, 5), (39, (.iload_n 1), 40, 0, 0, 0), (40, .imul, 41, 0, 0, 0), (41, (.iconst 1), 42, 0, 0, 1), (42, .iadd, 43, 0, 0, 0), (43, (.aload_n 0), 44, 0, 0, 0),
  (44, (.getfield 15), 47, 8, 1, 2), (47, (.aload_n 0), 48, 0, 0, 0), (48, (.getfield 27), 51, 8, 6, 2), (51, (.iload_n 1), 52, 0, 0, 0), (52, .iaload, 53, 0, 0, 0), (53, .iaload, 54, 0, 0, 0),
  (54, .iastore, 55, 0, 0, 0), (55, (.aload_n 0), 56, 0, 0, 0), (56, (.getfield 37), 59, 8, 10, 2), (59, (.iconst 5), 60, 0, 0, 5), (60, (.iload_n 1), 61, 0, 0, 0), (61, .imul, 62, 0, 0, 0),
  (62, (.iconst 2), 63, 0, 0, 2), (63, .iadd, 64, 0, 0, 0), (64, (.aload_n 0), 65, 0, 0, 0), (65, (.getfield 18), 68, 8, 2, 2), (68, (.aload_n 0), 69, 0, 0, 0), (69, (.getfield 27), 72, 8, 6, 2),
  (72, (.iload_n 1), 73, 0, 0, 0), (73, .iaload, 74, 0, 0, 0), (74, .iaload, 75, 0, 0, 0), (75, .iastore, 76, 0, 0, 0), (76, (.aload_n 0), 77, 0, 0, 0), (77, (.getfield 37), 80, 8, 10, 2),
  (80, (.iconst 5), 81, 0, 0, 5), (81, (.iload_n 1), 82, 0, 0, 0), (82, .imul, 83, 0, 0, 0), (83, (.iconst 3), 84, 0, 0, 3), (84, .iadd, 85, 0, 0, 0), (85, (.aload_n 0), 86, 0, 0, 0),
  (86, (.getfield 21), 89, 8, 3, 2), (89, (.aload_n 0), 90, 0, 0, 0), (90, (.getfield 27), 93, 8, 6, 2), (93, (.iload_n 1), 94, 0, 0, 0), (94, .iaload, 95, 0, 0, 0), (95, .iaload, 96, 0, 0, 0),
  (96, .iastore, 97, 0, 0, 0), (97, (.aload_n 0), 98, 0, 0, 0), (98, (.getfield 37), 101, 8, 10, 2), (101, (.iconst 5), 102, 0, 0, 5), (102, (.iload_n 1), 103, 0, 0, 0), (103, .imul, 104, 0, 0, 0),
  (104, (.iconst 4), 105, 0, 0, 4), (105, .iadd, 106, 0, 0, 0), (106, (.aload_n 0), 107, 0, 0, 0), (107, (.getfield 24), 110, 8, 4, 2), (110, (.aload_n 0), 111, 0, 0, 0), (111, (.getfield 27), 114, 8, 6, 2),
  (114, (.iload_n 1), 115, 0, 0, 0), (115, .iaload, 116, 0, 0, 0), (116, .iaload, 117, 0, 0, 0), (117, .iastore, 118, 0, 0, 0), (118, (.iinc 1 1), 121, 0, 0, 0), (121, (.goto (-114)), 124, 7, 0, 0),
  (124, (.aload_n 0), 125, 0, 0, 0), (125, (.getfield 37), 128, 8, 10, 2), (128, (.bipush 30), 130, 0, 0, 30), (130, (.aload_n 0), 131, 0, 0, 0), (131, (.getfield 77), 134, 8, 5, 0), (134, .iastore, 135, 0, 0, 0),
  (135, (.aload_n 0), 136, 0, 0, 0), (136, (.getfield 37), 139, 8, 10, 2), (139, (.bipush 31), 141, 0, 0, 31), (141, (.aload_n 0), 142, 0, 0, 0), (142, (.getfield 130), 145, 8, 7, 0), (145, .iastore, 146, 0, 0, 0),
  (146, (.aload_n 0), 147, 0, 0, 0), (147, (.getfield 37), 150, 8, 10, 2), (150, (.bipush 32), 152, 0, 0, 32), (152, (.aload_n 0), 153, 0, 0, 0), (153, (.getfield 30), 156, 8, 8, 0), (156, .iastore, 157, 0, 0, 0),
  (157, (.iconst 0), 158, 0, 0, 0), (158, (.istore_n 1), 159, 0, 0, 0), (159, (.iload_n 1), 160, 0, 0, 0), (160, (.bipush 6), 162, 0, 0, 6), (162, (.if_icmp .ge 24), 165, 186, 0, 0), (165, (.aload_n 0), 166, 0, 0, 0),
  (166, (.getfield 37), 169, 8, 10, 2), (169, (.bipush 33), 171, 0, 0, 33), (171, (.iload_n 1), 172, 0, 0, 0), (172, .iadd, 173, 0, 0, 0), (173, (.aload_n 0), 174, 0, 0, 0), (174, (.getfield 34), 177, 8, 9, 2),
  (177, (.iload_n 1), 178, 0, 0, 0), (178, .iaload, 179, 0, 0, 0), (179, .iastore, 180, 0, 0, 0), (180, (.iinc 1 1), 183, 0, 0, 0), (183, (.goto (-24)), 186, 159, 0, 0), (186, (.aload_n 0), 187, 0, 0, 0),
  (187, (.getfield 77), 190, 8, 5, 0), (190, .ireturn, 191, 0, 0, 0)]
set_option maxRecDepth 100000 in
/-- M.undo()I -/
noncomputable def ew_cd_238 : List ew_Ent := [(0, (.aload_n 0), 1, 0, 0, 0), (1, (.getfield 345), 4, 8, 11, 0), (4, (.ifCond .ne 6), 7, 10, 0, 0), (7, (.bipush (-3)), 9, 0, 0, -3), (9, .ireturn, 10, 0, 0, 0), (10, (.aload_n 0), 11, 0, 0, 0),
  (11, (.iconst 0), 12, 0, 0, 0), (12, (.putfield 77), 15, 8, 5, 0), (15, (.iconst 0), 16, 0, 0, 0), (16, (.istore_n 1), 17, 0, 0, 0), (17, (.iload_n 1), 18, 0, 0, 0), (18, (.aload_n 0), 19, 0, 0, 0),
  (19, (.getfield 37), 22, 8, 10, 2), (22, (.bipush 30), 24, 0, 0, 30), (24, .iaload, 25, 0, 0, 0), (25, (.if_icmp .ge 61), 28, 86, 0, 0), (28, (.aload_n 0), 29, 0, 0, 0), (29, (.aload_n 0), 30, 0, 0, 0),
  (30, (.getfield 37), 33, 8, 10, 2), (33, (.iconst 5), 34, 0, 0, 5), (34, (.iload_n 1), 35, 0, 0, 0), (35, .imul, 36, 0, 0, 0), (36, .iaload, 37, 0, 0, 0), (37, (.aload_n 0), 38, 0, 0, 0),
  (38, (.getfield 37), 41, 8, 10, 2), (41, (.iconst 5), 42, 0, 0, 5), (42, (.iload_n 1), 43, 0, 0, 0), (43, .imul, 44, 0, 0, 0), (44, (.iconst 1), 45, 0, 0, 1), (45, .iadd, 46, 0, 0, 0),
  (46, .iaload, 47, 0, 0, 0), (47, (.aload_n 0), 48, 0, 0, 0), (48, (.getfield 37), 51, 8, 10, 2), (51, (.iconst 5), 52, 0, 0, 5), (52, (.iload_n 1), 53, 0, 0, 0), (53, .imul, 54, 0, 0, 0),
  (54, (.iconst 2), 55, 0, 0, 2), (55, .iadd, 56, 0, 0, 0), (56, .iaload, 57, 0, 0, 0), (57, (.aload_n 0), 58, 0, 0, 0), (58, (.getfield 37), 61, 8, 10, 2), (61, (.iconst 5), 62, 0, 0, 5),
  (62, (.iload_n 1), 63, 0, 0, 0), (63, .imul, 64, 0, 0, 0), (64, (.iconst 3), 65, 0, 0, 3), (65, .iadd, 66, 0, 0, 0), (66, .iaload, 67, 0, 0, 0), (67, (.aload_n 0), 68, 0, 0, 0),
  (68, (.getfield 37), 71, 8, 10, 2), (71, (.iconst 5), 72, 0, 0, 5), (72, (.iload_n 1), 73, 0, 0, 0), (73, .imul, 74, 0, 0, 0), (74, (.iconst 4), 75, 0, 0, 4), (75, .iadd, 76, 0, 0, 0),
  (76, .iaload, 77, 0, 0, 0), (77, (.invokevirtual 106), 80, 153, 6, 1), (80, (.iinc 1 1), 83, 0, 0, 0), (83, (.goto (-66)), 86, 17, 0, 0), (86, (.aload_n 0), 87, 0, 0, 0), (87, (.aload_n 0), 88, 0, 0, 0),
  (88, (.getfield 37), 91, 8, 10, 2), (91, (.bipush 31), 93, 0, 0, 31), (93, .iaload, 94, 0, 0, 0), (94, (.putfield 130), 97, 8, 7, 0), (97, (.aload_n 0), 98, 0, 0, 0), (98, (.aload_n 0), 99, 0, 0, 0),
  (99, (.getfield 37), 102, 8, 10, 2), (102, (.bipush 32), 104, 0, 0, 32), (104, .iaload, 105, 0, 0, 0), (105, (.putfield 30), 108, 8, 8, 0), (108, (.iconst 0), 109, 0, 0, 0), (109, (.istore_n 1), 110, 0, 0, 0),
  (110, (.iload_n 1), 111, 0, 0, 0), (111, (.bipush 6), 113, 0, 0, 6), (113, (.if_icmp .ge 24), 116, 137, 0, 0), (116, (.aload_n 0), 117, 0, 0, 0), (117, (.getfield 34), 120, 8, 9, 2), (120, (.iload_n 1), 121, 0, 0, 0),
  (121, (.aload_n 0), 122, 0, 0, 0), (122, (.getfield 37), 125, 8, 10, 2), (125, (.bipush 33), 127, 0, 0, 33), (127, (.iload_n 1), 128, 0, 0, 0), (128, .iadd, 129, 0, 0, 0), (129, .iaload, 130, 0, 0, 0),
  (130, .iastore, 131, 0, 0, 0), (131, (.iinc 1 1), 134, 0, 0, 0), (134, (.goto (-24)), 137, 110, 0, 0), (137, (.aload_n 0), 138, 0, 0, 0), (138, (.getfield 77), 141, 8, 5, 0), (141, .ireturn, 142, 0, 0, 0)]
set_option maxRecDepth 100000 in
/-- Law.law([I)Z -/
noncomputable def ew_cd_239 : List ew_Ent := [(0, (.new 7), 3, 7, 0, 0), (3, .dup, 4, 0, 0, 0), (4, (.invokespecial 9), 7, 88, 1, 2), (7, (.astore_n 1), 8, 0, 0, 0), (8, (.new 10), 11, 8, 0, 0), (11, .dup, 12, 0, 0, 0),
  (12, (.invokespecial 12), 15, 148, 1, 2), (15, (.astore_n 2), 16, 0, 0, 0), (16, (.iconst 0), 17, 0, 0, 0), (17, (.istore_n 3), 18, 0, 0, 0), (18, (.iload_n 3), 19, 0, 0, 0), (19, (.aload_n 0), 20, 0, 0, 0),
  (20, .arraylength, 21, 0, 0, 0), (21, (.bipush 6), 23, 0, 0, 6), (23, .isub, 24, 0, 0, 0), (24, (.if_icmp .gt 1762), 27, 1786, 0, 0), (27, (.aload_n 0), 28, 0, 0, 0), (28, (.iload_n 3), 29, 0, 0, 0),
  (29, .iaload, 30, 0, 0, 0), (30, (.bipush 63), 32, 0, 0, 63), (32, .iand, 33, 0, 0, 0), (33, (.tableswitch 1747 0 44 #[195, 248, 281, 324, 337, 370, 404, 437, 470, 503, 546, 579, 622, 675, 708, 741, 774, 797, 830, 874, 907, 941, 964, 998, 1031, 1094, 1118, 1142, 1195, 1218, 1251, 1294, 1317, 1330, 1373, 1416, 1459, 1492, 1525, 1598, 1632, 1665, 1698, 1721, 1734]), 228, 1780, 0, 0), (228, (.aload_n 1), 229, 0, 0, 0), (229, (.aload_n 0), 230, 0, 0, 0),
  (230, (.iload_n 3), 231, 0, 0, 0), (231, (.iconst 1), 232, 0, 0, 1), (232, .iadd, 233, 0, 0, 0), (233, .iaload, 234, 0, 0, 0), (234, (.aload_n 0), 235, 0, 0, 0), (235, (.iload_n 3), 236, 0, 0, 0),
  (236, (.iconst 2), 237, 0, 0, 2), (237, .iadd, 238, 0, 0, 0), (238, .iaload, 239, 0, 0, 0), (239, (.aload_n 0), 240, 0, 0, 0), (240, (.iload_n 3), 241, 0, 0, 0), (241, (.iconst 3), 242, 0, 0, 3),
  (242, .iadd, 243, 0, 0, 0), (243, .iaload, 244, 0, 0, 0), (244, (.aload_n 0), 245, 0, 0, 0), (245, (.iload_n 3), 246, 0, 0, 0), (246, (.iconst 4), 247, 0, 0, 4), (247, .iadd, 248, 0, 0, 0),
  (248, .iaload, 249, 0, 0, 0), (249, (.invokevirtual 13), 252, 89, 5, 1), (252, (.aload_n 2), 253, 0, 0, 0), (253, (.aload_n 0), 254, 0, 0, 0), (254, (.iload_n 3), 255, 0, 0, 0), (255, (.iconst 1), 256, 0, 0, 1),
  (256, .iadd, 257, 0, 0, 0), (257, .iaload, 258, 0, 0, 0), (258, (.aload_n 0), 259, 0, 0, 0), (259, (.iload_n 3), 260, 0, 0, 0), (260, (.iconst 2), 261, 0, 0, 2), (261, .iadd, 262, 0, 0, 0),
  (262, .iaload, 263, 0, 0, 0), (263, (.aload_n 0), 264, 0, 0, 0), (264, (.iload_n 3), 265, 0, 0, 0), (265, (.iconst 3), 266, 0, 0, 3), (266, .iadd, 267, 0, 0, 0), (267, .iaload, 268, 0, 0, 0),
  (268, (.aload_n 0), 269, 0, 0, 0), (269, (.iload_n 3), 270, 0, 0, 0), (270, (.iconst 4), 271, 0, 0, 4), (271, .iadd, 272, 0, 0, 0), (272, .iaload, 273, 0, 0, 0), (273, (.invokevirtual 17), 276, 149, 5, 1),
  (276, (.if_icmp .eq 1504), 279, 1780, 0, 0), (279, (.iconst 0), 280, 0, 0, 0), (280, .ireturn, 281, 0, 1, 0), (281, (.aload_n 1), 282, 0, 0, 0), (282, (.aload_n 0), 283, 0, 0, 0), (283, (.iload_n 3), 284, 0, 0, 0),
  (284, (.iconst 1), 285, 0, 0, 1), (285, .iadd, 286, 0, 0, 0), (286, .iaload, 287, 0, 0, 0), (287, (.aload_n 0), 288, 0, 0, 0), (288, (.iload_n 3), 289, 0, 0, 0), (289, (.iconst 2), 290, 0, 0, 2),
  (290, .iadd, 291, 0, 0, 0), (291, .iaload, 292, 0, 0, 0), (292, (.invokevirtual 18), 295, 90, 3, 1), (295, (.aload_n 2), 296, 0, 0, 0), (296, (.aload_n 0), 297, 0, 0, 0), (297, (.iload_n 3), 298, 0, 0, 0),
  (298, (.iconst 1), 299, 0, 0, 1), (299, .iadd, 300, 0, 0, 0), (300, .iaload, 301, 0, 0, 0), (301, (.aload_n 0), 302, 0, 0, 0), (302, (.iload_n 3), 303, 0, 0, 0), (303, (.iconst 2), 304, 0, 0, 2),
  (304, .iadd, 305, 0, 0, 0), (305, .iaload, 306, 0, 0, 0), (306, (.invokevirtual 22), 309, 155, 3, 1), (309, (.if_icmp .eq 1471), 312, 1780, 0, 0), (312, (.iconst 0), 313, 0, 0, 0), (313, .ireturn, 314, 0, 1, 0),
  (314, (.aload_n 1), 315, 0, 0, 0), (315, (.aload_n 0), 316, 0, 0, 0), (316, (.iload_n 3), 317, 0, 0, 0), (317, (.iconst 1), 318, 0, 0, 1), (318, .iadd, 319, 0, 0, 0), (319, .iaload, 320, 0, 0, 0),
  (320, (.aload_n 0), 321, 0, 0, 0), (321, (.iload_n 3), 322, 0, 0, 0), (322, (.iconst 2), 323, 0, 0, 2), (323, .iadd, 324, 0, 0, 0), (324, .iaload, 325, 0, 0, 0), (325, (.aload_n 0), 326, 0, 0, 0),
  (326, (.iload_n 3), 327, 0, 0, 0), (327, (.iconst 3), 328, 0, 0, 3), (328, .iadd, 329, 0, 0, 0), (329, .iaload, 330, 0, 0, 0), (330, (.invokevirtual 23), 333, 91, 4, 1), (333, (.aload_n 2), 334, 0, 0, 0),
  (334, (.aload_n 0), 335, 0, 0, 0), (335, (.iload_n 3), 336, 0, 0, 0), (336, (.iconst 1), 337, 0, 0, 1), (337, .iadd, 338, 0, 0, 0), (338, .iaload, 339, 0, 0, 0), (339, (.aload_n 0), 340, 0, 0, 0),
  (340, (.iload_n 3), 341, 0, 0, 0), (341, (.iconst 2), 342, 0, 0, 2), (342, .iadd, 343, 0, 0, 0), (343, .iaload, 344, 0, 0, 0), (344, (.aload_n 0), 345, 0, 0, 0), (345, (.iload_n 3), 346, 0, 0, 0),
  (346, (.iconst 3), 347, 0, 0, 3), (347, .iadd, 348, 0, 0, 0), (348, .iaload, 349, 0, 0, 0), (349, (.invokevirtual 27), 352, 157, 4, 1), (352, (.if_icmp .eq 1428), 355, 1780, 0, 0), (355, (.iconst 0), 356, 0, 0, 0),
  (356, .ireturn, 357, 0, 1, 0), (357, (.aload_n 1), 358, 0, 0, 0), (358, (.invokevirtual 28), 361, 92, 1, 1), (361, (.aload_n 2), 362, 0, 0, 0), (362, (.invokevirtual 32), 365, 162, 1, 1), (365, (.if_icmp .eq 1415), 368, 1780, 0, 0),
  (368, (.iconst 0), 369, 0, 0, 0), (369, .ireturn, 370, 0, 1, 0), (370, (.aload_n 1), 371, 0, 0, 0), (371, (.aload_n 0), 372, 0, 0, 0), (372, (.iload_n 3), 373, 0, 0, 0), (373, (.iconst 1), 374, 0, 0, 1),
  (374, .iadd, 375, 0, 0, 0), (375, .iaload, 376, 0, 0, 0), (376, (.aload_n 0), 377, 0, 0, 0), (377, (.iload_n 3), 378, 0, 0, 0), (378, (.iconst 2), 379, 0, 0, 2), (379, .iadd, 380, 0, 0, 0),
  (380, .iaload, 381, 0, 0, 0), (381, (.invokevirtual 33), 384, 93, 3, 1), (384, (.aload_n 2), 385, 0, 0, 0), (385, (.aload_n 0), 386, 0, 0, 0), (386, (.iload_n 3), 387, 0, 0, 0), (387, (.iconst 1), 388, 0, 0, 1),
  (388, .iadd, 389, 0, 0, 0), (389, .iaload, 390, 0, 0, 0), (390, (.aload_n 0), 391, 0, 0, 0), (391, (.iload_n 3), 392, 0, 0, 0), (392, (.iconst 2), 393, 0, 0, 2), (393, .iadd, 394, 0, 0, 0),
  (394, .iaload, 395, 0, 0, 0), (395, (.invokevirtual 36), 398, 163, 3, 1), (398, (.if_icmp .eq 1382), 401, 1780, 0, 0), (401, (.iconst 0), 402, 0, 0, 0), (402, .ireturn, 403, 0, 1, 0), (403, (.aload_n 1), 404, 0, 0, 0),
  (404, (.aload_n 0), 405, 0, 0, 0), (405, (.iload_n 3), 406, 0, 0, 0), (406, (.iconst 1), 407, 0, 0, 1), (407, .iadd, 408, 0, 0, 0), (408, .iaload, 409, 0, 0, 0), (409, (.aload_n 0), 410, 0, 0, 0),
  (410, (.iload_n 3), 411, 0, 0, 0), (411, (.iconst 2), 412, 0, 0, 2), (412, .iadd, 413, 0, 0, 0), (413, .iaload, 414, 0, 0, 0), (414, (.invokevirtual 37), 417, 95, 3, 1), (417, (.aload_n 2), 418, 0, 0, 0),
  (418, (.aload_n 0), 419, 0, 0, 0), (419, (.iload_n 3), 420, 0, 0, 0), (420, (.iconst 1), 421, 0, 0, 1), (421, .iadd, 422, 0, 0, 0), (422, .iaload, 423, 0, 0, 0), (423, (.aload_n 0), 424, 0, 0, 0),
  (424, (.iload_n 3), 425, 0, 0, 0), (425, (.iconst 2), 426, 0, 0, 2), (426, .iadd, 427, 0, 0, 0), (427, .iaload, 428, 0, 0, 0), (428, (.invokevirtual 41), 431, 165, 3, 1), (431, .lcmp, 432, 0, 0, 0),
  (432, (.ifCond .eq 1348), 435, 1780, 0, 0), (435, (.iconst 0), 436, 0, 0, 0), (436, .ireturn, 437, 0, 1, 0), (437, (.aload_n 1), 438, 0, 0, 0), (438, (.aload_n 0), 439, 0, 0, 0), (439, (.iload_n 3), 440, 0, 0, 0),
  (440, (.iconst 1), 441, 0, 0, 1), (441, .iadd, 442, 0, 0, 0), (442, .iaload, 443, 0, 0, 0), (443, (.aload_n 0), 444, 0, 0, 0), (444, (.iload_n 3), 445, 0, 0, 0), (445, (.iconst 2), 446, 0, 0, 2),
  (446, .iadd, 447, 0, 0, 0), (447, .iaload, 448, 0, 0, 0), (448, (.invokevirtual 42), 451, 96, 3, 1), (451, (.aload_n 2), 452, 0, 0, 0), (452, (.aload_n 0), 453, 0, 0, 0), (453, (.iload_n 3), 454, 0, 0, 0),
  (454, (.iconst 1), 455, 0, 0, 1), (455, .iadd, 456, 0, 0, 0), (456, .iaload, 457, 0, 0, 0), (457, (.aload_n 0), 458, 0, 0, 0), (458, (.iload_n 3), 459, 0, 0, 0), (459, (.iconst 2), 460, 0, 0, 2),
  (460, .iadd, 461, 0, 0, 0), (461, .iaload, 462, 0, 0, 0), (462, (.invokevirtual 45), 465, 167, 3, 1), (465, (.if_icmp .eq 1315), 468, 1780, 0, 0), (468, (.iconst 0), 469, 0, 0, 0), (469, .ireturn, 470, 0, 1, 0),
  (470, (.aload_n 1), 471, 0, 0, 0), (471, (.aload_n 0), 472, 0, 0, 0), (472, (.iload_n 3), 473, 0, 0, 0), (473, (.iconst 1), 474, 0, 0, 1), (474, .iadd, 475, 0, 0, 0), (475, .iaload, 476, 0, 0, 0),
  (476, (.aload_n 0), 477, 0, 0, 0), (477, (.iload_n 3), 478, 0, 0, 0), (478, (.iconst 2), 479, 0, 0, 2), (479, .iadd, 480, 0, 0, 0), (480, .iaload, 481, 0, 0, 0), (481, (.invokevirtual 46), 484, 97, 3, 1),
  (484, (.aload_n 2), 485, 0, 0, 0), (485, (.aload_n 0), 486, 0, 0, 0), (486, (.iload_n 3), 487, 0, 0, 0), (487, (.iconst 1), 488, 0, 0, 1), (488, .iadd, 489, 0, 0, 0), (489, .iaload, 490, 0, 0, 0),
  (490, (.aload_n 0), 491, 0, 0, 0), (491, (.iload_n 3), 492, 0, 0, 0), (492, (.iconst 2), 493, 0, 0, 2), (493, .iadd, 494, 0, 0, 0), (494, .iaload, 495, 0, 0, 0), (495, (.invokevirtual 49), 498, 168, 3, 1),
  (498, (.if_icmp .eq 1282), 501, 1780, 0, 0), (501, (.iconst 0), 502, 0, 0, 0), (502, .ireturn, 503, 0, 1, 0), (503, (.aload_n 1), 504, 0, 0, 0), (504, (.aload_n 0), 505, 0, 0, 0), (505, (.iload_n 3), 506, 0, 0, 0),
  (506, (.iconst 1), 507, 0, 0, 1), (507, .iadd, 508, 0, 0, 0), (508, .iaload, 509, 0, 0, 0), (509, (.aload_n 0), 510, 0, 0, 0), (510, (.iload_n 3), 511, 0, 0, 0), (511, (.iconst 2), 512, 0, 0, 2),
  (512, .iadd, 513, 0, 0, 0), (513, .iaload, 514, 0, 0, 0), (514, (.invokevirtual 50), 517, 98, 3, 1), (517, (.aload_n 2), 518, 0, 0, 0), (518, (.aload_n 0), 519, 0, 0, 0), (519, (.iload_n 3), 520, 0, 0, 0),
  (520, (.iconst 1), 521, 0, 0, 1), (521, .iadd, 522, 0, 0, 0), (522, .iaload, 523, 0, 0, 0), (523, (.aload_n 0), 524, 0, 0, 0), (524, (.iload_n 3), 525, 0, 0, 0), (525, (.iconst 2), 526, 0, 0, 2),
  (526, .iadd, 527, 0, 0, 0), (527, .iaload, 528, 0, 0, 0), (528, (.invokevirtual 53), 531, 170, 3, 1), (531, (.if_icmp .eq 1249), 534, 1780, 0, 0), (534, (.iconst 0), 535, 0, 0, 0), (535, .ireturn, 536, 0, 1, 0),
  (536, (.aload_n 1), 537, 0, 0, 0), (537, (.aload_n 0), 538, 0, 0, 0), (538, (.iload_n 3), 539, 0, 0, 0), (539, (.iconst 1), 540, 0, 0, 1), (540, .iadd, 541, 0, 0, 0), (541, .iaload, 542, 0, 0, 0),
  (542, (.aload_n 0), 543, 0, 0, 0), (543, (.iload_n 3), 544, 0, 0, 0), (544, (.iconst 2), 545, 0, 0, 2), (545, .iadd, 546, 0, 0, 0), (546, .iaload, 547, 0, 0, 0), (547, (.aload_n 0), 548, 0, 0, 0),
  (548, (.iload_n 3), 549, 0, 0, 0), (549, (.iconst 3), 550, 0, 0, 3), (550, .iadd, 551, 0, 0, 0), (551, .iaload, 552, 0, 0, 0), (552, (.invokevirtual 54), 555, 99, 4, 1), (555, (.aload_n 2), 556, 0, 0, 0),
  (556, (.aload_n 0), 557, 0, 0, 0), (557, (.iload_n 3), 558, 0, 0, 0), (558, (.iconst 1), 559, 0, 0, 1), (559, .iadd, 560, 0, 0, 0), (560, .iaload, 561, 0, 0, 0), (561, (.aload_n 0), 562, 0, 0, 0),
  (562, (.iload_n 3), 563, 0, 0, 0), (563, (.iconst 2), 564, 0, 0, 2), (564, .iadd, 565, 0, 0, 0), (565, .iaload, 566, 0, 0, 0), (566, (.aload_n 0), 567, 0, 0, 0), (567, (.iload_n 3), 568, 0, 0, 0),
  (568, (.iconst 3), 569, 0, 0, 3), (569, .iadd, 570, 0, 0, 0), (570, .iaload, 571, 0, 0, 0), (571, (.invokevirtual 57), 574, 177, 4, 1), (574, (.if_icmp .eq 1206), 577, 1780, 0, 0), (577, (.iconst 0), 578, 0, 0, 0),
  (578, .ireturn, 579, 0, 1, 0), (579, (.aload_n 1), 580, 0, 0, 0), (580, (.aload_n 0), 581, 0, 0, 0), (581, (.iload_n 3), 582, 0, 0, 0), (582, (.iconst 1), 583, 0, 0, 1), (583, .iadd, 584, 0, 0, 0),
  (584, .iaload, 585, 0, 0, 0), (585, (.aload_n 0), 586, 0, 0, 0), (586, (.iload_n 3), 587, 0, 0, 0), (587, (.iconst 2), 588, 0, 0, 2), (588, .iadd, 589, 0, 0, 0), (589, .iaload, 590, 0, 0, 0),
  (590, (.invokevirtual 58), 593, 101, 3, 1), (593, (.aload_n 2), 594, 0, 0, 0), (594, (.aload_n 0), 595, 0, 0, 0), (595, (.iload_n 3), 596, 0, 0, 0), (596, (.iconst 1), 597, 0, 0, 1), (597, .iadd, 598, 0, 0, 0),
  (598, .iaload, 599, 0, 0, 0), (599, (.aload_n 0), 600, 0, 0, 0), (600, (.iload_n 3), 601, 0, 0, 0), (601, (.iconst 2), 602, 0, 0, 2), (602, .iadd, 603, 0, 0, 0), (603, .iaload, 604, 0, 0, 0),
  (604, (.invokevirtual 61), 607, 179, 3, 1), (607, (.if_icmp .eq 1173), 610, 1780, 0, 0), (610, (.iconst 0), 611, 0, 0, 0), (611, .ireturn, 612, 0, 1, 0), (612, (.aload_n 1), 613, 0, 0, 0), (613, (.aload_n 0), 614, 0, 0, 0),
  (614, (.iload_n 3), 615, 0, 0, 0), (615, (.iconst 1), 616, 0, 0, 1), (616, .iadd, 617, 0, 0, 0), (617, .iaload, 618, 0, 0, 0), (618, (.aload_n 0), 619, 0, 0, 0), (619, (.iload_n 3), 620, 0, 0, 0),
  (620, (.iconst 2), 621, 0, 0, 2), (621, .iadd, 622, 0, 0, 0), (622, .iaload, 623, 0, 0, 0), (623, (.aload_n 0), 624, 0, 0, 0), (624, (.iload_n 3), 625, 0, 0, 0), (625, (.iconst 3), 626, 0, 0, 3),
  (626, .iadd, 627, 0, 0, 0), (627, .iaload, 628, 0, 0, 0), (628, (.invokevirtual 62), 631, 102, 4, 1), (631, (.aload_n 2), 632, 0, 0, 0), (632, (.aload_n 0), 633, 0, 0, 0), (633, (.iload_n 3), 634, 0, 0, 0),
  (634, (.iconst 1), 635, 0, 0, 1), (635, .iadd, 636, 0, 0, 0), (636, .iaload, 637, 0, 0, 0), (637, (.aload_n 0), 638, 0, 0, 0), (638, (.iload_n 3), 639, 0, 0, 0), (639, (.iconst 2), 640, 0, 0, 2),
  (640, .iadd, 641, 0, 0, 0), (641, .iaload, 642, 0, 0, 0), (642, (.aload_n 0), 643, 0, 0, 0), (643, (.iload_n 3), 644, 0, 0, 0), (644, (.iconst 3), 645, 0, 0, 3), (645, .iadd, 646, 0, 0, 0),
  (646, .iaload, 647, 0, 0, 0), (647, (.invokevirtual 65), 650, 180, 4, 1), (650, (.if_icmp .eq 1130), 653, 1780, 0, 0), (653, (.iconst 0), 654, 0, 0, 0), (654, .ireturn, 655, 0, 1, 0), (655, (.aload_n 1), 656, 0, 0, 0),
  (656, (.aload_n 0), 657, 0, 0, 0), (657, (.iload_n 3), 658, 0, 0, 0), (658, (.iconst 1), 659, 0, 0, 1), (659, .iadd, 660, 0, 0, 0), (660, .iaload, 661, 0, 0, 0), (661, (.aload_n 0), 662, 0, 0, 0),
  (662, (.iload_n 3), 663, 0, 0, 0), (663, (.iconst 2), 664, 0, 0, 2), (664, .iadd, 665, 0, 0, 0), (665, .iaload, 666, 0, 0, 0), (666, (.aload_n 0), 667, 0, 0, 0), (667, (.iload_n 3), 668, 0, 0, 0),
  (668, (.iconst 3), 669, 0, 0, 3), (669, .iadd, 670, 0, 0, 0), (670, .iaload, 671, 0, 0, 0), (671, (.aload_n 0), 672, 0, 0, 0), (672, (.iload_n 3), 673, 0, 0, 0), (673, (.iconst 4), 674, 0, 0, 4),
  (674, .iadd, 675, 0, 0, 0), (675, .iaload, 676, 0, 0, 0), (676, (.invokevirtual 66), 679, 104, 5, 1), (679, (.aload_n 2), 680, 0, 0, 0), (680, (.aload_n 0), 681, 0, 0, 0), (681, (.iload_n 3), 682, 0, 0, 0),
  (682, (.iconst 1), 683, 0, 0, 1), (683, .iadd, 684, 0, 0, 0), (684, .iaload, 685, 0, 0, 0), (685, (.aload_n 0), 686, 0, 0, 0), (686, (.iload_n 3), 687, 0, 0, 0), (687, (.iconst 2), 688, 0, 0, 2),
  (688, .iadd, 689, 0, 0, 0), (689, .iaload, 690, 0, 0, 0), (690, (.aload_n 0), 691, 0, 0, 0), (691, (.iload_n 3), 692, 0, 0, 0), (692, (.iconst 3), 693, 0, 0, 3), (693, .iadd, 694, 0, 0, 0),
  (694, .iaload, 695, 0, 0, 0), (695, (.aload_n 0), 696, 0, 0, 0), (696, (.iload_n 3), 697, 0, 0, 0), (697, (.iconst 4), 698, 0, 0, 4), (698, .iadd, 699, 0, 0, 0), (699, .iaload, 700, 0, 0, 0),
  (700, (.invokevirtual 69), 703, 183, 5, 1), (703, (.if_icmp .eq 1077), 706, 1780, 0, 0), (706, (.iconst 0), 707, 0, 0, 0), (707, .ireturn, 708, 0, 1, 0), (708, (.aload_n 1), 709, 0, 0, 0), (709, (.aload_n 0), 710, 0, 0, 0),
  (710, (.iload_n 3), 711, 0, 0, 0), (711, (.iconst 1), 712, 0, 0, 1), (712, .iadd, 713, 0, 0, 0), (713, .iaload, 714, 0, 0, 0), (714, (.aload_n 0), 715, 0, 0, 0), (715, (.iload_n 3), 716, 0, 0, 0),
  (716, (.iconst 2), 717, 0, 0, 2), (717, .iadd, 718, 0, 0, 0), (718, .iaload, 719, 0, 0, 0), (719, (.invokevirtual 70), 722, 107, 3, 1), (722, (.aload_n 2), 723, 0, 0, 0), (723, (.aload_n 0), 724, 0, 0, 0),
  (724, (.iload_n 3), 725, 0, 0, 0), (725, (.iconst 1), 726, 0, 0, 1), (726, .iadd, 727, 0, 0, 0), (727, .iaload, 728, 0, 0, 0), (728, (.aload_n 0), 729, 0, 0, 0), (729, (.iload_n 3), 730, 0, 0, 0),
  (730, (.iconst 2), 731, 0, 0, 2), (731, .iadd, 732, 0, 0, 0), (732, .iaload, 733, 0, 0, 0), (733, (.invokevirtual 73), 736, 184, 3, 1), (736, (.if_icmp .eq 1044), 739, 1780, 0, 0), (739, (.iconst 0), 740, 0, 0, 0),
  (740, .ireturn, 741, 0, 1, 0), (741, (.aload_n 1), 742, 0, 0, 0), (742, (.aload_n 0), 743, 0, 0, 0), (743, (.iload_n 3), 744, 0, 0, 0), (744, (.iconst 1), 745, 0, 0, 1), (745, .iadd, 746, 0, 0, 0),
  (746, .iaload, 747, 0, 0, 0), (747, (.aload_n 0), 748, 0, 0, 0), (748, (.iload_n 3), 749, 0, 0, 0), (749, (.iconst 2), 750, 0, 0, 2), (750, .iadd, 751, 0, 0, 0), (751, .iaload, 752, 0, 0, 0),
  (752, (.invokevirtual 74), 755, 108, 3, 1), (755, (.aload_n 2), 756, 0, 0, 0), (756, (.aload_n 0), 757, 0, 0, 0), (757, (.iload_n 3), 758, 0, 0, 0), (758, (.iconst 1), 759, 0, 0, 1), (759, .iadd, 760, 0, 0, 0),
  (760, .iaload, 761, 0, 0, 0), (761, (.aload_n 0), 762, 0, 0, 0), (762, (.iload_n 3), 763, 0, 0, 0), (763, (.iconst 2), 764, 0, 0, 2), (764, .iadd, 765, 0, 0, 0), (765, .iaload, 766, 0, 0, 0),
  (766, (.invokevirtual 77), 769, 186, 3, 1), (769, (.if_icmp .eq 1011), 772, 1780, 0, 0), (772, (.iconst 0), 773, 0, 0, 0), (773, .ireturn, 774, 0, 1, 0), (774, (.aload_n 1), 775, 0, 0, 0), (775, (.aload_n 0), 776, 0, 0, 0),
  (776, (.iload_n 3), 777, 0, 0, 0), (777, (.iconst 1), 778, 0, 0, 1), (778, .iadd, 779, 0, 0, 0), (779, .iaload, 780, 0, 0, 0), (780, (.aload_n 0), 781, 0, 0, 0), (781, (.iload_n 3), 782, 0, 0, 0),
  (782, (.iconst 2), 783, 0, 0, 2), (783, .iadd, 784, 0, 0, 0), (784, .iaload, 785, 0, 0, 0), (785, (.invokevirtual 78), 788, 110, 3, 1), (788, (.aload_n 2), 789, 0, 0, 0), (789, (.aload_n 0), 790, 0, 0, 0),
  (790, (.iload_n 3), 791, 0, 0, 0), (791, (.iconst 1), 792, 0, 0, 1), (792, .iadd, 793, 0, 0, 0), (793, .iaload, 794, 0, 0, 0), (794, (.aload_n 0), 795, 0, 0, 0), (795, (.iload_n 3), 796, 0, 0, 0),
  (796, (.iconst 2), 797, 0, 0, 2), (797, .iadd, 798, 0, 0, 0), (798, .iaload, 799, 0, 0, 0), (799, (.invokevirtual 81), 802, 188, 3, 1), (802, (.if_icmp .eq 978), 805, 1780, 0, 0), (805, (.iconst 0), 806, 0, 0, 0),
  (806, .ireturn, 807, 0, 1, 0), (807, (.aload_n 1), 808, 0, 0, 0), (808, (.aload_n 0), 809, 0, 0, 0), (809, (.iload_n 3), 810, 0, 0, 0), (810, (.iconst 1), 811, 0, 0, 1), (811, .iadd, 812, 0, 0, 0),
  (812, .iaload, 813, 0, 0, 0), (813, (.invokevirtual 82), 816, 111, 2, 1), (816, (.aload_n 2), 817, 0, 0, 0), (817, (.aload_n 0), 818, 0, 0, 0), (818, (.iload_n 3), 819, 0, 0, 0), (819, (.iconst 1), 820, 0, 0, 1),
  (820, .iadd, 821, 0, 0, 0), (821, .iaload, 822, 0, 0, 0), (822, (.invokevirtual 86), 825, 189, 2, 1), (825, (.if_icmp .eq 955), 828, 1780, 0, 0), (828, (.iconst 0), 829, 0, 0, 0), (829, .ireturn, 830, 0, 1, 0),
  (830, (.aload_n 1), 831, 0, 0, 0), (831, (.aload_n 0), 832, 0, 0, 0), (832, (.iload_n 3), 833, 0, 0, 0), (833, (.iconst 1), 834, 0, 0, 1), (834, .iadd, 835, 0, 0, 0), (835, .iaload, 836, 0, 0, 0),
  (836, (.aload_n 0), 837, 0, 0, 0), (837, (.iload_n 3), 838, 0, 0, 0), (838, (.iconst 2), 839, 0, 0, 2), (839, .iadd, 840, 0, 0, 0), (840, .iaload, 841, 0, 0, 0), (841, (.invokevirtual 87), 844, 112, 3, 1),
  (844, (.aload_n 2), 845, 0, 0, 0), (845, (.aload_n 0), 846, 0, 0, 0), (846, (.iload_n 3), 847, 0, 0, 0), (847, (.iconst 1), 848, 0, 0, 1), (848, .iadd, 849, 0, 0, 0), (849, .iaload, 850, 0, 0, 0),
  (850, (.aload_n 0), 851, 0, 0, 0), (851, (.iload_n 3), 852, 0, 0, 0), (852, (.iconst 2), 853, 0, 0, 2), (853, .iadd, 854, 0, 0, 0), (854, .iaload, 855, 0, 0, 0), (855, (.invokevirtual 90), 858, 191, 3, 1),
  (858, (.if_icmp .eq 922), 861, 1780, 0, 0), (861, (.iconst 0), 862, 0, 0, 0), (862, .ireturn, 863, 0, 1, 0), (863, (.aload_n 1), 864, 0, 0, 0), (864, (.aload_n 0), 865, 0, 0, 0), (865, (.iload_n 3), 866, 0, 0, 0),
  (866, (.iconst 1), 867, 0, 0, 1), (867, .iadd, 868, 0, 0, 0), (868, .iaload, 869, 0, 0, 0), (869, (.aload_n 0), 870, 0, 0, 0), (870, (.iload_n 3), 871, 0, 0, 0), (871, (.iconst 2), 872, 0, 0, 2),
  (872, .iadd, 873, 0, 0, 0), (873, .iaload, 874, 0, 0, 0), (874, (.aload_n 0), 875, 0, 0, 0), (875, (.iload_n 3), 876, 0, 0, 0), (876, (.iconst 3), 877, 0, 0, 3), (877, .iadd, 878, 0, 0, 0),
  (878, .iaload, 879, 0, 0, 0), (879, (.invokevirtual 91), 882, 113, 4, 1), (882, (.aload_n 2), 883, 0, 0, 0), (883, (.aload_n 0), 884, 0, 0, 0), (884, (.iload_n 3), 885, 0, 0, 0), (885, (.iconst 1), 886, 0, 0, 1),
  (886, .iadd, 887, 0, 0, 0), (887, .iaload, 888, 0, 0, 0), (888, (.aload_n 0), 889, 0, 0, 0), (889, (.iload_n 3), 890, 0, 0, 0), (890, (.iconst 2), 891, 0, 0, 2), (891, .iadd, 892, 0, 0, 0),
  (892, .iaload, 893, 0, 0, 0), (893, (.aload_n 0), 894, 0, 0, 0), (894, (.iload_n 3), 895, 0, 0, 0), (895, (.iconst 3), 896, 0, 0, 3), (896, .iadd, 897, 0, 0, 0), (897, .iaload, 898, 0, 0, 0),
  (898, (.invokevirtual 95), 901, 192, 4, 1), (901, .lcmp, 902, 0, 0, 0), (902, (.ifCond .eq 878), 905, 1780, 0, 0), (905, (.iconst 0), 906, 0, 0, 0), (906, .ireturn, 907, 0, 1, 0), (907, (.aload_n 1), 908, 0, 0, 0),
  (908, (.aload_n 0), 909, 0, 0, 0), (909, (.iload_n 3), 910, 0, 0, 0), (910, (.iconst 1), 911, 0, 0, 1), (911, .iadd, 912, 0, 0, 0), (912, .iaload, 913, 0, 0, 0), (913, (.aload_n 0), 914, 0, 0, 0),
  (914, (.iload_n 3), 915, 0, 0, 0), (915, (.iconst 2), 916, 0, 0, 2), (916, .iadd, 917, 0, 0, 0), (917, .iaload, 918, 0, 0, 0), (918, (.invokevirtual 96), 921, 114, 3, 1), (921, (.aload_n 2), 922, 0, 0, 0),
  (922, (.aload_n 0), 923, 0, 0, 0), (923, (.iload_n 3), 924, 0, 0, 0), (924, (.iconst 1), 925, 0, 0, 1), (925, .iadd, 926, 0, 0, 0), (926, .iaload, 927, 0, 0, 0), (927, (.aload_n 0), 928, 0, 0, 0),
  (928, (.iload_n 3), 929, 0, 0, 0), (929, (.iconst 2), 930, 0, 0, 2), (930, .iadd, 931, 0, 0, 0), (931, .iaload, 932, 0, 0, 0), (932, (.invokevirtual 99), 935, 193, 3, 1), (935, (.if_icmp .eq 845), 938, 1780, 0, 0),
  (938, (.iconst 0), 939, 0, 0, 0), (939, .ireturn, 940, 0, 1, 0), (940, (.aload_n 1), 941, 0, 0, 0), (941, (.aload_n 0), 942, 0, 0, 0), (942, (.iload_n 3), 943, 0, 0, 0), (943, (.iconst 1), 944, 0, 0, 1),
  (944, .iadd, 945, 0, 0, 0), (945, .iaload, 946, 0, 0, 0), (946, (.aload_n 0), 947, 0, 0, 0), (947, (.iload_n 3), 948, 0, 0, 0), (948, (.iconst 2), 949, 0, 0, 2), (949, .iadd, 950, 0, 0, 0),
  (950, .iaload, 951, 0, 0, 0), (951, (.invokevirtual 100), 954, 115, 3, 1), (954, (.aload_n 2), 955, 0, 0, 0), (955, (.aload_n 0), 956, 0, 0, 0), (956, (.iload_n 3), 957, 0, 0, 0), (957, (.iconst 1), 958, 0, 0, 1),
  (958, .iadd, 959, 0, 0, 0), (959, .iaload, 960, 0, 0, 0), (960, (.aload_n 0), 961, 0, 0, 0), (961, (.iload_n 3), 962, 0, 0, 0), (962, (.iconst 2), 963, 0, 0, 2), (963, .iadd, 964, 0, 0, 0),
  (964, .iaload, 965, 0, 0, 0), (965, (.invokevirtual 103), 968, 194, 3, 1), (968, .lcmp, 969, 0, 0, 0), (969, (.ifCond .eq 811), 972, 1780, 0, 0), (972, (.iconst 0), 973, 0, 0, 0), (973, .ireturn, 974, 0, 1, 0),
  (974, (.aload_n 1), 975, 0, 0, 0), (975, (.aload_n 0), 976, 0, 0, 0), (976, (.iload_n 3), 977, 0, 0, 0), (977, (.iconst 1), 978, 0, 0, 1), (978, .iadd, 979, 0, 0, 0), (979, .iaload, 980, 0, 0, 0),
  (980, (.invokevirtual 104), 983, 116, 2, 1), (983, (.aload_n 2), 984, 0, 0, 0), (984, (.aload_n 0), 985, 0, 0, 0), (985, (.iload_n 3), 986, 0, 0, 0), (986, (.iconst 1), 987, 0, 0, 1), (987, .iadd, 988, 0, 0, 0),
  (988, .iaload, 989, 0, 0, 0), (989, (.invokevirtual 107), 992, 196, 2, 1), (992, (.if_icmp .eq 788), 995, 1780, 0, 0), (995, (.iconst 0), 996, 0, 0, 0), (996, .ireturn, 997, 0, 1, 0), (997, (.aload_n 1), 998, 0, 0, 0),
  (998, (.aload_n 0), 999, 0, 0, 0), (999, (.iload_n 3), 1000, 0, 0, 0), (1000, (.iconst 1), 1001, 0, 0, 1), (1001, .iadd, 1002, 0, 0, 0), (1002, .iaload, 1003, 0, 0, 0), (1003, (.aload_n 0), 1004, 0, 0, 0),
  (1004, (.iload_n 3), 1005, 0, 0, 0), (1005, (.iconst 2), 1006, 0, 0, 2), (1006, .iadd, 1007, 0, 0, 0), (1007, .iaload, 1008, 0, 0, 0), (1008, (.invokevirtual 108), 1011, 117, 3, 1), (1011, (.aload_n 2), 1012, 0, 0, 0),
  (1012, (.aload_n 0), 1013, 0, 0, 0), (1013, (.iload_n 3), 1014, 0, 0, 0), (1014, (.iconst 1), 1015, 0, 0, 1), (1015, .iadd, 1016, 0, 0, 0), (1016, .iaload, 1017, 0, 0, 0), (1017, (.aload_n 0), 1018, 0, 0, 0),
  (1018, (.iload_n 3), 1019, 0, 0, 0), (1019, (.iconst 2), 1020, 0, 0, 2), (1020, .iadd, 1021, 0, 0, 0), (1021, .iaload, 1022, 0, 0, 0), (1022, (.invokevirtual 111), 1025, 197, 3, 1), (1025, .lcmp, 1026, 0, 0, 0),
  (1026, (.ifCond .eq 754), 1029, 1780, 0, 0), (1029, (.iconst 0), 1030, 0, 0, 0), (1030, .ireturn, 1031, 0, 1, 0), (1031, (.aload_n 1), 1032, 0, 0, 0), (1032, (.aload_n 0), 1033, 0, 0, 0), (1033, (.iload_n 3), 1034, 0, 0, 0),
  (1034, (.iconst 1), 1035, 0, 0, 1), (1035, .iadd, 1036, 0, 0, 0), (1036, .iaload, 1037, 0, 0, 0), (1037, (.aload_n 0), 1038, 0, 0, 0), (1038, (.iload_n 3), 1039, 0, 0, 0), (1039, (.iconst 2), 1040, 0, 0, 2),
  (1040, .iadd, 1041, 0, 0, 0), (1041, .iaload, 1042, 0, 0, 0), (1042, (.invokevirtual 112), 1045, 118, 3, 1), (1045, (.aload_n 2), 1046, 0, 0, 0), (1046, (.aload_n 0), 1047, 0, 0, 0), (1047, (.iload_n 3), 1048, 0, 0, 0),
  (1048, (.iconst 1), 1049, 0, 0, 1), (1049, .iadd, 1050, 0, 0, 0), (1050, .iaload, 1051, 0, 0, 0), (1051, (.aload_n 0), 1052, 0, 0, 0), (1052, (.iload_n 3), 1053, 0, 0, 0), (1053, (.iconst 2), 1054, 0, 0, 2),
  (1054, .iadd, 1055, 0, 0, 0), (1055, .iaload, 1056, 0, 0, 0), (1056, (.invokevirtual 115), 1059, 198, 3, 1), (1059, (.if_icmp .eq 721), 1062, 1780, 0, 0), (1062, (.iconst 0), 1063, 0, 0, 0), (1063, .ireturn, 1064, 0, 1, 0),
  (1064, (.aload_n 1), 1065, 0, 0, 0), (1065, (.aload_n 0), 1066, 0, 0, 0), (1066, (.iload_n 3), 1067, 0, 0, 0), (1067, (.iconst 1), 1068, 0, 0, 1), (1068, .iadd, 1069, 0, 0, 0), (1069, .iaload, 1070, 0, 0, 0),
  (1070, (.aload_n 0), 1071, 0, 0, 0), (1071, (.iload_n 3), 1072, 0, 0, 0), (1072, (.iconst 2), 1073, 0, 0, 2), (1073, .iadd, 1074, 0, 0, 0), (1074, .iaload, 1075, 0, 0, 0), (1075, (.aload_n 0), 1076, 0, 0, 0),
  (1076, (.iload_n 3), 1077, 0, 0, 0), (1077, (.iconst 3), 1078, 0, 0, 3), (1078, .iadd, 1079, 0, 0, 0), (1079, .iaload, 1080, 0, 0, 0), (1080, (.aload_n 0), 1081, 0, 0, 0), (1081, (.iload_n 3), 1082, 0, 0, 0),
  (1082, (.iconst 4), 1083, 0, 0, 4), (1083, .iadd, 1084, 0, 0, 0), (1084, .iaload, 1085, 0, 0, 0), (1085, (.aload_n 0), 1086, 0, 0, 0), (1086, (.iload_n 3), 1087, 0, 0, 0), (1087, (.iconst 5), 1088, 0, 0, 5),
  (1088, .iadd, 1089, 0, 0, 0), (1089, .iaload, 1090, 0, 0, 0), (1090, (.invokevirtual 116), 1093, 119, 6, 1), (1093, (.aload_n 2), 1094, 0, 0, 0), (1094, (.aload_n 0), 1095, 0, 0, 0), (1095, (.iload_n 3), 1096, 0, 0, 0),
  (1096, (.iconst 1), 1097, 0, 0, 1), (1097, .iadd, 1098, 0, 0, 0), (1098, .iaload, 1099, 0, 0, 0), (1099, (.aload_n 0), 1100, 0, 0, 0), (1100, (.iload_n 3), 1101, 0, 0, 0), (1101, (.iconst 2), 1102, 0, 0, 2),
  (1102, .iadd, 1103, 0, 0, 0), (1103, .iaload, 1104, 0, 0, 0), (1104, (.aload_n 0), 1105, 0, 0, 0), (1105, (.iload_n 3), 1106, 0, 0, 0), (1106, (.iconst 3), 1107, 0, 0, 3), (1107, .iadd, 1108, 0, 0, 0),
  (1108, .iaload, 1109, 0, 0, 0), (1109, (.aload_n 0), 1110, 0, 0, 0), (1110, (.iload_n 3), 1111, 0, 0, 0), (1111, (.iconst 4), 1112, 0, 0, 4), (1112, .iadd, 1113, 0, 0, 0), (1113, .iaload, 1114, 0, 0, 0),
  (1114, (.aload_n 0), 1115, 0, 0, 0), (1115, (.iload_n 3), 1116, 0, 0, 0), (1116, (.iconst 5), 1117, 0, 0, 5), (1117, .iadd, 1118, 0, 0, 0), (1118, .iaload, 1119, 0, 0, 0), (1119, (.invokevirtual 120), 1122, 200, 6, 1),
  (1122, (.if_icmp .eq 658), 1125, 1780, 0, 0), (1125, (.iconst 0), 1126, 0, 0, 0), (1126, .ireturn, 1127, 0, 1, 0), (1127, (.aload_n 1), 1128, 0, 0, 0), (1128, (.aload_n 0), 1129, 0, 0, 0), (1129, (.iload_n 3), 1130, 0, 0, 0),
  (1130, (.iconst 1), 1131, 0, 0, 1), (1131, .iadd, 1132, 0, 0, 0), (1132, .iaload, 1133, 0, 0, 0), (1133, (.invokevirtual 121), 1136, 120, 2, 1), (1136, (.aload_n 2), 1137, 0, 0, 0), (1137, (.aload_n 0), 1138, 0, 0, 0),
  (1138, (.iload_n 3), 1139, 0, 0, 0), (1139, (.iconst 1), 1140, 0, 0, 1), (1140, .iadd, 1141, 0, 0, 0), (1141, .iaload, 1142, 0, 0, 0), (1142, (.invokevirtual 125), 1145, 201, 2, 1), (1145, .lcmp, 1146, 0, 0, 0),
  (1146, (.ifCond .eq 634), 1149, 1780, 0, 0), (1149, (.iconst 0), 1150, 0, 0, 0), (1150, .ireturn, 1151, 0, 1, 0), (1151, (.aload_n 1), 1152, 0, 0, 0), (1152, (.aload_n 0), 1153, 0, 0, 0), (1153, (.iload_n 3), 1154, 0, 0, 0),
  (1154, (.iconst 1), 1155, 0, 0, 1), (1155, .iadd, 1156, 0, 0, 0), (1156, .iaload, 1157, 0, 0, 0), (1157, (.invokevirtual 126), 1160, 121, 2, 1), (1160, (.aload_n 2), 1161, 0, 0, 0), (1161, (.aload_n 0), 1162, 0, 0, 0),
  (1162, (.iload_n 3), 1163, 0, 0, 0), (1163, (.iconst 1), 1164, 0, 0, 1), (1164, .iadd, 1165, 0, 0, 0), (1165, .iaload, 1166, 0, 0, 0), (1166, (.invokevirtual 129), 1169, 205, 2, 1), (1169, .lcmp, 1170, 0, 0, 0),
  (1170, (.ifCond .eq 610), 1173, 1780, 0, 0), (1173, (.iconst 0), 1174, 0, 0, 0), (1174, .ireturn, 1175, 0, 1, 0), (1175, (.aload_n 1), 1176, 0, 0, 0), (1176, (.aload_n 0), 1177, 0, 0, 0), (1177, (.iload_n 3), 1178, 0, 0, 0),
  (1178, (.iconst 1), 1179, 0, 0, 1), (1179, .iadd, 1180, 0, 0, 0), (1180, .iaload, 1181, 0, 0, 0), (1181, (.aload_n 0), 1182, 0, 0, 0), (1182, (.iload_n 3), 1183, 0, 0, 0), (1183, (.iconst 2), 1184, 0, 0, 2),
  (1184, .iadd, 1185, 0, 0, 0), (1185, .iaload, 1186, 0, 0, 0), (1186, (.aload_n 0), 1187, 0, 0, 0), (1187, (.iload_n 3), 1188, 0, 0, 0), (1188, (.iconst 3), 1189, 0, 0, 3), (1189, .iadd, 1190, 0, 0, 0),
  (1190, .iaload, 1191, 0, 0, 0), (1191, (.aload_n 0), 1192, 0, 0, 0), (1192, (.iload_n 3), 1193, 0, 0, 0), (1193, (.iconst 4), 1194, 0, 0, 4), (1194, .iadd, 1195, 0, 0, 0), (1195, .iaload, 1196, 0, 0, 0),
  (1196, (.invokevirtual 130), 1199, 122, 5, 1), (1199, (.aload_n 2), 1200, 0, 0, 0), (1200, (.aload_n 0), 1201, 0, 0, 0), (1201, (.iload_n 3), 1202, 0, 0, 0), (1202, (.iconst 1), 1203, 0, 0, 1), (1203, .iadd, 1204, 0, 0, 0),
  (1204, .iaload, 1205, 0, 0, 0), (1205, (.aload_n 0), 1206, 0, 0, 0), (1206, (.iload_n 3), 1207, 0, 0, 0), (1207, (.iconst 2), 1208, 0, 0, 2), (1208, .iadd, 1209, 0, 0, 0), (1209, .iaload, 1210, 0, 0, 0),
  (1210, (.aload_n 0), 1211, 0, 0, 0), (1211, (.iload_n 3), 1212, 0, 0, 0), (1212, (.iconst 3), 1213, 0, 0, 3), (1213, .iadd, 1214, 0, 0, 0), (1214, .iaload, 1215, 0, 0, 0), (1215, (.aload_n 0), 1216, 0, 0, 0),
  (1216, (.iload_n 3), 1217, 0, 0, 0), (1217, (.iconst 4), 1218, 0, 0, 4), (1218, .iadd, 1219, 0, 0, 0), (1219, .iaload, 1220, 0, 0, 0), (1220, (.invokevirtual 133), 1223, 206, 5, 1), (1223, (.if_icmp .eq 557), 1226, 1780, 0, 0),
  (1226, (.iconst 0), 1227, 0, 0, 0), (1227, .ireturn, 1228, 0, 1, 0), (1228, (.aload_n 1), 1229, 0, 0, 0), (1229, (.aload_n 0), 1230, 0, 0, 0), (1230, (.iload_n 3), 1231, 0, 0, 0), (1231, (.iconst 1), 1232, 0, 0, 1),
  (1232, .iadd, 1233, 0, 0, 0), (1233, .iaload, 1234, 0, 0, 0), (1234, (.invokevirtual 134), 1237, 123, 2, 1), (1237, (.aload_n 2), 1238, 0, 0, 0), (1238, (.aload_n 0), 1239, 0, 0, 0), (1239, (.iload_n 3), 1240, 0, 0, 0),
  (1240, (.iconst 1), 1241, 0, 0, 1), (1241, .iadd, 1242, 0, 0, 0), (1242, .iaload, 1243, 0, 0, 0), (1243, (.invokevirtual 137), 1246, 207, 2, 1), (1246, (.if_icmp .eq 534), 1249, 1780, 0, 0), (1249, (.iconst 0), 1250, 0, 0, 0),
  (1250, .ireturn, 1251, 0, 1, 0), (1251, (.aload_n 1), 1252, 0, 0, 0), (1252, (.aload_n 0), 1253, 0, 0, 0), (1253, (.iload_n 3), 1254, 0, 0, 0), (1254, (.iconst 1), 1255, 0, 0, 1), (1255, .iadd, 1256, 0, 0, 0),
  (1256, .iaload, 1257, 0, 0, 0), (1257, (.aload_n 0), 1258, 0, 0, 0), (1258, (.iload_n 3), 1259, 0, 0, 0), (1259, (.iconst 2), 1260, 0, 0, 2), (1260, .iadd, 1261, 0, 0, 0), (1261, .iaload, 1262, 0, 0, 0),
  (1262, (.invokevirtual 138), 1265, 127, 3, 1), (1265, (.aload_n 2), 1266, 0, 0, 0), (1266, (.aload_n 0), 1267, 0, 0, 0), (1267, (.iload_n 3), 1268, 0, 0, 0), (1268, (.iconst 1), 1269, 0, 0, 1), (1269, .iadd, 1270, 0, 0, 0),
  (1270, .iaload, 1271, 0, 0, 0), (1271, (.aload_n 0), 1272, 0, 0, 0), (1272, (.iload_n 3), 1273, 0, 0, 0), (1273, (.iconst 2), 1274, 0, 0, 2), (1274, .iadd, 1275, 0, 0, 0), (1275, .iaload, 1276, 0, 0, 0),
  (1276, (.invokevirtual 141), 1279, 211, 3, 1), (1279, (.if_icmp .eq 501), 1282, 1780, 0, 0), (1282, (.iconst 0), 1283, 0, 0, 0), (1283, .ireturn, 1284, 0, 1, 0), (1284, (.aload_n 1), 1285, 0, 0, 0), (1285, (.aload_n 0), 1286, 0, 0, 0),
  (1286, (.iload_n 3), 1287, 0, 0, 0), (1287, (.iconst 1), 1288, 0, 0, 1), (1288, .iadd, 1289, 0, 0, 0), (1289, .iaload, 1290, 0, 0, 0), (1290, (.aload_n 0), 1291, 0, 0, 0), (1291, (.iload_n 3), 1292, 0, 0, 0),
  (1292, (.iconst 2), 1293, 0, 0, 2), (1293, .iadd, 1294, 0, 0, 0), (1294, .iaload, 1295, 0, 0, 0), (1295, (.aload_n 0), 1296, 0, 0, 0), (1296, (.iload_n 3), 1297, 0, 0, 0), (1297, (.iconst 3), 1298, 0, 0, 3),
  (1298, .iadd, 1299, 0, 0, 0), (1299, .iaload, 1300, 0, 0, 0), (1300, (.invokevirtual 142), 1303, 128, 4, 1), (1303, (.aload_n 2), 1304, 0, 0, 0), (1304, (.aload_n 0), 1305, 0, 0, 0), (1305, (.iload_n 3), 1306, 0, 0, 0),
  (1306, (.iconst 1), 1307, 0, 0, 1), (1307, .iadd, 1308, 0, 0, 0), (1308, .iaload, 1309, 0, 0, 0), (1309, (.aload_n 0), 1310, 0, 0, 0), (1310, (.iload_n 3), 1311, 0, 0, 0), (1311, (.iconst 2), 1312, 0, 0, 2),
  (1312, .iadd, 1313, 0, 0, 0), (1313, .iaload, 1314, 0, 0, 0), (1314, (.aload_n 0), 1315, 0, 0, 0), (1315, (.iload_n 3), 1316, 0, 0, 0), (1316, (.iconst 3), 1317, 0, 0, 3), (1317, .iadd, 1318, 0, 0, 0),
  (1318, .iaload, 1319, 0, 0, 0), (1319, (.invokevirtual 145), 1322, 212, 4, 1), (1322, (.if_icmp .eq 458), 1325, 1780, 0, 0), (1325, (.iconst 0), 1326, 0, 0, 0), (1326, .ireturn, 1327, 0, 1, 0), (1327, (.aload_n 1), 1328, 0, 0, 0),
  (1328, (.aload_n 0), 1329, 0, 0, 0), (1329, (.iload_n 3), 1330, 0, 0, 0), (1330, (.iconst 1), 1331, 0, 0, 1), (1331, .iadd, 1332, 0, 0, 0), (1332, .iaload, 1333, 0, 0, 0), (1333, (.invokevirtual 146), 1336, 131, 2, 1),
  (1336, (.aload_n 2), 1337, 0, 0, 0), (1337, (.aload_n 0), 1338, 0, 0, 0), (1338, (.iload_n 3), 1339, 0, 0, 0), (1339, (.iconst 1), 1340, 0, 0, 1), (1340, .iadd, 1341, 0, 0, 0), (1341, .iaload, 1342, 0, 0, 0),
  (1342, (.invokevirtual 149), 1345, 215, 2, 1), (1345, (.if_icmp .eq 435), 1348, 1780, 0, 0), (1348, (.iconst 0), 1349, 0, 0, 0), (1349, .ireturn, 1350, 0, 1, 0), (1350, (.aload_n 1), 1351, 0, 0, 0), (1351, (.invokevirtual 150), 1354, 132, 1, 1),
  (1354, (.aload_n 2), 1355, 0, 0, 0), (1355, (.invokevirtual 153), 1358, 216, 1, 1), (1358, (.if_icmp .eq 422), 1361, 1780, 0, 0), (1361, (.iconst 0), 1362, 0, 0, 0), (1362, .ireturn, 1363, 0, 1, 0), (1363, (.aload_n 1), 1364, 0, 0, 0),
  (1364, (.aload_n 0), 1365, 0, 0, 0), (1365, (.iload_n 3), 1366, 0, 0, 0), (1366, (.iconst 1), 1367, 0, 0, 1), (1367, .iadd, 1368, 0, 0, 0), (1368, .iaload, 1369, 0, 0, 0), (1369, (.aload_n 0), 1370, 0, 0, 0),
  (1370, (.iload_n 3), 1371, 0, 0, 0), (1371, (.iconst 2), 1372, 0, 0, 2), (1372, .iadd, 1373, 0, 0, 0), (1373, .iaload, 1374, 0, 0, 0), (1374, (.aload_n 0), 1375, 0, 0, 0), (1375, (.iload_n 3), 1376, 0, 0, 0),
  (1376, (.iconst 3), 1377, 0, 0, 3), (1377, .iadd, 1378, 0, 0, 0), (1378, .iaload, 1379, 0, 0, 0), (1379, (.invokevirtual 154), 1382, 134, 4, 1), (1382, (.aload_n 2), 1383, 0, 0, 0), (1383, (.aload_n 0), 1384, 0, 0, 0),
  (1384, (.iload_n 3), 1385, 0, 0, 0), (1385, (.iconst 1), 1386, 0, 0, 1), (1386, .iadd, 1387, 0, 0, 0), (1387, .iaload, 1388, 0, 0, 0), (1388, (.aload_n 0), 1389, 0, 0, 0), (1389, (.iload_n 3), 1390, 0, 0, 0),
  (1390, (.iconst 2), 1391, 0, 0, 2), (1391, .iadd, 1392, 0, 0, 0), (1392, .iaload, 1393, 0, 0, 0), (1393, (.aload_n 0), 1394, 0, 0, 0), (1394, (.iload_n 3), 1395, 0, 0, 0), (1395, (.iconst 3), 1396, 0, 0, 3),
  (1396, .iadd, 1397, 0, 0, 0), (1397, .iaload, 1398, 0, 0, 0), (1398, (.invokevirtual 157), 1401, 224, 4, 1), (1401, (.if_icmp .eq 379), 1404, 1780, 0, 0), (1404, (.iconst 0), 1405, 0, 0, 0), (1405, .ireturn, 1406, 0, 1, 0),
  (1406, (.aload_n 1), 1407, 0, 0, 0), (1407, (.aload_n 0), 1408, 0, 0, 0), (1408, (.iload_n 3), 1409, 0, 0, 0), (1409, (.iconst 1), 1410, 0, 0, 1), (1410, .iadd, 1411, 0, 0, 0), (1411, .iaload, 1412, 0, 0, 0),
  (1412, (.aload_n 0), 1413, 0, 0, 0), (1413, (.iload_n 3), 1414, 0, 0, 0), (1414, (.iconst 2), 1415, 0, 0, 2), (1415, .iadd, 1416, 0, 0, 0), (1416, .iaload, 1417, 0, 0, 0), (1417, (.aload_n 0), 1418, 0, 0, 0),
  (1418, (.iload_n 3), 1419, 0, 0, 0), (1419, (.iconst 3), 1420, 0, 0, 3), (1420, .iadd, 1421, 0, 0, 0), (1421, .iaload, 1422, 0, 0, 0), (1422, (.invokevirtual 158), 1425, 136, 4, 1), (1425, (.aload_n 2), 1426, 0, 0, 0),
  (1426, (.aload_n 0), 1427, 0, 0, 0), (1427, (.iload_n 3), 1428, 0, 0, 0), (1428, (.iconst 1), 1429, 0, 0, 1), (1429, .iadd, 1430, 0, 0, 0), (1430, .iaload, 1431, 0, 0, 0), (1431, (.aload_n 0), 1432, 0, 0, 0),
  (1432, (.iload_n 3), 1433, 0, 0, 0), (1433, (.iconst 2), 1434, 0, 0, 2), (1434, .iadd, 1435, 0, 0, 0), (1435, .iaload, 1436, 0, 0, 0), (1436, (.aload_n 0), 1437, 0, 0, 0), (1437, (.iload_n 3), 1438, 0, 0, 0),
  (1438, (.iconst 3), 1439, 0, 0, 3), (1439, .iadd, 1440, 0, 0, 0), (1440, .iaload, 1441, 0, 0, 0), (1441, (.invokevirtual 161), 1444, 226, 4, 1), (1444, (.if_icmp .eq 336), 1447, 1780, 0, 0), (1447, (.iconst 0), 1448, 0, 0, 0),
  (1448, .ireturn, 1449, 0, 1, 0), (1449, (.aload_n 1), 1450, 0, 0, 0), (1450, (.aload_n 0), 1451, 0, 0, 0), (1451, (.iload_n 3), 1452, 0, 0, 0), (1452, (.iconst 1), 1453, 0, 0, 1), (1453, .iadd, 1454, 0, 0, 0),
  (1454, .iaload, 1455, 0, 0, 0), (1455, (.aload_n 0), 1456, 0, 0, 0), (1456, (.iload_n 3), 1457, 0, 0, 0), (1457, (.iconst 2), 1458, 0, 0, 2), (1458, .iadd, 1459, 0, 0, 0), (1459, .iaload, 1460, 0, 0, 0),
  (1460, (.aload_n 0), 1461, 0, 0, 0), (1461, (.iload_n 3), 1462, 0, 0, 0), (1462, (.iconst 3), 1463, 0, 0, 3), (1463, .iadd, 1464, 0, 0, 0), (1464, .iaload, 1465, 0, 0, 0), (1465, (.invokevirtual 162), 1468, 137, 4, 1),
  (1468, (.aload_n 2), 1469, 0, 0, 0), (1469, (.aload_n 0), 1470, 0, 0, 0), (1470, (.iload_n 3), 1471, 0, 0, 0), (1471, (.iconst 1), 1472, 0, 0, 1), (1472, .iadd, 1473, 0, 0, 0), (1473, .iaload, 1474, 0, 0, 0),
  (1474, (.aload_n 0), 1475, 0, 0, 0), (1475, (.iload_n 3), 1476, 0, 0, 0), (1476, (.iconst 2), 1477, 0, 0, 2), (1477, .iadd, 1478, 0, 0, 0), (1478, .iaload, 1479, 0, 0, 0), (1479, (.aload_n 0), 1480, 0, 0, 0),
  (1480, (.iload_n 3), 1481, 0, 0, 0), (1481, (.iconst 3), 1482, 0, 0, 3), (1482, .iadd, 1483, 0, 0, 0), (1483, .iaload, 1484, 0, 0, 0), (1484, (.invokevirtual 165), 1487, 228, 4, 1), (1487, (.if_icmp .eq 293), 1490, 1780, 0, 0),
  (1490, (.iconst 0), 1491, 0, 0, 0), (1491, .ireturn, 1492, 0, 1, 0), (1492, (.aload_n 1), 1493, 0, 0, 0), (1493, (.aload_n 0), 1494, 0, 0, 0), (1494, (.iload_n 3), 1495, 0, 0, 0), (1495, (.iconst 1), 1496, 0, 0, 1),
  (1496, .iadd, 1497, 0, 0, 0), (1497, .iaload, 1498, 0, 0, 0), (1498, (.aload_n 0), 1499, 0, 0, 0), (1499, (.iload_n 3), 1500, 0, 0, 0), (1500, (.iconst 2), 1501, 0, 0, 2), (1501, .iadd, 1502, 0, 0, 0),
  (1502, .iaload, 1503, 0, 0, 0), (1503, (.invokevirtual 166), 1506, 138, 3, 1), (1506, (.aload_n 2), 1507, 0, 0, 0), (1507, (.aload_n 0), 1508, 0, 0, 0), (1508, (.iload_n 3), 1509, 0, 0, 0), (1509, (.iconst 1), 1510, 0, 0, 1),
  (1510, .iadd, 1511, 0, 0, 0), (1511, .iaload, 1512, 0, 0, 0), (1512, (.aload_n 0), 1513, 0, 0, 0), (1513, (.iload_n 3), 1514, 0, 0, 0), (1514, (.iconst 2), 1515, 0, 0, 2), (1515, .iadd, 1516, 0, 0, 0),
  (1516, .iaload, 1517, 0, 0, 0), (1517, (.invokevirtual 169), 1520, 229, 3, 1), (1520, (.if_icmp .eq 260), 1523, 1780, 0, 0), (1523, (.iconst 0), 1524, 0, 0, 0), (1524, .ireturn, 1525, 0, 1, 0), (1525, (.aload_n 1), 1526, 0, 0, 0),
  (1526, (.aload_n 0), 1527, 0, 0, 0), (1527, (.iload_n 3), 1528, 0, 0, 0), (1528, (.iconst 1), 1529, 0, 0, 1), (1529, .iadd, 1530, 0, 0, 0), (1530, .iaload, 1531, 0, 0, 0), (1531, (.aload_n 0), 1532, 0, 0, 0),
  (1532, (.iload_n 3), 1533, 0, 0, 0), (1533, (.iconst 2), 1534, 0, 0, 2), (1534, .iadd, 1535, 0, 0, 0), (1535, .iaload, 1536, 0, 0, 0), (1536, (.invokevirtual 170), 1539, 139, 3, 1), (1539, (.aload_n 2), 1540, 0, 0, 0),
  (1540, (.aload_n 0), 1541, 0, 0, 0), (1541, (.iload_n 3), 1542, 0, 0, 0), (1542, (.iconst 1), 1543, 0, 0, 1), (1543, .iadd, 1544, 0, 0, 0), (1544, .iaload, 1545, 0, 0, 0), (1545, (.aload_n 0), 1546, 0, 0, 0),
  (1546, (.iload_n 3), 1547, 0, 0, 0), (1547, (.iconst 2), 1548, 0, 0, 2), (1548, .iadd, 1549, 0, 0, 0), (1549, .iaload, 1550, 0, 0, 0), (1550, (.invokevirtual 173), 1553, 230, 3, 1), (1553, (.if_icmp .eq 227), 1556, 1780, 0, 0),
  (1556, (.iconst 0), 1557, 0, 0, 0), (1557, .ireturn, 1558, 0, 1, 0), (1558, (.aload_n 1), 1559, 0, 0, 0), (1559, (.aload_n 0), 1560, 0, 0, 0), (1560, (.iload_n 3), 1561, 0, 0, 0), (1561, (.iconst 1), 1562, 0, 0, 1),
  (1562, .iadd, 1563, 0, 0, 0), (1563, .iaload, 1564, 0, 0, 0), (1564, (.aload_n 0), 1565, 0, 0, 0), (1565, (.iload_n 3), 1566, 0, 0, 0), (1566, (.iconst 2), 1567, 0, 0, 2), (1567, .iadd, 1568, 0, 0, 0),
  (1568, .iaload, 1569, 0, 0, 0), (1569, (.aload_n 0), 1570, 0, 0, 0), (1570, (.iload_n 3), 1571, 0, 0, 0), (1571, (.iconst 3), 1572, 0, 0, 3), (1572, .iadd, 1573, 0, 0, 0), (1573, .iaload, 1574, 0, 0, 0),
  (1574, .i2l, 1575, 0, 0, 0), (1575, (.bipush 32), 1577, 0, 0, 32), (1577, .lshl, 1578, 0, 0, 0), (1578, (.aload_n 0), 1579, 0, 0, 0), (1579, (.iload_n 3), 1580, 0, 0, 0), (1580, (.iconst 4), 1581, 0, 0, 4),
  (1581, .iadd, 1582, 0, 0, 0), (1582, .iaload, 1583, 0, 0, 0), (1583, .i2l, 1584, 0, 0, 0), (1584, (.ldc2_w 174), 1587, 1, 0, 4294967295), (1587, .land, 1588, 0, 0, 0), (1588, .lor, 1589, 0, 0, 0),
  (1589, (.invokevirtual 176), 1592, 141, 4, 1), (1592, (.aload_n 2), 1593, 0, 0, 0), (1593, (.aload_n 0), 1594, 0, 0, 0), (1594, (.iload_n 3), 1595, 0, 0, 0), (1595, (.iconst 1), 1596, 0, 0, 1), (1596, .iadd, 1597, 0, 0, 0),
  (1597, .iaload, 1598, 0, 0, 0), (1598, (.aload_n 0), 1599, 0, 0, 0), (1599, (.iload_n 3), 1600, 0, 0, 0), (1600, (.iconst 2), 1601, 0, 0, 2), (1601, .iadd, 1602, 0, 0, 0), (1602, .iaload, 1603, 0, 0, 0),
  (1603, (.aload_n 0), 1604, 0, 0, 0), (1604, (.iload_n 3), 1605, 0, 0, 0), (1605, (.iconst 3), 1606, 0, 0, 3), (1606, .iadd, 1607, 0, 0, 0), (1607, .iaload, 1608, 0, 0, 0), (1608, .i2l, 1609, 0, 0, 0),
  (1609, (.bipush 32), 1611, 0, 0, 32), (1611, .lshl, 1612, 0, 0, 0), (1612, (.aload_n 0), 1613, 0, 0, 0), (1613, (.iload_n 3), 1614, 0, 0, 0), (1614, (.iconst 4), 1615, 0, 0, 4), (1615, .iadd, 1616, 0, 0, 0),
  (1616, .iaload, 1617, 0, 0, 0), (1617, .i2l, 1618, 0, 0, 0), (1618, (.ldc2_w 174), 1621, 1, 0, 4294967295), (1621, .land, 1622, 0, 0, 0), (1622, .lor, 1623, 0, 0, 0), (1623, (.invokevirtual 180), 1626, 232, 4, 1),
  (1626, (.if_icmp .eq 154), 1629, 1780, 0, 0), (1629, (.iconst 0), 1630, 0, 0, 0), (1630, .ireturn, 1631, 0, 1, 0), (1631, (.aload_n 1), 1632, 0, 0, 0), (1632, (.aload_n 0), 1633, 0, 0, 0), (1633, (.iload_n 3), 1634, 0, 0, 0),
  (1634, (.iconst 1), 1635, 0, 0, 1), (1635, .iadd, 1636, 0, 0, 0), (1636, .iaload, 1637, 0, 0, 0), (1637, (.aload_n 0), 1638, 0, 0, 0), (1638, (.iload_n 3), 1639, 0, 0, 0), (1639, (.iconst 2), 1640, 0, 0, 2),
  (1640, .iadd, 1641, 0, 0, 0), (1641, .iaload, 1642, 0, 0, 0), (1642, (.invokevirtual 181), 1645, 142, 3, 1), (1645, (.aload_n 2), 1646, 0, 0, 0), (1646, (.aload_n 0), 1647, 0, 0, 0), (1647, (.iload_n 3), 1648, 0, 0, 0),
  (1648, (.iconst 1), 1649, 0, 0, 1), (1649, .iadd, 1650, 0, 0, 0), (1650, .iaload, 1651, 0, 0, 0), (1651, (.aload_n 0), 1652, 0, 0, 0), (1652, (.iload_n 3), 1653, 0, 0, 0), (1653, (.iconst 2), 1654, 0, 0, 2),
  (1654, .iadd, 1655, 0, 0, 0), (1655, .iaload, 1656, 0, 0, 0), (1656, (.invokevirtual 184), 1659, 233, 3, 1), (1659, .lcmp, 1660, 0, 0, 0), (1660, (.ifCond .eq 120), 1663, 1780, 0, 0), (1663, (.iconst 0), 1664, 0, 0, 0),
  (1664, .ireturn, 1665, 0, 1, 0), (1665, (.aload_n 1), 1666, 0, 0, 0), (1666, (.aload_n 0), 1667, 0, 0, 0), (1667, (.iload_n 3), 1668, 0, 0, 0), (1668, (.iconst 1), 1669, 0, 0, 1), (1669, .iadd, 1670, 0, 0, 0),
  (1670, .iaload, 1671, 0, 0, 0), (1671, (.aload_n 0), 1672, 0, 0, 0), (1672, (.iload_n 3), 1673, 0, 0, 0), (1673, (.iconst 2), 1674, 0, 0, 2), (1674, .iadd, 1675, 0, 0, 0), (1675, .iaload, 1676, 0, 0, 0),
  (1676, (.invokevirtual 185), 1679, 143, 3, 1), (1679, (.aload_n 2), 1680, 0, 0, 0), (1680, (.aload_n 0), 1681, 0, 0, 0), (1681, (.iload_n 3), 1682, 0, 0, 0), (1682, (.iconst 1), 1683, 0, 0, 1), (1683, .iadd, 1684, 0, 0, 0),
  (1684, .iaload, 1685, 0, 0, 0), (1685, (.aload_n 0), 1686, 0, 0, 0), (1686, (.iload_n 3), 1687, 0, 0, 0), (1687, (.iconst 2), 1688, 0, 0, 2), (1688, .iadd, 1689, 0, 0, 0), (1689, .iaload, 1690, 0, 0, 0),
  (1690, (.invokevirtual 188), 1693, 234, 3, 1), (1693, (.if_icmp .eq 87), 1696, 1780, 0, 0), (1696, (.iconst 0), 1697, 0, 0, 0), (1697, .ireturn, 1698, 0, 1, 0), (1698, (.aload_n 1), 1699, 0, 0, 0), (1699, (.aload_n 0), 1700, 0, 0, 0),
  (1700, (.iload_n 3), 1701, 0, 0, 0), (1701, (.iconst 1), 1702, 0, 0, 1), (1702, .iadd, 1703, 0, 0, 0), (1703, .iaload, 1704, 0, 0, 0), (1704, (.aload_n 0), 1705, 0, 0, 0), (1705, (.iload_n 3), 1706, 0, 0, 0),
  (1706, (.iconst 2), 1707, 0, 0, 2), (1707, .iadd, 1708, 0, 0, 0), (1708, .iaload, 1709, 0, 0, 0), (1709, (.invokevirtual 189), 1712, 144, 3, 1), (1712, (.aload_n 2), 1713, 0, 0, 0), (1713, (.aload_n 0), 1714, 0, 0, 0),
  (1714, (.iload_n 3), 1715, 0, 0, 0), (1715, (.iconst 1), 1716, 0, 0, 1), (1716, .iadd, 1717, 0, 0, 0), (1717, .iaload, 1718, 0, 0, 0), (1718, (.aload_n 0), 1719, 0, 0, 0), (1719, (.iload_n 3), 1720, 0, 0, 0),
  (1720, (.iconst 2), 1721, 0, 0, 2), (1721, .iadd, 1722, 0, 0, 0), (1722, .iaload, 1723, 0, 0, 0), (1723, (.invokevirtual 192), 1726, 235, 3, 1), (1726, (.if_icmp .eq 54), 1729, 1780, 0, 0), (1729, (.iconst 0), 1730, 0, 0, 0),
  (1730, .ireturn, 1731, 0, 1, 0), (1731, (.aload_n 1), 1732, 0, 0, 0), (1732, (.aload_n 0), 1733, 0, 0, 0), (1733, (.iload_n 3), 1734, 0, 0, 0), (1734, (.iconst 1), 1735, 0, 0, 1), (1735, .iadd, 1736, 0, 0, 0),
  (1736, .iaload, 1737, 0, 0, 0), (1737, (.invokevirtual 193), 1740, 145, 2, 1), (1740, (.aload_n 2), 1741, 0, 0, 0), (1741, (.aload_n 0), 1742, 0, 0, 0), (1742, (.iload_n 3), 1743, 0, 0, 0), (1743, (.iconst 1), 1744, 0, 0, 1),
  (1744, .iadd, 1745, 0, 0, 0), (1745, .iaload, 1746, 0, 0, 0), (1746, (.invokevirtual 196), 1749, 236, 2, 1), (1749, (.if_icmp .eq 31), 1752, 1780, 0, 0), (1752, (.iconst 0), 1753, 0, 0, 0), (1753, .ireturn, 1754, 0, 1, 0),
  (1754, (.aload_n 1), 1755, 0, 0, 0), (1755, (.invokevirtual 197), 1758, 146, 1, 1), (1758, (.aload_n 2), 1759, 0, 0, 0), (1759, (.invokevirtual 200), 1762, 237, 1, 1), (1762, (.if_icmp .eq 18), 1765, 1780, 0, 0), (1765, (.iconst 0), 1766, 0, 0, 0),
  (1766, .ireturn, 1767, 0, 1, 0), (1767, (.aload_n 1), 1768, 0, 0, 0), (1768, (.invokevirtual 201), 1771, 147, 1, 1), (1771, (.aload_n 2), 1772, 0, 0, 0), (1772, (.invokevirtual 204), 1775, 238, 1, 1), (1775, (.if_icmp .eq 5), 1778, 1780, 0, 0),
  (1778, (.iconst 0), 1779, 0, 0, 0), (1779, .ireturn, 1780, 0, 1, 0), (1780, (.iinc 3 6), 1783, 0, 0, 0), (1783, (.goto (-1765)), 1786, 18, 0, 0), (1786, (.iconst 1), 1787, 0, 0, 1), (1787, .ireturn, 1788, 0, 1, 0)]
noncomputable def ew_codL : List (List ew_Ent) := [ew_cd_0, ew_cd_1, ew_cd_2, ew_cd_3, ew_cd_4, ew_cd_5, ew_cd_6, ew_cd_7, ew_cd_8, ew_cd_9, ew_cd_10, ew_cd_11, ew_cd_12, ew_cd_13, ew_cd_14, ew_cd_15, ew_cd_16, ew_cd_17, ew_cd_18, ew_cd_19, ew_cd_20, ew_cd_21, ew_cd_22, ew_cd_23, ew_cd_24, ew_cd_25, ew_cd_26, ew_cd_27, ew_cd_28, ew_cd_29, ew_cd_30, ew_cd_31, ew_cd_32, ew_cd_33, ew_cd_34, ew_cd_35, ew_cd_36, ew_cd_37, ew_cd_38, ew_cd_39, ew_cd_40, ew_cd_41, ew_cd_42, ew_cd_43, ew_cd_44, ew_cd_45, ew_cd_46, ew_cd_47, ew_cd_48, ew_cd_49, ew_cd_50, ew_cd_51, ew_cd_52, ew_cd_53, ew_cd_54, ew_cd_55, ew_cd_56, ew_cd_57, ew_cd_58, ew_cd_59, ew_cd_60, ew_cd_61, ew_cd_62, ew_cd_63, ew_cd_64, ew_cd_65, ew_cd_66, ew_cd_67, ew_cd_68, ew_cd_69, ew_cd_70, ew_cd_71, ew_cd_72, ew_cd_73, ew_cd_74, ew_cd_75, ew_cd_76, ew_cd_77, ew_cd_78, ew_cd_79, ew_cd_80, ew_cd_81, ew_cd_82, ew_cd_83, ew_cd_84, ew_cd_85, ew_cd_86, ew_cd_87, ew_cd_88, ew_cd_89, ew_cd_90, ew_cd_91, ew_cd_92, ew_cd_93, ew_cd_94, ew_cd_95, ew_cd_96, ew_cd_97, ew_cd_98, ew_cd_99, ew_cd_100, ew_cd_101, ew_cd_102, ew_cd_103, ew_cd_104, ew_cd_105, ew_cd_106, ew_cd_107, ew_cd_108, ew_cd_109, ew_cd_110, ew_cd_111, ew_cd_112, ew_cd_113, ew_cd_114, ew_cd_115, ew_cd_116, ew_cd_117, ew_cd_118, ew_cd_119, ew_cd_120, ew_cd_121, ew_cd_122, ew_cd_123, ew_cd_124, ew_cd_125, ew_cd_126, ew_cd_127, ew_cd_128, ew_cd_129, ew_cd_130, ew_cd_131, ew_cd_132, ew_cd_133, ew_cd_134, ew_cd_135, ew_cd_136, ew_cd_137, ew_cd_138, ew_cd_139, ew_cd_140, ew_cd_141, ew_cd_142, ew_cd_143, ew_cd_144, ew_cd_145, ew_cd_146, ew_cd_147, ew_cd_148, ew_cd_149, ew_cd_150, ew_cd_151, ew_cd_152, ew_cd_153, ew_cd_154, ew_cd_155, ew_cd_156, ew_cd_157, ew_cd_158, ew_cd_159, ew_cd_160, ew_cd_161, ew_cd_162, ew_cd_163, ew_cd_164, ew_cd_165, ew_cd_166, ew_cd_167, ew_cd_168, ew_cd_169, ew_cd_170, ew_cd_171, ew_cd_172, ew_cd_173, ew_cd_174, ew_cd_175, ew_cd_176, ew_cd_177, ew_cd_178, ew_cd_179, ew_cd_180, ew_cd_181, ew_cd_182, ew_cd_183, ew_cd_184, ew_cd_185, ew_cd_186, ew_cd_187, ew_cd_188, ew_cd_189, ew_cd_190, ew_cd_191, ew_cd_192, ew_cd_193, ew_cd_194, ew_cd_195, ew_cd_196, ew_cd_197, ew_cd_198, ew_cd_199, ew_cd_200, ew_cd_201, ew_cd_202, ew_cd_203, ew_cd_204, ew_cd_205, ew_cd_206, ew_cd_207, ew_cd_208, ew_cd_209, ew_cd_210, ew_cd_211, ew_cd_212, ew_cd_213, ew_cd_214, ew_cd_215, ew_cd_216, ew_cd_217, ew_cd_218, ew_cd_219, ew_cd_220, ew_cd_221, ew_cd_222, ew_cd_223, ew_cd_224, ew_cd_225, ew_cd_226, ew_cd_227, ew_cd_228, ew_cd_229, ew_cd_230, ew_cd_231, ew_cd_232, ew_cd_233, ew_cd_234, ew_cd_235, ew_cd_236, ew_cd_237, ew_cd_238, ew_cd_239]
noncomputable def ew_cod (k : Nat) : List ew_Ent := ew_codL.getD k []
theorem ew_c_0 : ew_cod 0 = ew_cd_0 := rfl
theorem ew_c_1 : ew_cod 1 = ew_cd_1 := rfl
theorem ew_c_2 : ew_cod 2 = ew_cd_2 := rfl
theorem ew_c_3 : ew_cod 3 = ew_cd_3 := rfl
theorem ew_c_4 : ew_cod 4 = ew_cd_4 := rfl
theorem ew_c_5 : ew_cod 5 = ew_cd_5 := rfl
theorem ew_c_6 : ew_cod 6 = ew_cd_6 := rfl
theorem ew_c_7 : ew_cod 7 = ew_cd_7 := rfl
theorem ew_c_8 : ew_cod 8 = ew_cd_8 := rfl
theorem ew_c_9 : ew_cod 9 = ew_cd_9 := rfl
theorem ew_c_10 : ew_cod 10 = ew_cd_10 := rfl
theorem ew_c_11 : ew_cod 11 = ew_cd_11 := rfl
theorem ew_c_12 : ew_cod 12 = ew_cd_12 := rfl
theorem ew_c_13 : ew_cod 13 = ew_cd_13 := rfl
theorem ew_c_14 : ew_cod 14 = ew_cd_14 := rfl
theorem ew_c_15 : ew_cod 15 = ew_cd_15 := rfl
theorem ew_c_16 : ew_cod 16 = ew_cd_16 := rfl
theorem ew_c_17 : ew_cod 17 = ew_cd_17 := rfl
theorem ew_c_18 : ew_cod 18 = ew_cd_18 := rfl
theorem ew_c_19 : ew_cod 19 = ew_cd_19 := rfl
theorem ew_c_20 : ew_cod 20 = ew_cd_20 := rfl
theorem ew_c_21 : ew_cod 21 = ew_cd_21 := rfl
theorem ew_c_22 : ew_cod 22 = ew_cd_22 := rfl
theorem ew_c_23 : ew_cod 23 = ew_cd_23 := rfl
theorem ew_c_24 : ew_cod 24 = ew_cd_24 := rfl
theorem ew_c_25 : ew_cod 25 = ew_cd_25 := rfl
theorem ew_c_26 : ew_cod 26 = ew_cd_26 := rfl
theorem ew_c_27 : ew_cod 27 = ew_cd_27 := rfl
theorem ew_c_28 : ew_cod 28 = ew_cd_28 := rfl
theorem ew_c_29 : ew_cod 29 = ew_cd_29 := rfl
theorem ew_c_30 : ew_cod 30 = ew_cd_30 := rfl
theorem ew_c_31 : ew_cod 31 = ew_cd_31 := rfl
theorem ew_c_32 : ew_cod 32 = ew_cd_32 := rfl
theorem ew_c_33 : ew_cod 33 = ew_cd_33 := rfl
theorem ew_c_34 : ew_cod 34 = ew_cd_34 := rfl
theorem ew_c_35 : ew_cod 35 = ew_cd_35 := rfl
theorem ew_c_36 : ew_cod 36 = ew_cd_36 := rfl
theorem ew_c_37 : ew_cod 37 = ew_cd_37 := rfl
theorem ew_c_38 : ew_cod 38 = ew_cd_38 := rfl
theorem ew_c_39 : ew_cod 39 = ew_cd_39 := rfl
theorem ew_c_40 : ew_cod 40 = ew_cd_40 := rfl
theorem ew_c_41 : ew_cod 41 = ew_cd_41 := rfl
theorem ew_c_42 : ew_cod 42 = ew_cd_42 := rfl
theorem ew_c_43 : ew_cod 43 = ew_cd_43 := rfl
theorem ew_c_44 : ew_cod 44 = ew_cd_44 := rfl
theorem ew_c_45 : ew_cod 45 = ew_cd_45 := rfl
theorem ew_c_46 : ew_cod 46 = ew_cd_46 := rfl
theorem ew_c_47 : ew_cod 47 = ew_cd_47 := rfl
theorem ew_c_48 : ew_cod 48 = ew_cd_48 := rfl
theorem ew_c_49 : ew_cod 49 = ew_cd_49 := rfl
theorem ew_c_50 : ew_cod 50 = ew_cd_50 := rfl
theorem ew_c_51 : ew_cod 51 = ew_cd_51 := rfl
theorem ew_c_52 : ew_cod 52 = ew_cd_52 := rfl
theorem ew_c_53 : ew_cod 53 = ew_cd_53 := rfl
theorem ew_c_54 : ew_cod 54 = ew_cd_54 := rfl
theorem ew_c_55 : ew_cod 55 = ew_cd_55 := rfl
theorem ew_c_56 : ew_cod 56 = ew_cd_56 := rfl
theorem ew_c_57 : ew_cod 57 = ew_cd_57 := rfl
theorem ew_c_58 : ew_cod 58 = ew_cd_58 := rfl
theorem ew_c_59 : ew_cod 59 = ew_cd_59 := rfl
theorem ew_c_60 : ew_cod 60 = ew_cd_60 := rfl
theorem ew_c_61 : ew_cod 61 = ew_cd_61 := rfl
theorem ew_c_62 : ew_cod 62 = ew_cd_62 := rfl
theorem ew_c_63 : ew_cod 63 = ew_cd_63 := rfl
theorem ew_c_64 : ew_cod 64 = ew_cd_64 := rfl
theorem ew_c_65 : ew_cod 65 = ew_cd_65 := rfl
theorem ew_c_66 : ew_cod 66 = ew_cd_66 := rfl
theorem ew_c_67 : ew_cod 67 = ew_cd_67 := rfl
theorem ew_c_68 : ew_cod 68 = ew_cd_68 := rfl
theorem ew_c_69 : ew_cod 69 = ew_cd_69 := rfl
theorem ew_c_70 : ew_cod 70 = ew_cd_70 := rfl
theorem ew_c_71 : ew_cod 71 = ew_cd_71 := rfl
theorem ew_c_72 : ew_cod 72 = ew_cd_72 := rfl
theorem ew_c_73 : ew_cod 73 = ew_cd_73 := rfl
theorem ew_c_74 : ew_cod 74 = ew_cd_74 := rfl
theorem ew_c_75 : ew_cod 75 = ew_cd_75 := rfl
theorem ew_c_76 : ew_cod 76 = ew_cd_76 := rfl
theorem ew_c_77 : ew_cod 77 = ew_cd_77 := rfl
theorem ew_c_78 : ew_cod 78 = ew_cd_78 := rfl
theorem ew_c_79 : ew_cod 79 = ew_cd_79 := rfl
theorem ew_c_80 : ew_cod 80 = ew_cd_80 := rfl
theorem ew_c_81 : ew_cod 81 = ew_cd_81 := rfl
theorem ew_c_82 : ew_cod 82 = ew_cd_82 := rfl
theorem ew_c_83 : ew_cod 83 = ew_cd_83 := rfl
theorem ew_c_84 : ew_cod 84 = ew_cd_84 := rfl
theorem ew_c_85 : ew_cod 85 = ew_cd_85 := rfl
theorem ew_c_86 : ew_cod 86 = ew_cd_86 := rfl
theorem ew_c_87 : ew_cod 87 = ew_cd_87 := rfl
theorem ew_c_88 : ew_cod 88 = ew_cd_88 := rfl
theorem ew_c_89 : ew_cod 89 = ew_cd_89 := rfl
theorem ew_c_90 : ew_cod 90 = ew_cd_90 := rfl
theorem ew_c_91 : ew_cod 91 = ew_cd_91 := rfl
theorem ew_c_92 : ew_cod 92 = ew_cd_92 := rfl
theorem ew_c_93 : ew_cod 93 = ew_cd_93 := rfl
theorem ew_c_94 : ew_cod 94 = ew_cd_94 := rfl
theorem ew_c_95 : ew_cod 95 = ew_cd_95 := rfl
theorem ew_c_96 : ew_cod 96 = ew_cd_96 := rfl
theorem ew_c_97 : ew_cod 97 = ew_cd_97 := rfl
theorem ew_c_98 : ew_cod 98 = ew_cd_98 := rfl
theorem ew_c_99 : ew_cod 99 = ew_cd_99 := rfl
theorem ew_c_100 : ew_cod 100 = ew_cd_100 := rfl
theorem ew_c_101 : ew_cod 101 = ew_cd_101 := rfl
theorem ew_c_102 : ew_cod 102 = ew_cd_102 := rfl
theorem ew_c_103 : ew_cod 103 = ew_cd_103 := rfl
theorem ew_c_104 : ew_cod 104 = ew_cd_104 := rfl
theorem ew_c_105 : ew_cod 105 = ew_cd_105 := rfl
theorem ew_c_106 : ew_cod 106 = ew_cd_106 := rfl
theorem ew_c_107 : ew_cod 107 = ew_cd_107 := rfl
theorem ew_c_108 : ew_cod 108 = ew_cd_108 := rfl
theorem ew_c_109 : ew_cod 109 = ew_cd_109 := rfl
theorem ew_c_110 : ew_cod 110 = ew_cd_110 := rfl
theorem ew_c_111 : ew_cod 111 = ew_cd_111 := rfl
theorem ew_c_112 : ew_cod 112 = ew_cd_112 := rfl
theorem ew_c_113 : ew_cod 113 = ew_cd_113 := rfl
theorem ew_c_114 : ew_cod 114 = ew_cd_114 := rfl
theorem ew_c_115 : ew_cod 115 = ew_cd_115 := rfl
theorem ew_c_116 : ew_cod 116 = ew_cd_116 := rfl
theorem ew_c_117 : ew_cod 117 = ew_cd_117 := rfl
theorem ew_c_118 : ew_cod 118 = ew_cd_118 := rfl
theorem ew_c_119 : ew_cod 119 = ew_cd_119 := rfl
theorem ew_c_120 : ew_cod 120 = ew_cd_120 := rfl
theorem ew_c_121 : ew_cod 121 = ew_cd_121 := rfl
theorem ew_c_122 : ew_cod 122 = ew_cd_122 := rfl
theorem ew_c_123 : ew_cod 123 = ew_cd_123 := rfl
theorem ew_c_124 : ew_cod 124 = ew_cd_124 := rfl
theorem ew_c_125 : ew_cod 125 = ew_cd_125 := rfl
theorem ew_c_126 : ew_cod 126 = ew_cd_126 := rfl
theorem ew_c_127 : ew_cod 127 = ew_cd_127 := rfl
theorem ew_c_128 : ew_cod 128 = ew_cd_128 := rfl
theorem ew_c_129 : ew_cod 129 = ew_cd_129 := rfl
theorem ew_c_130 : ew_cod 130 = ew_cd_130 := rfl
theorem ew_c_131 : ew_cod 131 = ew_cd_131 := rfl
theorem ew_c_132 : ew_cod 132 = ew_cd_132 := rfl
theorem ew_c_133 : ew_cod 133 = ew_cd_133 := rfl
theorem ew_c_134 : ew_cod 134 = ew_cd_134 := rfl
theorem ew_c_135 : ew_cod 135 = ew_cd_135 := rfl
theorem ew_c_136 : ew_cod 136 = ew_cd_136 := rfl
theorem ew_c_137 : ew_cod 137 = ew_cd_137 := rfl
theorem ew_c_138 : ew_cod 138 = ew_cd_138 := rfl
theorem ew_c_139 : ew_cod 139 = ew_cd_139 := rfl
theorem ew_c_140 : ew_cod 140 = ew_cd_140 := rfl
theorem ew_c_141 : ew_cod 141 = ew_cd_141 := rfl
theorem ew_c_142 : ew_cod 142 = ew_cd_142 := rfl
theorem ew_c_143 : ew_cod 143 = ew_cd_143 := rfl
theorem ew_c_144 : ew_cod 144 = ew_cd_144 := rfl
theorem ew_c_145 : ew_cod 145 = ew_cd_145 := rfl
theorem ew_c_146 : ew_cod 146 = ew_cd_146 := rfl
theorem ew_c_147 : ew_cod 147 = ew_cd_147 := rfl
theorem ew_c_148 : ew_cod 148 = ew_cd_148 := rfl
theorem ew_c_149 : ew_cod 149 = ew_cd_149 := rfl
theorem ew_c_150 : ew_cod 150 = ew_cd_150 := rfl
theorem ew_c_151 : ew_cod 151 = ew_cd_151 := rfl
theorem ew_c_152 : ew_cod 152 = ew_cd_152 := rfl
theorem ew_c_153 : ew_cod 153 = ew_cd_153 := rfl
theorem ew_c_154 : ew_cod 154 = ew_cd_154 := rfl
theorem ew_c_155 : ew_cod 155 = ew_cd_155 := rfl
theorem ew_c_156 : ew_cod 156 = ew_cd_156 := rfl
theorem ew_c_157 : ew_cod 157 = ew_cd_157 := rfl
theorem ew_c_158 : ew_cod 158 = ew_cd_158 := rfl
theorem ew_c_159 : ew_cod 159 = ew_cd_159 := rfl
theorem ew_c_160 : ew_cod 160 = ew_cd_160 := rfl
theorem ew_c_161 : ew_cod 161 = ew_cd_161 := rfl
theorem ew_c_162 : ew_cod 162 = ew_cd_162 := rfl
theorem ew_c_163 : ew_cod 163 = ew_cd_163 := rfl
theorem ew_c_164 : ew_cod 164 = ew_cd_164 := rfl
theorem ew_c_165 : ew_cod 165 = ew_cd_165 := rfl
theorem ew_c_166 : ew_cod 166 = ew_cd_166 := rfl
theorem ew_c_167 : ew_cod 167 = ew_cd_167 := rfl
theorem ew_c_168 : ew_cod 168 = ew_cd_168 := rfl
theorem ew_c_169 : ew_cod 169 = ew_cd_169 := rfl
theorem ew_c_170 : ew_cod 170 = ew_cd_170 := rfl
theorem ew_c_171 : ew_cod 171 = ew_cd_171 := rfl
theorem ew_c_172 : ew_cod 172 = ew_cd_172 := rfl
theorem ew_c_173 : ew_cod 173 = ew_cd_173 := rfl
theorem ew_c_174 : ew_cod 174 = ew_cd_174 := rfl
theorem ew_c_175 : ew_cod 175 = ew_cd_175 := rfl
theorem ew_c_176 : ew_cod 176 = ew_cd_176 := rfl
theorem ew_c_177 : ew_cod 177 = ew_cd_177 := rfl
theorem ew_c_178 : ew_cod 178 = ew_cd_178 := rfl
theorem ew_c_179 : ew_cod 179 = ew_cd_179 := rfl
theorem ew_c_180 : ew_cod 180 = ew_cd_180 := rfl
theorem ew_c_181 : ew_cod 181 = ew_cd_181 := rfl
theorem ew_c_182 : ew_cod 182 = ew_cd_182 := rfl
theorem ew_c_183 : ew_cod 183 = ew_cd_183 := rfl
theorem ew_c_184 : ew_cod 184 = ew_cd_184 := rfl
theorem ew_c_185 : ew_cod 185 = ew_cd_185 := rfl
theorem ew_c_186 : ew_cod 186 = ew_cd_186 := rfl
theorem ew_c_187 : ew_cod 187 = ew_cd_187 := rfl
theorem ew_c_188 : ew_cod 188 = ew_cd_188 := rfl
theorem ew_c_189 : ew_cod 189 = ew_cd_189 := rfl
theorem ew_c_190 : ew_cod 190 = ew_cd_190 := rfl
theorem ew_c_191 : ew_cod 191 = ew_cd_191 := rfl
theorem ew_c_192 : ew_cod 192 = ew_cd_192 := rfl
theorem ew_c_193 : ew_cod 193 = ew_cd_193 := rfl
theorem ew_c_194 : ew_cod 194 = ew_cd_194 := rfl
theorem ew_c_195 : ew_cod 195 = ew_cd_195 := rfl
theorem ew_c_196 : ew_cod 196 = ew_cd_196 := rfl
theorem ew_c_197 : ew_cod 197 = ew_cd_197 := rfl
theorem ew_c_198 : ew_cod 198 = ew_cd_198 := rfl
theorem ew_c_199 : ew_cod 199 = ew_cd_199 := rfl
theorem ew_c_200 : ew_cod 200 = ew_cd_200 := rfl
theorem ew_c_201 : ew_cod 201 = ew_cd_201 := rfl
theorem ew_c_202 : ew_cod 202 = ew_cd_202 := rfl
theorem ew_c_203 : ew_cod 203 = ew_cd_203 := rfl
theorem ew_c_204 : ew_cod 204 = ew_cd_204 := rfl
theorem ew_c_205 : ew_cod 205 = ew_cd_205 := rfl
theorem ew_c_206 : ew_cod 206 = ew_cd_206 := rfl
theorem ew_c_207 : ew_cod 207 = ew_cd_207 := rfl
theorem ew_c_208 : ew_cod 208 = ew_cd_208 := rfl
theorem ew_c_209 : ew_cod 209 = ew_cd_209 := rfl
theorem ew_c_210 : ew_cod 210 = ew_cd_210 := rfl
theorem ew_c_211 : ew_cod 211 = ew_cd_211 := rfl
theorem ew_c_212 : ew_cod 212 = ew_cd_212 := rfl
theorem ew_c_213 : ew_cod 213 = ew_cd_213 := rfl
theorem ew_c_214 : ew_cod 214 = ew_cd_214 := rfl
theorem ew_c_215 : ew_cod 215 = ew_cd_215 := rfl
theorem ew_c_216 : ew_cod 216 = ew_cd_216 := rfl
theorem ew_c_217 : ew_cod 217 = ew_cd_217 := rfl
theorem ew_c_218 : ew_cod 218 = ew_cd_218 := rfl
theorem ew_c_219 : ew_cod 219 = ew_cd_219 := rfl
theorem ew_c_220 : ew_cod 220 = ew_cd_220 := rfl
theorem ew_c_221 : ew_cod 221 = ew_cd_221 := rfl
theorem ew_c_222 : ew_cod 222 = ew_cd_222 := rfl
theorem ew_c_223 : ew_cod 223 = ew_cd_223 := rfl
theorem ew_c_224 : ew_cod 224 = ew_cd_224 := rfl
theorem ew_c_225 : ew_cod 225 = ew_cd_225 := rfl
theorem ew_c_226 : ew_cod 226 = ew_cd_226 := rfl
theorem ew_c_227 : ew_cod 227 = ew_cd_227 := rfl
theorem ew_c_228 : ew_cod 228 = ew_cd_228 := rfl
theorem ew_c_229 : ew_cod 229 = ew_cd_229 := rfl
theorem ew_c_230 : ew_cod 230 = ew_cd_230 := rfl
theorem ew_c_231 : ew_cod 231 = ew_cd_231 := rfl
theorem ew_c_232 : ew_cod 232 = ew_cd_232 := rfl
theorem ew_c_233 : ew_cod 233 = ew_cd_233 := rfl
theorem ew_c_234 : ew_cod 234 = ew_cd_234 := rfl
theorem ew_c_235 : ew_cod 235 = ew_cd_235 := rfl
theorem ew_c_236 : ew_cod 236 = ew_cd_236 := rfl
theorem ew_c_237 : ew_cod 237 = ew_cd_237 := rfl
theorem ew_c_238 : ew_cod 238 = ew_cd_238 := rfl
theorem ew_c_239 : ew_cod 239 = ew_cd_239 := rfl
