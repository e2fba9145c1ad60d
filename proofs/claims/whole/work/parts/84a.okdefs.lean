
/-! each instruction is as the data say; its words stand in the tables -/
def ew_il (ins : Instr) : Nat := match ins with
  | .iload _ => 2 | .lload _ => 2 | .aload _ => 2 | .fload _ => 2 | .istore _ => 2 | .astore _ => 2 | .fstore _ => 2 | .lstore _ => 2
  | .bipush _ => 2 | .ldc _ => 2 | .newarray _ => 2
  | .sipush _ => 3 | .ldc_w _ => 3 | .ldc2_w _ => 3 | .iinc _ _ => 3 | .goto _ => 3 | .ifCond _ _ => 3 | .if_icmp _ _ => 3 | .ifnull _ => 3 | .ifnonnull _ => 3
  | .getfield _ => 3 | .putfield _ => 3 | .getstatic _ => 3 | .new _ => 3 | .anewarray _ => 3 | .invokevirtual _ => 3 | .invokespecial _ => 3 | .invokestatic _ => 3
  | .tableswitch _ _ _ _ => 0 | .lookupswitch _ _ => 0
  | _ => 1
noncomputable def ew_cls (k : Nat) : String := (ew_y k).cls
def ew_fn (t : Nat) : Nat := (ew_cl.getD t ("", TX0, 0)).2.2
noncomputable def ew_nest : List Cond := [(Jvm.Cond.methodLinkNest "EclipseWheel" (11 : Nat) ({ cls := "EclipseWheel$Setup", name := "<init>", desc := "()V" } : Jvm.MethodName) "EclipseWheel"), (Jvm.Cond.methodLinkNest "EclipseWheel" (27 : Nat) ({ cls := "EclipseWheel$Tray", name := "<init>", desc := "()V" } : Jvm.MethodName) "EclipseWheel"), (Jvm.Cond.methodLinkNest "EclipseWheel" (34 : Nat) ({ cls := "EclipseWheel$Items", name := "<init>", desc := "()V" } : Jvm.MethodName) "EclipseWheel"), (Jvm.Cond.methodLinkNest "EclipseWheel" (41 : Nat) ({ cls := "EclipseWheel$Tape", name := "<init>", desc := "()V" } : Jvm.MethodName) "EclipseWheel"), (Jvm.Cond.methodLinkNest "EclipseWheel" (59 : Nat) ({ cls := "EclipseWheel$Sheet", name := "<init>", desc := "()V" } : Jvm.MethodName) "EclipseWheel"), (Jvm.Cond.methodLinkNest "EclipseWheel$Setup" (100 : Nat) ({ cls := "EclipseWheel", name := "isMonth", desc := "(I)Z" } : Jvm.MethodName) "EclipseWheel")]
noncomputable def ew_np (k : Nat) : Option Nat := (parseMethodDescriptor (ew_y k).desc).map (fun d => d.parameters.length)
def ew_isO (r : Option FieldType) : Bool := match r with
  | some (.object _) => true
  | some (.array _) => true
  | _ => false
noncomputable def ew_okI (k pc : Nat) (ins : Instr) (a b : Nat) (z : Int) (ps : List Nat) : Bool := match ins with
  | .iconst n => decide (Int32.ofInt n = ew_i z)
  | .bipush n => decide ((Int8.ofInt n).toInt32 = ew_i z)
  | .sipush n => decide ((Int16.ofInt n).toInt32 = ew_i z)
  | .lconst n => decide (Int64.ofNat (n : Nat) = ew_l z)
  | .fconst n => decide ((n = 0 ∧ FP.fconst0 = ew_f z) ∨ (n = 1 ∧ FP.fconst1 = ew_f z) ∨ (n = 2 ∧ FP.fconst2 = ew_f z))
  | .dconst n => decide ((n = 0 ∧ FP.dconst0 = ew_d z) ∨ (n = 1 ∧ FP.dconst1 = ew_d z))
  | .ldc i => (decide (a = 0) && ew_wd ps 0 (Jvm.Cond.constant (ew_cls k) i (ew_i z))) || (decide (a = 3) && ew_wd ps 0 (Jvm.Cond.constantFloat (ew_cls k) i (ew_f z)))
  | .ldc_w i => ew_wd ps 0 (Jvm.Cond.constant (ew_cls k) i (ew_i z))
  | .ldc2_w i => (decide (a = 1) && ew_wd ps 0 (Jvm.Cond.constantLong (ew_cls k) i (ew_l z))) || (decide (a = 4) && ew_wd ps 0 (Jvm.Cond.constantDouble (ew_cls k) i (ew_d z)))
  | .goto o => decide ((pc : Int) + o = (a : Int))
  | .ifCond _ o => decide ((pc : Int) + o = (a : Int))
  | .if_icmp _ o => decide ((pc : Int) + o = (a : Int))
  | .ifnull o => decide ((pc : Int) + o = (a : Int))
  | .ifnonnull o => decide ((pc : Int) + o = (a : Int))
  | .tableswitch d _ _ _ => decide ((pc : Int) + d = (a : Int))
  | .lookupswitch _ ps => (ps.toList.zip (ps.toList.drop 1)).all (fun (a, next) => a.1 < next.1)
  | .getfield i => ew_wd ps 0 (Jvm.Cond.fieldLink (ew_cls k) i (ew_R a) (ew_T a b).2.1 (ew_T a b).2.2.1) && (decide (a < 9) && (decide (b < ew_fn a) && (decide ((ew_T a b).1 = ew_R a) && decide (z.toNat = ew_fk a b))))
  | .putfield i => ew_wd ps 0 (Jvm.Cond.fieldLink (ew_cls k) i (ew_R a) (ew_T a b).2.1 (ew_T a b).2.2.1) && (decide (a < 9) && (decide (b < ew_fn a) && (decide ((ew_T a b).1 = ew_R a) &&
      (decide ((z = 5 ∧ ew_ty a b = .boolean) ∨ (z = 0 ∧ ew_ty a b = .int) ∨ (z = 2 ∧ ew_isO (some (ew_ty a b)) = true)) && (! (ew_T a b).2.2.2 || decide ((ew_y k).name = "<init>" ∧ (ew_T a b).1 = ew_cls k))))))
  | .getstatic i => (decide (z = 1) && ew_wd ps 0 (Jvm.Cond.fieldLink (ew_cls k) i "EclipseWheel$Setup" "RULE_LEAST" "[I")) || (decide (z = 2) && ew_wd ps 0 (Jvm.Cond.fieldLink (ew_cls k) i "EclipseWheel$Setup" "RULE_MOST" "[I"))
  | .new i => ew_wd ps 0 (Jvm.Cond.classLink (ew_cls k) i (ew_R a)) && (ew_wd ps 1 (Jvm.Cond.instantiable (ew_R a) (ew_fn a)) && (ew_wd ps 2 (Jvm.Cond.initialized (ew_R a)) && decide (a < 9)))
  | .newarray t => (decide (t = .int ∧ a = 20) && ew_wd ps 0 (Jvm.Cond.arrayClass .int)) || (decide (t = .long ∧ a = 21) && ew_wd ps 0 (Jvm.Cond.arrayClass .long))
  | .anewarray i => (decide (a = 22) && ew_wd ps 0 (Jvm.Cond.classLink (ew_cls k) i "EclipseWheel$Wheel")) || ((decide (a = 23) && ew_wd ps 0 (Jvm.Cond.classLink (ew_cls k) i "EclipseWheel$Tray")) || (decide (a = 24) && ew_wd ps 0 (Jvm.Cond.classLink (ew_cls k) i "EclipseWheel$Items")))
  | .invokevirtual i => decide (z = 1) && (ew_wd ps 0 (Jvm.Cond.methodLink (ew_cls k) i (ew_y a)) && (ew_wd ps 1 (Jvm.Cond.instanceMethod (ew_y a)) && (ew_wd ps 2 (Jvm.Cond.selects (ew_y a).cls (ew_y a) (ew_y a)) && (ew_wd ps 3 (Jvm.Cond.initialized (ew_y a).cls) &&
      (decide (a < 239) && (decide (1 ≤ b) && (decide (ew_np a = some (b - 1)) && (decide (ew_R (ew_rcv a) = (ew_y a).cls) && decide (ew_rcv a < 9)))))))))
  | .invokestatic i => (decide (z = 0) && (ew_wd ps 0 (Jvm.Cond.methodLink (ew_cls k) i (ew_y a)) && (ew_wd ps 1 (Jvm.Cond.static (ew_y a)) && (ew_wd ps 2 (Jvm.Cond.initialized (ew_y a).cls) && (decide (a < 239) && decide (ew_np a = some b)))))) ||
      ((decide (z = 7) && (decide (Jvm.Cond.methodLinkNest (ew_cls k) i (ew_y a) "EclipseWheel" ∈ ew_nest) && (ew_wd ps 0 (Jvm.Cond.static (ew_y a)) && (ew_wd ps 1 (Jvm.Cond.initialized (ew_y a).cls) && (decide (a < 239) && decide (ew_np a = some b)))))) ||
      ((decide (z = 5) && (decide (1 ≤ ew_lv k) && (ew_wd ps 0 (Jvm.Cond.methodLink (ew_cls k) i ⟨"java/lang/Double", "doubleToRawLongBits", "(D)J"⟩) && (ew_wd ps 1 (Jvm.Cond.static ⟨"java/lang/Double", "doubleToRawLongBits", "(D)J"⟩) && (ew_wd ps 2 (Jvm.Cond.initialized "java/lang/Double") && ew_wd ps 3 (Jvm.Cond.native ⟨"java/lang/Double", "doubleToRawLongBits", "(D)J"⟩)))))) ||
       (decide (z = 6) && (decide (1 ≤ ew_lv k) && (ew_wd ps 0 (Jvm.Cond.methodLink (ew_cls k) i ⟨"java/lang/Float", "floatToRawIntBits", "(F)I"⟩) && (ew_wd ps 1 (Jvm.Cond.static ⟨"java/lang/Float", "floatToRawIntBits", "(F)I"⟩) && (ew_wd ps 2 (Jvm.Cond.initialized "java/lang/Float") && ew_wd ps 3 (Jvm.Cond.native ⟨"java/lang/Float", "floatToRawIntBits", "(F)I"⟩))))))))
  | .invokespecial i => (decide (z = 2) && (ew_wd ps 0 (Jvm.Cond.methodLink (ew_cls k) i (ew_y a)) && (ew_wd ps 1 (Jvm.Cond.instanceMethod (ew_y a)) && (ew_wd ps 2 (Jvm.Cond.initialized (ew_y a).cls) &&
      (decide (a < 239) && (decide (1 ≤ b) && (decide (ew_np a = some (b - 1)) && (decide ((ew_y a).name = "<init>") && decide (ew_rt a = none))))))))) ||
      ((decide (z = 3) && (decide (Jvm.Cond.methodLinkNest (ew_cls k) i (ew_y a) "EclipseWheel" ∈ ew_nest) && (ew_wd ps 0 (Jvm.Cond.instanceMethod (ew_y a)) && (ew_wd ps 1 (Jvm.Cond.initialized (ew_y a).cls) &&
      (decide (a < 239) && (decide (1 ≤ b) && (decide (ew_np a = some (b - 1)) && (decide ((ew_y a).name = "<init>") && decide (ew_rt a = none))))))))) ||
      (decide (z = 4) && (decide (1 ≤ ew_lv k) && (ew_wd ps 0 (Jvm.Cond.methodLink (ew_cls k) i Lib.objectInit) && (ew_wd ps 1 (Jvm.Cond.instanceMethod Lib.objectInit) && ew_wd ps 2 (Jvm.Cond.code Lib.objectInit ⟨#[0xb1]⟩ 1 none))))))
  | .ireturn => decide ((b = 1 ∧ ew_rt k = some .boolean) ∨ (b = 0 ∧ ew_rt k = some .int))
  | .lreturn => decide (ew_rt k = some .long)
  | .freturn => decide (ew_rt k = some .float)
  | .areturn => ew_isO (ew_rt k)
  | .return_ => decide (ew_rt k = none)
  | _ => true
noncomputable def ew_okE (k : Nat) (e : ew_Ent) (ps : List Nat) : Bool :=
  ((decide (ew_il e.2.1 = 0) && decide (decode (ew_by k) e.1 = .ok (e.2.1, e.2.2.1 - e.1))) || (decide (decode (ew_by k) e.1 = .ok (e.2.1, ew_il e.2.1)) && decide (e.2.2.1 = e.1 + ew_il e.2.1))) && ew_okI k e.1 e.2.1 e.2.2.2.1 e.2.2.2.2.1 e.2.2.2.2.2 ps
noncomputable def ew_chk (k : Nat) : List ew_Ent → List (List Nat) → Bool
  | [], _ => true
  | e :: es, p :: ps => ew_okE k e p && ew_chk k es ps
  | _ :: _, [] => false
def ew_Ok (k : Nat) (es : List ew_Ent) : Prop := ∀ e ∈ es, ∃ ps, ew_okE k e ps = true
theorem ew_Ok_of (k : Nat) : ∀ (es : List ew_Ent) (ps : List (List Nat)), ew_chk k es ps = true → ew_Ok k es
  | [], _, _ => fun e h => by cases h
  | e :: es, [], h => by simp [ew_chk] at h
  | e :: es, p :: ps, h => by
    simp only [ew_chk, Bool.and_eq_true] at h
    intro q hq
    rcases List.mem_cons.mp hq with h1 | h1
    · exact ⟨p, h1 ▸ h.1⟩
    · exact ew_Ok_of k es ps h.2 q h1
theorem ew_Ok_cut {k : Nat} {es : List ew_Ent} (n : Nat) (h1 : ew_Ok k (es.take n)) (h2 : ew_Ok k (es.drop n)) : ew_Ok k es := by
  intro e he
  rw [← List.take_append_drop n es] at he
  exact (List.mem_append.mp he).elim (h1 e) (h2 e)

