/-! THE CLAIM OUT OF ONE WALK OF THE LAW'S BODY. Your part is whole_start (and what it stands on); all else here is the same for every law, but numbers. -/
def R_law : String := "EclipseWheelLaw"
def lw_P (b : Addr) (xs : List Int32) (args : Array Value) (s : State) : Prop := args = #[.ref b] ∧ s.IntsAt b xs ∧ xs.length ≤ 3072 ∧ (Jvm.Cond.and given_1 narrow_1).before args s = true
/-- what a walk over the start with the record d0 says of its end, said of the start itself -/
theorem lw_closed {s t : State} {o : Outcome} {d0 : Drawn} {L : List Loc} {k n : Nat} (hd0 : s.drawn.sameBut d0 lw_cs) (hv : ∃ v, o = .returned v) (hW : (s.setDrawn d0).WarmedH t.vm) (hs : (s.setDrawn d0).sameButNew ({ t with vm := s.vm } : State) L k n) : State.butDraws s t lw_cs (fun t1 => Framed s o t1 L k n) := by
  have h2 : t.drawn = d0 := congrArg State.drawn hs.1
  refine ⟨⟨hv, hW, State.sameButNew.setDrawn hs s.drawn⟩, ?_, by decide⟩
  rw [h2]
  exact hd0
def lw_Q (_ : Array Value) (s : State) (o : Outcome) (t : State) : Prop := o = .returned (some (.int 1)) ∧ State.butDraws s t lw_cs (fun t1 => Framed s o t1 [] 600000 7302249)
def lw_Z (below : List Frame) (a : Array Value) (s : State) : State → Prop := fun t => ∃ o, t.status = .running ∧ Ended t below o ∧ lw_Q a s o t
/-- the law's own end, with 1 on the stack, nothing written that was there before, its room as the claim has it; d0: the record of draws at this point (at the entry s.drawn: begin with 'refine W.base ?_' and 'have hd0 := Drawn.sameBut.refl s.drawn lw_cs') -/
theorem lw_ret {p : Program} {l : Launch} {e : Env} {s : State} {m : MethodId} {below : List Frame} {meth : Method} {c : Code} {b : Nat} {d0 : Drawn} (hd0 : s.drawn.sameBut d0 lw_cs) (hx : p.tables.exec = Jvm.exec) (hb : c.code = code) (hr : meth.sig.returnType = ret) (hlocks : meth.locks = false) {pc : Nat} {H : Heap} {ls : Array Slot} (hdg : decode code pc = .ok (.ireturn, 1)) : W p l e room_1 (s.setDrawn d0) m #[Value.ref b] below meth c H [] 600000 7302249 (lw_Z below #[Value.ref b] s) (F0 m pc ls [.int 1]) := by
  intro T hT X
  obtain ⟨fs, hret, hrun, hended, hW, hframe⟩ := X.leave (v := some (.int 1)) (hlocks := hlocks) (fun h => by rw [hr] at h; cases h)
  have hmeth' : T.vm.method? m = some meth := X.method'
  refine ⟨T.setFrames fs, ?_, .returned (some (.int 1)), hrun, hended, rfl, lw_closed hd0 ⟨_, rfl⟩ hW hframe⟩
  jvm_step X.here [X.here.top, hx, hb, hdg, hmeth', hr, ret, narrow_b1]
  (try refine ⟨rfl, ?_⟩); (try refine ⟨rfl, ?_⟩)
  first | (intro acts; rw [hret _ acts rfl rfl rfl]) | rw [hret _ _ rfl rfl rfl]
  exact Steps.refl _
/-- what holds at the law's entry: the machine, the code, the tables' words (any of lw_tbl by 'hts w (by decide +kernel)'), the script of L ints xs at the cell b, what the Statement gives of the start (any of its parts by flat_of_before) -/
def lw_At (p : Program) (s : State) (m : MethodId) (meth : Method) (c : Code) (b L : Nat) (xs : Nat → Int32) : Prop :=
  p.tables.exec = Jvm.exec ∧ c.code = code ∧ meth.sig.returnType = ret ∧ c.maxLocals = 4 ∧ s.vm.findClass R_law = some m.cls ∧ (∀ w ∈ lw_tbl, w.before #[Value.ref b] s = true) ∧ va_X b L xs s s.heap ∧ b < s.heap.size ∧ meth.locks = false ∧ (Jvm.Cond.and given_1 narrow_1).before #[Value.ref b] s = true
-- ===== YOUR PART BEGINS =====
theorem ws_kn {args : Array Value} {s : State} (hts : ∀ w ∈ lw_tbl, w.before args s = true) : ∀ t, t < 9 → ∃ q : ClassId × (Nat → Nat), u_Kn s (ew_R t) (ew_T t) (ew_fn t) q.1 q.2 := by
  have hW : ∀ w ∈ ew_W, w.before args s = true := fun w hw => hts w (List.mem_filter.mp hw).1
  have key : ∀ t, t < 9 → ∀ i n : Nat, lw_tbl[i]? = some (Cond.instantiable (ew_R t) n) → ∃ q : ClassId × (Nat → Nat), u_Kn s (ew_R t) (ew_T t) (ew_fn t) q.1 q.2 := by
    intro t ht i n hi
    obtain ⟨cC, iS, h⟩ := u_known hW (ew_win t ht) (hts _ (List.mem_of_getElem? hi))
    exact ⟨(cC, iS), h⟩
  intro t ht
  match t, ht with
  | 0, h => exact key 0 h 112 2 (by decide +kernel)
  | 1, h => exact key 1 h 112 2 (by decide +kernel)
  | 2, h => exact key 2 h 63 5 (by decide +kernel)
  | 3, h => exact key 3 h 160 2 (by decide +kernel)
  | 4, h => exact key 4 h 127 8 (by decide +kernel)
  | 5, h => exact key 5 h 92 3 (by decide +kernel)
  | 6, h => exact key 6 h 226 5 (by decide +kernel)
  | 7, h => exact key 7 h 55 12 (by decide +kernel)
  | 8, h => exact key 8 h 817 33 (by decide +kernel)
  | t + 9, h => omega
theorem ws_prim {args : Array Value} {s : State} {ty : FieldType} (h : (Cond.arrayClass ty).before args s = true) (hty : ty = .int ∨ ty = .long) : ∃ cA : ClassId, ArrOfT s cA ty ∧ va_RA s cA ty := by
  obtain ⟨c, k, comp, h1, h2, h3⟩ := Cond.arrayClass_spec h
  refine ⟨c, fun N z => ⟨(fun k h => by cases h), k, h2, comp, h3⟩, ?_⟩
  rcases hty with rfl | rfl
  · exact h1
  · exact h1
theorem ws_obj {args : Array Value} {s : State} {C : String} (h : (Cond.arrayOver (.object C)).before args s = true) : ∃ cA : ClassId, ArrOfT s cA (.object C) ∧ va_RA s cA (.object C) := by
  obtain ⟨comp, c, k, h1, h2, h3, h4, h5⟩ := Cond.arrayOver_spec h
  exact ⟨c, fun N z => ⟨(fun k h => by cases h), k, h3, comp, h4⟩, k, comp, h3, h4, h1, h5⟩
theorem ws_tab {args : Array Value} {s : State} {tm : Term} {N : Nat} {f : Nat → Int32} (hN : N < 2 ^ 31) (harr : (Cond.arrayOf tm .int).before args s = true) (hlen : (Cond.eq (.length tm) (.int (Int32.ofNat N))).before args s = true) (hel : ∀ j : Nat, j < N → (Cond.eq (.elem tm (.int (Int32.ofNat j))) (.int (f j))).before args s = true) : ∃ t : Nat, tm.eval args s none [] s = some (.ref t) ∧ t < s.heap.size ∧ va_X t N f s s.heap := by
  have hlen' := va_eqt hlen
  obtain ⟨t, cell, ht, hat, hv⟩ := Term.length_spec hlen'
  obtain ⟨hcell, hkn, -, -⟩ := State.arrayAt?_spec hat
  obtain ⟨hof, -⟩ := Cond.arrayOf_spec harr ht hcell
  have hsz : cell.slots.size < 2 ^ 31 := by
    simp only [Term.eval, ht, hat, Option.bind_eq_bind, Option.bind_some] at hlen'
    by_cases hlt : cell.slots.size < 2147483648
    · exact hlt
    · simp [hlt] at hlen'
  have hszN : cell.slots.size = N := by
    have h2 := congrArg Int32.toNatClampNeg (Value.int.inj hv)
    rw [Int32.toNatClampNeg_ofNat_of_lt hN, show cell.slots.size.toInt32 = Int32.ofNat cell.slots.size from rfl, Int32.toNatClampNeg_ofNat_of_lt hsz] at h2
    exact h2.symm
  refine ⟨t, ht, (Array.getElem?_eq_some_iff.mp hcell).1, cell, hcell, hof, hkn, hszN, fun j hj => ?_⟩
  obtain ⟨a, i, cell2, h1, h2, h3, h4, h5⟩ := Term.elem_spec (va_eqt (hel j hj))
  cases ht.symm.trans h1
  cases hat.symm.trans h3
  have hi : i = Int32.ofNat j := by
    have e : (Term.int (Int32.ofNat j)).eval args s none [] s = some (.int (Int32.ofNat j)) := rfl
    cases h2.symm.trans e
    rfl
  have hc : i.toNatClampNeg = j := by rw [hi]; exact Int32.toNatClampNeg_ofNat_of_lt (Nat.lt_trans hj hN)
  rw [hc] at h5
  exact h5
def ws_Lo (L : Nat) (xs : Nat → Int32) : ew_Mem := fun a j => match a with
  | 0 => if j = 0 then (L : Int) else 0
  | 1 => [0, 0, 0, 1, 1, 1].getD j 0
  | 2 => [99999, 99999, 99999, 100000, 1000, 400].getD j 0
  | 3 => (xs j).toInt
  | _ => 0
theorem ws_E {s : State} {b L : Nat} {xs : Nat → Int32} (hts : ∀ w ∈ lw_tbl, w.before #[Value.ref b] s = true) (hX : va_X b L xs s s.heap) (hbl : b < s.heap.size) (hL : L < 2 ^ 31) (hgv : (Jvm.Cond.and given_1 narrow_1).before #[Value.ref b] s = true) : ∃ (D : va_G) (tc : Nat → ClassId) (g1 g2 : Nat), ew_E D tc (g1, g2, b, s.heap.size) (ws_Lo L xs) s := by
  have hat : ∀ (i : Nat) (w : Cond), lw_tbl[i]? = some w → w.before #[Value.ref b] s = true := fun i w h => hts w (List.mem_of_getElem? h)
  have hs := flat_of_before _ hgv
  have hk : ∀ t : Nat, ∃ q : ClassId × (Nat → Nat), t < 9 → u_Kn s (ew_R t) (ew_T t) (ew_fn t) q.1 q.2 := by
    intro t
    by_cases ht : t < 9
    · obtain ⟨q, h⟩ := ws_kn hts t ht
      exact ⟨q, fun _ => h⟩
    · exact ⟨(0, fun _ => 0), fun h => absurd h ht⟩
  obtain ⟨c0, a0, r0⟩ := ws_prim (hat 89 (Cond.arrayClass .int) (by decide +kernel)) (Or.inl rfl)
  obtain ⟨c1, a1, r1⟩ := ws_prim (hat 125 (Cond.arrayClass .long) (by decide +kernel)) (Or.inr rfl)
  have o2 := hat 69 (Cond.arrayOver (.object "EclipseWheel$Wheel")) (by decide +kernel)
  have o3 := hat 91 (Cond.arrayOver (.object "EclipseWheel$Tray")) (by decide +kernel)
  have o4 := hat 111 (Cond.arrayOver (.object "EclipseWheel$Items")) (by decide +kernel)
  obtain ⟨c2, a2, r2⟩ := ws_obj o2
  obtain ⟨c3, a3, r3⟩ := ws_obj o3
  obtain ⟨c4, a4, r4⟩ := ws_obj o4
  obtain ⟨g1, e1, l1, x1⟩ := ws_tab (tm := .static "EclipseWheel$Setup" "RULE_LEAST" "[I") (N := 6) (f := fun j => ew_i (ws_Lo L xs 1 j)) (by decide) (hs _ (by decide +kernel)) (hs _ (by decide +kernel)) (fun j hj => by
    match j, hj with
    | 0, _ => exact hs _ (by show Cond.eq (.elem (.static "EclipseWheel$Setup" "RULE_LEAST" "[I") (.int 0)) (.int 0) ∈ _; decide +kernel)
    | 1, _ => exact hs _ (by show Cond.eq (.elem (.static "EclipseWheel$Setup" "RULE_LEAST" "[I") (.int 1)) (.int 0) ∈ _; decide +kernel)
    | 2, _ => exact hs _ (by show Cond.eq (.elem (.static "EclipseWheel$Setup" "RULE_LEAST" "[I") (.int 2)) (.int 0) ∈ _; decide +kernel)
    | 3, _ => exact hs _ (by show Cond.eq (.elem (.static "EclipseWheel$Setup" "RULE_LEAST" "[I") (.int 3)) (.int 1) ∈ _; decide +kernel)
    | 4, _ => exact hs _ (by show Cond.eq (.elem (.static "EclipseWheel$Setup" "RULE_LEAST" "[I") (.int 4)) (.int 1) ∈ _; decide +kernel)
    | 5, _ => exact hs _ (by show Cond.eq (.elem (.static "EclipseWheel$Setup" "RULE_LEAST" "[I") (.int 5)) (.int 1) ∈ _; decide +kernel)
    | j + 6, h => omega)
  obtain ⟨g2, e2, l2, x2⟩ := ws_tab (tm := .static "EclipseWheel$Setup" "RULE_MOST" "[I") (N := 6) (f := fun j => ew_i (ws_Lo L xs 2 j)) (by decide) (hs _ (by decide +kernel)) (hs _ (by decide +kernel)) (fun j hj => by
    match j, hj with
    | 0, _ => exact hs _ (by show Cond.eq (.elem (.static "EclipseWheel$Setup" "RULE_MOST" "[I") (.int 0)) (.int 99999) ∈ _; decide +kernel)
    | 1, _ => exact hs _ (by show Cond.eq (.elem (.static "EclipseWheel$Setup" "RULE_MOST" "[I") (.int 1)) (.int 99999) ∈ _; decide +kernel)
    | 2, _ => exact hs _ (by show Cond.eq (.elem (.static "EclipseWheel$Setup" "RULE_MOST" "[I") (.int 2)) (.int 99999) ∈ _; decide +kernel)
    | 3, _ => exact hs _ (by show Cond.eq (.elem (.static "EclipseWheel$Setup" "RULE_MOST" "[I") (.int 3)) (.int 100000) ∈ _; decide +kernel)
    | 4, _ => exact hs _ (by show Cond.eq (.elem (.static "EclipseWheel$Setup" "RULE_MOST" "[I") (.int 4)) (.int 1000) ∈ _; decide +kernel)
    | 5, _ => exact hs _ (by show Cond.eq (.elem (.static "EclipseWheel$Setup" "RULE_MOST" "[I") (.int 5)) (.int 400) ∈ _; decide +kernel)
    | j + 6, h => omega)
  have hA : ∀ a : Nat, a < s.heap.size → ¬ ew_A (g1, g2, b, s.heap.size) a := fun a h q => Nat.lt_irrefl _ (Nat.lt_of_lt_of_le h q)
  have hini := hat 43 (Cond.initialized "EclipseWheel$Setup") (by decide +kernel)
  refine ⟨(fun t => (Classical.choose (hk t)).1, fun t => (Classical.choose (hk t)).2), fun t => if t = 20 then c0 else if t = 21 then c1 else if t = 22 then c2 else if t = 23 then c3 else c4, g1, g2, ⟨?_, ?_⟩, ?_, ⟨va_AO.of o2, va_AO.of o3, va_AO.of o4⟩, Nat.le_refl _, ?_, va_Zref (hat 351 (Cond.laysStatic "EclipseWheel$Setup" "RULE_LEAST" "[I") (by decide +kernel)) hini e1 hA, va_Zref (hat 353 (Cond.laysStatic "EclipseWheel$Setup" "RULE_MOST" "[I") (by decide +kernel)) hini e2 hA, ?_⟩
  · intro t q hq
    have ht : t < 9 := (List.getElem?_eq_some_iff.mp hq).1
    cases (ew_cl_at t ht).symm.trans hq
    exact Classical.choose_spec (hk t) ht
  · intro k q hq
    match k, hq with
    | 0, hq => cases hq; exact ⟨a0, r0⟩
    | 1, hq => cases hq; exact ⟨a1, r1⟩
    | 2, hq => cases hq; exact ⟨a2, r2⟩
    | 3, hq => cases hq; exact ⟨a3, r3⟩
    | 4, hq => cases hq; exact ⟨a4, r4⟩
    | k + 5, hq => simp [ew_tys] at hq
  · intro w hw
    simp only [ew_nest, List.mem_cons, List.not_mem_nil, or_false] at hw
    rcases hw with rfl | rfl | rfl | rfl | rfl | rfl
    · exact va_Nw.of rfl (hat 64 _ (by decide +kernel))
    · exact va_Nw.of rfl (hat 93 _ (by decide +kernel))
    · exact va_Nw.of rfl (hat 113 _ (by decide +kernel))
    · exact va_Nw.of rfl (hat 128 _ (by decide +kernel))
    · exact va_Nw.of rfl (hat 161 _ (by decide +kernel))
    · exact va_Nw.of rfl (hat 414 _ (by decide +kernel))
  · intro a h1 h4
    match a, h1, h4 with
    | 1, _, _ => exact l1
    | 2, _, _ => exact l2
    | 3, _, _ => exact hbl
    | a + 4, _, h => omega
  · intro a h1 h4
    match a, h1, h4 with
    | 1, _, _ => exact ⟨x1, show (6 : Nat) < 2 ^ 31 by decide⟩
    | 2, _, _ => exact ⟨x2, show (6 : Nat) < 2 ^ 31 by decide⟩
    | 3, _, _ =>
      have he : ew_len (ws_Lo L xs) 3 = L := by simp [ew_len, ws_Lo]
      rw [he]
      refine ⟨?_, hL⟩
      have hf : (fun j => ew_i (ws_Lo L xs 3 j)) = xs := by
        funext j
        show Int32.ofInt (xs j).toInt = xs j
        simp
      rw [hf]
      exact hX
    | a + 4, _, h => omega
theorem ws_sz : ∀ d : Nat, ew_sz (59 + d) = ew_sz 59 + 5 * d
  | 0 => rfl
  | d + 1 => by
    show ew_sz (59 + d) + (ew_tag (59 + d)).2 = _
    rw [ws_sz d, ew_tag_ge (by omega)]
    show _ + 5 = _
    omega
theorem ws_sz59 : ew_sz 59 ≤ 100000 := by decide +kernel
def ws_all (P : Nat → Prop) : Nat → Nat → Prop
  | _, 0 => True
  | i, n + 1 => P i ∧ ws_all P (i + 1) n
theorem ws_all_get {P : Nat → Prop} : ∀ (n i : Nat), ws_all P i n → ∀ j, j < n → P (i + j)
  | 0, _, _, j, h => absurd h (Nat.not_lt_zero j)
  | n + 1, i, h, 0, _ => h.1
  | n + 1, i, h, j + 1, hj => by
    have := ws_all_get n (i + 1) h.2 j (by omega)
    rw [show i + (j + 1) = i + 1 + j by omega]
    exact this
set_option maxRecDepth 100000 in
theorem ws_cwl : ws_all (fun k => ew_cw k ∈ ew_W) 0 239 := ⟨ew_W_of ew_cwp_0 rfl, ew_W_of ew_cwp_1 rfl, ew_W_of ew_cwp_2 rfl, ew_W_of ew_cwp_3 rfl, ew_W_of ew_cwp_4 rfl, ew_W_of ew_cwp_5 rfl, ew_W_of ew_cwp_6 rfl, ew_W_of ew_cwp_7 rfl, ew_W_of ew_cwp_8 rfl, ew_W_of ew_cwp_9 rfl, ew_W_of ew_cwp_10 rfl, ew_W_of ew_cwp_11 rfl, ew_W_of ew_cwp_12 rfl, ew_W_of ew_cwp_13 rfl, ew_W_of ew_cwp_14 rfl, ew_W_of ew_cwp_15 rfl, ew_W_of ew_cwp_16 rfl, ew_W_of ew_cwp_17 rfl, ew_W_of ew_cwp_18 rfl, ew_W_of ew_cwp_19 rfl, ew_W_of ew_cwp_20 rfl, ew_W_of ew_cwp_21 rfl, ew_W_of ew_cwp_22 rfl, ew_W_of ew_cwp_23 rfl, ew_W_of ew_cwp_24 rfl, ew_W_of ew_cwp_25 rfl, ew_W_of ew_cwp_26 rfl, ew_W_of ew_cwp_27 rfl, ew_W_of ew_cwp_28 rfl, ew_W_of ew_cwp_29 rfl, ew_W_of ew_cwp_30 rfl, ew_W_of ew_cwp_31 rfl, ew_W_of ew_cwp_32 rfl, ew_W_of ew_cwp_33 rfl, ew_W_of ew_cwp_34 rfl, ew_W_of ew_cwp_35 rfl, ew_W_of ew_cwp_36 rfl, ew_W_of ew_cwp_37 rfl, ew_W_of ew_cwp_38 rfl, ew_W_of ew_cwp_39 rfl, ew_W_of ew_cwp_40 rfl, ew_W_of ew_cwp_41 rfl, ew_W_of ew_cwp_42 rfl, ew_W_of ew_cwp_43 rfl, ew_W_of ew_cwp_44 rfl, ew_W_of ew_cwp_45 rfl, ew_W_of ew_cwp_46 rfl, ew_W_of ew_cwp_47 rfl, ew_W_of ew_cwp_48 rfl, ew_W_of ew_cwp_49 rfl, ew_W_of ew_cwp_50 rfl, ew_W_of ew_cwp_51 rfl, ew_W_of ew_cwp_52 rfl, ew_W_of ew_cwp_53 rfl, ew_W_of ew_cwp_54 rfl, ew_W_of ew_cwp_55 rfl, ew_W_of ew_cwp_56 rfl, ew_W_of ew_cwp_57 rfl, ew_W_of ew_cwp_58 rfl, ew_W_of ew_cwp_59 rfl, ew_W_of ew_cwp_60 rfl, ew_W_of ew_cwp_61 rfl, ew_W_of ew_cwp_62 rfl, ew_W_of ew_cwp_63 rfl, ew_W_of ew_cwp_64 rfl, ew_W_of ew_cwp_65 rfl, ew_W_of ew_cwp_66 rfl, ew_W_of ew_cwp_67 rfl, ew_W_of ew_cwp_68 rfl, ew_W_of ew_cwp_69 rfl, ew_W_of ew_cwp_70 rfl, ew_W_of ew_cwp_71 rfl, ew_W_of ew_cwp_72 rfl, ew_W_of ew_cwp_73 rfl, ew_W_of ew_cwp_74 rfl, ew_W_of ew_cwp_75 rfl, ew_W_of ew_cwp_76 rfl, ew_W_of ew_cwp_77 rfl, ew_W_of ew_cwp_78 rfl, ew_W_of ew_cwp_79 rfl, ew_W_of ew_cwp_80 rfl, ew_W_of ew_cwp_81 rfl, ew_W_of ew_cwp_82 rfl, ew_W_of ew_cwp_83 rfl, ew_W_of ew_cwp_84 rfl, ew_W_of ew_cwp_85 rfl, ew_W_of ew_cwp_86 rfl, ew_W_of ew_cwp_87 rfl, ew_W_of ew_cwp_88 rfl, ew_W_of ew_cwp_89 rfl, ew_W_of ew_cwp_90 rfl, ew_W_of ew_cwp_91 rfl, ew_W_of ew_cwp_92 rfl, ew_W_of ew_cwp_93 rfl, ew_W_of ew_cwp_94 rfl, ew_W_of ew_cwp_95 rfl, ew_W_of ew_cwp_96 rfl, ew_W_of ew_cwp_97 rfl, ew_W_of ew_cwp_98 rfl, ew_W_of ew_cwp_99 rfl, ew_W_of ew_cwp_100 rfl, ew_W_of ew_cwp_101 rfl, ew_W_of ew_cwp_102 rfl, ew_W_of ew_cwp_103 rfl, ew_W_of ew_cwp_104 rfl, ew_W_of ew_cwp_105 rfl, ew_W_of ew_cwp_106 rfl, ew_W_of ew_cwp_107 rfl, ew_W_of ew_cwp_108 rfl, ew_W_of ew_cwp_109 rfl, ew_W_of ew_cwp_110 rfl, ew_W_of ew_cwp_111 rfl, ew_W_of ew_cwp_112 rfl, ew_W_of ew_cwp_113 rfl, ew_W_of ew_cwp_114 rfl, ew_W_of ew_cwp_115 rfl, ew_W_of ew_cwp_116 rfl, ew_W_of ew_cwp_117 rfl, ew_W_of ew_cwp_118 rfl, ew_W_of ew_cwp_119 rfl, ew_W_of ew_cwp_120 rfl, ew_W_of ew_cwp_121 rfl, ew_W_of ew_cwp_122 rfl, ew_W_of ew_cwp_123 rfl, ew_W_of ew_cwp_124 rfl, ew_W_of ew_cwp_125 rfl, ew_W_of ew_cwp_126 rfl, ew_W_of ew_cwp_127 rfl, ew_W_of ew_cwp_128 rfl, ew_W_of ew_cwp_129 rfl, ew_W_of ew_cwp_130 rfl, ew_W_of ew_cwp_131 rfl, ew_W_of ew_cwp_132 rfl, ew_W_of ew_cwp_133 rfl, ew_W_of ew_cwp_134 rfl, ew_W_of ew_cwp_135 rfl, ew_W_of ew_cwp_136 rfl, ew_W_of ew_cwp_137 rfl, ew_W_of ew_cwp_138 rfl, ew_W_of ew_cwp_139 rfl, ew_W_of ew_cwp_140 rfl, ew_W_of ew_cwp_141 rfl, ew_W_of ew_cwp_142 rfl, ew_W_of ew_cwp_143 rfl, ew_W_of ew_cwp_144 rfl, ew_W_of ew_cwp_145 rfl, ew_W_of ew_cwp_146 rfl, ew_W_of ew_cwp_147 rfl, ew_W_of ew_cwp_148 rfl, ew_W_of ew_cwp_149 rfl, ew_W_of ew_cwp_150 rfl, ew_W_of ew_cwp_151 rfl, ew_W_of ew_cwp_152 rfl, ew_W_of ew_cwp_153 rfl, ew_W_of ew_cwp_154 rfl, ew_W_of ew_cwp_155 rfl, ew_W_of ew_cwp_156 rfl, ew_W_of ew_cwp_157 rfl, ew_W_of ew_cwp_158 rfl, ew_W_of ew_cwp_159 rfl, ew_W_of ew_cwp_160 rfl, ew_W_of ew_cwp_161 rfl, ew_W_of ew_cwp_162 rfl, ew_W_of ew_cwp_163 rfl, ew_W_of ew_cwp_164 rfl, ew_W_of ew_cwp_165 rfl, ew_W_of ew_cwp_166 rfl, ew_W_of ew_cwp_167 rfl, ew_W_of ew_cwp_168 rfl, ew_W_of ew_cwp_169 rfl, ew_W_of ew_cwp_170 rfl, ew_W_of ew_cwp_171 rfl, ew_W_of ew_cwp_172 rfl, ew_W_of ew_cwp_173 rfl, ew_W_of ew_cwp_174 rfl, ew_W_of ew_cwp_175 rfl, ew_W_of ew_cwp_176 rfl, ew_W_of ew_cwp_177 rfl, ew_W_of ew_cwp_178 rfl, ew_W_of ew_cwp_179 rfl, ew_W_of ew_cwp_180 rfl, ew_W_of ew_cwp_181 rfl, ew_W_of ew_cwp_182 rfl, ew_W_of ew_cwp_183 rfl, ew_W_of ew_cwp_184 rfl, ew_W_of ew_cwp_185 rfl, ew_W_of ew_cwp_186 rfl, ew_W_of ew_cwp_187 rfl, ew_W_of ew_cwp_188 rfl, ew_W_of ew_cwp_189 rfl, ew_W_of ew_cwp_190 rfl, ew_W_of ew_cwp_191 rfl, ew_W_of ew_cwp_192 rfl, ew_W_of ew_cwp_193 rfl, ew_W_of ew_cwp_194 rfl, ew_W_of ew_cwp_195 rfl, ew_W_of ew_cwp_196 rfl, ew_W_of ew_cwp_197 rfl, ew_W_of ew_cwp_198 rfl, ew_W_of ew_cwp_199 rfl, ew_W_of ew_cwp_200 rfl, ew_W_of ew_cwp_201 rfl, ew_W_of ew_cwp_202 rfl, ew_W_of ew_cwp_203 rfl, ew_W_of ew_cwp_204 rfl, ew_W_of ew_cwp_205 rfl, ew_W_of ew_cwp_206 rfl, ew_W_of ew_cwp_207 rfl, ew_W_of ew_cwp_208 rfl, ew_W_of ew_cwp_209 rfl, ew_W_of ew_cwp_210 rfl, ew_W_of ew_cwp_211 rfl, ew_W_of ew_cwp_212 rfl, ew_W_of ew_cwp_213 rfl, ew_W_of ew_cwp_214 rfl, ew_W_of ew_cwp_215 rfl, ew_W_of ew_cwp_216 rfl, ew_W_of ew_cwp_217 rfl, ew_W_of ew_cwp_218 rfl, ew_W_of ew_cwp_219 rfl, ew_W_of ew_cwp_220 rfl, ew_W_of ew_cwp_221 rfl, ew_W_of ew_cwp_222 rfl, ew_W_of ew_cwp_223 rfl, ew_W_of ew_cwp_224 rfl, ew_W_of ew_cwp_225 rfl, ew_W_of ew_cwp_226 rfl, ew_W_of ew_cwp_227 rfl, ew_W_of ew_cwp_228 rfl, ew_W_of ew_cwp_229 rfl, ew_W_of ew_cwp_230 rfl, ew_W_of ew_cwp_231 rfl, ew_W_of ew_cwp_232 rfl, ew_W_of ew_cwp_233 rfl, ew_W_of ew_cwp_234 rfl, ew_W_of ew_cwp_235 rfl, ew_W_of ew_cwp_236 rfl, ew_W_of ew_cwp_237 rfl, ew_W_of ew_cwp_238 rfl, trivial⟩
theorem ws_cw : ∀ k : Nat, k < 239 → ew_cw k ∈ ew_W := fun k hk => by
  have h := ws_all_get 239 0 ws_cwl k hk
  rw [Nat.zero_add] at h
  exact h
theorem ws_fin {ins : Instr} {pc nx a b : Nat} {z : Int} {ps : List Nat} {L S : List ew_AV} {n : Nat} {M : ew_Mem} (hok : ew_okE 239 (pc, ins, nx, a, b, z) ps = true) (h : ew_stI 239 pc ins nx a b z L S n M = some (.inr (.inl (some (0, 1))))) : decode (ew_by 239) pc = .ok (.ireturn, 1) ∧ S = [(0, 1)] := by
  cases ins
  case ireturn =>
    obtain ⟨hd, -, -⟩ := ew_dec hok (n := 1) rfl (by decide)
    refine ⟨hd, ?_⟩
    simp only [ew_stI] at h
    split at h
    · split at h
      · cases h; rfl
      · cases h
    · cases h
  all_goals
    exfalso
    simp only [ew_stI, ew_ld, ew_s1, ew_s2, ew_inv, ew_ret] at h
    repeat' split at h
    all_goals first
      | (cases h; done)
      | (simp at h; done)
/-- YOUR PART: from the entry, for every script of at most 3072 ints, the law comes to its end with true ('hflags': the launch's flags, for a law that throws: no stack traces) -/
theorem whole_start {p : Program} {e : Env} {s : State} {m : MethodId} {below : List Frame} {meth : Method} {c : Code} (l : Launch) (hflags : l.flags = flags0) {b L : Nat} {xs : Nat → Int32} (hL : L ≤ 3072) (hnm : meth.name = "law") (C0 : lw_At p s m meth c b L xs) : W p l e room_1 s m #[Value.ref b] below meth c s.heap [] 0 0 (lw_Z below #[Value.ref b] s) (entryFrame m ([Value.ref b] : List Value).toArray 4) := by
  obtain ⟨hx, hb, hr, hml, hown, hts, hX, hbl, hlocks, hgv⟩ := C0
  obtain ⟨D, tc, g1, g2, hE⟩ := ws_E hts hX hbl (by omega) hgv
  have hby : c.code = ew_by 239 := hb
  have hLo1 : ∀ i : Nat, i < 6 → ws_Lo L xs 1 i = [0, 0, 0, 1, 1, 1].getD i 0 := fun i _ => rfl
  have hLo2 : ∀ i : Nat, i < 6 → ws_Lo L xs 2 i = [99999, 99999, 99999, 100000, 1000, 400].getD i 0 := fun i _ => rfl
  have hsc : ∀ k : Nat, k < L → ew_in (ws_Lo L xs 3 k) := fun k _ => by
    have h1 := Int32.le_toInt (xs k)
    have h2 := Int32.toInt_lt (xs k)
    show ew_in (xs k).toInt
    unfold ew_in
    omega
  obtain ⟨f, v, n', M', hrun, hv, hn1, hn2⟩ := law_run (L := L) (Mi := ws_Lo L xs) (by simp [ws_Lo]) hsc hL hLo1 hLo2
  subst hv
  have hR : ew_Rel D tc (g1, g2, b, s.heap.size) (ws_Lo L xs) 4 (ws_Lo L xs) s.heap := ⟨Nat.le_refl _, rfl, fun a h1 h2 => absurd h2 (by omega), fun a _ => rfl⟩
  have hvs : ([Value.ref b] : List Value) = ([(2, 3)] : List ew_AV).map (ew_cv (g1, g2, b, s.heap.size)) := by simp [ew_cv, ew_rf, ew_ph]
  have hen := ew_entry (g1, g2, b, s.heap.size) 239 [(2, 3)] (by decide)
  have hsz : ew_sz n' - ew_sz 4 ≤ 7302249 := by
    have h1 := ws_sz (n' - 59)
    rw [show 59 + (n' - 59) = n' by omega] at h1
    have h2 := ws_sz59
    omega
  have hcells : n' - 4 ≤ 600000 := by omega
  rw [lg_entry_eq]
  rw [← hvs] at hen
  refine ew_sim ew_ok_all ws_cw f 239 0 [(2, 3), (5, 0), (5, 0), (5, 0)] [] 4 (ws_Lo L xs) (some (0, 1)) n' M' hrun p l e room_1 s m #[Value.ref b] below meth c D tc (g1, g2, b, s.heap.size) (ws_Lo L xs) _ s.heap [] 0 0 (n' - 4) (ew_sz n' - ew_sz 4) _ ⟨hx, hby, hml, hown, fun w hw => hts w (List.mem_filter.mp hw).1, hnm, hE, by decide, by decide⟩ hR va_S.rf hen (by omega) (by omega) hcells hsz ?_
  intro pc' L' S' H' locs' ls' hst hR' hS'
  obtain ⟨ins, nx, a, b', z, ps, hok, hstI⟩ := ew_stp_ent ew_ok_all hst
  obtain ⟨hd, rfl⟩ := ws_fin hok hstI
  refine va_forget (fun q hq => hS'.2.2 q hq) ?_
  refine W.widen (k := 600000) (n := 7302249) hcells hsz ?_
  refine W.base ?_
  have hd0 := Drawn.sameBut.refl s.drawn lw_cs
  exact lw_ret hd0 hx hb hr hlocks hd
-- ===== YOUR PART ENDS =====
set_option maxHeartbeats 4000000 in
theorem lw_walk (l : Launch) (hflags : l.flags = flags0) (b : Addr) (xs : List Int32) : MetFree l x (headSpec (Jvm.Cond.code x code maxLocals ret :: tables_1) room_1) (lw_P b xs) (fun _ _ _ _ _ => True) lw_Q := by
  refine MetFree.of_bodyS (code := code) (maxLocals := maxLocals) (ret := ret) (by decide) ?_ ?_
  · intro args s m h hn
    obtain ⟨meth, c, h1, h2, h3, h4, h5, h6, -, -⟩ := Cond.code_spec hn (atoms_spec (ws := Jvm.Cond.code x code maxLocals ret :: tables_1) h _ List.mem_cons_self)
    exact ⟨meth, c, h1, h2, h3, h4, h5, h6⟩
  · intro p e s m args below meth c s₁ B hml0 hP _
    obtain ⟨rfl, hx, hbd, hgv⟩ := hP
    obtain ⟨scr, harrAt, hlist, hof, hsmall⟩ := hx
    obtain ⟨hcb, hkn, -, -⟩ := State.arrayAt?_spec harrAt
    have hown : s.vm.findClass R_law = some m.cls := findClass_of_methodNamed B.named
    have hts0 : ∀ c ∈ (Jvm.Cond.code x code maxLocals ret :: tables_1), c.before #[Value.ref b] s = true := atoms_spec (ws := Jvm.Cond.code x code maxLocals ret :: tables_1) B.pre
    have hts : ∀ w ∈ lw_tbl, w.before #[Value.ref b] s = true := k2_hts_sels lw_privs (fun w hw => hts0 w (List.mem_cons_of_mem _ hw)) lw_privs_ok
    have hml : c.maxLocals = 4 := B.maxLocals_eq (hts0 _ List.mem_cons_self)
    have X₀ : Stand p l e room_1 s m #[Value.ref b] below meth c s₁ [] 0 0 := Stand.of_body B
    have hh0 : s₁.heap = s.heap := by rw [B.state]; rfl
    have hsz : scr.slots.size = xs.length := by rw [← Array.length_toList, hlist, List.length_map]
    have hval : ∀ j : Nat, j < xs.length → scr.slots[j]? = some (.int (xs.getD j 0)) := fun j hj => by
      rw [← Array.getElem?_toList, hlist]
      simp [hj]
    have hbl : b < s.heap.size := (Array.getElem?_eq_some_iff.mp hcb).1
    have hX : va_X b xs.length (fun j => xs.getD j 0) s s.heap := ⟨scr, hcb, hof, hkn, hsz, hval⟩
    have K : W p l e room_1 s m #[Value.ref b] below meth c s₁.heap [] 0 0 (lw_Z below #[Value.ref b] s) (entryFrame m ([Value.ref b] : List Value).toArray 4) := by
      rw [hh0]
      exact whole_start l hflags hbd (name_of_methodNamed B.named B.method).1 ⟨B.exec, B.bytes, B.returns, hml, hown, hts, hX, hbl, B.notSynchronized, hgv⟩
    obtain ⟨t, a1, o, b1, b2, b3⟩ := K s₁ rfl X₀
    exact ⟨t, o, a1, b1, b2, b3⟩
theorem lw_pre_spec {args : Array Value} {s : State} (h : (Jvm.Cond.and given_1 narrow_1).before args s = true) (hr : rest_1_c.before args s = true) : ∃ (b : Addr) (xs : List Int32), lw_P b xs args s := by
  have hs := flat_of_before _ h
  have hq := flat_of_before _ hr
  have hc : (Cond.count 1).before args s = true := hs _ (by decide +kernel)
  have harr : (Cond.arrayOf (.arg 0) .int).before args s = true := hs _ (by decide +kernel)
  have hle : (Cond.le (.length (.arg 0)) (.int 3072)).before args s = true := hs _ (by decide +kernel)
  have hlen : (Cond.isInt (.length (.arg 0))).before args s = true := hq _ (by decide +kernel)
  have hall : (Cond.all (.arg 0) (.isInt (.elem (.arg 0) (.index 0)))).before args s = true := hq _ (by decide +kernel)
  obtain ⟨b, xs, hb, hx⟩ := State.ints_of_pre rfl harr hlen hall
  have hsm : xs.length < 2 ^ 31 := hx.choose_spec.2.2.2
  have hev : (Term.length (.arg 0)).eval args s none [] s = some (.int xs.length.toInt32) := hx.length_eval hb
  have hv := Cond.le_ints hev (show (Term.int 3072).eval args s none [] s = some (.int 3072) from rfl)
  have hd : xs.length.toInt32 ≤ 3072 := by
    simpa [Cond.before, Cond.holds, hv] using hle
  have hN : xs.length ≤ 3072 := (Int32.ofNat_le_ofNat hsm (by decide)).mp (show Int32.ofNat xs.length ≤ Int32.ofNat 3072 from hd)
  exact ⟨b, xs, Cond.one_arg hc (show args[0]? = some (.ref b) from hb), hx, hN, h⟩
theorem lw_comes (l : Launch) (hflags : l.flags = flags0) : Comes l x (Jvm.Cond.code x code maxLocals ret :: tables_1) room_1 (fun tb e args s => Calls_1 tb e args s ∧ rest_1 tb e args s ∧ Pre_1 tb e args s)
    (fun _ _ args s o t => lw_Q args s o t) := by
  intro p e ha hc hk s m args below hf hfit hheap happ hpre
  obtain ⟨b, xs, hP⟩ := lw_pre_spec hpre.2.2 hpre.2.1
  obtain ⟨k, o, h1, h2, h3, hQ⟩ := lw_walk l hflags b xs p e ha hc hk s m args below hf ((Spec.applies_iff_loose hf).mp happ).1 hP trivial
  exact ⟨k, o, h1, h2, h3, hQ⟩
theorem lw_frame {s t : State} {o : Outcome} {args : Array Value} (h : State.butDraws s t lw_cs (fun t1 => Framed s o t1 [] 600000 7302249)) :
    State.butDraws s t [Jvm.Choice.named "NaN.bits"] (fun t1 => Framed s o t1 (fieldLocs frame_1_writes args s ++ arrayLocs frame_1_arrays args s ++ staticLocs frame_1_statics s) 600000 7302249) := h
theorem lw_limb (L : Cond) (hL : ∀ (args : Array Value) (s t : State), L.after args s (.returned (some (.int 1))) t = true) :
    ArmFor flags0 classFile x code maxLocals ret World_1 tables_1 room_1 Calls_1 rest_1 Pre_1
      (fun tb e a s o t => postC L tb e a s o t ∧ State.butDraws s t [Jvm.Choice.named "NaN.bits"] (fun t1 => Framed s o t1 (fieldLocs frame_1_writes a s ++ arrayLocs frame_1_arrays a s ++ staticLocs frame_1_statics s) 600000 7302249)) := by
  intro l hflags _ _ p e ha hc hk s m args below hf hfit hheap happ hpre
  obtain ⟨k, o, h1, h2, h3, rfl, hF⟩ := lw_comes l hflags p e ha hc hk s m args below hf hfit hheap happ hpre
  exact ⟨k, _, h1, h2, h3, hL args s _, lw_frame hF⟩
theorem i_vc : Claimed_1_1 ∧ Claimed_1_2 := ⟨lw_limb limb_1_1 (fun args s t => by simp [limb_1_1, Cond.after, Cond.holds, Cond.value]), lw_limb limb_1_2 (fun args s t => Cond.after_iff.mpr (by
  first | (rw [show limb_1_2 = Cond.eq .result (.int 1) from rfl, Cond.eq_ints (x := 1) (y := 1) rfl rfl]; simp; done) | (simp [limb_1_2, Cond.value, Term.eval]; done)))⟩
