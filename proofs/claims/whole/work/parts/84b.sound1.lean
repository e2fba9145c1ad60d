
/-! what a state of the small machine says of the real one -/
abbrev ew_G : Type := Nat × Nat × Nat × Nat
def ew_ph (g : ew_G) (a : Nat) : Nat := if a = 1 then g.1 else if a = 2 then g.2.1 else if a = 3 then g.2.2.1 else g.2.2.2 + (a - 4)
def ew_rf (g : ew_G) (z : Int) : Value := if z ≤ 0 then .null else .ref (ew_ph g z.toNat)
def ew_cv (g : ew_G) (v : ew_AV) : Value := match v with
  | (0, z) => .int (ew_i z)
  | (1, z) => .long (ew_l z)
  | (2, z) => ew_rf g z
  | (3, z) => .float (ew_f z)
  | (4, z) => .double (ew_d z)
  | _ => .retAddr 0
def ew_ek (t : Nat) : Nat := match t with
  | 20 => 0
  | 21 => 1
  | _ => 2
def ew_at (D : va_G) (tc : Nat → ClassId) (g : ew_G) (M : ew_Mem) (a : Nat) (H : Heap) : Prop :=
  if (ew_tag a).1 < 20 then t_OB (ew_ph g a) (D.1 (ew_tag a).1) (ew_tag a).2 (D.2 (ew_tag a).1) H (fun i => ew_cv g (ew_fk (ew_tag a).1 i, M a i))
  else H[ew_ph g a]? = some (arrV (tc (ew_tag a).1) (ew_tag a).2 (fun j => ew_cv g (ew_ek (ew_tag a).1, M a j)))
def ew_Rel (D : va_G) (tc : Nat → ClassId) (g : ew_G) (Lo : ew_Mem) (n : Nat) (M : ew_Mem) (H : Heap) : Prop :=
  4 ≤ n ∧ H.size = g.2.2.2 + (n - 4) ∧ (∀ a, 4 ≤ a → a < n → ew_at D tc g M a H) ∧ ∀ a, a < 4 → M a = Lo a
def ew_tys (tc : Nat → ClassId) : List (ClassId × FieldType) := [(tc 20, .int), (tc 21, .long), (tc 22, .object "EclipseWheel$Wheel"), (tc 23, .object "EclipseWheel$Tray"), (tc 24, .object "EclipseWheel$Items")]
def ew_A (g : ew_G) : Nat → Prop := fun q => g.2.2.2 ≤ q
def ew_E (D : va_G) (tc : Nat → ClassId) (g : ew_G) (Lo : ew_Mem) (U : State) : Prop :=
  va_K D ew_cl (ew_tys tc) U ∧ (∀ w ∈ ew_nest, va_Nw w U) ∧ (va_AO "EclipseWheel$Wheel" U ∧ va_AO "EclipseWheel$Tray" U ∧ va_AO "EclipseWheel$Items" U) ∧ g.2.2.2 ≤ U.heap.size ∧
  (∀ a, 1 ≤ a → a < 4 → ew_ph g a < g.2.2.2) ∧ va_Z "EclipseWheel$Setup" "RULE_LEAST" "[I" (.ref g.1) (ew_A g) U U.heap ∧ va_Z "EclipseWheel$Setup" "RULE_MOST" "[I" (.ref g.2.1) (ew_A g) U U.heap ∧
  ∀ a, 1 ≤ a → a < 4 → va_X (ew_ph g a) (ew_len Lo a) (fun j => ew_i (Lo a j)) U U.heap ∧ ew_len Lo a < 2 ^ 31
/-- how many elements and fields the cells below n have -/
def ew_sz : Nat → Nat
  | 0 => 0
  | n + 1 => ew_sz n + (ew_tag n).2
def ew_lvl (g : ew_G) (L : List ew_AV) : List (Nat × Value) := (List.range L.length).filterMap (fun i => match L[i]? with
  | some (t, v) => if t < 5 then some (i, ew_cv g (t, v)) else none
  | none => none)
def ew_lh (g : ew_G) (ls : Array Slot) (nL : Nat) (L : List ew_AV) : Prop := L.length = nL ∧ lv_has ls nL (ew_lvl g L)
theorem ew_lvl_mem {g : ew_G} {L : List ew_AV} {i t : Nat} {v : Int} (h : L[i]? = some (t, v)) (ht : t < 5) : (i, ew_cv g (t, v)) ∈ ew_lvl g L := by
  refine List.mem_filterMap.mpr ⟨i, List.mem_range.mpr (List.getElem?_eq_some_iff.mp h).1, ?_⟩
  rw [h]
  simp [ht]
theorem ew_lvl_of {g : ew_G} {L : List ew_AV} {q : Nat × Value} (h : q ∈ ew_lvl g L) : ∃ (t : Nat) (v : Int), L[q.1]? = some (t, v) ∧ t < 5 ∧ q.2 = ew_cv g (t, v) := by
  obtain ⟨i, -, hi⟩ := List.mem_filterMap.mp h
  split at hi
  · rename_i t v hv
    split at hi
    · rename_i ht
      cases hi
      exact ⟨t, v, hv, ht, rfl⟩
    · cases hi
  · cases hi
theorem ew_lh_get {g : ew_G} {ls : Array Slot} {nL : Nat} {L : List ew_AV} (h : ew_lh g ls nL L) {i t : Nat} {v : Int} (hi : L[i]? = some (t, v)) (ht : t < 5) : ls[i]? = some (.val (ew_cv g (t, v))) := h.2.2.2 _ (ew_lvl_mem hi ht)
theorem ew_cv_cat {g : ew_G} {t : Nat} {v : Int} : (ew_cv g (t, v)).category = 2 ↔ (t = 1 ∨ t = 4) := by
  match t with
  | 0 => simp [ew_cv, Value.category]
  | 1 => simp [ew_cv, Value.category]
  | 2 =>
    simp only [ew_cv, ew_rf]
    split <;> simp [Value.category]
  | 3 => simp [ew_cv, Value.category]
  | 4 => simp [ew_cv, Value.category]
  | t + 5 => simp [ew_cv, Value.category]
theorem ew_kl_get {L : List ew_AV} {i j t : Nat} {v : Int} (h : (ew_kl L i)[j]? = some (t, v)) (ht : t < 5) (hj : j ≠ i) : L[j]? = some (t, v) ∧ (j + 1 = i → ¬ (t = 1 ∨ t = 4)) := by
  unfold ew_kl at h
  split at h
  · exact ⟨h, fun q => by omega⟩
  · rename_i i'
    have key : ∀ w : ew_AV, (L.set i' (5, 0))[j]? = some (t, v) → L[j]? = some (t, v) ∧ (j + 1 = i' + 1 → ¬ (t = 1 ∨ t = 4)) := by
      intro w hw
      by_cases hji : j = i'
      · subst hji
        rw [List.getElem?_set_self'] at hw
        cases hL : L[j]? with
        | none => rw [hL] at hw; cases hw
        | some q => rw [hL] at hw; cases hw; omega
      · rw [List.getElem?_set_ne (Ne.symm hji)] at hw
        exact ⟨hw, fun q => by omega⟩
    split at h
    · exact key (0, 0) h
    · exact key (0, 0) h
    · rename_i h1 h2
      refine ⟨h, fun q hq => ?_⟩
      have hji : j = i' := by omega
      subst hji
      rcases hq with rfl | rfl
      · exact h1 v h
      · exact h2 v h
theorem ew_kl_len (L : List ew_AV) (i : Nat) : (ew_kl L i).length = L.length := by
  unfold ew_kl
  split
  · rfl
  · split <;> simp
theorem ew_lh_1 {g : ew_G} {ls' : Array Slot} {nL : Nat} {L : List ew_AV} {i t : Nat} {v : Int} (hL : L.length = nL) (hi : i < nL)
    (h : lv_has ls' nL ((i, ew_cv g (t, v)) :: (ew_lvl g L).filter (fun q => !(q.1 == i) && !(q.1 + 1 == i && q.2.category == 2)))) : ew_lh g ls' nL (ew_st1 L i (t, v)) := by
  refine ⟨by simp [ew_st1, ew_kl_len, hL], h.1, h.2.1, fun q hq => ?_⟩
  obtain ⟨t', v', h1, h2, h3⟩ := ew_lvl_of hq
  refine h.2.2 q ?_
  unfold ew_st1 at h1
  by_cases hj : q.1 = i
  · rw [hj, List.getElem?_set_self (by rw [ew_kl_len, hL]; exact hi)] at h1
    cases h1
    exact List.mem_cons.mpr (Or.inl (Prod.ext hj h3))
  · rw [List.getElem?_set_ne (Ne.symm hj)] at h1
    obtain ⟨h4, h5⟩ := ew_kl_get h1 h2 hj
    refine List.mem_cons.mpr (Or.inr (List.mem_filter.mpr ⟨?_, ?_⟩))
    · have := ew_lvl_mem (g := g) h4 h2
      rw [← h3] at this
      exact this
    · rw [h3]
      have h6 : (q.1 + 1 == i && (ew_cv g (t', v')).category == 2) = false := by
        by_cases hc : q.1 + 1 = i
        · have := h5 hc
          simp [ew_cv_cat, this]
        · simp [hc]
      simp [hj, h6]
theorem ew_lh_2 {g : ew_G} {ls' : Array Slot} {nL : Nat} {L : List ew_AV} {i t : Nat} {v : Int} (hL : L.length = nL) (hi : i + 1 < nL)
    (h : lv_has ls' nL ((i, ew_cv g (t, v)) :: (ew_lvl g L).filter (fun q => !(q.1 == i) && (!(q.1 == i + 1) && !(q.1 + 1 == i && q.2.category == 2))))) : ew_lh g ls' nL (ew_st2 L i (t, v)) := by
  refine ⟨by simp [ew_st2, ew_kl_len, hL], h.1, h.2.1, fun q hq => ?_⟩
  obtain ⟨t', v', h1, h2, h3⟩ := ew_lvl_of hq
  refine h.2.2 q ?_
  unfold ew_st2 at h1
  by_cases hj1 : q.1 = i + 1
  · rw [hj1, List.getElem?_set_self (by simp [ew_kl_len, hL]; exact hi)] at h1
    cases h1
    omega
  rw [List.getElem?_set_ne (Ne.symm hj1)] at h1
  by_cases hj : q.1 = i
  · rw [hj, List.getElem?_set_self (by rw [ew_kl_len, hL]; omega)] at h1
    cases h1
    exact List.mem_cons.mpr (Or.inl (Prod.ext hj h3))
  · rw [List.getElem?_set_ne (Ne.symm hj)] at h1
    obtain ⟨h4, h5⟩ := ew_kl_get h1 h2 hj
    refine List.mem_cons.mpr (Or.inr (List.mem_filter.mpr ⟨?_, ?_⟩))
    · have := ew_lvl_mem (g := g) h4 h2
      rw [← h3] at this
      exact this
    · rw [h3]
      have h6 : (q.1 + 1 == i && (ew_cv g (t', v')).category == 2) = false := by
        by_cases hc : q.1 + 1 = i
        · have := h5 hc
          simp [ew_cv_cat, this]
        · simp [hc]
      simp [hj, hj1, h6]
theorem ew_lh_n {g : ew_G} {ls' : Array Slot} {nL : Nat} {L : List ew_AV} {i : Nat} {v0 v : Int} (hL : L.length = nL) (h0 : L[i]? = some (0, v0)) {ls : Array Slot} (hl : ew_lh g ls nL L)
    (h : lv_has ls' nL ((i, ew_cv g (0, v)) :: (ew_lvl g L).filter (fun q => !(q.1 == i) && !(q.1 + 1 == i && q.2.category == 2)))) : ew_lh g ls' nL (L.set i (0, v)) := by
  refine ⟨by simp [hL], h.1, h.2.1, fun q hq => ?_⟩
  obtain ⟨t', v', h1, h2, h3⟩ := ew_lvl_of hq
  refine h.2.2 q ?_
  by_cases hj : q.1 = i
  · rw [hj, List.getElem?_set_self (List.getElem?_eq_some_iff.mp h0).1] at h1
    cases h1
    exact List.mem_cons.mpr (Or.inl (Prod.ext hj h3))
  · rw [List.getElem?_set_ne (Ne.symm hj)] at h1
    refine List.mem_cons.mpr (Or.inr (List.mem_filter.mpr ⟨?_, ?_⟩))
    · have := ew_lvl_mem (g := g) h1 h2
      rw [← h3] at this
      exact this
    · rw [h3]
      have h6 : (q.1 + 1 == i && (ew_cv g (t', v')).category == 2) = false := by
        by_cases hc : q.1 + 1 = i
        · have h7 : ¬ (t' = 1 ∨ t' = 4) := fun hz => by
            have h8 := ew_lh_get hl h1 h2
            have h9 := hl.2.2.1.1 q.1 _ h8 (ew_cv_cat.mpr hz)
            rw [hc, ew_lh_get hl h0 (by decide)] at h9
            cases h9
          simp [ew_cv_cat, h7]
        · simp [hc]
      simp [hj, h6]
def ew_Fx (k : Nat) (p : Program) (l : Launch) (e : Env) (R : Room) (s : State) (m : MethodId) (args : Array Value) (below : List Frame) (meth : Method) (c : Code) (D : va_G) (tc : Nat → ClassId) (g : ew_G) (Lo : ew_Mem) : Prop :=
  p.tables.exec = Jvm.exec ∧ c.code = ew_by k ∧ c.maxLocals = ew_maxL k ∧ s.vm.findClass (ew_cls k) = some m.cls ∧ (∀ w ∈ ew_W, w.before args s = true) ∧ meth.name = (ew_y k).name ∧ ew_E D tc g Lo s ∧ ew_lv k ≤ R.frames ∧ 40 * ew_lv k ≤ R.locals
/-- an instruction is sound: what the small machine says of it, the real one does -/
def ew_Snd (ins : Instr) : Prop := ∀ (p : Program) (l : Launch) (e : Env) (R : Room) (s : State) (m : MethodId) (args : Array Value) (below : List Frame) (meth : Method) (c : Code) (D : va_G) (tc : Nat → ClassId) (g : ew_G) (Lo : ew_Mem) (Q : State → Prop) (k pc nx a b : Nat) (z : Int) (ps : List Nat)
    (L S : List ew_AV) (n : Nat) (M : ew_Mem) (H : Heap) (locs : List Loc) (cells slots cells2 slots2 : Nat) (ls : Array Slot) (pc2 : Nat) (L2 S2 : List ew_AV) (n2 : Nat) (M2 : ew_Mem),
    ew_Fx k p l e R s m args below meth c D tc g Lo → ew_Rel D tc g Lo n M H → va_S (ew_A g) s.heap H locs → ew_lh g ls (ew_maxL k) L → ew_okE k (pc, ins, nx, a, b, z) ps = true →
    ew_stI k pc ins nx a b z L S n M = some (.inl (pc2, L2, S2, n2, M2)) → cells2 = cells + (n2 - n) → slots2 = slots + (ew_sz n2 - ew_sz n) → cells2 ≤ R.cells → slots2 ≤ R.slots →
    (∀ (H' : Heap) (locs' : List Loc) (ls' : Array Slot), ew_Rel D tc g Lo n2 M2 H' → va_S (ew_A g) s.heap H' locs' → ew_lh g ls' (ew_maxL k) L2 → W p l e R s m args below meth c H' locs' cells2 slots2 Q (F0 m pc2 ls' (S2.map (ew_cv g)))) →
    W p l e R s m args below meth c H locs cells slots Q (F0 m pc ls (S.map (ew_cv g)))
theorem ew_dec {k pc nx a b : Nat} {z : Int} {ins : Instr} {ps : List Nat} (h : ew_okE k (pc, ins, nx, a, b, z) ps = true) {n : Nat} (hn : ew_il ins = n) (h0 : n ≠ 0) : decode (ew_by k) pc = .ok (ins, n) ∧ nx = pc + n ∧ ew_okI k pc ins a b z ps = true := by
  simp only [ew_okE, Bool.and_eq_true, Bool.or_eq_true, decide_eq_true_eq] at h
  obtain ⟨h1 | h1, h2⟩ := h
  · exact absurd (hn.symm.trans h1.1) h0
  · rw [hn] at h1
    exact ⟨h1.1, h1.2, h2⟩
theorem ew_decS {k pc nx a b : Nat} {z : Int} {ins : Instr} {ps : List Nat} (h : ew_okE k (pc, ins, nx, a, b, z) ps = true) (hn : ew_il ins = 0) : ∃ len, decode (ew_by k) pc = .ok (ins, len) ∧ ew_okI k pc ins a b z ps = true := by
  simp only [ew_okE, Bool.and_eq_true, Bool.or_eq_true, decide_eq_true_eq] at h
  obtain ⟨h1 | h1, h2⟩ := h
  · exact ⟨_, h1.2, h2⟩
  · exact ⟨_, h1.1, h2⟩
theorem ew_ei (x : Int32) : ew_i x.toInt = x := Int32.ofInt_toInt x
theorem ew_el (x : Int64) : ew_l x.toInt = x := Int64.ofInt_toInt x
theorem ew_ef (x : UInt32) : ew_f (ew_uf x) = x := by simp [ew_f, ew_uf]
theorem ew_ed (x : UInt64) : ew_d (ew_ud x) = x := by simp [ew_d, ew_ud]
theorem ew_nf_of {r : UInt32} (h : ew_nf r = true) : vf_n32 r := by simpa [ew_nf, vf_n32] using h
theorem ew_nd_of {r : UInt64} (h : ew_nd r = true) : vf_n64 r := by simpa [ew_nd, vf_n64] using h

theorem ew_snd_iadd : ew_Snd .iadd := by
  intro p l e R s m args below meth c D tc g Lo Q k pc nx a b z ps L S n M H locs cells slots cells2 slots2 ls pc2 L2 S2 n2 M2 F hR hS hl hok h hc1 hc2 hr1 hr2 kk
  obtain ⟨hx, hb, hml, hown, hts, hnm, hE, hfr, hlo⟩ := F
  obtain ⟨hd, rfl, hokI⟩ := ew_dec hok (n := 1) rfl (by decide)
  simp only [ew_stI] at h
  split at h
  · cases h
    obtain rfl : cells2 = cells := by simpa using hc1
    obtain rfl : slots2 = slots := by simpa using hc2
    have kk := kk H locs ls hR hS hl
    simp only [List.map_cons, ew_cv, Int32.ofInt_add, ew_i] at kk
    exact lv_iadd hx hb hd kk
  · cases h

theorem ew_snd_isub : ew_Snd .isub := by
  intro p l e R s m args below meth c D tc g Lo Q k pc nx a b z ps L S n M H locs cells slots cells2 slots2 ls pc2 L2 S2 n2 M2 F hR hS hl hok h hc1 hc2 hr1 hr2 kk
  obtain ⟨hx, hb, hml, hown, hts, hnm, hE, hfr, hlo⟩ := F
  obtain ⟨hd, rfl, hokI⟩ := ew_dec hok (n := 1) rfl (by decide)
  simp only [ew_stI] at h
  split at h
  · cases h
    obtain rfl : cells2 = cells := by simpa using hc1
    obtain rfl : slots2 = slots := by simpa using hc2
    have kk := kk H locs ls hR hS hl
    simp only [List.map_cons, ew_cv, Int32.ofInt_sub, ew_i] at kk
    exact lv_isub hx hb hd kk
  · cases h

theorem ew_snd_imul : ew_Snd .imul := by
  intro p l e R s m args below meth c D tc g Lo Q k pc nx a b z ps L S n M H locs cells slots cells2 slots2 ls pc2 L2 S2 n2 M2 F hR hS hl hok h hc1 hc2 hr1 hr2 kk
  obtain ⟨hx, hb, hml, hown, hts, hnm, hE, hfr, hlo⟩ := F
  obtain ⟨hd, rfl, hokI⟩ := ew_dec hok (n := 1) rfl (by decide)
  simp only [ew_stI] at h
  split at h
  · cases h
    obtain rfl : cells2 = cells := by simpa using hc1
    obtain rfl : slots2 = slots := by simpa using hc2
    have kk := kk H locs ls hR hS hl
    simp only [List.map_cons, ew_cv, Int32.ofInt_mul, ew_i] at kk
    exact lv_imul hx hb hd kk
  · cases h

theorem ew_snd_ineg : ew_Snd .ineg := by
  intro p l e R s m args below meth c D tc g Lo Q k pc nx a b z ps L S n M H locs cells slots cells2 slots2 ls pc2 L2 S2 n2 M2 F hR hS hl hok h hc1 hc2 hr1 hr2 kk
  obtain ⟨hx, hb, hml, hown, hts, hnm, hE, hfr, hlo⟩ := F
  obtain ⟨hd, rfl, hokI⟩ := ew_dec hok (n := 1) rfl (by decide)
  simp only [ew_stI] at h
  split at h
  · cases h
    obtain rfl : cells2 = cells := by simpa using hc1
    obtain rfl : slots2 = slots := by simpa using hc2
    have kk := kk H locs ls hR hS hl
    simp only [List.map_cons, ew_cv, Int32.ofInt_neg, ew_i] at kk
    exact lv_ineg hx hb hd kk
  · cases h

theorem ew_snd_idiv : ew_Snd .idiv := by
  intro p l e R s m args below meth c D tc g Lo Q k pc nx a b z ps L S n M H locs cells slots cells2 slots2 ls pc2 L2 S2 n2 M2 F hR hS hl hok h hc1 hc2 hr1 hr2 kk
  obtain ⟨hx, hb, hml, hown, hts, hnm, hE, hfr, hlo⟩ := F
  obtain ⟨hd, rfl, hokI⟩ := ew_dec hok (n := 1) rfl (by decide)
  simp only [ew_stI] at h
  split at h
  · split at h
    · cases h
    rename_i hcond
    cases h
    obtain rfl : cells2 = cells := by simpa using hc1
    obtain rfl : slots2 = slots := by simpa using hc2
    have kk := kk H locs ls hR hS hl
    simp only [List.map_cons, ew_cv, ew_ei] at kk
    exact lv_idiv hx hb hd hcond kk
  · cases h

theorem ew_snd_irem : ew_Snd .irem := by
  intro p l e R s m args below meth c D tc g Lo Q k pc nx a b z ps L S n M H locs cells slots cells2 slots2 ls pc2 L2 S2 n2 M2 F hR hS hl hok h hc1 hc2 hr1 hr2 kk
  obtain ⟨hx, hb, hml, hown, hts, hnm, hE, hfr, hlo⟩ := F
  obtain ⟨hd, rfl, hokI⟩ := ew_dec hok (n := 1) rfl (by decide)
  simp only [ew_stI] at h
  split at h
  · split at h
    · cases h
    rename_i hcond
    cases h
    obtain rfl : cells2 = cells := by simpa using hc1
    obtain rfl : slots2 = slots := by simpa using hc2
    have kk := kk H locs ls hR hS hl
    simp only [List.map_cons, ew_cv, ew_ei] at kk
    exact lv_irem hx hb hd hcond kk
  · cases h

theorem ew_snd_iand : ew_Snd .iand := by
  intro p l e R s m args below meth c D tc g Lo Q k pc nx a b z ps L S n M H locs cells slots cells2 slots2 ls pc2 L2 S2 n2 M2 F hR hS hl hok h hc1 hc2 hr1 hr2 kk
  obtain ⟨hx, hb, hml, hown, hts, hnm, hE, hfr, hlo⟩ := F
  obtain ⟨hd, rfl, hokI⟩ := ew_dec hok (n := 1) rfl (by decide)
  simp only [ew_stI] at h
  split at h
  · cases h
    obtain rfl : cells2 = cells := by simpa using hc1
    obtain rfl : slots2 = slots := by simpa using hc2
    have kk := kk H locs ls hR hS hl
    simp only [List.map_cons, ew_cv, ew_ei] at kk
    exact lv_iand hx hb hd kk
  · cases h

theorem ew_snd_ishl : ew_Snd .ishl := by
  intro p l e R s m args below meth c D tc g Lo Q k pc nx a b z ps L S n M H locs cells slots cells2 slots2 ls pc2 L2 S2 n2 M2 F hR hS hl hok h hc1 hc2 hr1 hr2 kk
  obtain ⟨hx, hb, hml, hown, hts, hnm, hE, hfr, hlo⟩ := F
  obtain ⟨hd, rfl, hokI⟩ := ew_dec hok (n := 1) rfl (by decide)
  simp only [ew_stI] at h
  split at h
  · cases h
    obtain rfl : cells2 = cells := by simpa using hc1
    obtain rfl : slots2 = slots := by simpa using hc2
    have kk := kk H locs ls hR hS hl
    simp only [List.map_cons, ew_cv, ew_ei] at kk
    exact lv_ishl hx hb hd kk
  · cases h

theorem ew_snd_iushr : ew_Snd .iushr := by
  intro p l e R s m args below meth c D tc g Lo Q k pc nx a b z ps L S n M H locs cells slots cells2 slots2 ls pc2 L2 S2 n2 M2 F hR hS hl hok h hc1 hc2 hr1 hr2 kk
  obtain ⟨hx, hb, hml, hown, hts, hnm, hE, hfr, hlo⟩ := F
  obtain ⟨hd, rfl, hokI⟩ := ew_dec hok (n := 1) rfl (by decide)
  simp only [ew_stI] at h
  split at h
  · cases h
    obtain rfl : cells2 = cells := by simpa using hc1
    obtain rfl : slots2 = slots := by simpa using hc2
    have kk := kk H locs ls hR hS hl
    simp only [List.map_cons, ew_cv, ew_ei] at kk
    exact lv_iushr hx hb hd rfl kk
  · cases h

theorem ew_snd_ladd : ew_Snd .ladd := by
  intro p l e R s m args below meth c D tc g Lo Q k pc nx a b z ps L S n M H locs cells slots cells2 slots2 ls pc2 L2 S2 n2 M2 F hR hS hl hok h hc1 hc2 hr1 hr2 kk
  obtain ⟨hx, hb, hml, hown, hts, hnm, hE, hfr, hlo⟩ := F
  obtain ⟨hd, rfl, hokI⟩ := ew_dec hok (n := 1) rfl (by decide)
  simp only [ew_stI] at h
  split at h
  · cases h
    obtain rfl : cells2 = cells := by simpa using hc1
    obtain rfl : slots2 = slots := by simpa using hc2
    have kk := kk H locs ls hR hS hl
    simp only [List.map_cons, ew_cv, Int64.ofInt_add, ew_l] at kk
    exact lv_ladd hx hb hd kk
  · cases h

theorem ew_snd_lsub : ew_Snd .lsub := by
  intro p l e R s m args below meth c D tc g Lo Q k pc nx a b z ps L S n M H locs cells slots cells2 slots2 ls pc2 L2 S2 n2 M2 F hR hS hl hok h hc1 hc2 hr1 hr2 kk
  obtain ⟨hx, hb, hml, hown, hts, hnm, hE, hfr, hlo⟩ := F
  obtain ⟨hd, rfl, hokI⟩ := ew_dec hok (n := 1) rfl (by decide)
  simp only [ew_stI] at h
  split at h
  · cases h
    obtain rfl : cells2 = cells := by simpa using hc1
    obtain rfl : slots2 = slots := by simpa using hc2
    have kk := kk H locs ls hR hS hl
    simp only [List.map_cons, ew_cv, Int64.ofInt_sub, ew_l] at kk
    exact lv_lsub hx hb hd kk
  · cases h

theorem ew_snd_lmul : ew_Snd .lmul := by
  intro p l e R s m args below meth c D tc g Lo Q k pc nx a b z ps L S n M H locs cells slots cells2 slots2 ls pc2 L2 S2 n2 M2 F hR hS hl hok h hc1 hc2 hr1 hr2 kk
  obtain ⟨hx, hb, hml, hown, hts, hnm, hE, hfr, hlo⟩ := F
  obtain ⟨hd, rfl, hokI⟩ := ew_dec hok (n := 1) rfl (by decide)
  simp only [ew_stI] at h
  split at h
  · cases h
    obtain rfl : cells2 = cells := by simpa using hc1
    obtain rfl : slots2 = slots := by simpa using hc2
    have kk := kk H locs ls hR hS hl
    simp only [List.map_cons, ew_cv, Int64.ofInt_mul, ew_l] at kk
    exact lv_lmul hx hb hd kk
  · cases h

theorem ew_snd_ldiv : ew_Snd .ldiv := by
  intro p l e R s m args below meth c D tc g Lo Q k pc nx a b z ps L S n M H locs cells slots cells2 slots2 ls pc2 L2 S2 n2 M2 F hR hS hl hok h hc1 hc2 hr1 hr2 kk
  obtain ⟨hx, hb, hml, hown, hts, hnm, hE, hfr, hlo⟩ := F
  obtain ⟨hd, rfl, hokI⟩ := ew_dec hok (n := 1) rfl (by decide)
  simp only [ew_stI] at h
  split at h
  · split at h
    · cases h
    rename_i hcond
    cases h
    obtain rfl : cells2 = cells := by simpa using hc1
    obtain rfl : slots2 = slots := by simpa using hc2
    have kk := kk H locs ls hR hS hl
    simp only [List.map_cons, ew_cv, ew_el] at kk
    exact lv_ldiv hx hb hd hcond kk
  · cases h

theorem ew_snd_lrem : ew_Snd .lrem := by
  intro p l e R s m args below meth c D tc g Lo Q k pc nx a b z ps L S n M H locs cells slots cells2 slots2 ls pc2 L2 S2 n2 M2 F hR hS hl hok h hc1 hc2 hr1 hr2 kk
  obtain ⟨hx, hb, hml, hown, hts, hnm, hE, hfr, hlo⟩ := F
  obtain ⟨hd, rfl, hokI⟩ := ew_dec hok (n := 1) rfl (by decide)
  simp only [ew_stI] at h
  split at h
  · split at h
    · cases h
    rename_i hcond
    cases h
    obtain rfl : cells2 = cells := by simpa using hc1
    obtain rfl : slots2 = slots := by simpa using hc2
    have kk := kk H locs ls hR hS hl
    simp only [List.map_cons, ew_cv, ew_el] at kk
    exact lv_lrem hx hb hd hcond kk
  · cases h

theorem ew_snd_land : ew_Snd .land := by
  intro p l e R s m args below meth c D tc g Lo Q k pc nx a b z ps L S n M H locs cells slots cells2 slots2 ls pc2 L2 S2 n2 M2 F hR hS hl hok h hc1 hc2 hr1 hr2 kk
  obtain ⟨hx, hb, hml, hown, hts, hnm, hE, hfr, hlo⟩ := F
  obtain ⟨hd, rfl, hokI⟩ := ew_dec hok (n := 1) rfl (by decide)
  simp only [ew_stI] at h
  split at h
  · cases h
    obtain rfl : cells2 = cells := by simpa using hc1
    obtain rfl : slots2 = slots := by simpa using hc2
    have kk := kk H locs ls hR hS hl
    simp only [List.map_cons, ew_cv, ew_el] at kk
    exact lv_land hx hb hd kk
  · cases h

theorem ew_snd_lor : ew_Snd .lor := by
  intro p l e R s m args below meth c D tc g Lo Q k pc nx a b z ps L S n M H locs cells slots cells2 slots2 ls pc2 L2 S2 n2 M2 F hR hS hl hok h hc1 hc2 hr1 hr2 kk
  obtain ⟨hx, hb, hml, hown, hts, hnm, hE, hfr, hlo⟩ := F
  obtain ⟨hd, rfl, hokI⟩ := ew_dec hok (n := 1) rfl (by decide)
  simp only [ew_stI] at h
  split at h
  · cases h
    obtain rfl : cells2 = cells := by simpa using hc1
    obtain rfl : slots2 = slots := by simpa using hc2
    have kk := kk H locs ls hR hS hl
    simp only [List.map_cons, ew_cv, ew_el] at kk
    exact lv_lor hx hb hd kk
  · cases h

theorem ew_snd_lxor : ew_Snd .lxor := by
  intro p l e R s m args below meth c D tc g Lo Q k pc nx a b z ps L S n M H locs cells slots cells2 slots2 ls pc2 L2 S2 n2 M2 F hR hS hl hok h hc1 hc2 hr1 hr2 kk
  obtain ⟨hx, hb, hml, hown, hts, hnm, hE, hfr, hlo⟩ := F
  obtain ⟨hd, rfl, hokI⟩ := ew_dec hok (n := 1) rfl (by decide)
  simp only [ew_stI] at h
  split at h
  · cases h
    obtain rfl : cells2 = cells := by simpa using hc1
    obtain rfl : slots2 = slots := by simpa using hc2
    have kk := kk H locs ls hR hS hl
    simp only [List.map_cons, ew_cv, ew_el] at kk
    exact lv_lxor hx hb hd kk
  · cases h

theorem ew_snd_lshl : ew_Snd .lshl := by
  intro p l e R s m args below meth c D tc g Lo Q k pc nx a b z ps L S n M H locs cells slots cells2 slots2 ls pc2 L2 S2 n2 M2 F hR hS hl hok h hc1 hc2 hr1 hr2 kk
  obtain ⟨hx, hb, hml, hown, hts, hnm, hE, hfr, hlo⟩ := F
  obtain ⟨hd, rfl, hokI⟩ := ew_dec hok (n := 1) rfl (by decide)
  simp only [ew_stI] at h
  split at h
  · cases h
    obtain rfl : cells2 = cells := by simpa using hc1
    obtain rfl : slots2 = slots := by simpa using hc2
    have kk := kk H locs ls hR hS hl
    simp only [List.map_cons, ew_cv, ew_el] at kk
    exact lv_lshl hx hb hd rfl kk
  · cases h

theorem ew_snd_lshr : ew_Snd .lshr := by
  intro p l e R s m args below meth c D tc g Lo Q k pc nx a b z ps L S n M H locs cells slots cells2 slots2 ls pc2 L2 S2 n2 M2 F hR hS hl hok h hc1 hc2 hr1 hr2 kk
  obtain ⟨hx, hb, hml, hown, hts, hnm, hE, hfr, hlo⟩ := F
  obtain ⟨hd, rfl, hokI⟩ := ew_dec hok (n := 1) rfl (by decide)
  simp only [ew_stI] at h
  split at h
  · cases h
    obtain rfl : cells2 = cells := by simpa using hc1
    obtain rfl : slots2 = slots := by simpa using hc2
    have kk := kk H locs ls hR hS hl
    simp only [List.map_cons, ew_cv, ew_el] at kk
    exact lv_lshr hx hb hd rfl kk
  · cases h

theorem ew_snd_lcmp : ew_Snd .lcmp := by
  intro p l e R s m args below meth c D tc g Lo Q k pc nx a b z ps L S n M H locs cells slots cells2 slots2 ls pc2 L2 S2 n2 M2 F hR hS hl hok h hc1 hc2 hr1 hr2 kk
  obtain ⟨hx, hb, hml, hown, hts, hnm, hE, hfr, hlo⟩ := F
  obtain ⟨hd, rfl, hokI⟩ := ew_dec hok (n := 1) rfl (by decide)
  simp only [ew_stI] at h
  split at h
  · cases h
    obtain rfl : cells2 = cells := by simpa using hc1
    obtain rfl : slots2 = slots := by simpa using hc2
    have kk := kk H locs ls hR hS hl
    simp only [List.map_cons, ew_cv, ew_ei] at kk
    exact W.lcmp hx hb hd kk
  · cases h

theorem ew_snd_i2l : ew_Snd .i2l := by
  intro p l e R s m args below meth c D tc g Lo Q k pc nx a b z ps L S n M H locs cells slots cells2 slots2 ls pc2 L2 S2 n2 M2 F hR hS hl hok h hc1 hc2 hr1 hr2 kk
  obtain ⟨hx, hb, hml, hown, hts, hnm, hE, hfr, hlo⟩ := F
  obtain ⟨hd, rfl, hokI⟩ := ew_dec hok (n := 1) rfl (by decide)
  simp only [ew_stI] at h
  split at h
  · cases h
    obtain rfl : cells2 = cells := by simpa using hc1
    obtain rfl : slots2 = slots := by simpa using hc2
    have kk := kk H locs ls hR hS hl
    simp only [List.map_cons, ew_cv, Int64.ofInt_int32ToInt, ew_l] at kk
    exact lv_i2l hx hb hd rfl kk
  · cases h

theorem ew_snd_l2i : ew_Snd .l2i := by
  intro p l e R s m args below meth c D tc g Lo Q k pc nx a b z ps L S n M H locs cells slots cells2 slots2 ls pc2 L2 S2 n2 M2 F hR hS hl hok h hc1 hc2 hr1 hr2 kk
  obtain ⟨hx, hb, hml, hown, hts, hnm, hE, hfr, hlo⟩ := F
  obtain ⟨hd, rfl, hokI⟩ := ew_dec hok (n := 1) rfl (by decide)
  simp only [ew_stI] at h
  split at h
  · cases h
    obtain rfl : cells2 = cells := by simpa using hc1
    obtain rfl : slots2 = slots := by simpa using hc2
    have kk := kk H locs ls hR hS hl
    simp only [List.map_cons, ew_cv] at kk
    exact lv_l2i hx hb hd Int64.toInt32_ofInt kk
  · cases h

theorem ew_snd_i2f : ew_Snd .i2f := by
  intro p l e R s m args below meth c D tc g Lo Q k pc nx a b z ps L S n M H locs cells slots cells2 slots2 ls pc2 L2 S2 n2 M2 F hR hS hl hok h hc1 hc2 hr1 hr2 kk
  obtain ⟨hx, hb, hml, hown, hts, hnm, hE, hfr, hlo⟩ := F
  obtain ⟨hd, rfl, hokI⟩ := ew_dec hok (n := 1) rfl (by decide)
  simp only [ew_stI] at h
  split at h
  · cases h
    obtain rfl : cells2 = cells := by simpa using hc1
    obtain rfl : slots2 = slots := by simpa using hc2
    have kk := kk H locs ls hR hS hl
    simp only [List.map_cons, ew_cv, ew_ef] at kk
    exact lv_i2f hx hb hd kk
  · cases h

theorem ew_snd_i2d : ew_Snd .i2d := by
  intro p l e R s m args below meth c D tc g Lo Q k pc nx a b z ps L S n M H locs cells slots cells2 slots2 ls pc2 L2 S2 n2 M2 F hR hS hl hok h hc1 hc2 hr1 hr2 kk
  obtain ⟨hx, hb, hml, hown, hts, hnm, hE, hfr, hlo⟩ := F
  obtain ⟨hd, rfl, hokI⟩ := ew_dec hok (n := 1) rfl (by decide)
  simp only [ew_stI] at h
  split at h
  · cases h
    obtain rfl : cells2 = cells := by simpa using hc1
    obtain rfl : slots2 = slots := by simpa using hc2
    have kk := kk H locs ls hR hS hl
    simp only [List.map_cons, ew_cv, ew_ed] at kk
    exact lv_i2d hx hb hd kk
  · cases h

theorem ew_snd_f2i : ew_Snd .f2i := by
  intro p l e R s m args below meth c D tc g Lo Q k pc nx a b z ps L S n M H locs cells slots cells2 slots2 ls pc2 L2 S2 n2 M2 F hR hS hl hok h hc1 hc2 hr1 hr2 kk
  obtain ⟨hx, hb, hml, hown, hts, hnm, hE, hfr, hlo⟩ := F
  obtain ⟨hd, rfl, hokI⟩ := ew_dec hok (n := 1) rfl (by decide)
  simp only [ew_stI] at h
  split at h
  · cases h
    obtain rfl : cells2 = cells := by simpa using hc1
    obtain rfl : slots2 = slots := by simpa using hc2
    have kk := kk H locs ls hR hS hl
    simp only [List.map_cons, ew_cv, ew_ei] at kk
    exact lv_f2i hx hb hd kk
  · cases h

theorem ew_snd_d2l : ew_Snd .d2l := by
  intro p l e R s m args below meth c D tc g Lo Q k pc nx a b z ps L S n M H locs cells slots cells2 slots2 ls pc2 L2 S2 n2 M2 F hR hS hl hok h hc1 hc2 hr1 hr2 kk
  obtain ⟨hx, hb, hml, hown, hts, hnm, hE, hfr, hlo⟩ := F
  obtain ⟨hd, rfl, hokI⟩ := ew_dec hok (n := 1) rfl (by decide)
  simp only [ew_stI] at h
  split at h
  · cases h
    obtain rfl : cells2 = cells := by simpa using hc1
    obtain rfl : slots2 = slots := by simpa using hc2
    have kk := kk H locs ls hR hS hl
    simp only [List.map_cons, ew_cv, ew_el] at kk
    exact lv_d2l hx hb hd kk
  · cases h

theorem ew_snd_fmul : ew_Snd .fmul := by
  intro p l e R s m args below meth c D tc g Lo Q k pc nx a b z ps L S n M H locs cells slots cells2 slots2 ls pc2 L2 S2 n2 M2 F hR hS hl hok h hc1 hc2 hr1 hr2 kk
  obtain ⟨hx, hb, hml, hown, hts, hnm, hE, hfr, hlo⟩ := F
  obtain ⟨hd, rfl, hokI⟩ := ew_dec hok (n := 1) rfl (by decide)
  simp only [ew_stI] at h
  split at h
  · split at h
    rotate_left
    · cases h
    rename_i hcond
    cases h
    obtain rfl : cells2 = cells := by simpa using hc1
    obtain rfl : slots2 = slots := by simpa using hc2
    have kk := kk H locs ls hR hS hl
    simp only [List.map_cons, ew_cv, ew_ef] at kk
    exact lv_fmul hx hb hd (ew_nf_of hcond) kk
  · cases h

theorem ew_snd_fdiv : ew_Snd .fdiv := by
  intro p l e R s m args below meth c D tc g Lo Q k pc nx a b z ps L S n M H locs cells slots cells2 slots2 ls pc2 L2 S2 n2 M2 F hR hS hl hok h hc1 hc2 hr1 hr2 kk
  obtain ⟨hx, hb, hml, hown, hts, hnm, hE, hfr, hlo⟩ := F
  obtain ⟨hd, rfl, hokI⟩ := ew_dec hok (n := 1) rfl (by decide)
  simp only [ew_stI] at h
  split at h
  · split at h
    rotate_left
    · cases h
    rename_i hcond
    cases h
    obtain rfl : cells2 = cells := by simpa using hc1
    obtain rfl : slots2 = slots := by simpa using hc2
    have kk := kk H locs ls hR hS hl
    simp only [List.map_cons, ew_cv, ew_ef] at kk
    exact lv_fdiv hx hb hd (ew_nf_of hcond) kk
  · cases h

theorem ew_snd_fsub : ew_Snd .fsub := by
  intro p l e R s m args below meth c D tc g Lo Q k pc nx a b z ps L S n M H locs cells slots cells2 slots2 ls pc2 L2 S2 n2 M2 F hR hS hl hok h hc1 hc2 hr1 hr2 kk
  obtain ⟨hx, hb, hml, hown, hts, hnm, hE, hfr, hlo⟩ := F
  obtain ⟨hd, rfl, hokI⟩ := ew_dec hok (n := 1) rfl (by decide)
  simp only [ew_stI] at h
  split at h
  · split at h
    rotate_left
    · cases h
    rename_i hcond
    cases h
    obtain rfl : cells2 = cells := by simpa using hc1
    obtain rfl : slots2 = slots := by simpa using hc2
    have kk := kk H locs ls hR hS hl
    simp only [List.map_cons, ew_cv, ew_ef] at kk
    exact lv_fsub hx hb hd (ew_nf_of hcond) kk
  · cases h

theorem ew_snd_dmul : ew_Snd .dmul := by
  intro p l e R s m args below meth c D tc g Lo Q k pc nx a b z ps L S n M H locs cells slots cells2 slots2 ls pc2 L2 S2 n2 M2 F hR hS hl hok h hc1 hc2 hr1 hr2 kk
  obtain ⟨hx, hb, hml, hown, hts, hnm, hE, hfr, hlo⟩ := F
  obtain ⟨hd, rfl, hokI⟩ := ew_dec hok (n := 1) rfl (by decide)
  simp only [ew_stI] at h
  split at h
  · split at h
    rotate_left
    · cases h
    rename_i hcond
    cases h
    obtain rfl : cells2 = cells := by simpa using hc1
    obtain rfl : slots2 = slots := by simpa using hc2
    have kk := kk H locs ls hR hS hl
    simp only [List.map_cons, ew_cv, ew_ed] at kk
    exact lv_dmul hx hb hd (ew_nd_of hcond) kk
  · cases h

theorem ew_snd_ddiv : ew_Snd .ddiv := by
  intro p l e R s m args below meth c D tc g Lo Q k pc nx a b z ps L S n M H locs cells slots cells2 slots2 ls pc2 L2 S2 n2 M2 F hR hS hl hok h hc1 hc2 hr1 hr2 kk
  obtain ⟨hx, hb, hml, hown, hts, hnm, hE, hfr, hlo⟩ := F
  obtain ⟨hd, rfl, hokI⟩ := ew_dec hok (n := 1) rfl (by decide)
  simp only [ew_stI] at h
  split at h
  · split at h
    rotate_left
    · cases h
    rename_i hcond
    cases h
    obtain rfl : cells2 = cells := by simpa using hc1
    obtain rfl : slots2 = slots := by simpa using hc2
    have kk := kk H locs ls hR hS hl
    simp only [List.map_cons, ew_cv, ew_ed] at kk
    exact lv_ddiv hx hb hd (ew_nd_of hcond) kk
  · cases h

theorem ew_snd_dsub : ew_Snd .dsub := by
  intro p l e R s m args below meth c D tc g Lo Q k pc nx a b z ps L S n M H locs cells slots cells2 slots2 ls pc2 L2 S2 n2 M2 F hR hS hl hok h hc1 hc2 hr1 hr2 kk
  obtain ⟨hx, hb, hml, hown, hts, hnm, hE, hfr, hlo⟩ := F
  obtain ⟨hd, rfl, hokI⟩ := ew_dec hok (n := 1) rfl (by decide)
  simp only [ew_stI] at h
  split at h
  · split at h
    rotate_left
    · cases h
    rename_i hcond
    cases h
    obtain rfl : cells2 = cells := by simpa using hc1
    obtain rfl : slots2 = slots := by simpa using hc2
    have kk := kk H locs ls hR hS hl
    simp only [List.map_cons, ew_cv, ew_ed] at kk
    exact lv_dsub hx hb hd (ew_nd_of hcond) kk
  · cases h

theorem ew_snd_fcmp (op : CmpOp) : ew_Snd (.fcmp op) := by
  intro p l e R s m args below meth c D tc g Lo Q k pc nx a b z ps L S n M H locs cells slots cells2 slots2 ls pc2 L2 S2 n2 M2 F hR hS hl hok h hc1 hc2 hr1 hr2 kk
  obtain ⟨hx, hb, hml, hown, hts, hnm, hE, hfr, hlo⟩ := F
  obtain ⟨hd, rfl, hokI⟩ := ew_dec hok (n := 1) rfl (by decide)
  simp only [ew_stI] at h
  split at h
  · cases h
    obtain rfl : cells2 = cells := by simpa using hc1
    obtain rfl : slots2 = slots := by simpa using hc2
    have kk := kk H locs ls hR hS hl
    simp only [List.map_cons, ew_cv, ew_ei] at kk
    exact lv_fcmp hx hb hd kk
  · cases h

theorem ew_snd_dcmp (op : CmpOp) : ew_Snd (.dcmp op) := by
  intro p l e R s m args below meth c D tc g Lo Q k pc nx a b z ps L S n M H locs cells slots cells2 slots2 ls pc2 L2 S2 n2 M2 F hR hS hl hok h hc1 hc2 hr1 hr2 kk
  obtain ⟨hx, hb, hml, hown, hts, hnm, hE, hfr, hlo⟩ := F
  obtain ⟨hd, rfl, hokI⟩ := ew_dec hok (n := 1) rfl (by decide)
  simp only [ew_stI] at h
  split at h
  · cases h
    obtain rfl : cells2 = cells := by simpa using hc1
    obtain rfl : slots2 = slots := by simpa using hc2
    have kk := kk H locs ls hR hS hl
    simp only [List.map_cons, ew_cv, ew_ei] at kk
    exact lv_dcmp hx hb hd kk
  · cases h

