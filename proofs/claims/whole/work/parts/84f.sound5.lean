/-! soundness: calls, returns, whole runs -/
def ew_rm (k mc ms : Nat) : Room := { frames := ew_lv k, cells := mc, slots := ms, locals := 40 * ew_lv k }
def ew_Pc (D : va_G) (tc : Nat → ClassId) (g : ew_G) (Lo : ew_Mem) (A : List ew_AV) (n : Nat) (M : ew_Mem) : Array Value → State → Prop := va_Pc (A.map (ew_cv g)) (fun U => ew_E D tc g Lo U ∧ ew_Rel D tc g Lo n M U.heap)
def ew_Qc (D : va_G) (tc : Nat → ClassId) (g : ew_G) (Lo : ew_Mem) (v : Option ew_AV) (n : Nat) (M : ew_Mem) : Array Value → State → Outcome → State → Prop := fun _ st o t => o = .returned (v.map (ew_cv g)) ∧ ew_Rel D tc g Lo n M t.heap ∧ va_F (ew_A g) st t
theorem ew_sz_mono {a b : Nat} (h : a ≤ b) : ew_sz a ≤ ew_sz b := by
  induction h with
  | refl => exact Nat.le_refl _
  | step _ ih => exact Nat.le_trans ih (Nat.le_add_right _ _)
theorem ew_E_moved {D : va_G} {tc : Nat → ClassId} {g : ew_G} {Lo : ew_Mem} {s U : State} {H : Heap} {locs : List Loc} (h : ew_E D tc g Lo s) (hS : va_S (ew_A g) s.heap H locs) (hU : U.heap = H) (hW : s.WarmedH U.vm) : ew_E D tc g Lo U := by
  obtain ⟨h1, h2, h3, h4, h5, h6, h7, h8⟩ := h
  have hk : ∀ q : Nat, q < s.heap.size → ¬ ew_A g q → U.heap[q]? = s.heap[q]? := fun q h9 h10 => by rw [hU]; exact hS.2.1 q h9 h10
  refine ⟨h1.moved hW.alike, fun w hw => ?_, ⟨h3.1.moved hW.alike, h3.2.1.moved hW.alike, h3.2.2.moved hW.alike⟩, by rw [hU]; exact Nat.le_trans h4 hS.1, h5, (h6.moved hW.alike).kept hk, (h7.moved hW.alike).kept hk, fun a h9 h10 => ⟨((h8 a h9 h10).1.moved hW.alike).kept (hk _ (Nat.lt_of_lt_of_le (h5 a h9 h10) h4) (fun q => absurd (show g.2.2.2 ≤ ew_ph g a from q) (by have := h5 a h9 h10; omega))), (h8 a h9 h10).2⟩⟩
  have hn := h2 w hw
  simp only [ew_nest, List.mem_cons, List.not_mem_nil, or_false] at hw
  rcases hw with rfl | rfl | rfl | rfl | rfl | rfl <;> exact va_Nw.warmM hW hn
theorem ew_E_same {D : va_G} {tc : Nat → ClassId} {g : ew_G} {Lo : ew_Mem} {U U' : State} (h : ew_E D tc g Lo U) (hv : U'.vm = U.vm) (hh : U'.heap = U.heap) : ew_E D tc g Lo U' := by
  have hA : U.vm.Alike U'.vm := by rw [hv]; exact Vm.Alike.refl _
  obtain ⟨h1, h2, h3, h4, h5, h6, h7, h8⟩ := h
  refine ⟨h1.moved hA, fun w hw => ?_, ⟨h3.1.moved hA, h3.2.1.moved hA, h3.2.2.moved hA⟩, by rw [hh]; exact h4, h5, by rw [hh]; exact h6.moved hA, by rw [hh]; exact h7.moved hA, fun a h9 h10 => ⟨by rw [hh]; exact (h8 a h9 h10).1.moved hA, (h8 a h9 h10).2⟩⟩
  have hn := h2 w hw
  simp only [ew_nest, List.mem_cons, List.not_mem_nil, or_false] at hw
  rcases hw with rfl | rfl | rfl | rfl | rfl | rfl <;> exact va_Nw.same rfl hv.symm hn
theorem ew_blind (D : va_G) (tc : Nat → ClassId) (g : ew_G) (Lo : ew_Mem) (A : List ew_AV) (n : Nat) (M : ew_Mem) : FrameBlind (ew_Pc D tc g Lo A n M) := by
  intro a U gq mk h
  obtain ⟨h1, h2, h3⟩ := h
  exact ⟨h1, ew_E_same h2 rfl rfl, h3⟩
theorem ew_W_good {ws : List Cond} (h : ∀ w ∈ ws, w ∈ ew_W) : GoodIn ew_W ws := fun w hw => ⟨h w hw, good_of_word (List.mem_filter.mp (h w hw)).2⟩
theorem ew_y_ok : ∀ k, k < 239 → plainFor (ew_y k) = true ∧ (ew_y k).cls ≠ "java/lang/invoke/MethodHandle" ∧ (ew_y k).cls ≠ "java/lang/invoke/VarHandle" := by decide +kernel
theorem ew_maxL_ok (k : Nat) : ew_maxL k ≤ 18 := by
  have h : ∀ q ∈ ew_maxLs, q ≤ 18 := by decide +kernel
  unfold ew_maxL
  rw [List.getD_eq_getElem?_getD]
  cases hq : ew_maxLs[k]? with
  | none => simp
  | some q => exact h q (List.mem_of_getElem? hq)
theorem ew_lk_mem : ∀ {C : List ew_Ent} {pc : Nat} {r : Instr × Nat × Nat × Nat × Int}, ew_lk C pc = some r → (pc, r) ∈ C
  | [], _, _, h => by cases h
  | (p, r') :: t, pc, r, h => by
    unfold ew_lk at h
    cases hb : Nat.beq p pc with
    | true =>
      rw [hb] at h
      have hp := Nat.eq_of_beq_eq_true hb
      subst hp
      cases h
      exact List.mem_cons_self
    | false =>
      rw [hb] at h
      exact List.mem_cons_of_mem _ (ew_lk_mem h)
theorem ew_stp_ent {k pc : Nat} {L S : List ew_AV} {n : Nat} {M : ew_Mem} {r : ew_Res} (hall : ∀ k, ew_Ok k (ew_cod k)) (h : ew_stp k pc L S n M = some r) : ∃ (ins : Instr) (nx a b : Nat) (z : Int) (ps : List Nat), ew_okE k (pc, ins, nx, a, b, z) ps = true ∧ ew_stI k pc ins nx a b z L S n M = some r := by
  unfold ew_stp at h
  split at h
  · cases h
  · rename_i ins nx a b z hq
    obtain ⟨ps, hps⟩ := hall k _ (ew_lk_mem hq)
    exact ⟨ins, nx, a, b, z, ps, hps, h⟩
theorem ew_stI_mono {k pc nx a b : Nat} {ins : Instr} {z : Int} {L S L2 S2 : List ew_AV} {n n2 pc2 : Nat} {M M2 : ew_Mem} (h : ew_stI k pc ins nx a b z L S n M = some (.inl (pc2, L2, S2, n2, M2))) : n ≤ n2 := by
  cases ins
  all_goals simp only [ew_stI, ew_ld, ew_s1, ew_s2, ew_inv, ew_ret] at h
  all_goals repeat' split at h
  all_goals first
    | (simp only [Option.some.injEq, Sum.inl.injEq, Prod.mk.injEq] at h; omega)
    | (cases h; done)
    | (simp at h; done)
theorem ew_run_n : ∀ (f : Nat) {k pc : Nat} {L S : List ew_AV} {n n' : Nat} {M M' : ew_Mem} {v : Option ew_AV}, ew_run f k pc L S n M = some (v, n', M') → n ≤ n'
  | 0, _, _, _, _, _, _, _, _, _, h => by simp [ew_run] at h
  | f + 1, k, pc, L, S, n, n', M, M', v, h => by
    rw [ew_run] at h
    split at h
    · cases h
    · rename_i pc2 L2 S2 n2 M2 hst
      unfold ew_stp at hst
      split at hst
      · cases hst
      · exact Nat.le_trans (ew_stI_mono hst) (ew_run_n f h)
    · cases h
      exact Nat.le_refl _
    · split at h
      · cases h
      · rename_i h1
        exact Nat.le_trans (ew_run_n f h1) (ew_run_n f h)
/-- behind a call -/
theorem ew_after {p : Program} {l : Launch} {e : Env} {R : Room} {s : State} {m : MethodId} {args : Array Value} {below : List Frame} {meth : Method} {c : Code} {D : va_G} {tc : Nat → ClassId} {g : ew_G} {Lo : ew_Mem} {Q : State → Prop} {H : Heap} {locs : List Loc} {cells slots mc ms pc : Nat} {ls : Array Slot} {st0 : List Value} {S2 : List ew_AV} {v : Option ew_AV} {n1 : Nat} {M1 : ew_Mem} {av : Array Value}
    (hr : va_Run p l e R s m args below meth c H locs cells slots mc ms (F0 m pc ls st0) (S2.map (ew_cv g)) (ew_Qc D tc g Lo v n1 M1 av) (ew_A g)) (hS : va_S (ew_A g) s.heap H locs)
    (kk : ∀ (H' : Heap) (locs' : List Loc), ew_Rel D tc g Lo n1 M1 H' → va_S (ew_A g) s.heap H' locs' → W p l e R s m args below meth c H' locs' (cells + mc) (slots + ms) Q (F0 m (pc + 3) ls ((v.toList ++ S2).map (ew_cv g)))) : W p l e R s m args below meth c H locs cells slots Q (F0 m pc ls st0) := by
  intro T hT X
  obtain ⟨v', st₀, t, T', L, h0, X', hL, e1, e2, ⟨hv, hR1, hF⟩, st⟩ := hr T hT X
  cases hv
  have hS' : va_S (ew_A g) s.heap T'.heap (locs ++ L) := by
    refine ⟨Nat.le_trans hS.1 (by rw [e1, ← h0]; exact hF.1), fun q h1 h2 => ?_, fun q hq => ?_⟩
    · rw [e1, hF.2 q (by rw [h0]; exact Nat.lt_of_lt_of_le h1 hS.1) h2, h0]
      exact hS.2.1 q h1 h2
    · rcases List.mem_append.mp hq with h | h
      · exact hS.2.2 q h
      · exact hL q h
  obtain ⟨t2, a1, b1⟩ := kk T'.heap (locs ++ L) (by rw [e1]; exact hR1) hS' T' rfl X'
  refine ⟨t2, st t2 ?_, b1⟩
  cases v with
  | none => exact a1
  | some w => exact a1
theorem ew_call_W (hcw : ∀ k, k < 239 → ew_cw k ∈ ew_W) (ins : Instr) {p : Program} {l : Launch} {e : Env} {R : Room} {s : State} {m : MethodId} {args : Array Value} {below : List Frame} {meth : Method} {c : Code} {D : va_G} {tc : Nat → ClassId} {g : ew_G} {Lo : ew_Mem} {Q : State → Prop} {k pc nx a b : Nat} {z : Int} {ps : List Nat} {L S : List ew_AV} {n : Nat} {M : ew_Mem} {H : Heap} {locs : List Loc} {cells slots : Nat} {ls : Array Slot} {k' pc2 : Nat} {A S2 : List ew_AV} {v : Option ew_AV} {n1 : Nat} {M1 : ew_Mem}
    (F : ew_Fx k p l e R s m args below meth c D tc g Lo) (hR : ew_Rel D tc g Lo n M H) (hS : va_S (ew_A g) s.heap H locs) (hl : ew_lh g ls (ew_maxL k) L) (hok : ew_okE k (pc, ins, nx, a, b, z) ps = true)
    (h : ew_stI k pc ins nx a b z L S n M = some (.inr (.inr (k', A, pc2, S2))))
    (hM : k' < 239 → (ew_lay A).length ≤ ew_maxL k' → Met l (ew_y k') (ew_cw k' :: ew_W) (ew_rm k' (n1 - n) (ew_sz n1 - ew_sz n)) (ew_Pc D tc g Lo A n M) (ew_Qc D tc g Lo v n1 M1) (n1 - n) (ew_sz n1 - ew_sz n) (ew_A g))
    (hf1 : cells + (n1 - n) ≤ R.cells) (hf2 : slots + (ew_sz n1 - ew_sz n) ≤ R.slots)
    (kk : ∀ (H' : Heap) (locs' : List Loc), ew_Rel D tc g Lo n1 M1 H' → va_S (ew_A g) s.heap H' locs' → W p l e R s m args below meth c H' locs' (cells + (n1 - n)) (slots + (ew_sz n1 - ew_sz n)) Q (F0 m pc2 ls ((v.toList ++ S2).map (ew_cv g)))) :
    W p l e R s m args below meth c H locs cells slots Q (F0 m pc ls (S.map (ew_cv g))) := by
  obtain ⟨hx, hb, hml, hown, hts, hnm, hE, hfr, hlo⟩ := F
  have hsz : (F0 m pc ls (S.map (ew_cv g))).locals.size = ew_maxL k := hl.2.1
  have hpre : ∀ U : State, U.heap = H → s.WarmedH U.vm → ew_Pc D tc g Lo A n M (A.map (ew_cv g)).toArray U := fun U hU hW => ⟨rfl, ew_E_moved hE hS hU hW, by rw [hU]; exact hR⟩
  have hsplit : ∀ bq : Nat, bq ≤ S.length → (S.take bq).reverse = A → S.drop bq = S2 → S.map (ew_cv g) = (A.map (ew_cv g)).reverse ++ S2.map (ew_cv g) ∧ A.length = bq := by
    intro bq h1 h2 h3
    subst h2; subst h3
    refine ⟨?_, by simp [h1]⟩
    rw [List.map_reverse, List.reverse_reverse, ← List.map_append, List.take_append_drop]
  have hgood : ∀ q, q < 239 → ∀ w ∈ ew_cw q :: ew_W, w ∈ ew_W := fun q hq w hw => (List.mem_cons.mp hw).elim (fun e => e ▸ hcw q hq) id
  have hsum : ew_ws S2 ≤ 8 → 2 * (F0 m pc ls (S.map (ew_cv g))).monitorRoom + ((S2.map (ew_cv g)).map fun v => v.category).sum ≤ 8 := fun q => by
    rw [ew_ws_sum]; show 2 * 0 + _ ≤ 8; omega
  have hroom : ew_lv k' < ew_lv k → (ew_rm k' (n1 - n) (ew_sz n1 - ew_sz n)).frames + 1 ≤ R.frames ∧ 8 + (ew_maxL k' + 11) + (ew_rm k' (n1 - n) (ew_sz n1 - ew_sz n)).locals ≤ R.locals := fun q => by
    have h1 := ew_maxL_ok k'
    refine ⟨?_, ?_⟩
    · show ew_lv k' + 1 ≤ _; omega
    · show 8 + (ew_maxL k' + 11) + 40 * ew_lv k' ≤ _; omega
  have hfix : CallFix p m c (ew_by k) (ew_maxL k) s args ew_W (ew_cls k) := ⟨hx, hb, hml, hown, hts⟩
  have hinv : ∀ (h : ew_inv k a b nx z L S n M = some (.inr (.inr (k', A, pc2, S2)))), a = k' ∧ (S.take b).reverse = A ∧ nx = pc2 ∧ S.drop b = S2 ∧ b ≤ S.length ∧ ew_lv k' < ew_lv k ∧ ew_ws S2 ≤ 8 ∧ (z = 0 ∨ z = 7 ∨ ew_hd (ew_rcv k') n A = true) ∧ (ew_lay A).length ≤ ew_maxL k' := by
    intro h
    unfold ew_inv at h
    split at h
    · split at h
      · split at h <;> cases h
      · cases h
    · split at h
      · split at h
        · split at h <;> cases h
        · cases h
      · split at h
        · split at h
          · split at h <;> cases h
          · cases h
        · split at h
          · rename_i hq
            simp only [Option.some.injEq, Sum.inr.injEq, Prod.mk.injEq] at h
            obtain ⟨rfl, rfl, rfl, rfl⟩ := h
            exact ⟨rfl, rfl, rfl, rfl, hq.1, hq.2.1, hq.2.2.1, hq.2.2.2.1, hq.2.2.2.2⟩
          · cases h
  have hhd : ew_hd (ew_rcv k') n A = true → ∃ (o : Int) (A' : List ew_AV), A = (2, o) :: A' ∧ ew_own (ew_rcv k') o n = true := by
    intro q
    unfold ew_hd at q
    split at q
    · exact ⟨_, _, rfl, q⟩
    · cases q
  cases ins
  case invokevirtual i =>
    obtain ⟨hd, rfl, hokI⟩ := ew_dec hok (n := 3) rfl (by decide)
    obtain ⟨rfl, hA1, rfl, hS1, hbl, hlv, hws, hz, hlay⟩ := hinv h
    simp only [ew_okI, Bool.and_eq_true, decide_eq_true_eq] at hokI
    obtain ⟨hz1, hw1, hw2, hw3, hw4, ha, hb1, hnp, hRc, hr9⟩ := hokI
    obtain ⟨hst, hlen⟩ := hsplit b hbl hA1 hS1
    obtain ⟨o, A', rfl, ho⟩ := hhd (by rcases hz with h | h | h; (· omega); (· omega); exact h)
    obtain ⟨ho4, hon, hot⟩ := ew_own_of ho
    obtain ⟨cellB, q1, q2, q3, -⟩ := ew_at_obj (hR.2.2.1 _ ho4 hon) hot hr9
    have hrf : ew_cv g (2, o) = Value.ref (ew_ph g o.toNat) := ew_rf_pos (by omega)
    have hcls := (hE.1.1 _ _ (ew_cl_at _ hr9)).2.1
    have hy := ew_y_ok a ha
    rw [List.map_cons, hrf] at hpre hst
    refine ew_after (va_runV (As := A'.map (ew_cv g)) (C := (ew_y a).cls) hfix (hM ha hlay) (cwV (b - 1) hts (ew_W_good (fun w hw => ?_)) rfl rfl rfl ⟨rfl, hy.2.1, hy.2.2, hnp⟩ (hroom hlv)) ⟨ew_blind _ _ _ _ _ _ _, ⟨cellB, q1, by rw [q3]; rfl, by rw [q2, ← hRc]; exact hcls⟩, hpre⟩ rfl (by simpa using (by simp at hlen; omega : A'.length = b - 1)) hsz ?_ (hsum hws) hd ⟨hf1, hf2⟩) hS kk
    · simp only [wsV, List.cons_append, List.nil_append, List.mem_cons] at hw
      rcases hw with rfl | rfl | rfl | rfl | hw
      · exact ew_wd_of hw1
      · exact ew_wd_of hw2
      · exact ew_wd_of hw3
      · exact ew_wd_of hw4
      · exact hgood a ha w (List.mem_cons.mpr hw)
    · show S.map (ew_cv g) = _
      rw [hst]
      simp
  case invokespecial i =>
    obtain ⟨hd, rfl, hokI⟩ := ew_dec hok (n := 3) rfl (by decide)
    obtain ⟨rfl, hA1, rfl, hS1, hbl, hlv, hws, hz, hlay⟩ := hinv h
    simp only [ew_okI, Bool.and_eq_true, decide_eq_true_eq, Bool.or_eq_true] at hokI
    obtain ⟨hst, hlen⟩ := hsplit b hbl hA1 hS1
    rcases hokI with ⟨hz1, hw1, hw2, hw3, ha, hb1, hnp, hnmI, hrt⟩ | ⟨hz1, hne, hw2, hw3, ha, hb1, hnp, hnmI, hrt⟩ | ⟨hz1, _⟩
    · obtain ⟨o, A', rfl, ho⟩ := hhd (by rcases hz with h | h | h; (· omega); (· omega); exact h)
      obtain ⟨ho4, hon, hot⟩ := ew_own_of ho
      have hrf : ew_cv g (2, o) = Value.ref (ew_ph g o.toNat) := ew_rf_pos (by omega)
      have hy := ew_y_ok a ha
      have hrt' : ew_cw a :: ew_W = Cond.code (ew_y a) (ew_by a) (ew_maxL a) none :: ew_W := by unfold ew_cw; rw [hrt]
      rw [List.map_cons, hrf] at hpre hst
      refine ew_after (va_runI (As := A'.map (ew_cv g)) (b := ew_ph g o.toNat) hfix (hM ha hlay) (cwI (b - 1) hts (ew_W_good (hgood a ha)) hrt' rfl rfl (hts _ (ew_wd_of hw3)) (hts _ (ew_wd_of hw1)) (hts _ (ew_wd_of hw2)) hnmI ⟨hy.2.1, hy.2.2, hnp⟩ (hroom hlv)) ⟨ew_blind _ _ _ _ _ _ _, hpre⟩ rfl (by simpa using (by simp at hlen; omega : A'.length = b - 1)) hsz ?_ (hsum hws) hd ⟨hf1, hf2⟩) hS kk
      show S.map (ew_cv g) = _
      rw [hst]
      simp
    · obtain ⟨o, A', rfl, ho⟩ := hhd (by rcases hz with h | h | h; (· omega); (· omega); exact h)
      obtain ⟨ho4, hon, hot⟩ := ew_own_of ho
      have hrf : ew_cv g (2, o) = Value.ref (ew_ph g o.toNat) := ew_rf_pos (by omega)
      have hy := ew_y_ok a ha
      have hrt' : ew_cw a :: ew_W = Cond.code (ew_y a) (ew_by a) (ew_maxL a) none :: ew_W := by unfold ew_cw; rw [hrt]
      rw [List.map_cons, hrf] at hpre hst
      refine ew_after (va_runIN (As := A'.map (ew_cv g)) (b := ew_ph g o.toNat) hfix (hM ha hlay) ⟨va_cnB (b - 1) hts (ew_W_good (hgood a ha)) hrt' rfl rfl (hE.2.1 _ hne) (hts _ (ew_wd_of hw3)) ⟨hy.2.1, hy.2.2, hnp⟩ (hroom hlv), hnmI, hts _ (ew_wd_of hw2)⟩ ⟨ew_blind _ _ _ _ _ _ _, hpre⟩ rfl (by simpa using (by simp at hlen; omega : A'.length = b - 1)) hsz ?_ (hsum hws) hd ⟨hf1, hf2⟩) hS kk
      show S.map (ew_cv g) = _
      rw [hst]
      simp
    · exfalso
      simp only [ew_stI] at h
      unfold ew_inv at h
      rw [if_pos hz1] at h
      split at h
      · split at h <;> cases h
      · cases h
  case invokestatic i =>
    obtain ⟨hd, rfl, hokI⟩ := ew_dec hok (n := 3) rfl (by decide)
    obtain ⟨rfl, hA1, rfl, hS1, hbl, hlv, hws, hz, hlay⟩ := hinv h
    simp only [ew_okI, Bool.and_eq_true, decide_eq_true_eq, Bool.or_eq_true] at hokI
    obtain ⟨hst, hlen⟩ := hsplit b hbl hA1 hS1
    rcases hokI with ⟨hz1, hw1, hw2, hw3, ha, hnp⟩ | ⟨hz1, hne, hw2, hw3, ha, hnp⟩ | ⟨hz1, _⟩ | ⟨hz1, _⟩
    · have hy := ew_y_ok a ha
      exact ew_after (va_runS (As := A.map (ew_cv g)) hfix (hM ha hlay) ⟨callB_of b hts (ew_W_good (hgood a ha)) rfl rfl rfl (hts _ (ew_wd_of hw3)) (hts _ (ew_wd_of hw1)) ⟨hy.2.1, hy.2.2, hnp⟩ (hroom hlv), hts _ (ew_wd_of hw2)⟩ ⟨ew_blind _ _ _ _ _ _ _, hpre⟩ rfl (by simpa using hlen) hsz hst (hsum hws) hd ⟨hf1, hf2⟩) hS kk
    · have hy := ew_y_ok a ha
      exact ew_after (va_runSN (As := A.map (ew_cv g)) hfix (hM ha hlay) ⟨va_cnB b hts (ew_W_good (hgood a ha)) rfl rfl rfl (hE.2.1 _ hne) (hts _ (ew_wd_of hw3)) ⟨hy.2.1, hy.2.2, hnp⟩ (hroom hlv), hts _ (ew_wd_of hw2), trivial⟩ ⟨ew_blind _ _ _ _ _ _ _, hpre⟩ rfl (by simpa using hlen) hsz hst (hsum hws) hd ⟨hf1, hf2⟩) hS kk
    · exfalso
      simp only [ew_stI] at h
      unfold ew_inv at h
      rw [if_neg (by omega), if_pos hz1] at h
      split at h
      · split at h <;> cases h
      · cases h
    · exfalso
      simp only [ew_stI] at h
      unfold ew_inv at h
      rw [if_neg (by omega), if_neg (by omega), if_pos hz1] at h
      split at h
      · split at h <;> cases h
      · cases h
  all_goals
    exfalso
    simp only [ew_stI, ew_ld, ew_s1, ew_s2, ew_ret] at h
    repeat' split at h
    all_goals first
      | (cases h; done)
      | (simp at h; done)

theorem ew_Met_ofW {l : Launch} {y : MethodName} {ws ws' : List Cond} {rm : Room} {Pc : Array Value → State → Prop} {Qc : Array Value → State → Outcome → State → Prop} {mc ms : Nat} {free : Addr → Prop} {cc : ByteArray} {maxL : Nat} {ret : Option FieldType}
    (hy : plainFor y = true) (hw : ws = Cond.code y cc maxL ret :: ws')
    (body : ∀ p e s m args below meth c s₁, BodyLoose p l y (headSpec ws rm) cc maxL ret e s m args below meth c s₁ → c.maxLocals = maxL → Pc args s →
      W p l e (headSpec ws rm).room s m args below meth c s.heap [] 0 0 (MQ below Qc args s mc ms free) (entryFrame m args maxL)) : Met l y ws rm Pc Qc mc ms free := by
  refine MetFree.of_bodySF (code := cc) (maxLocals := maxL) (ret := ret) hy ?_ ?_
  · intro args s m h hn
    obtain ⟨meth, c, h1, h2, h3, h4, h5, h6, -, -⟩ := Cond.code_spec hn (atoms_spec (ws := ws) h _ (by rw [hw]; exact List.mem_cons_self))
    exact ⟨meth, c, h1, h2, h3, h4, h5, h6⟩
  · intro p e s m args below meth c s₁ B hml hP _
    have hh0 : s₁.heap = s.heap := by rw [B.state]; rfl
    obtain ⟨t, a1, o, b1, b2, b3⟩ := body p e s m args below meth c s₁ B hml hP s₁ hh0 (Stand.of_body B)
    exact ⟨t, o, a1, b1, b2, ⟨b3.1, b3.2⟩⟩
/-- the end of a method -/
theorem ew_end {ins : Instr} {p : Program} {l : Launch} {e : Env} {R : Room} {s : State} {m : MethodId} {args : Array Value} {below : List Frame} {meth : Method} {c : Code} {D : va_G} {tc : Nat → ClassId} {g : ew_G} {Lo : ew_Mem} {k pc nx a b : Nat} {z : Int} {ps : List Nat} {L S : List ew_AV} {n : Nat} {M : ew_Mem} {H : Heap} {locs : List Loc} {cells slots : Nat} {ls : Array Slot} {v : Option ew_AV}
    (hx : p.tables.exec = Jvm.exec) (hb : c.code = ew_by k) (hr : meth.sig.returnType = ew_rt k) (hlocks : meth.locks = false) (hR : ew_Rel D tc g Lo n M H) (hS : va_S (ew_A g) s.heap H locs) (hok : ew_okE k (pc, ins, nx, a, b, z) ps = true)
    (h : ew_stI k pc ins nx a b z L S n M = some (.inr (.inl v))) : W p l e R s m args below meth c H locs cells slots (MQ below (ew_Qc D tc g Lo v n M) args s cells slots (ew_A g)) (F0 m pc ls (S.map (ew_cv g))) := by
  have hq : ∀ t : State, t.heap = H → s.WarmedH t.vm → ew_Qc D tc g Lo v n M args s (.returned (v.map (ew_cv g))) t := fun t ht _ => ⟨rfl, by rw [ht]; exact hR, hS.F ht⟩
  cases ins
  case ireturn =>
    obtain ⟨hd, -, hokI⟩ := ew_dec hok (n := 1) rfl (by decide)
    simp only [ew_okI, decide_eq_true_eq] at hokI
    simp only [ew_stI] at h
    split at h
    · rename_i x
      split at h
      · rename_i hv
        cases h
        rcases hokI with ⟨rfl, hrt⟩ | ⟨rfl, hrt⟩
        · have hn : narrow .boolean (.int (ew_i x)) = .int (ew_i x) := by
            rcases hv rfl with rfl | rfl
            · decide +kernel
            · decide +kernel
          exact W.zret hx hb (hr.trans hrt) hn hq hS.2.2 hd hlocks
        · exact W.iret hx hb (hr.trans hrt) hq hS.2.2 hd hlocks
      · cases h
    · cases h
  case lreturn =>
    obtain ⟨hd, -, hokI⟩ := ew_dec hok (n := 1) rfl (by decide)
    simp only [ew_okI, decide_eq_true_eq] at hokI
    simp only [ew_stI] at h
    split at h
    · cases h
      exact W.lret hx hb (hr.trans hokI) hq hS.2.2 hd hlocks
    · cases h
  case freturn =>
    obtain ⟨hd, -, hokI⟩ := ew_dec hok (n := 1) rfl (by decide)
    simp only [ew_okI, decide_eq_true_eq] at hokI
    simp only [ew_stI] at h
    split at h
    · cases h
      exact W.fret hx hb (hr.trans hokI) hq hS.2.2 hd hlocks
    · cases h
  case areturn =>
    obtain ⟨hd, -, hokI⟩ := ew_dec hok (n := 1) rfl (by decide)
    simp only [ew_okI] at hokI
    simp only [ew_stI] at h
    split at h
    · rename_i x
      cases h
      have hvr : ew_cv g (2, x) = .null ∨ ∃ a, ew_cv g (2, x) = .ref a := by
        simp only [ew_cv, ew_rf]
        split
        · exact Or.inl rfl
        · exact Or.inr ⟨_, rfl⟩
      cases hrt : ew_rt k with
      | none => rw [hrt] at hokI; cases hokI
      | some ty =>
        rw [hrt] at hokI hr
        have hty : (∃ n, ty = .object n) ∨ ∃ t, ty = .array t := by
          cases ty with
          | object C => exact Or.inl ⟨_, rfl⟩
          | array t => exact Or.inr ⟨_, rfl⟩
          | _ => cases hokI
        exact W.aret hx hb hr hty hvr hq hS.2.2 hd hlocks
    · cases h
  case return_ =>
    obtain ⟨hd, -, hokI⟩ := ew_dec hok (n := 1) rfl (by decide)
    simp only [ew_okI, decide_eq_true_eq] at hokI
    simp only [ew_stI] at h
    split at h
    · cases h
      exact W.vret hx hb (hr.trans hokI) hq hS.2.2 hd hlocks
    · cases h
  all_goals
    exfalso
    simp only [ew_stI, ew_ld, ew_s1, ew_s2, ew_inv] at h
    repeat' split at h
    all_goals first
      | (cases h; done)
      | (simp at h; done)
theorem ew_lay_one {tq : Nat} (x : Int) (A : List ew_AV) (hc : ¬ (tq = 1 ∨ tq = 4)) : ew_lay ((tq, x) :: A) = (tq, x) :: ew_lay A := by
  match tq, hc with
  | 0, _ => rfl
  | 1, h => exact absurd (Or.inl rfl) h
  | 2, _ => rfl
  | 3, _ => rfl
  | 4, h => exact absurd (Or.inr rfl) h
  | t + 5, _ => rfl
theorem ew_ent_lh (g : ew_G) : ∀ (A : List ew_AV) (i t : Nat) (v : Int), (ew_lay A)[i]? = some (t, v) → t < 5 → (lg_sl (A.map (ew_cv g)))[i]? = some (.val (ew_cv g (t, v)))
  | [], i, t, v, h, _ => by simp [ew_lay] at h
  | (tq, x) :: A, i, t, v, h, ht => by
    have ih := ew_ent_lh g A
    have hsl : lg_sl (((tq, x) :: A).map (ew_cv g)) = (if (ew_cv g (tq, x)).category = 2 then [.val (ew_cv g (tq, x)), .second] else [.val (ew_cv g (tq, x))]) ++ lg_sl (A.map (ew_cv g)) := by
      simp [lg_sl]
    rw [hsl]
    by_cases hc : tq = 1 ∨ tq = 4
    · rw [if_pos (ew_cv_cat.mpr hc)]
      have hl : ew_lay ((tq, x) :: A) = (tq, x) :: (5, 0) :: ew_lay A := by
        rcases hc with rfl | rfl <;> rfl
      rw [hl] at h
      match i, h with
      | 0, h => cases h; rfl
      | 1, h => cases h; omega
      | i + 2, h => exact ih i t v h ht
    · rw [if_neg (fun q => hc (ew_cv_cat.mp q))]
      have hl := ew_lay_one x A hc
      rw [hl] at h
      match i, h with
      | 0, h => cases h; rfl
      | i + 1, h => exact ih i t v h ht
theorem ew_lay_len (g : ew_G) : ∀ A : List ew_AV, (lg_sl (A.map (ew_cv g))).length = (ew_lay A).length
  | [] => rfl
  | (tq, x) :: A => by
    have ih := ew_lay_len g A
    have hsl : lg_sl (((tq, x) :: A).map (ew_cv g)) = (if (ew_cv g (tq, x)).category = 2 then [.val (ew_cv g (tq, x)), .second] else [.val (ew_cv g (tq, x))]) ++ lg_sl (A.map (ew_cv g)) := by
      simp [lg_sl]
    rw [hsl, List.length_append, ih]
    by_cases hc : tq = 1 ∨ tq = 4
    · rw [if_pos (ew_cv_cat.mpr hc)]
      have hl : ew_lay ((tq, x) :: A) = (tq, x) :: (5, 0) :: ew_lay A := by
        rcases hc with rfl | rfl <;> rfl
      rw [hl]
      simp; omega
    · rw [if_neg (fun q => hc (ew_cv_cat.mp q))]
      have hl := ew_lay_one x A hc
      rw [hl]
      simp; omega
theorem ew_entry (g : ew_G) (k : Nat) (A : List ew_AV) (h : (ew_lay A).length ≤ ew_maxL k) : ew_lh g (lg_sl (A.map (ew_cv g)) ++ List.replicate (ew_maxL k - (lg_sl (A.map (ew_cv g))).length) Slot.unset).toArray (ew_maxL k) (ew_ent k A) := by
  have hlen := ew_lay_len g A
  have h1 := lv_entry (A.map (ew_cv g)) (n := ew_maxL k) (by omega)
  refine ⟨by simp [ew_ent, ew_pad]; omega, h1.1, h1.2.1, fun q hq => ?_⟩
  obtain ⟨t, v, h2, h3, h4⟩ := ew_lvl_of hq
  rw [h4]
  unfold ew_ent ew_pad at h2
  by_cases hi : q.1 < (ew_lay A).length
  · rw [List.getElem?_append_left hi] at h2
    have h5 := ew_ent_lh g A q.1 t v h2 h3
    rw [List.getElem?_toArray, List.getElem?_append_left (by omega)]
    exact h5
  · rw [List.getElem?_append_right (by omega)] at h2
    have h6 := List.mem_of_getElem? h2
    have h7 := (List.mem_replicate.mp h6).2
    cases h7
    omega
def ew_SimS (f : Nat) : Prop := ∀ (k pc : Nat) (L S : List ew_AV) (n : Nat) (M : ew_Mem) (v : Option ew_AV) (n' : Nat) (M' : ew_Mem), ew_run f k pc L S n M = some (v, n', M') →
  ∀ (p : Program) (l : Launch) (e : Env) (R : Room) (s : State) (m : MethodId) (args : Array Value) (below : List Frame) (meth : Method) (c : Code) (D : va_G) (tc : Nat → ClassId) (g : ew_G) (Lo : ew_Mem) (Q : State → Prop) (H : Heap) (locs : List Loc) (cells slots cells2 slots2 : Nat) (ls : Array Slot),
    ew_Fx k p l e R s m args below meth c D tc g Lo → ew_Rel D tc g Lo n M H → va_S (ew_A g) s.heap H locs → ew_lh g ls (ew_maxL k) L → cells2 = cells + (n' - n) → slots2 = slots + (ew_sz n' - ew_sz n) → cells2 ≤ R.cells → slots2 ≤ R.slots →
    (∀ (pc' : Nat) (L' S' : List ew_AV) (H' : Heap) (locs' : List Loc) (ls' : Array Slot), ew_stp k pc' L' S' n' M' = some (.inr (.inl v)) → ew_Rel D tc g Lo n' M' H' → va_S (ew_A g) s.heap H' locs' → W p l e R s m args below meth c H' locs' cells2 slots2 Q (F0 m pc' ls' (S'.map (ew_cv g)))) →
    W p l e R s m args below meth c H locs cells slots Q (F0 m pc ls (S.map (ew_cv g)))
def ew_MetS (f : Nat) : Prop := ∀ (k : Nat) (A : List ew_AV) (n : Nat) (M : ew_Mem) (v : Option ew_AV) (n' : Nat) (M' : ew_Mem), k < 239 → (ew_lay A).length ≤ ew_maxL k → ew_run f k 0 (ew_ent k A) [] n M = some (v, n', M') →
  ∀ (l : Launch) (D : va_G) (tc : Nat → ClassId) (g : ew_G) (Lo : ew_Mem), Met l (ew_y k) (ew_cw k :: ew_W) (ew_rm k (n' - n) (ew_sz n' - ew_sz n)) (ew_Pc D tc g Lo A n M) (ew_Qc D tc g Lo v n' M') (n' - n) (ew_sz n' - ew_sz n) (ew_A g)
theorem ew_met_of (hall : ∀ k, ew_Ok k (ew_cod k)) {f : Nat} (hsim : ew_SimS f) : ew_MetS f := by
  intro k A n M v n' M' hk hlay hrun l D tc g Lo
  refine ew_Met_ofW (cc := ew_by k) (maxL := ew_maxL k) (ret := ew_rt k) (ew_y_ok k hk).1 rfl ?_
  intro p e s m args below meth c s₁ B hml hv
  obtain ⟨rfl, hE, hR⟩ := hv
  have hts := atoms_spec (ws := ew_cw k :: ew_W) B.pre
  have hown : s.vm.findClass (ew_cls k) = some m.cls := findClass_of_methodNamed B.named
  rw [lg_entry_eq]
  refine hsim k 0 (ew_ent k A) [] n M v n' M' hrun p l e _ s m _ below meth c D tc g Lo _ s.heap [] 0 0 (n' - n) (ew_sz n' - ew_sz n) _ ⟨B.exec, B.bytes, hml, hown, fun w hw => hts w (List.mem_cons_of_mem _ hw), (name_of_methodNamed B.named B.method).1, hE, Nat.le_refl _, Nat.le_refl _⟩ hR va_S.rf (ew_entry g k A hlay) (by omega) (by omega) (Nat.le_refl _) (Nat.le_refl _) ?_
  intro pc' L' S' H' locs' ls' hst hR' hS'
  obtain ⟨ins, nx, a, b, z, ps, hok, hstI⟩ := ew_stp_ent hall hst
  exact ew_end B.exec B.bytes B.returns B.notSynchronized hR' hS' hok hstI
theorem ew_sim (hall : ∀ k, ew_Ok k (ew_cod k)) (hcw : ∀ k, k < 239 → ew_cw k ∈ ew_W) : ∀ f, ew_SimS f
  | 0 => by
    intro k pc L S n M v n' M' h
    simp [ew_run] at h
  | f + 1 => by
    have ih := ew_sim hall hcw f
    have hmet := ew_met_of hall ih
    intro k pc L S n M v n' M' h p l e R s m args below meth c D tc g Lo Q H locs cells slots cells2 slots2 ls F hR hS hl hc1 hc2 hr1 hr2 hret
    rw [ew_run] at h
    split at h
    · cases h
    · rename_i pc2 L2 S2 n2 M2 hst
      obtain ⟨ins, nx, a, b, z, ps, hok, hstI⟩ := ew_stp_ent hall hst
      have h1 := ew_stI_mono hstI
      have h2 := ew_run_n f h
      have h3 := ew_sz_mono h1
      have h4 := ew_sz_mono h2
      exact ew_snd_all ins p l e R s m args below meth c D tc g Lo Q k pc nx a b z ps L S n M H locs cells slots (cells + (n2 - n)) (slots + (ew_sz n2 - ew_sz n)) ls pc2 L2 S2 n2 M2 F hR hS hl hok hstI rfl rfl (by omega) (by omega) (fun H' locs' ls' hR' hS' hl' =>
        ih k pc2 L2 S2 n2 M2 v n' M' h p l e R s m args below meth c D tc g Lo Q H' locs' _ _ cells2 slots2 ls' F hR' hS' hl' (by omega) (by omega) hr1 hr2 hret)
    · rename_i v' hst
      cases h
      obtain rfl : cells2 = cells := by simpa using hc1
      obtain rfl : slots2 = slots := by simpa using hc2
      exact hret pc L S H locs ls hst hR hS
    · rename_i k' A pc2 S2 hst
      split at h
      · cases h
      · rename_i v1 n1 M1 h1
        obtain ⟨ins, nx, a, b, z, ps, hok, hstI⟩ := ew_stp_ent hall hst
        have g1 := ew_run_n f h1
        have g2 := ew_run_n f h
        have g3 := ew_sz_mono g1
        have g4 := ew_sz_mono g2
        exact ew_call_W hcw ins F hR hS hl hok hstI (fun hk hlay => hmet k' A n M v1 n1 M1 hk hlay h1 l D tc g Lo) (by omega) (by omega) (fun H' locs' hR' hS' =>
          ih k pc2 L (v1.toList ++ S2) n1 M1 v n' M' h p l e R s m args below meth c D tc g Lo Q H' locs' _ _ cells2 slots2 ls F hR' hS' hl (by omega) (by omega) hr1 hr2 hret)

