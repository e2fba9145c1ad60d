/-! soundness: natives, calls, returns, whole runs -/
theorem ew_cat_eq (g : ew_G) (t : Nat) (v : Int) : (ew_cv g (t, v)).category = ew_ws [(t, v)] := by
  match t with
  | 0 => rfl
  | 1 => rfl
  | 2 =>
    simp only [ew_cv, ew_rf, ew_ws]
    split <;> rfl
  | 3 => rfl
  | 4 => rfl
  | t + 5 => simp [ew_cv, ew_ws, Value.category]
theorem ew_ws_cons (v : ew_AV) (S : List ew_AV) : ew_ws (v :: S) = ew_ws [v] + ew_ws S := by
  obtain ⟨t, x⟩ := v
  match t with
  | 0 => simp [ew_ws]
  | 1 => simp [ew_ws]
  | 2 => simp [ew_ws]
  | 3 => simp [ew_ws]
  | 4 => simp [ew_ws]
  | t + 5 => simp [ew_ws]
theorem ew_ws_sum (g : ew_G) : ∀ S : List ew_AV, ((S.map (ew_cv g)).map (fun v => v.category)).sum = ew_ws S
  | [] => rfl
  | v :: S => by
    rw [ew_ws_cons, ← ew_ws_sum g S, ← ew_cat_eq g v.1 v.2]
    simp

theorem ew_snd_invokespecial (i : Nat) : ew_Snd (.invokespecial i) := by
  intro p l e R s m args below meth c D tc g Lo Q k pc nx a b z ps L S n M H locs cells slots cells2 slots2 ls pc2 L2 S2 n2 M2 F hR hS hl hok h hc1 hc2 hr1 hr2 kk
  obtain ⟨hx, hb, hml, hown, hts, hnm, hE, hfr, hlo⟩ := F
  obtain ⟨hd, rfl, hokI⟩ := ew_dec hok (n := 3) rfl (by decide)
  simp only [ew_stI] at h
  simp only [ew_okI, Bool.and_eq_true, decide_eq_true_eq, Bool.or_eq_true] at hokI
  unfold ew_inv at h
  split at h
  · rename_i hz
    split at h
    · rename_i o Sx
      split at h
      · rename_i hq
        simp only [Option.some.injEq, Sum.inl.injEq, Prod.mk.injEq] at h
        obtain ⟨rfl, rfl, rfl, rfl, rfl⟩ := h
        obtain rfl : cells2 = cells := by simpa using hc1
        obtain rfl : slots2 = slots := by simpa using hc2
        rcases hokI with ⟨h2, _⟩ | ⟨h2, _⟩ | ⟨-, hlv, hw1, hw2, hw3⟩
        · omega
        · omega
        have kk := kk H locs ls hR hS hl
        simp only [List.map_cons]
        rw [show ew_cv g (2, o) = Value.ref (ew_ph g o.toNat) from ew_rf_pos (by omega)]
        have hwsum := ew_ws_sum g Sx
        exact W.objInit hx hb hown (hts _ (ew_wd_of hw1)) (hts _ (ew_wd_of hw2)) (hts _ (ew_wd_of hw3)) rfl (hl.2.1.trans hml.symm) rfl hd (by omega) (by show 2 * 0 + _ + 12 ≤ _; omega) kk
      · cases h
    · cases h
  · rename_i h4
    split at h
    · rename_i h5
      rcases hokI with ⟨h2, _⟩ | ⟨h2, _⟩ | ⟨h2, _⟩ <;> omega
    · split at h
      · rename_i h6
        rcases hokI with ⟨h2, _⟩ | ⟨h2, _⟩ | ⟨h2, _⟩ <;> omega
      · split at h <;> cases h

theorem ew_snd_invokevirtual (i : Nat) : ew_Snd (.invokevirtual i) := by
  intro p l e R s m args below meth c D tc g Lo Q k pc nx a b z ps L S n M H locs cells slots cells2 slots2 ls pc2 L2 S2 n2 M2 F hR hS hl hok h hc1 hc2 hr1 hr2 kk
  obtain ⟨hx, hb, hml, hown, hts, hnm, hE, hfr, hlo⟩ := F
  obtain ⟨hd, rfl, hokI⟩ := ew_dec hok (n := 3) rfl (by decide)
  simp only [ew_stI] at h
  simp only [ew_okI, Bool.and_eq_true, decide_eq_true_eq] at hokI
  obtain ⟨hz, -⟩ := hokI
  unfold ew_inv at h
  rw [if_neg (by omega), if_neg (by omega), if_neg (by omega)] at h
  split at h <;> cases h

theorem ew_snd_invokestatic (i : Nat) : ew_Snd (.invokestatic i) := by
  intro p l e R s m args below meth c D tc g Lo Q k pc nx a b z ps L S n M H locs cells slots cells2 slots2 ls pc2 L2 S2 n2 M2 F hR hS hl hok h hc1 hc2 hr1 hr2 kk
  obtain ⟨hx, hb, hml, hown, hts, hnm, hE, hfr, hlo⟩ := F
  obtain ⟨hd, rfl, hokI⟩ := ew_dec hok (n := 3) rfl (by decide)
  simp only [ew_stI] at h
  simp only [ew_okI, Bool.and_eq_true, decide_eq_true_eq, Bool.or_eq_true] at hokI
  unfold ew_inv at h
  split at h
  · rename_i hz
    rcases hokI with ⟨h2, _⟩ | ⟨h2, _⟩ | ⟨h2, _⟩ | ⟨h2, _⟩ <;> omega
  · split at h
    · rename_i h4 h5
      split at h
      · rename_i v Sx
        split at h
        · rename_i hq
          simp only [Option.some.injEq, Sum.inl.injEq, Prod.mk.injEq] at h
          obtain ⟨rfl, rfl, rfl, rfl, rfl⟩ := h
          obtain rfl : cells2 = cells := by simpa using hc1
          obtain rfl : slots2 = slots := by simpa using hc2
          rcases hokI with ⟨h2, _⟩ | ⟨h2, _⟩ | ⟨-, hlv, hw1, hw2, hw3, hw4⟩ | ⟨h2, _⟩
          · omega
          · omega
          · have kk := kk H locs ls hR hS hl
            have hwsum := ew_ws_sum g Sx
            simp only [List.map_cons, ew_cv] at kk ⊢
            rw [ew_el] at kk
            exact vn_d2l hx hb (hml.trans hl.2.1.symm) hown (hts _ (ew_wd_of hw1)) (hts _ (ew_wd_of hw4)) (hts _ (ew_wd_of hw2)) (hts _ (ew_wd_of hw3)) (by omega) (by omega) hd kk
          · omega
        · cases h
      · cases h
    · split at h
      · rename_i h4 h5 h6
        split at h
        · rename_i v Sx
          split at h
          · rename_i hq
            simp only [Option.some.injEq, Sum.inl.injEq, Prod.mk.injEq] at h
            obtain ⟨rfl, rfl, rfl, rfl, rfl⟩ := h
            obtain rfl : cells2 = cells := by simpa using hc1
            obtain rfl : slots2 = slots := by simpa using hc2
            rcases hokI with ⟨h2, _⟩ | ⟨h2, _⟩ | ⟨h2, _⟩ | ⟨-, hlv, hw1, hw2, hw3, hw4⟩
            · omega
            · omega
            · omega
            · have kk := kk H locs ls hR hS hl
              have hwsum := ew_ws_sum g Sx
              simp only [List.map_cons, ew_cv] at kk ⊢
              rw [ew_ei] at kk
              exact vn_f2i hx hb (hml.trans hl.2.1.symm) hown (hts _ (ew_wd_of hw1)) (hts _ (ew_wd_of hw4)) (hts _ (ew_wd_of hw2)) (hts _ (ew_wd_of hw3)) (by omega) (by omega) hd kk
          · cases h
        · cases h
      · split at h <;> cases h

theorem ew_snd_all (ins : Instr) : ew_Snd ins := by
  cases ins
  case iload i => exact ew_snd_iload i
  case iload_n i => exact ew_snd_iload_n i
  case lload i => exact ew_snd_lload i
  case lload_n i => exact ew_snd_lload_n i
  case aload i => exact ew_snd_aload i
  case aload_n i => exact ew_snd_aload_n i
  case fload i => exact ew_snd_fload i
  case fload_n i => exact ew_snd_fload_n i
  case dload_n i => exact ew_snd_dload_n i
  case istore i => exact ew_snd_istore i
  case istore_n i => exact ew_snd_istore_n i
  case astore i => exact ew_snd_astore i
  case astore_n i => exact ew_snd_astore_n i
  case fstore i => exact ew_snd_fstore i
  case fstore_n i => exact ew_snd_fstore_n i
  case lstore i => exact ew_snd_lstore i
  case lstore_n i => exact ew_snd_lstore_n i
  case dstore_n i => exact ew_snd_dstore_n i
  case iinc i c => exact ew_snd_iinc i c
  case iconst j => exact ew_snd_iconst j
  case bipush j => exact ew_snd_bipush j
  case sipush j => exact ew_snd_sipush j
  case lconst j => exact ew_snd_lconst j
  case fconst j => exact ew_snd_fconst j
  case dconst j => exact ew_snd_dconst j
  case ldc j => exact ew_snd_ldc j
  case ldc_w j => exact ew_snd_ldc_w j
  case ldc2_w j => exact ew_snd_ldc2_w j
  case aconst_null => exact ew_snd_aconst_null
  case dup => exact ew_snd_dup
  case pop => exact ew_snd_pop
  case goto o => exact ew_snd_goto o
  case if_icmp cd o => exact ew_snd_if_icmp cd o
  case ifCond cd o => exact ew_snd_ifCond cd o
  case ifnull o => exact ew_snd_ifnull o
  case ifnonnull o => exact ew_snd_ifnonnull o
  case tableswitch d lo hi offs => exact ew_snd_tableswitch d lo hi offs
  case lookupswitch d pr => exact ew_snd_lookupswitch d pr
  case getfield i => exact ew_snd_getfield i
  case putfield i => exact ew_snd_putfield i
  case getstatic i => exact ew_snd_getstatic i
  case new i => exact ew_snd_new i
  case newarray a => exact ew_snd_newarray a
  case anewarray i => exact ew_snd_anewarray i
  case invokespecial i => exact ew_snd_invokespecial i
  case invokevirtual i => exact ew_snd_invokevirtual i
  case invokestatic i => exact ew_snd_invokestatic i
  case iadd => exact ew_snd_iadd
  case isub => exact ew_snd_isub
  case imul => exact ew_snd_imul
  case ineg => exact ew_snd_ineg
  case idiv => exact ew_snd_idiv
  case irem => exact ew_snd_irem
  case iand => exact ew_snd_iand
  case ishl => exact ew_snd_ishl
  case iushr => exact ew_snd_iushr
  case ladd => exact ew_snd_ladd
  case lsub => exact ew_snd_lsub
  case lmul => exact ew_snd_lmul
  case ldiv => exact ew_snd_ldiv
  case lrem => exact ew_snd_lrem
  case land => exact ew_snd_land
  case lor => exact ew_snd_lor
  case lxor => exact ew_snd_lxor
  case lshl => exact ew_snd_lshl
  case lshr => exact ew_snd_lshr
  case lcmp => exact ew_snd_lcmp
  case i2l => exact ew_snd_i2l
  case l2i => exact ew_snd_l2i
  case i2f => exact ew_snd_i2f
  case i2d => exact ew_snd_i2d
  case f2i => exact ew_snd_f2i
  case d2l => exact ew_snd_d2l
  case fmul => exact ew_snd_fmul
  case fdiv => exact ew_snd_fdiv
  case fsub => exact ew_snd_fsub
  case dmul => exact ew_snd_dmul
  case ddiv => exact ew_snd_ddiv
  case dsub => exact ew_snd_dsub
  case arraylength => exact ew_snd_arraylength
  case iaload => exact ew_snd_iaload
  case laload => exact ew_snd_laload
  case aaload => exact ew_snd_aaload
  case iastore => exact ew_snd_iastore
  case lastore => exact ew_snd_lastore
  case aastore => exact ew_snd_aastore
  case fcmp op => exact ew_snd_fcmp op
  case dcmp op => exact ew_snd_dcmp op
  case ireturn =>
    intro p l e R s m args below meth c D tc g Lo Q k pc nx a b z ps L S n M H locs cells slots cells2 slots2 ls pc2 L2 S2 n2 M2 F hR hS hl hok h
    simp only [ew_stI, ew_ret] at h
    split at h
    · split at h <;> cases h
    · cases h
  case lreturn =>
    intro p l e R s m args below meth c D tc g Lo Q k pc nx a b z ps L S n M H locs cells slots cells2 slots2 ls pc2 L2 S2 n2 M2 F hR hS hl hok h
    simp only [ew_stI, ew_ret] at h
    split at h
    · cases h
    · cases h
  case freturn =>
    intro p l e R s m args below meth c D tc g Lo Q k pc nx a b z ps L S n M H locs cells slots cells2 slots2 ls pc2 L2 S2 n2 M2 F hR hS hl hok h
    simp only [ew_stI, ew_ret] at h
    split at h
    · cases h
    · cases h
  case areturn =>
    intro p l e R s m args below meth c D tc g Lo Q k pc nx a b z ps L S n M H locs cells slots cells2 slots2 ls pc2 L2 S2 n2 M2 F hR hS hl hok h
    simp only [ew_stI, ew_ret] at h
    split at h
    · cases h
    · cases h
  case return_ =>
    intro p l e R s m args below meth c D tc g Lo Q k pc nx a b z ps L S n M H locs cells slots cells2 slots2 ls pc2 L2 S2 n2 M2 F hR hS hl hok h
    simp only [ew_stI, ew_ret] at h
    split at h
    · cases h
    · cases h
  all_goals
    intro p l e R s m args below meth c D tc g Lo Q k pc nx a b z ps L S n M H locs cells slots cells2 slots2 ls pc2 L2 S2 n2 M2 F hR hS hl hok h
    simp [ew_stI] at h

