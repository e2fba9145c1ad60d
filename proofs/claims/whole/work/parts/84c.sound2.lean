/-! soundness: loads, stores, constants, branches, switches -/
theorem ew_snd_iload (i : Nat) : ew_Snd (.iload i) := by
  intro p l e R s m args below meth c D tc g Lo Q k pc nx a b z ps L S n M H locs cells slots cells2 slots2 ls pc2 L2 S2 n2 M2 F hR hS hl hok h hc1 hc2 hr1 hr2 kk
  obtain ⟨hx, hb, hml, hown, hts, hnm, hE, hfr, hlo⟩ := F
  obtain ⟨hd, rfl, hokI⟩ := ew_dec hok (n := 2) rfl (by decide)
  simp only [ew_stI] at h
  unfold ew_ld at h
  split at h
  · rename_i t v hv
    split at h
    · rename_i ht
      subst ht
      cases h
      obtain rfl : cells2 = cells := by simpa using hc1
      obtain rfl : slots2 = slots := by simpa using hc2
      have kk := kk H locs ls hR hS hl
      have hg := ew_lh_get hl hv (by decide)
      exact lv_iload hx hb hd hg kk
    · cases h
  · cases h

theorem ew_snd_iload_n (i : Fin 4) : ew_Snd (.iload_n i) := by
  intro p l e R s m args below meth c D tc g Lo Q k pc nx a b z ps L S n M H locs cells slots cells2 slots2 ls pc2 L2 S2 n2 M2 F hR hS hl hok h hc1 hc2 hr1 hr2 kk
  obtain ⟨hx, hb, hml, hown, hts, hnm, hE, hfr, hlo⟩ := F
  obtain ⟨hd, rfl, hokI⟩ := ew_dec hok (n := 1) rfl (by decide)
  simp only [ew_stI] at h
  unfold ew_ld at h
  split at h
  · rename_i t v hv
    split at h
    · rename_i ht
      subst ht
      cases h
      obtain rfl : cells2 = cells := by simpa using hc1
      obtain rfl : slots2 = slots := by simpa using hc2
      have kk := kk H locs ls hR hS hl
      have hg := ew_lh_get hl hv (by decide)
      exact lv_iload_n hx hb hd rfl hg kk
    · cases h
  · cases h

theorem ew_snd_lload (i : Nat) : ew_Snd (.lload i) := by
  intro p l e R s m args below meth c D tc g Lo Q k pc nx a b z ps L S n M H locs cells slots cells2 slots2 ls pc2 L2 S2 n2 M2 F hR hS hl hok h hc1 hc2 hr1 hr2 kk
  obtain ⟨hx, hb, hml, hown, hts, hnm, hE, hfr, hlo⟩ := F
  obtain ⟨hd, rfl, hokI⟩ := ew_dec hok (n := 2) rfl (by decide)
  simp only [ew_stI] at h
  unfold ew_ld at h
  split at h
  · rename_i t v hv
    split at h
    · rename_i ht
      subst ht
      cases h
      obtain rfl : cells2 = cells := by simpa using hc1
      obtain rfl : slots2 = slots := by simpa using hc2
      have kk := kk H locs ls hR hS hl
      have hg := ew_lh_get hl hv (by decide)
      exact lv_lload hx hb hd hg kk
    · cases h
  · cases h

theorem ew_snd_lload_n (i : Fin 4) : ew_Snd (.lload_n i) := by
  intro p l e R s m args below meth c D tc g Lo Q k pc nx a b z ps L S n M H locs cells slots cells2 slots2 ls pc2 L2 S2 n2 M2 F hR hS hl hok h hc1 hc2 hr1 hr2 kk
  obtain ⟨hx, hb, hml, hown, hts, hnm, hE, hfr, hlo⟩ := F
  obtain ⟨hd, rfl, hokI⟩ := ew_dec hok (n := 1) rfl (by decide)
  simp only [ew_stI] at h
  unfold ew_ld at h
  split at h
  · rename_i t v hv
    split at h
    · rename_i ht
      subst ht
      cases h
      obtain rfl : cells2 = cells := by simpa using hc1
      obtain rfl : slots2 = slots := by simpa using hc2
      have kk := kk H locs ls hR hS hl
      have hg := ew_lh_get hl hv (by decide)
      exact lv_lload_n hx hb hd rfl hg kk
    · cases h
  · cases h

theorem ew_snd_aload (i : Nat) : ew_Snd (.aload i) := by
  intro p l e R s m args below meth c D tc g Lo Q k pc nx a b z ps L S n M H locs cells slots cells2 slots2 ls pc2 L2 S2 n2 M2 F hR hS hl hok h hc1 hc2 hr1 hr2 kk
  obtain ⟨hx, hb, hml, hown, hts, hnm, hE, hfr, hlo⟩ := F
  obtain ⟨hd, rfl, hokI⟩ := ew_dec hok (n := 2) rfl (by decide)
  simp only [ew_stI] at h
  unfold ew_ld at h
  split at h
  · rename_i t v hv
    split at h
    · rename_i ht
      subst ht
      cases h
      obtain rfl : cells2 = cells := by simpa using hc1
      obtain rfl : slots2 = slots := by simpa using hc2
      have kk := kk H locs ls hR hS hl
      have hg := ew_lh_get hl hv (by decide)
      simp only [List.map_cons, ew_cv, ew_rf] at kk hg
      by_cases hz : v ≤ 0
      · rw [if_pos hz] at kk hg
        exact lv_aloadN hx hb hd hg kk
      · rw [if_neg hz] at kk hg
        exact lv_aload hx hb hd hg kk
    · cases h
  · cases h

theorem ew_snd_aload_n (i : Fin 4) : ew_Snd (.aload_n i) := by
  intro p l e R s m args below meth c D tc g Lo Q k pc nx a b z ps L S n M H locs cells slots cells2 slots2 ls pc2 L2 S2 n2 M2 F hR hS hl hok h hc1 hc2 hr1 hr2 kk
  obtain ⟨hx, hb, hml, hown, hts, hnm, hE, hfr, hlo⟩ := F
  obtain ⟨hd, rfl, hokI⟩ := ew_dec hok (n := 1) rfl (by decide)
  simp only [ew_stI] at h
  unfold ew_ld at h
  split at h
  · rename_i t v hv
    split at h
    · rename_i ht
      subst ht
      cases h
      obtain rfl : cells2 = cells := by simpa using hc1
      obtain rfl : slots2 = slots := by simpa using hc2
      have kk := kk H locs ls hR hS hl
      have hg := ew_lh_get hl hv (by decide)
      simp only [List.map_cons, ew_cv, ew_rf] at kk hg
      by_cases hz : v ≤ 0
      · rw [if_pos hz] at kk hg
        exact lv_aload_nN hx hb hd rfl hg kk
      · rw [if_neg hz] at kk hg
        exact lv_aload_n hx hb hd rfl hg kk
    · cases h
  · cases h

theorem ew_snd_fload (i : Nat) : ew_Snd (.fload i) := by
  intro p l e R s m args below meth c D tc g Lo Q k pc nx a b z ps L S n M H locs cells slots cells2 slots2 ls pc2 L2 S2 n2 M2 F hR hS hl hok h hc1 hc2 hr1 hr2 kk
  obtain ⟨hx, hb, hml, hown, hts, hnm, hE, hfr, hlo⟩ := F
  obtain ⟨hd, rfl, hokI⟩ := ew_dec hok (n := 2) rfl (by decide)
  simp only [ew_stI] at h
  unfold ew_ld at h
  split at h
  · rename_i t v hv
    split at h
    · rename_i ht
      subst ht
      cases h
      obtain rfl : cells2 = cells := by simpa using hc1
      obtain rfl : slots2 = slots := by simpa using hc2
      have kk := kk H locs ls hR hS hl
      have hg := ew_lh_get hl hv (by decide)
      exact lv_fload hx hb hd hg kk
    · cases h
  · cases h

theorem ew_snd_fload_n (i : Fin 4) : ew_Snd (.fload_n i) := by
  intro p l e R s m args below meth c D tc g Lo Q k pc nx a b z ps L S n M H locs cells slots cells2 slots2 ls pc2 L2 S2 n2 M2 F hR hS hl hok h hc1 hc2 hr1 hr2 kk
  obtain ⟨hx, hb, hml, hown, hts, hnm, hE, hfr, hlo⟩ := F
  obtain ⟨hd, rfl, hokI⟩ := ew_dec hok (n := 1) rfl (by decide)
  simp only [ew_stI] at h
  unfold ew_ld at h
  split at h
  · rename_i t v hv
    split at h
    · rename_i ht
      subst ht
      cases h
      obtain rfl : cells2 = cells := by simpa using hc1
      obtain rfl : slots2 = slots := by simpa using hc2
      have kk := kk H locs ls hR hS hl
      have hg := ew_lh_get hl hv (by decide)
      exact lv_fload_n hx hb hd rfl hg kk
    · cases h
  · cases h

theorem ew_snd_dload_n (i : Fin 4) : ew_Snd (.dload_n i) := by
  intro p l e R s m args below meth c D tc g Lo Q k pc nx a b z ps L S n M H locs cells slots cells2 slots2 ls pc2 L2 S2 n2 M2 F hR hS hl hok h hc1 hc2 hr1 hr2 kk
  obtain ⟨hx, hb, hml, hown, hts, hnm, hE, hfr, hlo⟩ := F
  obtain ⟨hd, rfl, hokI⟩ := ew_dec hok (n := 1) rfl (by decide)
  simp only [ew_stI] at h
  unfold ew_ld at h
  split at h
  · rename_i t v hv
    split at h
    · rename_i ht
      subst ht
      cases h
      obtain rfl : cells2 = cells := by simpa using hc1
      obtain rfl : slots2 = slots := by simpa using hc2
      have kk := kk H locs ls hR hS hl
      have hg := ew_lh_get hl hv (by decide)
      exact lv_dload_n hx hb hd rfl hg kk
    · cases h
  · cases h

theorem ew_snd_istore (i : Nat) : ew_Snd (.istore i) := by
  intro p l e R s m args below meth c D tc g Lo Q k pc nx a b z ps L S n M H locs cells slots cells2 slots2 ls pc2 L2 S2 n2 M2 F hR hS hl hok h hc1 hc2 hr1 hr2 kk
  obtain ⟨hx, hb, hml, hown, hts, hnm, hE, hfr, hlo⟩ := F
  obtain ⟨hd, rfl, hokI⟩ := ew_dec hok (n := 2) rfl (by decide)
  simp only [ew_stI] at h
  unfold ew_s1 at h
  split at h
  · rename_i t v S
    split at h
    · rename_i ht
      obtain ⟨rfl, hi⟩ := ht
      cases h
      obtain rfl : cells2 = cells := by simpa using hc1
      obtain rfl : slots2 = slots := by simpa using hc2
      have hLn := hl.1
      have hi2 := hi
      rw [hLn] at hi2
      exact lv_istore hx hb hd hl.2 hi2 rfl (fun ls' hl' => kk H locs ls' hR hS (ew_lh_1 hLn hi2 hl'))
    · cases h
  · cases h

theorem ew_snd_istore_n (i : Fin 4) : ew_Snd (.istore_n i) := by
  intro p l e R s m args below meth c D tc g Lo Q k pc nx a b z ps L S n M H locs cells slots cells2 slots2 ls pc2 L2 S2 n2 M2 F hR hS hl hok h hc1 hc2 hr1 hr2 kk
  obtain ⟨hx, hb, hml, hown, hts, hnm, hE, hfr, hlo⟩ := F
  obtain ⟨hd, rfl, hokI⟩ := ew_dec hok (n := 1) rfl (by decide)
  simp only [ew_stI] at h
  unfold ew_s1 at h
  split at h
  · rename_i t v S
    split at h
    · rename_i ht
      obtain ⟨rfl, hi⟩ := ht
      cases h
      obtain rfl : cells2 = cells := by simpa using hc1
      obtain rfl : slots2 = slots := by simpa using hc2
      have hLn := hl.1
      have hi2 := hi
      rw [hLn] at hi2
      exact lv_istore_n hx hb hd rfl hl.2 hi2 rfl (fun ls' hl' => kk H locs ls' hR hS (ew_lh_1 hLn hi2 hl'))
    · cases h
  · cases h

theorem ew_snd_astore (i : Nat) : ew_Snd (.astore i) := by
  intro p l e R s m args below meth c D tc g Lo Q k pc nx a b z ps L S n M H locs cells slots cells2 slots2 ls pc2 L2 S2 n2 M2 F hR hS hl hok h hc1 hc2 hr1 hr2 kk
  obtain ⟨hx, hb, hml, hown, hts, hnm, hE, hfr, hlo⟩ := F
  obtain ⟨hd, rfl, hokI⟩ := ew_dec hok (n := 2) rfl (by decide)
  simp only [ew_stI] at h
  unfold ew_s1 at h
  split at h
  · rename_i t v S
    split at h
    · rename_i ht
      obtain ⟨rfl, hi⟩ := ht
      cases h
      obtain rfl : cells2 = cells := by simpa using hc1
      obtain rfl : slots2 = slots := by simpa using hc2
      have hLn := hl.1
      have hi2 := hi
      rw [hLn] at hi2
      have key : ∀ ls' : Array Slot, lv_has ls' (ew_maxL k) ((i, ew_cv g (2, v)) :: (ew_lvl g L).filter (fun q => !(q.1 == i) && !(q.1 + 1 == i && q.2.category == 2))) → W p l e R s m args below meth c H locs cells2 slots2 Q (F0 m (pc + 2) ls' (List.map (ew_cv g) S2)) := fun ls' hl' => kk H locs ls' hR hS (ew_lh_1 hLn hi2 hl')
      simp only [ew_cv, ew_rf] at key
      simp only [List.map_cons, ew_cv, ew_rf]
      by_cases hz : v ≤ 0
      · simp only [if_pos hz] at key ⊢
        exact lv_astoreN hx hb hd hl.2 hi2 rfl key
      · simp only [if_neg hz] at key ⊢
        exact lv_astore hx hb hd hl.2 hi2 rfl key
    · cases h
  · cases h

theorem ew_snd_astore_n (i : Fin 4) : ew_Snd (.astore_n i) := by
  intro p l e R s m args below meth c D tc g Lo Q k pc nx a b z ps L S n M H locs cells slots cells2 slots2 ls pc2 L2 S2 n2 M2 F hR hS hl hok h hc1 hc2 hr1 hr2 kk
  obtain ⟨hx, hb, hml, hown, hts, hnm, hE, hfr, hlo⟩ := F
  obtain ⟨hd, rfl, hokI⟩ := ew_dec hok (n := 1) rfl (by decide)
  simp only [ew_stI] at h
  unfold ew_s1 at h
  split at h
  · rename_i t v S
    split at h
    · rename_i ht
      obtain ⟨rfl, hi⟩ := ht
      cases h
      obtain rfl : cells2 = cells := by simpa using hc1
      obtain rfl : slots2 = slots := by simpa using hc2
      have hLn := hl.1
      have hi2 := hi
      rw [hLn] at hi2
      have key : ∀ ls' : Array Slot, lv_has ls' (ew_maxL k) ((i.val, ew_cv g (2, v)) :: (ew_lvl g L).filter (fun q => !(q.1 == i.val) && !(q.1 + 1 == i.val && q.2.category == 2))) → W p l e R s m args below meth c H locs cells2 slots2 Q (F0 m (pc + 1) ls' (List.map (ew_cv g) S2)) := fun ls' hl' => kk H locs ls' hR hS (ew_lh_1 hLn hi2 hl')
      simp only [ew_cv, ew_rf] at key
      simp only [List.map_cons, ew_cv, ew_rf]
      by_cases hz : v ≤ 0
      · simp only [if_pos hz] at key ⊢
        exact lv_astore_nN hx hb hd rfl hl.2 hi2 rfl key
      · simp only [if_neg hz] at key ⊢
        exact lv_astore_n hx hb hd rfl hl.2 hi2 rfl key
    · cases h
  · cases h

theorem ew_snd_fstore (i : Nat) : ew_Snd (.fstore i) := by
  intro p l e R s m args below meth c D tc g Lo Q k pc nx a b z ps L S n M H locs cells slots cells2 slots2 ls pc2 L2 S2 n2 M2 F hR hS hl hok h hc1 hc2 hr1 hr2 kk
  obtain ⟨hx, hb, hml, hown, hts, hnm, hE, hfr, hlo⟩ := F
  obtain ⟨hd, rfl, hokI⟩ := ew_dec hok (n := 2) rfl (by decide)
  simp only [ew_stI] at h
  unfold ew_s1 at h
  split at h
  · rename_i t v S
    split at h
    · rename_i ht
      obtain ⟨rfl, hi⟩ := ht
      cases h
      obtain rfl : cells2 = cells := by simpa using hc1
      obtain rfl : slots2 = slots := by simpa using hc2
      have hLn := hl.1
      have hi2 := hi
      rw [hLn] at hi2
      exact lv_fstore hx hb hd hl.2 hi2 rfl (fun ls' hl' => kk H locs ls' hR hS (ew_lh_1 hLn hi2 hl'))
    · cases h
  · cases h

theorem ew_snd_fstore_n (i : Fin 4) : ew_Snd (.fstore_n i) := by
  intro p l e R s m args below meth c D tc g Lo Q k pc nx a b z ps L S n M H locs cells slots cells2 slots2 ls pc2 L2 S2 n2 M2 F hR hS hl hok h hc1 hc2 hr1 hr2 kk
  obtain ⟨hx, hb, hml, hown, hts, hnm, hE, hfr, hlo⟩ := F
  obtain ⟨hd, rfl, hokI⟩ := ew_dec hok (n := 1) rfl (by decide)
  simp only [ew_stI] at h
  unfold ew_s1 at h
  split at h
  · rename_i t v S
    split at h
    · rename_i ht
      obtain ⟨rfl, hi⟩ := ht
      cases h
      obtain rfl : cells2 = cells := by simpa using hc1
      obtain rfl : slots2 = slots := by simpa using hc2
      have hLn := hl.1
      have hi2 := hi
      rw [hLn] at hi2
      exact lv_fstore_n hx hb hd rfl hl.2 hi2 rfl (fun ls' hl' => kk H locs ls' hR hS (ew_lh_1 hLn hi2 hl'))
    · cases h
  · cases h

theorem ew_snd_lstore (i : Nat) : ew_Snd (.lstore i) := by
  intro p l e R s m args below meth c D tc g Lo Q k pc nx a b z ps L S n M H locs cells slots cells2 slots2 ls pc2 L2 S2 n2 M2 F hR hS hl hok h hc1 hc2 hr1 hr2 kk
  obtain ⟨hx, hb, hml, hown, hts, hnm, hE, hfr, hlo⟩ := F
  obtain ⟨hd, rfl, hokI⟩ := ew_dec hok (n := 2) rfl (by decide)
  simp only [ew_stI] at h
  unfold ew_s2 at h
  split at h
  · rename_i t v S
    split at h
    · rename_i ht
      obtain ⟨rfl, hi⟩ := ht
      cases h
      obtain rfl : cells2 = cells := by simpa using hc1
      obtain rfl : slots2 = slots := by simpa using hc2
      have hLn := hl.1
      have hi2 := hi
      rw [hLn] at hi2
      exact lv_lstore hx hb hd hl.2 hi2 rfl (fun ls' hl' => kk H locs ls' hR hS (ew_lh_2 hLn hi2 hl'))
    · cases h
  · cases h

theorem ew_snd_lstore_n (i : Fin 4) : ew_Snd (.lstore_n i) := by
  intro p l e R s m args below meth c D tc g Lo Q k pc nx a b z ps L S n M H locs cells slots cells2 slots2 ls pc2 L2 S2 n2 M2 F hR hS hl hok h hc1 hc2 hr1 hr2 kk
  obtain ⟨hx, hb, hml, hown, hts, hnm, hE, hfr, hlo⟩ := F
  obtain ⟨hd, rfl, hokI⟩ := ew_dec hok (n := 1) rfl (by decide)
  simp only [ew_stI] at h
  unfold ew_s2 at h
  split at h
  · rename_i t v S
    split at h
    · rename_i ht
      obtain ⟨rfl, hi⟩ := ht
      cases h
      obtain rfl : cells2 = cells := by simpa using hc1
      obtain rfl : slots2 = slots := by simpa using hc2
      have hLn := hl.1
      have hi2 := hi
      rw [hLn] at hi2
      exact lv_lstore_n hx hb hd rfl hl.2 hi2 rfl (fun ls' hl' => kk H locs ls' hR hS (ew_lh_2 hLn hi2 hl'))
    · cases h
  · cases h

theorem ew_snd_dstore_n (i : Fin 4) : ew_Snd (.dstore_n i) := by
  intro p l e R s m args below meth c D tc g Lo Q k pc nx a b z ps L S n M H locs cells slots cells2 slots2 ls pc2 L2 S2 n2 M2 F hR hS hl hok h hc1 hc2 hr1 hr2 kk
  obtain ⟨hx, hb, hml, hown, hts, hnm, hE, hfr, hlo⟩ := F
  obtain ⟨hd, rfl, hokI⟩ := ew_dec hok (n := 1) rfl (by decide)
  simp only [ew_stI] at h
  unfold ew_s2 at h
  split at h
  · rename_i t v S
    split at h
    · rename_i ht
      obtain ⟨rfl, hi⟩ := ht
      cases h
      obtain rfl : cells2 = cells := by simpa using hc1
      obtain rfl : slots2 = slots := by simpa using hc2
      have hLn := hl.1
      have hi2 := hi
      rw [hLn] at hi2
      exact lv_dstore_n hx hb hd rfl hl.2 hi2 rfl (fun ls' hl' => kk H locs ls' hR hS (ew_lh_2 hLn hi2 hl'))
    · cases h
  · cases h

theorem ew_snd_iinc (i : Nat) (c0 : Int) : ew_Snd (.iinc i c0) := by
  intro p l e R s m args below meth c D tc g Lo Q k pc nx a b z ps L S n M H locs cells slots cells2 slots2 ls pc2 L2 S2 n2 M2 F hR hS hl hok h hc1 hc2 hr1 hr2 kk
  obtain ⟨hx, hb, hml, hown, hts, hnm, hE, hfr, hlo⟩ := F
  obtain ⟨hd, rfl, hokI⟩ := ew_dec hok (n := 3) rfl (by decide)
  simp only [ew_stI] at h
  split at h
  · rename_i v hv
    cases h
    obtain rfl : cells2 = cells := by simpa using hc1
    obtain rfl : slots2 = slots := by simpa using hc2
    obtain ⟨kq, hkq⟩ := List.getElem?_of_mem (ew_lvl_mem (g := g) hv (by decide))
    have hiL := (List.getElem?_eq_some_iff.mp hv).1
    rw [hl.1] at hiL
    exact lv_iinc hx hb hd hl.2 hkq (Int32.ofInt_add v c0).symm hiL rfl (fun ls' hl' => kk H locs ls' hR hS (ew_lh_n hl.1 hv hl hl'))
  · cases h

theorem ew_snd_iconst (j : Int) : ew_Snd (.iconst j) := by
  intro p l e R s m args below meth c D tc g Lo Q k pc nx a b z ps L S n M H locs cells slots cells2 slots2 ls pc2 L2 S2 n2 M2 F hR hS hl hok h hc1 hc2 hr1 hr2 kk
  obtain ⟨hx, hb, hml, hown, hts, hnm, hE, hfr, hlo⟩ := F
  obtain ⟨hd, rfl, hokI⟩ := ew_dec hok (n := 1) rfl (by decide)
  simp only [ew_stI] at h
  cases h
  obtain rfl : cells2 = cells := by simpa using hc1
  obtain rfl : slots2 = slots := by simpa using hc2
  have kk := kk H locs ls hR hS hl
  simp only [ew_okI, decide_eq_true_eq] at hokI
  exact lv_iconst hx hb hd hokI kk

theorem ew_snd_bipush (j : Int) : ew_Snd (.bipush j) := by
  intro p l e R s m args below meth c D tc g Lo Q k pc nx a b z ps L S n M H locs cells slots cells2 slots2 ls pc2 L2 S2 n2 M2 F hR hS hl hok h hc1 hc2 hr1 hr2 kk
  obtain ⟨hx, hb, hml, hown, hts, hnm, hE, hfr, hlo⟩ := F
  obtain ⟨hd, rfl, hokI⟩ := ew_dec hok (n := 2) rfl (by decide)
  simp only [ew_stI] at h
  cases h
  obtain rfl : cells2 = cells := by simpa using hc1
  obtain rfl : slots2 = slots := by simpa using hc2
  have kk := kk H locs ls hR hS hl
  simp only [ew_okI, decide_eq_true_eq] at hokI
  exact lv_bipush hx hb hd hokI kk

theorem ew_snd_sipush (j : Int) : ew_Snd (.sipush j) := by
  intro p l e R s m args below meth c D tc g Lo Q k pc nx a b z ps L S n M H locs cells slots cells2 slots2 ls pc2 L2 S2 n2 M2 F hR hS hl hok h hc1 hc2 hr1 hr2 kk
  obtain ⟨hx, hb, hml, hown, hts, hnm, hE, hfr, hlo⟩ := F
  obtain ⟨hd, rfl, hokI⟩ := ew_dec hok (n := 3) rfl (by decide)
  simp only [ew_stI] at h
  cases h
  obtain rfl : cells2 = cells := by simpa using hc1
  obtain rfl : slots2 = slots := by simpa using hc2
  have kk := kk H locs ls hR hS hl
  simp only [ew_okI, decide_eq_true_eq] at hokI
  exact lv_sipush hx hb hd hokI kk

theorem ew_snd_lconst (j : Fin 2) : ew_Snd (.lconst j) := by
  intro p l e R s m args below meth c D tc g Lo Q k pc nx a b z ps L S n M H locs cells slots cells2 slots2 ls pc2 L2 S2 n2 M2 F hR hS hl hok h hc1 hc2 hr1 hr2 kk
  obtain ⟨hx, hb, hml, hown, hts, hnm, hE, hfr, hlo⟩ := F
  obtain ⟨hd, rfl, hokI⟩ := ew_dec hok (n := 1) rfl (by decide)
  simp only [ew_stI] at h
  cases h
  obtain rfl : cells2 = cells := by simpa using hc1
  obtain rfl : slots2 = slots := by simpa using hc2
  have kk := kk H locs ls hR hS hl
  simp only [ew_okI, decide_eq_true_eq] at hokI
  exact lv_lconst hx hb hd hokI kk

theorem ew_snd_fconst (j : Fin 3) : ew_Snd (.fconst j) := by
  intro p l e R s m args below meth c D tc g Lo Q k pc nx a b z ps L S n M H locs cells slots cells2 slots2 ls pc2 L2 S2 n2 M2 F hR hS hl hok h hc1 hc2 hr1 hr2 kk
  obtain ⟨hx, hb, hml, hown, hts, hnm, hE, hfr, hlo⟩ := F
  obtain ⟨hd, rfl, hokI⟩ := ew_dec hok (n := 1) rfl (by decide)
  simp only [ew_stI] at h
  cases h
  obtain rfl : cells2 = cells := by simpa using hc1
  obtain rfl : slots2 = slots := by simpa using hc2
  have kk := kk H locs ls hR hS hl
  simp only [ew_okI, decide_eq_true_eq] at hokI
  simp only [List.map_cons, ew_cv] at kk
  rcases hokI with ⟨rfl, e⟩ | ⟨rfl, e⟩ | ⟨rfl, e⟩
  · rw [← e] at kk
    exact lv_fconst0 hx hb hd kk
  · rw [← e] at kk
    exact lv_fconst1 hx hb hd kk
  · rw [← e] at kk
    exact lv_fconst2 hx hb hd kk

theorem ew_snd_dconst (j : Fin 2) : ew_Snd (.dconst j) := by
  intro p l e R s m args below meth c D tc g Lo Q k pc nx a b z ps L S n M H locs cells slots cells2 slots2 ls pc2 L2 S2 n2 M2 F hR hS hl hok h hc1 hc2 hr1 hr2 kk
  obtain ⟨hx, hb, hml, hown, hts, hnm, hE, hfr, hlo⟩ := F
  obtain ⟨hd, rfl, hokI⟩ := ew_dec hok (n := 1) rfl (by decide)
  simp only [ew_stI] at h
  cases h
  obtain rfl : cells2 = cells := by simpa using hc1
  obtain rfl : slots2 = slots := by simpa using hc2
  have kk := kk H locs ls hR hS hl
  simp only [ew_okI, decide_eq_true_eq] at hokI
  simp only [List.map_cons, ew_cv] at kk
  rcases hokI with ⟨rfl, e⟩ | ⟨rfl, e⟩
  · rw [← e] at kk
    exact lv_dconst0 hx hb hd kk
  · rw [← e] at kk
    exact lv_dconst1 hx hb hd kk

theorem ew_snd_ldc (j : Nat) : ew_Snd (.ldc j) := by
  intro p l e R s m args below meth c D tc g Lo Q k pc nx a b z ps L S n M H locs cells slots cells2 slots2 ls pc2 L2 S2 n2 M2 F hR hS hl hok h hc1 hc2 hr1 hr2 kk
  obtain ⟨hx, hb, hml, hown, hts, hnm, hE, hfr, hlo⟩ := F
  obtain ⟨hd, rfl, hokI⟩ := ew_dec hok (n := 2) rfl (by decide)
  simp only [ew_stI] at h
  cases h
  obtain rfl : cells2 = cells := by simpa using hc1
  obtain rfl : slots2 = slots := by simpa using hc2
  have kk := kk H locs ls hR hS hl
  simp only [ew_okI, Bool.or_eq_true, Bool.and_eq_true, decide_eq_true_eq] at hokI
  rcases hokI with ⟨rfl, e⟩ | ⟨rfl, e⟩
  · exact lv_ldc hx hb hown (hts _ (ew_wd_of e)) hd kk
  · exact lv_ldcf hx hb hown (hts _ (ew_wd_of e)) hd kk

theorem ew_snd_ldc_w (j : Nat) : ew_Snd (.ldc_w j) := by
  intro p l e R s m args below meth c D tc g Lo Q k pc nx a b z ps L S n M H locs cells slots cells2 slots2 ls pc2 L2 S2 n2 M2 F hR hS hl hok h hc1 hc2 hr1 hr2 kk
  obtain ⟨hx, hb, hml, hown, hts, hnm, hE, hfr, hlo⟩ := F
  obtain ⟨hd, rfl, hokI⟩ := ew_dec hok (n := 3) rfl (by decide)
  simp only [ew_stI] at h
  cases h
  obtain rfl : cells2 = cells := by simpa using hc1
  obtain rfl : slots2 = slots := by simpa using hc2
  have kk := kk H locs ls hR hS hl
  simp only [ew_okI] at hokI
  exact lv_ldcw hx hb hown (hts _ (ew_wd_of hokI)) hd kk

theorem ew_snd_ldc2_w (j : Nat) : ew_Snd (.ldc2_w j) := by
  intro p l e R s m args below meth c D tc g Lo Q k pc nx a b z ps L S n M H locs cells slots cells2 slots2 ls pc2 L2 S2 n2 M2 F hR hS hl hok h hc1 hc2 hr1 hr2 kk
  obtain ⟨hx, hb, hml, hown, hts, hnm, hE, hfr, hlo⟩ := F
  obtain ⟨hd, rfl, hokI⟩ := ew_dec hok (n := 3) rfl (by decide)
  simp only [ew_stI] at h
  cases h
  obtain rfl : cells2 = cells := by simpa using hc1
  obtain rfl : slots2 = slots := by simpa using hc2
  have kk := kk H locs ls hR hS hl
  simp only [ew_okI, Bool.or_eq_true, Bool.and_eq_true, decide_eq_true_eq] at hokI
  rcases hokI with ⟨rfl, e⟩ | ⟨rfl, e⟩
  · exact lv_ldc2 hx hb hown (hts _ (ew_wd_of e)) hd kk
  · exact lv_ldc2d hx hb hown (hts _ (ew_wd_of e)) hd kk

theorem ew_snd_aconst_null  : ew_Snd (.aconst_null) := by
  intro p l e R s m args below meth c D tc g Lo Q k pc nx a b z ps L S n M H locs cells slots cells2 slots2 ls pc2 L2 S2 n2 M2 F hR hS hl hok h hc1 hc2 hr1 hr2 kk
  obtain ⟨hx, hb, hml, hown, hts, hnm, hE, hfr, hlo⟩ := F
  obtain ⟨hd, rfl, hokI⟩ := ew_dec hok (n := 1) rfl (by decide)
  simp only [ew_stI] at h
  cases h
  obtain rfl : cells2 = cells := by simpa using hc1
  obtain rfl : slots2 = slots := by simpa using hc2
  have kk := kk H locs ls hR hS hl
  exact lv_null hx hb hd kk

theorem ew_snd_dup  : ew_Snd (.dup) := by
  intro p l e R s m args below meth c D tc g Lo Q k pc nx a b z ps L S n M H locs cells slots cells2 slots2 ls pc2 L2 S2 n2 M2 F hR hS hl hok h hc1 hc2 hr1 hr2 kk
  obtain ⟨hx, hb, hml, hown, hts, hnm, hE, hfr, hlo⟩ := F
  obtain ⟨hd, rfl, hokI⟩ := ew_dec hok (n := 1) rfl (by decide)
  simp only [ew_stI] at h
  split at h
  · cases h
    obtain rfl : cells2 = cells := by simpa using hc1
    obtain rfl : slots2 = slots := by simpa using hc2
    exact lv_dup hx hb hd rfl (kk H locs ls hR hS hl)
  · rename_i v S
    cases h
    obtain rfl : cells2 = cells := by simpa using hc1
    obtain rfl : slots2 = slots := by simpa using hc2
    have hcat : (ew_cv g (2, v)).category = 1 := by
      simp only [ew_cv, ew_rf]
      split <;> rfl
    exact lv_dup hx hb hd hcat (kk H locs ls hR hS hl)
  · cases h

theorem ew_snd_pop  : ew_Snd (.pop) := by
  intro p l e R s m args below meth c D tc g Lo Q k pc nx a b z ps L S n M H locs cells slots cells2 slots2 ls pc2 L2 S2 n2 M2 F hR hS hl hok h hc1 hc2 hr1 hr2 kk
  obtain ⟨hx, hb, hml, hown, hts, hnm, hE, hfr, hlo⟩ := F
  obtain ⟨hd, rfl, hokI⟩ := ew_dec hok (n := 1) rfl (by decide)
  simp only [ew_stI] at h
  split at h
  · cases h
    obtain rfl : cells2 = cells := by simpa using hc1
    obtain rfl : slots2 = slots := by simpa using hc2
    exact lv_pop hx hb hd rfl (kk H locs ls hR hS hl)
  · rename_i v S
    cases h
    obtain rfl : cells2 = cells := by simpa using hc1
    obtain rfl : slots2 = slots := by simpa using hc2
    have hcat : (ew_cv g (2, v)).category = 1 := by
      simp only [ew_cv, ew_rf]
      split <;> rfl
    exact lv_pop hx hb hd hcat (kk H locs ls hR hS hl)
  · cases h

theorem ew_snd_goto (o : Int) : ew_Snd (.goto o) := by
  intro p l e R s m args below meth c D tc g Lo Q k pc nx a b z ps L S n M H locs cells slots cells2 slots2 ls pc2 L2 S2 n2 M2 F hR hS hl hok h hc1 hc2 hr1 hr2 kk
  obtain ⟨hx, hb, hml, hown, hts, hnm, hE, hfr, hlo⟩ := F
  obtain ⟨hd, rfl, hokI⟩ := ew_dec hok (n := 3) rfl (by decide)
  simp only [ew_stI] at h
  simp only [ew_okI, decide_eq_true_eq] at hokI
  cases h
  obtain rfl : cells2 = cells := by simpa using hc1
  obtain rfl : slots2 = slots := by simpa using hc2
  exact lv_goto hx hb hd hokI (kk H locs ls hR hS hl)

theorem ew_snd_if_icmp (cd : Jvm.ClassFile.Cond) (o : Int) : ew_Snd (.if_icmp cd o) := by
  intro p l e R s m args below meth c D tc g Lo Q k pc nx a b z ps L S n M H locs cells slots cells2 slots2 ls pc2 L2 S2 n2 M2 F hR hS hl hok h hc1 hc2 hr1 hr2 kk
  obtain ⟨hx, hb, hml, hown, hts, hnm, hE, hfr, hlo⟩ := F
  obtain ⟨hd, rfl, hokI⟩ := ew_dec hok (n := 3) rfl (by decide)
  simp only [ew_stI] at h
  simp only [ew_okI, decide_eq_true_eq] at hokI
  split at h
  · cases h
    obtain rfl : cells2 = cells := by simpa using hc1
    obtain rfl : slots2 = slots := by simpa using hc2
    have kk := kk H locs ls hR hS hl
    cases cd
    · refine lv_icmp_eq hx hb hd hokI (fun hP => ?_) (fun hP => ?_)
      · simpa [ew_cn, hP] using kk
      · simpa [ew_cn, hP] using kk
    · refine lv_icmp_ne hx hb hd hokI (fun hP => ?_) (fun hP => ?_)
      · simpa [ew_cn, hP] using kk
      · simpa [ew_cn, hP] using kk
    · refine lv_icmp_lt hx hb hd hokI (fun hP => ?_) (fun hP => ?_)
      · simpa [ew_cn, hP] using kk
      · simpa [ew_cn, hP] using kk
    · refine lv_icmp_ge hx hb hd hokI (fun hP => ?_) (fun hP => ?_)
      · simpa [ew_cn, hP] using kk
      · simpa [ew_cn, hP] using kk
    · refine lv_icmp_gt hx hb hd hokI (fun hP => ?_) (fun hP => ?_)
      · simpa [ew_cn, hP] using kk
      · simpa [ew_cn, hP] using kk
    · refine lv_icmp_le hx hb hd hokI (fun hP => ?_) (fun hP => ?_)
      · simpa [ew_cn, hP] using kk
      · simpa [ew_cn, hP] using kk
  · cases h

theorem ew_snd_ifCond (cd : Jvm.ClassFile.Cond) (o : Int) : ew_Snd (.ifCond cd o) := by
  intro p l e R s m args below meth c D tc g Lo Q k pc nx a b z ps L S n M H locs cells slots cells2 slots2 ls pc2 L2 S2 n2 M2 F hR hS hl hok h hc1 hc2 hr1 hr2 kk
  obtain ⟨hx, hb, hml, hown, hts, hnm, hE, hfr, hlo⟩ := F
  obtain ⟨hd, rfl, hokI⟩ := ew_dec hok (n := 3) rfl (by decide)
  simp only [ew_stI] at h
  simp only [ew_okI, decide_eq_true_eq] at hokI
  split at h
  · cases h
    obtain rfl : cells2 = cells := by simpa using hc1
    obtain rfl : slots2 = slots := by simpa using hc2
    have kk := kk H locs ls hR hS hl
    cases cd
    · refine lv_if_eq hx hb hd hokI (fun hP => ?_) (fun hP => ?_)
      · simpa [ew_cn, hP] using kk
      · simpa [ew_cn, hP] using kk
    · refine lv_if_ne hx hb hd hokI (fun hP => ?_) (fun hP => ?_)
      · simpa [ew_cn, hP] using kk
      · simpa [ew_cn, hP] using kk
    · refine lv_if_lt hx hb hd hokI (fun hP => ?_) (fun hP => ?_)
      · simpa [ew_cn, hP] using kk
      · simpa [ew_cn, hP] using kk
    · refine lv_if_ge hx hb hd hokI (fun hP => ?_) (fun hP => ?_)
      · simpa [ew_cn, hP] using kk
      · simpa [ew_cn, hP] using kk
    · refine lv_if_gt hx hb hd hokI (fun hP => ?_) (fun hP => ?_)
      · simpa [ew_cn, hP] using kk
      · simpa [ew_cn, hP] using kk
    · refine lv_if_le hx hb hd hokI (fun hP => ?_) (fun hP => ?_)
      · simpa [ew_cn, hP] using kk
      · simpa [ew_cn, hP] using kk
  · cases h

theorem ew_snd_ifnull (o : Int) : ew_Snd (.ifnull o) := by
  intro p l e R s m args below meth c D tc g Lo Q k pc nx a b z ps L S n M H locs cells slots cells2 slots2 ls pc2 L2 S2 n2 M2 F hR hS hl hok h hc1 hc2 hr1 hr2 kk
  obtain ⟨hx, hb, hml, hown, hts, hnm, hE, hfr, hlo⟩ := F
  obtain ⟨hd, rfl, hokI⟩ := ew_dec hok (n := 3) rfl (by decide)
  simp only [ew_stI] at h
  simp only [ew_okI, decide_eq_true_eq] at hokI
  split at h
  · rename_i v S
    cases h
    obtain rfl : cells2 = cells := by simpa using hc1
    obtain rfl : slots2 = slots := by simpa using hc2
    have kk := kk H locs ls hR hS hl
    simp only [List.map_cons, ew_cv, ew_rf]
    by_cases hz : v ≤ 0
    · rw [if_pos hz] at kk ⊢
      exact lv_ifnullN hx hb hd hokI kk
    · rw [if_neg hz] at kk ⊢
      exact lv_ifnull hx hb hd kk
  · cases h

theorem ew_snd_ifnonnull (o : Int) : ew_Snd (.ifnonnull o) := by
  intro p l e R s m args below meth c D tc g Lo Q k pc nx a b z ps L S n M H locs cells slots cells2 slots2 ls pc2 L2 S2 n2 M2 F hR hS hl hok h hc1 hc2 hr1 hr2 kk
  obtain ⟨hx, hb, hml, hown, hts, hnm, hE, hfr, hlo⟩ := F
  obtain ⟨hd, rfl, hokI⟩ := ew_dec hok (n := 3) rfl (by decide)
  simp only [ew_stI] at h
  simp only [ew_okI, decide_eq_true_eq] at hokI
  split at h
  · rename_i v S
    cases h
    obtain rfl : cells2 = cells := by simpa using hc1
    obtain rfl : slots2 = slots := by simpa using hc2
    have kk := kk H locs ls hR hS hl
    simp only [List.map_cons, ew_cv, ew_rf]
    by_cases hz : v ≤ 0
    · rw [if_pos hz] at kk ⊢
      exact lv_ifnonnullN hx hb hd kk
    · rw [if_neg hz] at kk ⊢
      exact lv_ifnonnull hx hb hd hokI kk
  · cases h

theorem ew_snd_tableswitch (d lo hi : Int) (offs : Array Int) : ew_Snd (.tableswitch d lo hi offs) := by
  intro p l e R s m args below meth c D tc g Lo Q k pc nx a b z ps L S n M H locs cells slots cells2 slots2 ls pc2 L2 S2 n2 M2 F hR hS hl hok h hc1 hc2 hr1 hr2 kk
  obtain ⟨hx, hb, hml, hown, hts, hnm, hE, hfr, hlo⟩ := F
  obtain ⟨len, hd, hokI⟩ := ew_decS hok rfl
  simp only [ew_stI] at h
  simp only [ew_okI, decide_eq_true_eq] at hokI
  split at h
  · split at h
    · rename_i hq
      cases h
      obtain rfl : cells2 = cells := by simpa using hc1
      obtain rfl : slots2 = slots := by simpa using hc2
      exact lv_tableOut hx hb hd hq hokI (kk H locs ls hR hS hl)
    · rename_i hq
      split at h
      · rename_i o ho
        split at h
        · rename_i h0
          cases h
          obtain rfl : cells2 = cells := by simpa using hc1
          obtain rfl : slots2 = slots := by simpa using hc2
          exact lv_tableIn hx hb hd (fun z => hq (Or.inl z)) (fun z => hq (Or.inr z)) ho (by omega) (kk H locs ls hR hS hl)
        · cases h
      · cases h
  · cases h

theorem ew_snd_lookupswitch (d : Int) (pr : Array (Int × Int)) : ew_Snd (.lookupswitch d pr) := by
  intro p l e R s m args below meth c D tc g Lo Q k pc nx a b z ps L S n M H locs cells slots cells2 slots2 ls pc2 L2 S2 n2 M2 F hR hS hl hok h hc1 hc2 hr1 hr2 kk
  obtain ⟨hx, hb, hml, hown, hts, hnm, hE, hfr, hlo⟩ := F
  obtain ⟨len, hd, hokI⟩ := ew_decS hok rfl
  simp only [ew_stI] at h
  simp only [ew_okI] at hokI
  split at h
  · split at h
    · rename_i h0
      cases h
      obtain rfl : cells2 = cells := by simpa using hc1
      obtain rfl : slots2 = slots := by simpa using hc2
      exact lv_lookup hx hb hd hokI rfl (by omega) (kk H locs ls hR hS hl)
    · cases h
  · cases h

