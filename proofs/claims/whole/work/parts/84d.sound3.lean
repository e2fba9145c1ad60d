/-! soundness: fields, arrays, new cells -/
theorem ew_cl_at : ∀ t, t < 9 → ew_cl[t]? = some (ew_R t, ew_T t, ew_fn t) := by
  intro t ht
  match t, ht with
  | 0, _ => rfl
  | 1, _ => rfl
  | 2, _ => rfl
  | 3, _ => rfl
  | 4, _ => rfl
  | 5, _ => rfl
  | 6, _ => rfl
  | 7, _ => rfl
  | 8, _ => rfl
  | t + 9, h => omega
theorem ew_zip_W {ws : List Cond} {ps : List Nat} {n : Nat} (h : (List.zip ws ps).all (fun (q : Cond × Nat) => decide (lw_tbl[q.2]? = some q.1) && goodWord q.1) = true) (hl : ws.length = n) (hp : ps.length = n) : ∀ w ∈ ws, w ∈ ew_W := by
  intro w hw
  obtain ⟨i, hi⟩ := List.getElem?_of_mem hw
  have h1 : i < ws.length := (List.getElem?_eq_some_iff.mp hi).1
  have h2 : i < ps.length := by omega
  have h3 : (List.zip ws ps)[i]? = some (w, ps[i]) := by
    rw [List.getElem?_zip_eq_some]
    exact ⟨hi, List.getElem?_eq_getElem h2⟩
  have h4 := List.all_eq_true.mp h _ (List.mem_of_getElem? h3)
  simp only [Bool.and_eq_true, decide_eq_true_eq] at h4
  exact ew_W_of h4.1 h4.2
theorem ew_win : ∀ t, t < 9 → ∀ w ∈ u_ws (ew_R t) (ew_T t) (ew_fn t), w ∈ ew_W := by
  intro t ht
  match t, ht with
  | 0, _ => exact ew_zip_W ew_lay_0.1 ew_lay_0.2 rfl
  | 1, _ => exact ew_zip_W ew_lay_1.1 ew_lay_1.2 rfl
  | 2, _ => exact ew_zip_W ew_lay_2.1 ew_lay_2.2 rfl
  | 3, _ => exact ew_zip_W ew_lay_3.1 ew_lay_3.2 rfl
  | 4, _ => exact ew_zip_W ew_lay_4.1 ew_lay_4.2 rfl
  | 5, _ => exact ew_zip_W ew_lay_5.1 ew_lay_5.2 rfl
  | 6, _ => exact ew_zip_W ew_lay_6.1 ew_lay_6.2 rfl
  | 7, _ => exact ew_zip_W ew_lay_7.1 ew_lay_7.2 rfl
  | 8, _ => exact ew_zip_W ew_lay_8.1 ew_lay_8.2 rfl
  | t + 9, h => omega
theorem ew_tyok : ∀ t, t < 9 → ∀ k, k < ew_fn t → parseFieldDescriptor (ew_T t k).2.2.1 = some (ew_ty t k) := by
  intro t ht
  match t, ht with
  | 0, _ => exact tyX0_ok
  | 1, _ => exact tyX1_ok
  | 2, _ => exact tyX2_ok
  | 3, _ => exact tyX3_ok
  | 4, _ => exact tyX4_ok
  | 5, _ => exact tyX5_ok
  | 6, _ => exact tyX6_ok
  | 7, _ => exact tyX7_ok
  | 8, _ => exact tyX8_ok
  | t + 9, h => omega
theorem ew_nmok : ∀ t, t < 9 → ∀ a, a < ew_fn t → ∀ b, b < ew_fn t → a ≠ b → (ew_T t a).2.1 ≠ (ew_T t b).2.1 := by
  intro t ht
  match t, ht with
  | 0, _ => exact nmX0
  | 1, _ => exact nmX1
  | 2, _ => exact nmX2
  | 3, _ => exact nmX3
  | 4, _ => exact nmX4
  | 5, _ => exact nmX5
  | 6, _ => exact nmX6
  | 7, _ => exact nmX7
  | 8, _ => exact nmX8
  | t + 9, h => omega
theorem ew_tag_ge {a : Nat} (h : 59 ≤ a) : ew_tag a = (6, 5) := by
  have hl : ew_tags.length = 59 := by decide +kernel
  simp [ew_tag, List.getD, List.getElem?_eq_none (show ew_tags.length ≤ a by omega)]
theorem ew_tag_lo : ∀ a, a < 59 → ((ew_tag a).1 < 20 → (ew_tag a).1 < 9 ∧ (ew_tag a).2 = ew_fn (ew_tag a).1) ∧ ((ew_tag a).1 < 20 ∨ (ew_tag a).1 = 20 ∨ (ew_tag a).1 = 21 ∨ (ew_tag a).1 = 22 ∨ (ew_tag a).1 = 23 ∨ (ew_tag a).1 = 24 ∨ a = 0) ∧ (ew_tag a).2 ≤ 2000 := by decide +kernel
theorem ew_tag_obj {a : Nat} (h : (ew_tag a).1 < 20) : (ew_tag a).1 < 9 ∧ (ew_tag a).2 = ew_fn (ew_tag a).1 := by
  rcases Nat.lt_or_ge a 59 with h1 | h1
  · exact (ew_tag_lo a h1).1 h
  · rw [ew_tag_ge h1]; decide
theorem ew_tag_arr {a : Nat} (h0 : 1 ≤ a) (h : ¬ (ew_tag a).1 < 20) : (ew_tag a).1 = 20 ∨ (ew_tag a).1 = 21 ∨ (ew_tag a).1 = 22 ∨ (ew_tag a).1 = 23 ∨ (ew_tag a).1 = 24 := by
  rcases Nat.lt_or_ge a 59 with h1 | h1
  · have := (ew_tag_lo a h1).2.1
    omega
  · rw [ew_tag_ge h1] at h; exact absurd (by decide) h
theorem ew_tag_len (a : Nat) : (ew_tag a).2 ≤ 2000 := by
  rcases Nat.lt_or_ge a 59 with h1 | h1
  · exact (ew_tag_lo a h1).2.2
  · rw [ew_tag_ge h1]; decide
theorem ew_ph_ge (g : ew_G) {a : Nat} (h : 4 ≤ a) : ew_ph g a = g.2.2.2 + (a - 4) := by
  unfold ew_ph
  rw [if_neg (by omega), if_neg (by omega), if_neg (by omega)]
theorem ew_rf_pos {g : ew_G} {o : Int} (h : 1 ≤ o.toNat) : ew_rf g o = .ref (ew_ph g o.toNat) := by
  unfold ew_rf
  rw [if_neg (by omega)]
theorem ew_len_ge {M : ew_Mem} {a : Nat} (h : 4 ≤ a) : ew_len M a = (ew_tag a).2 := by
  unfold ew_len
  rw [if_neg (by omega)]
theorem ew_at_kept {D : va_G} {tc : Nat → ClassId} {g : ew_G} {M M' : ew_Mem} {a : Nat} {H H' : Heap} (h : ew_at D tc g M a H) (hq : H'[ew_ph g a]? = H[ew_ph g a]?) (hm : M' a = M a) : ew_at D tc g M' a H' := by
  unfold ew_at at h ⊢
  rw [hm]
  split at h
  · rename_i h1
    rw [if_pos h1]
    exact h.kept hq
  · rename_i h1
    rw [if_neg h1, hq]
    exact h
theorem ew_Rel_put {D : va_G} {tc : Nat → ClassId} {g : ew_G} {Lo M : ew_Mem} {n A i : Nat} {v : Int} {H H' : Heap} (h : ew_Rel D tc g Lo n M H) (hA : 4 ≤ A) (z : H'.size = H.size) (oq : ∀ q : Nat, q ≠ ew_ph g A → H'[q]? = H[q]?) (ha : ew_at D tc g (ew_wr M A i v) A H') : ew_Rel D tc g Lo n (ew_wr M A i v) H' := by
  refine ⟨h.1, z.trans h.2.1, fun a h4 hn => ?_, fun a h4 => ?_⟩
  · by_cases hq : a = A
    · subst hq; exact ha
    · refine ew_at_kept (h.2.2.1 a h4 hn) (oq _ ?_) (funext fun j => by simp [ew_wr, hq])
      rw [ew_ph_ge g h4, ew_ph_ge g hA]
      omega
  · rw [← h.2.2.2 a h4]
    funext j
    simp [ew_wr, show a ≠ A by omega]
theorem ew_Rel_new {D : va_G} {tc : Nat → ClassId} {g : ew_G} {Lo M : ew_Mem} {n : Nat} {H H' : Heap} (h : ew_Rel D tc g Lo n M H) (z : H'.size = H.size + 1) (oq : ∀ q : Nat, q < H.size → H'[q]? = H[q]?) (ha : ew_at D tc g (ew_clr M n) n H') : ew_Rel D tc g Lo (n + 1) (ew_clr M n) H' := by
  have h4 := h.1
  refine ⟨by omega, by rw [z, h.2.1]; omega, fun a h4a hn => ?_, fun a h4a => ?_⟩
  · by_cases hq : a = n
    · subst hq; exact ha
    · refine ew_at_kept (h.2.2.1 a h4a (by omega)) (oq _ ?_) (funext fun j => by simp [ew_clr, hq])
      rw [ew_ph_ge g h4a, h.2.1]
      omega
  · rw [← h.2.2.2 a h4a]
    funext j
    simp [ew_clr, show a ≠ n by omega]
theorem ew_ph_new {D : va_G} {tc : Nat → ClassId} {g : ew_G} {Lo M : ew_Mem} {n : Nat} {H : Heap} (h : ew_Rel D tc g Lo n M H) : ew_ph g n = H.size := by
  rw [ew_ph_ge g h.1, h.2.1]
theorem ew_S_new {A : Nat → Prop} {H0 H H' : Heap} {locs : List Loc} (h : va_S A H0 H locs) (z : H'.size = H.size + 1) (oq : ∀ q : Nat, q < H.size → H'[q]? = H[q]?) : va_S A H0 H' locs :=
  ⟨Nat.le_trans h.1 (by omega), fun x h1 h2 => (oq x (Nat.lt_of_lt_of_le h1 h.1)).trans (h.2.1 x h1 h2), h.2.2⟩
theorem ew_own_of {t : Nat} {o : Int} {n : Nat} (h : ew_own t o n = true) : 4 ≤ o.toNat ∧ o.toNat < n ∧ (ew_tag o.toNat).1 = t := by
  simp only [ew_own, Bool.and_eq_true, decide_eq_true_eq] at h
  exact h
theorem ew_ok_of {t : Nat} {o : Int} {n : Nat} (h : ew_ok t o n = true) : 1 ≤ o.toNat ∧ o.toNat < n ∧ (ew_tag o.toNat).1 = t := by
  simp only [ew_ok, Bool.and_eq_true, decide_eq_true_eq] at h
  exact h
theorem ew_inb_in {i : Int} {N : Nat} (h : ew_inb i N = true) (hN : N < 2 ^ 31) : vp_in (ew_i i) N ∧ (ew_i i).toNatClampNeg = i.toNat := by
  simp only [ew_inb, Bool.and_eq_true, decide_eq_true_eq] at h
  have h1 : (ew_i i).toInt = i := Int32.toInt_ofInt_of_le (by omega) (by omega)
  exact ⟨vp_in_iff.mpr ⟨by rw [h1]; exact h.1, by rw [h1]; exact h.2⟩, by unfold Int32.toNatClampNeg; rw [h1]⟩
/-- an object of the small machine's heap, in the real one -/
theorem ew_at_obj {D : va_G} {tc : Nat → ClassId} {g : ew_G} {M : ew_Mem} {A t : Nat} {H : Heap} (h : ew_at D tc g M A H) (ht : (ew_tag A).1 = t) (h9 : t < 9) : t_OB (ew_ph g A) (D.1 t) (ew_fn t) (D.2 t) H (fun i => ew_cv g (ew_fk t i, M A i)) := by
  unfold ew_at at h
  rw [if_pos (by omega), (ew_tag_obj (by omega)).2, ht] at h
  exact h
theorem ew_at_arr {D : va_G} {tc : Nat → ClassId} {g : ew_G} {M : ew_Mem} {A t : Nat} {H : Heap} (h : ew_at D tc g M A H) (ht : (ew_tag A).1 = t) (h9 : 20 ≤ t) : H[ew_ph g A]? = some (arrV (tc t) (ew_tag A).2 (fun j => ew_cv g (ew_ek t, M A j))) := by
  unfold ew_at at h
  rw [if_neg (by omega), ht] at h
  exact h
theorem ew_at_of_arr {D : va_G} {tc : Nat → ClassId} {g : ew_G} {M : ew_Mem} {A t : Nat} {H : Heap} (ht : (ew_tag A).1 = t) (h9 : 20 ≤ t) (h : H[ew_ph g A]? = some (arrV (tc t) (ew_tag A).2 (fun j => ew_cv g (ew_ek t, M A j)))) : ew_at D tc g M A H := by
  unfold ew_at
  rw [if_neg (by omega), ht]
  exact h
theorem ew_at_of_obj {D : va_G} {tc : Nat → ClassId} {g : ew_G} {M : ew_Mem} {A t : Nat} {H : Heap} (ht : (ew_tag A).1 = t) (h9 : t < 9) (h : t_OB (ew_ph g A) (D.1 t) (ew_fn t) (D.2 t) H (fun i => ew_cv g (ew_fk t i, M A i))) : ew_at D tc g M A H := by
  unfold ew_at
  rw [if_pos (by omega), (ew_tag_obj (by omega)).2, ht]
  exact h
theorem ew_upd {g : ew_G} {M : ew_Mem} {A i kd : Nat} {v : Int} {kf : Nat → Nat} (hk : kf i = kd) : (fun j => ew_cv g (kf j, ew_wr M A i v A j)) = updV (fun j => ew_cv g (kf j, M A j)) i (ew_cv g (kd, v)) := by
  funext j
  by_cases hj : j = i
  · subst hj
    simp [ew_wr, updV, hk]
  · simp [ew_wr, updV, hj]

theorem ew_snd_getfield (i : Nat) : ew_Snd (.getfield i) := by
  intro p l e R s m args below meth c D tc g Lo Q k pc nx a b z ps L S n M H locs cells slots cells2 slots2 ls pc2 L2 S2 n2 M2 F hR hS hl hok h hc1 hc2 hr1 hr2 kk
  obtain ⟨hx, hb, hml, hown, hts, hnm, hE, hfr, hlo⟩ := F
  obtain ⟨hd, rfl, hokI⟩ := ew_dec hok (n := 3) rfl (by decide)
  simp only [ew_stI] at h
  simp only [ew_okI, Bool.and_eq_true, decide_eq_true_eq] at hokI
  obtain ⟨hw, ha9, hbn, hT, hz⟩ := hokI
  split at h
  · rename_i o Sx
    split at h
    · rename_i ho
      simp only [Option.some.injEq, Sum.inl.injEq, Prod.mk.injEq] at h
      obtain ⟨rfl, rfl, rfl, rfl, rfl⟩ := h
      obtain rfl : cells2 = cells := by simpa using hc1
      obtain rfl : slots2 = slots := by simpa using hc2
      obtain ⟨ho4, hon, hot⟩ := ew_own_of ho
      obtain ⟨cell, q1, q2, q3, q4⟩ := ew_at_obj (hR.2.2.1 _ ho4 hon) hot ha9
      obtain ⟨hSl, hfc, kC, hkC, hkind⟩ := hE.1.1 a _ (ew_cl_at a ha9)
      obtain ⟨cf, kf, fi, f, hi, hsl⟩ := hSl b hbn
      have kk := kk H locs ls hR hS hl
      simp only [List.map_cons, ew_cv] at kk ⊢
      rw [ew_rf_pos (by omega)]
      refine W.getf hx hb hown (hts _ (ew_wd_of hw)) (by rw [hT] at hi; exact hi) (u_facts hfc hkC (u_lays hts (ew_win a ha9) hbn) hi).1 q1 (by rw [q3]; exact fun h => by cases h) (v := ew_cv g (ew_fk a b, M o.toNat b)) (by rw [hsl]; exact q4 b hbn) rfl rfl hd ?_
      rw [hz] at kk
      exact kk
    · cases h
  · cases h

theorem ew_fit {a b : Nat} {z : Int} {t : Nat} {v : Int} {g : ew_G} (hz : (z = 5 ∧ ew_ty a b = .boolean) ∨ (z = 0 ∧ ew_ty a b = .int) ∨ (z = 2 ∧ ew_isO (some (ew_ty a b)) = true)) (h : (z = 5 ∧ t = 0 ∧ (v = 0 ∨ v = 1)) ∨ (z = 0 ∧ t = 0) ∨ (z = 2 ∧ t = 2)) : narrow (ew_ty a b) (ew_cv g (t, v)) = ew_cv g (t, v) ∧ fits (ew_ty a b) (ew_cv g (t, v)) = true ∧ ew_fk a b = t := by
  rcases h with ⟨h1, rfl, h3⟩ | ⟨h1, rfl⟩ | ⟨h1, rfl⟩
  · have ht : ew_ty a b = .boolean := by
      rcases hz with ⟨_, h⟩ | ⟨h, _⟩ | ⟨h, _⟩
      · exact h
      · omega
      · omega
    rcases h3 with rfl | rfl
    · refine ⟨?_, ?_, ?_⟩
      · rw [ht]; show narrow .boolean (.int (ew_i 0)) = .int (ew_i 0); decide +kernel
      · rw [ht]; rfl
      · simp only [ew_fk, ht, ew_kd]
    · refine ⟨?_, ?_, ?_⟩
      · rw [ht]; show narrow .boolean (.int (ew_i 1)) = .int (ew_i 1); decide +kernel
      · rw [ht]; rfl
      · simp only [ew_fk, ht, ew_kd]
  · have ht : ew_ty a b = .int := by
      rcases hz with ⟨h, _⟩ | ⟨_, h⟩ | ⟨h, _⟩
      · omega
      · exact h
      · omega
    exact ⟨by rw [ht]; rfl, by rw [ht]; rfl, by simp only [ew_fk, ht, ew_kd]⟩
  · have ht : ew_isO (some (ew_ty a b)) = true := by
      rcases hz with ⟨h, _⟩ | ⟨h, _⟩ | ⟨_, h⟩
      · omega
      · omega
      · exact h
    cases hty : ew_ty a b with
    | object C =>
      refine ⟨by simp only [ew_cv, ew_rf]; split <;> rfl, by simp only [ew_cv, ew_rf]; split <;> rfl, by simp only [ew_fk, hty, ew_kd]⟩
    | array C =>
      refine ⟨by simp only [ew_cv, ew_rf]; split <;> rfl, by simp only [ew_cv, ew_rf]; split <;> rfl, by simp only [ew_fk, hty, ew_kd]⟩
    | _ => rw [hty] at ht; cases ht

theorem ew_snd_putfield (i : Nat) : ew_Snd (.putfield i) := by
  intro p l e R s m args below meth c D tc g Lo Q k pc nx a b z ps L S n M H locs cells slots cells2 slots2 ls pc2 L2 S2 n2 M2 F hR hS hl hok h hc1 hc2 hr1 hr2 kk
  obtain ⟨hx, hb, hml, hown, hts, hnm, hE, hfr, hlo⟩ := F
  obtain ⟨hd, rfl, hokI⟩ := ew_dec hok (n := 3) rfl (by decide)
  simp only [ew_stI] at h
  simp only [ew_okI, Bool.and_eq_true, decide_eq_true_eq, Bool.or_eq_true, Bool.not_eq_true'] at hokI
  obtain ⟨hw, ha9, hbn, hT, hz, hfin⟩ := hokI
  split at h
  · rename_i t v o Sx
    split at h
    · rename_i hq
      simp only [Option.some.injEq, Sum.inl.injEq, Prod.mk.injEq] at h
      obtain ⟨rfl, rfl, rfl, rfl, rfl⟩ := h
      obtain rfl : cells2 = cells := by simpa using hc1
      obtain rfl : slots2 = slots := by simpa using hc2
      obtain ⟨ho, hq⟩ := hq
      obtain ⟨hn1, hf1, hk1⟩ := ew_fit (g := g) hz hq
      obtain ⟨ho4, hon, hot⟩ := ew_own_of ho
      obtain ⟨cell, q1, q2, q3, q4⟩ := ew_at_obj (hR.2.2.1 _ ho4 hon) hot ha9
      have hap := va_apart (own := ew_cls k) hts (ew_win a ha9) (ew_ty a) (ew_tyok a ha9) (ew_nmok a ha9) hE.1 (ew_cl_at a ha9)
      obtain ⟨hSl, hfc, kC, hkC, hkind⟩ := hE.1.1 a _ (ew_cl_at a ha9)
      obtain ⟨cf, kf, fi, f, hi, hsl⟩ := hSl b hbn
      have hst := (u_facts hfc hkC (u_lays hts (ew_win a ha9) hbn) hi).1
      have hlay := hts _ (ew_win a ha9 _ (u_in_lay hbn))
      have hi' := hi
      rw [hT] at hi'
      have key : ∀ H' : Heap, H'[ew_ph g o.toNat]? = some (cell.setSlot f.slot (ew_cv g (t, v))) → H'.size = H.size → (∀ q : Nat, q ≠ ew_ph g o.toNat → H'[q]? = H[q]?) → W p l e R s m args below meth c H' (locs ++ [⟨ew_ph g o.toNat, f.slot⟩]) cells2 slots2 Q (F0 m (pc + 3) ls (List.map (ew_cv g) Sx)) := by
        intro H' e1 e2 e3
        rw [hsl] at e1
        refine kk H' _ ls (ew_Rel_put hR ho4 e2 e3 (ew_at_of_obj hot ha9 ?_)) (hS.put e2 e3 ?_) hl
        · rw [ew_upd (kf := ew_fk a) hk1]
          exact ⟨_, e1, q2, q3, t_set q4 hap hbn _⟩
        · show g.2.2.2 ≤ _
          rw [ew_ph_ge g ho4]; omega
      simp only [List.map_cons]
      rw [show ew_cv g (2, o) = Value.ref (ew_ph g o.toNat) from ew_rf_pos (by omega)]
      unfold u_lay at hlay
      cases hff : (ew_T a b).2.2.2 with
      | false =>
        rw [if_neg (by rw [hff]; decide)] at hlay
        have h6 := u_store hfc hkC hkind hlay hi (ew_tyok a ha9 b hbn) hn1 hf1
        exact W.putK hx hb (f := f) ⟨hown, hts _ (ew_wd_of hw), ⟨_, _, _, hi'⟩, hst⟩ (by rw [q2]; exact h6) q1 q3 (by rw [hsl]; exact k2_hasslot (q4 b hbn)) rfl rfl hd key
      | true =>
        rw [if_pos hff] at hlay
        rcases hfin with hfin | hfin
        · rw [hff] at hfin; cases hfin
        have hcf : m.cls = cf := by
          obtain ⟨_, _, c', _, _, _, -, -, hf', -, -, -, hown2, -⟩ := Cond.laysFinal_spec hlay
          have e1 : c' = cf := by have := hi.symm.trans hf'; simp at this; exact this.1.symm
          rw [hfin.2] at hown2
          rw [← e1]; exact Option.some.inj (hown.symm.trans hown2)
        have h6 := u_fits hfc hkC hkind (Or.inr hlay) hi (ew_tyok a ha9 b hbn) hn1 hf1
        exact W.putFinK hx hb hown (hts _ (ew_wd_of hw)) hi' hst hcf (hnm.trans hfin.1) (by rw [q2]; exact h6) q1 q3 (by rw [hsl]; exact k2_hasslot (q4 b hbn)) rfl rfl hd key
    · cases h
  · cases h

theorem ew_snd_getstatic (i : Nat) : ew_Snd (.getstatic i) := by
  intro p l e R s m args below meth c D tc g Lo Q k pc nx a b z ps L S n M H locs cells slots cells2 slots2 ls pc2 L2 S2 n2 M2 F hR hS hl hok h hc1 hc2 hr1 hr2 kk
  obtain ⟨hx, hb, hml, hown, hts, hnm, hE, hfr, hlo⟩ := F
  obtain ⟨hd, rfl, hokI⟩ := ew_dec hok (n := 3) rfl (by decide)
  simp only [ew_stI] at h
  simp only [ew_okI, Bool.or_eq_true, Bool.and_eq_true, decide_eq_true_eq] at hokI
  simp only [Option.some.injEq, Sum.inl.injEq, Prod.mk.injEq] at h
  obtain ⟨rfl, rfl, rfl, rfl, rfl⟩ := h
  obtain rfl : cells2 = cells := by simpa using hc1
  obtain rfl : slots2 = slots := by simpa using hc2
  have kk := kk H locs ls hR hS hl
  rcases hokI with ⟨rfl, e1⟩ | ⟨rfl, e1⟩
  · exact va_gets hx hb hE.2.2.2.2.2.1 hS hown (hts _ (ew_wd_of e1)) (fun _ h => h) hd kk
  · exact va_gets hx hb hE.2.2.2.2.2.2.1 hS hown (hts _ (ew_wd_of e1)) (fun _ h => h) hd kk

theorem ew_snd_iaload : ew_Snd .iaload := by
  intro p l e R s m args below meth c D tc g Lo Q k pc nx a b z ps L S n M H locs cells slots cells2 slots2 ls pc2 L2 S2 n2 M2 F hR hS hl hok h hc1 hc2 hr1 hr2 kk
  obtain ⟨hx, hb, hml, hown, hts, hnm, hE, hfr, hlo⟩ := F
  obtain ⟨hd, rfl, hokI⟩ := ew_dec hok (n := 1) rfl (by decide)
  simp only [ew_stI] at h
  split at h
  · rename_i i o Sx
    split at h
    · rename_i hq
      simp only [Option.some.injEq, Sum.inl.injEq, Prod.mk.injEq] at h
      obtain ⟨rfl, rfl, rfl, rfl, rfl⟩ := h
      obtain rfl : cells2 = cells := by simpa using hc1
      obtain rfl : slots2 = slots := by simpa using hc2
      obtain ⟨ho, hi⟩ := hq
      obtain ⟨ho1, hon, hot⟩ := ew_ok_of ho
      have kk := kk H locs ls hR hS hl
      simp only [List.map_cons] at kk ⊢
      rw [show ew_cv g (2, o) = Value.ref (ew_ph g o.toNat) from ew_rf_pos (by omega)]
      by_cases h4 : 4 ≤ o.toNat
      · rw [ew_len_ge h4] at hi
        obtain ⟨hv, hn⟩ := ew_inb_in hi (by have := ew_tag_len o.toNat; omega)
        have hlt : (ew_i i).toNatClampNeg < (ew_tag o.toNat).2 := Nat.not_le.mp fun q => hv (Or.inr q)
        have hc := ew_at_arr (hR.2.2.1 _ h4 hon) hot (by decide)
        refine W.iald (v := .int (ew_i (M o.toNat i.toNat))) hx hb hc ((hE.1.2 0 _ rfl).1 _ _) (fun q => by cases q) (by show ¬ (ew_i i < 0 ∨ (arrV _ _ _).slots.size ≤ _); rw [arrV_size]; exact hv) (by show (arrV _ _ _).slots[_]? = _; rw [arrV_read _ _ hlt, hn]; rfl) rfl rfl hd kk
      · obtain ⟨hX, hX2⟩ := hE.2.2.2.2.2.2.2 o.toNat ho1 (by omega)
        have hlo := hR.2.2.2 o.toNat (by omega)
        have hle : ew_len M o.toNat = ew_len Lo o.toNat := by
          unfold ew_len
          rw [hR.2.2.2 0 (by omega)]
        rw [hle] at hi
        obtain ⟨hv, hn⟩ := ew_inb_in hi hX2
        have hph := hE.2.2.2.2.1 o.toNat ho1 (by omega)
        have hbs := hE.2.2.2.1
        rw [hlo] at kk
        refine va_sld hx hb hX (Nat.lt_of_lt_of_le hph hbs) (fun q => absurd (show g.2.2.2 ≤ ew_ph g o.toNat from q) (by omega)) hS hv hd ?_
        rw [hn]
        exact kk
    · cases h
  · cases h

theorem ew_snd_laload : ew_Snd .laload := by
  intro p l e R s m args below meth c D tc g Lo Q k pc nx a b z ps L S n M H locs cells slots cells2 slots2 ls pc2 L2 S2 n2 M2 F hR hS hl hok h hc1 hc2 hr1 hr2 kk
  obtain ⟨hx, hb, hml, hown, hts, hnm, hE, hfr, hlo⟩ := F
  obtain ⟨hd, rfl, hokI⟩ := ew_dec hok (n := 1) rfl (by decide)
  simp only [ew_stI] at h
  split at h
  · rename_i i o Sx
    split at h
    · rename_i hq
      simp only [Option.some.injEq, Sum.inl.injEq, Prod.mk.injEq] at h
      obtain ⟨rfl, rfl, rfl, rfl, rfl⟩ := h
      obtain rfl : cells2 = cells := by simpa using hc1
      obtain rfl : slots2 = slots := by simpa using hc2
      obtain ⟨ho, hi⟩ := hq
      obtain ⟨h4, hon, hot⟩ := ew_own_of ho
      have kk := kk H locs ls hR hS hl
      simp only [List.map_cons] at kk ⊢
      rw [show ew_cv g (2, o) = Value.ref (ew_ph g o.toNat) from ew_rf_pos (by omega)]
      obtain ⟨hv, hn⟩ := ew_inb_in hi (by have := ew_tag_len o.toNat; omega)
      have hlt : (ew_i i).toNatClampNeg < (ew_tag o.toNat).2 := Nat.not_le.mp fun q => hv (Or.inr q)
      have hc := ew_at_arr (hR.2.2.1 _ h4 hon) hot (by decide)
      refine W.lald (v := .long (ew_l (M o.toNat i.toNat))) hx hb hc ((hE.1.2 1 _ rfl).1 _ _) (fun q => by cases q) (by show ¬ (ew_i i < 0 ∨ (arrV _ _ _).slots.size ≤ _); rw [arrV_size]; exact hv) (by show (arrV _ _ _).slots[_]? = _; rw [arrV_read _ _ hlt, hn]; rfl) rfl rfl hd kk
    · cases h
  · cases h

theorem ew_refarr {D : va_G} {tc : Nat → ClassId} {g : ew_G} {Lo : ew_Mem} {s : State} (hE : ew_E D tc g Lo s) {t : Nat} (ht : t = 22 ∨ t = 23 ∨ t = 24) : ∃ C : String, ArrOfT s (tc t) (.object C) ∧ va_RA s (tc t) (.object C) ∧ ew_ek t = 2 ∧ ∃ ct, ct < 9 ∧ C = ew_R ct ∧ (t = 22 → ct = 6) ∧ (t = 23 → ct = 5) ∧ (t = 24 → ct = 0) := by
  rcases ht with rfl | rfl | rfl
  · obtain ⟨h1, h2⟩ := hE.1.2 2 _ rfl
    exact ⟨_, h1, h2, rfl, 6, by decide, rfl, by decide, by decide, by decide⟩
  · obtain ⟨h1, h2⟩ := hE.1.2 3 _ rfl
    exact ⟨_, h1, h2, rfl, 5, by decide, rfl, by decide, by decide, by decide⟩
  · obtain ⟨h1, h2⟩ := hE.1.2 4 _ rfl
    exact ⟨_, h1, h2, rfl, 0, by decide, rfl, by decide, by decide, by decide⟩

theorem ew_snd_aaload : ew_Snd .aaload := by
  intro p l e R s m args below meth c D tc g Lo Q k pc nx a b z ps L S n M H locs cells slots cells2 slots2 ls pc2 L2 S2 n2 M2 F hR hS hl hok h hc1 hc2 hr1 hr2 kk
  obtain ⟨hx, hb, hml, hown, hts, hnm, hE, hfr, hlo⟩ := F
  obtain ⟨hd, rfl, hokI⟩ := ew_dec hok (n := 1) rfl (by decide)
  simp only [ew_stI] at h
  split at h
  · rename_i i o Sx
    split at h
    · rename_i hq
      simp only [Option.some.injEq, Sum.inl.injEq, Prod.mk.injEq] at h
      obtain ⟨rfl, rfl, rfl, rfl, rfl⟩ := h
      obtain rfl : cells2 = cells := by simpa using hc1
      obtain rfl : slots2 = slots := by simpa using hc2
      obtain ⟨ho, hi⟩ := hq
      obtain ⟨h4, hon, hot⟩ := ho
      have kk := kk H locs ls hR hS hl
      simp only [List.map_cons] at kk ⊢
      rw [show ew_cv g (2, o) = Value.ref (ew_ph g o.toNat) from ew_rf_pos (by omega)]
      obtain ⟨hv, hn⟩ := ew_inb_in hi (by have := ew_tag_len o.toNat; omega)
      have hlt : (ew_i i).toNatClampNeg < (ew_tag o.toNat).2 := Nat.not_le.mp fun q => hv (Or.inr q)
      have htg := ew_tag_arr (a := o.toNat) (by omega) (by omega)
      obtain ⟨C, hA1, hA2, hek, -⟩ := ew_refarr hE (t := (ew_tag o.toNat).1) (by omega)
      have hc := ew_at_arr (hR.2.2.1 _ h4 hon) rfl (by omega)
      refine W.aald (v := ew_cv g (2, M o.toNat i.toNat)) (ty := .object C) hx hb hc (hA1 _ _) rfl (fun q => by cases q) (by show ¬ (ew_i i < 0 ∨ (arrV _ _ _).slots.size ≤ _); rw [arrV_size]; exact hv) (by show (arrV _ _ _).slots[_]? = _; rw [arrV_read _ _ hlt, hn, hek]) rfl rfl hd kk
    · cases h
  · cases h

theorem ew_snd_arraylength : ew_Snd .arraylength := by
  intro p l e R s m args below meth c D tc g Lo Q k pc nx a b z ps L S n M H locs cells slots cells2 slots2 ls pc2 L2 S2 n2 M2 F hR hS hl hok h hc1 hc2 hr1 hr2 kk
  obtain ⟨hx, hb, hml, hown, hts, hnm, hE, hfr, hlo⟩ := F
  obtain ⟨hd, rfl, hokI⟩ := ew_dec hok (n := 1) rfl (by decide)
  simp only [ew_stI] at h
  split at h
  · rename_i o Sx
    split at h
    · rename_i hq
      simp only [Option.some.injEq, Sum.inl.injEq, Prod.mk.injEq] at h
      obtain ⟨rfl, rfl, rfl, rfl, rfl⟩ := h
      obtain rfl : cells2 = cells := by simpa using hc1
      obtain rfl : slots2 = slots := by simpa using hc2
      obtain ⟨ho1, hon, hot⟩ := hq
      have kk := kk H locs ls hR hS hl
      simp only [List.map_cons] at kk ⊢
      rw [show ew_cv g (2, o) = Value.ref (ew_ph g o.toNat) from ew_rf_pos (by omega)]
      by_cases h4 : 4 ≤ o.toNat
      · rw [ew_len_ge h4] at kk
        have hc := ew_at_arr (hR.2.2.1 _ h4 hon) rfl hot
        have hz : (arrV (tc (ew_tag o.toNat).1) (ew_tag o.toNat).2 (fun j => ew_cv g (ew_ek (ew_tag o.toNat).1, M o.toNat j))).slots.size.toInt32 = ew_i ((ew_tag o.toNat).2 : Int) := by
          rw [arrV_size]; rfl
        rcases ew_tag_arr (a := o.toNat) (by omega) (by omega) with h5 | h5 | h5 | h5 | h5
        · rw [h5] at hc hz
          exact W.alen hx hb hc ((hE.1.2 0 _ rfl).1 _ _) hz rfl rfl hd kk
        · rw [h5] at hc hz
          exact W.alen hx hb hc ((hE.1.2 1 _ rfl).1 _ _) hz rfl rfl hd kk
        · rw [h5] at hc hz
          exact W.alen hx hb hc ((hE.1.2 2 _ rfl).1 _ _) hz rfl rfl hd kk
        · rw [h5] at hc hz
          exact W.alen hx hb hc ((hE.1.2 3 _ rfl).1 _ _) hz rfl rfl hd kk
        · rw [h5] at hc hz
          exact W.alen hx hb hc ((hE.1.2 4 _ rfl).1 _ _) hz rfl rfl hd kk
      · obtain ⟨hX, hX2⟩ := hE.2.2.2.2.2.2.2 o.toNat ho1 (by omega)
        have hle : ew_len M o.toNat = ew_len Lo o.toNat := by
          unfold ew_len
          rw [hR.2.2.2 0 (by omega)]
        rw [hle] at kk
        have hph := hE.2.2.2.2.1 o.toNat ho1 (by omega)
        have hbs := hE.2.2.2.1
        exact va_slen hx hb hX (Nat.lt_of_lt_of_le hph hbs) (fun q => absurd (show g.2.2.2 ≤ ew_ph g o.toNat from q) (by omega)) hS hd kk
    · cases h
  · cases h

theorem ew_snd_iastore : ew_Snd .iastore := by
  intro p l e R s m args below meth c D tc g Lo Q k pc nx a b z ps L S n M H locs cells slots cells2 slots2 ls pc2 L2 S2 n2 M2 F hR hS hl hok h hc1 hc2 hr1 hr2 kk
  obtain ⟨hx, hb, hml, hown, hts, hnm, hE, hfr, hlo⟩ := F
  obtain ⟨hd, rfl, hokI⟩ := ew_dec hok (n := 1) rfl (by decide)
  simp only [ew_stI] at h
  split at h
  · rename_i v i o Sx
    split at h
    · rename_i hq
      simp only [Option.some.injEq, Sum.inl.injEq, Prod.mk.injEq] at h
      obtain ⟨rfl, rfl, rfl, rfl, rfl⟩ := h
      obtain rfl : cells2 = cells := by simpa using hc1
      obtain rfl : slots2 = slots := by simpa using hc2
      obtain ⟨ho, hi⟩ := hq
      obtain ⟨h4, hon, hot⟩ := ew_own_of ho
      simp only [List.map_cons]
      rw [show ew_cv g (2, o) = Value.ref (ew_ph g o.toNat) from ew_rf_pos (by omega)]
      obtain ⟨hv, hn⟩ := ew_inb_in hi (by have := ew_tag_len o.toNat; omega)
      have hc := ew_at_arr (hR.2.2.1 _ h4 hon) hot (by decide)
      refine W.iast hx hb hc ((hE.1.2 0 _ rfl).1 _ _) (fun q => by cases q) (by show ¬ (ew_i i < 0 ∨ (arrV _ _ _).slots.size ≤ _); rw [arrV_size]; exact hv) rfl rfl hd fun H1 e z oq => ?_
      rw [arrV_store, hn] at e
      refine kk H1 _ ls (ew_Rel_put hR h4 z oq (ew_at_of_arr hot (by decide) ?_)) (hS.put z oq ?_) hl
      · rw [ew_upd (kf := fun _ => ew_ek 20) (kd := 0) rfl]
        exact e
      · show g.2.2.2 ≤ _
        rw [ew_ph_ge g h4]; omega
    · cases h
  · cases h

theorem ew_snd_lastore : ew_Snd .lastore := by
  intro p l e R s m args below meth c D tc g Lo Q k pc nx a b z ps L S n M H locs cells slots cells2 slots2 ls pc2 L2 S2 n2 M2 F hR hS hl hok h hc1 hc2 hr1 hr2 kk
  obtain ⟨hx, hb, hml, hown, hts, hnm, hE, hfr, hlo⟩ := F
  obtain ⟨hd, rfl, hokI⟩ := ew_dec hok (n := 1) rfl (by decide)
  simp only [ew_stI] at h
  split at h
  · rename_i v i o Sx
    split at h
    · rename_i hq
      simp only [Option.some.injEq, Sum.inl.injEq, Prod.mk.injEq] at h
      obtain ⟨rfl, rfl, rfl, rfl, rfl⟩ := h
      obtain rfl : cells2 = cells := by simpa using hc1
      obtain rfl : slots2 = slots := by simpa using hc2
      obtain ⟨ho, hi⟩ := hq
      obtain ⟨h4, hon, hot⟩ := ew_own_of ho
      simp only [List.map_cons]
      rw [show ew_cv g (2, o) = Value.ref (ew_ph g o.toNat) from ew_rf_pos (by omega)]
      obtain ⟨hv, hn⟩ := ew_inb_in hi (by have := ew_tag_len o.toNat; omega)
      have hc := ew_at_arr (hR.2.2.1 _ h4 hon) hot (by decide)
      refine W.last hx hb hc ((hE.1.2 1 _ rfl).1 _ _) (fun q => by cases q) (by show ¬ (ew_i i < 0 ∨ (arrV _ _ _).slots.size ≤ _); rw [arrV_size]; exact hv) rfl rfl hd fun H1 e z oq => ?_
      rw [arrV_store, hn] at e
      refine kk H1 _ ls (ew_Rel_put hR h4 z oq (ew_at_of_arr hot (by decide) ?_)) (hS.put z oq ?_) hl
      · rw [ew_upd (kf := fun _ => ew_ek 21) (kd := 1) rfl]
        exact e
      · show g.2.2.2 ≤ _
        rw [ew_ph_ge g h4]; omega
    · cases h
  · cases h

theorem ew_snd_aastore : ew_Snd .aastore := by
  intro p l e R s m args below meth c D tc g Lo Q k pc nx a b z ps L S n M H locs cells slots cells2 slots2 ls pc2 L2 S2 n2 M2 F hR hS hl hok h hc1 hc2 hr1 hr2 kk
  obtain ⟨hx, hb, hml, hown, hts, hnm, hE, hfr, hlo⟩ := F
  obtain ⟨hd, rfl, hokI⟩ := ew_dec hok (n := 1) rfl (by decide)
  simp only [ew_stI] at h
  split at h
  · rename_i v i o Sx
    split at h
    · rename_i hq
      simp only [Option.some.injEq, Sum.inl.injEq, Prod.mk.injEq] at h
      obtain ⟨rfl, rfl, rfl, rfl, rfl⟩ := h
      obtain rfl : cells2 = cells := by simpa using hc1
      obtain rfl : slots2 = slots := by simpa using hc2
      obtain ⟨⟨⟨h4, hon⟩, hi⟩, hk⟩ := hq
      simp only [List.map_cons]
      rw [show ew_cv g (2, o) = Value.ref (ew_ph g o.toNat) from ew_rf_pos (by omega)]
      obtain ⟨hv, hn⟩ := ew_inb_in hi (by have := ew_tag_len o.toNat; omega)
      have hlt : (ew_i i).toNatClampNeg < (ew_tag o.toNat).2 := Nat.not_le.mp fun q => hv (Or.inr q)
      have h0 : ¬ ew_i i < 0 := fun q => hv (Or.inl q)
      obtain ⟨C, hA1, hA2, hek, ct, hct9, hC, hc22, hc23, hc24⟩ := ew_refarr hE (t := (ew_tag o.toNat).1) (by omega)
      have hc := ew_at_arr (hR.2.2.1 _ h4 hon) rfl (by omega)
      have key : ∀ H1 : Heap, H1[ew_ph g o.toNat]? = some ((arrV (tc (ew_tag o.toNat).1) (ew_tag o.toNat).2 (fun j => ew_cv g (ew_ek (ew_tag o.toNat).1, M o.toNat j))).setSlot (ew_i i).toNatClampNeg (ew_cv g (2, v))) → H1.size = H.size → (∀ q : Nat, q ≠ ew_ph g o.toNat → H1[q]? = H[q]?) → W p l e R s m args below meth c H1 (locs ++ [⟨ew_ph g o.toNat, (ew_i i).toNatClampNeg⟩]) cells2 slots2 Q (F0 m (pc + 1) ls (List.map (ew_cv g) Sx)) := by
        intro H1 e z oq
        rw [arrV_store, hn] at e
        rw [hn]
        refine kk H1 _ ls (ew_Rel_put hR h4 z oq (ew_at_of_arr rfl (by omega) ?_)) (hS.put z oq ?_) hl
        · rw [ew_upd (kf := fun _ => ew_ek (ew_tag o.toNat).1) (kd := 2) hek]
          exact e
        · show g.2.2.2 ≤ _
          rw [ew_ph_ge g h4]; omega
      by_cases hv0 : v ≤ 0
      · have hvn : ew_cv g (2, v) = .null := by simp only [ew_cv, ew_rf]; rw [if_pos hv0]
        rw [hvn] at key ⊢
        exact va_WaastN (C := C) hx hb hc (hA1 _ _) (fun h => by cases h) (by show ¬ (ew_i i < 0 ∨ (arrV _ _ _).slots.size ≤ _); rw [arrV_size]; exact hv) rfl rfl hd key
      · have hown6 : ew_own ct v n = true := by
          rcases hk with ⟨h5, h6 | h6⟩ | ⟨h5, h6⟩ | ⟨h5, h6⟩
          · omega
          · rw [hc22 h5]; exact h6
          · rw [hc23 h5]; exact h6
          · rw [hc24 h5]; exact h6
        obtain ⟨hv4, hvn, hvt⟩ := ew_own_of hown6
        have hvr : ew_cv g (2, v) = .ref (ew_ph g v.toNat) := ew_rf_pos (by omega)
        rw [hvr] at key ⊢
        obtain ⟨cellV, g1, g2, g3, -⟩ := ew_at_obj (hR.2.2.1 _ hv4 hvn) hvt hct9
        have hcls := (hE.1.1 ct _ (ew_cl_at ct hct9)).2
        obtain ⟨kA, comp, k1, k2, k3, -⟩ := hA2
        have hcomp : comp = D.1 ct := Option.some.inj (k3.symm.trans (by rw [hC]; exact hcls.1))
        subst hcomp
        obtain ⟨kC, hkC, -⟩ := hcls.2
        exact W.aast hx hb hc (fun q h => by cases h) (fun h => by cases h) k1 k2 rfl hkC ⟨h0, by show _ < (arrV _ _ _).slots.size; rw [arrV_size]; exact hlt⟩ g1 (fun q h => by rw [g3] at h; cases h) (by rw [g2]; exact hkC) (by rw [g2]; exact va_assign hcls) rfl rfl hd key
    · cases h
  · cases h

def ew_dv (kd : Nat) : Value := match kd with
  | 0 => .int 0
  | 1 => .long 0
  | _ => .null
theorem ew_dv_all : ∀ a, a < 9 → ∀ k, k < ew_fn a → defaultValue (ew_ty a k) = ew_dv (ew_fk a k) ∧ ew_fk a k ≤ 2 := by decide +kernel
theorem ew_cv_dv (g : ew_G) {kd : Nat} (h : kd ≤ 2) : ew_cv g (kd, 0) = ew_dv kd := by
  match kd, h with
  | 0, _ => rfl
  | 1, _ => rfl
  | 2, _ => rfl

theorem ew_snd_new (i : Nat) : ew_Snd (.new i) := by
  intro p l e R s m args below meth c D tc g Lo Q k pc nx a b z ps L S n M H locs cells slots cells2 slots2 ls pc2 L2 S2 n2 M2 F hR hS hl hok h hc1 hc2 hr1 hr2 kk
  obtain ⟨hx, hb, hml, hown, hts, hnm, hE, hfr, hlo⟩ := F
  obtain ⟨hd, rfl, hokI⟩ := ew_dec hok (n := 3) rfl (by decide)
  simp only [ew_stI] at h
  simp only [ew_okI, Bool.and_eq_true, decide_eq_true_eq] at hokI
  obtain ⟨hw1, hw2, hw3, ha9⟩ := hokI
  split at h
  · rename_i ht
    simp only [Option.some.injEq, Sum.inl.injEq, Prod.mk.injEq] at h
    obtain ⟨rfl, rfl, rfl, rfl, rfl⟩ := h
    have hlen : (ew_tag n).2 = ew_fn a := by rw [(ew_tag_obj (by omega)).2, ht]
    have e1 : cells2 = cells + 1 := by omega
    have e2 : slots2 = slots + ew_fn a := by rw [hc2, ← hlen]; simp only [ew_sz]; omega
    subst e1; subst e2
    have hKn := hE.1.1 a _ (ew_cl_at a ha9)
    have hph := ew_ph_new hR
    refine W.newcK hx hb hown (hts _ (ew_wd_of hw1)) (hts _ (ew_wd_of hw2)) (hts _ (ew_wd_of hw3)) rfl hd hr1 hr2 hKn.2.1 rfl fun H1 kC hkC e3 z1 o1 => ?_
    have hnew : ew_at D tc g (ew_clr M n) n H1 := by
      refine ew_at_of_obj ht ha9 ?_
      rw [hph]
      refine (u_born (ew_ty a) hts (ew_win a ha9) hKn hkC e3 (ew_tyok a ha9)).to (fun j hj => ?_)
      obtain ⟨h5, h6⟩ := ew_dv_all a ha9 j hj
      rw [h5]
      simp only [ew_clr, if_true]
      exact (ew_cv_dv g h6).symm
    have kk := kk H1 locs ls (ew_Rel_new hR z1 o1 hnew) (ew_S_new hS z1 o1) hl
    simp only [List.map_cons] at kk
    have h4 := hR.1
    rw [show ew_cv g (2, (n : Int)) = Value.ref (ew_ph g n) from ew_rf_pos (o := (n : Int)) (by omega), hph] at kk
    exact kk
  · cases h

theorem ew_snd_newarray (at0 : ArrayType) : ew_Snd (.newarray at0) := by
  intro p l e R s m args below meth c D tc g Lo Q k pc nx a b z ps L S n M H locs cells slots cells2 slots2 ls pc2 L2 S2 n2 M2 F hR hS hl hok h hc1 hc2 hr1 hr2 kk
  obtain ⟨hx, hb, hml, hown, hts, hnm, hE, hfr, hlo⟩ := F
  obtain ⟨hd, rfl, hokI⟩ := ew_dec hok (n := 2) rfl (by decide)
  simp only [ew_stI] at h
  simp only [ew_okI, Bool.and_eq_true, decide_eq_true_eq, Bool.or_eq_true] at hokI
  split at h
  · rename_i cq Sx
    split at h
    · rename_i hq
      simp only [Option.some.injEq, Sum.inl.injEq, Prod.mk.injEq] at h
      obtain ⟨rfl, rfl, rfl, rfl, rfl⟩ := h
      obtain ⟨ht, rfl⟩ := hq
      have e1 : cells2 = cells + 1 := by omega
      have e2 : slots2 = slots + (ew_tag n).2 := by rw [hc2]; simp only [ew_sz]; omega
      subst e1; subst e2
      have hph := ew_ph_new hR
      have hlen := ew_tag_len n
      have h4 := hR.1
      have hni : (ew_i ((ew_tag n).2 : Int)).toInt = ((ew_tag n).2 : Int) := Int32.toInt_ofInt_of_le (by omega) (by omega)
      have hneg : ¬ ew_i ((ew_tag n).2 : Int) < 0 := by
        rw [Int32.lt_iff_toInt_lt, hni, Int32.toInt_zero]; omega
      have hnat : (ew_i ((ew_tag n).2 : Int)).toNatClampNeg = (ew_tag n).2 := by unfold Int32.toNatClampNeg; rw [hni]; simp
      have fin : ∀ (H1 : Heap) (t kd : Nat) (dv : Value), a = t → 20 ≤ t → ew_ek t = kd → ew_cv g (kd, 0) = dv → H1[H.size]? = some (arrV (tc t) (ew_tag n).2 (fun _ => dv)) → H1.size = H.size + 1 → (∀ q : Nat, q < H.size → H1[q]? = H[q]?) → W p l e R s m args below meth c H1 locs (cells + 1) (slots + (ew_tag n).2) Q (F0 m (pc + 2) ls (.ref H.size :: List.map (ew_cv g) Sx)) := by
        intro H1 t kd dv ha ht20 hek hdv e3 z1 o1
        have hnew : ew_at D tc g (ew_clr M n) n H1 := by
          refine ew_at_of_arr (ht.trans ha) ht20 ?_
          rw [hph, e3, hek]
          simp only [ew_clr, if_true, hdv]
        have kk := kk H1 locs ls (ew_Rel_new hR z1 o1 hnew) (ew_S_new hS z1 o1) hl
        simp only [List.map_cons] at kk
        rw [show ew_cv g (2, (n : Int)) = Value.ref (ew_ph g n) from ew_rf_pos (o := (n : Int)) (by omega), hph] at kk
        exact kk
      simp only [List.map_cons]
      rcases hokI with ⟨⟨rfl, ha⟩, hw⟩ | ⟨⟨rfl, ha⟩, hw⟩
      · have hcb : componentBytes (newarray.typeOf .int) = 4 := by decide
        refine va_newaK hx hb (hts _ (ew_wd_of hw)) rfl hd rfl hneg hnat (by rw [hcb]; omega) hr1 hr2 rfl fun H1 cA e3 z1 o1 hAr hNm => ?_
        have hcA : cA = tc 20 := Option.some.inj (hNm.symm.trans (hE.1.2 0 _ rfl).2)
        subst hcA
        exact fin H1 20 0 _ ha (by decide) rfl rfl e3 z1 o1
      · have hcb : componentBytes (newarray.typeOf .long) = 8 := by decide
        refine va_newaK hx hb (hts _ (ew_wd_of hw)) rfl hd rfl hneg hnat (by rw [hcb]; omega) hr1 hr2 rfl fun H1 cA e3 z1 o1 hAr hNm => ?_
        have hcA : cA = tc 21 := Option.some.inj (hNm.symm.trans (hE.1.2 1 _ rfl).2)
        subst hcA
        exact fin H1 21 1 _ ha (by decide) rfl rfl e3 z1 o1
    · cases h
  · cases h

theorem ew_snd_anewarray (i : Nat) : ew_Snd (.anewarray i) := by
  intro p l e R s m args below meth c D tc g Lo Q k pc nx a b z ps L S n M H locs cells slots cells2 slots2 ls pc2 L2 S2 n2 M2 F hR hS hl hok h hc1 hc2 hr1 hr2 kk
  obtain ⟨hx, hb, hml, hown, hts, hnm, hE, hfr, hlo⟩ := F
  obtain ⟨hd, rfl, hokI⟩ := ew_dec hok (n := 3) rfl (by decide)
  simp only [ew_stI] at h
  simp only [ew_okI, Bool.and_eq_true, decide_eq_true_eq, Bool.or_eq_true] at hokI
  split at h
  · rename_i cq Sx
    split at h
    · rename_i hq
      simp only [Option.some.injEq, Sum.inl.injEq, Prod.mk.injEq] at h
      obtain ⟨rfl, rfl, rfl, rfl, rfl⟩ := h
      obtain ⟨ht, rfl⟩ := hq
      have e1 : cells2 = cells + 1 := by omega
      have e2 : slots2 = slots + (ew_tag n).2 := by rw [hc2]; simp only [ew_sz]; omega
      subst e1; subst e2
      have hph := ew_ph_new hR
      have hlen := ew_tag_len n
      have h4 := hR.1
      have hni : (ew_i ((ew_tag n).2 : Int)).toInt = ((ew_tag n).2 : Int) := Int32.toInt_ofInt_of_le (by omega) (by omega)
      have hneg : ¬ ew_i ((ew_tag n).2 : Int) < 0 := by
        rw [Int32.lt_iff_toInt_lt, hni, Int32.toInt_zero]; omega
      have hnat : (ew_i ((ew_tag n).2 : Int)).toNatClampNeg = (ew_tag n).2 := by unfold Int32.toNatClampNeg; rw [hni]; simp
      have fin : ∀ (C : String) (t pl : Nat), a = t → 22 ≤ t → t ≤ 24 → (ew_tys tc)[pl]? = some (tc t, .object C) → va_AO C s → (Jvm.Cond.classLink (ew_cls k) i C) ∈ ew_W → W p l e R s m args below meth c H locs cells slots Q (F0 m pc ls (.int (ew_i ((ew_tag n).2 : Int)) :: List.map (ew_cv g) Sx)) := by
        intro C t pl ha ht22 ht24 hpl hao hcl
        refine W.anew hx hb hown (hts _ hcl) (va_AO.use hao) rfl hd rfl hneg (by rw [hnat]; omega) hr1 (by rw [hnat]; exact hr2) fun cA kA comp f1 f2 f3 f4 => ?_
        rw [hnat]
        generalize hH1 : H.push ({ cls := cA, slots := Array.replicate (ew_tag n).2 .null, vm := .none } : Cell) = H1
        have z1 : H1.size = H.size + 1 := by rw [← hH1, Array.size_push]
        have e3 : H1[H.size]? = some (arrV cA (ew_tag n).2 (fun _ => .null)) := by rw [← hH1, Array.getElem?_push_size, ← arrV_new]
        have o1 : ∀ q : Nat, q < H.size → H1[q]? = H[q]? := fun q hq => by rw [← hH1, Array.getElem?_push, if_neg (Nat.ne_of_lt hq)]
        obtain ⟨kA2, comp2, g1, g2, g3, g4⟩ := (hE.1.2 pl _ hpl).2
        have hcA : cA = tc t := Option.some.inj (f1.symm.trans g4)
        subst hcA
        have hek : ew_ek t = 2 := by
          rcases (show t = 22 ∨ t = 23 ∨ t = 24 by omega) with rfl | rfl | rfl <;> rfl
        have hnew : ew_at D tc g (ew_clr M n) n H1 := by
          refine ew_at_of_arr (ht.trans ha) (by omega) ?_
          rw [hph, e3, hek]
          simp only [ew_clr, if_true]
          rfl
        have kk := kk H1 locs ls (ew_Rel_new hR z1 o1 hnew) (ew_S_new hS z1 o1) hl
        simp only [List.map_cons] at kk
        rw [show ew_cv g (2, (n : Int)) = Value.ref (ew_ph g n) from ew_rf_pos (o := (n : Int)) (by omega), hph] at kk
        exact kk
      simp only [List.map_cons]
      rcases hokI with ⟨ha, hw⟩ | ⟨ha, hw⟩ | ⟨ha, hw⟩
      · exact fin _ 22 2 ha (by decide) (by decide) rfl hE.2.2.1.1 (ew_wd_of hw)
      · exact fin _ 23 3 ha (by decide) (by decide) rfl hE.2.2.1.2.1 (ew_wd_of hw)
      · exact fin _ 24 4 ha (by decide) (by decide) rfl hE.2.2.1.2.2 (ew_wd_of hw)
    · cases h
  · cases h

