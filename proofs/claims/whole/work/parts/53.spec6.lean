/-! scratch places; what holds wherever only they change -/
/-- the cells and fields that no answer leans on between calls -/
def s_scr (a i : Nat) : Bool := (a == 29 || a == 30 || a == 31 || a == 32 || a == 33 || a == 35 || a == 36 || a == 37) || (a == 27 && (i == 5 || i == 6 || i == 7)) || (a == 34 && i == 1) || (a == 47 || a == 48 || a == 49 || a == 50 || a == 51 || a == 52) || (a == 38 && (i == 14 || i == 18 || i == 23 || i == 24 || i == 25 || i == 26 || i == 27))
def s_Fr (M M' : ew_Mem) : Prop := ∀ a i : Nat, s_scr a i = false → M' a i = M a i
theorem s_Fr_rfl {M : ew_Mem} : s_Fr M M := fun _ _ _ => rfl
theorem s_Fr_tr {M M' M'' : ew_Mem} (h : s_Fr M M') (h' : s_Fr M' M'') : s_Fr M M'' := fun a i q => (h' a i q).trans (h a i q)
theorem s_Fr_wr {M M' : ew_Mem} (h : s_Fr M M') {a i : Nat} {v : Int} (hs : s_scr a i = true) : s_Fr M (ew_wr M' a i v) := by
  intro c j q
  unfold ew_wr
  split
  · split
    · rename_i h1 h2
      subst h1 h2
      rw [hs] at q
      cases q
    · exact h c j q
  · exact h c j q
theorem s_scr_pm : ∀ q ∈ ew_perm, s_scr q.1 q.2.1 = false := by decide +kernel
theorem s_Fr_pm {M M' : ew_Mem} (h : s_Fr M M') (hp : ew_Pm M) : ew_Pm M' := fun q hq => (h _ _ (s_scr_pm q hq)).trans (hp q hq)
theorem s_scr_w {a i : Nat} (h : 59 ≤ a) : s_scr a i = false := by
  unfold s_scr
  simp
  omega
theorem s_Fr_WF {M M' : ew_Mem} (h : s_Fr M M') {w : Int} {n : Nat} {W : Nat → Int} (hw59 : 59 ≤ w) (hw : s_WF w n M W) : s_WF w n M' W := by
  have e : ∀ i, M' w.toNat i = M w.toNat i := fun i => h _ _ (s_scr_w (by omega))
  unfold s_WF
  rw [e, e, e, e, e]
  exact hw
theorem s_own6 {w : Int} {n : Nat} (h : ew_own 6 w n = true) : 59 ≤ w := by
  simp only [ew_own, Bool.and_eq_true, decide_eq_true_eq] at h
  by_cases h1 : 59 ≤ w.toNat
  · omega
  · exfalso
    have h2 : ∀ a : Nat, a < 59 → ¬ (ew_tag a).1 = 6 := by decide +kernel
    exact h2 w.toNat (by omega) h.2.2
theorem s_C_fr {V : ew_Mem} {n : Nat} {M M' : ew_Mem} (h : s_Fr M M') (hC : s_C V n M) : s_C V n M' := by
  obtain ⟨hn, hp, hV, v0, v1, v2, v3, v4⟩ := hC
  refine ⟨hn, s_Fr_pm h hp, hV, ?_, ?_, ?_, ?_, ?_⟩
  · rw [h _ _ (by decide)]; exact v0
  · rw [h _ _ (by decide)]; exact v1
  · rw [h _ _ (by decide)]; exact v2
  · intro j hj
    rw [h 7 j (by unfold s_scr; simp)]
    exact v3 j hj
  · intro r hr
    rw [h 6 r (by unfold s_scr; simp)]
    exact s_Fr_WF h (s_own6 (v4 r hr).1) (v4 r hr)
theorem s_M_fr {V : ew_Mem} {n : Nat} {M M' : ew_Mem} (h : s_Fr M M') (hM : s_M V n M) : s_M V n M' := by
  obtain ⟨hn, hp, hV, u0, u1, u2, u3, u4⟩ := hM
  have e : ∀ a : Nat, (∀ i, s_scr a i = false) → ∀ i, M' a i = M a i := fun a q i => h a i (q i)
  have e39 := e 39 (fun i => by unfold s_scr; simp)
  have e40 := e 40 (fun i => by unfold s_scr; simp)
  have e41 := e 41 (fun i => by unfold s_scr; simp)
  have e42 := e 42 (fun i => by unfold s_scr; simp)
  have e43 := e 43 (fun i => by unfold s_scr; simp)
  have e44 := e 44 (fun i => by unfold s_scr; simp)
  have e45 := e 45 (fun i => by unfold s_scr; simp)
  refine ⟨hn, s_Fr_pm h hp, hV, ?_, ?_, ?_, ?_, ?_⟩
  · rw [h _ _ (by decide)]; exact u0
  · rw [h _ _ (by decide)]; exact u1
  · rw [h _ _ (by decide)]; exact u2
  · intro j hj
    rw [e45]
    exact u3 j hj
  · intro r hr
    rw [e44, e39, e40, e41, e42, e43]
    exact u4 r hr
/-- the list T put from place 0 on -/
def s_put (M : ew_Mem) (a : Nat) (T : List Int) : ew_Mem := fun c i => if c = a then (if i < T.length then T.getD i 0 else M c i) else M c i
theorem s_put_nil {M : ew_Mem} {a : Nat} : s_put M a [] = M := by
  funext c i
  unfold s_put
  simp
theorem s_put_wr {M : ew_Mem} {a : Nat} {P : List Int} {v : Int} : ew_wr (s_put M a P) a P.length v = s_put M a (P ++ [v]) := by
  funext c i
  unfold ew_wr s_put
  by_cases h : c = a
  · rw [if_pos h, if_pos h]
    by_cases h2 : i = P.length
    · subst h2
      simp [h]
    · rw [if_neg h2, if_pos h]
      by_cases h3 : i < P.length
      · rw [if_pos h3, if_pos (by simp; omega)]
        simp [List.getElem?_append_left h3]
      · rw [if_neg h3, if_neg (by simp; omega)]
  · rw [if_neg h, if_neg h, if_neg h]
theorem s_put_rd {M : ew_Mem} {a : Nat} {T : List Int} {i : Nat} (h : i < T.length) : s_put M a T a i = T.getD i 0 := by
  unfold s_put
  rw [if_pos rfl, if_pos h]
theorem s_put_ne {M : ew_Mem} {a c : Nat} {T : List Int} {i : Nat} (h : ¬ c = a) : s_put M a T c i = M c i := by
  unfold s_put
  rw [if_neg h]
theorem s_put_fr {M M' : ew_Mem} {a : Nat} {T : List Int} (h : s_Fr M M') (hs : ∀ i, s_scr a i = true) : s_Fr M (s_put M' a T) := by
  intro c i q
  unfold s_put
  by_cases hc : c = a
  · subst hc
    rw [hs i] at q
    cases q
  · rw [if_neg hc]
    exact h c i q
theorem s_scr_c {a : Nat} (h : (a == 32 || a == 33 || a == 35 || a == 36 || a == 37 || a == 47 || a == 48 || a == 49 || a == 50 || a == 51 || a == 52) = true) (i : Nat) : s_scr a i = true := by
  unfold s_scr
  simp at h ⊢
  omega
/-- answers v; only scratch changes -/
def s_QF (v : ew_AV) (n : Nat) (M : ew_Mem) : Option ew_AV → Nat → ew_Mem → Prop := fun r n' M' => r = some v ∧ n' = n ∧ s_Fr M M'
theorem s_QF_of {k : Nat} {A : List ew_AV} {n : Nat} {M : ew_Mem} {v : ew_AV} (h : ew_FM k A n M v n M) : ew_C k A n M (s_QF v n M) :=
  ew_X.mono h (fun r n' M' q => ⟨q.1, q.2.1, by rw [q.2.2]; exact s_Fr_rfl⟩)
theorem s_nth_put {M : ew_Mem} {a : Nat} {T : List Int} {i : Int} (h : 0 ≤ i ∧ i < (T.length : Int)) : s_put M a T a i.toNat = s_nth T i := by
  rw [s_put_rd (by omega)]
  unfold s_nth
  rw [if_pos h.1, List.getD_eq_getElem?_getD, List.getD_eq_getElem?_getD, List.getElem?_eq_getElem (by omega)]
  rfl
theorem s_nth_outI {T : List Int} {i : Int} (h : ¬ (0 ≤ i ∧ i < (T.length : Int))) : s_nth T i = -1 := by
  unfold s_nth
  split
  · rw [List.getD_eq_getElem?_getD, List.getElem?_eq_none (by omega)]
    rfl
  · rfl
