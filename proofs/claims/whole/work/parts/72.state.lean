/-! the whole state: what the class keeps, how the reference holds the same -/
/-- the wheel whose object is a -/
def s_ob (X : ew_Mem) (a : Int) : Nat → Int := fun j => if j = 0 then X a.toNat 0 else if j = 1 then X a.toNat 1 else if j = 2 then X a.toNat 3 else if j = 3 then X a.toNat 4 else X a.toNat 2
def s_OB (n : Nat) (X : ew_Mem) (a : Int) : Prop := ew_own 6 a n = true ∧ s_WO (s_ob X a)
/-- the view of the class' memory -/
def s_V (X : ew_Mem) : ew_Mem := fun r j => if r < 6 then s_ob X (X 6 r) j else if r = 6 then X 5 (j + 2) else X 7 j
/-- a setup's numbers: its fields in s, its rules in q -/
def s_S1 (X : ew_Mem) (s q : Nat) : Prop := (0 ≤ X s 2 ∧ X s 2 ≤ 6) ∧ (0 ≤ X s 3 ∧ (X s 3 < X s 2 ∨ X s 3 = 0)) ∧ (-1 ≤ X s 4 ∧ X s 4 < X s 2) ∧
  (0 ≤ X q 0 ∧ X q 0 ≤ 99999) ∧ (0 ≤ X q 1 ∧ X q 1 ≤ 99999) ∧ (0 ≤ X q 2 ∧ X q 2 ≤ 99999) ∧ (1 ≤ X q 3 ∧ X q 3 ≤ 100000) ∧ (1 ≤ X q 4 ∧ X q 4 ≤ 1000) ∧ 1 ≤ X q 5 ∧ X q 5 ≤ 400
def s_K2 (n : Nat) (X : ew_Mem) : Prop := ∀ r : Nat, r < 6 → ((r : Int) < X 5 2 ∧ s_OB n X (X 6 r)) ∨ (X 5 2 ≤ (r : Int) ∧ X 6 r = 0)
def s_K3 (X : ew_Mem) : Prop := ∀ r q : Nat, (r : Int) < X 5 2 → (q : Int) < X 5 2 → X 6 r = X 6 q → r = q
def s_K4 (n : Nat) (X : ew_Mem) : Prop := ∀ t : Nat, t < 4 → ((-1 ≤ X (12 + 2 * t) 1 ∧ X (12 + 2 * t) 1 ≤ 4) ∧ 0 ≤ X (12 + 2 * t) 2 ∧ X (12 + 2 * t) 2 ≤ 12) ∧ ∀ i : Nat, i < 12 → X (13 + 2 * t) i = 0 ∨ s_OB n X (X (13 + 2 * t) i)
def s_K5 (X : ew_Mem) : Prop := ∀ l : Nat, l < 3 → (-1 ≤ X (21 + 2 * l) 1 ∧ X (21 + 2 * l) 1 ≤ 40) ∧ ∀ i : Nat, i < 40 → ew_inl (X (22 + 2 * l) i)
def s_K6 (X : ew_Mem) : Prop := (0 ≤ X 27 1 ∧ X 27 1 ≤ 80) ∧ ∀ i : Nat, i < 80 → 0 ≤ X 28 i ∧ X 28 i ≤ 127
/-- the list or a tray holds a -/
def s_lv (X : ew_Mem) (a : Int) : Prop := (∃ r : Nat, (r : Int) < X 5 2 ∧ X 6 r = a) ∨ (∃ t i : Nat, t < 4 ∧ i < 12 ∧ X (13 + 2 * t) i = a ∧ ¬ a = 0)
def s_K7 (n : Nat) (X : ew_Mem) : Prop := X 4 2 = 0 ∨ (X 4 2 = 1 ∧ s_S1 X 8 10 ∧ ∀ r : Nat, r < 6 → ((r : Int) < X 8 2 ∧ s_OB n X (X 9 r) ∧ ¬ s_lv X (X 9 r)) ∨ (X 8 2 ≤ (r : Int) ∧ X 9 r = 0))
/-- the class' whole state after c calls -/
def s_K (c n : Nat) (X : ew_Mem) : Prop := 59 ≤ n ∧ n ≤ 59 + 12 * c ∧ ew_Pm X ∧ s_S1 X 5 7 ∧ s_K2 n X ∧ s_K3 X ∧ s_K4 n X ∧ s_K5 X ∧ s_K6 X ∧ s_K7 n X ∧ 0 ≤ X 4 6 ∧ X 4 6 ≤ (c : Int)
/-- the reference's memory M holds what the class' memory X holds; the wheel a is its row h a -/
def s_R1 (X M : ew_Mem) : Prop := M 38 5 = X 5 2 ∧ M 38 7 = X 5 3 ∧ M 38 8 = X 5 4 ∧ ∀ j : Nat, j < 6 → M 45 j = X 7 j
def s_R2 (h : Int → Nat) (X M : ew_Mem) : Prop := (∀ r : Nat, (r : Int) < X 5 2 → M 44 r = (h (X 6 r) : Int)) ∧
  (∀ t i : Nat, t < 4 → i < 12 → M 56 (12 * t + i) = if X (13 + 2 * t) i = 0 then -1 else (h (X (13 + 2 * t) i) : Int)) ∧
  (∀ a, s_lv X a → h a < 64 ∧ M 39 (h a) = s_ob X a 0 ∧ M 40 (h a) = s_ob X a 1 ∧ M 41 (h a) = s_ob X a 2 ∧ M 42 (h a) = s_ob X a 3 ∧ M 43 (h a) = s_ob X a 4) ∧
  ∀ a b, s_lv X a → s_lv X b → h a = h b → a = b
def s_R6 (X M : ew_Mem) : Prop := ∀ t : Nat, t < 4 → M 54 t = X (12 + 2 * t) 1 ∧ M 55 t = X (12 + 2 * t) 2
def s_R7 (X M : ew_Mem) : Prop := ∀ l : Nat, l < 3 → M 57 l = X (21 + 2 * l) 1 ∧ ∀ i : Nat, i < 40 → M 58 (40 * l + i) = X (22 + 2 * l) i
def s_R8 (X M : ew_Mem) : Prop := M 38 21 = X 27 1 ∧ (∀ i : Nat, i < 80 → M 53 i = X 28 i) ∧ M 38 22 = X 4 6
def s_R9 (X M : ew_Mem) : Prop := M 38 11 = X 4 2 ∧ (X 4 2 = 1 → M 46 30 = X 8 2 ∧ M 46 31 = X 8 3 ∧ M 46 32 = X 8 4 ∧ (∀ j : Nat, j < 6 → M 46 (33 + j) = X 10 j) ∧ ∀ r : Nat, (r : Int) < X 8 2 → ∀ j : Nat, j < 5 → M 46 (5 * r + j) = s_ob X (X 9 r) j)
def s_RM (h : Int → Nat) (X M : ew_Mem) : Prop := s_R1 X M ∧ s_R2 h X M ∧ s_R6 X M ∧ s_R7 X M ∧ s_R8 X M ∧ s_R9 X M
/-- the whole state after c calls -/
def s_J (c n : Nat) (M : ew_Mem) : Prop := s_K c n M ∧ ∃ h, s_RM h M M
theorem s_OB_w {n : Nat} {X : ew_Mem} {a : Int} (h : s_OB n X a) : 59 ≤ a ∧ a < (n : Int) := by
  have h1 := s_own6 h.1
  have h2 := h.1
  simp only [ew_own, Bool.and_eq_true, decide_eq_true_eq] at h2
  omega
theorem s_ob_ag {X X' : ew_Mem} {a : Int} (e : ∀ i, X' a.toNat i = X a.toNat i) : s_ob X' a = s_ob X a := by
  funext j
  unfold s_ob
  rw [e, e, e, e, e]
/-- the objects there are stay as they were -/
def s_eo (n : Nat) (X X' : ew_Mem) : Prop := ∀ a : Nat, 59 ≤ a → a < n → ∀ i, X' a i = X a i
theorem s_ob_eo {n : Nat} {X X' : ew_Mem} {a : Int} (e : s_eo n X X') (h : s_OB n X a) : s_ob X' a = s_ob X a := by
  have := s_OB_w h
  exact s_ob_ag (e a.toNat (by omega) (by omega))
theorem s_OB_eo {n n' : Nat} {X X' : ew_Mem} {a : Int} (e : s_eo n X X') (hn : n ≤ n') (h : s_OB n X a) : s_OB n' X' a := by
  have h1 := s_OB_w h
  exact ⟨ew_own_w h1.1 (by omega), by rw [s_ob_eo e h]; exact h.2⟩
theorem s_S1_ag {X X' : ew_Mem} {s q : Nat} (e1 : ∀ i, X' s i = X s i) (e2 : ∀ i, X' q i = X q i) (h : s_S1 X s q) : s_S1 X' s q := by
  unfold s_S1
  rw [e1, e1, e1, e2, e2, e2, e2, e2, e2]
  exact h
theorem s_K2_ag {n n' : Nat} {X X' : ew_Mem} (e1 : X' 5 2 = X 5 2) (e2 : ∀ i, X' 6 i = X 6 i) (eo : s_eo n X X') (hn : n ≤ n') (h : s_K2 n X) : s_K2 n' X' := by
  intro r hr
  rw [e1, e2]
  rcases h r hr with h1 | h1
  · exact Or.inl ⟨h1.1, s_OB_eo eo hn h1.2⟩
  · exact Or.inr h1
theorem s_K3_ag {X X' : ew_Mem} (e1 : X' 5 2 = X 5 2) (e2 : ∀ i, X' 6 i = X 6 i) (h : s_K3 X) : s_K3 X' := by
  intro r q
  rw [e1, e2, e2]
  exact h r q
theorem s_K4_ag {n n' : Nat} {X X' : ew_Mem} (e1 : ∀ t i : Nat, t < 4 → (i = 1 ∨ i = 2) → X' (12 + 2 * t) i = X (12 + 2 * t) i) (e2 : ∀ t i : Nat, t < 4 → i < 12 → X' (13 + 2 * t) i = X (13 + 2 * t) i) (eo : s_eo n X X') (hn : n ≤ n') (h : s_K4 n X) : s_K4 n' X' := by
  intro t ht
  rw [e1 t 1 ht (by omega), e1 t 2 ht (by omega)]
  refine ⟨(h t ht).1, fun i hi => ?_⟩
  rw [e2 t i ht hi]
  exact ((h t ht).2 i hi).imp id (s_OB_eo eo hn)
theorem s_K5_ag {X X' : ew_Mem} (e1 : ∀ l : Nat, l < 3 → X' (21 + 2 * l) 1 = X (21 + 2 * l) 1) (e2 : ∀ l i : Nat, l < 3 → i < 40 → X' (22 + 2 * l) i = X (22 + 2 * l) i) (h : s_K5 X) : s_K5 X' := by
  intro l hl
  rw [e1 l hl]
  refine ⟨(h l hl).1, fun i hi => ?_⟩
  rw [e2 l i hl hi]
  exact (h l hl).2 i hi
theorem s_K6_ag {X X' : ew_Mem} (e1 : X' 27 1 = X 27 1) (e2 : ∀ i, X' 28 i = X 28 i) (h : s_K6 X) : s_K6 X' := by
  unfold s_K6
  rw [e1]
  refine ⟨h.1, fun i hi => ?_⟩
  rw [e2]
  exact h.2 i hi
theorem s_lv_ag {X X' : ew_Mem} (e1 : X' 5 2 = X 5 2) (e2 : ∀ i, X' 6 i = X 6 i) (e3 : ∀ t i : Nat, t < 4 → i < 12 → X' (13 + 2 * t) i = X (13 + 2 * t) i) {a : Int} (h : s_lv X' a) : s_lv X a := by
  rcases h with ⟨r, h1, h2⟩ | ⟨t, i, ht, hi, h1, h2⟩
  · exact Or.inl ⟨r, by rw [← e1]; exact h1, by rw [← e2]; exact h2⟩
  · exact Or.inr ⟨t, i, ht, hi, by rw [← e3 t i ht hi]; exact h1, h2⟩
theorem s_K7_ag {n n' : Nat} {X X' : ew_Mem} (e1 : X' 4 2 = X 4 2) (e2 : ∀ i, X' 8 i = X 8 i) (e3 : ∀ i, X' 9 i = X 9 i) (e4 : ∀ i, X' 10 i = X 10 i) (eo : ∀ a, s_OB n X a → ¬ s_lv X a → s_ob X' a = s_ob X a) (hn : n ≤ n') (el : ∀ a, s_OB n X a → s_lv X' a → s_lv X a) (h : s_K7 n X) : s_K7 n' X' := by
  unfold s_K7
  rw [e1]
  refine h.imp id (fun h => ⟨h.1, s_S1_ag e2 e4 h.2.1, fun r hr => ?_⟩)
  rw [e2, e3]
  refine (h.2.2 r hr).imp (fun g => ⟨g.1, ⟨?_, ?_⟩, fun q => g.2.2 (el _ g.2.1 q)⟩) id
  · have := s_OB_w g.2.1
    exact ew_own_w this.1 (by omega)
  · rw [eo _ g.2.1 g.2.2]
    exact g.2.1.2
theorem s_R1_ag {X X' M M' : ew_Mem} (e1 : ∀ i, X' 5 i = X 5 i) (e2 : ∀ i, X' 7 i = X 7 i) (m1 : M' 38 5 = M 38 5) (m2 : M' 38 7 = M 38 7) (m3 : M' 38 8 = M 38 8) (m4 : ∀ i, M' 45 i = M 45 i) (h : s_R1 X M) : s_R1 X' M' := by
  unfold s_R1
  rw [m1, m2, m3, e1, e1, e1]
  refine ⟨h.1, h.2.1, h.2.2.1, fun j hj => ?_⟩
  rw [m4, e2]
  exact h.2.2.2 j hj
theorem s_R2_ag {h : Int → Nat} {X X' M M' : ew_Mem} (e1 : X' 5 2 = X 5 2) (e2 : ∀ i, X' 6 i = X 6 i) (e3 : ∀ t i : Nat, t < 4 → i < 12 → X' (13 + 2 * t) i = X (13 + 2 * t) i) (eo : ∀ a, s_lv X a → s_ob X' a = s_ob X a)
    (m39 : ∀ i, M' 39 i = M 39 i) (m40 : ∀ i, M' 40 i = M 40 i) (m41 : ∀ i, M' 41 i = M 41 i) (m42 : ∀ i, M' 42 i = M 42 i) (m43 : ∀ i, M' 43 i = M 43 i) (m44 : ∀ i, M' 44 i = M 44 i) (m56 : ∀ i, M' 56 i = M 56 i) (g : s_R2 h X M) : s_R2 h X' M' := by
  obtain ⟨g1, g2, g3, g4⟩ := g
  refine ⟨fun r hr => ?_, fun t i ht hi => ?_, fun a ha => ?_, fun a b ha hb => g4 a b (s_lv_ag e1 e2 e3 ha) (s_lv_ag e1 e2 e3 hb)⟩
  · rw [m44, e2]
    exact g1 r (by rw [← e1]; exact hr)
  · rw [m56, e3 t i ht hi]
    exact g2 t i ht hi
  · have ha' := s_lv_ag e1 e2 e3 ha
    rw [m39, m40, m41, m42, m43, eo a ha']
    exact g3 a ha'
theorem s_R6_ag {X X' M M' : ew_Mem} (e1 : ∀ t i : Nat, t < 4 → (i = 1 ∨ i = 2) → X' (12 + 2 * t) i = X (12 + 2 * t) i) (m54 : ∀ i, M' 54 i = M 54 i) (m55 : ∀ i, M' 55 i = M 55 i) (h : s_R6 X M) : s_R6 X' M' := by
  intro t ht
  rw [m54, m55, e1 t 1 ht (by omega), e1 t 2 ht (by omega)]
  exact h t ht
theorem s_R7_ag {X X' M M' : ew_Mem} (e1 : ∀ l : Nat, l < 3 → X' (21 + 2 * l) 1 = X (21 + 2 * l) 1) (e2 : ∀ l i : Nat, l < 3 → i < 40 → X' (22 + 2 * l) i = X (22 + 2 * l) i) (m57 : ∀ i, M' 57 i = M 57 i) (m58 : ∀ i, M' 58 i = M 58 i) (h : s_R7 X M) : s_R7 X' M' := by
  intro l hl
  rw [m57, e1 l hl]
  refine ⟨(h l hl).1, fun i hi => ?_⟩
  rw [m58, e2 l i hl hi]
  exact (h l hl).2 i hi
theorem s_R8_ag {X X' M M' : ew_Mem} (e1 : X' 27 1 = X 27 1) (e2 : ∀ i, X' 28 i = X 28 i) (e3 : X' 4 6 = X 4 6) (m1 : M' 38 21 = M 38 21) (m2 : ∀ i, M' 53 i = M 53 i) (m3 : M' 38 22 = M 38 22) (h : s_R8 X M) : s_R8 X' M' := by
  unfold s_R8
  rw [m1, m3, e1, e3]
  refine ⟨h.1, fun i hi => ?_, h.2.2⟩
  rw [m2, e2]
  exact h.2.1 i hi
theorem s_R9_ag {X X' M M' : ew_Mem} (e1 : X' 4 2 = X 4 2) (e2 : ∀ i, X' 8 i = X 8 i) (e3 : ∀ i, X' 9 i = X 9 i) (e4 : ∀ i, X' 10 i = X 10 i) (eo : X 4 2 = 1 → ∀ r : Nat, (r : Int) < X 8 2 → s_ob X' (X 9 r) = s_ob X (X 9 r)) (m1 : M' 38 11 = M 38 11) (m2 : ∀ i, M' 46 i = M 46 i) (h : s_R9 X M) : s_R9 X' M' := by
  unfold s_R9
  rw [m1, e1]
  refine ⟨h.1, fun q => ?_⟩
  obtain ⟨g1, g2, g3, g4, g5⟩ := h.2 q
  rw [m2, m2, m2, e2, e2, e2]
  refine ⟨g1, g2, g3, fun j hj => ?_, fun r hr j hj => ?_⟩
  · rw [m2, e4]
    exact g4 j hj
  · rw [m2, e3, eo q r hr]
    exact g5 r hr j hj
/-- alike on the class' cells that answers lean on; on the reference's -/
def s_aC (X X' : ew_Mem) : Prop := ∀ a i : Nat, (a < 38 ∨ 59 ≤ a) → s_scr a i = false → X' a i = X a i
def s_aM (M M' : ew_Mem) : Prop := ∀ a i : Nat, (38 ≤ a ∧ a < 59) → s_scr a i = false → M' a i = M a i
theorem s_scr_n {a : Nat} (h : a < 27 ∨ a = 28 ∨ (39 ≤ a ∧ a < 47) ∨ 53 ≤ a) (i : Nat) : s_scr a i = false := by
  unfold s_scr
  simp
  omega
theorem s_lv_OB {c n : Nat} {X : ew_Mem} (hK : s_K c n X) {a : Int} (h : s_lv X a) : s_OB n X a := by
  obtain ⟨k0, k1, k2, k3, k4, k5, k6, -⟩ := hK
  rcases h with ⟨r, h1, h2⟩ | ⟨t, i, ht, hi, h1, h2⟩
  · have := k3.1
    rcases k4 r (by omega) with g | g
    · rw [h2] at g
      exact g.2
    · omega
  · rcases (k6 t ht).2 i hi with g | g
    · omega
    · rw [h1] at g
      exact g
theorem s_K_ag {c n : Nat} {X X' : ew_Mem} (e : s_aC X X') (hp : ew_Pm X') (h : s_K c n X) : s_K c n X' := by
  obtain ⟨k0, k1, k2, k3, k4, k5, k6, k7, k8, k9, k10⟩ := h
  have eo : s_eo n X X' := fun a h1 _ i => e a i (Or.inr h1) (s_scr_w h1)
  have ec : ∀ a : Nat, (a < 27 ∨ a = 28) → ∀ i, X' a i = X a i := fun a h i => e a i (by omega) (s_scr_n (by omega) i)
  have e27 : X' 27 1 = X 27 1 := e 27 1 (by omega) (by decide)
  refine ⟨k0, k1, hp, s_S1_ag (ec 5 (by omega)) (ec 7 (by omega)) k3, s_K2_ag (ec 5 (by omega) 2) (ec 6 (by omega)) eo (Nat.le_refl _) k4, s_K3_ag (ec 5 (by omega) 2) (ec 6 (by omega)) k5, s_K4_ag (fun t i ht _ => ec (12 + 2 * t) (by omega) i) (fun t i ht _ => ec (13 + 2 * t) (by omega) i) eo (Nat.le_refl _) k6, s_K5_ag (fun l hl => ec (21 + 2 * l) (by omega) 1) (fun l i hl _ => ec (22 + 2 * l) (by omega) i) k7, s_K6_ag e27 (ec 28 (by omega)) k8, s_K7_ag (ec 4 (by omega) 2) (ec 8 (by omega)) (ec 9 (by omega)) (ec 10 (by omega)) (fun a g _ => s_ob_eo eo g) (Nat.le_refl _) (fun a _ => s_lv_ag (ec 5 (by omega) 2) (ec 6 (by omega)) (fun t i ht _ => ec (13 + 2 * t) (by omega) i)) k9, ?_⟩
  rw [ec 4 (by omega) 6]
  exact k10
theorem s_R_ag {c n : Nat} {h : Int → Nat} {X X' M M' : ew_Mem} (hK : s_K c n X) (e : s_aC X X') (m : s_aM M M') (g : s_RM h X M) : s_RM h X' M' := by
  obtain ⟨g1, g2, g6, g7, g8, g9⟩ := g
  have eo : s_eo n X X' := fun a h1 _ i => e a i (Or.inr h1) (s_scr_w h1)
  have ec : ∀ a : Nat, (a < 27 ∨ a = 28) → ∀ i, X' a i = X a i := fun a h i => e a i (by omega) (s_scr_n (by omega) i)
  have e27 : X' 27 1 = X 27 1 := e 27 1 (by omega) (by decide)
  have mc : ∀ a : Nat, ((39 ≤ a ∧ a < 47) ∨ (53 ≤ a ∧ a < 59)) → ∀ i, M' a i = M a i := fun a h i => m a i (by omega) (s_scr_n (by omega) i)
  have m38 : ∀ i : Nat, s_scr 38 i = false → M' 38 i = M 38 i := fun i h => m 38 i (by omega) h
  refine ⟨s_R1_ag (ec 5 (by omega)) (ec 7 (by omega)) (m38 5 (by decide)) (m38 7 (by decide)) (m38 8 (by decide)) (mc 45 (by omega)) g1, s_R2_ag (ec 5 (by omega) 2) (ec 6 (by omega)) (fun t i ht _ => ec (13 + 2 * t) (by omega) i) (fun a ha => s_ob_eo eo (s_lv_OB hK ha)) (mc 39 (by omega)) (mc 40 (by omega)) (mc 41 (by omega)) (mc 42 (by omega)) (mc 43 (by omega)) (mc 44 (by omega)) (mc 56 (by omega)) g2, s_R6_ag (fun t i ht _ => ec (12 + 2 * t) (by omega) i) (mc 54 (by omega)) (mc 55 (by omega)) g6, s_R7_ag (fun l hl => ec (21 + 2 * l) (by omega) 1) (fun l i hl _ => ec (22 + 2 * l) (by omega) i) (mc 57 (by omega)) (mc 58 (by omega)) g7, s_R8_ag e27 (ec 28 (by omega)) (ec 4 (by omega) 6) (m38 21 (by decide)) (mc 53 (by omega)) (m38 22 (by decide)) g8, s_R9_ag (ec 4 (by omega) 2) (ec 8 (by omega)) (ec 9 (by omega)) (ec 10 (by omega)) (fun q r hr => ?_) (m38 11 (by decide)) (mc 46 (by omega)) g9⟩
  obtain ⟨k0, k1, k2, k3, k4, k5, k6, k7, k8, k9, k10⟩ := hK
  rcases k9 with k9 | k9
  · omega
  · have := k9.2.1.1
    rcases k9.2.2 r (by omega) with f | f
    · exact s_ob_eo eo f.2.1
    · omega
theorem s_V_r {X : ew_Mem} {r : Nat} (h : r < 6) : s_V X r = s_ob X (X 6 r) := by
  funext j
  unfold s_V
  rw [if_pos h]
theorem s_K_VO {c n : Nat} {X : ew_Mem} (h : s_K c n X) : s_VO (s_V X) := by
  obtain ⟨k0, k1, k2, k3, k4, -⟩ := h
  obtain ⟨a1, a2, a3, a4⟩ := k3
  refine ⟨a1, fun r hr => ?_, a2, a3, a4⟩
  have hr' : (r : Int) < X 5 2 := hr
  rw [s_V_r (by omega)]
  rcases k4 r (by omega) with g | g
  · exact g.2.2
  · omega
theorem s_K_C {c n : Nat} {X : ew_Mem} (h : s_K c n X) : s_C (s_V X) n X := by
  have hv := s_K_VO h
  obtain ⟨k0, k1, k2, k3, k4, -⟩ := h
  refine ⟨k0, k2, hv, rfl, rfl, rfl, fun j _ => rfl, fun r hr => ?_⟩
  have hr' : (r : Int) < X 5 2 := hr
  have := k3.1
  rw [s_V_r (by omega)]
  rcases k4 r (by omega) with g | g
  · exact ⟨g.2.1, rfl, rfl, rfl, rfl, rfl⟩
  · omega
theorem s_R_M {c n0 n : Nat} {h : Int → Nat} {X M : ew_Mem} (hK : s_K c n0 X) (hR : s_RM h X M) (hp : ew_Pm M) (hn : 59 ≤ n) : s_M (s_V X) n M := by
  have hv := s_K_VO hK
  obtain ⟨k0, k1, k2, k3, k4, -⟩ := hK
  obtain ⟨g1, g2, -⟩ := hR
  refine ⟨hn, hp, hv, g1.1, g1.2.1, g1.2.2.1, g1.2.2.2, fun r hr => ?_⟩
  have hr' : (r : Int) < X 5 2 := hr
  have := k3.1
  have hl := g2.2.2.1 (X 6 r) (Or.inl ⟨r, hr', rfl⟩)
  rw [s_V_r (by omega), g2.1 r hr', Int.toNat_natCast]
  exact ⟨by omega, hl.2⟩
theorem s_J_fr {c n : Nat} {M M' : ew_Mem} (h : s_Fr M M') (hJ : s_J c n M) : s_J c n M' := by
  have e : s_aC M M' := fun a i _ q => h a i q
  have m : s_aM M M' := fun a i _ q => h a i q
  obtain ⟨hK, g, hR⟩ := hJ
  exact ⟨s_K_ag e (s_Fr_pm h hK.2.2.1) hK, g, s_R_ag hK e m hR⟩
/-- one call more -/
theorem s_K_c {c n : Nat} {X : ew_Mem} (h : s_K c n X) : s_K (c + 1) n X := by
  obtain ⟨k0, k1, k2, k3, k4, k5, k6, k7, k8, k9, k10, k11⟩ := h
  exact ⟨k0, by omega, k2, k3, k4, k5, k6, k7, k8, k9, k10, by omega⟩
theorem s_J_c {c n : Nat} {X : ew_Mem} (h : s_J c n X) : s_J (c + 1) n X := ⟨s_K_c h.1, h.2⟩
