/-! the eclipses from a month on; gaps; records -/
/-- the eclipse months, j months from m on, at most c -/
def s_es (V : ew_Mem) : Nat → Int → Int → List Int
  | 0, _, _ => []
  | j + 1, m, c => if 0 < c then (if s_ecl V m = 0 then s_es V j (m + 1) c else m :: s_es V j (m + 1) (c - 1)) else []
/-- the eclipses that are looked for from m on, at most c -/
def s_E (V : ew_Mem) (m c : Int) : List Int := s_es V (min (m + 3999) 100000 - m + 1).toNat m c
theorem s_es_0 {V : ew_Mem} {c : Int} (h : ¬ 0 < c) : ∀ (j : Nat) (m : Int), s_es V j m c = []
  | 0, m => rfl
  | j + 1, m => by rw [s_es, if_neg h]
theorem s_es_len {V : ew_Mem} : ∀ (j : Nat) (m c : Int), 0 ≤ c → ((s_es V j m c).length : Int) ≤ c
  | 0, m, c, h => by simpa [s_es] using h
  | j + 1, m, c, h => by
    unfold s_es
    split
    · split
      · exact s_es_len j (m + 1) c h
      · have := s_es_len (V := V) j (m + 1) (c - 1) (by omega)
        simp only [List.length_cons]
        omega
    · simpa using h
theorem s_es_bd {V : ew_Mem} : ∀ (j : Nat) (m c : Int), ∀ a ∈ s_es V j m c, m ≤ a ∧ a < m + (j : Int)
  | 0, m, c, a, h => by cases h
  | j + 1, m, c, a, h => by
    unfold s_es at h
    split at h
    · split at h
      · have := s_es_bd j (m + 1) c a h
        omega
      · rcases List.mem_cons.mp h with rfl | h
        · omega
        · have := s_es_bd j (m + 1) (c - 1) a h
          omega
    · cases h
/-- the gaps after a -/
def s_dl : Int → List Int → List Int
  | _, [] => []
  | a, b :: l => (b - a) :: s_dl b l
def s_df : List Int → List Int
  | [] => []
  | a :: l => s_dl a l
theorem s_dl_len : ∀ (a : Int) (l : List Int), (s_dl a l).length = l.length
  | _, [] => rfl
  | a, b :: l => by simp [s_dl, s_dl_len b l]
theorem s_dl_get : ∀ (a : Int) (l : List Int) (i : Nat), i < l.length → (s_dl a l).getD i 0 = l.getD i 0 - (a :: l).getD i 0
  | _, [], i, h => by cases h
  | a, b :: l, 0, h => rfl
  | a, b :: l, i + 1, h => by
    have := s_dl_get b l i (by simpa using h)
    simpa [s_dl] using this
theorem s_df_len (l : List Int) : (s_df l).length = l.length - 1 := by
  cases l with
  | nil => rfl
  | cons a l => simp [s_df, s_dl_len]
theorem s_df_get {l : List Int} {i : Nat} (h : i + 1 < l.length) : (s_df l).getD i 0 = l.getD (i + 1) 0 - l.getD i 0 := by
  cases l with
  | nil => cases h
  | cons a l =>
    have := s_dl_get a l i (by simpa using h)
    simpa [s_df] using this
theorem s_dl_pos {V : ew_Mem} : ∀ (j : Nat) (m a c : Int), a < m → ∀ d ∈ s_dl a (s_es V j m c), 1 ≤ d ∧ d < m + (j : Int) - a
  | 0, m, a, c, h, d, hd => by cases hd
  | j + 1, m, a, c, h, d, hd => by
    unfold s_es at hd
    split at hd
    · split at hd
      · have := s_dl_pos j (m + 1) a c (by omega) d hd
        omega
      · rcases List.mem_cons.mp hd with rfl | hd
        · omega
        · have := s_dl_pos j (m + 1) m (c - 1) (by omega) d hd
          omega
    · cases hd
theorem s_df_pos {V : ew_Mem} : ∀ (j : Nat) (m c : Int), ∀ d ∈ s_df (s_es V j m c), 1 ≤ d ∧ d ≤ (j : Int)
  | 0, m, c, d, hd => by cases hd
  | j + 1, m, c, d, hd => by
    unfold s_es at hd
    split at hd
    · split at hd
      · have := s_df_pos j (m + 1) c d hd
        omega
      · have := s_dl_pos j (m + 1) m (c - 1) (by omega) d hd
        omega
    · cases hd
/-- how many of f i, .. are g -/
def s_ct (f : Nat → Int) (g : Int) : Nat → Nat → Int
  | 0, _ => 0
  | j + 1, i => (if f i = g then 1 else 0) + s_ct f g j (i + 1)
theorem s_ct_bd (f : Nat → Int) (g : Int) : ∀ (j i : Nat), 0 ≤ s_ct f g j i ∧ s_ct f g j i ≤ (j : Int)
  | 0, i => ⟨Int.le_refl _, Int.le_refl _⟩
  | j + 1, i => by
    have ih := s_ct_bd f g j (i + 1)
    unfold s_ct
    split <;> omega
theorem s_ct_pos (f : Nat → Int) {c : Nat} (h : 1 ≤ c) : 1 ≤ s_ct f (f 0) c 0 := by
  obtain ⟨j, rfl⟩ : ∃ j, c = j + 1 := ⟨c - 1, by omega⟩
  have := s_ct_bd f (f 0) j (0 + 1)
  unfold s_ct
  rw [if_pos rfl]
  omega
def s_gl (f : Nat → Int) (c : Nat) : Nat → Nat → Int → Int
  | 0, _, b => b
  | j + 1, i, b => s_gl f c j (i + 1) (if s_ct f b c 0 < s_ct f (f i) c 0 ∨ (s_ct f (f i) c 0 = s_ct f b c 0 ∧ f i < b) then f i else b)
def s_gm (f : Nat → Int) : Nat → Nat → Int → Int
  | 0, _, m => m
  | j + 1, i, m => s_gm f j (i + 1) (max m (f i))
def s_ga (f : Nat → Int) (c : Nat) (x : Int) (j i : Nat) (b mx : Int) : Int := if x = 0 then s_gl f c j i b else if x = 1 then s_ct f (s_gl f c j i b) c 0 else s_gm f j i mx
theorem s_gl_bd {f : Nat → Int} {c : Nat} {B : Int} (hf : ∀ i : Nat, i < c → 1 ≤ f i ∧ f i ≤ B) : ∀ (j i : Nat) (b : Int), i + j = c → (1 ≤ b ∧ b ≤ B) → 1 ≤ s_gl f c j i b ∧ s_gl f c j i b ≤ B
  | 0, _, b, _, hb => hb
  | j + 1, i, b, hc, hb => s_gl_bd hf j (i + 1) _ (by omega) (by split; exact hf i (by omega); exact hb)
def s_gF (V : ew_Mem) (m c : Int) : Nat → Int := fun i => (s_df (s_E V m (c + 1))).getD i 0
def s_a_gap (V : ew_Mem) (m c x : Int) : Int := if s_isM m ∧ (1 ≤ c ∧ c ≤ 60) ∧ 0 ≤ x ∧ x ≤ 2 then (if ((s_E V m (c + 1)).length : Int) < c + 1 then -5 else s_ga (s_gF V m c) c.toNat x (c.toNat - 1) 1 (s_gF V m c 0) (s_gF V m c 0)) else -2
theorem s_gF_bd {V : ew_Mem} {m c : Int} (hm : s_isM m) (hl : c + 1 ≤ ((s_E V m (c + 1)).length : Int)) : ∀ i : Nat, i < c.toNat → 1 ≤ s_gF V m c i ∧ s_gF V m c i ≤ 4000 := by
  intro i hi
  have h1 : i < (s_df (s_E V m (c + 1))).length := by rw [s_df_len]; omega
  have h2 := s_df_pos (min (m + 3999) 100000 - m + 1).toNat m (c + 1) _ (List.getElem_mem h1)
  unfold s_gF
  rw [List.getD_eq_getElem?_getD, List.getElem?_eq_getElem h1]
  exact ⟨h2.1, Int.le_trans h2.2 (by omega)⟩
/-- the months of the records, j cycles from d on, below b -/
def s_rc (V : ew_Mem) (x : Int) : Nat → Int → Int → List Int
  | 0, _, _ => []
  | j + 1, d, b => if s_drift V d x < b then d :: s_rc V x j (d + 1) (s_drift V d x) else s_rc V x j (d + 1) b
theorem s_rc_len {V : ew_Mem} {x : Int} : ∀ (j : Nat) (d b : Int), (s_rc V x j d b).length ≤ j
  | 0, _, _ => Nat.le_refl _
  | j + 1, d, b => by
    unfold s_rc
    split
    · have := s_rc_len (V := V) (x := x) j (d + 1) (s_drift V d x)
      simp only [List.length_cons]
      omega
    · have := s_rc_len (V := V) (x := x) j (d + 1) b
      omega
theorem s_rc_bd {V : ew_Mem} {x : Int} : ∀ (j : Nat) (d b : Int), ∀ a ∈ s_rc V x j d b, d ≤ a ∧ a < d + (j : Int)
  | 0, _, _, a, h => by cases h
  | j + 1, d, b, a, h => by
    unfold s_rc at h
    split at h
    · rcases List.mem_cons.mp h with rfl | h
      · omega
      · have := s_rc_bd j (d + 1) (s_drift V d x) a h
        omega
    · have := s_rc_bd j (d + 1) b a h
      omega
def s_R0 (V : ew_Mem) (k x : Int) : List Int := s_rc V x k.toNat 1 100000
def s_a_records (V : ew_Mem) (k x : Int) : Int := if s_isC k ∧ 0 ≤ x ∧ x ≤ 1 then (if V 6 0 = 0 then -3 else ((s_R0 V k x).length : Int)) else -2
def s_a_record (V : ew_Mem) (i x : Int) : Int := if 0 ≤ x ∧ x ≤ 1 then (if V 6 0 = 0 then -3 else s_nth (s_R0 V 2000 x) i) else -2
theorem s_drift_bd {V : ew_Mem} (hV : s_VO V) (h0 : 0 < V 6 0) (k x : Int) : 0 ≤ s_drift V k x ∧ s_drift V k x < 100000 := by
  obtain ⟨hc6, hVW, hnd, -⟩ := hV
  obtain ⟨k0, k1, k2, k3, k4⟩ := hVW (V 6 1).toNat (by omega)
  have := s_near_bd (s_at V (V 6 1).toNat k) (s_at V (V 6 1).toNat 0 + (if x = 0 then 0 else V (V 6 1).toNat 1 / 2)) (all := V (V 6 1).toNat 1) (by omega)
  unfold s_drift
  omega
theorem s_rc_top {V : ew_Mem} {x : Int} {j : Nat} {d b b' : Int} (h : s_drift V d x < b) (h' : s_drift V d x < b') : s_rc V x (j + 1) d b = s_rc V x (j + 1) d b' := by
  rw [s_rc, s_rc, if_pos h, if_pos h']
theorem s_rc_0 {V : ew_Mem} (hV : s_VO V) (h0 : 0 < V 6 0) {x b : Int} (h : b ≤ 0) : ∀ (j : Nat) (d : Int), s_rc V x j d b = []
  | 0, _ => rfl
  | j + 1, d => by
    have := s_drift_bd hV h0 d x
    rw [s_rc, if_neg (by omega)]
    exact s_rc_0 hV h0 h j (d + 1)
