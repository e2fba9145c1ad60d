/-! families that are rolled over the months -/
def s_sd (V : ew_Mem) (a : Int) (i : Nat) : Int := if s_ecl V (a + (i : Int)) = 0 then 0 else s_side V (a + (i : Int))
def s_zv (V : ew_Mem) (a : Int) (k : Nat) (Z : List Int) (i : Nat) : Int := if s_ecl V (a + (i : Int)) = 0 then 0 else if k ≤ i ∧ 0 < Z.getD (i - k) 0 ∧ s_sd V a (i - k) = s_sd V a i then Z.getD (i - k) 0 + 1 else 1
/-- the sizes of the first months -/
def s_zl (V : ew_Mem) (a : Int) (k : Nat) : Nat → List Int
  | 0 => []
  | i + 1 => s_zl V a k i ++ [s_zv V a k (s_zl V a k i) i]
def s_sdl (V : ew_Mem) (a : Int) : Nat → List Int
  | 0 => []
  | i + 1 => s_sdl V a i ++ [s_sd V a i]
def s_z (V : ew_Mem) (a : Int) (k t : Nat) : Int := s_zv V a k (s_zl V a k t) t
theorem s_zl_len {V : ew_Mem} {a : Int} {k : Nat} : ∀ i : Nat, (s_zl V a k i).length = i
  | 0 => rfl
  | i + 1 => by simp [s_zl, s_zl_len i]
theorem s_sdl_len {V : ew_Mem} {a : Int} : ∀ i : Nat, (s_sdl V a i).length = i
  | 0 => rfl
  | i + 1 => by simp [s_sdl, s_sdl_len i]
theorem s_ap_get {P : List Int} {v : Int} {t : Nat} : (P ++ [v]).getD t 0 = if t < P.length then P.getD t 0 else if t = P.length then v else 0 := by
  rw [List.getD_eq_getElem?_getD, List.getD_eq_getElem?_getD]
  by_cases h : t < P.length
  · rw [if_pos h, List.getElem?_append_left h]
  · rw [if_neg h, List.getElem?_append_right (by omega)]
    by_cases h2 : t = P.length
    · rw [if_pos h2, h2, Nat.sub_self]
      rfl
    · rw [if_neg h2, List.getElem?_eq_none (by simp; omega)]
      rfl
theorem s_zl_get {V : ew_Mem} {a : Int} {k : Nat} : ∀ (i t : Nat), t < i → (s_zl V a k i).getD t 0 = s_z V a k t
  | 0, t, h => by omega
  | i + 1, t, h => by
    rw [s_zl, s_ap_get, s_zl_len]
    by_cases h2 : t < i
    · rw [if_pos h2, s_zl_get i t h2]
    · have : t = i := by omega
      subst this
      rw [if_neg h2, if_pos rfl]
      rfl
theorem s_sdl_get {V : ew_Mem} {a : Int} : ∀ (i t : Nat), t < i → (s_sdl V a i).getD t 0 = s_sd V a t
  | 0, t, h => by omega
  | i + 1, t, h => by
    rw [s_sdl, s_ap_get, s_sdl_len]
    by_cases h2 : t < i
    · rw [if_pos h2, s_sdl_get i t h2]
    · have : t = i := by omega
      subst this
      rw [if_neg h2, if_pos rfl]
theorem s_z_eq {V : ew_Mem} {a : Int} {k : Nat} (hk : 1 ≤ k) (i : Nat) : s_z V a k i = if s_ecl V (a + (i : Int)) = 0 then 0 else if k ≤ i ∧ 0 < s_z V a k (i - k) ∧ s_sd V a (i - k) = s_sd V a i then s_z V a k (i - k) + 1 else 1 := by
  by_cases h : k ≤ i
  · rw [s_z, s_zv, s_zl_get i (i - k) (by omega)]
  · rw [s_z, s_zv]
    simp [h]
theorem s_z_bd {V : ew_Mem} {a : Int} {k : Nat} (hk : 1 ≤ k) (i : Nat) : 0 ≤ s_z V a k i ∧ s_z V a k i ≤ (i : Int) + 1 := by
  induction i using Nat.strongRecOn with
  | ind i ih =>
    rw [s_z_eq hk]
    split
    · omega
    · split
      · have := ih (i - k) (by omega)
        omega
      · omega
theorem s_sd_bd (V : ew_Mem) (a : Int) (i : Nat) : 0 ≤ s_sd V a i ∧ s_sd V a i ≤ 1 := by
  unfold s_sd
  have := s_side_bd V (a + (i : Int))
  split <;> omega
def s_zk (V : ew_Mem) (a : Int) (k t : Nat) : Int := if k ≤ t then s_z V a k (t - k) else 0
def s_rB (V : ew_Mem) (a : Int) (k : Nat) : Nat → Int
  | 0 => 0
  | i + 1 => s_rB V a k i + (if s_z V a k i = 1 then 1 else 0)
def s_rN (V : ew_Mem) (a : Int) (k : Nat) : Nat → Int
  | 0 => 0
  | i + 1 => s_rN V a k i + (if 0 < s_zk V a k i ∧ s_z V a k i ≤ 1 then 1 else 0)
def s_rX (V : ew_Mem) (a : Int) (k : Nat) : Nat → Int
  | 0 => 0
  | i + 1 => max (s_rX V a k i) (s_z V a k i)
def s_rO (V : ew_Mem) (a : Int) (k : Nat) : Nat → Int
  | 0 => 0
  | i + 1 => max (s_rO V a k i) (s_rB V a k (i + 1) - s_rN V a k (i + 1))
theorem s_r_bd {V : ew_Mem} {a : Int} {k : Nat} (hk : 1 ≤ k) : ∀ i : Nat, (0 ≤ s_rB V a k i ∧ s_rB V a k i ≤ (i : Int)) ∧ (0 ≤ s_rN V a k i ∧ s_rN V a k i ≤ (i : Int)) ∧ (0 ≤ s_rX V a k i ∧ s_rX V a k i ≤ (i : Int) + 1) ∧ 0 ≤ s_rO V a k i ∧ s_rO V a k i ≤ (i : Int)
  | 0 => ⟨⟨Int.le_refl _, Int.le_refl _⟩, ⟨Int.le_refl _, Int.le_refl _⟩, ⟨Int.le_refl _, show (0 : Int) ≤ 0 + 1 by decide⟩, Int.le_refl _, Int.le_refl _⟩
  | i + 1 => by
    have ih := s_r_bd (V := V) (a := a) hk i
    have hz := s_z_bd (V := V) (a := a) hk i
    have e1 : s_rB V a k (i + 1) = s_rB V a k i + (if s_z V a k i = 1 then 1 else 0) := rfl
    have e2 : s_rN V a k (i + 1) = s_rN V a k i + (if 0 < s_zk V a k i ∧ s_z V a k i ≤ 1 then 1 else 0) := rfl
    have e3 : s_rX V a k (i + 1) = max (s_rX V a k i) (s_z V a k i) := rfl
    have e4 : s_rO V a k (i + 1) = max (s_rO V a k i) (s_rB V a k (i + 1) - s_rN V a k (i + 1)) := rfl
    refine ⟨?_, ?_, ?_, ?_⟩
    · rw [e1]; split <;> omega
    · rw [e2]; split <;> omega
    · rw [e3]; omega
    · rw [e4, e1, e2]; split <;> split <;> omega
/-- how many of f t, .. are positive -/
def s_pc (f : Nat → Int) : Nat → Nat → Int
  | 0, _ => 0
  | j + 1, t => (if 0 < f t then 1 else 0) + s_pc f j (t + 1)
def s_pC (f : Nat → Int) : Nat → Int
  | 0 => 0
  | i + 1 => s_pC f i + (if 0 < f i then 1 else 0)
theorem s_pc_C (f : Nat → Int) : ∀ (j t : Nat), s_pc f j t = s_pC f (t + j) - s_pC f t
  | 0, t => by
    show 0 = _
    rw [Nat.add_zero]
    omega
  | j + 1, t => by
    rw [s_pc, s_pc_C f j (t + 1), show t + (j + 1) = t + 1 + j by omega, s_pC]
    omega
theorem s_win {V : ew_Mem} {a : Int} {k : Nat} (hk : 1 ≤ k) : ∀ i : Nat, s_rB V a k i - s_rN V a k i = s_pC (s_z V a k) i - s_pC (s_z V a k) (i - k)
  | 0 => by rw [Nat.zero_sub]; show (0 : Int) - 0 = _; omega
  | i + 1 => by
    have ih := s_win (V := V) (a := a) hk i
    have hz := s_z_bd (V := V) (a := a) hk i
    have hz2 := s_z_bd (V := V) (a := a) hk (i - k)
    have hq := s_z_eq (V := V) (a := a) hk i
    rw [s_rB, s_rN, s_pC]
    have hzk : s_pC (s_z V a k) (i + 1 - k) = s_pC (s_z V a k) (i - k) + (if 0 < s_zk V a k i then 1 else 0) := by
      unfold s_zk
      by_cases h : k ≤ i
      · rw [show i + 1 - k = (i - k) + 1 by omega, s_pC]
        simp [h]
      · rw [show i + 1 - k = 0 by omega, show i - k = 0 by omega]
        simp [h]
    rw [hzk]
    have hzk2 : s_zk V a k i = if k ≤ i then s_z V a k (i - k) else 0 := rfl
    by_cases h2 : 2 ≤ s_z V a k i
    · have : 0 < s_zk V a k i := by
        rw [hzk2]
        split at hq
        · omega
        · split at hq
          · rename_i h3
            rw [if_pos h3.1]
            exact h3.2.1
          · omega
      rw [if_neg (by omega), if_neg (by omega), if_pos (by omega), if_pos this]
      omega
    · by_cases h1 : s_z V a k i = 1
      · rw [if_pos h1, if_pos (show 0 < s_z V a k i by omega)]
        by_cases h3 : 0 < s_zk V a k i
        · rw [if_pos ⟨h3, by omega⟩, if_pos h3]
          omega
        · rw [if_neg (fun q => h3 q.1), if_neg h3]
          omega
      · rw [if_neg h1, if_neg (show ¬ 0 < s_z V a k i by omega)]
        by_cases h3 : 0 < s_zk V a k i
        · rw [if_pos ⟨h3, by omega⟩, if_pos h3]
          omega
        · rw [if_neg (fun q => h3 q.1), if_neg h3]
          omega
def s_ra (V : ew_Mem) (a : Int) (k L : Nat) (x : Int) : Int := if x = 0 then s_rB V a k L else if x = 1 then s_rN V a k L else if x = 2 then s_rB V a k L - s_rN V a k L else if x = 3 then s_rX V a k L else s_rO V a k L
def s_a_roll (V : ew_Mem) (a b k x : Int) : Int := if s_isS a b 200 ∧ s_isC k ∧ 0 ≤ x ∧ x ≤ 4 then s_ra V a k.toNat (b - a + 1).toNat x else -2
/-- the memory after so many months are rolled -/
def s_rm (V : ew_Mem) (M : ew_Mem) (p q : Nat) (a : Int) (k i j : Nat) : ew_Mem := s_put (s_put M p (s_zl V a k i)) q (s_sdl V a j)
theorem s_rm_fr {V M : ew_Mem} {p q : Nat} {a : Int} {k i j : Nat} (hp : ∀ t, s_scr p t = true) (hq : ∀ t, s_scr q t = true) : s_Fr M (s_rm V M p q a k i j) := s_put_fr (s_put_fr s_Fr_rfl hp) hq
theorem s_rm_z {V M : ew_Mem} {p q : Nat} {a : Int} {k i j t : Nat} (hpq : ¬ p = q) (h : t < i) : s_rm V M p q a k i j p t = s_z V a k t := by
  unfold s_rm
  rw [s_put_ne hpq, s_put_rd (by rw [s_zl_len]; exact h), s_zl_get i t h]
theorem s_rm_s {V M : ew_Mem} {p q : Nat} {a : Int} {k i j t : Nat} (h : t < j) : s_rm V M p q a k i j q t = s_sd V a t := by
  unfold s_rm
  rw [s_put_rd (by rw [s_sdl_len]; exact h), s_sdl_get j t h]
theorem s_wr_put {M : ew_Mem} {a c i : Nat} {v : Int} {T : List Int} (h : ¬ a = c) : ew_wr (s_put M c T) a i v = s_put (ew_wr M a i v) c T := by
  funext b j
  simp only [ew_wr, s_put]
  by_cases h1 : b = a
  · subst h1
    simp [h]
  · simp [h1]
theorem s_rm_wz {V M : ew_Mem} {p q : Nat} {a : Int} {k i j : Nat} {v : Int} (hpq : ¬ p = q) (hv : v = s_z V a k i) : ew_wr (s_rm V M p q a k i j) p i v = s_rm V M p q a k (i + 1) j := by
  have h := s_put_wr (M := M) (a := p) (P := s_zl V a k i) (v := v)
  rw [s_zl_len] at h
  unfold s_rm
  rw [s_wr_put hpq, h, hv]
  rfl
theorem s_rm_ws {V M : ew_Mem} {p q : Nat} {a : Int} {k i j : Nat} {v : Int} (hv : v = s_sd V a j) : ew_wr (s_rm V M p q a k i j) q j v = s_rm V M p q a k i (j + 1) := by
  have h := s_put_wr (M := s_put M p (s_zl V a k i)) (a := q) (P := s_sdl V a j) (v := v)
  rw [s_sdl_len] at h
  unfold s_rm
  rw [h, hv]
  rfl
theorem s_rm_0 {V M : ew_Mem} {p q : Nat} {a : Int} {k : Nat} : s_rm V M p q a k 0 0 = M := by
  unfold s_rm s_zl s_sdl
  rw [s_put_nil, s_put_nil]
