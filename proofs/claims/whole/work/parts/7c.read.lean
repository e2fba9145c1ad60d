/-! texts: what they say -/
def s_hr (B : Nat → Int) (z p : Nat) : Int := if p < z then B p else -1
abbrev s_dg9 (x : Int) : Prop := 48 ≤ x ∧ x ≤ 57
/-- a number's digits: where they end, what they are -/
def s_nm (B : Nat → Int) (z : Nat) : Nat → Nat → Int → Nat × Int
  | 0, p, v => (p, v)
  | f + 1, p, v => if s_dg9 (s_hr B z p) then s_nm B z f (p + 1) (v * 10 + s_hr B z p - 48) else (p, v)
def s_kd (x : Int) : Int := if x = 98 then 1 else if x = 103 then 4 else if x = 104 then 3 else if x = 108 then 2 else if x = 119 then 0 else -1
abbrev s_isL (x : Int) : Prop := ¬ s_kd x = -1 ∨ x = 110 ∨ x = 97 ∨ x = 111 ∨ x = 105
/-- a wheel's parts and start, behind its step: whether they are right, where they end -/
def s_wh (B : Nat → Int) (z p : Nat) : Bool × Nat × Int × Int :=
  if s_hr B z p = 47 then
    (if s_dg9 (s_hr B z (p + 1)) then
      (if s_hr B z (s_nm B z 6 (p + 1) 0).1 = 43 then (decide (s_dg9 (s_hr B z ((s_nm B z 6 (p + 1) 0).1 + 1))), (s_nm B z 6 ((s_nm B z 6 (p + 1) 0).1 + 1) 0).1, (s_nm B z 6 (p + 1) 0).2, (s_nm B z 6 ((s_nm B z 6 (p + 1) 0).1 + 1) 0).2)
      else (true, (s_nm B z 6 (p + 1) 0).1, (s_nm B z 6 (p + 1) 0).2, 0))
    else (false, p + 1, 0, 0))
  else (false, p, 0, 0)
/-- a statement: whether it is right, where it ends, its numbers -/
def s_st (B : Nat → Int) (z p : Nat) : Bool × Nat × Int × Int × Int :=
  if s_isL (s_hr B z p) then
    (if s_dg9 (s_hr B z (p + 1)) then
      (if s_kd (s_hr B z p) = -1 then (true, (s_nm B z 6 (p + 1) 0).1, (s_nm B z 6 (p + 1) 0).2, 0, 0)
      else ((s_wh B z (s_nm B z 6 (p + 1) 0).1).1, (s_wh B z (s_nm B z 6 (p + 1) 0).1).2.1, (s_nm B z 6 (p + 1) 0).2, (s_wh B z (s_nm B z 6 (p + 1) 0).1).2.2))
    else (false, p + 1, 0, 0, 0))
  else (false, p, 0, 0, 0)
/-- where it begins, its letter, its numbers -/
abbrev s_ST : Type := Nat × Int × Int × Int × Int
def s_ps (B : Nat → Int) (z : Nat) : Nat → Nat → Bool × Nat × List s_ST
  | 0, p => (false, p, [])
  | f + 1, p => if (s_st B z p).1 = true then
      (if s_hr B z (s_st B z p).2.1 = 59 then ((s_ps B z f ((s_st B z p).2.1 + 1)).1, (s_ps B z f ((s_st B z p).2.1 + 1)).2.1, (p, s_hr B z p, (s_st B z p).2.2) :: (s_ps B z f ((s_st B z p).2.1 + 1)).2.2)
      else (decide (z ≤ (s_st B z p).2.1), (s_st B z p).2.1, [(p, s_hr B z p, (s_st B z p).2.2)]))
    else (false, (s_st B z p).2.1, [])
/-- the tape in the class' memory -/
def s_TP (B : Nat → Int) (z : Nat) (M : ew_Mem) : Prop := ew_Pm M ∧ M 27 1 = (z : Int) ∧ z ≤ 80 ∧ (∀ i : Nat, i < 80 → M 28 i = B i) ∧ ∀ i : Nat, i < 80 → 0 ≤ B i ∧ B i ≤ 127
/-- the reader stands at p; f: it has found a fault -/
def s_Q (M : ew_Mem) (p : Nat) (f : Int) : ew_Mem := ew_wr (ew_wr M 27 6 (p : Int)) 27 7 f
theorem s_wr_cm {M : ew_Mem} {a i b j : Nat} {v w : Int} (h : ¬ (a = b ∧ i = j)) : ew_wr (ew_wr M a i v) b j w = ew_wr (ew_wr M b j w) a i v := by
  funext c k
  unfold ew_wr
  by_cases h1 : c = b
  · by_cases h2 : k = j
    · by_cases h3 : c = a
      · have : ¬ k = i := by omega
        simp [h1, h2, h3]
        omega
      · simp [h1, h2]
        omega
    · simp [h1, h2]
  · simp [h1]
theorem s_wr_id {M : ew_Mem} {a i : Nat} {v : Int} (h : M a i = v) : ew_wr M a i v = M := by
  funext c k
  unfold ew_wr
  by_cases h1 : c = a
  · by_cases h2 : k = i
    · rw [if_pos h1, if_pos h2, h1, h2, h]
    · rw [if_pos h1, if_neg h2]
  · rw [if_neg h1]
theorem s_Q_p {M : ew_Mem} {p : Nat} {f : Int} : s_Q M p f 27 6 = (p : Int) := rfl
theorem s_Q_f {M : ew_Mem} {p : Nat} {f : Int} : s_Q M p f 27 7 = f := rfl
theorem s_Q_o {M : ew_Mem} {p a j : Nat} {f : Int} (h : ¬ (a = 27 ∧ (j = 6 ∨ j = 7))) : s_Q M p f a j = M a j := by
  unfold s_Q
  by_cases h1 : a = 27
  · subst h1
    rw [s_ne_ri (by omega), s_ne_ri (by omega)]
  · rw [s_ne_rd h1, s_ne_rd h1]
theorem s_Q_w {M : ew_Mem} {p a j : Nat} {f v : Int} (h : ¬ (a = 27 ∧ (j = 6 ∨ j = 7))) : ew_wr (s_Q M p f) a j v = s_Q (ew_wr M a j v) p f := by
  unfold s_Q
  rw [s_wr_cm (by omega), s_wr_cm (M := M) (by omega)]
theorem s_Q_6 {M : ew_Mem} {p q : Nat} {f : Int} {v : Int} (h : v = (q : Int)) : ew_wr (s_Q M p f) 27 6 v = s_Q M q f := by
  subst h
  unfold s_Q
  rw [s_wr_cm (by omega), s_wr_2]
theorem s_Q_7 {M : ew_Mem} {p : Nat} {f g : Int} : ew_wr (s_Q M p f) 27 7 g = s_Q M p g := by
  unfold s_Q
  rw [s_wr_2]
theorem s_Q_pm {M : ew_Mem} {p : Nat} {f : Int} (hp : ew_Pm M) : ew_Pm (s_Q M p f) := ew_Pm_wr (ew_Pm_wr hp rfl) rfl
theorem s_hr_bd {B : Nat → Int} {z : Nat} (hz : z ≤ 80) (hB : ∀ i : Nat, i < 80 → 0 ≤ B i ∧ B i ≤ 127) (p : Nat) : -1 ≤ s_hr B z p ∧ s_hr B z p ≤ 127 := by
  unfold s_hr
  split
  · have := hB p (by omega)
    omega
  · omega
theorem s_nm_0 {B : Nat → Int} {z f p : Nat} {v : Int} (h : ¬ s_dg9 (s_hr B z p)) : s_nm B z f p v = (p, v) := by
  cases f with
  | zero => rfl
  | succ f => rw [s_nm, if_neg h]
theorem s_nm_bd {B : Nat → Int} {z : Nat} : ∀ (f p : Nat) (v : Int), 0 ≤ v → p ≤ (s_nm B z f p v).1 ∧ 0 ≤ (s_nm B z f p v).2 ∧ (s_nm B z f p v).2 < (v + 1) * 10 ^ f
  | 0, p, v, hv => ⟨Nat.le_refl _, hv, by show v < (v + 1) * 1; omega⟩
  | f + 1, p, v, hv => by
    unfold s_nm
    split
    · rename_i h
      have ih := s_nm_bd (B := B) (z := z) f (p + 1) (v * 10 + s_hr B z p - 48) (by omega)
      refine ⟨by omega, ih.2.1, ?_⟩
      have h2 := ih.2.2
      have h3 : (v * 10 + s_hr B z p - 48 + 1) * 10 ^ f ≤ ((v + 1) * 10) * 10 ^ f := Int.mul_le_mul_of_nonneg_right (by omega) (Int.le_of_lt (Int.pow_pos (by decide)))
      rw [Int.mul_assoc, ← Int.pow_succ', ] at h3
      omega
    · refine ⟨Nat.le_refl _, hv, ?_⟩
      have : (v + 1) * 1 ≤ (v + 1) * 10 ^ (f + 1) := Int.mul_le_mul_of_nonneg_left (by have h10 : (0 : Int) < 10 ^ (f + 1) := Int.pow_pos (by decide); omega) (by omega)
      omega
theorem s_nm_le {B : Nat → Int} {z : Nat} : ∀ (f p : Nat) (v : Int), (s_nm B z f p v).1 ≤ p + f
  | 0, p, v => Nat.le_refl _
  | f + 1, p, v => by
    unfold s_nm
    split
    · have := s_nm_le (B := B) (z := z) f (p + 1) (v * 10 + s_hr B z p - 48)
      omega
    · omega
theorem s_nm_6 {B : Nat → Int} {z p : Nat} : p ≤ (s_nm B z 6 p 0).1 ∧ 0 ≤ (s_nm B z 6 p 0).2 ∧ (s_nm B z 6 p 0).2 < 1000000 := by
  have h := s_nm_bd (B := B) (z := z) 6 p 0 (by decide)
  exact ⟨h.1, h.2.1, by have := h.2.2; omega⟩
theorem s_nm_pz {B : Nat → Int} {z : Nat} : ∀ (f p : Nat) (v : Int), p ≤ z → (s_nm B z f p v).1 ≤ z
  | 0, p, v, h => h
  | f + 1, p, v, h => by
    unfold s_nm
    split
    · rename_i h1
      have : p < z := by
        unfold s_hr at h1
        split at h1
        · assumption
        · omega
      exact s_nm_pz f (p + 1) _ (by omega)
    · exact h
theorem s_nm_pos {B : Nat → Int} {z p : Nat} (h : s_dg9 (s_hr B z p)) : p + 1 ≤ (s_nm B z 6 p 0).1 := by
  rw [s_nm, if_pos h]
  exact (s_nm_bd 5 (p + 1) _ (by omega)).1
theorem s_hr_z {B : Nat → Int} {z p : Nat} (h : ¬ s_hr B z p = -1) : p < z := by
  unfold s_hr at h
  split at h
  · assumption
  · exact absurd rfl h
theorem s_kd_bd (x : Int) : -1 ≤ s_kd x ∧ s_kd x ≤ 4 := by
  unfold s_kd
  repeat' split
  all_goals omega
theorem s_isL_z {B : Nat → Int} {z p : Nat} (h : s_isL (s_hr B z p)) : p < z := by
  apply s_hr_z
  intro e
  rw [e] at h
  rcases h with h | h
  · exact h (by decide)
  · omega
set_option maxRecDepth 20000 in
theorem c_kindOf {n : Nat} {M : ew_Mem} {x : Int} (hx : ew_in x) : ew_FM 53 [(0, x)] n M (0, s_kd x) n M := by
  have hc := ew_c_53
  show ew_X 53 0 [(0, x)] [] n M _
  refine xr_go hc rfl rfl ?_
  by_cases c1_0 : x = 98
  · subst c1_0
    refine xr_ls hc rfl (by decide) 54 (by decide) ?_
    refine xr_go hc rfl rfl ?_
    refine xr_ret hc rfl rfl ?_
    first
      | exact ⟨rfl, rfl, rfl⟩
      | (refine ⟨?_, rfl, rfl⟩
         unfold s_kd
         rw [if_neg (by assumption), if_neg (by assumption), if_neg (by assumption), if_neg (by assumption), if_neg (by assumption)])
  by_cases c1_1 : x = 103
  · subst c1_1
    refine xr_ls hc rfl (by decide) 60 (by decide) ?_
    refine xr_go hc rfl rfl ?_
    refine xr_ret hc rfl rfl ?_
    first
      | exact ⟨rfl, rfl, rfl⟩
      | (refine ⟨?_, rfl, rfl⟩
         unfold s_kd
         rw [if_neg (by assumption), if_neg (by assumption), if_neg (by assumption), if_neg (by assumption), if_neg (by assumption)])
  by_cases c1_2 : x = 104
  · subst c1_2
    refine xr_ls hc rfl (by decide) 58 (by decide) ?_
    refine xr_go hc rfl rfl ?_
    refine xr_ret hc rfl rfl ?_
    first
      | exact ⟨rfl, rfl, rfl⟩
      | (refine ⟨?_, rfl, rfl⟩
         unfold s_kd
         rw [if_neg (by assumption), if_neg (by assumption), if_neg (by assumption), if_neg (by assumption), if_neg (by assumption)])
  by_cases c1_3 : x = 108
  · subst c1_3
    refine xr_ls hc rfl (by decide) 56 (by decide) ?_
    refine xr_go hc rfl rfl ?_
    refine xr_ret hc rfl rfl ?_
    first
      | exact ⟨rfl, rfl, rfl⟩
      | (refine ⟨?_, rfl, rfl⟩
         unfold s_kd
         rw [if_neg (by assumption), if_neg (by assumption), if_neg (by assumption), if_neg (by assumption), if_neg (by assumption)])
  by_cases c1_4 : x = 119
  · subst c1_4
    refine xr_ls hc rfl (by decide) 52 (by decide) ?_
    refine xr_go hc rfl rfl ?_
    refine xr_ret hc rfl rfl ?_
    first
      | exact ⟨rfl, rfl, rfl⟩
      | (refine ⟨?_, rfl, rfl⟩
         unfold s_kd
         rw [if_neg (by assumption), if_neg (by assumption), if_neg (by assumption), if_neg (by assumption), if_neg (by assumption)])
  refine xr_ls hc rfl hx 62 (by show (1 : Int) + Op.lookupswitch.offset [(98, 53), (103, 59), (104, 57), (108, 55), (119, 51)] 61 x = _; rw [Op.lookupswitch.offset_cons, if_neg (fun q => c1_0 q.symm), Op.lookupswitch.offset_cons, if_neg (fun q => c1_1 q.symm), Op.lookupswitch.offset_cons, if_neg (fun q => c1_2 q.symm), Op.lookupswitch.offset_cons, if_neg (fun q => c1_3 q.symm), Op.lookupswitch.offset_cons, if_neg (fun q => c1_4 q.symm)]; rfl) ?_
  refine xr_go hc rfl rfl ?_
  refine xr_ret hc rfl rfl ?_
  first
    | exact ⟨rfl, rfl, rfl⟩
    | (refine ⟨?_, rfl, rfl⟩
       unfold s_kd
       rw [if_neg (by assumption), if_neg (by assumption), if_neg (by assumption), if_neg (by assumption), if_neg (by assumption)])

set_option maxRecDepth 20000 in
theorem m_kindOf {n : Nat} {M : ew_Mem} {x : Int} (hx : ew_in x) : ew_FM 220 [(0, x)] n M (0, s_kd x) n M := by
  have hc := ew_c_220
  show ew_X 220 0 [(0, x)] [] n M _
  refine xr_go hc rfl rfl ?_
  by_cases c1_0 : x = 98
  · subst c1_0
    refine xr_ls hc rfl (by decide) 54 (by decide) ?_
    refine xr_go hc rfl rfl ?_
    refine xr_ret hc rfl rfl ?_
    first
      | exact ⟨rfl, rfl, rfl⟩
      | (refine ⟨?_, rfl, rfl⟩
         unfold s_kd
         rw [if_neg (by assumption), if_neg (by assumption), if_neg (by assumption), if_neg (by assumption), if_neg (by assumption)])
  by_cases c1_1 : x = 103
  · subst c1_1
    refine xr_ls hc rfl (by decide) 60 (by decide) ?_
    refine xr_go hc rfl rfl ?_
    refine xr_ret hc rfl rfl ?_
    first
      | exact ⟨rfl, rfl, rfl⟩
      | (refine ⟨?_, rfl, rfl⟩
         unfold s_kd
         rw [if_neg (by assumption), if_neg (by assumption), if_neg (by assumption), if_neg (by assumption), if_neg (by assumption)])
  by_cases c1_2 : x = 104
  · subst c1_2
    refine xr_ls hc rfl (by decide) 58 (by decide) ?_
    refine xr_go hc rfl rfl ?_
    refine xr_ret hc rfl rfl ?_
    first
      | exact ⟨rfl, rfl, rfl⟩
      | (refine ⟨?_, rfl, rfl⟩
         unfold s_kd
         rw [if_neg (by assumption), if_neg (by assumption), if_neg (by assumption), if_neg (by assumption), if_neg (by assumption)])
  by_cases c1_3 : x = 108
  · subst c1_3
    refine xr_ls hc rfl (by decide) 56 (by decide) ?_
    refine xr_go hc rfl rfl ?_
    refine xr_ret hc rfl rfl ?_
    first
      | exact ⟨rfl, rfl, rfl⟩
      | (refine ⟨?_, rfl, rfl⟩
         unfold s_kd
         rw [if_neg (by assumption), if_neg (by assumption), if_neg (by assumption), if_neg (by assumption), if_neg (by assumption)])
  by_cases c1_4 : x = 119
  · subst c1_4
    refine xr_ls hc rfl (by decide) 52 (by decide) ?_
    refine xr_go hc rfl rfl ?_
    refine xr_ret hc rfl rfl ?_
    first
      | exact ⟨rfl, rfl, rfl⟩
      | (refine ⟨?_, rfl, rfl⟩
         unfold s_kd
         rw [if_neg (by assumption), if_neg (by assumption), if_neg (by assumption), if_neg (by assumption), if_neg (by assumption)])
  refine xr_ls hc rfl hx 62 (by show (1 : Int) + Op.lookupswitch.offset [(98, 53), (103, 59), (104, 57), (108, 55), (119, 51)] 61 x = _; rw [Op.lookupswitch.offset_cons, if_neg (fun q => c1_0 q.symm), Op.lookupswitch.offset_cons, if_neg (fun q => c1_1 q.symm), Op.lookupswitch.offset_cons, if_neg (fun q => c1_2 q.symm), Op.lookupswitch.offset_cons, if_neg (fun q => c1_3 q.symm), Op.lookupswitch.offset_cons, if_neg (fun q => c1_4 q.symm)]; rfl) ?_
  refine xr_go hc rfl rfl ?_
  refine xr_ret hc rfl rfl ?_
  first
    | exact ⟨rfl, rfl, rfl⟩
    | (refine ⟨?_, rfl, rfl⟩
       unfold s_kd
       rw [if_neg (by assumption), if_neg (by assumption), if_neg (by assumption), if_neg (by assumption), if_neg (by assumption)])

set_option maxRecDepth 20000 in
theorem c_byteHere {n : Nat} {M : ew_Mem} {B : Nat → Int} {z p : Nat} (hn : 59 ≤ n) (hT : s_TP B z M) (hpz : p ≤ 190) {f : Int}  : ew_FM 52 [(2, 27)] n (s_Q M p f) (0, s_hr B z p) n (s_Q M p f) := by
  obtain ⟨hp0, hz1, hz8, hB28, hB⟩ := id hT
  have hp : ew_Pm (s_Q M p f) := s_Q_pm hp0
  have hc := ew_c_52
  show ew_X 52 0 [(2, 27)] [] n _ _
  refine xr_go hc rfl rfl ?_
  refine xr_gf0 (A := 27) rfl hc rfl (ew_own_p hn rfl) (show _ = ((p : Nat) : Int) from s_Q_p) ?_
  refine xr_if_lt hc rfl (by omega) (fun c1 => ?_) (fun c1 => ?_)
  · skip
    refine xr_go hc rfl rfl ?_
    refine xr_ret hc rfl rfl ?_
    refine ⟨?_, rfl, rfl⟩
    unfold s_hr
    first
      | (rw [if_pos (by omega)]; done)
      | (rw [if_neg (by omega)]; done)
      | (exfalso; omega)
  · skip
    refine xr_go hc rfl rfl ?_
    refine xr_gf0 (A := 27) rfl hc rfl (ew_own_p hn rfl) (show _ = ((p : Nat) : Int) from s_Q_p) ?_
    refine xr_go hc rfl rfl ?_
    refine xr_gf0 (A := 27) rfl hc rfl (ew_own_p hn rfl) (show _ = (z : Int) from (s_Q_o (by decide)).trans hz1) ?_
    refine xr_icmp_ge hc rfl (by omega) (by omega) (fun c2 => ?_) (fun c2 => ?_)
    · skip
      refine xr_go hc rfl rfl ?_
      refine xr_ret hc rfl rfl ?_
      refine ⟨?_, rfl, rfl⟩
      unfold s_hr
      first
        | (rw [if_pos (by omega)]; done)
        | (rw [if_neg (by omega)]; done)
        | (exfalso; omega)
    · skip
      refine xr_go hc rfl rfl ?_
      refine xr_gf0 (A := 27) rfl hc rfl (ew_own_p hn rfl) (show _ = ((p : Nat) : Int) from s_Q_p) ?_
      refine xr_go hc rfl rfl ?_
      refine xr_icmp_ge hc rfl (by omega) (by decide) (fun c3 => ?_) (fun c3 => ?_)
      · skip
        refine xr_go hc rfl rfl ?_
        refine xr_ret hc rfl rfl ?_
        refine ⟨?_, rfl, rfl⟩
        unfold s_hr
        first
          | (rw [if_pos (by omega)]; done)
          | (rw [if_neg (by omega)]; done)
          | (exfalso; omega)
      · skip
        refine xr_go hc rfl rfl ?_
        refine xr_gf2 (A := 27) (w := 28) rfl hc rfl (ew_own_p hn rfl) (ew_pm hp rfl) ?_
        refine xr_go hc rfl rfl ?_
        refine xr_gf0 (A := 27) rfl hc rfl (ew_own_p hn rfl) (show _ = ((p : Nat) : Int) from s_Q_p) ?_
        refine xr_iald (A := 28) (N := 80) rfl rfl hc rfl (ew_ok_p hn rfl) (by omega) (by omega) ((s_Q_o (by omega)).trans (hB28 p (by omega))) ?_
        refine xr_go hc rfl rfl ?_
        refine xr_ret hc rfl rfl ?_
        refine ⟨?_, rfl, rfl⟩
        unfold s_hr
        first
          | (rw [if_pos (by omega)]; done)
          | (rw [if_neg (by omega)]; done)
          | (exfalso; omega)

set_option maxRecDepth 20000 in
theorem c_isDigit {n : Nat} {M : ew_Mem} {x : Int} (hx : ew_in x) : ew_FM 55 [(2, 27), (0, x)] n M (0, if s_dg9 x then 1 else 0) n M := by
  have hc := ew_c_55
  show ew_X 55 0 [(2, 27), (0, x)] [] n M _
  refine xr_go hc rfl rfl ?_
  refine xr_go hc rfl rfl ?_
  refine xr_icmp_lt hc rfl (by omega) (by decide) (fun c1 => ?_) (fun c1 => ?_)
  · skip
    refine xr_go hc rfl rfl ?_
    refine xr_ret hc rfl rfl ?_
    exact ⟨by congr 2; split <;> omega, rfl, rfl⟩
  · skip
    refine xr_go hc rfl rfl ?_
    refine xr_go hc rfl rfl ?_
    refine xr_icmp_gt hc rfl (by omega) (by decide) (fun c2 => ?_) (fun c2 => ?_)
    · skip
      refine xr_go hc rfl rfl ?_
      refine xr_ret hc rfl rfl ?_
      exact ⟨by congr 2; split <;> omega, rfl, rfl⟩
    · skip
      refine xr_go hc rfl rfl ?_
      refine xr_go hc rfl rfl ?_
      refine xr_ret hc rfl rfl ?_
      exact ⟨by congr 2; split <;> omega, rfl, rfl⟩

set_option maxRecDepth 20000 in
theorem c_acc1 {n : Nat} {M : ew_Mem} {B : Nat → Int} {z p : Nat} (hn : 59 ≤ n) (hT : s_TP B z M) (hpz : p ≤ 190) {f : Int} {x : Int} (hx : ew_in x) (h : s_hr B z p = x) : ew_FM 58 [(2, 27), (0, x)] n (s_Q M p f) (0, 1) n (s_Q M (p + 1) f) := by
  obtain ⟨hp0, hz1, hz8, hB28, hB⟩ := id hT
  have hp : ew_Pm (s_Q M p f) := s_Q_pm hp0
  have hbd := s_hr_bd (B := B) (z := z) hz8 hB p
  have hc := ew_c_58
  show ew_X 58 0 [(2, 27), (0, x), (5, 0)] [] n _ _
  refine xr_go hc rfl rfl ?_
  refine xr_v_1 hc rfl rfl (ew_own_p hn rfl) (c_byteHere hn hT hpz) ?_
  refine xr_go hc rfl rfl ?_
  refine xr_icmp_ne hc rfl (by omega) (by omega) (fun c1 => ?_) (fun c1 => ?_)
  · exfalso; omega
  · skip
    refine xr_go hc rfl rfl ?_
    refine xr_go hc rfl rfl ?_
    refine xr_s1_2 hc rfl rfl rfl ?_
    refine xr_go hc rfl rfl ?_
    refine xr_if_eq hc rfl (by decide) (fun c2 => by exfalso; omega) (fun c2 => ?_)
    refine xr_go hc rfl rfl ?_
    refine xr_go hc rfl rfl ?_
    refine xr_gf0 (A := 27) rfl hc rfl (ew_own_p hn rfl) (show _ = ((p : Nat) : Int) from s_Q_p) ?_
    refine xr_go hc rfl rfl ?_
    refine xr_go hc rfl rfl ?_
    refine xr_pf (A := 27) rfl hc rfl (ew_own_p hn rfl) ?_
    refine xr_go hc rfl rfl ?_
    refine xr_ret hc rfl rfl ?_
    exact ⟨rfl, rfl, s_Q_6 (by omega)⟩

set_option maxRecDepth 20000 in
theorem c_acc0 {n : Nat} {M : ew_Mem} {B : Nat → Int} {z p : Nat} (hn : 59 ≤ n) (hT : s_TP B z M) (hpz : p ≤ 190) {f : Int} {x : Int} (hx : ew_in x) (h : ¬ s_hr B z p = x) : ew_FM 58 [(2, 27), (0, x)] n (s_Q M p f) (0, 0) n (s_Q M p f) := by
  obtain ⟨hp0, hz1, hz8, hB28, hB⟩ := id hT
  have hp : ew_Pm (s_Q M p f) := s_Q_pm hp0
  have hbd := s_hr_bd (B := B) (z := z) hz8 hB p
  have hc := ew_c_58
  show ew_X 58 0 [(2, 27), (0, x), (5, 0)] [] n _ _
  refine xr_go hc rfl rfl ?_
  refine xr_v_1 hc rfl rfl (ew_own_p hn rfl) (c_byteHere hn hT hpz) ?_
  refine xr_go hc rfl rfl ?_
  refine xr_icmp_ne hc rfl (by omega) (by omega) (fun c1 => ?_) (fun c1 => ?_)
  · skip
    refine xr_go hc rfl rfl ?_
    refine xr_s1_2 hc rfl rfl rfl ?_
    refine xr_go hc rfl rfl ?_
    refine xr_if_eq hc rfl (by decide) (fun c2 => ?_) (fun c2 => by exfalso; omega)
    refine xr_go hc rfl rfl ?_
    refine xr_ret hc rfl rfl ?_
    exact ⟨rfl, rfl, rfl⟩
  · exfalso; omega

set_option maxRecDepth 20000 in
theorem c_pn_e {n : Nat} {M : ew_Mem} {B : Nat → Int} {z p : Nat} (hn : 59 ≤ n) (hT : s_TP B z M) (hpz : p ≤ 190) {v d i : Int} (hd : 0 ≤ d ∧ d ≤ 6) : ew_X 54 62 [(2, 27), (0, v), (0, d), (0, i)] [] n (s_Q M p 0) (fun r a b => r = some (0, v) ∧ a = n ∧ b = s_Q M p (if d = 0 then 1 else 0)) := by
  obtain ⟨hp0, hz1, hz8, hB28, hB⟩ := id hT
  have hc := ew_c_54
  refine xr_go hc rfl rfl ?_
  refine xr_go hc rfl rfl ?_
  refine xr_gf0 (A := 27) rfl hc rfl (ew_own_p hn rfl) s_Q_f ?_
  refine xr_if_ne hc rfl (by decide) (fun c1 => ?_) (fun c1 => ?_)
  · exfalso; omega
  · skip
    refine xr_go hc rfl rfl ?_
    refine xr_if_ne hc rfl (by omega) (fun c2 => ?_) (fun c2 => ?_)
    · skip
      refine xr_go hc rfl rfl ?_
      refine xr_pfB (A := 27) rfl hc rfl (ew_own_p hn rfl) (by decide) ?_
      refine xr_go hc rfl rfl ?_
      refine xr_ret hc rfl rfl ?_
      refine ⟨rfl, rfl, ?_⟩
      first
        | (rw [if_pos (by omega)]; exact s_Q_7)
        | (rw [if_neg (by omega)]; exact s_Q_7)
    · skip
      refine xr_go hc rfl rfl ?_
      refine xr_go hc rfl rfl ?_
      refine xr_pfB (A := 27) rfl hc rfl (ew_own_p hn rfl) (by decide) ?_
      refine xr_go hc rfl rfl ?_
      refine xr_ret hc rfl rfl ?_
      refine ⟨rfl, rfl, ?_⟩
      first
        | (rw [if_pos (by omega)]; exact s_Q_7)
        | (rw [if_neg (by omega)]; exact s_Q_7)

set_option maxRecDepth 20000 in
theorem c_pn_1 {n : Nat} {M : ew_Mem} {B : Nat → Int} {z : Nat} (hn : 59 ≤ n) (hT : s_TP B z M) : ∀ (j p : Nat) (v i : Int), i + (j : Int) = 6 → 0 ≤ i → p + j ≤ 190 →
    ew_X 54 6 [(2, 27), (0, v), (0, i), (0, i)] [] n (s_Q M p 0) (fun r a b => r = some (0, (s_nm B z j p v).2) ∧ a = n ∧ b = s_Q M (s_nm B z j p v).1 (if i = 0 ∧ ¬ (0 < j ∧ s_dg9 (s_hr B z p)) then 1 else 0)) := by
  intro j
  induction j with
  | zero =>
    intro p v i hj hi hpj
    have hc := ew_c_54
    refine xr_go hc rfl rfl ?_
    refine xr_go hc rfl rfl ?_
    refine xr_icmp_ge hc rfl (by omega) (by decide) (fun c1 => ?_) (fun c1 => ?_)
    · skip
      have hg := c_pn_e hn hT (p := p) (by omega) (v := v) (d := i) (i := i) (by omega)
      refine ew_X.mono hg ?_
      rintro r a b ⟨rfl, rfl, rfl⟩
      refine ⟨rfl, rfl, ?_⟩
      rw [if_neg (by omega), if_neg (by omega)]
      rfl
    · exfalso; omega
  | succ j ih =>
    intro p v i hj hi hpj
    have hpz : p ≤ 190 := by omega
    obtain ⟨hp0, hz1, hz8, hB28, hB⟩ := id hT
    have hp : ew_Pm (s_Q M p 0) := s_Q_pm hp0
    have hbd := s_hr_bd (B := B) (z := z) hz8 hB p
    have hc := ew_c_54
    refine xr_go hc rfl rfl ?_
    refine xr_go hc rfl rfl ?_
    refine xr_icmp_ge hc rfl (by omega) (by decide) (fun c1 => ?_) (fun c1 => ?_)
    · exfalso; omega
    · skip
      refine xr_go hc rfl rfl ?_
      refine xr_gf0 (A := 27) rfl hc rfl (ew_own_p hn rfl) s_Q_f ?_
      refine xr_if_ne hc rfl (by decide) (fun c2 => ?_) (fun c2 => ?_)
      · exfalso; omega
      · skip
        refine xr_go hc rfl rfl ?_
        refine xr_go hc rfl rfl ?_
        refine xr_v_1 hc rfl rfl (ew_own_p hn rfl) (c_byteHere hn hT hpz) ?_
        refine xr_v_2 hc rfl rfl (ew_own_p hn rfl) (c_isDigit (by omega)) ?_
        refine xr_if_eq hc rfl (by split <;> omega) (fun c3 => ?_) (fun c3 => ?_)
        · skip
          have hnd : ¬ s_dg9 (s_hr B z p) := by omega
          have hg := c_pn_e hn hT (p := p) (by omega) (v := v) (d := i) (i := i) (by omega)
          refine ew_X.mono hg ?_
          rintro r a b ⟨rfl, rfl, rfl⟩
          rw [s_nm_0 hnd]
          refine ⟨rfl, rfl, ?_⟩
          by_cases hd0 : i = 0
          · rw [if_pos hd0, if_pos ⟨hd0, fun q => hnd q.2⟩]
          · rw [if_neg hd0, if_neg (fun q => hd0 q.1)]
        · skip
          refine xr_go hc rfl rfl ?_
          refine xr_go hc rfl rfl ?_
          refine xr_go hc rfl rfl ?_
          refine xr_go hc rfl rfl ?_
          refine xr_v_1 hc rfl rfl (ew_own_p hn rfl) (c_byteHere hn hT hpz) ?_
          refine xr_go hc rfl rfl ?_
          refine xr_go hc rfl rfl ?_
          refine xr_go hc rfl rfl ?_
          refine xr_s1_1 hc rfl rfl rfl ?_
          refine xr_inc_2 hc rfl ?_
          refine xr_go hc rfl rfl ?_
          refine xr_go hc rfl rfl ?_
          refine xr_gf0 (A := 27) rfl hc rfl (ew_own_p hn rfl) (show _ = ((p : Nat) : Int) from s_Q_p) ?_
          refine xr_go hc rfl rfl ?_
          refine xr_go hc rfl rfl ?_
          refine xr_pf (A := 27) rfl hc rfl (ew_own_p hn rfl) ?_
          refine xr_inc_3 hc rfl ?_
          refine xr_go hc rfl rfl ?_
          have hdg : s_dg9 (s_hr B z p) := by omega
          rw [s_Q_6 (q := p + 1) (by omega)]
          have hg := ih (p + 1) (v * 10 + s_hr B z p - 48) (i + 1) (by omega) (by omega) (by omega)
          refine ew_X.mono hg ?_
          rintro r a b ⟨rfl, rfl, rfl⟩
          rw [s_nm, if_pos hdg]
          refine ⟨rfl, rfl, ?_⟩
          rw [if_neg (by omega), if_neg (fun q => q.2 ⟨by omega, hdg⟩)]

set_option maxRecDepth 20000 in
theorem c_pn {n : Nat} {M : ew_Mem} {B : Nat → Int} {z p : Nat} (hn : 59 ≤ n) (hT : s_TP B z M) (hpz : p ≤ 190) (hp6 : p ≤ 184) : ew_FM 54 [(2, 27)] n (s_Q M p 0) (0, (s_nm B z 6 p 0).2) n (s_Q M (s_nm B z 6 p 0).1 (if s_dg9 (s_hr B z p) then 0 else 1)) := by
  obtain ⟨hp0, hz1, hz8, hB28, hB⟩ := id hT
  have hp : ew_Pm (s_Q M p 0) := s_Q_pm hp0
  have hc := ew_c_54
  show ew_X 54 0 [(2, 27), (5, 0), (5, 0), (5, 0)] [] n _ _
  refine xr_go hc rfl rfl ?_
  refine xr_s1_1 hc rfl rfl rfl ?_
  refine xr_go hc rfl rfl ?_
  refine xr_s1_2 hc rfl rfl rfl ?_
  refine xr_go hc rfl rfl ?_
  refine xr_s1_3 hc rfl rfl rfl ?_
  have hg := c_pn_1 hn hT 6 p 0 0 (by decide) (by decide) (by omega)
  refine ew_X.mono hg ?_
  rintro r a b ⟨rfl, rfl, rfl⟩
  refine ⟨rfl, rfl, ?_⟩
  by_cases hdg : s_dg9 (s_hr B z p)
  · rw [if_pos hdg, if_neg (fun q => q.2 ⟨by decide, hdg⟩)]
  · rw [if_neg hdg, if_pos ⟨rfl, fun q => hdg q.2⟩]

set_option maxRecDepth 20000 in
theorem c_pnF {n : Nat} {M : ew_Mem} {B : Nat → Int} {z p : Nat} (hn : 59 ≤ n) (hT : s_TP B z M) (hpz : p ≤ 190)  : ew_FM 54 [(2, 27)] n (s_Q M p 1) (0, 0) n (s_Q M p 1) := by
  obtain ⟨hp0, hz1, hz8, hB28, hB⟩ := id hT
  have hp : ew_Pm (s_Q M p 1) := s_Q_pm hp0
  have hc := ew_c_54
  show ew_X 54 0 [(2, 27), (5, 0), (5, 0), (5, 0)] [] n _ _
  refine xr_go hc rfl rfl ?_
  refine xr_s1_1 hc rfl rfl rfl ?_
  refine xr_go hc rfl rfl ?_
  refine xr_s1_2 hc rfl rfl rfl ?_
  refine xr_go hc rfl rfl ?_
  refine xr_s1_3 hc rfl rfl rfl ?_
  refine xr_go hc rfl rfl ?_
  refine xr_go hc rfl rfl ?_
  refine xr_icmp_ge hc rfl (by decide) (by decide) (fun c1 => by exfalso; omega) (fun c1 => ?_)
  refine xr_go hc rfl rfl ?_
  refine xr_gf0 (A := 27) rfl hc rfl (ew_own_p hn rfl) s_Q_f ?_
  refine xr_if_ne hc rfl (by decide) (fun c2 => ?_) (fun c2 => ?_)
  · skip
    refine xr_go hc rfl rfl ?_
    refine xr_go hc rfl rfl ?_
    refine xr_gf0 (A := 27) rfl hc rfl (ew_own_p hn rfl) s_Q_f ?_
    refine xr_if_ne hc rfl (by decide) (fun c3 => ?_) (fun c3 => ?_)
    · skip
      refine xr_go hc rfl rfl ?_
      refine xr_go hc rfl rfl ?_
      refine xr_pfB (A := 27) rfl hc rfl (ew_own_p hn rfl) (by decide) ?_
      refine xr_go hc rfl rfl ?_
      refine xr_ret hc rfl rfl ?_
      exact ⟨rfl, rfl, s_Q_7⟩
    · exfalso; omega
  · exfalso; omega

set_option maxRecDepth 20000 in
theorem c_sn0 {n : Nat} {M : ew_Mem} {B : Nat → Int} {z p : Nat} (hn : 59 ≤ n) (hT : s_TP B z M) (hpz : p ≤ 190) {f : Int} {i : Nat} (hi : i < 27) {v : Int} : ew_VM 56 [(2, 27), (0, (i : Int)), (0, 0), (0, v)] n (s_Q M p f) n (s_Q (ew_wr M 31 (3 * i + 0) v) p f) := by
  obtain ⟨hp0, hz1, hz8, hB28, hB⟩ := id hT
  have hp : ew_Pm (s_Q M p f) := s_Q_pm hp0
  have hc := ew_c_56
  show ew_X 56 0 [(2, 27), (0, (i : Int)), (0, 0), (0, v), (5, 0)] [] n _ _
  refine xr_go hc rfl rfl ?_
  refine xr_go hc rfl rfl ?_
  refine xr_go hc rfl rfl ?_
  refine xr_go hc rfl rfl ?_
  refine xr_go hc rfl rfl ?_
  refine xr_s1_4 hc rfl rfl rfl ?_
  refine xr_go hc rfl rfl ?_
  refine xr_if_lt hc rfl (by omega) (fun c1 => ?_) (fun c1 => ?_)
  · skip
    refine xr_ret hc rfl rfl ?_
    first
      | (exfalso; omega)
      | (refine ⟨rfl, rfl, ?_⟩
         rw [show ((i : Int) * 3 + 0).toNat = 3 * i + 0 by omega]
         exact s_Q_w (by omega))
  · skip
    refine xr_go hc rfl rfl ?_
    refine xr_go hc rfl rfl ?_
    refine xr_gf2 (A := 27) (w := 31) rfl hc rfl (ew_own_p hn rfl) (ew_pm hp rfl) ?_
    refine xr_alen (A := 31) (N := 81) (t := 20) rfl rfl hc rfl (ew_ok_p hn rfl) (by decide) ?_
    refine xr_icmp_ge hc rfl (by omega) (by decide) (fun c2 => ?_) (fun c2 => ?_)
    · skip
      refine xr_ret hc rfl rfl ?_
      first
        | (exfalso; omega)
        | (refine ⟨rfl, rfl, ?_⟩
           rw [show ((i : Int) * 3 + 0).toNat = 3 * i + 0 by omega]
           exact s_Q_w (by omega))
    · skip
      refine xr_go hc rfl rfl ?_
      refine xr_gf2 (A := 27) (w := 31) rfl hc rfl (ew_own_p hn rfl) (ew_pm hp rfl) ?_
      refine xr_go hc rfl rfl ?_
      refine xr_go hc rfl rfl ?_
      refine xr_iast (A := 31) (N := 81) rfl rfl hc rfl (ew_own_p hn rfl) (by omega) (by omega) ?_
      refine xr_ret hc rfl rfl ?_
      first
        | (exfalso; omega)
        | (refine ⟨rfl, rfl, ?_⟩
           rw [show ((i : Int) * 3 + 0).toNat = 3 * i + 0 by omega]
           exact s_Q_w (by omega))

set_option maxRecDepth 20000 in
theorem c_sn1 {n : Nat} {M : ew_Mem} {B : Nat → Int} {z p : Nat} (hn : 59 ≤ n) (hT : s_TP B z M) (hpz : p ≤ 190) {f : Int} {i : Nat} (hi : i < 27) {v : Int} : ew_VM 56 [(2, 27), (0, (i : Int)), (0, 1), (0, v)] n (s_Q M p f) n (s_Q (ew_wr M 31 (3 * i + 1) v) p f) := by
  obtain ⟨hp0, hz1, hz8, hB28, hB⟩ := id hT
  have hp : ew_Pm (s_Q M p f) := s_Q_pm hp0
  have hc := ew_c_56
  show ew_X 56 0 [(2, 27), (0, (i : Int)), (0, 1), (0, v), (5, 0)] [] n _ _
  refine xr_go hc rfl rfl ?_
  refine xr_go hc rfl rfl ?_
  refine xr_go hc rfl rfl ?_
  refine xr_go hc rfl rfl ?_
  refine xr_go hc rfl rfl ?_
  refine xr_s1_4 hc rfl rfl rfl ?_
  refine xr_go hc rfl rfl ?_
  refine xr_if_lt hc rfl (by omega) (fun c1 => ?_) (fun c1 => ?_)
  · skip
    refine xr_ret hc rfl rfl ?_
    first
      | (exfalso; omega)
      | (refine ⟨rfl, rfl, ?_⟩
         rw [show ((i : Int) * 3 + 1).toNat = 3 * i + 1 by omega]
         exact s_Q_w (by omega))
  · skip
    refine xr_go hc rfl rfl ?_
    refine xr_go hc rfl rfl ?_
    refine xr_gf2 (A := 27) (w := 31) rfl hc rfl (ew_own_p hn rfl) (ew_pm hp rfl) ?_
    refine xr_alen (A := 31) (N := 81) (t := 20) rfl rfl hc rfl (ew_ok_p hn rfl) (by decide) ?_
    refine xr_icmp_ge hc rfl (by omega) (by decide) (fun c2 => ?_) (fun c2 => ?_)
    · skip
      refine xr_ret hc rfl rfl ?_
      first
        | (exfalso; omega)
        | (refine ⟨rfl, rfl, ?_⟩
           rw [show ((i : Int) * 3 + 1).toNat = 3 * i + 1 by omega]
           exact s_Q_w (by omega))
    · skip
      refine xr_go hc rfl rfl ?_
      refine xr_gf2 (A := 27) (w := 31) rfl hc rfl (ew_own_p hn rfl) (ew_pm hp rfl) ?_
      refine xr_go hc rfl rfl ?_
      refine xr_go hc rfl rfl ?_
      refine xr_iast (A := 31) (N := 81) rfl rfl hc rfl (ew_own_p hn rfl) (by omega) (by omega) ?_
      refine xr_ret hc rfl rfl ?_
      first
        | (exfalso; omega)
        | (refine ⟨rfl, rfl, ?_⟩
           rw [show ((i : Int) * 3 + 1).toNat = 3 * i + 1 by omega]
           exact s_Q_w (by omega))

set_option maxRecDepth 20000 in
theorem c_sn2 {n : Nat} {M : ew_Mem} {B : Nat → Int} {z p : Nat} (hn : 59 ≤ n) (hT : s_TP B z M) (hpz : p ≤ 190) {f : Int} {i : Nat} (hi : i < 27) {v : Int} : ew_VM 56 [(2, 27), (0, (i : Int)), (0, 2), (0, v)] n (s_Q M p f) n (s_Q (ew_wr M 31 (3 * i + 2) v) p f) := by
  obtain ⟨hp0, hz1, hz8, hB28, hB⟩ := id hT
  have hp : ew_Pm (s_Q M p f) := s_Q_pm hp0
  have hc := ew_c_56
  show ew_X 56 0 [(2, 27), (0, (i : Int)), (0, 2), (0, v), (5, 0)] [] n _ _
  refine xr_go hc rfl rfl ?_
  refine xr_go hc rfl rfl ?_
  refine xr_go hc rfl rfl ?_
  refine xr_go hc rfl rfl ?_
  refine xr_go hc rfl rfl ?_
  refine xr_s1_4 hc rfl rfl rfl ?_
  refine xr_go hc rfl rfl ?_
  refine xr_if_lt hc rfl (by omega) (fun c1 => ?_) (fun c1 => ?_)
  · skip
    refine xr_ret hc rfl rfl ?_
    first
      | (exfalso; omega)
      | (refine ⟨rfl, rfl, ?_⟩
         rw [show ((i : Int) * 3 + 2).toNat = 3 * i + 2 by omega]
         exact s_Q_w (by omega))
  · skip
    refine xr_go hc rfl rfl ?_
    refine xr_go hc rfl rfl ?_
    refine xr_gf2 (A := 27) (w := 31) rfl hc rfl (ew_own_p hn rfl) (ew_pm hp rfl) ?_
    refine xr_alen (A := 31) (N := 81) (t := 20) rfl rfl hc rfl (ew_ok_p hn rfl) (by decide) ?_
    refine xr_icmp_ge hc rfl (by omega) (by decide) (fun c2 => ?_) (fun c2 => ?_)
    · skip
      refine xr_ret hc rfl rfl ?_
      first
        | (exfalso; omega)
        | (refine ⟨rfl, rfl, ?_⟩
           rw [show ((i : Int) * 3 + 2).toNat = 3 * i + 2 by omega]
           exact s_Q_w (by omega))
    · skip
      refine xr_go hc rfl rfl ?_
      refine xr_gf2 (A := 27) (w := 31) rfl hc rfl (ew_own_p hn rfl) (ew_pm hp rfl) ?_
      refine xr_go hc rfl rfl ?_
      refine xr_go hc rfl rfl ?_
      refine xr_iast (A := 31) (N := 81) rfl rfl hc rfl (ew_own_p hn rfl) (by omega) (by omega) ?_
      refine xr_ret hc rfl rfl ?_
      first
        | (exfalso; omega)
        | (refine ⟨rfl, rfl, ?_⟩
           rw [show ((i : Int) * 3 + 2).toNat = 3 * i + 2 by omega]
           exact s_Q_w (by omega))

theorem s_TP_wr {B : Nat → Int} {z : Nat} {M : ew_Mem} {a i : Nat} {v : Int} (h : s_TP B z M) (ha : a = 29 ∨ a = 30 ∨ a = 31 ∨ (a = 27 ∧ i = 5)) : s_TP B z (ew_wr M a i v) := by
  obtain ⟨h1, h2, h3, h4, h5⟩ := h
  refine ⟨?_, ?_, h3, fun j hj => ?_, h5⟩
  · rcases ha with rfl | rfl | rfl | ⟨rfl, rfl⟩
    · exact ew_Pm_wrA h1 rfl
    · exact ew_Pm_wrA h1 rfl
    · exact ew_Pm_wrA h1 rfl
    · exact ew_Pm_wr h1 rfl
  · by_cases e : a = 27
    · subst e
      rw [s_ne_ri (by omega)]
      exact h2
    · rw [s_ne_rd (by omega)]
      exact h2
  · rw [s_ne_rd (by omega)]
    exact h4 j hj
def s_wm (M : ew_Mem) (i : Nat) (b c : Int) : ew_Mem := ew_wr (ew_wr M 31 (3 * i + 1) b) 31 (3 * i + 2) c
set_option maxRecDepth 20000 in
theorem c_pwF {n : Nat} {M : ew_Mem} {B : Nat → Int} {z p : Nat} (hn : 59 ≤ n) (hT : s_TP B z M) (hpz : p ≤ 190) (hp9 : p ≤ 100) {i : Nat} (hi : i < 27)  : ew_VM 57 [(2, 27), (0, (i : Int))] n (s_Q M p 1) n (s_Q (s_wm M i 0 0) p 1) := by
  obtain ⟨hp0, hz1, hz8, hB28, hB⟩ := id hT
  have hp : ew_Pm (s_Q M p 1) := s_Q_pm hp0
  have hq1 := s_nm_le (B := B) (z := z) 6 (p + 1) 0
  have hq2 := s_nm_le (B := B) (z := z) 6 ((s_nm B z 6 (p + 1) 0).1 + 1) 0
  have hc := ew_c_57
  show ew_X 57 0 [(2, 27), (0, (i : Int))] [] n _ _
  refine xr_go hc rfl rfl ?_
  refine xr_go hc rfl rfl ?_
  refine xr_gf0 (A := 27) rfl hc rfl (ew_own_p hn rfl) (show _ = _ from s_Q_f) ?_
  refine xr_if_ne hc rfl (by decide) (fun c1 => ?_) (fun c1 => ?_)
  · skip
    refine xr_go hc rfl rfl ?_
    refine xr_go hc rfl rfl ?_
    refine xr_pfB (A := 27) rfl hc rfl (ew_own_p hn rfl) (by decide) ?_
    rw [s_Q_7]
    refine xr_go hc rfl rfl ?_
    refine xr_go hc rfl rfl ?_
    refine xr_go hc rfl rfl ?_
    refine xr_go hc rfl rfl ?_
    refine xr_v_1 hc rfl rfl (ew_own_p hn rfl) (c_pnF hn hT (by omega)) ?_
    refine xr_vv_4 (v := (0, 0)) hc rfl rfl (ew_own_p hn rfl) (c_sn1 hn hT (by omega) hi) ?_
    refine xr_go hc rfl rfl ?_
    refine xr_go hc rfl rfl ?_
    refine xr_go hc rfl rfl ?_
    refine xr_go hc rfl rfl ?_
    refine xr_gf0 (A := 27) rfl hc rfl (ew_own_p hn rfl) (show _ = _ from s_Q_f) ?_
    refine xr_if_ne hc rfl (by decide) (fun c2 => ?_) (fun c2 => ?_)
    · skip
      refine xr_go hc rfl rfl ?_
      refine xr_vv_4 (v := (0, 0)) hc rfl rfl (ew_own_p hn rfl) (c_sn2 hn (s_TP_wr hT (by omega)) (by omega) hi) ?_
      refine xr_ret hc rfl rfl ?_
      exact ⟨rfl, rfl, rfl⟩
    · exfalso; omega
  · exfalso; omega

set_option maxRecDepth 20000 in
theorem c_pw0 {n : Nat} {M : ew_Mem} {B : Nat → Int} {z p : Nat} (hn : 59 ≤ n) (hT : s_TP B z M) (hpz : p ≤ 190) (hp9 : p ≤ 100) {i : Nat} (hi : i < 27) (h : ¬ s_hr B z p = 47) : ew_VM 57 [(2, 27), (0, (i : Int))] n (s_Q M p 0) n (s_Q (s_wm M i 0 0) p 1) := by
  obtain ⟨hp0, hz1, hz8, hB28, hB⟩ := id hT
  have hp : ew_Pm (s_Q M p 0) := s_Q_pm hp0
  have hq1 := s_nm_le (B := B) (z := z) 6 (p + 1) 0
  have hq2 := s_nm_le (B := B) (z := z) 6 ((s_nm B z 6 (p + 1) 0).1 + 1) 0
  have hc := ew_c_57
  show ew_X 57 0 [(2, 27), (0, (i : Int))] [] n _ _
  refine xr_go hc rfl rfl ?_
  refine xr_go hc rfl rfl ?_
  refine xr_gf0 (A := 27) rfl hc rfl (ew_own_p hn rfl) (show _ = _ from s_Q_f) ?_
  refine xr_if_ne hc rfl (by decide) (fun c1 => ?_) (fun c1 => ?_)
  · exfalso; omega
  · skip
    refine xr_go hc rfl rfl ?_
    refine xr_go hc rfl rfl ?_
    refine xr_v_2 hc rfl rfl (ew_own_p hn rfl) (c_acc0 hn hT (by omega) (by decide) h) ?_
    refine xr_if_ne hc rfl (by decide) (fun c2 => by exfalso; omega) (fun c2 => ?_)
    refine xr_go hc rfl rfl ?_
    refine xr_go hc rfl rfl ?_
    refine xr_pfB (A := 27) rfl hc rfl (ew_own_p hn rfl) (by decide) ?_
    rw [s_Q_7]
    refine xr_go hc rfl rfl ?_
    refine xr_go hc rfl rfl ?_
    refine xr_go hc rfl rfl ?_
    refine xr_go hc rfl rfl ?_
    refine xr_v_1 hc rfl rfl (ew_own_p hn rfl) (c_pnF hn hT (by omega)) ?_
    refine xr_vv_4 (v := (0, 0)) hc rfl rfl (ew_own_p hn rfl) (c_sn1 hn hT (by omega) hi) ?_
    refine xr_go hc rfl rfl ?_
    refine xr_go hc rfl rfl ?_
    refine xr_go hc rfl rfl ?_
    refine xr_go hc rfl rfl ?_
    refine xr_gf0 (A := 27) rfl hc rfl (ew_own_p hn rfl) (show _ = _ from s_Q_f) ?_
    refine xr_if_ne hc rfl (by decide) (fun c3 => ?_) (fun c3 => ?_)
    · skip
      refine xr_go hc rfl rfl ?_
      refine xr_vv_4 (v := (0, 0)) hc rfl rfl (ew_own_p hn rfl) (c_sn2 hn (s_TP_wr hT (by omega)) (by omega) hi) ?_
      refine xr_ret hc rfl rfl ?_
      exact ⟨rfl, rfl, rfl⟩
    · exfalso; omega

set_option maxRecDepth 20000 in
theorem c_pw1 {n : Nat} {M : ew_Mem} {B : Nat → Int} {z p : Nat} (hn : 59 ≤ n) (hT : s_TP B z M) (hpz : p ≤ 190) (hp9 : p ≤ 100) {i : Nat} (hi : i < 27) (h : s_hr B z p = 47) (h2 : ¬ s_dg9 (s_hr B z (p + 1))) : ew_VM 57 [(2, 27), (0, (i : Int))] n (s_Q M p 0) n (s_Q (s_wm M i 0 0) (p + 1) 1) := by
  obtain ⟨hp0, hz1, hz8, hB28, hB⟩ := id hT
  have hp : ew_Pm (s_Q M p 0) := s_Q_pm hp0
  have hq1 := s_nm_le (B := B) (z := z) 6 (p + 1) 0
  have hq2 := s_nm_le (B := B) (z := z) 6 ((s_nm B z 6 (p + 1) 0).1 + 1) 0
  have hpn := c_pn hn hT (p := p + 1) (by omega) (by omega)
  rw [if_neg h2, s_nm_0 h2] at hpn
  have hc := ew_c_57
  show ew_X 57 0 [(2, 27), (0, (i : Int))] [] n _ _
  refine xr_go hc rfl rfl ?_
  refine xr_go hc rfl rfl ?_
  refine xr_gf0 (A := 27) rfl hc rfl (ew_own_p hn rfl) (show _ = _ from s_Q_f) ?_
  refine xr_if_ne hc rfl (by decide) (fun c1 => ?_) (fun c1 => ?_)
  · exfalso; omega
  · skip
    refine xr_go hc rfl rfl ?_
    refine xr_go hc rfl rfl ?_
    refine xr_v_2 hc rfl rfl (ew_own_p hn rfl) (c_acc1 hn hT (by omega) (by decide) h) ?_
    refine xr_if_ne hc rfl (by decide) (fun c2 => ?_) (fun c2 => by exfalso; omega)
    refine xr_go hc rfl rfl ?_
    refine xr_pfB (A := 27) rfl hc rfl (ew_own_p hn rfl) (by decide) ?_
    rw [s_Q_7]
    refine xr_go hc rfl rfl ?_
    refine xr_go hc rfl rfl ?_
    refine xr_go hc rfl rfl ?_
    refine xr_go hc rfl rfl ?_
    refine xr_v_1 hc rfl rfl (ew_own_p hn rfl) (hpn) ?_
    refine xr_vv_4 (v := (0, 0)) hc rfl rfl (ew_own_p hn rfl) (c_sn1 hn hT (by omega) hi) ?_
    refine xr_go hc rfl rfl ?_
    refine xr_go hc rfl rfl ?_
    refine xr_go hc rfl rfl ?_
    refine xr_go hc rfl rfl ?_
    refine xr_gf0 (A := 27) rfl hc rfl (ew_own_p hn rfl) (show _ = _ from s_Q_f) ?_
    refine xr_if_ne hc rfl (by decide) (fun c3 => ?_) (fun c3 => ?_)
    · skip
      refine xr_go hc rfl rfl ?_
      refine xr_vv_4 (v := (0, 0)) hc rfl rfl (ew_own_p hn rfl) (c_sn2 hn (s_TP_wr hT (by omega)) (by omega) hi) ?_
      refine xr_ret hc rfl rfl ?_
      exact ⟨rfl, rfl, rfl⟩
    · exfalso; omega

set_option maxRecDepth 20000 in
theorem c_pw2 {n : Nat} {M : ew_Mem} {B : Nat → Int} {z p : Nat} (hn : 59 ≤ n) (hT : s_TP B z M) (hpz : p ≤ 190) (hp9 : p ≤ 100) {i : Nat} (hi : i < 27) (h : s_hr B z p = 47) (h2 : s_dg9 (s_hr B z (p + 1))) (h3 : ¬ s_hr B z (s_nm B z 6 (p + 1) 0).1 = 43) : ew_VM 57 [(2, 27), (0, (i : Int))] n (s_Q M p 0) n (s_Q (s_wm M i (s_nm B z 6 (p + 1) 0).2 0) (s_nm B z 6 (p + 1) 0).1 0) := by
  obtain ⟨hp0, hz1, hz8, hB28, hB⟩ := id hT
  have hp : ew_Pm (s_Q M p 0) := s_Q_pm hp0
  have hq1 := s_nm_le (B := B) (z := z) 6 (p + 1) 0
  have hq2 := s_nm_le (B := B) (z := z) 6 ((s_nm B z 6 (p + 1) 0).1 + 1) 0
  have hpn := c_pn hn hT (p := p + 1) (by omega) (by omega)
  rw [if_pos h2] at hpn
  have hc := ew_c_57
  show ew_X 57 0 [(2, 27), (0, (i : Int))] [] n _ _
  refine xr_go hc rfl rfl ?_
  refine xr_go hc rfl rfl ?_
  refine xr_gf0 (A := 27) rfl hc rfl (ew_own_p hn rfl) (show _ = _ from s_Q_f) ?_
  refine xr_if_ne hc rfl (by decide) (fun c1 => ?_) (fun c1 => ?_)
  · exfalso; omega
  · skip
    refine xr_go hc rfl rfl ?_
    refine xr_go hc rfl rfl ?_
    refine xr_v_2 hc rfl rfl (ew_own_p hn rfl) (c_acc1 hn hT (by omega) (by decide) h) ?_
    refine xr_if_ne hc rfl (by decide) (fun c2 => ?_) (fun c2 => by exfalso; omega)
    refine xr_go hc rfl rfl ?_
    refine xr_pfB (A := 27) rfl hc rfl (ew_own_p hn rfl) (by decide) ?_
    rw [s_Q_7]
    refine xr_go hc rfl rfl ?_
    refine xr_go hc rfl rfl ?_
    refine xr_go hc rfl rfl ?_
    refine xr_go hc rfl rfl ?_
    refine xr_v_1 hc rfl rfl (ew_own_p hn rfl) (hpn) ?_
    refine xr_vv_4 (v := (0, 0)) hc rfl rfl (ew_own_p hn rfl) (c_sn1 hn hT (by omega) hi) ?_
    refine xr_go hc rfl rfl ?_
    refine xr_go hc rfl rfl ?_
    refine xr_go hc rfl rfl ?_
    refine xr_go hc rfl rfl ?_
    refine xr_gf0 (A := 27) rfl hc rfl (ew_own_p hn rfl) (show _ = _ from s_Q_f) ?_
    refine xr_if_ne hc rfl (by decide) (fun c3 => ?_) (fun c3 => ?_)
    · exfalso; omega
    · skip
      refine xr_go hc rfl rfl ?_
      refine xr_go hc rfl rfl ?_
      refine xr_v_2 hc rfl rfl (ew_own_p hn rfl) (c_acc0 hn (s_TP_wr hT (by omega)) (by omega) (by decide) h3) ?_
      refine xr_if_eq hc rfl (by decide) (fun c4 => ?_) (fun c4 => by exfalso; omega)
      refine xr_go hc rfl rfl ?_
      refine xr_vv_4 (v := (0, 0)) hc rfl rfl (ew_own_p hn rfl) (c_sn2 hn (s_TP_wr hT (by omega)) (by omega) hi) ?_
      refine xr_ret hc rfl rfl ?_
      exact ⟨rfl, rfl, rfl⟩

set_option maxRecDepth 20000 in
theorem c_pw3 {n : Nat} {M : ew_Mem} {B : Nat → Int} {z p : Nat} (hn : 59 ≤ n) (hT : s_TP B z M) (hpz : p ≤ 190) (hp9 : p ≤ 100) {i : Nat} (hi : i < 27) (h : s_hr B z p = 47) (h2 : s_dg9 (s_hr B z (p + 1))) (h3 : s_hr B z (s_nm B z 6 (p + 1) 0).1 = 43) (h4 : s_dg9 (s_hr B z ((s_nm B z 6 (p + 1) 0).1 + 1))) : ew_VM 57 [(2, 27), (0, (i : Int))] n (s_Q M p 0) n (s_Q (s_wm M i (s_nm B z 6 (p + 1) 0).2 (s_nm B z 6 ((s_nm B z 6 (p + 1) 0).1 + 1) 0).2) (s_nm B z 6 ((s_nm B z 6 (p + 1) 0).1 + 1) 0).1 0) := by
  obtain ⟨hp0, hz1, hz8, hB28, hB⟩ := id hT
  have hp : ew_Pm (s_Q M p 0) := s_Q_pm hp0
  have hq1 := s_nm_le (B := B) (z := z) 6 (p + 1) 0
  have hq2 := s_nm_le (B := B) (z := z) 6 ((s_nm B z 6 (p + 1) 0).1 + 1) 0
  have hpn := c_pn hn hT (p := p + 1) (by omega) (by omega)
  rw [if_pos h2] at hpn
  have hpn2 := c_pn hn (M := ew_wr M 31 (3 * i + 1) (s_nm B z 6 (p + 1) 0).2) (s_TP_wr hT (by omega)) (p := (s_nm B z 6 (p + 1) 0).1 + 1) (by omega) (by omega)
  rw [if_pos h4] at hpn2
  have hc := ew_c_57
  show ew_X 57 0 [(2, 27), (0, (i : Int))] [] n _ _
  refine xr_go hc rfl rfl ?_
  refine xr_go hc rfl rfl ?_
  refine xr_gf0 (A := 27) rfl hc rfl (ew_own_p hn rfl) (show _ = _ from s_Q_f) ?_
  refine xr_if_ne hc rfl (by decide) (fun c1 => ?_) (fun c1 => ?_)
  · exfalso; omega
  · skip
    refine xr_go hc rfl rfl ?_
    refine xr_go hc rfl rfl ?_
    refine xr_v_2 hc rfl rfl (ew_own_p hn rfl) (c_acc1 hn hT (by omega) (by decide) h) ?_
    refine xr_if_ne hc rfl (by decide) (fun c2 => ?_) (fun c2 => by exfalso; omega)
    refine xr_go hc rfl rfl ?_
    refine xr_pfB (A := 27) rfl hc rfl (ew_own_p hn rfl) (by decide) ?_
    rw [s_Q_7]
    refine xr_go hc rfl rfl ?_
    refine xr_go hc rfl rfl ?_
    refine xr_go hc rfl rfl ?_
    refine xr_go hc rfl rfl ?_
    refine xr_v_1 hc rfl rfl (ew_own_p hn rfl) (hpn) ?_
    refine xr_vv_4 (v := (0, 0)) hc rfl rfl (ew_own_p hn rfl) (c_sn1 hn hT (by omega) hi) ?_
    refine xr_go hc rfl rfl ?_
    refine xr_go hc rfl rfl ?_
    refine xr_go hc rfl rfl ?_
    refine xr_go hc rfl rfl ?_
    refine xr_gf0 (A := 27) rfl hc rfl (ew_own_p hn rfl) (show _ = _ from s_Q_f) ?_
    refine xr_if_ne hc rfl (by decide) (fun c3 => ?_) (fun c3 => ?_)
    · exfalso; omega
    · skip
      refine xr_go hc rfl rfl ?_
      refine xr_go hc rfl rfl ?_
      refine xr_v_2 hc rfl rfl (ew_own_p hn rfl) (c_acc1 hn (s_TP_wr hT (by omega)) (by omega) (by decide) h3) ?_
      refine xr_if_eq hc rfl (by decide) (fun c4 => by exfalso; omega) (fun c4 => ?_)
      refine xr_go hc rfl rfl ?_
      refine xr_v_1 hc rfl rfl (ew_own_p hn rfl) (hpn2) ?_
      refine xr_go hc rfl rfl ?_
      refine xr_vv_4 (v := (0, 0)) hc rfl rfl (ew_own_p hn rfl) (c_sn2 hn (s_TP_wr hT (by omega)) (by omega) hi) ?_
      refine xr_ret hc rfl rfl ?_
      exact ⟨rfl, rfl, rfl⟩

set_option maxRecDepth 20000 in
theorem c_pw4 {n : Nat} {M : ew_Mem} {B : Nat → Int} {z p : Nat} (hn : 59 ≤ n) (hT : s_TP B z M) (hpz : p ≤ 190) (hp9 : p ≤ 100) {i : Nat} (hi : i < 27) (h : s_hr B z p = 47) (h2 : s_dg9 (s_hr B z (p + 1))) (h3 : s_hr B z (s_nm B z 6 (p + 1) 0).1 = 43) (h4 : ¬ s_dg9 (s_hr B z ((s_nm B z 6 (p + 1) 0).1 + 1))) : ew_VM 57 [(2, 27), (0, (i : Int))] n (s_Q M p 0) n (s_Q (s_wm M i (s_nm B z 6 (p + 1) 0).2 (s_nm B z 6 ((s_nm B z 6 (p + 1) 0).1 + 1) 0).2) (s_nm B z 6 ((s_nm B z 6 (p + 1) 0).1 + 1) 0).1 1) := by
  obtain ⟨hp0, hz1, hz8, hB28, hB⟩ := id hT
  have hp : ew_Pm (s_Q M p 0) := s_Q_pm hp0
  have hq1 := s_nm_le (B := B) (z := z) 6 (p + 1) 0
  have hq2 := s_nm_le (B := B) (z := z) 6 ((s_nm B z 6 (p + 1) 0).1 + 1) 0
  have hpn := c_pn hn hT (p := p + 1) (by omega) (by omega)
  rw [if_pos h2] at hpn
  have hpn2 := c_pn hn (M := ew_wr M 31 (3 * i + 1) (s_nm B z 6 (p + 1) 0).2) (s_TP_wr hT (by omega)) (p := (s_nm B z 6 (p + 1) 0).1 + 1) (by omega) (by omega)
  rw [if_neg h4] at hpn2
  have hc := ew_c_57
  show ew_X 57 0 [(2, 27), (0, (i : Int))] [] n _ _
  refine xr_go hc rfl rfl ?_
  refine xr_go hc rfl rfl ?_
  refine xr_gf0 (A := 27) rfl hc rfl (ew_own_p hn rfl) (show _ = _ from s_Q_f) ?_
  refine xr_if_ne hc rfl (by decide) (fun c1 => ?_) (fun c1 => ?_)
  · exfalso; omega
  · skip
    refine xr_go hc rfl rfl ?_
    refine xr_go hc rfl rfl ?_
    refine xr_v_2 hc rfl rfl (ew_own_p hn rfl) (c_acc1 hn hT (by omega) (by decide) h) ?_
    refine xr_if_ne hc rfl (by decide) (fun c2 => ?_) (fun c2 => by exfalso; omega)
    refine xr_go hc rfl rfl ?_
    refine xr_pfB (A := 27) rfl hc rfl (ew_own_p hn rfl) (by decide) ?_
    rw [s_Q_7]
    refine xr_go hc rfl rfl ?_
    refine xr_go hc rfl rfl ?_
    refine xr_go hc rfl rfl ?_
    refine xr_go hc rfl rfl ?_
    refine xr_v_1 hc rfl rfl (ew_own_p hn rfl) (hpn) ?_
    refine xr_vv_4 (v := (0, 0)) hc rfl rfl (ew_own_p hn rfl) (c_sn1 hn hT (by omega) hi) ?_
    refine xr_go hc rfl rfl ?_
    refine xr_go hc rfl rfl ?_
    refine xr_go hc rfl rfl ?_
    refine xr_go hc rfl rfl ?_
    refine xr_gf0 (A := 27) rfl hc rfl (ew_own_p hn rfl) (show _ = _ from s_Q_f) ?_
    refine xr_if_ne hc rfl (by decide) (fun c3 => ?_) (fun c3 => ?_)
    · exfalso; omega
    · skip
      refine xr_go hc rfl rfl ?_
      refine xr_go hc rfl rfl ?_
      refine xr_v_2 hc rfl rfl (ew_own_p hn rfl) (c_acc1 hn (s_TP_wr hT (by omega)) (by omega) (by decide) h3) ?_
      refine xr_if_eq hc rfl (by decide) (fun c4 => by exfalso; omega) (fun c4 => ?_)
      refine xr_go hc rfl rfl ?_
      refine xr_v_1 hc rfl rfl (ew_own_p hn rfl) (hpn2) ?_
      refine xr_go hc rfl rfl ?_
      refine xr_vv_4 (v := (0, 0)) hc rfl rfl (ew_own_p hn rfl) (c_sn2 hn (s_TP_wr hT (by omega)) (by omega) hi) ?_
      refine xr_ret hc rfl rfl ?_
      exact ⟨rfl, rfl, rfl⟩

theorem c_pw {n : Nat} {M : ew_Mem} {B : Nat → Int} {z p : Nat} (hn : 59 ≤ n) (hT : s_TP B z M) (hpz : p ≤ 190) (hp9 : p ≤ 100) {i : Nat} (hi : i < 27) : ew_VM 57 [(2, 27), (0, (i : Int))] n (s_Q M p 0) n (s_Q (s_wm M i (s_wh B z p).2.2.1 (s_wh B z p).2.2.2) (s_wh B z p).2.1 (if (s_wh B z p).1 = true then 0 else 1)) := by
  by_cases h : s_hr B z p = 47
  · by_cases h2 : s_dg9 (s_hr B z (p + 1))
    · by_cases h3 : s_hr B z (s_nm B z 6 (p + 1) 0).1 = 43
      · by_cases h4 : s_dg9 (s_hr B z ((s_nm B z 6 (p + 1) 0).1 + 1))
        · have hg := c_pw3 hn hT hpz hp9 hi h h2 h3 h4
          have e : s_wh B z p = (true, (s_nm B z 6 ((s_nm B z 6 (p + 1) 0).1 + 1) 0).1, (s_nm B z 6 (p + 1) 0).2, (s_nm B z 6 ((s_nm B z 6 (p + 1) 0).1 + 1) 0).2) := by
            unfold s_wh
            rw [if_pos h, if_pos h2, if_pos h3, decide_eq_true h4]
          rw [e]
          exact hg
        · have hg := c_pw4 hn hT hpz hp9 hi h h2 h3 h4
          have e : s_wh B z p = (false, (s_nm B z 6 ((s_nm B z 6 (p + 1) 0).1 + 1) 0).1, (s_nm B z 6 (p + 1) 0).2, (s_nm B z 6 ((s_nm B z 6 (p + 1) 0).1 + 1) 0).2) := by
            unfold s_wh
            rw [if_pos h, if_pos h2, if_pos h3, decide_eq_false h4]
          rw [e]
          exact hg
      · have hg := c_pw2 hn hT hpz hp9 hi h h2 h3
        have e : s_wh B z p = (true, (s_nm B z 6 (p + 1) 0).1, (s_nm B z 6 (p + 1) 0).2, 0) := by
          unfold s_wh
          rw [if_pos h, if_pos h2, if_neg h3]
        rw [e]
        exact hg
    · have hg := c_pw1 hn hT hpz hp9 hi h h2
      have e : s_wh B z p = (false, p + 1, 0, 0) := by
        unfold s_wh
        rw [if_pos h, if_neg h2]
      rw [e]
      exact hg
  · have hg := c_pw0 hn hT hpz hp9 hi h
    have e : s_wh B z p = (false, p, 0, 0) := by
      unfold s_wh
      rw [if_neg h]
    rw [e]
    exact hg
