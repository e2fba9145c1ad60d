/-! the reference reads a text: statements -/
/-- the tape in the reference's memory -/
def s_TM (B : Nat → Int) (z : Nat) (M : ew_Mem) : Prop := ew_Pm M ∧ M 38 21 = (z : Int) ∧ z ≤ 80 ∧ (∀ i : Nat, i < 80 → M 53 i = B i) ∧ ∀ i : Nat, i < 80 → 0 ≤ B i ∧ B i ≤ 127
/-- alike but for the reader's own -/
def s_SM (M M' : ew_Mem) : Prop := ∀ a j : Nat, ¬ (a = 38 ∧ 23 ≤ j ∧ j ≤ 27) → M' a j = M a j
theorem s_SM_rf {M : ew_Mem} : s_SM M M := fun _ _ _ => rfl
theorem s_SM_tr {M M' M'' : ew_Mem} (h : s_SM M M') (h' : s_SM M' M'') : s_SM M M'' := fun a j q => (h' a j q).trans (h a j q)
theorem s_SM_wr {M M' : ew_Mem} (h : s_SM M M') {i : Nat} (hi : 23 ≤ i ∧ i ≤ 27) {v : Int} : s_SM M (ew_wr M' 38 i v) := fun a j q => by
  rw [s_nr (by omega)]
  exact h a j q
theorem s_TM_wr {B : Nat → Int} {z : Nat} {M : ew_Mem} {i : Nat} {v : Int} (h : s_TM B z M) (hi : 23 ≤ i ∧ i ≤ 27) : s_TM B z (ew_wr M 38 i v) := by
  obtain ⟨h1, h2, h3, h4, h5⟩ := h
  refine ⟨?_, ?_, h3, fun j hj => ?_, h5⟩
  · have : i = 23 ∨ i = 24 ∨ i = 25 ∨ i = 26 ∨ i = 27 := by omega
    rcases this with rfl | rfl | rfl | rfl | rfl
    · exact ew_Pm_wr h1 rfl
    · exact ew_Pm_wr h1 rfl
    · exact ew_Pm_wr h1 rfl
    · exact ew_Pm_wr h1 rfl
    · exact ew_Pm_wr h1 rfl
  · rw [s_ne_ri (by omega)]
    exact h2
  · rw [s_ne_rd (by omega)]
    exact h4 j hj
/-- what a statement's reading leaves -/
def s_SP (B : Nat → Int) (z p : Nat) (M : ew_Mem) (r : Option ew_AV) (b : ew_Mem) : Prop := r = some (0, if (s_st B z p).1 = true then 1 else 0) ∧ s_SM M b ∧ b 38 23 = ((s_st B z p).2.1 : Int) ∧ ((s_st B z p).1 = true → b 38 24 = s_hr B z p ∧ b 38 25 = (s_st B z p).2.2.1 ∧ (¬ s_kd (s_hr B z p) = -1 → b 38 26 = (s_st B z p).2.2.2.1 ∧ b 38 27 = (s_st B z p).2.2.2.2))
set_option maxRecDepth 20000 in
theorem m_here {n : Nat} {M : ew_Mem} {B : Nat → Int} {z p : Nat} (hn : 59 ≤ n) (hT : s_TM B z M) (hrd : M 38 23 = (p : Int)) (hpz : p ≤ 190)  : ew_FM 219 [(2, 38)] n M (0, s_hr B z p) n M := by
  obtain ⟨hp, hz1, hz8, hB53, hB⟩ := id hT
  have hbd := s_hr_bd (B := B) (z := z) hz8 hB p
  have hc := ew_c_219
  show ew_X 219 0 [(2, 38)] [] n _ _
  refine xr_go hc rfl rfl ?_
  refine xr_gf0 (A := 38) rfl hc rfl (ew_own_p hn rfl) (show _ = ((p : Nat) : Int) from hrd) ?_
  refine xr_go hc rfl rfl ?_
  refine xr_gf0 (A := 38) rfl hc rfl (ew_own_p hn rfl) (show _ = (z : Int) from hz1) ?_
  refine xr_icmp_ge hc rfl (by omega) (by omega) (fun c1 => ?_) (fun c1 => ?_)
  · skip
    refine xr_go hc rfl rfl ?_
    refine xr_ret hc rfl rfl ?_
    refine ⟨?_, rfl, rfl⟩
    unfold s_hr
    first
      | (rw [if_pos (by omega)]; done)
      | (rw [if_neg (by omega)]; done)
      | (exfalso; omega)
  · skip
    refine xr_go hc rfl rfl ?_
    refine xr_gf2 (A := 38) (w := 53) rfl hc rfl (ew_own_p hn rfl) (ew_pm hp rfl) ?_
    refine xr_go hc rfl rfl ?_
    refine xr_gf0 (A := 38) rfl hc rfl (ew_own_p hn rfl) (show _ = ((p : Nat) : Int) from hrd) ?_
    refine xr_iald (A := 53) (N := 80) rfl rfl hc rfl (ew_ok_p hn rfl) (by omega) (by omega) (hB53 p (by omega)) ?_
    refine xr_go hc rfl rfl ?_
    refine xr_ret hc rfl rfl ?_
    refine ⟨?_, rfl, rfl⟩
    unfold s_hr
    first
      | (rw [if_pos (by omega)]; done)
      | (rw [if_neg (by omega)]; done)
      | (exfalso; omega)

set_option maxRecDepth 20000 in
theorem m_takes1 {n : Nat} {M : ew_Mem} {B : Nat → Int} {z p : Nat} (hn : 59 ≤ n) (hT : s_TM B z M) (hrd : M 38 23 = (p : Int)) (hpz : p ≤ 190) {x : Int} (hx : ew_in x) (h : s_hr B z p = x) : ew_FM 222 [(2, 38), (0, x)] n M (0, 1) n (ew_wr M 38 23 ((p + 1 : Nat) : Int)) := by
  obtain ⟨hp, hz1, hz8, hB53, hB⟩ := id hT
  have hbd := s_hr_bd (B := B) (z := z) hz8 hB p
  have hc := ew_c_222
  show ew_X 222 0 [(2, 38), (0, x)] [] n _ _
  refine xr_go hc rfl rfl ?_
  refine xr_v_1 hc rfl rfl (ew_own_p hn rfl) (m_here hn hT hrd hpz) ?_
  refine xr_go hc rfl rfl ?_
  refine xr_icmp_eq hc rfl (by omega) (by omega) (fun c1 => ?_) (fun c1 => ?_)
  · skip
    refine xr_go hc rfl rfl ?_
    refine xr_go hc rfl rfl ?_
    refine xr_gf0 (A := 38) rfl hc rfl (ew_own_p hn rfl) (show _ = ((p : Nat) : Int) from hrd) ?_
    refine xr_go hc rfl rfl ?_
    refine xr_go hc rfl rfl ?_
    refine xr_pf (A := 38) rfl hc rfl (ew_own_p hn rfl) ?_
    refine xr_go hc rfl rfl ?_
    refine xr_ret hc rfl rfl ?_
    exact ⟨rfl, rfl, by rw [s_n1]⟩
  · exfalso; omega

set_option maxRecDepth 20000 in
theorem m_takes0 {n : Nat} {M : ew_Mem} {B : Nat → Int} {z p : Nat} (hn : 59 ≤ n) (hT : s_TM B z M) (hrd : M 38 23 = (p : Int)) (hpz : p ≤ 190) {x : Int} (hx : ew_in x) (h : ¬ s_hr B z p = x) : ew_FM 222 [(2, 38), (0, x)] n M (0, 0) n M := by
  obtain ⟨hp, hz1, hz8, hB53, hB⟩ := id hT
  have hbd := s_hr_bd (B := B) (z := z) hz8 hB p
  have hc := ew_c_222
  show ew_X 222 0 [(2, 38), (0, x)] [] n _ _
  refine xr_go hc rfl rfl ?_
  refine xr_v_1 hc rfl rfl (ew_own_p hn rfl) (m_here hn hT hrd hpz) ?_
  refine xr_go hc rfl rfl ?_
  refine xr_icmp_eq hc rfl (by omega) (by omega) (fun c1 => ?_) (fun c1 => ?_)
  · exfalso; omega
  · skip
    refine xr_go hc rfl rfl ?_
    refine xr_ret hc rfl rfl ?_
    exact ⟨rfl, rfl, rfl⟩

set_option maxRecDepth 20000 in
theorem m_nu_1 {n : Nat} {B : Nat → Int} {z : Nat} (hn : 59 ≤ n) : ∀ (j p : Nat) (v i : Int) (M : ew_Mem), s_TM B z M → M 38 23 = (p : Int) → i + (j : Int) = 6 → 0 ≤ i → p + j ≤ 190 →
    ew_X 221 23 [(2, 38), (0, v), (0, i)] [] n M (fun r a b => r = some (0, (s_nm B z j p v).2) ∧ a = n ∧ b = ew_wr M 38 23 ((s_nm B z j p v).1 : Int)) := by
  intro j
  induction j with
  | zero =>
    intro p v i M hT hrd hj hi hpj
    have hc := ew_c_221
    refine xr_go hc rfl rfl ?_
    refine xr_go hc rfl rfl ?_
    refine xr_icmp_ge hc rfl (by omega) (by decide) (fun c1 => ?_) (fun c1 => ?_)
    · skip
      refine xr_go hc rfl rfl ?_
      refine xr_ret hc rfl rfl ?_
      exact ⟨rfl, rfl, (s_wr_id hrd).symm⟩
    · exfalso; omega
  | succ j ih =>
    intro p v i M hT hrd hj hi hpj
    have hpz : p ≤ 190 := by omega
    obtain ⟨hp, hz1, hz8, hB53, hB⟩ := id hT
    have hbd := s_hr_bd (B := B) (z := z) hz8 hB p
    have hc := ew_c_221
    refine xr_go hc rfl rfl ?_
    refine xr_go hc rfl rfl ?_
    refine xr_icmp_ge hc rfl (by omega) (by decide) (fun c1 => ?_) (fun c1 => ?_)
    · exfalso; omega
    · skip
      refine xr_go hc rfl rfl ?_
      refine xr_v_1 hc rfl rfl (ew_own_p hn rfl) (m_here hn hT hrd hpz) ?_
      refine xr_i2l hc rfl (by omega) ?_
      refine xr_go hc rfl rfl ?_
      refine xr_go hc rfl rfl ?_
      refine xr_s_3 hc rfl rfl (c_in (by omega) (by decide) (by decide)) ?_
      refine xr_if_eq hc rfl (by split <;> omega) (fun c2 => ?_) (fun c2 => ?_)
      · skip
        refine xr_go hc rfl rfl ?_
        refine xr_ret hc rfl rfl ?_
        have hnd : ¬ s_dg9 (s_hr B z p) := by omega
        refine ⟨?_, rfl, ?_⟩
        · rw [s_nm_0 hnd]
        · rw [s_nm_0 hnd]
          exact (s_wr_id hrd).symm
      · skip
        refine xr_go hc rfl rfl ?_
        refine xr_go hc rfl rfl ?_
        refine xr_go hc rfl rfl ?_
        refine xr_go hc rfl rfl ?_
        refine xr_v_1 hc rfl rfl (ew_own_p hn rfl) (m_here hn hT hrd hpz) ?_
        refine xr_go hc rfl rfl ?_
        refine xr_go hc rfl rfl ?_
        refine xr_go hc rfl rfl ?_
        refine xr_s1_1 hc rfl rfl rfl ?_
        refine xr_go hc rfl rfl ?_
        refine xr_go hc rfl rfl ?_
        refine xr_gf0 (A := 38) rfl hc rfl (ew_own_p hn rfl) (show _ = ((p : Nat) : Int) from hrd) ?_
        refine xr_go hc rfl rfl ?_
        refine xr_go hc rfl rfl ?_
        refine xr_pf (A := 38) rfl hc rfl (ew_own_p hn rfl) ?_
        refine xr_inc_2 hc rfl ?_
        refine xr_go hc rfl rfl ?_
        have hdg : s_dg9 (s_hr B z p) := by omega
        rw [s_n1]
        have hg := ih (p + 1) (10 * v + s_hr B z p - 48) (i + 1) (ew_wr M 38 23 ((p + 1 : Nat) : Int)) (s_TM_wr hT (by decide)) rfl (by omega) (by omega) (by omega)
        refine ew_X.mono hg ?_
        rintro r a b ⟨rfl, rfl, rfl⟩
        rw [s_nm, if_pos hdg, show v * 10 + s_hr B z p - 48 = 10 * v + s_hr B z p - 48 by omega]
        exact ⟨rfl, rfl, s_wr_2⟩

set_option maxRecDepth 20000 in
theorem m_num {n : Nat} {M : ew_Mem} {B : Nat → Int} {z p : Nat} (hn : 59 ≤ n) (hT : s_TM B z M) (hrd : M 38 23 = (p : Int)) (hpz : p ≤ 190) (hd : s_dg9 (s_hr B z p)) (hp6 : p ≤ 184) : ew_FM 221 [(2, 38)] n M (0, (s_nm B z 6 p 0).2) n (ew_wr M 38 23 ((s_nm B z 6 p 0).1 : Int)) := by
  obtain ⟨hp, hz1, hz8, hB53, hB⟩ := id hT
  have hbd := s_hr_bd (B := B) (z := z) hz8 hB p
  have hc := ew_c_221
  show ew_X 221 0 [(2, 38), (5, 0), (5, 0)] [] n _ _
  refine xr_go hc rfl rfl ?_
  refine xr_v_1 hc rfl rfl (ew_own_p hn rfl) (m_here hn hT hrd hpz) ?_
  refine xr_i2l hc rfl (by omega) ?_
  refine xr_go hc rfl rfl ?_
  refine xr_go hc rfl rfl ?_
  refine xr_s_3 hc rfl rfl (c_in (by omega) (by decide) (by decide)) ?_
  refine xr_if_ne hc rfl (by split <;> omega) (fun c1 => ?_) (fun c1 => ?_)
  · skip
    refine xr_go hc rfl rfl ?_
    refine xr_s1_1 hc rfl rfl rfl ?_
    refine xr_go hc rfl rfl ?_
    refine xr_s1_2 hc rfl rfl rfl ?_
    exact m_nu_1 hn 6 p 0 0 M hT hrd (by decide) (by decide) (by omega)
  · exfalso; omega

set_option maxRecDepth 20000 in
theorem m_numN {n : Nat} {M : ew_Mem} {B : Nat → Int} {z p : Nat} (hn : 59 ≤ n) (hT : s_TM B z M) (hrd : M 38 23 = (p : Int)) (hpz : p ≤ 190) (hd : ¬ s_dg9 (s_hr B z p)) : ew_FM 221 [(2, 38)] n M (0, -1) n M := by
  obtain ⟨hp, hz1, hz8, hB53, hB⟩ := id hT
  have hbd := s_hr_bd (B := B) (z := z) hz8 hB p
  have hc := ew_c_221
  show ew_X 221 0 [(2, 38), (5, 0), (5, 0)] [] n _ _
  refine xr_go hc rfl rfl ?_
  refine xr_v_1 hc rfl rfl (ew_own_p hn rfl) (m_here hn hT hrd hpz) ?_
  refine xr_i2l hc rfl (by omega) ?_
  refine xr_go hc rfl rfl ?_
  refine xr_go hc rfl rfl ?_
  refine xr_s_3 hc rfl rfl (c_in (by omega) (by decide) (by decide)) ?_
  refine xr_if_ne hc rfl (by split <;> omega) (fun c1 => ?_) (fun c1 => ?_)
  · exfalso; omega
  · skip
    refine xr_go hc rfl rfl ?_
    refine xr_ret hc rfl rfl ?_
    exact ⟨rfl, rfl, rfl⟩

set_option maxRecDepth 20000 in
theorem m_t1 {n : Nat} {M : ew_Mem} {B : Nat → Int} {z p : Nat} (hn : 59 ≤ n) (hT : s_TM B z M) (hrd : M 38 23 = (p : Int)) (hpz : p ≤ 190) (hp8 : p ≤ 80) {w : Int} (hw : w = 0 ∨ w = 1) (h : ¬ s_dg9 (s_hr B z (p + 1))) : ew_X 218 66 [(2, 38), (0, w)] [] n M (fun r a b => r = some (0, 0) ∧ a = n ∧ b = (ew_wr (ew_wr (ew_wr M 38 23 ((p + 1 : Nat) : Int)) 38 25 (-1)) 38 27 0)) := by
  obtain ⟨hp, hz1, hz8, hB53, hB⟩ := id hT
  have hbd := s_hr_bd (B := B) (z := z) hz8 hB p
  have hq1 := s_nm_le (B := B) (z := z) 6 (p + 1) 0
  have hq2 := s_nm_le (B := B) (z := z) 6 ((s_nm B z 6 (p + 1) 0).1 + 1) 0
  have hn1 := s_nm_6 (B := B) (z := z) (p := p + 1)
  have hn2 := s_nm_6 (B := B) (z := z) (p := (s_nm B z 6 (p + 1) 0).1 + 1)
  have hn3 := s_nm_6 (B := B) (z := z) (p := (s_nm B z 6 ((s_nm B z 6 (p + 1) 0).1 + 1) 0).1 + 1)
  have hc := ew_c_218
  refine xr_go hc rfl rfl ?_
  refine xr_go hc rfl rfl ?_
  refine xr_gf0 (A := 38) rfl hc rfl (ew_own_p hn rfl) (show _ = ((p : Nat) : Int) from hrd) ?_
  refine xr_go hc rfl rfl ?_
  refine xr_go hc rfl rfl ?_
  refine xr_pf (A := 38) rfl hc rfl (ew_own_p hn rfl) ?_
  rw [s_n1]
  refine xr_go hc rfl rfl ?_
  refine xr_go hc rfl rfl ?_
  refine xr_v_1 hc rfl rfl (ew_own_p hn rfl) (m_numN hn (M := (ew_wr M 38 23 ((p + 1 : Nat) : Int))) (s_TM_wr hT (by decide)) rfl (by omega) h) ?_
  refine xr_pf (A := 38) rfl hc rfl (ew_own_p hn rfl) ?_
  refine xr_go hc rfl rfl ?_
  refine xr_go hc rfl rfl ?_
  refine xr_pf (A := 38) rfl hc rfl (ew_own_p hn rfl) ?_
  refine xr_go hc rfl rfl ?_
  refine xr_gf0 (A := 38) rfl hc rfl (ew_own_p hn rfl) (show _ = -1 from rfl) ?_
  refine xr_if_lt hc rfl (by decide) (fun c1 => ?_) (fun c1 => ?_)
  · skip
    refine xr_go hc rfl rfl ?_
    refine xr_gf0 (A := 38) rfl hc rfl (ew_own_p hn rfl) (show _ = -1 from rfl) ?_
    refine xr_if_lt hc rfl (by decide) (fun c2 => ?_) (fun c2 => ?_)
    · skip
      refine xr_go hc rfl rfl ?_
      refine xr_ret hc rfl rfl ?_
      exact ⟨rfl, rfl, rfl⟩
    · exfalso; omega
  · exfalso; omega

set_option maxRecDepth 20000 in
theorem m_t2 {n : Nat} {M : ew_Mem} {B : Nat → Int} {z p : Nat} (hn : 59 ≤ n) (hT : s_TM B z M) (hrd : M 38 23 = (p : Int)) (hpz : p ≤ 190) (hp8 : p ≤ 80) (h : s_dg9 (s_hr B z (p + 1))) : ew_X 218 66 [(2, 38), (0, 0)] [] n M (fun r a b => r = some (0, 1) ∧ a = n ∧ b = (ew_wr (ew_wr (ew_wr (ew_wr M 38 23 ((p + 1 : Nat) : Int)) 38 23 (((s_nm B z 6 (p + 1) 0).1 : Nat) : Int)) 38 25 (s_nm B z 6 (p + 1) 0).2) 38 27 0)) := by
  obtain ⟨hp, hz1, hz8, hB53, hB⟩ := id hT
  have hbd := s_hr_bd (B := B) (z := z) hz8 hB p
  have hq1 := s_nm_le (B := B) (z := z) 6 (p + 1) 0
  have hq2 := s_nm_le (B := B) (z := z) 6 ((s_nm B z 6 (p + 1) 0).1 + 1) 0
  have hn1 := s_nm_6 (B := B) (z := z) (p := p + 1)
  have hn2 := s_nm_6 (B := B) (z := z) (p := (s_nm B z 6 (p + 1) 0).1 + 1)
  have hn3 := s_nm_6 (B := B) (z := z) (p := (s_nm B z 6 ((s_nm B z 6 (p + 1) 0).1 + 1) 0).1 + 1)
  have hc := ew_c_218
  refine xr_go hc rfl rfl ?_
  refine xr_go hc rfl rfl ?_
  refine xr_gf0 (A := 38) rfl hc rfl (ew_own_p hn rfl) (show _ = ((p : Nat) : Int) from hrd) ?_
  refine xr_go hc rfl rfl ?_
  refine xr_go hc rfl rfl ?_
  refine xr_pf (A := 38) rfl hc rfl (ew_own_p hn rfl) ?_
  rw [s_n1]
  refine xr_go hc rfl rfl ?_
  refine xr_go hc rfl rfl ?_
  refine xr_v_1 hc rfl rfl (ew_own_p hn rfl) (m_num hn (M := (ew_wr M 38 23 ((p + 1 : Nat) : Int))) (s_TM_wr hT (by decide)) rfl (by omega) h (by omega)) ?_
  refine xr_pf (A := 38) rfl hc rfl (ew_own_p hn rfl) ?_
  refine xr_go hc rfl rfl ?_
  refine xr_go hc rfl rfl ?_
  refine xr_pf (A := 38) rfl hc rfl (ew_own_p hn rfl) ?_
  refine xr_go hc rfl rfl ?_
  refine xr_gf0 (A := 38) rfl hc rfl (ew_own_p hn rfl) (show _ = (s_nm B z 6 (p + 1) 0).2 from rfl) ?_
  refine xr_if_lt hc rfl (by omega) (fun c1 => ?_) (fun c1 => ?_)
  · exfalso; omega
  · skip
    refine xr_go hc rfl rfl ?_
    refine xr_if_ne hc rfl (by decide) (fun c2 => by exfalso; omega) (fun c2 => ?_)
    refine xr_go hc rfl rfl ?_
    refine xr_gf0 (A := 38) rfl hc rfl (ew_own_p hn rfl) (show _ = (s_nm B z 6 (p + 1) 0).2 from rfl) ?_
    refine xr_if_lt hc rfl (by omega) (fun c3 => ?_) (fun c3 => ?_)
    · exfalso; omega
    · skip
      refine xr_go hc rfl rfl ?_
      refine xr_go hc rfl rfl ?_
      refine xr_ret hc rfl rfl ?_
      exact ⟨rfl, rfl, rfl⟩

set_option maxRecDepth 20000 in
theorem m_t3 {n : Nat} {M : ew_Mem} {B : Nat → Int} {z p : Nat} (hn : 59 ≤ n) (hT : s_TM B z M) (hrd : M 38 23 = (p : Int)) (hpz : p ≤ 190) (hp8 : p ≤ 80) (h : s_dg9 (s_hr B z (p + 1))) (h2 : ¬ s_hr B z (s_nm B z 6 (p + 1) 0).1 = 47) : ew_X 218 66 [(2, 38), (0, 1)] [] n M (fun r a b => r = some (0, 0) ∧ a = n ∧ b = (ew_wr (ew_wr (ew_wr (ew_wr M 38 23 ((p + 1 : Nat) : Int)) 38 23 (((s_nm B z 6 (p + 1) 0).1 : Nat) : Int)) 38 25 (s_nm B z 6 (p + 1) 0).2) 38 27 0)) := by
  obtain ⟨hp, hz1, hz8, hB53, hB⟩ := id hT
  have hbd := s_hr_bd (B := B) (z := z) hz8 hB p
  have hq1 := s_nm_le (B := B) (z := z) 6 (p + 1) 0
  have hq2 := s_nm_le (B := B) (z := z) 6 ((s_nm B z 6 (p + 1) 0).1 + 1) 0
  have hn1 := s_nm_6 (B := B) (z := z) (p := p + 1)
  have hn2 := s_nm_6 (B := B) (z := z) (p := (s_nm B z 6 (p + 1) 0).1 + 1)
  have hn3 := s_nm_6 (B := B) (z := z) (p := (s_nm B z 6 ((s_nm B z 6 (p + 1) 0).1 + 1) 0).1 + 1)
  have hc := ew_c_218
  refine xr_go hc rfl rfl ?_
  refine xr_go hc rfl rfl ?_
  refine xr_gf0 (A := 38) rfl hc rfl (ew_own_p hn rfl) (show _ = ((p : Nat) : Int) from hrd) ?_
  refine xr_go hc rfl rfl ?_
  refine xr_go hc rfl rfl ?_
  refine xr_pf (A := 38) rfl hc rfl (ew_own_p hn rfl) ?_
  rw [s_n1]
  refine xr_go hc rfl rfl ?_
  refine xr_go hc rfl rfl ?_
  refine xr_v_1 hc rfl rfl (ew_own_p hn rfl) (m_num hn (M := (ew_wr M 38 23 ((p + 1 : Nat) : Int))) (s_TM_wr hT (by decide)) rfl (by omega) h (by omega)) ?_
  refine xr_pf (A := 38) rfl hc rfl (ew_own_p hn rfl) ?_
  refine xr_go hc rfl rfl ?_
  refine xr_go hc rfl rfl ?_
  refine xr_pf (A := 38) rfl hc rfl (ew_own_p hn rfl) ?_
  refine xr_go hc rfl rfl ?_
  refine xr_gf0 (A := 38) rfl hc rfl (ew_own_p hn rfl) (show _ = (s_nm B z 6 (p + 1) 0).2 from rfl) ?_
  refine xr_if_lt hc rfl (by omega) (fun c1 => ?_) (fun c1 => ?_)
  · exfalso; omega
  · skip
    refine xr_go hc rfl rfl ?_
    refine xr_if_ne hc rfl (by decide) (fun c2 => ?_) (fun c2 => by exfalso; omega)
    refine xr_go hc rfl rfl ?_
    refine xr_go hc rfl rfl ?_
    refine xr_v_2 hc rfl rfl (ew_own_p hn rfl) (m_takes0 hn (M := (ew_wr (ew_wr (ew_wr (ew_wr M 38 23 ((p + 1 : Nat) : Int)) 38 23 (((s_nm B z 6 (p + 1) 0).1 : Nat) : Int)) 38 25 (s_nm B z 6 (p + 1) 0).2) 38 27 0)) (s_TM_wr (s_TM_wr (s_TM_wr (s_TM_wr hT (by decide)) (by decide)) (by decide)) (by decide)) rfl (by omega) (by decide) h2) ?_
    refine xr_if_ne hc rfl (by decide) (fun c3 => by exfalso; omega) (fun c3 => ?_)
    refine xr_go hc rfl rfl ?_
    refine xr_ret hc rfl rfl ?_
    exact ⟨rfl, rfl, rfl⟩

set_option maxRecDepth 20000 in
theorem m_t4 {n : Nat} {M : ew_Mem} {B : Nat → Int} {z p : Nat} (hn : 59 ≤ n) (hT : s_TM B z M) (hrd : M 38 23 = (p : Int)) (hpz : p ≤ 190) (hp8 : p ≤ 80) (h : s_dg9 (s_hr B z (p + 1))) (h2 : s_hr B z (s_nm B z 6 (p + 1) 0).1 = 47) (h3 : ¬ s_dg9 (s_hr B z ((s_nm B z 6 (p + 1) 0).1 + 1))) : ew_X 218 66 [(2, 38), (0, 1)] [] n M (fun r a b => r = some (0, 0) ∧ a = n ∧ b = (ew_wr (ew_wr (ew_wr (ew_wr (ew_wr (ew_wr M 38 23 ((p + 1 : Nat) : Int)) 38 23 (((s_nm B z 6 (p + 1) 0).1 : Nat) : Int)) 38 25 (s_nm B z 6 (p + 1) 0).2) 38 27 0) 38 23 (((s_nm B z 6 (p + 1) 0).1 + 1 : Nat) : Int)) 38 26 (-1))) := by
  obtain ⟨hp, hz1, hz8, hB53, hB⟩ := id hT
  have hbd := s_hr_bd (B := B) (z := z) hz8 hB p
  have hq1 := s_nm_le (B := B) (z := z) 6 (p + 1) 0
  have hq2 := s_nm_le (B := B) (z := z) 6 ((s_nm B z 6 (p + 1) 0).1 + 1) 0
  have hn1 := s_nm_6 (B := B) (z := z) (p := p + 1)
  have hn2 := s_nm_6 (B := B) (z := z) (p := (s_nm B z 6 (p + 1) 0).1 + 1)
  have hn3 := s_nm_6 (B := B) (z := z) (p := (s_nm B z 6 ((s_nm B z 6 (p + 1) 0).1 + 1) 0).1 + 1)
  have hc := ew_c_218
  refine xr_go hc rfl rfl ?_
  refine xr_go hc rfl rfl ?_
  refine xr_gf0 (A := 38) rfl hc rfl (ew_own_p hn rfl) (show _ = ((p : Nat) : Int) from hrd) ?_
  refine xr_go hc rfl rfl ?_
  refine xr_go hc rfl rfl ?_
  refine xr_pf (A := 38) rfl hc rfl (ew_own_p hn rfl) ?_
  rw [s_n1]
  refine xr_go hc rfl rfl ?_
  refine xr_go hc rfl rfl ?_
  refine xr_v_1 hc rfl rfl (ew_own_p hn rfl) (m_num hn (M := (ew_wr M 38 23 ((p + 1 : Nat) : Int))) (s_TM_wr hT (by decide)) rfl (by omega) h (by omega)) ?_
  refine xr_pf (A := 38) rfl hc rfl (ew_own_p hn rfl) ?_
  refine xr_go hc rfl rfl ?_
  refine xr_go hc rfl rfl ?_
  refine xr_pf (A := 38) rfl hc rfl (ew_own_p hn rfl) ?_
  refine xr_go hc rfl rfl ?_
  refine xr_gf0 (A := 38) rfl hc rfl (ew_own_p hn rfl) (show _ = (s_nm B z 6 (p + 1) 0).2 from rfl) ?_
  refine xr_if_lt hc rfl (by omega) (fun c1 => ?_) (fun c1 => ?_)
  · exfalso; omega
  · skip
    refine xr_go hc rfl rfl ?_
    refine xr_if_ne hc rfl (by decide) (fun c2 => ?_) (fun c2 => by exfalso; omega)
    refine xr_go hc rfl rfl ?_
    refine xr_go hc rfl rfl ?_
    refine xr_v_2 hc rfl rfl (ew_own_p hn rfl) (m_takes1 hn (M := (ew_wr (ew_wr (ew_wr (ew_wr M 38 23 ((p + 1 : Nat) : Int)) 38 23 (((s_nm B z 6 (p + 1) 0).1 : Nat) : Int)) 38 25 (s_nm B z 6 (p + 1) 0).2) 38 27 0)) (s_TM_wr (s_TM_wr (s_TM_wr (s_TM_wr hT (by decide)) (by decide)) (by decide)) (by decide)) rfl (by omega) (by decide) h2) ?_
    refine xr_if_ne hc rfl (by decide) (fun c3 => ?_) (fun c3 => by exfalso; omega)
    refine xr_go hc rfl rfl ?_
    refine xr_go hc rfl rfl ?_
    refine xr_v_1 hc rfl rfl (ew_own_p hn rfl) (m_numN hn (M := (ew_wr (ew_wr (ew_wr (ew_wr (ew_wr M 38 23 ((p + 1 : Nat) : Int)) 38 23 (((s_nm B z 6 (p + 1) 0).1 : Nat) : Int)) 38 25 (s_nm B z 6 (p + 1) 0).2) 38 27 0) 38 23 (((s_nm B z 6 (p + 1) 0).1 + 1 : Nat) : Int))) (s_TM_wr (s_TM_wr (s_TM_wr (s_TM_wr (s_TM_wr hT (by decide)) (by decide)) (by decide)) (by decide)) (by decide)) rfl (by omega) h3) ?_
    refine xr_pf (A := 38) rfl hc rfl (ew_own_p hn rfl) ?_
    refine xr_go hc rfl rfl ?_
    refine xr_gf0 (A := 38) rfl hc rfl (ew_own_p hn rfl) (show _ = -1 from rfl) ?_
    refine xr_if_ge hc rfl (by decide) (fun c4 => ?_) (fun c4 => ?_)
    · exfalso; omega
    · skip
      refine xr_go hc rfl rfl ?_
      refine xr_ret hc rfl rfl ?_
      exact ⟨rfl, rfl, rfl⟩

set_option maxRecDepth 20000 in
theorem m_t5 {n : Nat} {M : ew_Mem} {B : Nat → Int} {z p : Nat} (hn : 59 ≤ n) (hT : s_TM B z M) (hrd : M 38 23 = (p : Int)) (hpz : p ≤ 190) (hp8 : p ≤ 80) (h : s_dg9 (s_hr B z (p + 1))) (h2 : s_hr B z (s_nm B z 6 (p + 1) 0).1 = 47) (h3 : s_dg9 (s_hr B z ((s_nm B z 6 (p + 1) 0).1 + 1))) (h4 : ¬ s_hr B z (s_nm B z 6 ((s_nm B z 6 (p + 1) 0).1 + 1) 0).1 = 43) : ew_X 218 66 [(2, 38), (0, 1)] [] n M (fun r a b => r = some (0, 1) ∧ a = n ∧ b = (ew_wr (ew_wr (ew_wr (ew_wr (ew_wr (ew_wr (ew_wr M 38 23 ((p + 1 : Nat) : Int)) 38 23 (((s_nm B z 6 (p + 1) 0).1 : Nat) : Int)) 38 25 (s_nm B z 6 (p + 1) 0).2) 38 27 0) 38 23 (((s_nm B z 6 (p + 1) 0).1 + 1 : Nat) : Int)) 38 23 (((s_nm B z 6 ((s_nm B z 6 (p + 1) 0).1 + 1) 0).1 : Nat) : Int)) 38 26 (s_nm B z 6 ((s_nm B z 6 (p + 1) 0).1 + 1) 0).2)) := by
  obtain ⟨hp, hz1, hz8, hB53, hB⟩ := id hT
  have hbd := s_hr_bd (B := B) (z := z) hz8 hB p
  have hq1 := s_nm_le (B := B) (z := z) 6 (p + 1) 0
  have hq2 := s_nm_le (B := B) (z := z) 6 ((s_nm B z 6 (p + 1) 0).1 + 1) 0
  have hn1 := s_nm_6 (B := B) (z := z) (p := p + 1)
  have hn2 := s_nm_6 (B := B) (z := z) (p := (s_nm B z 6 (p + 1) 0).1 + 1)
  have hn3 := s_nm_6 (B := B) (z := z) (p := (s_nm B z 6 ((s_nm B z 6 (p + 1) 0).1 + 1) 0).1 + 1)
  have hc := ew_c_218
  refine xr_go hc rfl rfl ?_
  refine xr_go hc rfl rfl ?_
  refine xr_gf0 (A := 38) rfl hc rfl (ew_own_p hn rfl) (show _ = ((p : Nat) : Int) from hrd) ?_
  refine xr_go hc rfl rfl ?_
  refine xr_go hc rfl rfl ?_
  refine xr_pf (A := 38) rfl hc rfl (ew_own_p hn rfl) ?_
  rw [s_n1]
  refine xr_go hc rfl rfl ?_
  refine xr_go hc rfl rfl ?_
  refine xr_v_1 hc rfl rfl (ew_own_p hn rfl) (m_num hn (M := (ew_wr M 38 23 ((p + 1 : Nat) : Int))) (s_TM_wr hT (by decide)) rfl (by omega) h (by omega)) ?_
  refine xr_pf (A := 38) rfl hc rfl (ew_own_p hn rfl) ?_
  refine xr_go hc rfl rfl ?_
  refine xr_go hc rfl rfl ?_
  refine xr_pf (A := 38) rfl hc rfl (ew_own_p hn rfl) ?_
  refine xr_go hc rfl rfl ?_
  refine xr_gf0 (A := 38) rfl hc rfl (ew_own_p hn rfl) (show _ = (s_nm B z 6 (p + 1) 0).2 from rfl) ?_
  refine xr_if_lt hc rfl (by omega) (fun c1 => ?_) (fun c1 => ?_)
  · exfalso; omega
  · skip
    refine xr_go hc rfl rfl ?_
    refine xr_if_ne hc rfl (by decide) (fun c2 => ?_) (fun c2 => by exfalso; omega)
    refine xr_go hc rfl rfl ?_
    refine xr_go hc rfl rfl ?_
    refine xr_v_2 hc rfl rfl (ew_own_p hn rfl) (m_takes1 hn (M := (ew_wr (ew_wr (ew_wr (ew_wr M 38 23 ((p + 1 : Nat) : Int)) 38 23 (((s_nm B z 6 (p + 1) 0).1 : Nat) : Int)) 38 25 (s_nm B z 6 (p + 1) 0).2) 38 27 0)) (s_TM_wr (s_TM_wr (s_TM_wr (s_TM_wr hT (by decide)) (by decide)) (by decide)) (by decide)) rfl (by omega) (by decide) h2) ?_
    refine xr_if_ne hc rfl (by decide) (fun c3 => ?_) (fun c3 => by exfalso; omega)
    refine xr_go hc rfl rfl ?_
    refine xr_go hc rfl rfl ?_
    refine xr_v_1 hc rfl rfl (ew_own_p hn rfl) (m_num hn (M := (ew_wr (ew_wr (ew_wr (ew_wr (ew_wr M 38 23 ((p + 1 : Nat) : Int)) 38 23 (((s_nm B z 6 (p + 1) 0).1 : Nat) : Int)) 38 25 (s_nm B z 6 (p + 1) 0).2) 38 27 0) 38 23 (((s_nm B z 6 (p + 1) 0).1 + 1 : Nat) : Int))) (s_TM_wr (s_TM_wr (s_TM_wr (s_TM_wr (s_TM_wr hT (by decide)) (by decide)) (by decide)) (by decide)) (by decide)) rfl (by omega) h3 (by omega)) ?_
    refine xr_pf (A := 38) rfl hc rfl (ew_own_p hn rfl) ?_
    refine xr_go hc rfl rfl ?_
    refine xr_gf0 (A := 38) rfl hc rfl (ew_own_p hn rfl) (show _ = (s_nm B z 6 ((s_nm B z 6 (p + 1) 0).1 + 1) 0).2 from rfl) ?_
    refine xr_if_ge hc rfl (by omega) (fun c4 => ?_) (fun c4 => ?_)
    · skip
      refine xr_go hc rfl rfl ?_
      refine xr_go hc rfl rfl ?_
      refine xr_v_2 hc rfl rfl (ew_own_p hn rfl) (m_takes0 hn (M := (ew_wr (ew_wr (ew_wr (ew_wr (ew_wr (ew_wr (ew_wr M 38 23 ((p + 1 : Nat) : Int)) 38 23 (((s_nm B z 6 (p + 1) 0).1 : Nat) : Int)) 38 25 (s_nm B z 6 (p + 1) 0).2) 38 27 0) 38 23 (((s_nm B z 6 (p + 1) 0).1 + 1 : Nat) : Int)) 38 23 (((s_nm B z 6 ((s_nm B z 6 (p + 1) 0).1 + 1) 0).1 : Nat) : Int)) 38 26 (s_nm B z 6 ((s_nm B z 6 (p + 1) 0).1 + 1) 0).2)) (s_TM_wr (s_TM_wr (s_TM_wr (s_TM_wr (s_TM_wr (s_TM_wr (s_TM_wr hT (by decide)) (by decide)) (by decide)) (by decide)) (by decide)) (by decide)) (by decide)) rfl (by omega) (by decide) h4) ?_
      refine xr_if_eq hc rfl (by decide) (fun c5 => ?_) (fun c5 => by exfalso; omega)
      refine xr_go hc rfl rfl ?_
      refine xr_gf0 (A := 38) rfl hc rfl (ew_own_p hn rfl) (show _ = 0 from rfl) ?_
      refine xr_if_lt hc rfl (by decide) (fun c6 => ?_) (fun c6 => ?_)
      · exfalso; omega
      · skip
        refine xr_go hc rfl rfl ?_
        refine xr_go hc rfl rfl ?_
        refine xr_ret hc rfl rfl ?_
        exact ⟨rfl, rfl, rfl⟩
    · exfalso; omega

set_option maxRecDepth 20000 in
theorem m_t6 {n : Nat} {M : ew_Mem} {B : Nat → Int} {z p : Nat} (hn : 59 ≤ n) (hT : s_TM B z M) (hrd : M 38 23 = (p : Int)) (hpz : p ≤ 190) (hp8 : p ≤ 80) (h : s_dg9 (s_hr B z (p + 1))) (h2 : s_hr B z (s_nm B z 6 (p + 1) 0).1 = 47) (h3 : s_dg9 (s_hr B z ((s_nm B z 6 (p + 1) 0).1 + 1))) (h4 : s_hr B z (s_nm B z 6 ((s_nm B z 6 (p + 1) 0).1 + 1) 0).1 = 43) (h5 : s_dg9 (s_hr B z ((s_nm B z 6 ((s_nm B z 6 (p + 1) 0).1 + 1) 0).1 + 1))) : ew_X 218 66 [(2, 38), (0, 1)] [] n M (fun r a b => r = some (0, 1) ∧ a = n ∧ b = (ew_wr (ew_wr (ew_wr (ew_wr (ew_wr (ew_wr (ew_wr (ew_wr (ew_wr (ew_wr M 38 23 ((p + 1 : Nat) : Int)) 38 23 (((s_nm B z 6 (p + 1) 0).1 : Nat) : Int)) 38 25 (s_nm B z 6 (p + 1) 0).2) 38 27 0) 38 23 (((s_nm B z 6 (p + 1) 0).1 + 1 : Nat) : Int)) 38 23 (((s_nm B z 6 ((s_nm B z 6 (p + 1) 0).1 + 1) 0).1 : Nat) : Int)) 38 26 (s_nm B z 6 ((s_nm B z 6 (p + 1) 0).1 + 1) 0).2) 38 23 (((s_nm B z 6 ((s_nm B z 6 (p + 1) 0).1 + 1) 0).1 + 1 : Nat) : Int)) 38 23 (((s_nm B z 6 ((s_nm B z 6 ((s_nm B z 6 (p + 1) 0).1 + 1) 0).1 + 1) 0).1 : Nat) : Int)) 38 27 (s_nm B z 6 ((s_nm B z 6 ((s_nm B z 6 (p + 1) 0).1 + 1) 0).1 + 1) 0).2)) := by
  obtain ⟨hp, hz1, hz8, hB53, hB⟩ := id hT
  have hbd := s_hr_bd (B := B) (z := z) hz8 hB p
  have hq1 := s_nm_le (B := B) (z := z) 6 (p + 1) 0
  have hq2 := s_nm_le (B := B) (z := z) 6 ((s_nm B z 6 (p + 1) 0).1 + 1) 0
  have hn1 := s_nm_6 (B := B) (z := z) (p := p + 1)
  have hn2 := s_nm_6 (B := B) (z := z) (p := (s_nm B z 6 (p + 1) 0).1 + 1)
  have hn3 := s_nm_6 (B := B) (z := z) (p := (s_nm B z 6 ((s_nm B z 6 (p + 1) 0).1 + 1) 0).1 + 1)
  have hc := ew_c_218
  refine xr_go hc rfl rfl ?_
  refine xr_go hc rfl rfl ?_
  refine xr_gf0 (A := 38) rfl hc rfl (ew_own_p hn rfl) (show _ = ((p : Nat) : Int) from hrd) ?_
  refine xr_go hc rfl rfl ?_
  refine xr_go hc rfl rfl ?_
  refine xr_pf (A := 38) rfl hc rfl (ew_own_p hn rfl) ?_
  rw [s_n1]
  refine xr_go hc rfl rfl ?_
  refine xr_go hc rfl rfl ?_
  refine xr_v_1 hc rfl rfl (ew_own_p hn rfl) (m_num hn (M := (ew_wr M 38 23 ((p + 1 : Nat) : Int))) (s_TM_wr hT (by decide)) rfl (by omega) h (by omega)) ?_
  refine xr_pf (A := 38) rfl hc rfl (ew_own_p hn rfl) ?_
  refine xr_go hc rfl rfl ?_
  refine xr_go hc rfl rfl ?_
  refine xr_pf (A := 38) rfl hc rfl (ew_own_p hn rfl) ?_
  refine xr_go hc rfl rfl ?_
  refine xr_gf0 (A := 38) rfl hc rfl (ew_own_p hn rfl) (show _ = (s_nm B z 6 (p + 1) 0).2 from rfl) ?_
  refine xr_if_lt hc rfl (by omega) (fun c1 => ?_) (fun c1 => ?_)
  · exfalso; omega
  · skip
    refine xr_go hc rfl rfl ?_
    refine xr_if_ne hc rfl (by decide) (fun c2 => ?_) (fun c2 => by exfalso; omega)
    refine xr_go hc rfl rfl ?_
    refine xr_go hc rfl rfl ?_
    refine xr_v_2 hc rfl rfl (ew_own_p hn rfl) (m_takes1 hn (M := (ew_wr (ew_wr (ew_wr (ew_wr M 38 23 ((p + 1 : Nat) : Int)) 38 23 (((s_nm B z 6 (p + 1) 0).1 : Nat) : Int)) 38 25 (s_nm B z 6 (p + 1) 0).2) 38 27 0)) (s_TM_wr (s_TM_wr (s_TM_wr (s_TM_wr hT (by decide)) (by decide)) (by decide)) (by decide)) rfl (by omega) (by decide) h2) ?_
    refine xr_if_ne hc rfl (by decide) (fun c3 => ?_) (fun c3 => by exfalso; omega)
    refine xr_go hc rfl rfl ?_
    refine xr_go hc rfl rfl ?_
    refine xr_v_1 hc rfl rfl (ew_own_p hn rfl) (m_num hn (M := (ew_wr (ew_wr (ew_wr (ew_wr (ew_wr M 38 23 ((p + 1 : Nat) : Int)) 38 23 (((s_nm B z 6 (p + 1) 0).1 : Nat) : Int)) 38 25 (s_nm B z 6 (p + 1) 0).2) 38 27 0) 38 23 (((s_nm B z 6 (p + 1) 0).1 + 1 : Nat) : Int))) (s_TM_wr (s_TM_wr (s_TM_wr (s_TM_wr (s_TM_wr hT (by decide)) (by decide)) (by decide)) (by decide)) (by decide)) rfl (by omega) h3 (by omega)) ?_
    refine xr_pf (A := 38) rfl hc rfl (ew_own_p hn rfl) ?_
    refine xr_go hc rfl rfl ?_
    refine xr_gf0 (A := 38) rfl hc rfl (ew_own_p hn rfl) (show _ = (s_nm B z 6 ((s_nm B z 6 (p + 1) 0).1 + 1) 0).2 from rfl) ?_
    refine xr_if_ge hc rfl (by omega) (fun c4 => ?_) (fun c4 => ?_)
    · skip
      refine xr_go hc rfl rfl ?_
      refine xr_go hc rfl rfl ?_
      refine xr_v_2 hc rfl rfl (ew_own_p hn rfl) (m_takes1 hn (M := (ew_wr (ew_wr (ew_wr (ew_wr (ew_wr (ew_wr (ew_wr M 38 23 ((p + 1 : Nat) : Int)) 38 23 (((s_nm B z 6 (p + 1) 0).1 : Nat) : Int)) 38 25 (s_nm B z 6 (p + 1) 0).2) 38 27 0) 38 23 (((s_nm B z 6 (p + 1) 0).1 + 1 : Nat) : Int)) 38 23 (((s_nm B z 6 ((s_nm B z 6 (p + 1) 0).1 + 1) 0).1 : Nat) : Int)) 38 26 (s_nm B z 6 ((s_nm B z 6 (p + 1) 0).1 + 1) 0).2)) (s_TM_wr (s_TM_wr (s_TM_wr (s_TM_wr (s_TM_wr (s_TM_wr (s_TM_wr hT (by decide)) (by decide)) (by decide)) (by decide)) (by decide)) (by decide)) (by decide)) rfl (by omega) (by decide) h4) ?_
      refine xr_if_eq hc rfl (by decide) (fun c5 => by exfalso; omega) (fun c5 => ?_)
      refine xr_go hc rfl rfl ?_
      refine xr_go hc rfl rfl ?_
      refine xr_v_1 hc rfl rfl (ew_own_p hn rfl) (m_num hn (M := (ew_wr (ew_wr (ew_wr (ew_wr (ew_wr (ew_wr (ew_wr (ew_wr M 38 23 ((p + 1 : Nat) : Int)) 38 23 (((s_nm B z 6 (p + 1) 0).1 : Nat) : Int)) 38 25 (s_nm B z 6 (p + 1) 0).2) 38 27 0) 38 23 (((s_nm B z 6 (p + 1) 0).1 + 1 : Nat) : Int)) 38 23 (((s_nm B z 6 ((s_nm B z 6 (p + 1) 0).1 + 1) 0).1 : Nat) : Int)) 38 26 (s_nm B z 6 ((s_nm B z 6 (p + 1) 0).1 + 1) 0).2) 38 23 (((s_nm B z 6 ((s_nm B z 6 (p + 1) 0).1 + 1) 0).1 + 1 : Nat) : Int))) (s_TM_wr (s_TM_wr (s_TM_wr (s_TM_wr (s_TM_wr (s_TM_wr (s_TM_wr (s_TM_wr hT (by decide)) (by decide)) (by decide)) (by decide)) (by decide)) (by decide)) (by decide)) (by decide)) rfl (by omega) h5 (by omega)) ?_
      refine xr_pf (A := 38) rfl hc rfl (ew_own_p hn rfl) ?_
      refine xr_go hc rfl rfl ?_
      refine xr_gf0 (A := 38) rfl hc rfl (ew_own_p hn rfl) (show _ = (s_nm B z 6 ((s_nm B z 6 ((s_nm B z 6 (p + 1) 0).1 + 1) 0).1 + 1) 0).2 from rfl) ?_
      refine xr_if_lt hc rfl (by omega) (fun c6 => ?_) (fun c6 => ?_)
      · exfalso; omega
      · skip
        refine xr_go hc rfl rfl ?_
        refine xr_go hc rfl rfl ?_
        refine xr_ret hc rfl rfl ?_
        exact ⟨rfl, rfl, rfl⟩
    · exfalso; omega

set_option maxRecDepth 20000 in
theorem m_t7 {n : Nat} {M : ew_Mem} {B : Nat → Int} {z p : Nat} (hn : 59 ≤ n) (hT : s_TM B z M) (hrd : M 38 23 = (p : Int)) (hpz : p ≤ 190) (hp8 : p ≤ 80) (h : s_dg9 (s_hr B z (p + 1))) (h2 : s_hr B z (s_nm B z 6 (p + 1) 0).1 = 47) (h3 : s_dg9 (s_hr B z ((s_nm B z 6 (p + 1) 0).1 + 1))) (h4 : s_hr B z (s_nm B z 6 ((s_nm B z 6 (p + 1) 0).1 + 1) 0).1 = 43) (h5 : ¬ s_dg9 (s_hr B z ((s_nm B z 6 ((s_nm B z 6 (p + 1) 0).1 + 1) 0).1 + 1))) : ew_X 218 66 [(2, 38), (0, 1)] [] n M (fun r a b => r = some (0, 0) ∧ a = n ∧ b = (ew_wr (ew_wr (ew_wr (ew_wr (ew_wr (ew_wr (ew_wr (ew_wr (ew_wr M 38 23 ((p + 1 : Nat) : Int)) 38 23 (((s_nm B z 6 (p + 1) 0).1 : Nat) : Int)) 38 25 (s_nm B z 6 (p + 1) 0).2) 38 27 0) 38 23 (((s_nm B z 6 (p + 1) 0).1 + 1 : Nat) : Int)) 38 23 (((s_nm B z 6 ((s_nm B z 6 (p + 1) 0).1 + 1) 0).1 : Nat) : Int)) 38 26 (s_nm B z 6 ((s_nm B z 6 (p + 1) 0).1 + 1) 0).2) 38 23 (((s_nm B z 6 ((s_nm B z 6 (p + 1) 0).1 + 1) 0).1 + 1 : Nat) : Int)) 38 27 (-1))) := by
  obtain ⟨hp, hz1, hz8, hB53, hB⟩ := id hT
  have hbd := s_hr_bd (B := B) (z := z) hz8 hB p
  have hq1 := s_nm_le (B := B) (z := z) 6 (p + 1) 0
  have hq2 := s_nm_le (B := B) (z := z) 6 ((s_nm B z 6 (p + 1) 0).1 + 1) 0
  have hn1 := s_nm_6 (B := B) (z := z) (p := p + 1)
  have hn2 := s_nm_6 (B := B) (z := z) (p := (s_nm B z 6 (p + 1) 0).1 + 1)
  have hn3 := s_nm_6 (B := B) (z := z) (p := (s_nm B z 6 ((s_nm B z 6 (p + 1) 0).1 + 1) 0).1 + 1)
  have hc := ew_c_218
  refine xr_go hc rfl rfl ?_
  refine xr_go hc rfl rfl ?_
  refine xr_gf0 (A := 38) rfl hc rfl (ew_own_p hn rfl) (show _ = ((p : Nat) : Int) from hrd) ?_
  refine xr_go hc rfl rfl ?_
  refine xr_go hc rfl rfl ?_
  refine xr_pf (A := 38) rfl hc rfl (ew_own_p hn rfl) ?_
  rw [s_n1]
  refine xr_go hc rfl rfl ?_
  refine xr_go hc rfl rfl ?_
  refine xr_v_1 hc rfl rfl (ew_own_p hn rfl) (m_num hn (M := (ew_wr M 38 23 ((p + 1 : Nat) : Int))) (s_TM_wr hT (by decide)) rfl (by omega) h (by omega)) ?_
  refine xr_pf (A := 38) rfl hc rfl (ew_own_p hn rfl) ?_
  refine xr_go hc rfl rfl ?_
  refine xr_go hc rfl rfl ?_
  refine xr_pf (A := 38) rfl hc rfl (ew_own_p hn rfl) ?_
  refine xr_go hc rfl rfl ?_
  refine xr_gf0 (A := 38) rfl hc rfl (ew_own_p hn rfl) (show _ = (s_nm B z 6 (p + 1) 0).2 from rfl) ?_
  refine xr_if_lt hc rfl (by omega) (fun c1 => ?_) (fun c1 => ?_)
  · exfalso; omega
  · skip
    refine xr_go hc rfl rfl ?_
    refine xr_if_ne hc rfl (by decide) (fun c2 => ?_) (fun c2 => by exfalso; omega)
    refine xr_go hc rfl rfl ?_
    refine xr_go hc rfl rfl ?_
    refine xr_v_2 hc rfl rfl (ew_own_p hn rfl) (m_takes1 hn (M := (ew_wr (ew_wr (ew_wr (ew_wr M 38 23 ((p + 1 : Nat) : Int)) 38 23 (((s_nm B z 6 (p + 1) 0).1 : Nat) : Int)) 38 25 (s_nm B z 6 (p + 1) 0).2) 38 27 0)) (s_TM_wr (s_TM_wr (s_TM_wr (s_TM_wr hT (by decide)) (by decide)) (by decide)) (by decide)) rfl (by omega) (by decide) h2) ?_
    refine xr_if_ne hc rfl (by decide) (fun c3 => ?_) (fun c3 => by exfalso; omega)
    refine xr_go hc rfl rfl ?_
    refine xr_go hc rfl rfl ?_
    refine xr_v_1 hc rfl rfl (ew_own_p hn rfl) (m_num hn (M := (ew_wr (ew_wr (ew_wr (ew_wr (ew_wr M 38 23 ((p + 1 : Nat) : Int)) 38 23 (((s_nm B z 6 (p + 1) 0).1 : Nat) : Int)) 38 25 (s_nm B z 6 (p + 1) 0).2) 38 27 0) 38 23 (((s_nm B z 6 (p + 1) 0).1 + 1 : Nat) : Int))) (s_TM_wr (s_TM_wr (s_TM_wr (s_TM_wr (s_TM_wr hT (by decide)) (by decide)) (by decide)) (by decide)) (by decide)) rfl (by omega) h3 (by omega)) ?_
    refine xr_pf (A := 38) rfl hc rfl (ew_own_p hn rfl) ?_
    refine xr_go hc rfl rfl ?_
    refine xr_gf0 (A := 38) rfl hc rfl (ew_own_p hn rfl) (show _ = (s_nm B z 6 ((s_nm B z 6 (p + 1) 0).1 + 1) 0).2 from rfl) ?_
    refine xr_if_ge hc rfl (by omega) (fun c4 => ?_) (fun c4 => ?_)
    · skip
      refine xr_go hc rfl rfl ?_
      refine xr_go hc rfl rfl ?_
      refine xr_v_2 hc rfl rfl (ew_own_p hn rfl) (m_takes1 hn (M := (ew_wr (ew_wr (ew_wr (ew_wr (ew_wr (ew_wr (ew_wr M 38 23 ((p + 1 : Nat) : Int)) 38 23 (((s_nm B z 6 (p + 1) 0).1 : Nat) : Int)) 38 25 (s_nm B z 6 (p + 1) 0).2) 38 27 0) 38 23 (((s_nm B z 6 (p + 1) 0).1 + 1 : Nat) : Int)) 38 23 (((s_nm B z 6 ((s_nm B z 6 (p + 1) 0).1 + 1) 0).1 : Nat) : Int)) 38 26 (s_nm B z 6 ((s_nm B z 6 (p + 1) 0).1 + 1) 0).2)) (s_TM_wr (s_TM_wr (s_TM_wr (s_TM_wr (s_TM_wr (s_TM_wr (s_TM_wr hT (by decide)) (by decide)) (by decide)) (by decide)) (by decide)) (by decide)) (by decide)) rfl (by omega) (by decide) h4) ?_
      refine xr_if_eq hc rfl (by decide) (fun c5 => by exfalso; omega) (fun c5 => ?_)
      refine xr_go hc rfl rfl ?_
      refine xr_go hc rfl rfl ?_
      refine xr_v_1 hc rfl rfl (ew_own_p hn rfl) (m_numN hn (M := (ew_wr (ew_wr (ew_wr (ew_wr (ew_wr (ew_wr (ew_wr (ew_wr M 38 23 ((p + 1 : Nat) : Int)) 38 23 (((s_nm B z 6 (p + 1) 0).1 : Nat) : Int)) 38 25 (s_nm B z 6 (p + 1) 0).2) 38 27 0) 38 23 (((s_nm B z 6 (p + 1) 0).1 + 1 : Nat) : Int)) 38 23 (((s_nm B z 6 ((s_nm B z 6 (p + 1) 0).1 + 1) 0).1 : Nat) : Int)) 38 26 (s_nm B z 6 ((s_nm B z 6 (p + 1) 0).1 + 1) 0).2) 38 23 (((s_nm B z 6 ((s_nm B z 6 (p + 1) 0).1 + 1) 0).1 + 1 : Nat) : Int))) (s_TM_wr (s_TM_wr (s_TM_wr (s_TM_wr (s_TM_wr (s_TM_wr (s_TM_wr (s_TM_wr hT (by decide)) (by decide)) (by decide)) (by decide)) (by decide)) (by decide)) (by decide)) (by decide)) rfl (by omega) h5) ?_
      refine xr_pf (A := 38) rfl hc rfl (ew_own_p hn rfl) ?_
      refine xr_go hc rfl rfl ?_
      refine xr_gf0 (A := 38) rfl hc rfl (ew_own_p hn rfl) (show _ = -1 from rfl) ?_
      refine xr_if_lt hc rfl (by decide) (fun c6 => ?_) (fun c6 => ?_)
      · skip
        refine xr_go hc rfl rfl ?_
        refine xr_ret hc rfl rfl ?_
        exact ⟨rfl, rfl, rfl⟩
      · exfalso; omega
    · exfalso; omega

theorem m_t {n : Nat} {M : ew_Mem} {B : Nat → Int} {z p : Nat} (hn : 59 ≤ n) (hT : s_TM B z M) (hrd : M 38 23 = (p : Int)) (hpz : p ≤ 190) (hp8 : p ≤ 80) (h24 : M 38 24 = s_hr B z p) (hL : s_isL (s_hr B z p)) {w : Int} (hw : w = if s_kd (s_hr B z p) = -1 then 0 else 1) : ew_X 218 66 [(2, 38), (0, w)] [] n M (fun r a b => a = n ∧ s_SP B z p M r b) := by
  by_cases h1 : s_dg9 (s_hr B z (p + 1))
  · by_cases hk : s_kd (s_hr B z p) = -1
    · rw [if_pos hk] at hw
      subst hw
      have e : s_st B z p = (true, (s_nm B z 6 (p + 1) 0).1, (s_nm B z 6 (p + 1) 0).2, 0, 0) := by
        unfold s_st
        rw [if_pos hL, if_pos h1, if_pos hk]
      have hg := m_t2 hn hT hrd hpz hp8 h1
      refine ew_X.mono hg ?_
      rintro r a b ⟨rfl, rfl, rfl⟩
      refine ⟨rfl, ?_⟩
      unfold s_SP
      rw [e]
      exact ⟨rfl, (s_SM_wr (s_SM_wr (s_SM_wr (s_SM_wr s_SM_rf (by decide)) (by decide)) (by decide)) (by decide)), rfl, fun _ => ⟨h24, rfl, fun q => absurd hk q⟩⟩
    · rw [if_neg hk] at hw
      subst hw
      by_cases h2 : s_hr B z (s_nm B z 6 (p + 1) 0).1 = 47
      · by_cases h3 : s_dg9 (s_hr B z ((s_nm B z 6 (p + 1) 0).1 + 1))
        · by_cases h4 : s_hr B z (s_nm B z 6 ((s_nm B z 6 (p + 1) 0).1 + 1) 0).1 = 43
          · by_cases h5 : s_dg9 (s_hr B z ((s_nm B z 6 ((s_nm B z 6 (p + 1) 0).1 + 1) 0).1 + 1))
            · skip
              have e : s_st B z p = (true, (s_nm B z 6 ((s_nm B z 6 ((s_nm B z 6 (p + 1) 0).1 + 1) 0).1 + 1) 0).1, (s_nm B z 6 (p + 1) 0).2, (s_nm B z 6 ((s_nm B z 6 (p + 1) 0).1 + 1) 0).2, (s_nm B z 6 ((s_nm B z 6 ((s_nm B z 6 (p + 1) 0).1 + 1) 0).1 + 1) 0).2) := by
                unfold s_st
                rw [if_pos hL, if_pos h1, if_neg hk]
                unfold s_wh
                rw [if_pos h2, if_pos h3, if_pos h4, decide_eq_true h5]
              have hg := m_t6 hn hT hrd hpz hp8 h1 h2 h3 h4 h5
              refine ew_X.mono hg ?_
              rintro r a b ⟨rfl, rfl, rfl⟩
              refine ⟨rfl, ?_⟩
              unfold s_SP
              rw [e]
              exact ⟨rfl, (s_SM_wr (s_SM_wr (s_SM_wr (s_SM_wr (s_SM_wr (s_SM_wr (s_SM_wr (s_SM_wr (s_SM_wr (s_SM_wr s_SM_rf (by decide)) (by decide)) (by decide)) (by decide)) (by decide)) (by decide)) (by decide)) (by decide)) (by decide)) (by decide)), rfl, fun _ => ⟨h24, rfl, fun _ => ⟨rfl, rfl⟩⟩⟩
            · skip
              have e : s_st B z p = (false, (s_nm B z 6 ((s_nm B z 6 (p + 1) 0).1 + 1) 0).1 + 1, (s_nm B z 6 (p + 1) 0).2, (s_nm B z 6 ((s_nm B z 6 (p + 1) 0).1 + 1) 0).2, 0) := by
                unfold s_st
                rw [if_pos hL, if_pos h1, if_neg hk]
                unfold s_wh
                rw [if_pos h2, if_pos h3, if_pos h4, decide_eq_false h5, s_nm_0 h5]
              have hg := m_t7 hn hT hrd hpz hp8 h1 h2 h3 h4 h5
              refine ew_X.mono hg ?_
              rintro r a b ⟨rfl, rfl, rfl⟩
              refine ⟨rfl, ?_⟩
              unfold s_SP
              rw [e]
              exact ⟨rfl, (s_SM_wr (s_SM_wr (s_SM_wr (s_SM_wr (s_SM_wr (s_SM_wr (s_SM_wr (s_SM_wr (s_SM_wr s_SM_rf (by decide)) (by decide)) (by decide)) (by decide)) (by decide)) (by decide)) (by decide)) (by decide)) (by decide)), rfl, fun q => by cases q⟩
          · skip
            have e : s_st B z p = (true, (s_nm B z 6 ((s_nm B z 6 (p + 1) 0).1 + 1) 0).1, (s_nm B z 6 (p + 1) 0).2, (s_nm B z 6 ((s_nm B z 6 (p + 1) 0).1 + 1) 0).2, 0) := by
              unfold s_st
              rw [if_pos hL, if_pos h1, if_neg hk]
              unfold s_wh
              rw [if_pos h2, if_pos h3, if_neg h4]
            have hg := m_t5 hn hT hrd hpz hp8 h1 h2 h3 h4
            refine ew_X.mono hg ?_
            rintro r a b ⟨rfl, rfl, rfl⟩
            refine ⟨rfl, ?_⟩
            unfold s_SP
            rw [e]
            exact ⟨rfl, (s_SM_wr (s_SM_wr (s_SM_wr (s_SM_wr (s_SM_wr (s_SM_wr (s_SM_wr s_SM_rf (by decide)) (by decide)) (by decide)) (by decide)) (by decide)) (by decide)) (by decide)), rfl, fun _ => ⟨h24, rfl, fun _ => ⟨rfl, rfl⟩⟩⟩
        · skip
          have e : s_st B z p = (false, (s_nm B z 6 (p + 1) 0).1 + 1, (s_nm B z 6 (p + 1) 0).2, 0, 0) := by
            unfold s_st
            rw [if_pos hL, if_pos h1, if_neg hk]
            unfold s_wh
            rw [if_pos h2, if_neg h3]
          have hg := m_t4 hn hT hrd hpz hp8 h1 h2 h3
          refine ew_X.mono hg ?_
          rintro r a b ⟨rfl, rfl, rfl⟩
          refine ⟨rfl, ?_⟩
          unfold s_SP
          rw [e]
          exact ⟨rfl, (s_SM_wr (s_SM_wr (s_SM_wr (s_SM_wr (s_SM_wr (s_SM_wr s_SM_rf (by decide)) (by decide)) (by decide)) (by decide)) (by decide)) (by decide)), rfl, fun q => by cases q⟩
      · skip
        have e : s_st B z p = (false, (s_nm B z 6 (p + 1) 0).1, (s_nm B z 6 (p + 1) 0).2, 0, 0) := by
          unfold s_st
          rw [if_pos hL, if_pos h1, if_neg hk]
          unfold s_wh
          rw [if_neg h2]
        have hg := m_t3 hn hT hrd hpz hp8 h1 h2
        refine ew_X.mono hg ?_
        rintro r a b ⟨rfl, rfl, rfl⟩
        refine ⟨rfl, ?_⟩
        unfold s_SP
        rw [e]
        exact ⟨rfl, (s_SM_wr (s_SM_wr (s_SM_wr (s_SM_wr s_SM_rf (by decide)) (by decide)) (by decide)) (by decide)), rfl, fun q => by cases q⟩
  · skip
    have e : s_st B z p = (false, p + 1, 0, 0, 0) := by
      unfold s_st
      rw [if_pos hL, if_neg h1]
    have hg := m_t1 hn hT hrd hpz hp8 (w := w) (by rw [hw]; split <;> omega) h1
    refine ew_X.mono hg ?_
    rintro r a b ⟨rfl, rfl, rfl⟩
    refine ⟨rfl, ?_⟩
    unfold s_SP
    rw [e]
    exact ⟨rfl, (s_SM_wr (s_SM_wr (s_SM_wr s_SM_rf (by decide)) (by decide)) (by decide)), rfl, fun q => by cases q⟩

set_option maxRecDepth 20000 in
theorem m_st {n : Nat} {M : ew_Mem} {B : Nat → Int} {z p : Nat} (hn : 59 ≤ n) (hT : s_TM B z M) (hrd : M 38 23 = (p : Int)) (hpz : p ≤ 190) (hp8 : p ≤ 80) : ew_C 218 [(2, 38)] n M (fun r a b => a = n ∧ s_SP B z p M r b) := by
  obtain ⟨hp, hz1, hz8, hB53, hB⟩ := id hT
  have hbd := s_hr_bd (B := B) (z := z) hz8 hB p
  have hkb := s_kd_bd (s_hr B z p)
  have hc := ew_c_218
  show ew_X 218 0 [(2, 38), (5, 0)] [] n _ _
  refine xr_go hc rfl rfl ?_
  refine xr_go hc rfl rfl ?_
  refine xr_v_1 hc rfl rfl (ew_own_p hn rfl) (m_here hn hT hrd hpz) ?_
  refine xr_pf (A := 38) rfl hc rfl (ew_own_p hn rfl) ?_
  refine xr_go hc rfl rfl ?_
  refine xr_gf0 (A := 38) rfl hc rfl (ew_own_p hn rfl) (show _ = s_hr B z p from rfl) ?_
  refine xr_s_1 hc rfl rfl (m_kindOf (by omega)) ?_
  refine xr_if_lt hc rfl (by omega) (fun c1 => ?_) (fun c1 => ?_)
  · skip
    refine xr_go hc rfl rfl ?_
    refine xr_s1_1 hc rfl rfl rfl ?_
    refine xr_go hc rfl rfl ?_
    refine xr_if_ne hc rfl (by decide) (fun c2 => by exfalso; omega) (fun c2 => ?_)
    refine xr_go hc rfl rfl ?_
    refine xr_gf0 (A := 38) rfl hc rfl (ew_own_p hn rfl) (show _ = s_hr B z p from rfl) ?_
    refine xr_go hc rfl rfl ?_
    refine xr_icmp_eq hc rfl (by omega) (by decide) (fun c3 => ?_) (fun c3 => ?_)
    · skip
      have hg := m_t hn (M := ew_wr M 38 24 (s_hr B z p)) (s_TM_wr hT (by decide)) hrd hpz hp8 rfl (show ¬ s_kd (s_hr B z p) = -1 ∨ s_hr B z p = 110 ∨ s_hr B z p = 97 ∨ s_hr B z p = 111 ∨ s_hr B z p = 105 by omega) (w := 0) (by split <;> omega)
      refine ew_X.mono hg ?_
      rintro r a b ⟨rfl, g1, g2, g3, g4⟩
      exact ⟨rfl, g1, s_SM_tr (s_SM_wr s_SM_rf (by decide)) g2, g3, g4⟩
    · skip
      refine xr_go hc rfl rfl ?_
      refine xr_gf0 (A := 38) rfl hc rfl (ew_own_p hn rfl) (show _ = s_hr B z p from rfl) ?_
      refine xr_go hc rfl rfl ?_
      refine xr_icmp_eq hc rfl (by omega) (by decide) (fun c4 => ?_) (fun c4 => ?_)
      · skip
        have hg := m_t hn (M := ew_wr M 38 24 (s_hr B z p)) (s_TM_wr hT (by decide)) hrd hpz hp8 rfl (show ¬ s_kd (s_hr B z p) = -1 ∨ s_hr B z p = 110 ∨ s_hr B z p = 97 ∨ s_hr B z p = 111 ∨ s_hr B z p = 105 by omega) (w := 0) (by split <;> omega)
        refine ew_X.mono hg ?_
        rintro r a b ⟨rfl, g1, g2, g3, g4⟩
        exact ⟨rfl, g1, s_SM_tr (s_SM_wr s_SM_rf (by decide)) g2, g3, g4⟩
      · skip
        refine xr_go hc rfl rfl ?_
        refine xr_gf0 (A := 38) rfl hc rfl (ew_own_p hn rfl) (show _ = s_hr B z p from rfl) ?_
        refine xr_go hc rfl rfl ?_
        refine xr_icmp_eq hc rfl (by omega) (by decide) (fun c5 => ?_) (fun c5 => ?_)
        · skip
          have hg := m_t hn (M := ew_wr M 38 24 (s_hr B z p)) (s_TM_wr hT (by decide)) hrd hpz hp8 rfl (show ¬ s_kd (s_hr B z p) = -1 ∨ s_hr B z p = 110 ∨ s_hr B z p = 97 ∨ s_hr B z p = 111 ∨ s_hr B z p = 105 by omega) (w := 0) (by split <;> omega)
          refine ew_X.mono hg ?_
          rintro r a b ⟨rfl, g1, g2, g3, g4⟩
          exact ⟨rfl, g1, s_SM_tr (s_SM_wr s_SM_rf (by decide)) g2, g3, g4⟩
        · skip
          refine xr_go hc rfl rfl ?_
          refine xr_gf0 (A := 38) rfl hc rfl (ew_own_p hn rfl) (show _ = s_hr B z p from rfl) ?_
          refine xr_go hc rfl rfl ?_
          refine xr_icmp_eq hc rfl (by omega) (by decide) (fun c6 => ?_) (fun c6 => ?_)
          · skip
            have hg := m_t hn (M := ew_wr M 38 24 (s_hr B z p)) (s_TM_wr hT (by decide)) hrd hpz hp8 rfl (show ¬ s_kd (s_hr B z p) = -1 ∨ s_hr B z p = 110 ∨ s_hr B z p = 97 ∨ s_hr B z p = 111 ∨ s_hr B z p = 105 by omega) (w := 0) (by split <;> omega)
            refine ew_X.mono hg ?_
            rintro r a b ⟨rfl, g1, g2, g3, g4⟩
            exact ⟨rfl, g1, s_SM_tr (s_SM_wr s_SM_rf (by decide)) g2, g3, g4⟩
          · skip
            refine xr_go hc rfl rfl ?_
            refine xr_ret hc rfl rfl ?_
            have e : s_st B z p = (false, p, 0, 0, 0) := by
              unfold s_st
              rw [if_neg (show ¬ (¬ s_kd (s_hr B z p) = -1 ∨ s_hr B z p = 110 ∨ s_hr B z p = 97 ∨ s_hr B z p = 111 ∨ s_hr B z p = 105) by omega)]
            refine ⟨rfl, ?_⟩
            unfold s_SP
            rw [e]
            exact ⟨rfl, s_SM_wr s_SM_rf (by decide), hrd, fun q => by cases q⟩
  · skip
    refine xr_go hc rfl rfl ?_
    refine xr_go hc rfl rfl ?_
    refine xr_s1_1 hc rfl rfl rfl ?_
    refine xr_go hc rfl rfl ?_
    refine xr_if_ne hc rfl (by decide) (fun c7 => ?_) (fun c7 => by exfalso; omega)
    have hg := m_t hn (M := ew_wr M 38 24 (s_hr B z p)) (s_TM_wr hT (by decide)) hrd hpz hp8 rfl (show ¬ s_kd (s_hr B z p) = -1 ∨ s_hr B z p = 110 ∨ s_hr B z p = 97 ∨ s_hr B z p = 111 ∨ s_hr B z p = 105 by omega) (w := 1) (by split <;> omega)
    refine ew_X.mono hg ?_
    rintro r a b ⟨rfl, g1, g2, g3, g4⟩
    exact ⟨rfl, g1, s_SM_tr (s_SM_wr s_SM_rf (by decide)) g2, g3, g4⟩

