/-! lists and count, both sides -/
theorem s_ls {n : Nat} {M : ew_Mem} (hn : 59 ≤ n) (hp : ew_Pm M) {u : Nat} (hu : u < 3) : ew_own 0 ((21 + 2 * u : Nat) : Int) n = true ∧ M (21 + 2 * u) 0 = ((22 + 2 * u : Nat) : Int) ∧ ew_own 21 ((22 + 2 * u : Nat) : Int) n = true ∧ (ew_tag (22 + 2 * u)).2 = 40 ∧ M 20 u = ((21 + 2 * u : Nat) : Int) := by
  obtain rfl | rfl | rfl : u = 0 ∨ u = 1 ∨ u = 2 := by omega
  · exact ⟨ew_own_p hn rfl, ew_pm hp rfl, ew_own_p hn rfl, rfl, ew_pm hp rfl⟩
  · exact ⟨ew_own_p hn rfl, ew_pm hp rfl, ew_own_p hn rfl, rfl, ew_pm hp rfl⟩
  · exact ⟨ew_own_p hn rfl, ew_pm hp rfl, ew_own_p hn rfl, rfl, ew_pm hp rfl⟩
theorem s_pa_i {u : Nat} (hu : u < 3) : ew_pa (22 + 2 * u) = false := by
  obtain rfl | rfl | rfl : u = 0 ∨ u = 1 ∨ u = 2 := by omega
  · rfl
  · rfl
  · rfl
/-- the list u emptied, with m items -/
def s_cl (M : ew_Mem) (u : Nat) (m : Int) : ew_Mem := s_fn (ew_wr M (21 + 2 * u) 1 m) (22 + 2 * u) 0 40 (fun _ => 0)
def s_clM (M : ew_Mem) (u : Nat) (m : Int) : ew_Mem := s_fn (ew_wr M 57 u m) 58 (40 * u) 40 (fun _ => 0)
theorem s_fn_cg {M : ew_Mem} {c o k : Nat} {f g : Nat → Int} (h : ∀ i : Nat, i < k → f i = g i) : s_fn M c o k f = s_fn M c o k g := by
  funext a i
  unfold s_fn
  split
  · exact h _ (by omega)
  · rfl
/-- the list P written from place o on -/
def s_pf (M : ew_Mem) (c o : Nat) (P : List Int) : ew_Mem := s_fn M c o P.length (fun i => P.getD i 0)
theorem s_pf_0 {M : ew_Mem} {c o : Nat} : s_pf M c o [] = M := s_fn_0
theorem s_pf_add {M : ew_Mem} {c o j : Nat} {P : List Int} {v : Int} (hj : j = o + P.length) : ew_wr (s_pf M c o P) c j v = s_pf M c o (P ++ [v]) := by
  unfold s_pf
  rw [s_fn_cg (f := fun i => P.getD i 0) (g := fun i => (P ++ [v]).getD i 0), s_fn_w2 hj]
  · rw [List.length_append]
    rfl
  · rw [s_ap_get, if_neg (by omega), if_pos rfl]
  · intro i hi
    rw [s_ap_get, if_pos hi]
theorem s_M_fn {V M : ew_Mem} {n o k : Nat} {f : Nat → Int} (h : s_M V n M) : s_M V n (s_fn M 58 o k f) := by
  obtain ⟨hn, hp, hV, u0, u1, u2, u3, u4⟩ := h
  refine ⟨hn, s_fn_pm hp rfl, hV, ?_, ?_, ?_, ?_, ?_⟩
  · rw [s_fn_ne (by decide)]; exact u0
  · rw [s_fn_ne (by decide)]; exact u1
  · rw [s_fn_ne (by decide)]; exact u2
  · intro j hj
    rw [s_fn_ne (by decide)]
    exact u3 j hj
  · intro r hr
    rw [s_fn_ne (by decide), s_fn_ne (by decide), s_fn_ne (by decide), s_fn_ne (by decide), s_fn_ne (by decide), s_fn_ne (by decide)]
    exact u4 r hr
/-- a list's first item that isn't what it should be -/
def s_jq (f : Nat → Int) (sz : Int) : List Int → Nat → Int
  | [], i => if (i : Int) < sz then (i : Int) else -5
  | a :: E, i => if f i = a then s_jq f sz E (i + 1) else (i : Int)
set_option maxRecDepth 20000 in
theorem c_listN1 {n : Nat} {M : ew_Mem} (hn : 59 ≤ n) (hp : ew_Pm M) {u : Nat} (hu : u < 3)  : ew_FM 140 [(2, 4), (0, (u : Int))] n M (2, ((21 + 2 * u : Nat) : Int)) n M := by
  obtain ⟨hI1, hI2, hI3, hI4, hI5⟩ := s_ls hn hp hu
  have hc := ew_c_140
  show ew_X 140 0 [(2, 4), (0, (u : Int))] [] n M _
  refine xr_go hc rfl rfl ?_
  refine xr_if_lt hc rfl (by omega) (fun c1 => ?_) (fun c1 => ?_)
  · exfalso; omega
  · skip
    refine xr_go hc rfl rfl ?_
    refine xr_go hc rfl rfl ?_
    refine xr_gf2 (A := 4) (w := 20) rfl hc rfl (ew_own_p hn rfl) (ew_pm hp rfl) ?_
    refine xr_alen (A := 20) (N := 3) (t := 24) rfl rfl hc rfl (ew_ok_p hn rfl) (by decide) ?_
    refine xr_icmp_ge hc rfl (by omega) (by decide) (fun c2 => ?_) (fun c2 => ?_)
    · exfalso; omega
    · skip
      refine xr_go hc rfl rfl ?_
      refine xr_gf2 (A := 4) (w := 20) rfl hc rfl (ew_own_p hn rfl) (ew_pm hp rfl) ?_
      refine xr_go hc rfl rfl ?_
      refine xr_aald (A := 20) (t := 24) (N := 3) rfl rfl hc rfl (ew_own_p hn rfl) (by decide) (by omega) (by omega) (show M 20 u = _ from hI5) ?_
      refine xr_go hc rfl rfl ?_
      refine xr_ret hc rfl rfl ?_
      exact ⟨rfl, rfl, rfl⟩

set_option maxRecDepth 20000 in
theorem c_listN0 {n : Nat} {M : ew_Mem} (hn : 59 ≤ n) (hp : ew_Pm M) {x : Int} (hx : ew_in x) (h : ¬ (0 ≤ x ∧ x < 3)) : ew_FM 140 [(2, 4), (0, x)] n M (2, 0) n M := by
  have hc := ew_c_140
  show ew_X 140 0 [(2, 4), (0, x)] [] n M _
  refine xr_go hc rfl rfl ?_
  refine xr_if_lt hc rfl (by omega) (fun c1 => ?_) (fun c1 => ?_)
  · skip
    refine xr_go hc rfl rfl ?_
    refine xr_ret hc rfl rfl ?_
    exact ⟨rfl, rfl, rfl⟩
  · skip
    refine xr_go hc rfl rfl ?_
    refine xr_go hc rfl rfl ?_
    refine xr_gf2 (A := 4) (w := 20) rfl hc rfl (ew_own_p hn rfl) (ew_pm hp rfl) ?_
    refine xr_alen (A := 20) (N := 3) (t := 24) rfl rfl hc rfl (ew_ok_p hn rfl) (by decide) ?_
    refine xr_icmp_ge hc rfl (by omega) (by decide) (fun c2 => ?_) (fun c2 => ?_)
    · skip
      refine xr_go hc rfl rfl ?_
      refine xr_ret hc rfl rfl ?_
      exact ⟨rfl, rfl, rfl⟩
    · exfalso; omega

theorem c_listN {n : Nat} {M : ew_Mem} (hn : 59 ≤ n) (hp : ew_Pm M) {t : Int} (h : 0 ≤ t ∧ t < 3) : ew_FM 140 [(2, 4), (0, t)] n M (2, ((21 + 2 * t.toNat : Nat) : Int)) n M := by
  have h2 := c_listN1 hn hp (u := t.toNat) (by omega)
  rw [s_toI h.1] at h2
  exact h2
set_option maxRecDepth 20000 in
theorem c_iMiss {n : Nat} {M : ew_Mem} (hn : 59 ≤ n) (hp : ew_Pm M) {u : Nat} (hu : u < 3) {sz : Int} (hsz : M (21 + 2 * u) 1 = sz) (hk : -1 ≤ sz ∧ sz ≤ 40)  : ew_FM 12 [(2, ((21 + 2 * u : Nat) : Int))] n M (0, if sz = -1 then 1 else 0) n M := by
  obtain ⟨hI1, hI2, hI3, hI4, hI5⟩ := s_ls hn hp hu
  have hc := ew_c_12
  show ew_X 12 0 [(2, ((21 + 2 * u : Nat) : Int))] [] n M _
  refine xr_go hc rfl rfl ?_
  refine xr_gf0 (A := 21 + 2 * u) rfl hc rfl hI1 hsz ?_
  refine xr_go hc rfl rfl ?_
  refine xr_icmp_ne hc rfl (by omega) (by decide) (fun c1 => ?_) (fun c1 => ?_)
  · skip
    refine xr_go hc rfl rfl ?_
    refine xr_ret hc rfl rfl ?_
    exact ⟨by congr 2; split <;> omega, rfl, rfl⟩
  · skip
    refine xr_go hc rfl rfl ?_
    refine xr_go hc rfl rfl ?_
    refine xr_ret hc rfl rfl ?_
    exact ⟨by congr 2; split <;> omega, rfl, rfl⟩

set_option maxRecDepth 20000 in
theorem c_iHas {n : Nat} {M : ew_Mem} (hn : 59 ≤ n) (hp : ew_Pm M) {u : Nat} (hu : u < 3) {sz : Int} (hsz : M (21 + 2 * u) 1 = sz) (hk : -1 ≤ sz ∧ sz ≤ 40) {i : Int} (hi : ew_in i) : ew_FM 13 [(2, ((21 + 2 * u : Nat) : Int)), (0, i)] n M (0, if 0 ≤ i ∧ i < sz then 1 else 0) n M := by
  obtain ⟨hI1, hI2, hI3, hI4, hI5⟩ := s_ls hn hp hu
  have hc := ew_c_13
  show ew_X 13 0 [(2, ((21 + 2 * u : Nat) : Int)), (0, i)] [] n M _
  refine xr_go hc rfl rfl ?_
  refine xr_if_lt hc rfl (by omega) (fun c1 => ?_) (fun c1 => ?_)
  · skip
    refine xr_go hc rfl rfl ?_
    refine xr_ret hc rfl rfl ?_
    exact ⟨by congr 2; split <;> omega, rfl, rfl⟩
  · skip
    refine xr_go hc rfl rfl ?_
    refine xr_go hc rfl rfl ?_
    refine xr_gf0 (A := 21 + 2 * u) rfl hc rfl hI1 hsz ?_
    refine xr_icmp_ge hc rfl (by omega) (by omega) (fun c2 => ?_) (fun c2 => ?_)
    · skip
      refine xr_go hc rfl rfl ?_
      refine xr_ret hc rfl rfl ?_
      exact ⟨by congr 2; split <;> omega, rfl, rfl⟩
    · skip
      refine xr_go hc rfl rfl ?_
      refine xr_go hc rfl rfl ?_
      refine xr_icmp_ge hc rfl (by omega) (by decide) (fun c3 => ?_) (fun c3 => ?_)
      · skip
        refine xr_go hc rfl rfl ?_
        refine xr_ret hc rfl rfl ?_
        exact ⟨by congr 2; split <;> omega, rfl, rfl⟩
      · skip
        refine xr_go hc rfl rfl ?_
        refine xr_go hc rfl rfl ?_
        refine xr_ret hc rfl rfl ?_
        exact ⟨by congr 2; split <;> omega, rfl, rfl⟩

set_option maxRecDepth 20000 in
theorem c_iSet {n : Nat} {M : ew_Mem} (hn : 59 ≤ n) (hp : ew_Pm M) {u : Nat} (hu : u < 3) {sz : Int} (hsz : M (21 + 2 * u) 1 = sz) (hk : -1 ≤ sz ∧ sz ≤ 40) {i v : Int} (hi : 0 ≤ i ∧ i < sz) : ew_VM 14 [(2, ((21 + 2 * u : Nat) : Int)), (0, i), (1, v)] n M n (ew_wr M (22 + 2 * u) i.toNat v) := by
  obtain ⟨hI1, hI2, hI3, hI4, hI5⟩ := s_ls hn hp hu
  have hc := ew_c_14
  show ew_X 14 0 [(2, ((21 + 2 * u : Nat) : Int)), (0, i), (1, v), (5, 0)] [] n M _
  refine xr_go hc rfl rfl ?_
  refine xr_go hc rfl rfl ?_
  refine xr_v_2 hc rfl rfl hI1 (c_iHas hn hp hu hsz hk (by omega)) ?_
  refine xr_if_eq hc rfl (by split <;> omega) (fun c1 => ?_) (fun c1 => ?_)
  · skip
    refine xr_ret hc rfl rfl ?_
    first
      | exact ⟨rfl, rfl, rfl⟩
      | (exfalso; omega)
  · skip
    refine xr_go hc rfl rfl ?_
    refine xr_gf2 (A := 21 + 2 * u) (w := ((22 + 2 * u : Nat) : Int)) rfl hc rfl hI1 (by first | exact hI2 | ((repeat first | rw [s_ne_rd (by omega)] | rw [s_ne_ri (by omega)] | rw [s_fn_ne (by omega)]); exact hI2)) ?_
    refine xr_go hc rfl rfl ?_
    refine xr_go hc rfl rfl ?_
    refine xr_last (A := 22 + 2 * u) (N := 40) rfl hI4 hc rfl hI3 (by omega) (by omega) ?_
    refine xr_ret hc rfl rfl ?_
    first
      | exact ⟨rfl, rfl, rfl⟩
      | (exfalso; omega)

set_option maxRecDepth 20000 in
theorem c_iAt {n : Nat} {M : ew_Mem} (hn : 59 ≤ n) (hp : ew_Pm M) {u : Nat} (hu : u < 3) {sz : Int} (hsz : M (21 + 2 * u) 1 = sz) (hk : -1 ≤ sz ∧ sz ≤ 40) {i : Int} (hi : ew_in i) : ew_FM 15 [(2, ((21 + 2 * u : Nat) : Int)), (0, i)] n M (1, if 0 ≤ i ∧ i < sz then M (22 + 2 * u) i.toNat else s_NO) n M := by
  obtain ⟨hI1, hI2, hI3, hI4, hI5⟩ := s_ls hn hp hu
  have hc := ew_c_15
  show ew_X 15 0 [(2, ((21 + 2 * u : Nat) : Int)), (0, i)] [] n M _
  refine xr_go hc rfl rfl ?_
  refine xr_go hc rfl rfl ?_
  refine xr_v_2 hc rfl rfl hI1 (c_iHas hn hp hu hsz hk (by omega)) ?_
  refine xr_if_eq hc rfl (by split <;> omega) (fun c1 => ?_) (fun c1 => ?_)
  · skip
    refine xr_go hc rfl rfl ?_
    refine xr_ret hc rfl rfl ?_
    refine ⟨?_, rfl, rfl⟩
    first
      | (rw [if_pos (by omega)]; done)
      | (rw [if_neg (by omega)]; rfl)
  · skip
    refine xr_go hc rfl rfl ?_
    refine xr_gf2 (A := 21 + 2 * u) (w := ((22 + 2 * u : Nat) : Int)) rfl hc rfl hI1 (by first | exact hI2 | ((repeat first | rw [s_ne_rd (by omega)] | rw [s_ne_ri (by omega)] | rw [s_fn_ne (by omega)]); exact hI2)) ?_
    refine xr_go hc rfl rfl ?_
    refine xr_lald (A := 22 + 2 * u) (N := 40) rfl hI4 hc rfl hI3 (by omega) (by omega) rfl ?_
    refine xr_go hc rfl rfl ?_
    refine xr_ret hc rfl rfl ?_
    refine ⟨?_, rfl, rfl⟩
    first
      | (rw [if_pos (by omega)]; done)
      | (rw [if_neg (by omega)]; rfl)

set_option maxRecDepth 20000 in
theorem c_clear_1 {n : Nat} {M : ew_Mem} (hn : 59 ≤ n) (hp : ew_Pm M) {u : Nat} (hu : u < 3) {m : Int} : ∀ (j i : Nat), i + j = 40 →
    ew_X 11 7 [(2, ((21 + 2 * u : Nat) : Int)), (0, m), (0, (i : Int))] [] n (s_fn (ew_wr M (21 + 2 * u) 1 m) (22 + 2 * u) 0 i (fun _ => 0)) (fun r a b => r = none ∧ a = n ∧ b = (s_fn (ew_wr M (21 + 2 * u) 1 m) (22 + 2 * u) 0 40 (fun _ => 0))) := by
  obtain ⟨hI1, hI2, hI3, hI4, hI5⟩ := s_ls hn hp hu
  have hc := ew_c_11
  intro j
  induction j with
  | zero =>
    intro i hj
    obtain rfl : i = 40 := by omega
    refine xr_go hc rfl rfl ?_
    refine xr_go hc rfl rfl ?_
    refine xr_icmp_ge hc rfl (by omega) (by decide) (fun c1 => ?_) (fun c1 => ?_)
    · skip
      refine xr_ret hc rfl rfl ?_
      exact ⟨rfl, rfl, rfl⟩
    · exfalso; omega
  | succ j ih =>
    intro i hj
    refine xr_go hc rfl rfl ?_
    refine xr_go hc rfl rfl ?_
    refine xr_icmp_ge hc rfl (by omega) (by decide) (fun c1 => ?_) (fun c1 => ?_)
    · exfalso; omega
    · skip
      refine xr_go hc rfl rfl ?_
      refine xr_gf2 (A := 21 + 2 * u) (w := ((22 + 2 * u : Nat) : Int)) rfl hc rfl hI1 (by first | exact hI2 | ((repeat first | rw [s_ne_rd (by omega)] | rw [s_ne_ri (by omega)] | rw [s_fn_ne (by omega)]); exact hI2)) ?_
      refine xr_go hc rfl rfl ?_
      refine xr_go hc rfl rfl ?_
      refine xr_last (A := 22 + 2 * u) (N := 40) rfl hI4 hc rfl hI3 (by omega) (by omega) ?_
      refine xr_inc_2 hc rfl ?_
      refine xr_go hc rfl rfl ?_
      rw [s_n1, s_fn_w2 (by omega) rfl]
      exact ih (i + 1) (by omega)

set_option maxRecDepth 20000 in
theorem c_clear {n : Nat} {M : ew_Mem} (hn : 59 ≤ n) (hp : ew_Pm M) {u : Nat} (hu : u < 3) {m : Int} : ew_VM 11 [(2, ((21 + 2 * u : Nat) : Int)), (0, m)] n M n (s_cl M u m) := by
  obtain ⟨hI1, hI2, hI3, hI4, hI5⟩ := s_ls hn hp hu
  have hc := ew_c_11
  show ew_X 11 0 [(2, ((21 + 2 * u : Nat) : Int)), (0, m), (5, 0)] [] n M _
  refine xr_go hc rfl rfl ?_
  refine xr_go hc rfl rfl ?_
  refine xr_pf (A := 21 + 2 * u) rfl hc rfl hI1 ?_
  refine xr_go hc rfl rfl ?_
  refine xr_s1_2 hc rfl rfl rfl ?_
  have h := c_clear_1 hn hp hu (m := m) 40 0 rfl
  rw [s_fn_0] at h
  exact h

abbrev s_okI (t m : Int) : Prop := (0 ≤ t ∧ t < 3) ∧ -1 ≤ m ∧ m ≤ 40
def s_n_list (t m : Int) : Int := if 0 ≤ t ∧ t < 3 then (if 40 < m then -2 else -14) else -1
abbrev s_okP (sz t i : Int) : Prop := (0 ≤ t ∧ t < 3) ∧ ¬ sz = -1 ∧ 0 ≤ i ∧ i < sz
def s_n_put (sz t : Int) : Int := if 0 ≤ t ∧ t < 3 then (if sz = -1 then -11 else -12) else -1
def s_a_get (sz t i x : Int) : Int := if (0 ≤ t ∧ t < 3) ∧ 0 ≤ i ∧ i < sz then x else s_NO
abbrev s_okF (sz t m : Int) : Prop := (0 ≤ t ∧ t < 3) ∧ s_isM m ∧ ¬ sz = -1
def s_n_fill (t m : Int) : Int := if 0 ≤ t ∧ t < 3 then (if s_isM m then -11 else -2) else -1
def s_a_judge (V : ew_Mem) (sz : Int) (f : Nat → Int) (t m : Int) : Int := if 0 ≤ t ∧ t < 3 then (if s_isM m then (if sz = -1 then -11 else s_jq f sz (s_E V m sz) 0) else -2) else -1
def s_a_count (V : ew_Mem) (tp tx x : Int) : Int := if x = 0 then V 6 0 else if x = 1 then tp else if x = 2 then tx else if x = 3 then V 6 1 else if x = 4 then V 6 2 else if 5 ≤ x ∧ x ≤ 10 then V 7 (x - 5).toNat else -2
set_option maxRecDepth 20000 in
theorem cx_list {n : Nat} {M : ew_Mem} (hn : 59 ≤ n) (hp : ew_Pm M) {t m : Int} (ht : ew_in t) (hm : ew_in m) (h : s_okI t m) : ew_FM 139 [(2, 4), (0, t), (0, m)] n M (0, 1) n (s_cl M t.toNat m) := by
  have hc := ew_c_139
  show ew_X 139 0 [(2, 4), (0, t), (0, m), (5, 0)] [] n M _
  refine xr_go hc rfl rfl ?_
  refine xr_go hc rfl rfl ?_
  by_cases hq : 0 ≤ t ∧ t < 3
  · skip
    refine xr_v_2 hc rfl rfl (ew_own_p hn rfl) (c_listN hn hp hq) ?_
    first
      | (have hII := s_ls hn hp (u := t.toNat) (by omega)
         obtain ⟨hI1, hI2, hI3, hI4, hI5⟩ := hII)
      | skip
    refine xr_s1_3 hc rfl rfl rfl ?_
    refine xr_go hc rfl rfl ?_
    refine xr_nonnull hc rfl (fun c1 => ?_) (fun c1 => by exfalso; omega)
    refine xr_go hc rfl rfl ?_
    refine xr_go hc rfl rfl ?_
    refine xr_icmp_le hc rfl (by omega) (by decide) (fun c2 => ?_) (fun c2 => ?_)
    · skip
      refine xr_go hc rfl rfl ?_
      refine xr_go hc rfl rfl ?_
      refine xr_icmp_ge hc rfl (by omega) (by decide) (fun c3 => ?_) (fun c3 => ?_)
      · skip
        refine xr_go hc rfl rfl ?_
        refine xr_go hc rfl rfl ?_
        refine xr_vv_2 (v := (0, 0)) hc rfl rfl hI1 (c_clear hn hp (u := t.toNat) (by omega)) ?_
        refine xr_go hc rfl rfl ?_
        refine xr_ret hc rfl rfl ?_
        first
          | exact ⟨rfl, rfl, rfl⟩
          | (exfalso; omega)
      · skip
        refine xr_go hc rfl rfl ?_
        refine xr_ret hc rfl rfl ?_
        first
          | exact ⟨rfl, rfl, rfl⟩
          | (exfalso; omega)
    · skip
      refine xr_go hc rfl rfl ?_
      refine xr_ret hc rfl rfl ?_
      first
        | exact ⟨rfl, rfl, rfl⟩
        | (exfalso; omega)
  · skip
    refine xr_v_2 hc rfl rfl (ew_own_p hn rfl) (c_listN0 hn hp ht hq) ?_
    first
      | (have hII := s_ls hn hp (u := t.toNat) (by omega)
         obtain ⟨hI1, hI2, hI3, hI4, hI5⟩ := hII)
      | skip
    refine xr_s1_3 hc rfl rfl rfl ?_
    refine xr_go hc rfl rfl ?_
    refine xr_nonnull hc rfl (fun c4 => by exfalso; omega) (fun c4 => ?_)
    refine xr_go hc rfl rfl ?_
    refine xr_ret hc rfl rfl ?_
    first
      | exact ⟨rfl, rfl, rfl⟩
      | (exfalso; omega)

set_option maxRecDepth 20000 in
theorem cx_listN {n : Nat} {M : ew_Mem} (hn : 59 ≤ n) (hp : ew_Pm M) {t m : Int} (ht : ew_in t) (hm : ew_in m) (h : ¬ s_okI t m) : ew_FM 139 [(2, 4), (0, t), (0, m)] n M (0, s_n_list t m) n M := by
  have hc := ew_c_139
  show ew_X 139 0 [(2, 4), (0, t), (0, m), (5, 0)] [] n M _
  refine xr_go hc rfl rfl ?_
  refine xr_go hc rfl rfl ?_
  by_cases hq : 0 ≤ t ∧ t < 3
  · skip
    refine xr_v_2 hc rfl rfl (ew_own_p hn rfl) (c_listN hn hp hq) ?_
    first
      | (have hII := s_ls hn hp (u := t.toNat) (by omega)
         obtain ⟨hI1, hI2, hI3, hI4, hI5⟩ := hII)
      | skip
    refine xr_s1_3 hc rfl rfl rfl ?_
    refine xr_go hc rfl rfl ?_
    refine xr_nonnull hc rfl (fun c1 => ?_) (fun c1 => by exfalso; omega)
    refine xr_go hc rfl rfl ?_
    refine xr_go hc rfl rfl ?_
    refine xr_icmp_le hc rfl (by omega) (by decide) (fun c2 => ?_) (fun c2 => ?_)
    · skip
      refine xr_go hc rfl rfl ?_
      refine xr_go hc rfl rfl ?_
      refine xr_icmp_ge hc rfl (by omega) (by decide) (fun c3 => ?_) (fun c3 => ?_)
      · skip
        exfalso; omega
      · skip
        refine xr_go hc rfl rfl ?_
        refine xr_ret hc rfl rfl ?_
        first
          | (exfalso; omega)
          | (refine ⟨?_, rfl, rfl⟩
             unfold s_n_list
             repeat' split
             all_goals first
               | rfl
               | (exfalso; omega)
               | (congr 2; omega))
    · skip
      refine xr_go hc rfl rfl ?_
      refine xr_ret hc rfl rfl ?_
      first
        | (exfalso; omega)
        | (refine ⟨?_, rfl, rfl⟩
           unfold s_n_list
           repeat' split
           all_goals first
             | rfl
             | (exfalso; omega)
             | (congr 2; omega))
  · skip
    refine xr_v_2 hc rfl rfl (ew_own_p hn rfl) (c_listN0 hn hp ht hq) ?_
    first
      | (have hII := s_ls hn hp (u := t.toNat) (by omega)
         obtain ⟨hI1, hI2, hI3, hI4, hI5⟩ := hII)
      | skip
    refine xr_s1_3 hc rfl rfl rfl ?_
    refine xr_go hc rfl rfl ?_
    refine xr_nonnull hc rfl (fun c4 => by exfalso; omega) (fun c4 => ?_)
    refine xr_go hc rfl rfl ?_
    refine xr_ret hc rfl rfl ?_
    first
      | (exfalso; omega)
      | (refine ⟨?_, rfl, rfl⟩
         unfold s_n_list
         repeat' split
         all_goals first
           | rfl
           | (exfalso; omega)
           | (congr 2; omega))

set_option maxRecDepth 20000 in
theorem cx_put {n : Nat} {M : ew_Mem} (hn : 59 ≤ n) (hp : ew_Pm M) {t i : Int} (ht : ew_in t) (hi : ew_in i) {v : Int} {sz : Int} (hsz : M (21 + 2 * t.toNat) 1 = sz) (hk : -1 ≤ sz ∧ sz ≤ 40) (h : s_okP sz t i) : ew_FM 141 [(2, 4), (0, t), (0, i), (1, v)] n M (0, 1) n (ew_wr M (22 + 2 * t.toNat) i.toNat v) := by
  have hc := ew_c_141
  show ew_X 141 0 [(2, 4), (0, t), (0, i), (1, v), (5, 0), (5, 0)] [] n M _
  refine xr_go hc rfl rfl ?_
  refine xr_go hc rfl rfl ?_
  by_cases hq : 0 ≤ t ∧ t < 3
  · skip
    refine xr_v_2 hc rfl rfl (ew_own_p hn rfl) (c_listN hn hp hq) ?_
    first
      | (have hII := s_ls hn hp (u := t.toNat) (by omega)
         obtain ⟨hI1, hI2, hI3, hI4, hI5⟩ := hII)
      | skip
    refine xr_s1_5 hc rfl rfl rfl ?_
    refine xr_go hc rfl rfl ?_
    refine xr_nonnull hc rfl (fun c1 => ?_) (fun c1 => by exfalso; omega)
    refine xr_go hc rfl rfl ?_
    refine xr_v_1 hc rfl rfl hI1 (c_iMiss hn hp (u := t.toNat) (by omega) hsz hk) ?_
    refine xr_if_eq hc rfl (by split <;> omega) (fun c2 => ?_) (fun c2 => ?_)
    · skip
      refine xr_go hc rfl rfl ?_
      refine xr_go hc rfl rfl ?_
      refine xr_v_2 hc rfl rfl hI1 (c_iHas hn hp (u := t.toNat) (by omega) hsz hk (by omega)) ?_
      refine xr_if_ne hc rfl (by split <;> omega) (fun c3 => ?_) (fun c3 => ?_)
      · skip
        refine xr_go hc rfl rfl ?_
        refine xr_go hc rfl rfl ?_
        refine xr_go hc rfl rfl ?_
        refine xr_vv_3 (v := (0, 0)) hc rfl rfl hI1 (c_iSet hn hp (u := t.toNat) (by omega) hsz hk (by omega)) ?_
        refine xr_go hc rfl rfl ?_
        refine xr_ret hc rfl rfl ?_
        first
          | exact ⟨rfl, rfl, rfl⟩
          | (exfalso; omega)
      · skip
        refine xr_go hc rfl rfl ?_
        refine xr_ret hc rfl rfl ?_
        first
          | exact ⟨rfl, rfl, rfl⟩
          | (exfalso; omega)
    · skip
      refine xr_go hc rfl rfl ?_
      refine xr_ret hc rfl rfl ?_
      first
        | exact ⟨rfl, rfl, rfl⟩
        | (exfalso; omega)
  · skip
    refine xr_v_2 hc rfl rfl (ew_own_p hn rfl) (c_listN0 hn hp ht hq) ?_
    first
      | (have hII := s_ls hn hp (u := t.toNat) (by omega)
         obtain ⟨hI1, hI2, hI3, hI4, hI5⟩ := hII)
      | skip
    refine xr_s1_5 hc rfl rfl rfl ?_
    refine xr_go hc rfl rfl ?_
    refine xr_nonnull hc rfl (fun c4 => by exfalso; omega) (fun c4 => ?_)
    refine xr_go hc rfl rfl ?_
    refine xr_ret hc rfl rfl ?_
    first
      | exact ⟨rfl, rfl, rfl⟩
      | (exfalso; omega)

set_option maxRecDepth 20000 in
theorem cx_putN {n : Nat} {M : ew_Mem} (hn : 59 ≤ n) (hp : ew_Pm M) {t i : Int} (ht : ew_in t) (hi : ew_in i) {v : Int} {sz : Int} (hsz : M (21 + 2 * t.toNat) 1 = sz) (hk : -1 ≤ sz ∧ sz ≤ 40) (h : ¬ s_okP sz t i) : ew_FM 141 [(2, 4), (0, t), (0, i), (1, v)] n M (0, s_n_put sz t) n M := by
  have hc := ew_c_141
  show ew_X 141 0 [(2, 4), (0, t), (0, i), (1, v), (5, 0), (5, 0)] [] n M _
  refine xr_go hc rfl rfl ?_
  refine xr_go hc rfl rfl ?_
  by_cases hq : 0 ≤ t ∧ t < 3
  · skip
    refine xr_v_2 hc rfl rfl (ew_own_p hn rfl) (c_listN hn hp hq) ?_
    first
      | (have hII := s_ls hn hp (u := t.toNat) (by omega)
         obtain ⟨hI1, hI2, hI3, hI4, hI5⟩ := hII)
      | skip
    refine xr_s1_5 hc rfl rfl rfl ?_
    refine xr_go hc rfl rfl ?_
    refine xr_nonnull hc rfl (fun c1 => ?_) (fun c1 => by exfalso; omega)
    refine xr_go hc rfl rfl ?_
    refine xr_v_1 hc rfl rfl hI1 (c_iMiss hn hp (u := t.toNat) (by omega) hsz hk) ?_
    refine xr_if_eq hc rfl (by split <;> omega) (fun c2 => ?_) (fun c2 => ?_)
    · skip
      refine xr_go hc rfl rfl ?_
      refine xr_go hc rfl rfl ?_
      refine xr_v_2 hc rfl rfl hI1 (c_iHas hn hp (u := t.toNat) (by omega) hsz hk (by omega)) ?_
      refine xr_if_ne hc rfl (by split <;> omega) (fun c3 => ?_) (fun c3 => ?_)
      · skip
        exfalso; omega
      · skip
        refine xr_go hc rfl rfl ?_
        refine xr_ret hc rfl rfl ?_
        first
          | (exfalso; omega)
          | (refine ⟨?_, rfl, rfl⟩
             unfold s_n_put
             repeat' split
             all_goals first
               | rfl
               | (exfalso; omega)
               | (congr 2; omega))
    · skip
      refine xr_go hc rfl rfl ?_
      refine xr_ret hc rfl rfl ?_
      first
        | (exfalso; omega)
        | (refine ⟨?_, rfl, rfl⟩
           unfold s_n_put
           repeat' split
           all_goals first
             | rfl
             | (exfalso; omega)
             | (congr 2; omega))
  · skip
    refine xr_v_2 hc rfl rfl (ew_own_p hn rfl) (c_listN0 hn hp ht hq) ?_
    first
      | (have hII := s_ls hn hp (u := t.toNat) (by omega)
         obtain ⟨hI1, hI2, hI3, hI4, hI5⟩ := hII)
      | skip
    refine xr_s1_5 hc rfl rfl rfl ?_
    refine xr_go hc rfl rfl ?_
    refine xr_nonnull hc rfl (fun c4 => by exfalso; omega) (fun c4 => ?_)
    refine xr_go hc rfl rfl ?_
    refine xr_ret hc rfl rfl ?_
    first
      | (exfalso; omega)
      | (refine ⟨?_, rfl, rfl⟩
         unfold s_n_put
         repeat' split
         all_goals first
           | rfl
           | (exfalso; omega)
           | (congr 2; omega))

set_option maxRecDepth 20000 in
theorem cx_get {n : Nat} {M : ew_Mem} (hn : 59 ≤ n) (hp : ew_Pm M) {t i : Int} (ht : ew_in t) (hi : ew_in i) {sz : Int} (hsz : M (21 + 2 * t.toNat) 1 = sz) (hk : -1 ≤ sz ∧ sz ≤ 40)  : ew_FM 142 [(2, 4), (0, t), (0, i)] n M (1, s_a_get sz t i (M (22 + 2 * t.toNat) i.toNat)) n M := by
  have hc := ew_c_142
  show ew_X 142 0 [(2, 4), (0, t), (0, i), (5, 0)] [] n M _
  refine xr_go hc rfl rfl ?_
  refine xr_go hc rfl rfl ?_
  by_cases hq : 0 ≤ t ∧ t < 3
  · skip
    refine xr_v_2 hc rfl rfl (ew_own_p hn rfl) (c_listN hn hp hq) ?_
    first
      | (have hII := s_ls hn hp (u := t.toNat) (by omega)
         obtain ⟨hI1, hI2, hI3, hI4, hI5⟩ := hII)
      | skip
    refine xr_s1_3 hc rfl rfl rfl ?_
    refine xr_go hc rfl rfl ?_
    refine xr_nonnull hc rfl (fun c1 => ?_) (fun c1 => by exfalso; omega)
    refine xr_go hc rfl rfl ?_
    refine xr_go hc rfl rfl ?_
    refine xr_v_2 hc rfl rfl hI1 (c_iAt hn hp (u := t.toNat) (by omega) hsz hk (by omega)) ?_
    refine xr_ret hc rfl rfl ?_
    refine ⟨?_, rfl, rfl⟩
    unfold s_a_get
    repeat' split
    all_goals first
      | rfl
      | (exfalso; omega)
  · skip
    refine xr_v_2 hc rfl rfl (ew_own_p hn rfl) (c_listN0 hn hp ht hq) ?_
    first
      | (have hII := s_ls hn hp (u := t.toNat) (by omega)
         obtain ⟨hI1, hI2, hI3, hI4, hI5⟩ := hII)
      | skip
    refine xr_s1_3 hc rfl rfl rfl ?_
    refine xr_go hc rfl rfl ?_
    refine xr_nonnull hc rfl (fun c2 => by exfalso; omega) (fun c2 => ?_)
    refine xr_go hc rfl rfl ?_
    refine xr_go hc rfl rfl ?_
    refine xr_ret hc rfl rfl ?_
    refine ⟨?_, rfl, rfl⟩
    unfold s_a_get
    repeat' split
    all_goals first
      | rfl
      | (exfalso; omega)

set_option maxRecDepth 20000 in
theorem c_fill_1 {n : Nat} {M : ew_Mem} (hn : 59 ≤ n) (hp : ew_Pm M) {u : Nat} (hu : u < 3) {sz : Int} (hsz : M (21 + 2 * u) 1 = sz) (hk : -1 ≤ sz ∧ sz ≤ 40) {E : List Int} (hEl : (E.length : Int) ≤ sz) (hEb : ∀ m ∈ E, s_isM m) {t m : Int} : ∀ (j i : Nat), i + j = E.length →
    ew_X 143 46 [(2, 4), (0, t), (0, m), (2, ((21 + 2 * u : Nat) : Int)), (0, (E.length : Int)), (0, (i : Int))] [] n (s_fn (s_put M 32 E) (22 + 2 * u) 0 i (fun i => E.getD i 0)) (fun r a b => r = some (0, (E.length : Int)) ∧ a = n ∧ b = (s_fn (s_put M 32 E) (22 + 2 * u) 0 E.length (fun i => E.getD i 0))) := by
  obtain ⟨hI1, hI2, hI3, hI4, hI5⟩ := s_ls hn hp hu
  have hc := ew_c_143
  intro j
  induction j with
  | zero =>
    intro i hj
    obtain rfl : i = E.length := by omega
    refine xr_go hc rfl rfl ?_
    refine xr_go hc rfl rfl ?_
    refine xr_icmp_ge hc rfl (by omega) (by omega) (fun c1 => ?_) (fun c1 => ?_)
    · skip
      refine xr_go hc rfl rfl ?_
      refine xr_ret hc rfl rfl ?_
      exact ⟨rfl, rfl, rfl⟩
    · exfalso; omega
  | succ j ih =>
    intro i hj
    have hp2 : ew_Pm (s_fn (s_put M 32 E) (22 + 2 * u) 0 i (fun i => E.getD i 0)) := s_fn_pm (s_Fr_pm (s_put_fr s_Fr_rfl (s_scr_c rfl)) hp) (s_pa_i hu)
    have hsz2 : s_fn (s_put M 32 E) (22 + 2 * u) 0 i (fun i => E.getD i 0) (21 + 2 * u) 1 = sz := by rw [s_fn_ne (by omega), s_put_ne (by omega)]; exact hsz
    have hil : i < E.length := by omega
    have hm : s_isM (E.getD i 0) := by
      rw [List.getD_eq_getElem?_getD, List.getElem?_eq_getElem hil]
      exact hEb _ (List.getElem_mem hil)
    refine xr_go hc rfl rfl ?_
    refine xr_go hc rfl rfl ?_
    refine xr_icmp_ge hc rfl (by omega) (by omega) (fun c1 => ?_) (fun c1 => ?_)
    · exfalso; omega
    · skip
      refine xr_go hc rfl rfl ?_
      refine xr_go hc rfl rfl ?_
      refine xr_gf2 (A := 4) rfl hc rfl (ew_own_p hn rfl) (ew_pm (v := 32) hp2 rfl) ?_
      refine xr_alen (A := 32) (N := 61) (t := 20) rfl rfl hc rfl (ew_ok_p hn rfl) (by decide) ?_
      refine xr_icmp_ge hc rfl (by omega) (by decide) (fun c2 => ?_) (fun c2 => ?_)
      · exfalso; omega
      · skip
        refine xr_go hc rfl rfl ?_
        refine xr_go hc rfl rfl ?_
        refine xr_go hc rfl rfl ?_
        refine xr_gf2 (A := 4) rfl hc rfl (ew_own_p hn rfl) (ew_pm (v := 32) hp2 rfl) ?_
        refine xr_go hc rfl rfl ?_
        refine xr_iald (A := 32) (N := 61) rfl rfl hc rfl (ew_ok_p hn rfl) (by omega) (by omega) (show _ = E.getD i 0 by rw [s_fn_ne (by omega), Int.toNat_natCast, s_put_rd (by omega)]) ?_
        refine xr_i2l hc rfl (by omega) ?_
        refine xr_vv_3 (v := (0, 0)) hc rfl rfl hI1 (c_iSet hn hp2 hu hsz2 hk (by omega)) ?_
        refine xr_inc_5 hc rfl ?_
        refine xr_go hc rfl rfl ?_
        rw [s_n1, Int.toNat_natCast, s_fn_w2 (by omega) rfl]
        exact ih (i + 1) (by omega)

set_option maxRecDepth 20000 in
theorem cx_fill {V : ew_Mem} {n : Nat} {M : ew_Mem} (hC : s_C V n M) {t m : Int} (ht : ew_in t) (hm : ew_in m) {sz : Int} (hsz : M (21 + 2 * t.toNat) 1 = sz) (hk : -1 ≤ sz ∧ sz ≤ 40) (h : s_okF sz t m) : ew_FM 143 [(2, 4), (0, t), (0, m)] n M (0, ((s_E V m sz).length : Int)) n (s_pf (s_put M 32 (s_E V m sz)) (22 + 2 * t.toNat) 0 (s_E V m sz)) := by
  obtain ⟨hn, hp, hV, v0, v1, v2, v3, v4⟩ := id hC
  obtain ⟨hc6, hVW, hnd, hap, hr0, hr1, hr2, hr3, hr4, hr5⟩ := id hV
  have hc := ew_c_143
  show ew_X 143 0 [(2, 4), (0, t), (0, m), (5, 0), (5, 0), (5, 0)] [] n M _
  refine xr_go hc rfl rfl ?_
  refine xr_go hc rfl rfl ?_
  by_cases hq : 0 ≤ t ∧ t < 3
  · skip
    refine xr_v_2 hc rfl rfl (ew_own_p hn rfl) (c_listN hn hp hq) ?_
    first
      | (have hII := s_ls hn hp (u := t.toNat) (by omega)
         obtain ⟨hI1, hI2, hI3, hI4, hI5⟩ := hII)
      | skip
    refine xr_s1_3 hc rfl rfl rfl ?_
    refine xr_go hc rfl rfl ?_
    refine xr_nonnull hc rfl (fun c1 => ?_) (fun c1 => by exfalso; omega)
    refine xr_go hc rfl rfl ?_
    refine xr_s_1 hc rfl rfl (c_isMonth hm) ?_
    refine xr_if_ne hc rfl (by split <;> omega) (fun c2 => ?_) (fun c2 => ?_)
    · skip
      refine xr_go hc rfl rfl ?_
      refine xr_v_1 hc rfl rfl hI1 (c_iMiss hn hp (u := t.toNat) (by omega) hsz hk) ?_
      refine xr_if_eq hc rfl (by split <;> omega) (fun c3 => ?_) (fun c3 => ?_)
      · skip
        refine xr_go hc rfl rfl ?_
        refine xr_go hc rfl rfl ?_
        refine xr_go hc rfl rfl ?_
        refine xr_gf0 (A := 21 + 2 * t.toNat) rfl hc rfl hI1 hsz ?_
        refine xr_v_3 hc rfl rfl (ew_own_p hn rfl) (c_find hC (by omega) (by omega)) ?_
        refine xr_s1_4 hc rfl rfl rfl ?_
        refine xr_go hc rfl rfl ?_
        refine xr_s1_5 hc rfl rfl rfl ?_
        have hle : ((s_E V m sz).length : Int) ≤ sz := s_es_len _ _ _ (by omega)
        have hg := c_fill_1 hn hp (u := t.toNat) (by omega) hsz hk (E := s_E V m sz) hle (fun a ha => by have := s_es_bd _ _ _ a ha; omega) (t := t) (m := m) (s_E V m sz).length 0 (by omega)
        rw [s_fn_0] at hg
        exact hg
      · skip
        refine xr_go hc rfl rfl ?_
        refine xr_ret hc rfl rfl ?_
        exfalso; omega
    · skip
      refine xr_go hc rfl rfl ?_
      refine xr_ret hc rfl rfl ?_
      exfalso; omega
  · skip
    refine xr_v_2 hc rfl rfl (ew_own_p hn rfl) (c_listN0 hn hp ht hq) ?_
    first
      | (have hII := s_ls hn hp (u := t.toNat) (by omega)
         obtain ⟨hI1, hI2, hI3, hI4, hI5⟩ := hII)
      | skip
    refine xr_s1_3 hc rfl rfl rfl ?_
    refine xr_go hc rfl rfl ?_
    refine xr_nonnull hc rfl (fun c4 => by exfalso; omega) (fun c4 => ?_)
    refine xr_go hc rfl rfl ?_
    refine xr_ret hc rfl rfl ?_
    exfalso; omega

set_option maxRecDepth 20000 in
theorem cx_fillN {V : ew_Mem} {n : Nat} {M : ew_Mem} (hC : s_C V n M) {t m : Int} (ht : ew_in t) (hm : ew_in m) {sz : Int} (hsz : M (21 + 2 * t.toNat) 1 = sz) (hk : -1 ≤ sz ∧ sz ≤ 40) (h : ¬ s_okF sz t m) : ew_FM 143 [(2, 4), (0, t), (0, m)] n M (0, s_n_fill t m) n M := by
  obtain ⟨hn, hp, hV, v0, v1, v2, v3, v4⟩ := id hC
  obtain ⟨hc6, hVW, hnd, hap, hr0, hr1, hr2, hr3, hr4, hr5⟩ := id hV
  have hc := ew_c_143
  show ew_X 143 0 [(2, 4), (0, t), (0, m), (5, 0), (5, 0), (5, 0)] [] n M _
  refine xr_go hc rfl rfl ?_
  refine xr_go hc rfl rfl ?_
  by_cases hq : 0 ≤ t ∧ t < 3
  · skip
    refine xr_v_2 hc rfl rfl (ew_own_p hn rfl) (c_listN hn hp hq) ?_
    first
      | (have hII := s_ls hn hp (u := t.toNat) (by omega)
         obtain ⟨hI1, hI2, hI3, hI4, hI5⟩ := hII)
      | skip
    refine xr_s1_3 hc rfl rfl rfl ?_
    refine xr_go hc rfl rfl ?_
    refine xr_nonnull hc rfl (fun c1 => ?_) (fun c1 => by exfalso; omega)
    refine xr_go hc rfl rfl ?_
    refine xr_s_1 hc rfl rfl (c_isMonth hm) ?_
    refine xr_if_ne hc rfl (by split <;> omega) (fun c2 => ?_) (fun c2 => ?_)
    · skip
      refine xr_go hc rfl rfl ?_
      refine xr_v_1 hc rfl rfl hI1 (c_iMiss hn hp (u := t.toNat) (by omega) hsz hk) ?_
      refine xr_if_eq hc rfl (by split <;> omega) (fun c3 => ?_) (fun c3 => ?_)
      · skip
        exfalso; omega
      · skip
        refine xr_go hc rfl rfl ?_
        refine xr_ret hc rfl rfl ?_
        first
          | (exfalso; omega)
          | (refine ⟨?_, rfl, rfl⟩
             unfold s_n_fill
             repeat' split
             all_goals first
               | rfl
               | (exfalso; omega)
               | (congr 2; omega))
    · skip
      refine xr_go hc rfl rfl ?_
      refine xr_ret hc rfl rfl ?_
      first
        | (exfalso; omega)
        | (refine ⟨?_, rfl, rfl⟩
           unfold s_n_fill
           repeat' split
           all_goals first
             | rfl
             | (exfalso; omega)
             | (congr 2; omega))
  · skip
    refine xr_v_2 hc rfl rfl (ew_own_p hn rfl) (c_listN0 hn hp ht hq) ?_
    first
      | (have hII := s_ls hn hp (u := t.toNat) (by omega)
         obtain ⟨hI1, hI2, hI3, hI4, hI5⟩ := hII)
      | skip
    refine xr_s1_3 hc rfl rfl rfl ?_
    refine xr_go hc rfl rfl ?_
    refine xr_nonnull hc rfl (fun c4 => by exfalso; omega) (fun c4 => ?_)
    refine xr_go hc rfl rfl ?_
    refine xr_ret hc rfl rfl ?_
    first
      | (exfalso; omega)
      | (refine ⟨?_, rfl, rfl⟩
         unfold s_n_fill
         repeat' split
         all_goals first
           | rfl
           | (exfalso; omega)
           | (congr 2; omega))

set_option maxRecDepth 20000 in
theorem c_judge_1 {n : Nat} {M : ew_Mem} (hn : 59 ≤ n) (hp : ew_Pm M) {u : Nat} (hu : u < 3) {sz : Int} (hsz : M (21 + 2 * u) 1 = sz) (hk : -1 ≤ sz ∧ sz ≤ 40) {E : List Int} (hEl : (E.length : Int) ≤ sz) (hEb : ∀ m ∈ E, s_isM m) (hI : ∀ i : Nat, i < 40 → ew_inl (M (22 + 2 * u) i)) {t m : Int} : ∀ (j i : Nat), ((i + j : Nat) : Int) = sz →
    ew_X 144 46 [(2, 4), (0, t), (0, m), (2, ((21 + 2 * u : Nat) : Int)), (0, (E.length : Int)), (0, (i : Int))] [] n (s_put M 32 E) (fun r a b => r = some (0, s_jq (fun i => M (22 + 2 * u) i) sz (E.drop i) i) ∧ a = n ∧ b = s_put M 32 E) := by
  obtain ⟨hI1, hI2, hI3, hI4, hI5⟩ := s_ls hn hp hu
  have hc := ew_c_144
  intro j
  induction j with
  | zero =>
    intro i hj
    have hp2 : ew_Pm (s_put M 32 E) := s_Fr_pm (s_put_fr s_Fr_rfl (s_scr_c rfl)) hp
    have hsz2 : s_put M 32 E (21 + 2 * u) 1 = sz := by rw [s_put_ne (by omega)]; exact hsz
    refine xr_go hc rfl rfl ?_
    refine xr_go hc rfl rfl ?_
    refine xr_gf0 (A := 21 + 2 * u) rfl hc rfl hI1 hsz2 ?_
    refine xr_icmp_ge hc rfl (by omega) (by omega) (fun c1 => ?_) (fun c1 => ?_)
    · skip
      refine xr_go hc rfl rfl ?_
      refine xr_ret hc rfl rfl ?_
      refine ⟨?_, rfl, rfl⟩
      rw [List.drop_eq_nil_iff.mpr (by omega), s_jq, if_neg (by omega)]
    · exfalso; omega
  | succ j ih =>
    intro i hj
    have hp2 : ew_Pm (s_put M 32 E) := s_Fr_pm (s_put_fr s_Fr_rfl (s_scr_c rfl)) hp
    have hsz2 : s_put M 32 E (21 + 2 * u) 1 = sz := by rw [s_put_ne (by omega)]; exact hsz
    have hiv := hI i (by omega)
    by_cases hil : i < E.length
    · have hm : s_isM (E.getD i 0) := by
        rw [List.getD_eq_getElem?_getD, List.getElem?_eq_getElem hil]
        exact hEb _ (List.getElem_mem hil)
      have hd : E.drop i = E.getD i 0 :: E.drop (i + 1) := by
        rw [List.drop_eq_getElem_cons hil, List.getD_eq_getElem?_getD, List.getElem?_eq_getElem hil]
        rfl
      have hat : (if 0 ≤ (i : Int) ∧ (i : Int) < sz then s_put M 32 E (22 + 2 * u) (i : Int).toNat else s_NO) = M (22 + 2 * u) i := by
        rw [if_pos (by omega), s_put_ne (by omega), Int.toNat_natCast]
      refine xr_go hc rfl rfl ?_
      refine xr_go hc rfl rfl ?_
      refine xr_gf0 (A := 21 + 2 * u) rfl hc rfl hI1 hsz2 ?_
      refine xr_icmp_ge hc rfl (by omega) (by omega) (fun c1 => ?_) (fun c1 => ?_)
      · exfalso; omega
      · skip
        refine xr_go hc rfl rfl ?_
        refine xr_go hc rfl rfl ?_
        refine xr_icmp_ge hc rfl (by omega) (by omega) (fun c2 => ?_) (fun c2 => ?_)
        · exfalso; omega
        · skip
          refine xr_go hc rfl rfl ?_
          refine xr_go hc rfl rfl ?_
          refine xr_gf2 (A := 4) rfl hc rfl (ew_own_p hn rfl) (ew_pm (v := 32) hp2 rfl) ?_
          refine xr_alen (A := 32) (N := 61) (t := 20) rfl rfl hc rfl (ew_ok_p hn rfl) (by decide) ?_
          refine xr_icmp_ge hc rfl (by omega) (by omega) (fun c3 => ?_) (fun c3 => ?_)
          · exfalso; omega
          · skip
            refine xr_go hc rfl rfl ?_
            refine xr_go hc rfl rfl ?_
            refine xr_v_2 hc rfl rfl hI1 (c_iAt hn hp2 hu hsz2 hk (by omega)) ?_
            refine xr_go hc rfl rfl ?_
            refine xr_gf2 (A := 4) rfl hc rfl (ew_own_p hn rfl) (ew_pm (v := 32) hp2 rfl) ?_
            refine xr_go hc rfl rfl ?_
            refine xr_iald (A := 32) (N := 61) rfl rfl hc rfl (ew_ok_p hn rfl) (by omega) (by omega) (show _ = E.getD i 0 by rw [Int.toNat_natCast, s_put_rd (by omega)]) ?_
            refine xr_i2l hc rfl (by omega) ?_
            refine xr_l_eq hc rfl rfl (by rw [hat]; exact hiv) (by omega) (fun c4 => ?_) (fun c4 => ?_)
            · skip
              rw [hat] at c4
              refine xr_inc_5 hc rfl ?_
              refine xr_go hc rfl rfl ?_
              rw [s_n1, hd, s_jq, if_pos c4]
              exact ih (i + 1) (by omega)
            · skip
              rw [hat] at c4
              refine xr_go hc rfl rfl ?_
              refine xr_ret hc rfl rfl ?_
              refine ⟨?_, rfl, rfl⟩
              rw [hd, s_jq, if_neg c4]
    · have hd : E.drop i = [] := List.drop_eq_nil_iff.mpr (by omega)
      refine xr_go hc rfl rfl ?_
      refine xr_go hc rfl rfl ?_
      refine xr_gf0 (A := 21 + 2 * u) rfl hc rfl hI1 hsz2 ?_
      refine xr_icmp_ge hc rfl (by omega) (by omega) (fun c1 => ?_) (fun c1 => ?_)
      · exfalso; omega
      · skip
        refine xr_go hc rfl rfl ?_
        refine xr_go hc rfl rfl ?_
        refine xr_icmp_ge hc rfl (by omega) (by omega) (fun c2 => ?_) (fun c2 => ?_)
        · skip
          refine xr_go hc rfl rfl ?_
          refine xr_ret hc rfl rfl ?_
          refine ⟨?_, rfl, rfl⟩
          rw [hd, s_jq, if_pos (by omega)]
        · exfalso; omega

set_option maxRecDepth 20000 in
theorem cx_judge {V : ew_Mem} {n : Nat} {M : ew_Mem} (hC : s_C V n M) {t m : Int} (ht : ew_in t) (hm : ew_in m) {sz : Int} (hsz : M (21 + 2 * t.toNat) 1 = sz) (hk : -1 ≤ sz ∧ sz ≤ 40) (hI : (0 ≤ t ∧ t < 3) → ∀ i : Nat, i < 40 → ew_inl (M (22 + 2 * t.toNat) i)) : ew_C 144 [(2, 4), (0, t), (0, m)] n M (s_QF (0, s_a_judge V sz (fun i => M (22 + 2 * t.toNat) i) t m) n M) := by
  obtain ⟨hn, hp, hV, v0, v1, v2, v3, v4⟩ := id hC
  obtain ⟨hc6, hVW, hnd, hap, hr0, hr1, hr2, hr3, hr4, hr5⟩ := id hV
  have hc := ew_c_144
  show ew_X 144 0 [(2, 4), (0, t), (0, m), (5, 0), (5, 0), (5, 0)] [] n M _
  refine xr_go hc rfl rfl ?_
  refine xr_go hc rfl rfl ?_
  by_cases hq : 0 ≤ t ∧ t < 3
  · skip
    refine xr_v_2 hc rfl rfl (ew_own_p hn rfl) (c_listN hn hp hq) ?_
    first
      | (have hII := s_ls hn hp (u := t.toNat) (by omega)
         obtain ⟨hI1, hI2, hI3, hI4, hI5⟩ := hII)
      | skip
    refine xr_s1_3 hc rfl rfl rfl ?_
    refine xr_go hc rfl rfl ?_
    refine xr_nonnull hc rfl (fun c1 => ?_) (fun c1 => by exfalso; omega)
    refine xr_go hc rfl rfl ?_
    refine xr_s_1 hc rfl rfl (c_isMonth hm) ?_
    refine xr_if_ne hc rfl (by split <;> omega) (fun c2 => ?_) (fun c2 => ?_)
    · skip
      refine xr_go hc rfl rfl ?_
      refine xr_v_1 hc rfl rfl hI1 (c_iMiss hn hp (u := t.toNat) (by omega) hsz hk) ?_
      refine xr_if_eq hc rfl (by split <;> omega) (fun c3 => ?_) (fun c3 => ?_)
      · skip
        refine xr_go hc rfl rfl ?_
        refine xr_go hc rfl rfl ?_
        refine xr_go hc rfl rfl ?_
        refine xr_gf0 (A := 21 + 2 * t.toNat) rfl hc rfl hI1 hsz ?_
        refine xr_v_3 hc rfl rfl (ew_own_p hn rfl) (c_find hC (by omega) (by omega)) ?_
        refine xr_s1_4 hc rfl rfl rfl ?_
        refine xr_go hc rfl rfl ?_
        refine xr_s1_5 hc rfl rfl rfl ?_
        have hle : ((s_E V m sz).length : Int) ≤ sz := s_es_len _ _ _ (by omega)
        have hg := c_judge_1 hn hp (u := t.toNat) (by omega) hsz hk (E := s_E V m sz) hle (fun a ha => by have := s_es_bd _ _ _ a ha; omega) (hI (by omega)) (t := t) (m := m) sz.toNat 0 (by omega)
        refine ew_X.mono hg ?_
        rintro r a b ⟨rfl, rfl, rfl⟩
        refine ⟨?_, rfl, s_put_fr s_Fr_rfl (s_scr_c rfl)⟩
        unfold s_a_judge
        rw [if_pos (by omega), if_pos (by omega), if_neg (by omega), List.drop_zero]
      · skip
        refine xr_go hc rfl rfl ?_
        refine xr_ret hc rfl rfl ?_
        refine ⟨?_, rfl, s_Fr_rfl⟩
        unfold s_a_judge
        repeat' split
        all_goals first
          | rfl
          | (exfalso; omega)
    · skip
      refine xr_go hc rfl rfl ?_
      refine xr_ret hc rfl rfl ?_
      refine ⟨?_, rfl, s_Fr_rfl⟩
      unfold s_a_judge
      repeat' split
      all_goals first
        | rfl
        | (exfalso; omega)
  · skip
    refine xr_v_2 hc rfl rfl (ew_own_p hn rfl) (c_listN0 hn hp ht hq) ?_
    first
      | (have hII := s_ls hn hp (u := t.toNat) (by omega)
         obtain ⟨hI1, hI2, hI3, hI4, hI5⟩ := hII)
      | skip
    refine xr_s1_3 hc rfl rfl rfl ?_
    refine xr_go hc rfl rfl ?_
    refine xr_nonnull hc rfl (fun c4 => by exfalso; omega) (fun c4 => ?_)
    refine xr_go hc rfl rfl ?_
    refine xr_ret hc rfl rfl ?_
    refine ⟨?_, rfl, s_Fr_rfl⟩
    unfold s_a_judge
    repeat' split
    all_goals first
      | rfl
      | (exfalso; omega)

theorem ew_i_wr {x : Int} (h : x < -2147483648) (h2 : -6442450944 ≤ x) : ew_i x = ew_i (x + 4294967296) := by
  apply Int32.toInt_inj.mp
  rw [ew_i_in (x := x + 4294967296) ⟨by omega, by omega⟩]
  have h3 : (ew_i x).toInt = x.bmod 4294967296 := Int32.toInt_ofInt
  rw [h3]
  unfold Int.bmod
  simp only []
  split <;> omega
theorem c_isRule_u {n : Nat} {M : ew_Mem} {x : Int} (hx : ew_in x) (h : x < -2147483643) : ew_FM 71 [(0, x - 5)] n M (0, 0) n M := by
  have hc := ew_c_71
  have e := ew_i_wr (x := x - 5) (by omega) (by omega)
  have hin : ew_in (x - 5 + 4294967296) := ⟨by omega, by omega⟩
  show ew_X 71 0 [(0, x - 5)] [] n M _
  refine xr_go hc rfl rfl ?_
  refine xr_if (P := False) (by rw [e, ew_cn_lt hin ew_0_in]; constructor <;> intro q <;> first | exact q.elim | omega) hc rfl (fun q => q.elim) (fun _ => ?_)
  refine xr_go hc rfl rfl ?_
  refine xr_go hc rfl rfl ?_
  refine xr_icmp (P := True) (by rw [e, ew_cn_ge hin (by decide)]; constructor <;> intro q <;> first | trivial | omega) hc rfl (fun _ => ?_) (fun q => (q trivial).elim)
  refine xr_go hc rfl rfl ?_
  refine xr_ret hc rfl rfl ?_
  exact ⟨rfl, rfl, rfl⟩
set_option maxRecDepth 20000 in
theorem cx_count {V : ew_Mem} {n : Nat} {M : ew_Mem} (hC : s_C V n M) {x tp tx : Int} (hx : ew_in x) (e1 : M 27 1 = tp) (e2 : M 4 6 = tx) : ew_FM 145 [(2, 4), (0, x)] n M (0, s_a_count V tp tx x) n M := by
  obtain ⟨hn, hp, hV, v0, v1, v2, v3, v4⟩ := id hC
  obtain ⟨hc6, hVW, hnd, hap, hr0, hr1, hr2, hr3, hr4, hr5⟩ := id hV
  have hc := ew_c_145
  show ew_X 145 0 [(2, 4), (0, x)] [] n M _
  refine xr_go hc rfl rfl ?_
  refine xr_ts hc rfl hx (fun c1 => ?_) (fun c1a c1b => ?_)
  · skip
    refine xr_go hc rfl rfl ?_
    refine xr_go hc rfl rfl ?_
    refine xr_go hc rfl rfl ?_
    by_cases hlow : x < -2147483643
    · skip
      refine xr_s_1 hc rfl rfl (c_isRule_u hx hlow) ?_
      refine xr_if_eq hc rfl (by first | decide | (split <;> omega)) (fun c2 => ?_) (fun c2 => ?_)
      · try (exfalso; omega)
        all_goals
          refine xr_go hc rfl rfl ?_
          refine xr_ret hc rfl rfl ?_
          refine ⟨?_, rfl, rfl⟩
          unfold s_a_count
          repeat' split
          all_goals first
            | rfl
            | (exfalso; omega)
      · try (exfalso; omega)
        all_goals
          refine xr_go hc rfl rfl ?_
          refine xr_gf2 (A := 4) (w := 5) rfl hc rfl (ew_own_p hn rfl) (ew_pm hp rfl) ?_
          refine xr_go hc rfl rfl ?_
          refine xr_go hc rfl rfl ?_
          refine xr_go hc rfl rfl ?_
          refine xr_v_2 hc rfl rfl (ew_own_p hn rfl) (c_ruled hC (by omega)) ?_
          refine xr_go hc rfl rfl ?_
          refine xr_ret hc rfl rfl ?_
          refine ⟨?_, rfl, rfl⟩
          unfold s_a_count
          repeat' split
          all_goals first
            | rfl
            | (exfalso; omega)
    · skip
      refine xr_s_1 hc rfl rfl (c_isRule (by omega)) ?_
      refine xr_if_eq hc rfl (by first | decide | (split <;> omega)) (fun c3 => ?_) (fun c3 => ?_)
      · try (exfalso; omega)
        all_goals
          refine xr_go hc rfl rfl ?_
          refine xr_ret hc rfl rfl ?_
          refine ⟨?_, rfl, rfl⟩
          unfold s_a_count
          repeat' split
          all_goals first
            | rfl
            | (exfalso; omega)
      · try (exfalso; omega)
        all_goals
          refine xr_go hc rfl rfl ?_
          refine xr_gf2 (A := 4) (w := 5) rfl hc rfl (ew_own_p hn rfl) (ew_pm hp rfl) ?_
          refine xr_go hc rfl rfl ?_
          refine xr_go hc rfl rfl ?_
          refine xr_go hc rfl rfl ?_
          refine xr_v_2 hc rfl rfl (ew_own_p hn rfl) (c_ruled hC (by omega)) ?_
          refine xr_go hc rfl rfl ?_
          refine xr_ret hc rfl rfl ?_
          refine ⟨?_, rfl, rfl⟩
          unfold s_a_count
          repeat' split
          all_goals first
            | rfl
            | (exfalso; omega)
  · obtain rfl | rfl | rfl | rfl | rfl : x = 0 ∨ x = 1 ∨ x = 2 ∨ x = 3 ∨ x = 4 := by omega
    · refine ⟨35, 36, rfl, rfl, ?_⟩
      refine xr_go hc rfl rfl ?_
      refine xr_gf2 (A := 4) (w := 5) rfl hc rfl (ew_own_p hn rfl) (ew_pm hp rfl) ?_
      refine xr_gf0 (A := 5) rfl hc rfl (ew_own_p hn rfl) v0 ?_
      refine xr_ret hc rfl rfl ?_
      refine ⟨?_, rfl, rfl⟩
      unfold s_a_count
      repeat' split
      all_goals first
        | rfl
        | (exfalso; omega)
    · refine ⟨43, 44, rfl, rfl, ?_⟩
      refine xr_go hc rfl rfl ?_
      refine xr_gf2 (A := 4) (w := 27) rfl hc rfl (ew_own_p hn rfl) (ew_pm hp rfl) ?_
      refine xr_gf0 (A := 27) rfl hc rfl (ew_own_p hn rfl) e1 ?_
      refine xr_ret hc rfl rfl ?_
      refine ⟨?_, rfl, rfl⟩
      unfold s_a_count
      repeat' split
      all_goals first
        | rfl
        | (exfalso; omega)
    · refine ⟨51, 52, rfl, rfl, ?_⟩
      refine xr_go hc rfl rfl ?_
      refine xr_gf0 (A := 4) rfl hc rfl (ew_own_p hn rfl) e2 ?_
      refine xr_ret hc rfl rfl ?_
      refine ⟨?_, rfl, rfl⟩
      unfold s_a_count
      repeat' split
      all_goals first
        | rfl
        | (exfalso; omega)
    · refine ⟨56, 57, rfl, rfl, ?_⟩
      refine xr_go hc rfl rfl ?_
      refine xr_gf2 (A := 4) (w := 5) rfl hc rfl (ew_own_p hn rfl) (ew_pm hp rfl) ?_
      refine xr_gf0 (A := 5) rfl hc rfl (ew_own_p hn rfl) v1 ?_
      refine xr_ret hc rfl rfl ?_
      refine ⟨?_, rfl, rfl⟩
      unfold s_a_count
      repeat' split
      all_goals first
        | rfl
        | (exfalso; omega)
    · refine ⟨64, 65, rfl, rfl, ?_⟩
      refine xr_go hc rfl rfl ?_
      refine xr_gf2 (A := 4) (w := 5) rfl hc rfl (ew_own_p hn rfl) (ew_pm hp rfl) ?_
      refine xr_gf0 (A := 5) rfl hc rfl (ew_own_p hn rfl) v2 ?_
      refine xr_ret hc rfl rfl ?_
      refine ⟨?_, rfl, rfl⟩
      unfold s_a_count
      repeat' split
      all_goals first
        | rfl
        | (exfalso; omega)

set_option maxRecDepth 20000 in
theorem m_cl_1 {n : Nat} {M : ew_Mem} (hn : 59 ≤ n) (hp : ew_Pm M) {u : Nat} (hu : u < 3) {m : Int} : ∀ (j i : Nat), i + j = 40 →
    ew_X 230 35 [(2, 38), (0, (u : Int)), (0, m), (0, (i : Int))] [] n (s_fn (ew_wr M 57 u m) 58 (40 * u) i (fun _ => 0)) (fun r a b => r = some (0, 1) ∧ a = n ∧ b = (s_fn (ew_wr M 57 u m) 58 (40 * u) 40 (fun _ => 0))) := by
  have hc := ew_c_230
  intro j
  induction j with
  | zero =>
    intro i hj
    obtain rfl : i = 40 := by omega
    refine xr_go hc rfl rfl ?_
    refine xr_go hc rfl rfl ?_
    refine xr_icmp_ge hc rfl (by omega) (by decide) (fun c1 => ?_) (fun c1 => ?_)
    · skip
      refine xr_go hc rfl rfl ?_
      refine xr_ret hc rfl rfl ?_
      exact ⟨rfl, rfl, rfl⟩
    · exfalso; omega
  | succ j ih =>
    intro i hj
    refine xr_go hc rfl rfl ?_
    refine xr_go hc rfl rfl ?_
    refine xr_icmp_ge hc rfl (by omega) (by decide) (fun c1 => ?_) (fun c1 => ?_)
    · exfalso; omega
    · skip
      refine xr_go hc rfl rfl ?_
      refine xr_gf2 (A := 38) rfl hc rfl (ew_own_p hn rfl) (show _ = (58 : Int) by first | exact ew_pm (v := 58) hp rfl | ((repeat first | rw [s_fn_ne (by omega)] | rw [s_ne_rd (by omega)] | rw [s_ne_ri (by omega)]); exact ew_pm (v := 58) hp rfl)) ?_
      refine xr_go hc rfl rfl ?_
      refine xr_go hc rfl rfl ?_
      refine xr_go hc rfl rfl ?_
      refine xr_go hc rfl rfl ?_
      refine xr_go hc rfl rfl ?_
      refine xr_go hc rfl rfl ?_
      refine xr_last (A := 58) (N := 120) rfl rfl hc rfl (ew_own_p hn rfl) (by omega) (by omega) ?_
      refine xr_inc_3 hc rfl ?_
      refine xr_go hc rfl rfl ?_
      rw [s_n1, s_fn_w2 (by omega) rfl]
      exact ih (i + 1) (by omega)

set_option maxRecDepth 20000 in
theorem mx_list {n : Nat} {M : ew_Mem} (hn : 59 ≤ n) (hp : ew_Pm M) {t m : Int} (ht : ew_in t) (hm : ew_in m) (h : s_okI t m) : ew_FM 230 [(2, 38), (0, t), (0, m)] n M (0, 1) n (s_clM M t.toNat m) := by
  have hc := ew_c_230
  show ew_X 230 0 [(2, 38), (0, t), (0, m), (5, 0)] [] n M _
  refine xr_go hc rfl rfl ?_
  refine xr_s_1 hc rfl rfl (m_isList (by omega)) ?_
  refine xr_if_ne hc rfl (by split <;> omega) (fun c1 => ?_) (fun c1 => ?_)
  · skip
    refine xr_go hc rfl rfl ?_
    refine xr_go hc rfl rfl ?_
    refine xr_icmp_le hc rfl (by omega) (by decide) (fun c2 => ?_) (fun c2 => ?_)
    · skip
      refine xr_go hc rfl rfl ?_
      refine xr_go hc rfl rfl ?_
      refine xr_icmp_ge hc rfl (by omega) (by decide) (fun c3 => ?_) (fun c3 => ?_)
      · skip
        refine xr_go hc rfl rfl ?_
        refine xr_gf2 (A := 38) rfl hc rfl (ew_own_p hn rfl) (show _ = (57 : Int) by first | exact ew_pm (v := 57) hp rfl | ((repeat first | rw [s_fn_ne (by omega)] | rw [s_ne_rd (by omega)] | rw [s_ne_ri (by omega)]); exact ew_pm (v := 57) hp rfl)) ?_
        refine xr_go hc rfl rfl ?_
        refine xr_go hc rfl rfl ?_
        refine xr_iast (A := 57) (N := 3) rfl rfl hc rfl (ew_own_p hn rfl) (by omega) (by omega) ?_
        refine xr_go hc rfl rfl ?_
        refine xr_s1_3 hc rfl rfl rfl ?_
        have hg := m_cl_1 hn hp (u := t.toNat) (by omega) (m := m) 40 0 rfl
        rw [s_fn_0, s_toI (show 0 ≤ t by omega)] at hg
        exact hg
      · skip
        refine xr_go hc rfl rfl ?_
        refine xr_ret hc rfl rfl ?_
        exfalso; omega
    · skip
      refine xr_go hc rfl rfl ?_
      refine xr_ret hc rfl rfl ?_
      exfalso; omega
  · skip
    refine xr_go hc rfl rfl ?_
    refine xr_ret hc rfl rfl ?_
    exfalso; omega

set_option maxRecDepth 20000 in
theorem mx_listN {n : Nat} {M : ew_Mem} (hn : 59 ≤ n) (hp : ew_Pm M) {t m : Int} (ht : ew_in t) (hm : ew_in m) (h : ¬ s_okI t m) : ew_FM 230 [(2, 38), (0, t), (0, m)] n M (0, s_n_list t m) n M := by
  have hc := ew_c_230
  show ew_X 230 0 [(2, 38), (0, t), (0, m), (5, 0)] [] n M _
  refine xr_go hc rfl rfl ?_
  refine xr_s_1 hc rfl rfl (m_isList (by omega)) ?_
  refine xr_if_ne hc rfl (by split <;> omega) (fun c1 => ?_) (fun c1 => ?_)
  · skip
    refine xr_go hc rfl rfl ?_
    refine xr_go hc rfl rfl ?_
    refine xr_icmp_le hc rfl (by omega) (by decide) (fun c2 => ?_) (fun c2 => ?_)
    · skip
      refine xr_go hc rfl rfl ?_
      refine xr_go hc rfl rfl ?_
      refine xr_icmp_ge hc rfl (by omega) (by decide) (fun c3 => ?_) (fun c3 => ?_)
      · skip
        exfalso; omega
      · skip
        refine xr_go hc rfl rfl ?_
        refine xr_ret hc rfl rfl ?_
        first
          | (exfalso; omega)
          | (refine ⟨?_, rfl, rfl⟩
             unfold s_n_list
             repeat' split
             all_goals first
               | rfl
               | (exfalso; omega)
               | (congr 2; omega))
    · skip
      refine xr_go hc rfl rfl ?_
      refine xr_ret hc rfl rfl ?_
      first
        | (exfalso; omega)
        | (refine ⟨?_, rfl, rfl⟩
           unfold s_n_list
           repeat' split
           all_goals first
             | rfl
             | (exfalso; omega)
             | (congr 2; omega))
  · skip
    refine xr_go hc rfl rfl ?_
    refine xr_ret hc rfl rfl ?_
    first
      | (exfalso; omega)
      | (refine ⟨?_, rfl, rfl⟩
         unfold s_n_list
         repeat' split
         all_goals first
           | rfl
           | (exfalso; omega)
           | (congr 2; omega))

set_option maxRecDepth 20000 in
theorem mx_put {n : Nat} {M : ew_Mem} (hn : 59 ≤ n) (hp : ew_Pm M) {t i : Int} (ht : ew_in t) (hi : ew_in i) {v : Int} {sz : Int} (e1 : M 57 t.toNat = sz) (hk : -1 ≤ sz ∧ sz ≤ 40) (h : s_okP sz t i) : ew_FM 232 [(2, 38), (0, t), (0, i), (1, v)] n M (0, 1) n (ew_wr M 58 (40 * t + i).toNat v) := by
  have hc := ew_c_232
  show ew_X 232 0 [(2, 38), (0, t), (0, i), (1, v), (5, 0)] [] n M _
  refine xr_go hc rfl rfl ?_
  refine xr_s_1 hc rfl rfl (m_isList (by omega)) ?_
  refine xr_if_ne hc rfl (by split <;> omega) (fun c1 => ?_) (fun c1 => ?_)
  · skip
    refine xr_go hc rfl rfl ?_
    refine xr_gf2 (A := 38) rfl hc rfl (ew_own_p hn rfl) (show _ = (57 : Int) by first | exact ew_pm (v := 57) hp rfl | ((repeat first | rw [s_fn_ne (by omega)] | rw [s_ne_rd (by omega)] | rw [s_ne_ri (by omega)]); exact ew_pm (v := 57) hp rfl)) ?_
    refine xr_go hc rfl rfl ?_
    refine xr_iald (A := 57) (N := 3) rfl rfl hc rfl (ew_ok_p hn rfl) (by omega) (by omega) e1 ?_
    refine xr_if_ge hc rfl (by omega) (fun c2 => ?_) (fun c2 => ?_)
    · skip
      refine xr_go hc rfl rfl ?_
      refine xr_i2l hc rfl (by omega) ?_
      refine xr_go hc rfl rfl ?_
      refine xr_go hc rfl rfl ?_
      refine xr_gf2 (A := 38) rfl hc rfl (ew_own_p hn rfl) (show _ = (57 : Int) by first | exact ew_pm (v := 57) hp rfl | ((repeat first | rw [s_fn_ne (by omega)] | rw [s_ne_rd (by omega)] | rw [s_ne_ri (by omega)]); exact ew_pm (v := 57) hp rfl)) ?_
      refine xr_go hc rfl rfl ?_
      refine xr_iald (A := 57) (N := 3) rfl rfl hc rfl (ew_ok_p hn rfl) (by omega) (by omega) e1 ?_
      refine xr_go hc rfl rfl ?_
      refine xr_go hc rfl rfl ?_
      refine xr_i2l hc rfl (by omega) ?_
      refine xr_s_3 hc rfl rfl (c_in (by omega) (by first | decide | omega) (by first | decide | omega)) ?_
      refine xr_if_ne hc rfl (by split <;> omega) (fun c3 => ?_) (fun c3 => ?_)
      · skip
        refine xr_go hc rfl rfl ?_
        refine xr_gf2 (A := 38) rfl hc rfl (ew_own_p hn rfl) (show _ = (58 : Int) by first | exact ew_pm (v := 58) hp rfl | ((repeat first | rw [s_fn_ne (by omega)] | rw [s_ne_rd (by omega)] | rw [s_ne_ri (by omega)]); exact ew_pm (v := 58) hp rfl)) ?_
        refine xr_go hc rfl rfl ?_
        refine xr_go hc rfl rfl ?_
        refine xr_go hc rfl rfl ?_
        refine xr_go hc rfl rfl ?_
        refine xr_go hc rfl rfl ?_
        refine xr_go hc rfl rfl ?_
        refine xr_last (A := 58) (N := 120) rfl rfl hc rfl (ew_own_p hn rfl) (by omega) (by omega) ?_
        refine xr_go hc rfl rfl ?_
        refine xr_ret hc rfl rfl ?_
        first
          | exact ⟨rfl, rfl, rfl⟩
          | (exfalso; omega)
      · skip
        refine xr_go hc rfl rfl ?_
        refine xr_ret hc rfl rfl ?_
        first
          | exact ⟨rfl, rfl, rfl⟩
          | (exfalso; omega)
    · skip
      refine xr_go hc rfl rfl ?_
      refine xr_ret hc rfl rfl ?_
      first
        | exact ⟨rfl, rfl, rfl⟩
        | (exfalso; omega)
  · skip
    refine xr_go hc rfl rfl ?_
    refine xr_ret hc rfl rfl ?_
    first
      | exact ⟨rfl, rfl, rfl⟩
      | (exfalso; omega)

set_option maxRecDepth 20000 in
theorem mx_putN {n : Nat} {M : ew_Mem} (hn : 59 ≤ n) (hp : ew_Pm M) {t i : Int} (ht : ew_in t) (hi : ew_in i) {v : Int} {sz : Int} (e1 : M 57 t.toNat = sz) (hk : -1 ≤ sz ∧ sz ≤ 40) (h : ¬ s_okP sz t i) : ew_FM 232 [(2, 38), (0, t), (0, i), (1, v)] n M (0, s_n_put sz t) n M := by
  have hc := ew_c_232
  show ew_X 232 0 [(2, 38), (0, t), (0, i), (1, v), (5, 0)] [] n M _
  refine xr_go hc rfl rfl ?_
  refine xr_s_1 hc rfl rfl (m_isList (by omega)) ?_
  refine xr_if_ne hc rfl (by split <;> omega) (fun c1 => ?_) (fun c1 => ?_)
  · skip
    refine xr_go hc rfl rfl ?_
    refine xr_gf2 (A := 38) rfl hc rfl (ew_own_p hn rfl) (show _ = (57 : Int) by first | exact ew_pm (v := 57) hp rfl | ((repeat first | rw [s_fn_ne (by omega)] | rw [s_ne_rd (by omega)] | rw [s_ne_ri (by omega)]); exact ew_pm (v := 57) hp rfl)) ?_
    refine xr_go hc rfl rfl ?_
    refine xr_iald (A := 57) (N := 3) rfl rfl hc rfl (ew_ok_p hn rfl) (by omega) (by omega) e1 ?_
    refine xr_if_ge hc rfl (by omega) (fun c2 => ?_) (fun c2 => ?_)
    · skip
      refine xr_go hc rfl rfl ?_
      refine xr_i2l hc rfl (by omega) ?_
      refine xr_go hc rfl rfl ?_
      refine xr_go hc rfl rfl ?_
      refine xr_gf2 (A := 38) rfl hc rfl (ew_own_p hn rfl) (show _ = (57 : Int) by first | exact ew_pm (v := 57) hp rfl | ((repeat first | rw [s_fn_ne (by omega)] | rw [s_ne_rd (by omega)] | rw [s_ne_ri (by omega)]); exact ew_pm (v := 57) hp rfl)) ?_
      refine xr_go hc rfl rfl ?_
      refine xr_iald (A := 57) (N := 3) rfl rfl hc rfl (ew_ok_p hn rfl) (by omega) (by omega) e1 ?_
      refine xr_go hc rfl rfl ?_
      refine xr_go hc rfl rfl ?_
      refine xr_i2l hc rfl (by omega) ?_
      refine xr_s_3 hc rfl rfl (c_in (by omega) (by first | decide | omega) (by first | decide | omega)) ?_
      refine xr_if_ne hc rfl (by split <;> omega) (fun c3 => ?_) (fun c3 => ?_)
      · skip
        exfalso; omega
      · skip
        refine xr_go hc rfl rfl ?_
        refine xr_ret hc rfl rfl ?_
        first
          | (exfalso; omega)
          | (refine ⟨?_, rfl, rfl⟩
             unfold s_n_put
             repeat' split
             all_goals first
               | rfl
               | (exfalso; omega)
               | (congr 2; omega))
    · skip
      refine xr_go hc rfl rfl ?_
      refine xr_ret hc rfl rfl ?_
      first
        | (exfalso; omega)
        | (refine ⟨?_, rfl, rfl⟩
           unfold s_n_put
           repeat' split
           all_goals first
             | rfl
             | (exfalso; omega)
             | (congr 2; omega))
  · skip
    refine xr_go hc rfl rfl ?_
    refine xr_ret hc rfl rfl ?_
    first
      | (exfalso; omega)
      | (refine ⟨?_, rfl, rfl⟩
         unfold s_n_put
         repeat' split
         all_goals first
           | rfl
           | (exfalso; omega)
           | (congr 2; omega))

set_option maxRecDepth 20000 in
theorem mx_get {n : Nat} {M : ew_Mem} (hn : 59 ≤ n) (hp : ew_Pm M) {t i : Int} (ht : ew_in t) (hi : ew_in i) {sz : Int} (e1 : M 57 t.toNat = sz) (hk : -1 ≤ sz ∧ sz ≤ 40) {y : Int} (e2 : (0 ≤ t ∧ t < 3) → (0 ≤ i ∧ i < sz) → M 58 (40 * t + i).toNat = y) : ew_FM 233 [(2, 38), (0, t), (0, i)] n M (1, s_a_get sz t i y) n M := by
  have hc := ew_c_233
  show ew_X 233 0 [(2, 38), (0, t), (0, i)] [] n M _
  refine xr_go hc rfl rfl ?_
  refine xr_s_1 hc rfl rfl (m_isList (by omega)) ?_
  refine xr_if_eq hc rfl (by split <;> omega) (fun c1 => ?_) (fun c1 => ?_)
  · skip
    refine xr_go hc rfl rfl ?_
    refine xr_ret hc rfl rfl ?_
    refine ⟨?_, rfl, rfl⟩
    unfold s_a_get
    repeat' split
    all_goals first
      | rfl
      | (exfalso; omega)
  · skip
    refine xr_go hc rfl rfl ?_
    refine xr_i2l hc rfl (by omega) ?_
    refine xr_go hc rfl rfl ?_
    refine xr_go hc rfl rfl ?_
    refine xr_gf2 (A := 38) rfl hc rfl (ew_own_p hn rfl) (show _ = (57 : Int) by first | exact ew_pm (v := 57) hp rfl | ((repeat first | rw [s_fn_ne (by omega)] | rw [s_ne_rd (by omega)] | rw [s_ne_ri (by omega)]); exact ew_pm (v := 57) hp rfl)) ?_
    refine xr_go hc rfl rfl ?_
    refine xr_iald (A := 57) (N := 3) rfl rfl hc rfl (ew_ok_p hn rfl) (by omega) (by omega) e1 ?_
    refine xr_go hc rfl rfl ?_
    refine xr_go hc rfl rfl ?_
    refine xr_i2l hc rfl (by omega) ?_
    refine xr_s_3 hc rfl rfl (c_in (by omega) (by first | decide | omega) (by first | decide | omega)) ?_
    refine xr_if_eq hc rfl (by split <;> omega) (fun c2 => ?_) (fun c2 => ?_)
    · skip
      refine xr_go hc rfl rfl ?_
      refine xr_ret hc rfl rfl ?_
      refine ⟨?_, rfl, rfl⟩
      unfold s_a_get
      repeat' split
      all_goals first
        | rfl
        | (exfalso; omega)
    · skip
      refine xr_go hc rfl rfl ?_
      refine xr_gf2 (A := 38) rfl hc rfl (ew_own_p hn rfl) (show _ = (58 : Int) by first | exact ew_pm (v := 58) hp rfl | ((repeat first | rw [s_fn_ne (by omega)] | rw [s_ne_rd (by omega)] | rw [s_ne_ri (by omega)]); exact ew_pm (v := 58) hp rfl)) ?_
      refine xr_go hc rfl rfl ?_
      refine xr_go hc rfl rfl ?_
      refine xr_go hc rfl rfl ?_
      refine xr_go hc rfl rfl ?_
      refine xr_go hc rfl rfl ?_
      refine xr_lald (A := 58) (N := 120) rfl rfl hc rfl (ew_own_p hn rfl) (by omega) (by omega) (e2 (by omega) (by omega)) ?_
      refine xr_go hc rfl rfl ?_
      refine xr_ret hc rfl rfl ?_
      refine ⟨?_, rfl, rfl⟩
      unfold s_a_get
      repeat' split
      all_goals first
        | rfl
        | (exfalso; omega)

set_option maxRecDepth 20000 in
theorem m_fill_1 {V : ew_Mem} {n : Nat} {M : ew_Mem} (hM : s_M V n M) {u : Nat} (hu : u < 3) {sz m0 : Int} (e1 : M 57 u = sz) (hk : 0 ≤ sz ∧ sz ≤ 40) (hm0 : s_isM m0) : ∀ (j : Nat) (m : Int) (P : List Int), m + (j : Int) = min (m0 + 3999) 100000 + 1 → m0 ≤ m → (P.length : Int) ≤ sz →
    ew_X 234 36 [(2, 38), (0, (u : Int)), (0, m0), (0, (P.length : Int)), (0, m)] [] n (s_pf M 58 (40 * u) P) (fun r a b => r = some (0, ((P ++ s_es V j m (sz - (P.length : Int))).length : Int)) ∧ a = n ∧ b = s_pf M 58 (40 * u) (P ++ s_es V j m (sz - (P.length : Int)))) := by
  obtain ⟨hn, hp, hV, u0, u1, u2, u3, u4⟩ := id hM
  obtain ⟨hc6, hVW, hnd, hap, hr0, hr1, hr2, hr3, hr4, hr5⟩ := id hV
  have hc := ew_c_234
  intro j
  induction j with
  | zero =>
    intro m P hj hm hl
    have hM2 : s_M V n (s_pf M 58 (40 * u) P) := s_M_fn hM
    have hp2 := hM2.2.1
    have e2 : s_pf M 58 (40 * u) P 57 u = sz := (s_fn_ne (by decide)).trans e1
    refine xr_go hc rfl rfl ?_
    refine xr_go hc rfl rfl ?_
    refine xr_go hc rfl rfl ?_
    refine xr_go hc rfl rfl ?_
    refine xr_icmp_ge hc rfl (by omega) (by omega) (fun c1 => ?_) (fun c1 => ?_)
    · skip
      refine xr_go hc rfl rfl ?_
      refine xr_ret hc rfl rfl ?_
      rw [s_es, List.append_nil]
      exact ⟨rfl, rfl, rfl⟩
    · skip
      refine xr_go hc rfl rfl ?_
      refine xr_go hc rfl rfl ?_
      refine xr_icmp_gt hc rfl (by omega) (by decide) (fun c2 => ?_) (fun c2 => ?_)
      · skip
        refine xr_go hc rfl rfl ?_
        refine xr_ret hc rfl rfl ?_
        rw [s_es, List.append_nil]
        exact ⟨rfl, rfl, rfl⟩
      · skip
        refine xr_go hc rfl rfl ?_
        refine xr_go hc rfl rfl ?_
        refine xr_gf2 (A := 38) rfl hc rfl (ew_own_p hn rfl) (show _ = (57 : Int) by first | exact ew_pm (v := 57) hp2 rfl | ((repeat first | rw [s_fn_ne (by omega)] | rw [s_ne_rd (by omega)] | rw [s_ne_ri (by omega)]); exact ew_pm (v := 57) hp2 rfl)) ?_
        refine xr_go hc rfl rfl ?_
        refine xr_iald (A := 57) (N := 3) rfl rfl hc rfl (ew_ok_p hn rfl) (by omega) (by omega) e2 ?_
        refine xr_icmp_ge hc rfl (by omega) (by omega) (fun c3 => ?_) (fun c3 => ?_)
        · skip
          refine xr_go hc rfl rfl ?_
          refine xr_ret hc rfl rfl ?_
          rw [s_es, List.append_nil]
          exact ⟨rfl, rfl, rfl⟩
        · skip
          exfalso; omega
  | succ j ih =>
    intro m P hj hm hl
    have hM2 : s_M V n (s_pf M 58 (40 * u) P) := s_M_fn hM
    have hp2 := hM2.2.1
    have e2 : s_pf M 58 (40 * u) P 57 u = sz := (s_fn_ne (by decide)).trans e1
    refine xr_go hc rfl rfl ?_
    refine xr_go hc rfl rfl ?_
    refine xr_go hc rfl rfl ?_
    refine xr_go hc rfl rfl ?_
    refine xr_icmp_ge hc rfl (by omega) (by omega) (fun c1 => ?_) (fun c1 => ?_)
    · exfalso; omega
    · skip
      refine xr_go hc rfl rfl ?_
      refine xr_go hc rfl rfl ?_
      refine xr_icmp_gt hc rfl (by omega) (by decide) (fun c2 => ?_) (fun c2 => ?_)
      · exfalso; omega
      · skip
        refine xr_go hc rfl rfl ?_
        refine xr_go hc rfl rfl ?_
        refine xr_gf2 (A := 38) rfl hc rfl (ew_own_p hn rfl) (show _ = (57 : Int) by first | exact ew_pm (v := 57) hp2 rfl | ((repeat first | rw [s_fn_ne (by omega)] | rw [s_ne_rd (by omega)] | rw [s_ne_ri (by omega)]); exact ew_pm (v := 57) hp2 rfl)) ?_
        refine xr_go hc rfl rfl ?_
        refine xr_iald (A := 57) (N := 3) rfl rfl hc rfl (ew_ok_p hn rfl) (by omega) (by omega) e2 ?_
        refine xr_icmp_ge hc rfl (by omega) (by omega) (fun c3 => ?_) (fun c3 => ?_)
        · skip
          refine xr_go hc rfl rfl ?_
          refine xr_ret hc rfl rfl ?_
          rw [s_es, if_neg (by omega), List.append_nil]
          exact ⟨rfl, rfl, rfl⟩
        · skip
          refine xr_go hc rfl rfl ?_
          refine xr_go hc rfl rfl ?_
          refine xr_v_2 hc rfl rfl (ew_own_p hn rfl) (m_eclipseAt hM2 (by omega)) ?_
          refine xr_if_le hc rfl (by have := s_ecl_bd V m; omega) (fun c4 => ?_) (fun c4 => ?_)
          · skip
            refine xr_inc_4 hc rfl ?_
            refine xr_go hc rfl rfl ?_
            first
              | (rw [s_es, if_pos (by omega), if_pos (by have := s_ecl_bd V m; omega)]
                 exact ih (m + 1) P (by omega) (by omega) (by omega))
              | (rw [s_es, if_pos (by omega), if_neg (by have := s_ecl_bd V m; omega)]
                 have hw : ew_wr (s_pf M 58 (40 * u) P) 58 (40 * (u : Int) + (P.length : Int)).toNat m = s_pf M 58 (40 * u) (P ++ [m]) := s_pf_add (by omega)
                 rw [hw]
                 have hg := ih (m + 1) (P ++ [m]) (by omega) (by omega) (by rw [List.length_append]; show ((P.length + 1 : Nat) : Int) ≤ sz; omega)
                 rw [List.length_append, List.append_assoc, show sz - ((P.length + [m].length : Nat) : Int) = sz - (P.length : Int) - 1 by simp only [List.length_cons, List.length_nil]; omega, show ((P.length + [m].length : Nat) : Int) = (P.length : Int) + 1 by simp] at hg
                 exact hg)
          · skip
            refine xr_go hc rfl rfl ?_
            refine xr_gf2 (A := 38) rfl hc rfl (ew_own_p hn rfl) (show _ = (58 : Int) by first | exact ew_pm (v := 58) hp2 rfl | ((repeat first | rw [s_fn_ne (by omega)] | rw [s_ne_rd (by omega)] | rw [s_ne_ri (by omega)]); exact ew_pm (v := 58) hp2 rfl)) ?_
            refine xr_go hc rfl rfl ?_
            refine xr_go hc rfl rfl ?_
            refine xr_go hc rfl rfl ?_
            refine xr_go hc rfl rfl ?_
            refine xr_go hc rfl rfl ?_
            refine xr_go hc rfl rfl ?_
            refine xr_i2l hc rfl (by omega) ?_
            refine xr_last (A := 58) (N := 120) rfl rfl hc rfl (ew_own_p hn rfl) (by omega) (by omega) ?_
            refine xr_inc_3 hc rfl ?_
            refine xr_inc_4 hc rfl ?_
            refine xr_go hc rfl rfl ?_
            first
              | (rw [s_es, if_pos (by omega), if_pos (by have := s_ecl_bd V m; omega)]
                 exact ih (m + 1) P (by omega) (by omega) (by omega))
              | (rw [s_es, if_pos (by omega), if_neg (by have := s_ecl_bd V m; omega)]
                 have hw : ew_wr (s_pf M 58 (40 * u) P) 58 (40 * (u : Int) + (P.length : Int)).toNat m = s_pf M 58 (40 * u) (P ++ [m]) := s_pf_add (by omega)
                 rw [hw]
                 have hg := ih (m + 1) (P ++ [m]) (by omega) (by omega) (by rw [List.length_append]; show ((P.length + 1 : Nat) : Int) ≤ sz; omega)
                 rw [List.length_append, List.append_assoc, show sz - ((P.length + [m].length : Nat) : Int) = sz - (P.length : Int) - 1 by simp only [List.length_cons, List.length_nil]; omega, show ((P.length + [m].length : Nat) : Int) = (P.length : Int) + 1 by simp] at hg
                 exact hg)

set_option maxRecDepth 20000 in
theorem mx_fill {V : ew_Mem} {n : Nat} {M : ew_Mem} (hM : s_M V n M) {t m : Int} (ht : ew_in t) (hm : ew_in m) {sz : Int} (e1 : M 57 t.toNat = sz) (hk : -1 ≤ sz ∧ sz ≤ 40) (h : s_okF sz t m) : ew_FM 234 [(2, 38), (0, t), (0, m)] n M (0, ((s_E V m sz).length : Int)) n (s_pf M 58 (40 * t.toNat) (s_E V m sz)) := by
  obtain ⟨hn, hp, hV, u0, u1, u2, u3, u4⟩ := id hM
  obtain ⟨hc6, hVW, hnd, hap, hr0, hr1, hr2, hr3, hr4, hr5⟩ := id hV
  have hc := ew_c_234
  show ew_X 234 0 [(2, 38), (0, t), (0, m), (5, 0), (5, 0)] [] n M _
  refine xr_go hc rfl rfl ?_
  refine xr_s_1 hc rfl rfl (m_isList (by omega)) ?_
  refine xr_if_ne hc rfl (by split <;> omega) (fun c1 => ?_) (fun c1 => ?_)
  · skip
    refine xr_go hc rfl rfl ?_
    refine xr_s_1 hc rfl rfl (m_isMonth hm) ?_
    refine xr_if_ne hc rfl (by split <;> omega) (fun c2 => ?_) (fun c2 => ?_)
    · skip
      refine xr_go hc rfl rfl ?_
      refine xr_gf2 (A := 38) rfl hc rfl (ew_own_p hn rfl) (show _ = (57 : Int) by first | exact ew_pm (v := 57) hp rfl | ((repeat first | rw [s_fn_ne (by omega)] | rw [s_ne_rd (by omega)] | rw [s_ne_ri (by omega)]); exact ew_pm (v := 57) hp rfl)) ?_
      refine xr_go hc rfl rfl ?_
      refine xr_iald (A := 57) (N := 3) rfl rfl hc rfl (ew_ok_p hn rfl) (by omega) (by omega) e1 ?_
      refine xr_if_ge hc rfl (by omega) (fun c3 => ?_) (fun c3 => ?_)
      · skip
        refine xr_go hc rfl rfl ?_
        refine xr_s1_3 hc rfl rfl rfl ?_
        refine xr_go hc rfl rfl ?_
        refine xr_s1_4 hc rfl rfl rfl ?_
        have hg := m_fill_1 hM (u := t.toNat) (by omega) e1 (by omega) (m0 := m) (by omega) (min (m + 3999) 100000 - m + 1).toNat m [] (by omega) (by omega) (by simp; omega)
        rw [s_pf_0, List.nil_append, s_toI (show 0 ≤ t by omega)] at hg
        simp only [List.length_nil, Int.ofNat_zero, Int.sub_zero, Int.natCast_zero] at hg
        exact hg
      · skip
        refine xr_go hc rfl rfl ?_
        refine xr_ret hc rfl rfl ?_
        exfalso; omega
    · skip
      refine xr_go hc rfl rfl ?_
      refine xr_ret hc rfl rfl ?_
      exfalso; omega
  · skip
    refine xr_go hc rfl rfl ?_
    refine xr_ret hc rfl rfl ?_
    exfalso; omega

set_option maxRecDepth 20000 in
theorem mx_fillN {V : ew_Mem} {n : Nat} {M : ew_Mem} (hM : s_M V n M) {t m : Int} (ht : ew_in t) (hm : ew_in m) {sz : Int} (e1 : M 57 t.toNat = sz) (hk : -1 ≤ sz ∧ sz ≤ 40) (h : ¬ s_okF sz t m) : ew_FM 234 [(2, 38), (0, t), (0, m)] n M (0, s_n_fill t m) n M := by
  obtain ⟨hn, hp, hV, u0, u1, u2, u3, u4⟩ := id hM
  obtain ⟨hc6, hVW, hnd, hap, hr0, hr1, hr2, hr3, hr4, hr5⟩ := id hV
  have hc := ew_c_234
  show ew_X 234 0 [(2, 38), (0, t), (0, m), (5, 0), (5, 0)] [] n M _
  refine xr_go hc rfl rfl ?_
  refine xr_s_1 hc rfl rfl (m_isList (by omega)) ?_
  refine xr_if_ne hc rfl (by split <;> omega) (fun c1 => ?_) (fun c1 => ?_)
  · skip
    refine xr_go hc rfl rfl ?_
    refine xr_s_1 hc rfl rfl (m_isMonth hm) ?_
    refine xr_if_ne hc rfl (by split <;> omega) (fun c2 => ?_) (fun c2 => ?_)
    · skip
      refine xr_go hc rfl rfl ?_
      refine xr_gf2 (A := 38) rfl hc rfl (ew_own_p hn rfl) (show _ = (57 : Int) by first | exact ew_pm (v := 57) hp rfl | ((repeat first | rw [s_fn_ne (by omega)] | rw [s_ne_rd (by omega)] | rw [s_ne_ri (by omega)]); exact ew_pm (v := 57) hp rfl)) ?_
      refine xr_go hc rfl rfl ?_
      refine xr_iald (A := 57) (N := 3) rfl rfl hc rfl (ew_ok_p hn rfl) (by omega) (by omega) e1 ?_
      refine xr_if_ge hc rfl (by omega) (fun c3 => ?_) (fun c3 => ?_)
      · skip
        exfalso; omega
      · skip
        refine xr_go hc rfl rfl ?_
        refine xr_ret hc rfl rfl ?_
        first
          | (exfalso; omega)
          | (refine ⟨?_, rfl, rfl⟩
             unfold s_n_fill
             repeat' split
             all_goals first
               | rfl
               | (exfalso; omega)
               | (congr 2; omega))
    · skip
      refine xr_go hc rfl rfl ?_
      refine xr_ret hc rfl rfl ?_
      first
        | (exfalso; omega)
        | (refine ⟨?_, rfl, rfl⟩
           unfold s_n_fill
           repeat' split
           all_goals first
             | rfl
             | (exfalso; omega)
             | (congr 2; omega))
  · skip
    refine xr_go hc rfl rfl ?_
    refine xr_ret hc rfl rfl ?_
    first
      | (exfalso; omega)
      | (refine ⟨?_, rfl, rfl⟩
         unfold s_n_fill
         repeat' split
         all_goals first
           | rfl
           | (exfalso; omega)
           | (congr 2; omega))

set_option maxRecDepth 20000 in
theorem m_judge_1 {V : ew_Mem} {n : Nat} {M : ew_Mem} (hM : s_M V n M) {u : Nat} (hu : u < 3) {sz m0 : Int} {f : Nat → Int} (e1 : M 57 u = sz) (hk : 0 ≤ sz ∧ sz ≤ 40) (hm0 : s_isM m0) (hI : ∀ i : Nat, i < 40 → M 58 (40 * u + i) = f i ∧ ew_inl (f i)) : ∀ (j : Nat) (m : Int) (c : Nat), m + (j : Int) = min (m0 + 3999) 100000 + 1 → m0 ≤ m → (c : Int) ≤ sz →
    ew_X 235 36 [(2, 38), (0, (u : Int)), (0, m0), (0, (c : Int)), (0, m)] [] n M (fun r a b => r = some (0, s_jq f sz (s_es V j m (sz - (c : Int))) c) ∧ a = n ∧ b = M) := by
  obtain ⟨hn, hp, hV, u0, u1, u2, u3, u4⟩ := id hM
  obtain ⟨hc6, hVW, hnd, hap, hr0, hr1, hr2, hr3, hr4, hr5⟩ := id hV
  have hc := ew_c_235
  intro j
  induction j with
  | zero =>
    intro m c hj hm hl
    refine xr_go hc rfl rfl ?_
    refine xr_go hc rfl rfl ?_
    refine xr_go hc rfl rfl ?_
    refine xr_go hc rfl rfl ?_
    refine xr_icmp_ge hc rfl (by omega) (by omega) (fun c1 => ?_) (fun c1 => ?_)
    · skip
      refine xr_go hc rfl rfl ?_
      refine xr_go hc rfl rfl ?_
      refine xr_gf2 (A := 38) rfl hc rfl (ew_own_p hn rfl) (show _ = (57 : Int) by first | exact ew_pm (v := 57) hp rfl | ((repeat first | rw [s_fn_ne (by omega)] | rw [s_ne_rd (by omega)] | rw [s_ne_ri (by omega)]); exact ew_pm (v := 57) hp rfl)) ?_
      refine xr_go hc rfl rfl ?_
      refine xr_iald (A := 57) (N := 3) rfl rfl hc rfl (ew_ok_p hn rfl) (by omega) (by omega) e1 ?_
      refine xr_icmp_ge hc rfl (by omega) (by omega) (fun c2 => ?_) (fun c2 => ?_)
      · skip
        refine xr_go hc rfl rfl ?_
        refine xr_ret hc rfl rfl ?_
        refine ⟨?_, rfl, rfl⟩
        rw [s_es, s_jq]
        first
          | (rw [if_pos (by omega)]; done)
          | (rw [if_neg (by omega)]; done)
      · skip
        refine xr_go hc rfl rfl ?_
        refine xr_go hc rfl rfl ?_
        refine xr_ret hc rfl rfl ?_
        refine ⟨?_, rfl, rfl⟩
        rw [s_es, s_jq]
        first
          | (rw [if_pos (by omega)]; done)
          | (rw [if_neg (by omega)]; done)
    · skip
      refine xr_go hc rfl rfl ?_
      refine xr_go hc rfl rfl ?_
      refine xr_icmp_gt hc rfl (by omega) (by decide) (fun c3 => ?_) (fun c3 => ?_)
      · skip
        refine xr_go hc rfl rfl ?_
        refine xr_go hc rfl rfl ?_
        refine xr_gf2 (A := 38) rfl hc rfl (ew_own_p hn rfl) (show _ = (57 : Int) by first | exact ew_pm (v := 57) hp rfl | ((repeat first | rw [s_fn_ne (by omega)] | rw [s_ne_rd (by omega)] | rw [s_ne_ri (by omega)]); exact ew_pm (v := 57) hp rfl)) ?_
        refine xr_go hc rfl rfl ?_
        refine xr_iald (A := 57) (N := 3) rfl rfl hc rfl (ew_ok_p hn rfl) (by omega) (by omega) e1 ?_
        refine xr_icmp_ge hc rfl (by omega) (by omega) (fun c4 => ?_) (fun c4 => ?_)
        · skip
          refine xr_go hc rfl rfl ?_
          refine xr_ret hc rfl rfl ?_
          refine ⟨?_, rfl, rfl⟩
          rw [s_es, s_jq]
          first
            | (rw [if_pos (by omega)]; done)
            | (rw [if_neg (by omega)]; done)
        · skip
          refine xr_go hc rfl rfl ?_
          refine xr_go hc rfl rfl ?_
          refine xr_ret hc rfl rfl ?_
          refine ⟨?_, rfl, rfl⟩
          rw [s_es, s_jq]
          first
            | (rw [if_pos (by omega)]; done)
            | (rw [if_neg (by omega)]; done)
      · skip
        refine xr_go hc rfl rfl ?_
        refine xr_go hc rfl rfl ?_
        refine xr_gf2 (A := 38) rfl hc rfl (ew_own_p hn rfl) (show _ = (57 : Int) by first | exact ew_pm (v := 57) hp rfl | ((repeat first | rw [s_fn_ne (by omega)] | rw [s_ne_rd (by omega)] | rw [s_ne_ri (by omega)]); exact ew_pm (v := 57) hp rfl)) ?_
        refine xr_go hc rfl rfl ?_
        refine xr_iald (A := 57) (N := 3) rfl rfl hc rfl (ew_ok_p hn rfl) (by omega) (by omega) e1 ?_
        refine xr_icmp_ge hc rfl (by omega) (by omega) (fun c5 => ?_) (fun c5 => ?_)
        · skip
          refine xr_go hc rfl rfl ?_
          refine xr_go hc rfl rfl ?_
          refine xr_gf2 (A := 38) rfl hc rfl (ew_own_p hn rfl) (show _ = (57 : Int) by first | exact ew_pm (v := 57) hp rfl | ((repeat first | rw [s_fn_ne (by omega)] | rw [s_ne_rd (by omega)] | rw [s_ne_ri (by omega)]); exact ew_pm (v := 57) hp rfl)) ?_
          refine xr_go hc rfl rfl ?_
          refine xr_iald (A := 57) (N := 3) rfl rfl hc rfl (ew_ok_p hn rfl) (by omega) (by omega) e1 ?_
          refine xr_icmp_ge hc rfl (by omega) (by omega) (fun c6 => ?_) (fun c6 => ?_)
          · skip
            refine xr_go hc rfl rfl ?_
            refine xr_ret hc rfl rfl ?_
            refine ⟨?_, rfl, rfl⟩
            rw [s_es, s_jq]
            first
              | (rw [if_pos (by omega)]; done)
              | (rw [if_neg (by omega)]; done)
          · skip
            refine xr_go hc rfl rfl ?_
            refine xr_go hc rfl rfl ?_
            refine xr_ret hc rfl rfl ?_
            refine ⟨?_, rfl, rfl⟩
            rw [s_es, s_jq]
            first
              | (rw [if_pos (by omega)]; done)
              | (rw [if_neg (by omega)]; done)
        · skip
          exfalso; omega
  | succ j ih =>
    intro m c hj hm hl
    refine xr_go hc rfl rfl ?_
    refine xr_go hc rfl rfl ?_
    refine xr_go hc rfl rfl ?_
    refine xr_go hc rfl rfl ?_
    refine xr_icmp_ge hc rfl (by omega) (by omega) (fun c1 => ?_) (fun c1 => ?_)
    · exfalso; omega
    · skip
      refine xr_go hc rfl rfl ?_
      refine xr_go hc rfl rfl ?_
      refine xr_icmp_gt hc rfl (by omega) (by decide) (fun c2 => ?_) (fun c2 => ?_)
      · exfalso; omega
      · skip
        refine xr_go hc rfl rfl ?_
        refine xr_go hc rfl rfl ?_
        refine xr_gf2 (A := 38) rfl hc rfl (ew_own_p hn rfl) (show _ = (57 : Int) by first | exact ew_pm (v := 57) hp rfl | ((repeat first | rw [s_fn_ne (by omega)] | rw [s_ne_rd (by omega)] | rw [s_ne_ri (by omega)]); exact ew_pm (v := 57) hp rfl)) ?_
        refine xr_go hc rfl rfl ?_
        refine xr_iald (A := 57) (N := 3) rfl rfl hc rfl (ew_ok_p hn rfl) (by omega) (by omega) e1 ?_
        refine xr_icmp_ge hc rfl (by omega) (by omega) (fun c3 => ?_) (fun c3 => ?_)
        · skip
          refine xr_go hc rfl rfl ?_
          refine xr_go hc rfl rfl ?_
          refine xr_gf2 (A := 38) rfl hc rfl (ew_own_p hn rfl) (show _ = (57 : Int) by first | exact ew_pm (v := 57) hp rfl | ((repeat first | rw [s_fn_ne (by omega)] | rw [s_ne_rd (by omega)] | rw [s_ne_ri (by omega)]); exact ew_pm (v := 57) hp rfl)) ?_
          refine xr_go hc rfl rfl ?_
          refine xr_iald (A := 57) (N := 3) rfl rfl hc rfl (ew_ok_p hn rfl) (by omega) (by omega) e1 ?_
          refine xr_icmp_ge hc rfl (by omega) (by omega) (fun c4 => ?_) (fun c4 => ?_)
          · skip
            refine xr_go hc rfl rfl ?_
            refine xr_ret hc rfl rfl ?_
            refine ⟨?_, rfl, rfl⟩
            first
              | (rw [s_es, if_neg (by omega), s_jq, if_neg (by omega)]; done)
              | (rw [s_es, if_pos (by omega), if_neg (by have := s_ecl_bd V m; omega), s_jq, if_neg (by assumption)]; done)
          · skip
            exfalso; omega
        · skip
          refine xr_go hc rfl rfl ?_
          refine xr_go hc rfl rfl ?_
          refine xr_v_2 hc rfl rfl (ew_own_p hn rfl) (m_eclipseAt hM (by omega)) ?_
          refine xr_if_le hc rfl (by have := s_ecl_bd V m; omega) (fun c5 => ?_) (fun c5 => ?_)
          · skip
            refine xr_inc_4 hc rfl ?_
            refine xr_go hc rfl rfl ?_
            first
              | (rw [s_es, if_pos (by omega), if_pos (by have := s_ecl_bd V m; omega)]
                 exact ih (m + 1) c (by omega) (by omega) (by omega))
              | (rw [s_es, if_pos (by omega), if_neg (by have := s_ecl_bd V m; omega), s_jq, if_pos (by assumption)]
                 have hg := ih (m + 1) (c + 1) (by omega) (by omega) (by omega)
                 rw [show sz - ((c + 1 : Nat) : Int) = sz - (c : Int) - 1 by omega] at hg
                 rw [s_n1]
                 exact hg)
          · skip
            refine xr_go hc rfl rfl ?_
            refine xr_gf2 (A := 38) rfl hc rfl (ew_own_p hn rfl) (show _ = (58 : Int) by first | exact ew_pm (v := 58) hp rfl | ((repeat first | rw [s_fn_ne (by omega)] | rw [s_ne_rd (by omega)] | rw [s_ne_ri (by omega)]); exact ew_pm (v := 58) hp rfl)) ?_
            refine xr_go hc rfl rfl ?_
            refine xr_go hc rfl rfl ?_
            refine xr_go hc rfl rfl ?_
            refine xr_go hc rfl rfl ?_
            refine xr_go hc rfl rfl ?_
            refine xr_lald (A := 58) (N := 120) rfl rfl hc rfl (ew_own_p hn rfl) (by omega) (by omega) (show _ = f c by rw [show (40 * (u : Int) + (c : Int)).toNat = 40 * u + c by omega]; exact (hI c (by omega)).1) ?_
            refine xr_go hc rfl rfl ?_
            refine xr_i2l hc rfl (by omega) ?_
            refine xr_l_eq hc rfl rfl (hI c (by omega)).2 (by omega) (fun c6 => ?_) (fun c6 => ?_)
            · skip
              refine xr_inc_3 hc rfl ?_
              refine xr_inc_4 hc rfl ?_
              refine xr_go hc rfl rfl ?_
              first
                | (rw [s_es, if_pos (by omega), if_pos (by have := s_ecl_bd V m; omega)]
                   exact ih (m + 1) c (by omega) (by omega) (by omega))
                | (rw [s_es, if_pos (by omega), if_neg (by have := s_ecl_bd V m; omega), s_jq, if_pos (by assumption)]
                   have hg := ih (m + 1) (c + 1) (by omega) (by omega) (by omega)
                   rw [show sz - ((c + 1 : Nat) : Int) = sz - (c : Int) - 1 by omega] at hg
                   rw [s_n1]
                   exact hg)
            · skip
              refine xr_go hc rfl rfl ?_
              refine xr_ret hc rfl rfl ?_
              refine ⟨?_, rfl, rfl⟩
              first
                | (rw [s_es, if_neg (by omega), s_jq, if_neg (by omega)]; done)
                | (rw [s_es, if_pos (by omega), if_neg (by have := s_ecl_bd V m; omega), s_jq, if_neg (by assumption)]; done)

set_option maxRecDepth 20000 in
theorem mx_judge {V : ew_Mem} {n : Nat} {M : ew_Mem} (hM : s_M V n M) {t m : Int} (ht : ew_in t) (hm : ew_in m) {sz : Int} (e1 : M 57 t.toNat = sz) (hk : -1 ≤ sz ∧ sz ≤ 40) {f : Nat → Int} (hI : (0 ≤ t ∧ t < 3) → ∀ i : Nat, i < 40 → M 58 (40 * t.toNat + i) = f i ∧ ew_inl (f i)) : ew_FM 235 [(2, 38), (0, t), (0, m)] n M (0, s_a_judge V sz f t m) n M := by
  obtain ⟨hn, hp, hV, u0, u1, u2, u3, u4⟩ := id hM
  obtain ⟨hc6, hVW, hnd, hap, hr0, hr1, hr2, hr3, hr4, hr5⟩ := id hV
  have hc := ew_c_235
  show ew_X 235 0 [(2, 38), (0, t), (0, m), (5, 0), (5, 0)] [] n M _
  refine xr_go hc rfl rfl ?_
  refine xr_s_1 hc rfl rfl (m_isList (by omega)) ?_
  refine xr_if_ne hc rfl (by split <;> omega) (fun c1 => ?_) (fun c1 => ?_)
  · skip
    refine xr_go hc rfl rfl ?_
    refine xr_s_1 hc rfl rfl (m_isMonth hm) ?_
    refine xr_if_ne hc rfl (by split <;> omega) (fun c2 => ?_) (fun c2 => ?_)
    · skip
      refine xr_go hc rfl rfl ?_
      refine xr_gf2 (A := 38) rfl hc rfl (ew_own_p hn rfl) (show _ = (57 : Int) by first | exact ew_pm (v := 57) hp rfl | ((repeat first | rw [s_fn_ne (by omega)] | rw [s_ne_rd (by omega)] | rw [s_ne_ri (by omega)]); exact ew_pm (v := 57) hp rfl)) ?_
      refine xr_go hc rfl rfl ?_
      refine xr_iald (A := 57) (N := 3) rfl rfl hc rfl (ew_ok_p hn rfl) (by omega) (by omega) e1 ?_
      refine xr_if_ge hc rfl (by omega) (fun c3 => ?_) (fun c3 => ?_)
      · skip
        refine xr_go hc rfl rfl ?_
        refine xr_s1_3 hc rfl rfl rfl ?_
        refine xr_go hc rfl rfl ?_
        refine xr_s1_4 hc rfl rfl rfl ?_
        have hg := m_judge_1 hM (u := t.toNat) (by omega) e1 (by omega) (m0 := m) (by omega) (hI (by omega)) (min (m + 3999) 100000 - m + 1).toNat m 0 (by omega) (by omega) (by omega)
        rw [s_toI (show 0 ≤ t by omega)] at hg
        unfold s_a_judge
        rw [if_pos (by omega), if_pos (by omega), if_neg (by omega)]
        rw [show sz - ((0 : Nat) : Int) = sz by omega] at hg
        exact hg
      · skip
        refine xr_go hc rfl rfl ?_
        refine xr_ret hc rfl rfl ?_
        first
          | (exfalso; omega)
          | (refine ⟨?_, rfl, rfl⟩
             unfold s_a_judge
             repeat' split
             all_goals first
               | rfl
               | (exfalso; omega)
               | (congr 2; omega))
    · skip
      refine xr_go hc rfl rfl ?_
      refine xr_ret hc rfl rfl ?_
      first
        | (exfalso; omega)
        | (refine ⟨?_, rfl, rfl⟩
           unfold s_a_judge
           repeat' split
           all_goals first
             | rfl
             | (exfalso; omega)
             | (congr 2; omega))
  · skip
    refine xr_go hc rfl rfl ?_
    refine xr_ret hc rfl rfl ?_
    first
      | (exfalso; omega)
      | (refine ⟨?_, rfl, rfl⟩
         unfold s_a_judge
         repeat' split
         all_goals first
           | rfl
           | (exfalso; omega)
           | (congr 2; omega))

set_option maxRecDepth 20000 in
theorem mx_count {V : ew_Mem} {n : Nat} {M : ew_Mem} (hM : s_M V n M) {x tp tx : Int} (hx : ew_in x) (e1 : M 38 21 = tp) (e2 : M 38 22 = tx) : ew_FM 236 [(2, 38), (0, x)] n M (0, s_a_count V tp tx x) n M := by
  obtain ⟨hn, hp, hV, u0, u1, u2, u3, u4⟩ := id hM
  obtain ⟨hc6, hVW, hnd, hap, hr0, hr1, hr2, hr3, hr4, hr5⟩ := id hV
  have hc := ew_c_236
  show ew_X 236 0 [(2, 38), (0, x)] [] n M _
  refine xr_go hc rfl rfl ?_
  refine xr_ts hc rfl hx (fun c1 => ?_) (fun c1a c1b => ?_)
  · skip
    refine xr_go hc rfl rfl ?_
    refine xr_i2l hc rfl (by omega) ?_
    refine xr_go hc rfl rfl ?_
    refine xr_go hc rfl rfl ?_
    refine xr_s_3 hc rfl rfl (c_in (by omega) (by first | decide | omega) (by first | decide | omega)) ?_
    refine xr_if_eq hc rfl (by split <;> omega) (fun c2 => ?_) (fun c2 => ?_)
    · skip
      refine xr_go hc rfl rfl ?_
      refine xr_ret hc rfl rfl ?_
      refine ⟨?_, rfl, rfl⟩
      unfold s_a_count
      repeat' split
      all_goals first
        | rfl
        | (exfalso; omega)
    · skip
      refine xr_go hc rfl rfl ?_
      refine xr_gf2 (A := 38) (w := 45) rfl hc rfl (ew_own_p hn rfl) (ew_pm hp rfl) ?_
      refine xr_go hc rfl rfl ?_
      refine xr_go hc rfl rfl ?_
      refine xr_go hc rfl rfl ?_
      refine xr_iald (A := 45) (N := 6) rfl rfl hc rfl (ew_ok_p hn rfl) (by omega) (by omega) (u3 (x - 5).toNat (by omega)) ?_
      refine xr_go hc rfl rfl ?_
      refine xr_ret hc rfl rfl ?_
      refine ⟨?_, rfl, rfl⟩
      unfold s_a_count
      repeat' split
      all_goals first
        | rfl
        | (exfalso; omega)
  · obtain rfl | rfl | rfl | rfl | rfl : x = 0 ∨ x = 1 ∨ x = 2 ∨ x = 3 ∨ x = 4 := by omega
    · refine ⟨35, 36, rfl, rfl, ?_⟩
      refine xr_go hc rfl rfl ?_
      refine xr_gf0 (A := 38) rfl hc rfl (ew_own_p hn rfl) u0 ?_
      refine xr_ret hc rfl rfl ?_
      refine ⟨?_, rfl, rfl⟩
      unfold s_a_count
      repeat' split
      all_goals first
        | rfl
        | (exfalso; omega)
    · refine ⟨40, 41, rfl, rfl, ?_⟩
      refine xr_go hc rfl rfl ?_
      refine xr_gf0 (A := 38) rfl hc rfl (ew_own_p hn rfl) e1 ?_
      refine xr_ret hc rfl rfl ?_
      refine ⟨?_, rfl, rfl⟩
      unfold s_a_count
      repeat' split
      all_goals first
        | rfl
        | (exfalso; omega)
    · refine ⟨45, 46, rfl, rfl, ?_⟩
      refine xr_go hc rfl rfl ?_
      refine xr_gf0 (A := 38) rfl hc rfl (ew_own_p hn rfl) e2 ?_
      refine xr_ret hc rfl rfl ?_
      refine ⟨?_, rfl, rfl⟩
      unfold s_a_count
      repeat' split
      all_goals first
        | rfl
        | (exfalso; omega)
    · refine ⟨50, 51, rfl, rfl, ?_⟩
      refine xr_go hc rfl rfl ?_
      refine xr_gf0 (A := 38) rfl hc rfl (ew_own_p hn rfl) u1 ?_
      refine xr_ret hc rfl rfl ?_
      refine ⟨?_, rfl, rfl⟩
      unfold s_a_count
      repeat' split
      all_goals first
        | rfl
        | (exfalso; omega)
    · refine ⟨55, 56, rfl, rfl, ?_⟩
      refine xr_go hc rfl rfl ?_
      refine xr_gf0 (A := 38) rfl hc rfl (ew_own_p hn rfl) u2 ?_
      refine xr_ret hc rfl rfl ?_
      refine ⟨?_, rfl, rfl⟩
      unfold s_a_count
      repeat' split
      all_goals first
        | rfl
        | (exfalso; omega)

