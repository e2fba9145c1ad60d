/-! trays, both sides: what memory they leave -/
theorem s_tr {n : Nat} {M : ew_Mem} (hn : 59 ≤ n) (hp : ew_Pm M) {u : Nat} (hu : u < 4) : ew_own 5 ((12 + 2 * u : Nat) : Int) n = true ∧ M (12 + 2 * u) 0 = ((13 + 2 * u : Nat) : Int) ∧ ew_own 22 ((13 + 2 * u : Nat) : Int) n = true ∧ (ew_tag (13 + 2 * u)).2 = 12 ∧ M 11 u = ((12 + 2 * u : Nat) : Int) := by
  obtain rfl | rfl | rfl | rfl : u = 0 ∨ u = 1 ∨ u = 2 ∨ u = 3 := by omega
  · exact ⟨ew_own_p hn rfl, ew_pm hp rfl, ew_own_p hn rfl, rfl, ew_pm hp rfl⟩
  · exact ⟨ew_own_p hn rfl, ew_pm hp rfl, ew_own_p hn rfl, rfl, ew_pm hp rfl⟩
  · exact ⟨ew_own_p hn rfl, ew_pm hp rfl, ew_own_p hn rfl, rfl, ew_pm hp rfl⟩
  · exact ⟨ew_own_p hn rfl, ew_pm hp rfl, ew_own_p hn rfl, rfl, ew_pm hp rfl⟩
/-- the tray u made empty, of kind k with m places -/
def s_ty (M : ew_Mem) (u : Nat) (k m : Int) : ew_Mem := s_fn (ew_wr (ew_wr M (12 + 2 * u) 1 k) (12 + 2 * u) 2 m) (13 + 2 * u) 0 12 (fun _ => 0)
def s_tyM (M : ew_Mem) (u : Nat) (k m : Int) : ew_Mem := s_fn (ew_wr (ew_wr M 54 u k) 55 u m) 56 (12 * u) 12 (fun _ => -1)
/-- the tray u made like v -/
def s_tb (M : ew_Mem) (u v : Nat) : ew_Mem := s_fn (ew_wr (ew_wr M (12 + 2 * u) 1 (M (12 + 2 * v) 1)) (12 + 2 * u) 2 (M (12 + 2 * v) 2)) (13 + 2 * u) 0 12 (fun i => M (13 + 2 * v) i)
theorem s_tbq {M : ew_Mem} {a c : Nat} {x y : Int} : ew_wr (ew_wr M a 1 x) a 2 y c 0 = M c 0 := by
  unfold ew_wr
  by_cases h : c = a
  · subst h
    simp
  · simp [h]
def s_tbM (M : ew_Mem) (u v : Nat) : ew_Mem := s_fn (ew_wr (ew_wr M 54 u (M 54 v)) 55 u (M 55 v)) 56 (12 * u) 12 (fun i => M 56 (12 * v + i))
theorem s_fn_w2 {M : ew_Mem} {c o i j : Nat} {f : Nat → Int} {v : Int} (hj : j = o + i) (hv : v = f i) : ew_wr (s_fn M c o i f) c j v = s_fn M c o (i + 1) f := by
  subst hj
  exact s_fn_wr hv
set_option maxRecDepth 20000 in
theorem c_trayN1 {n : Nat} {M : ew_Mem} (hn : 59 ≤ n) (hp : ew_Pm M) {u : Nat} (hu : u < 4)  : ew_FM 135 [(2, 4), (0, (u : Int))] n M (2, ((12 + 2 * u : Nat) : Int)) n M := by
  obtain ⟨hT1, hT2, hT3, hT4, hT5⟩ := s_tr hn hp hu
  have hc := ew_c_135
  show ew_X 135 0 [(2, 4), (0, (u : Int))] [] n M _
  refine xr_go hc rfl rfl ?_
  refine xr_if_lt hc rfl (by omega) (fun c1 => ?_) (fun c1 => ?_)
  · exfalso; omega
  · skip
    refine xr_go hc rfl rfl ?_
    refine xr_go hc rfl rfl ?_
    refine xr_gf2 (A := 4) (w := 11) rfl hc rfl (ew_own_p hn rfl) (ew_pm hp rfl) ?_
    refine xr_alen (A := 11) (N := 4) (t := 23) rfl rfl hc rfl (ew_ok_p hn rfl) (by decide) ?_
    refine xr_icmp_ge hc rfl (by omega) (by decide) (fun c2 => ?_) (fun c2 => ?_)
    · exfalso; omega
    · skip
      refine xr_go hc rfl rfl ?_
      refine xr_gf2 (A := 4) (w := 11) rfl hc rfl (ew_own_p hn rfl) (ew_pm hp rfl) ?_
      refine xr_go hc rfl rfl ?_
      refine xr_aald (A := 11) (t := 23) (N := 4) rfl rfl hc rfl (ew_own_p hn rfl) (by decide) (by omega) (by omega) (show M 11 u = _ from hT5) ?_
      refine xr_go hc rfl rfl ?_
      refine xr_ret hc rfl rfl ?_
      exact ⟨rfl, rfl, rfl⟩

set_option maxRecDepth 20000 in
theorem c_trayN0 {n : Nat} {M : ew_Mem} (hn : 59 ≤ n) (hp : ew_Pm M) {x : Int} (hx : ew_in x) (h : ¬ (0 ≤ x ∧ x < 4)) : ew_FM 135 [(2, 4), (0, x)] n M (2, 0) n M := by
  have hc := ew_c_135
  show ew_X 135 0 [(2, 4), (0, x)] [] n M _
  refine xr_go hc rfl rfl ?_
  refine xr_if_lt hc rfl (by omega) (fun c1 => ?_) (fun c1 => ?_)
  · skip
    refine xr_go hc rfl rfl ?_
    refine xr_ret hc rfl rfl ?_
    exact ⟨rfl, rfl, rfl⟩
  · skip
    refine xr_go hc rfl rfl ?_
    refine xr_go hc rfl rfl ?_
    refine xr_gf2 (A := 4) (w := 11) rfl hc rfl (ew_own_p hn rfl) (ew_pm hp rfl) ?_
    refine xr_alen (A := 11) (N := 4) (t := 23) rfl rfl hc rfl (ew_ok_p hn rfl) (by decide) ?_
    refine xr_icmp_ge hc rfl (by omega) (by decide) (fun c2 => ?_) (fun c2 => ?_)
    · skip
      refine xr_go hc rfl rfl ?_
      refine xr_ret hc rfl rfl ?_
      exact ⟨rfl, rfl, rfl⟩
    · exfalso; omega

theorem c_trayN {n : Nat} {M : ew_Mem} (hn : 59 ≤ n) (hp : ew_Pm M) {t : Int} (h : 0 ≤ t ∧ t < 4) : ew_FM 135 [(2, 4), (0, t)] n M (2, ((12 + 2 * t.toNat : Nat) : Int)) n M := by
  have h2 := c_trayN1 hn hp (u := t.toNat) (by omega)
  rw [s_toI h.1] at h2
  exact h2
set_option maxRecDepth 20000 in
theorem c_tMiss {n : Nat} {M : ew_Mem} (hn : 59 ≤ n) (hp : ew_Pm M) {u : Nat} (hu : u < 4) (hk : -1 ≤ M (12 + 2 * u) 1 ∧ M (12 + 2 * u) 1 ≤ 4)  : ew_FM 28 [(2, ((12 + 2 * u : Nat) : Int))] n M (0, if M (12 + 2 * u) 1 = -1 then 1 else 0) n M := by
  obtain ⟨hT1, hT2, hT3, hT4, hT5⟩ := s_tr hn hp hu
  have hc := ew_c_28
  show ew_X 28 0 [(2, ((12 + 2 * u : Nat) : Int))] [] n M _
  refine xr_go hc rfl rfl ?_
  refine xr_gf0 (A := 12 + 2 * u) rfl hc rfl hT1 rfl ?_
  refine xr_go hc rfl rfl ?_
  refine xr_icmp_ne hc rfl (by omega) (by decide) (fun c1 => ?_) (fun c1 => ?_)
  · skip
    refine xr_go hc rfl rfl ?_
    refine xr_ret hc rfl rfl ?_
    exact ⟨by congr 2; split <;> omega, rfl, rfl⟩
  · skip
    refine xr_go hc rfl rfl ?_
    refine xr_go hc rfl rfl ?_
    refine xr_ret hc rfl rfl ?_
    exact ⟨by congr 2; split <;> omega, rfl, rfl⟩

set_option maxRecDepth 20000 in
theorem c_tHas {n : Nat} {M : ew_Mem} (hn : 59 ≤ n) (hp : ew_Pm M) {u : Nat} (hu : u < 4) (hs : 0 ≤ M (12 + 2 * u) 2 ∧ M (12 + 2 * u) 2 ≤ 12) {i : Int} (hi : ew_in i) : ew_FM 29 [(2, ((12 + 2 * u : Nat) : Int)), (0, i)] n M (0, if 0 ≤ i ∧ i < M (12 + 2 * u) 2 then 1 else 0) n M := by
  obtain ⟨hT1, hT2, hT3, hT4, hT5⟩ := s_tr hn hp hu
  have hc := ew_c_29
  show ew_X 29 0 [(2, ((12 + 2 * u : Nat) : Int)), (0, i)] [] n M _
  refine xr_go hc rfl rfl ?_
  refine xr_if_lt hc rfl (by omega) (fun c1 => ?_) (fun c1 => ?_)
  · skip
    refine xr_go hc rfl rfl ?_
    refine xr_ret hc rfl rfl ?_
    exact ⟨by congr 2; split <;> omega, rfl, rfl⟩
  · skip
    refine xr_go hc rfl rfl ?_
    refine xr_go hc rfl rfl ?_
    refine xr_gf0 (A := 12 + 2 * u) rfl hc rfl hT1 rfl ?_
    refine xr_icmp_ge hc rfl (by omega) (by omega) (fun c2 => ?_) (fun c2 => ?_)
    · skip
      refine xr_go hc rfl rfl ?_
      refine xr_ret hc rfl rfl ?_
      exact ⟨by congr 2; split <;> omega, rfl, rfl⟩
    · skip
      refine xr_go hc rfl rfl ?_
      refine xr_go hc rfl rfl ?_
      refine xr_icmp_ge hc rfl (by omega) (by decide) (fun c3 => ?_) (fun c3 => ?_)
      · skip
        refine xr_go hc rfl rfl ?_
        refine xr_ret hc rfl rfl ?_
        exact ⟨by congr 2; split <;> omega, rfl, rfl⟩
      · skip
        refine xr_go hc rfl rfl ?_
        refine xr_go hc rfl rfl ?_
        refine xr_ret hc rfl rfl ?_
        exact ⟨by congr 2; split <;> omega, rfl, rfl⟩

set_option maxRecDepth 20000 in
theorem c_tSet {n : Nat} {M : ew_Mem} (hn : 59 ≤ n) (hp : ew_Pm M) {u : Nat} (hu : u < 4) (hs : 0 ≤ M (12 + 2 * u) 2 ∧ M (12 + 2 * u) 2 ≤ 12) {i v : Int} (hi : 0 ≤ i ∧ i < M (12 + 2 * u) 2) (hv : v = 0 ∨ ew_own 6 v n = true) : ew_VM 30 [(2, ((12 + 2 * u : Nat) : Int)), (0, i), (2, v)] n M n (ew_wr M (13 + 2 * u) i.toNat v) := by
  obtain ⟨hT1, hT2, hT3, hT4, hT5⟩ := s_tr hn hp hu
  have hc := ew_c_30
  show ew_X 30 0 [(2, ((12 + 2 * u : Nat) : Int)), (0, i), (2, v)] [] n M _
  refine xr_go hc rfl rfl ?_
  refine xr_go hc rfl rfl ?_
  refine xr_v_2 hc rfl rfl hT1 (c_tHas hn hp hu hs (by omega)) ?_
  refine xr_if_eq hc rfl (by split <;> omega) (fun c1 => ?_) (fun c1 => ?_)
  · skip
    refine xr_ret hc rfl rfl ?_
    first
      | exact ⟨rfl, rfl, rfl⟩
      | (exfalso; omega)
  · skip
    refine xr_go hc rfl rfl ?_
    refine xr_gf2 (A := 12 + 2 * u) (w := ((13 + 2 * u : Nat) : Int)) rfl hc rfl hT1 (by first | exact hT2 | (rw [s_tbq]; exact hT2) | (rw [s_fn_ne (by omega), s_tbq]; exact hT2) | ((repeat first | rw [s_ne_rd (by omega)] | rw [s_ne_ri (by omega)] | rw [s_fn_ne (by omega)]); exact hT2)) ?_
    refine xr_go hc rfl rfl ?_
    refine xr_go hc rfl rfl ?_
    refine xr_aast (A := 13 + 2 * u) (N := 12) rfl hT4 hc rfl hT3 hv (by omega) (by omega) ?_
    refine xr_ret hc rfl rfl ?_
    first
      | exact ⟨rfl, rfl, rfl⟩
      | (exfalso; omega)

set_option maxRecDepth 20000 in
theorem c_tAt {n : Nat} {M : ew_Mem} (hn : 59 ≤ n) (hp : ew_Pm M) {u : Nat} (hu : u < 4) (hs : 0 ≤ M (12 + 2 * u) 2 ∧ M (12 + 2 * u) 2 ≤ 12) {i : Int} (hi : 0 ≤ i ∧ i < M (12 + 2 * u) 2) : ew_FM 31 [(2, ((12 + 2 * u : Nat) : Int)), (0, i)] n M (2, M (13 + 2 * u) i.toNat) n M := by
  obtain ⟨hT1, hT2, hT3, hT4, hT5⟩ := s_tr hn hp hu
  have hc := ew_c_31
  show ew_X 31 0 [(2, ((12 + 2 * u : Nat) : Int)), (0, i)] [] n M _
  refine xr_go hc rfl rfl ?_
  refine xr_go hc rfl rfl ?_
  refine xr_v_2 hc rfl rfl hT1 (c_tHas hn hp hu hs (by omega)) ?_
  refine xr_if_eq hc rfl (by split <;> omega) (fun c1 => ?_) (fun c1 => ?_)
  · skip
    refine xr_go hc rfl rfl ?_
    refine xr_ret hc rfl rfl ?_
    first
      | exact ⟨rfl, rfl, rfl⟩
      | (exfalso; omega)
  · skip
    refine xr_go hc rfl rfl ?_
    refine xr_gf2 (A := 12 + 2 * u) (w := ((13 + 2 * u : Nat) : Int)) rfl hc rfl hT1 (by first | exact hT2 | (rw [s_tbq]; exact hT2) | (rw [s_fn_ne (by omega), s_tbq]; exact hT2) | ((repeat first | rw [s_ne_rd (by omega)] | rw [s_ne_ri (by omega)] | rw [s_fn_ne (by omega)]); exact hT2)) ?_
    refine xr_go hc rfl rfl ?_
    refine xr_aald (A := 13 + 2 * u) (N := 12) rfl hT4 hc rfl hT3 (by decide) (by omega) (by omega) rfl ?_
    refine xr_go hc rfl rfl ?_
    refine xr_ret hc rfl rfl ?_
    first
      | exact ⟨rfl, rfl, rfl⟩
      | (exfalso; omega)

set_option maxRecDepth 20000 in
theorem c_empty_1 {n : Nat} {M : ew_Mem} (hn : 59 ≤ n) (hp : ew_Pm M) {u : Nat} (hu : u < 4) {k m : Int} : ∀ (j i : Nat), i + j = 12 →
    ew_X 27 12 [(2, ((12 + 2 * u : Nat) : Int)), (0, k), (0, m), (0, (i : Int))] [] n (s_fn (ew_wr (ew_wr M (12 + 2 * u) 1 k) (12 + 2 * u) 2 m) (13 + 2 * u) 0 i (fun _ => 0)) (fun r a b => r = none ∧ a = n ∧ b = (s_fn (ew_wr (ew_wr M (12 + 2 * u) 1 k) (12 + 2 * u) 2 m) (13 + 2 * u) 0 12 (fun _ => 0))) := by
  obtain ⟨hT1, hT2, hT3, hT4, hT5⟩ := s_tr hn hp hu
  have hc := ew_c_27
  intro j
  induction j with
  | zero =>
    intro i hj
    obtain rfl : i = 12 := by omega
    refine xr_go hc rfl rfl ?_
    refine xr_go hc rfl rfl ?_
    refine xr_icmp_ge hc rfl (by omega) (by decide) (fun c1 => ?_) (fun c1 => ?_)
    · skip
      refine xr_ret hc rfl rfl ?_
      exact ⟨rfl, rfl, rfl⟩
    · exfalso; omega
  | succ j ih =>
    intro i hj
    refine xr_go hc rfl rfl ?_
    refine xr_go hc rfl rfl ?_
    refine xr_icmp_ge hc rfl (by omega) (by decide) (fun c1 => ?_) (fun c1 => ?_)
    · exfalso; omega
    · skip
      refine xr_go hc rfl rfl ?_
      refine xr_gf2 (A := 12 + 2 * u) (w := ((13 + 2 * u : Nat) : Int)) rfl hc rfl hT1 (by first | exact hT2 | (rw [s_tbq]; exact hT2) | (rw [s_fn_ne (by omega), s_tbq]; exact hT2) | ((repeat first | rw [s_ne_rd (by omega)] | rw [s_ne_ri (by omega)] | rw [s_fn_ne (by omega)]); exact hT2)) ?_
      refine xr_go hc rfl rfl ?_
      refine xr_go hc rfl rfl ?_
      refine xr_aast (A := 13 + 2 * u) (N := 12) rfl hT4 hc rfl hT3 (Or.inl rfl) (by omega) (by omega) ?_
      refine xr_inc_3 hc rfl ?_
      refine xr_go hc rfl rfl ?_
      rw [s_n1, s_fn_w2 (by omega) rfl]
      exact ih (i + 1) (by omega)

set_option maxRecDepth 20000 in
theorem c_empty {n : Nat} {M : ew_Mem} (hn : 59 ≤ n) (hp : ew_Pm M) {u : Nat} (hu : u < 4) {k m : Int} : ew_VM 27 [(2, ((12 + 2 * u : Nat) : Int)), (0, k), (0, m)] n M n (s_ty M u k m) := by
  obtain ⟨hT1, hT2, hT3, hT4, hT5⟩ := s_tr hn hp hu
  have hc := ew_c_27
  show ew_X 27 0 [(2, ((12 + 2 * u : Nat) : Int)), (0, k), (0, m), (5, 0)] [] n M _
  refine xr_go hc rfl rfl ?_
  refine xr_go hc rfl rfl ?_
  refine xr_pf (A := 12 + 2 * u) rfl hc rfl hT1 ?_
  refine xr_go hc rfl rfl ?_
  refine xr_go hc rfl rfl ?_
  refine xr_pf (A := 12 + 2 * u) rfl hc rfl hT1 ?_
  refine xr_go hc rfl rfl ?_
  refine xr_s1_3 hc rfl rfl rfl ?_
  have h := c_empty_1 hn hp hu (k := k) (m := m) 12 0 rfl
  rw [s_fn_0] at h
  exact h

theorem s_tbr {M : ew_Mem} {u v i : Nat} {x y : Int} {f : Nat → Int} (h : i < 12) : s_fn (ew_wr (ew_wr M (12 + 2 * u) 1 x) (12 + 2 * u) 2 y) (13 + 2 * u) 0 i f (13 + 2 * v) ((i : Nat) : Int).toNat = M (13 + 2 * v) i := by
  rw [Int.toNat_natCast]
  by_cases e : v = u
  · subst e
    rw [s_fn_out (by omega), s_ne_rd (by omega), s_ne_rd (by omega)]
  · rw [s_fn_ne (by omega), s_ne_rd (by omega), s_ne_rd (by omega)]
set_option maxRecDepth 20000 in
theorem c_tb_1 {n : Nat} {M : ew_Mem} (hn : 59 ≤ n) (hp : ew_Pm M) {u : Nat} (hu : u < 4) {v : Nat} (hv : v < 4) (hO : ∀ i : Nat, i < 12 → M (13 + 2 * v) i = 0 ∨ ew_own 6 (M (13 + 2 * v) i) n = true) : ∀ (j i : Nat), i + j = 12 →
    ew_X 32 18 [(2, ((12 + 2 * u : Nat) : Int)), (2, ((12 + 2 * v : Nat) : Int)), (0, (i : Int))] [] n (s_fn (ew_wr (ew_wr M (12 + 2 * u) 1 (M (12 + 2 * v) 1)) (12 + 2 * u) 2 (M (12 + 2 * v) 2)) (13 + 2 * u) 0 i (fun i => M (13 + 2 * v) i)) (fun r a b => r = none ∧ a = n ∧ b = (s_fn (ew_wr (ew_wr M (12 + 2 * u) 1 (M (12 + 2 * v) 1)) (12 + 2 * u) 2 (M (12 + 2 * v) 2)) (13 + 2 * u) 0 12 (fun i => M (13 + 2 * v) i))) := by
  obtain ⟨hT1, hT2, hT3, hT4, hT5⟩ := s_tr hn hp hu
  obtain ⟨hU1, hU2, hU3, hU4, hU5⟩ := s_tr hn hp hv
  have hc := ew_c_32
  intro j
  induction j with
  | zero =>
    intro i hj
    obtain rfl : i = 12 := by omega
    refine xr_go hc rfl rfl ?_
    refine xr_go hc rfl rfl ?_
    refine xr_icmp_ge hc rfl (by omega) (by decide) (fun c1 => ?_) (fun c1 => ?_)
    · skip
      refine xr_ret hc rfl rfl ?_
      exact ⟨rfl, rfl, rfl⟩
    · exfalso; omega
  | succ j ih =>
    intro i hj
    refine xr_go hc rfl rfl ?_
    refine xr_go hc rfl rfl ?_
    refine xr_icmp_ge hc rfl (by omega) (by decide) (fun c1 => ?_) (fun c1 => ?_)
    · exfalso; omega
    · skip
      refine xr_go hc rfl rfl ?_
      refine xr_gf2 (A := 12 + 2 * u) (w := ((13 + 2 * u : Nat) : Int)) rfl hc rfl hT1 (by first | exact hT2 | (rw [s_tbq]; exact hT2) | (rw [s_fn_ne (by omega), s_tbq]; exact hT2) | ((repeat first | rw [s_ne_rd (by omega)] | rw [s_ne_ri (by omega)] | rw [s_fn_ne (by omega)]); exact hT2)) ?_
      refine xr_go hc rfl rfl ?_
      refine xr_go hc rfl rfl ?_
      refine xr_gf2 (A := 12 + 2 * v) (w := ((13 + 2 * v : Nat) : Int)) rfl hc rfl hU1 (by first | exact hU2 | (rw [s_tbq]; exact hU2) | (rw [s_fn_ne (by omega), s_tbq]; exact hU2) | ((repeat first | rw [s_ne_rd (by omega)] | rw [s_ne_ri (by omega)] | rw [s_fn_ne (by omega)]); exact hU2)) ?_
      refine xr_go hc rfl rfl ?_
      refine xr_aald (A := 13 + 2 * v) (N := 12) rfl hU4 hc rfl hU3 (by decide) (by omega) (by omega) (s_tbr (by omega)) ?_
      refine xr_aast (A := 13 + 2 * u) (N := 12) rfl hT4 hc rfl hT3 (hO i (by omega)) (by omega) (by omega) ?_
      refine xr_inc_2 hc rfl ?_
      refine xr_go hc rfl rfl ?_
      rw [s_n1, s_fn_w2 (by omega) rfl]
      exact ih (i + 1) (by omega)

set_option maxRecDepth 20000 in
theorem c_tBecome {n : Nat} {M : ew_Mem} (hn : 59 ≤ n) (hp : ew_Pm M) {u : Nat} (hu : u < 4) {v : Nat} (hv : v < 4) (hO : ∀ i : Nat, i < 12 → M (13 + 2 * v) i = 0 ∨ ew_own 6 (M (13 + 2 * v) i) n = true) : ew_VM 32 [(2, ((12 + 2 * u : Nat) : Int)), (2, ((12 + 2 * v : Nat) : Int))] n M n (s_tb M u v) := by
  obtain ⟨hT1, hT2, hT3, hT4, hT5⟩ := s_tr hn hp hu
  obtain ⟨hU1, hU2, hU3, hU4, hU5⟩ := s_tr hn hp hv
  have hc := ew_c_32
  show ew_X 32 0 [(2, ((12 + 2 * u : Nat) : Int)), (2, ((12 + 2 * v : Nat) : Int)), (5, 0)] [] n M _
  refine xr_go hc rfl rfl ?_
  refine xr_go hc rfl rfl ?_
  refine xr_gf0 (A := 12 + 2 * v) rfl hc rfl hU1 rfl ?_
  refine xr_pf (A := 12 + 2 * u) rfl hc rfl hT1 ?_
  refine xr_go hc rfl rfl ?_
  refine xr_go hc rfl rfl ?_
  refine xr_gf0 (A := 12 + 2 * v) rfl hc rfl hU1 (show _ = M (12 + 2 * v) 2 by by_cases e : v = u <;> first | (rw [s_ne_rd (by omega)]; done) | (subst e; rw [s_ne_ri (by omega)]; done)) ?_
  refine xr_pf (A := 12 + 2 * u) rfl hc rfl hT1 ?_
  refine xr_go hc rfl rfl ?_
  refine xr_s1_2 hc rfl rfl rfl ?_
  have h := c_tb_1 hn hp hu hv hO 12 0 rfl
  rw [s_fn_0] at h
  exact h

abbrev s_okY (t k m : Int) : Prop := (0 ≤ t ∧ t < 4) ∧ (k = -1 ∨ ((0 ≤ k ∧ k ≤ 4) ∧ 0 ≤ m ∧ m ≤ 12))
def s_n_tray (t k m : Int) : Int := if 0 ≤ t ∧ t < 4 then (if (0 ≤ k ∧ k ≤ 4) ∧ m ≤ 12 then -14 else -2) else -1
set_option maxRecDepth 20000 in
theorem cx_tray {n : Nat} {M : ew_Mem} (hn : 59 ≤ n) (hp : ew_Pm M) {t k m : Int} (ht : ew_in t) (hk : ew_in k) (hm : ew_in m) (h : s_okY t k m) : ew_FM 134 [(2, 4), (0, t), (0, k), (0, m)] n M (0, 1) n (s_ty M t.toNat k (if k = -1 then 0 else m)) := by
  have hc := ew_c_134
  show ew_X 134 0 [(2, 4), (0, t), (0, k), (0, m), (5, 0)] [] n M _
  refine xr_go hc rfl rfl ?_
  refine xr_go hc rfl rfl ?_
  by_cases hq : 0 ≤ t ∧ t < 4
  · skip
    refine xr_v_2 hc rfl rfl (ew_own_p hn rfl) (c_trayN hn hp hq) ?_
    first
      | (have hTT := s_tr hn hp (u := t.toNat) (by omega)
         obtain ⟨hT1, hT2, hT3, hT4, hT5⟩ := hTT)
      | skip
    refine xr_s1_4 hc rfl rfl rfl ?_
    refine xr_go hc rfl rfl ?_
    refine xr_nonnull hc rfl (fun c1 => ?_) (fun c1 => by exfalso; omega)
    refine xr_go hc rfl rfl ?_
    refine xr_go hc rfl rfl ?_
    refine xr_icmp_ne hc rfl (by omega) (by decide) (fun c2 => ?_) (fun c2 => ?_)
    · skip
      refine xr_go hc rfl rfl ?_
      refine xr_s_1 hc rfl rfl (c_isKind (by omega)) ?_
      refine xr_if_eq hc rfl (by split <;> omega) (fun c3 => ?_) (fun c3 => ?_)
      · skip
        refine xr_go hc rfl rfl ?_
        refine xr_ret hc rfl rfl ?_
        first
          | (exfalso; omega)
          | (refine ⟨rfl, rfl, ?_⟩
             first
               | (rw [if_neg (by omega)]; done)
               | (obtain rfl : k = -1 := by omega
                  rfl))
      · skip
        refine xr_go hc rfl rfl ?_
        refine xr_go hc rfl rfl ?_
        refine xr_icmp_le hc rfl (by omega) (by decide) (fun c4 => ?_) (fun c4 => ?_)
        · skip
          refine xr_go hc rfl rfl ?_
          refine xr_if_ge hc rfl (by omega) (fun c5 => ?_) (fun c5 => ?_)
          · skip
            refine xr_go hc rfl rfl ?_
            refine xr_go hc rfl rfl ?_
            refine xr_go hc rfl rfl ?_
            refine xr_vv_3 (v := (0, 0)) hc rfl rfl hT1 (c_empty hn hp (u := t.toNat) (by omega)) ?_
            refine xr_go hc rfl rfl ?_
            refine xr_ret hc rfl rfl ?_
            first
              | (exfalso; omega)
              | (refine ⟨rfl, rfl, ?_⟩
                 first
                   | (rw [if_neg (by omega)]; done)
                   | (obtain rfl : k = -1 := by omega
                      rfl))
          · skip
            refine xr_go hc rfl rfl ?_
            refine xr_ret hc rfl rfl ?_
            first
              | (exfalso; omega)
              | (refine ⟨rfl, rfl, ?_⟩
                 first
                   | (rw [if_neg (by omega)]; done)
                   | (obtain rfl : k = -1 := by omega
                      rfl))
        · skip
          refine xr_go hc rfl rfl ?_
          refine xr_ret hc rfl rfl ?_
          first
            | (exfalso; omega)
            | (refine ⟨rfl, rfl, ?_⟩
               first
                 | (rw [if_neg (by omega)]; done)
                 | (obtain rfl : k = -1 := by omega
                    rfl))
    · skip
      refine xr_go hc rfl rfl ?_
      refine xr_go hc rfl rfl ?_
      refine xr_go hc rfl rfl ?_
      refine xr_vv_3 (v := (0, 0)) hc rfl rfl hT1 (c_empty hn hp (u := t.toNat) (by omega)) ?_
      refine xr_go hc rfl rfl ?_
      refine xr_ret hc rfl rfl ?_
      first
        | (exfalso; omega)
        | (refine ⟨rfl, rfl, ?_⟩
           first
             | (rw [if_neg (by omega)]; done)
             | (obtain rfl : k = -1 := by omega
                rfl))
  · skip
    refine xr_v_2 hc rfl rfl (ew_own_p hn rfl) (c_trayN0 hn hp ht hq) ?_
    first
      | (have hTT := s_tr hn hp (u := t.toNat) (by omega)
         obtain ⟨hT1, hT2, hT3, hT4, hT5⟩ := hTT)
      | skip
    refine xr_s1_4 hc rfl rfl rfl ?_
    refine xr_go hc rfl rfl ?_
    refine xr_nonnull hc rfl (fun c6 => by exfalso; omega) (fun c6 => ?_)
    refine xr_go hc rfl rfl ?_
    refine xr_ret hc rfl rfl ?_
    first
      | (exfalso; omega)
      | (refine ⟨rfl, rfl, ?_⟩
         first
           | (rw [if_neg (by omega)]; done)
           | (obtain rfl : k = -1 := by omega
              rfl))

set_option maxRecDepth 20000 in
theorem cx_trayN {n : Nat} {M : ew_Mem} (hn : 59 ≤ n) (hp : ew_Pm M) {t k m : Int} (ht : ew_in t) (hk : ew_in k) (hm : ew_in m) (h : ¬ s_okY t k m) : ew_FM 134 [(2, 4), (0, t), (0, k), (0, m)] n M (0, s_n_tray t k m) n M := by
  have hc := ew_c_134
  show ew_X 134 0 [(2, 4), (0, t), (0, k), (0, m), (5, 0)] [] n M _
  refine xr_go hc rfl rfl ?_
  refine xr_go hc rfl rfl ?_
  by_cases hq : 0 ≤ t ∧ t < 4
  · skip
    refine xr_v_2 hc rfl rfl (ew_own_p hn rfl) (c_trayN hn hp hq) ?_
    first
      | (have hTT := s_tr hn hp (u := t.toNat) (by omega)
         obtain ⟨hT1, hT2, hT3, hT4, hT5⟩ := hTT)
      | skip
    refine xr_s1_4 hc rfl rfl rfl ?_
    refine xr_go hc rfl rfl ?_
    refine xr_nonnull hc rfl (fun c1 => ?_) (fun c1 => by exfalso; omega)
    refine xr_go hc rfl rfl ?_
    refine xr_go hc rfl rfl ?_
    refine xr_icmp_ne hc rfl (by omega) (by decide) (fun c2 => ?_) (fun c2 => ?_)
    · skip
      refine xr_go hc rfl rfl ?_
      refine xr_s_1 hc rfl rfl (c_isKind (by omega)) ?_
      refine xr_if_eq hc rfl (by split <;> omega) (fun c3 => ?_) (fun c3 => ?_)
      · skip
        refine xr_go hc rfl rfl ?_
        refine xr_ret hc rfl rfl ?_
        first
          | (exfalso; omega)
          | (refine ⟨?_, rfl, rfl⟩
             unfold s_n_tray
             repeat' split
             all_goals first
               | rfl
               | (exfalso; omega)
               | (congr 2; omega))
      · skip
        refine xr_go hc rfl rfl ?_
        refine xr_go hc rfl rfl ?_
        refine xr_icmp_le hc rfl (by omega) (by decide) (fun c4 => ?_) (fun c4 => ?_)
        · skip
          refine xr_go hc rfl rfl ?_
          refine xr_if_ge hc rfl (by omega) (fun c5 => ?_) (fun c5 => ?_)
          · skip
            exfalso; omega
          · skip
            refine xr_go hc rfl rfl ?_
            refine xr_ret hc rfl rfl ?_
            first
              | (exfalso; omega)
              | (refine ⟨?_, rfl, rfl⟩
                 unfold s_n_tray
                 repeat' split
                 all_goals first
                   | rfl
                   | (exfalso; omega)
                   | (congr 2; omega))
        · skip
          refine xr_go hc rfl rfl ?_
          refine xr_ret hc rfl rfl ?_
          first
            | (exfalso; omega)
            | (refine ⟨?_, rfl, rfl⟩
               unfold s_n_tray
               repeat' split
               all_goals first
                 | rfl
                 | (exfalso; omega)
                 | (congr 2; omega))
    · skip
      exfalso; omega
  · skip
    refine xr_v_2 hc rfl rfl (ew_own_p hn rfl) (c_trayN0 hn hp ht hq) ?_
    first
      | (have hTT := s_tr hn hp (u := t.toNat) (by omega)
         obtain ⟨hT1, hT2, hT3, hT4, hT5⟩ := hTT)
      | skip
    refine xr_s1_4 hc rfl rfl rfl ?_
    refine xr_go hc rfl rfl ?_
    refine xr_nonnull hc rfl (fun c6 => by exfalso; omega) (fun c6 => ?_)
    refine xr_go hc rfl rfl ?_
    refine xr_ret hc rfl rfl ?_
    first
      | (exfalso; omega)
      | (refine ⟨?_, rfl, rfl⟩
         unfold s_n_tray
         repeat' split
         all_goals first
           | rfl
           | (exfalso; omega)
           | (congr 2; omega))

abbrev s_okL (V : ew_Mem) (kd sz t i w : Int) : Prop := (0 ≤ t ∧ t < 4) ∧ (w = -1 ∨ s_isW V w) ∧ ¬ kd = -1 ∧ (0 ≤ i ∧ i < sz) ∧ (s_isW V w → s_un (V w.toNat 0) kd = 1)
def s_n_lay (V : ew_Mem) (kd sz t i w : Int) : Int := if (0 ≤ t ∧ t < 4) ∧ (w = -1 ∨ s_isW V w) then (if kd = -1 then -11 else if 0 ≤ i ∧ i < sz then -13 else -12) else -1
theorem s_un_01 (k x : Int) : s_un k x = 0 ∨ s_un k x = 1 := by
  unfold s_un
  split
  · exact Or.inr rfl
  · exact Or.inl rfl
set_option maxRecDepth 20000 in
theorem cx_lay {V : ew_Mem} {n : Nat} {M : ew_Mem} (hC : s_C V n M) {t i w : Int} (ht : ew_in t) (hi : ew_in i) (hw : ew_in w) (hk : -1 ≤ M (12 + 2 * t.toNat) 1 ∧ M (12 + 2 * t.toNat) 1 ≤ 4) (hs : 0 ≤ M (12 + 2 * t.toNat) 2 ∧ M (12 + 2 * t.toNat) 2 ≤ 12) (h : s_okL V (M (12 + 2 * t.toNat) 1) (M (12 + 2 * t.toNat) 2) t i w) : ew_FM 136 [(2, 4), (0, t), (0, i), (0, w)] n M (0, 1) n (ew_wr M (13 + 2 * t.toNat) i.toNat (if w = -1 then 0 else M 6 w.toNat)) := by
  obtain ⟨hn, hp, hV, v0, v1, v2, v3, v4⟩ := id hC
  obtain ⟨hc6, hVW, hnd, hap, hr0, hr1, hr2, hr3, hr4, hr5⟩ := id hV
  have hc := ew_c_136
  show ew_X 136 0 [(2, 4), (0, t), (0, i), (0, w), (5, 0), (5, 0)] [] n M _
  refine xr_go hc rfl rfl ?_
  refine xr_go hc rfl rfl ?_
  by_cases hq : 0 ≤ t ∧ t < 4
  · skip
    refine xr_v_2 hc rfl rfl (ew_own_p hn rfl) (c_trayN hn hp hq) ?_
    first
      | (have hTT := s_tr hn hp (u := t.toNat) (by omega)
         obtain ⟨hT1, hT2, hT3, hT4, hT5⟩ := hTT)
      | skip
    refine xr_s1_4 hc rfl rfl rfl ?_
    refine xr_go hc rfl rfl ?_
    refine xr_null hc rfl (fun c1 => by exfalso; omega) (fun c1 => ?_)
    refine xr_go hc rfl rfl ?_
    refine xr_go hc rfl rfl ?_
    refine xr_icmp_eq hc rfl (by omega) (by decide) (fun c2 => ?_) (fun c2 => ?_)
    · skip
      refine xr_go hc rfl rfl ?_
      refine xr_v_1 hc rfl rfl hT1 (c_tMiss hn hp (u := t.toNat) (by omega) hk) ?_
      refine xr_if_eq hc rfl (by split <;> omega) (fun c3 => ?_) (fun c3 => ?_)
      · skip
        refine xr_go hc rfl rfl ?_
        refine xr_go hc rfl rfl ?_
        refine xr_v_2 hc rfl rfl hT1 (c_tHas hn hp (u := t.toNat) (by omega) hs hi) ?_
        refine xr_if_ne hc rfl (by split <;> omega) (fun c4 => ?_) (fun c4 => ?_)
        · skip
          refine xr_go hc rfl rfl ?_
          refine xr_gf2 (A := 4) (w := 5) rfl hc rfl (ew_own_p hn rfl) (ew_pm hp rfl) ?_
          refine xr_go hc rfl rfl ?_
          by_cases hwn : 0 ≤ w ∧ w < V 6 0
          · skip
            refine xr_v_2 hc rfl rfl (ew_own_p hn rfl) (c_numbered hC hwn) ?_
            first
              | (have hwf := v4 w.toNat (by omega)
                 have hw59 := hwf.1
                 simp only [ew_own, Bool.and_eq_true, decide_eq_true_eq] at hw59
                 have hWO := hVW w.toNat (by omega)
                 obtain ⟨k0, k1, k2, k3, k4⟩ := id hWO)
              | skip
            refine xr_s1_5 hc rfl rfl rfl ?_
            refine xr_go hc rfl rfl ?_
            refine xr_null hc rfl (fun c5 => by exfalso; omega) (fun c5 => ?_)
            refine xr_go hc rfl rfl ?_
            refine xr_gf0 rfl hc rfl hwf.1 hwf.2.1 ?_
            refine xr_go hc rfl rfl ?_
            refine xr_gf0 (A := 12 + 2 * t.toNat) rfl hc rfl hT1 rfl ?_
            refine xr_s_2 hc rfl rfl (c_isUnder (by omega) (by omega)) ?_
            refine xr_if_ne hc rfl (by have := s_un_01 (V w.toNat 0) (M (12 + 2 * t.toNat) 1); omega) (fun c6 => ?_) (fun c6 => ?_)
            · skip
              refine xr_go hc rfl rfl ?_
              refine xr_go hc rfl rfl ?_
              refine xr_go hc rfl rfl ?_
              refine xr_vv_3 (v := (0, 0)) hc rfl rfl hT1 (c_tSet hn hp (u := t.toNat) (by omega) hs (by omega) (Or.inr hwf.1)) ?_
              refine xr_go hc rfl rfl ?_
              refine xr_ret hc rfl rfl ?_
              first
                | (exfalso; omega)
                | (refine ⟨rfl, rfl, ?_⟩
                   first
                     | (rw [if_neg (by omega)]; done)
                     | (rw [if_pos (by omega)]; done))
            · skip
              refine xr_go hc rfl rfl ?_
              refine xr_ret hc rfl rfl ?_
              first
                | (exfalso; omega)
                | (refine ⟨rfl, rfl, ?_⟩
                   first
                     | (rw [if_neg (by omega)]; done)
                     | (rw [if_pos (by omega)]; done))
          · skip
            refine xr_v_2 hc rfl rfl (ew_own_p hn rfl) (c_numberedN hC hw hwn) ?_
            first
              | (have hwf := v4 w.toNat (by omega)
                 have hw59 := hwf.1
                 simp only [ew_own, Bool.and_eq_true, decide_eq_true_eq] at hw59
                 have hWO := hVW w.toNat (by omega)
                 obtain ⟨k0, k1, k2, k3, k4⟩ := id hWO)
              | skip
            refine xr_s1_5 hc rfl rfl rfl ?_
            refine xr_go hc rfl rfl ?_
            refine xr_null hc rfl (fun c7 => ?_) (fun c7 => by exfalso; omega)
            refine xr_go hc rfl rfl ?_
            refine xr_go hc rfl rfl ?_
            refine xr_go hc rfl rfl ?_
            refine xr_vv_3 (v := (0, 0)) hc rfl rfl hT1 (c_tSet hn hp (u := t.toNat) (by omega) hs (by omega) (Or.inl rfl)) ?_
            refine xr_go hc rfl rfl ?_
            refine xr_ret hc rfl rfl ?_
            first
              | (exfalso; omega)
              | (refine ⟨rfl, rfl, ?_⟩
                 first
                   | (rw [if_neg (by omega)]; done)
                   | (rw [if_pos (by omega)]; done))
        · skip
          refine xr_go hc rfl rfl ?_
          refine xr_ret hc rfl rfl ?_
          first
            | (exfalso; omega)
            | (refine ⟨rfl, rfl, ?_⟩
               first
                 | (rw [if_neg (by omega)]; done)
                 | (rw [if_pos (by omega)]; done))
      · skip
        refine xr_go hc rfl rfl ?_
        refine xr_ret hc rfl rfl ?_
        first
          | (exfalso; omega)
          | (refine ⟨rfl, rfl, ?_⟩
             first
               | (rw [if_neg (by omega)]; done)
               | (rw [if_pos (by omega)]; done))
    · skip
      refine xr_go hc rfl rfl ?_
      refine xr_gf2 (A := 4) (w := 5) rfl hc rfl (ew_own_p hn rfl) (ew_pm hp rfl) ?_
      refine xr_go hc rfl rfl ?_
      refine xr_v_2 hc rfl rfl (ew_own_p hn rfl) (c_has hC hw) ?_
      refine xr_if_ne hc rfl (by split <;> omega) (fun c8 => ?_) (fun c8 => ?_)
      · skip
        refine xr_go hc rfl rfl ?_
        refine xr_v_1 hc rfl rfl hT1 (c_tMiss hn hp (u := t.toNat) (by omega) hk) ?_
        refine xr_if_eq hc rfl (by split <;> omega) (fun c9 => ?_) (fun c9 => ?_)
        · skip
          refine xr_go hc rfl rfl ?_
          refine xr_go hc rfl rfl ?_
          refine xr_v_2 hc rfl rfl hT1 (c_tHas hn hp (u := t.toNat) (by omega) hs hi) ?_
          refine xr_if_ne hc rfl (by split <;> omega) (fun c10 => ?_) (fun c10 => ?_)
          · skip
            refine xr_go hc rfl rfl ?_
            refine xr_gf2 (A := 4) (w := 5) rfl hc rfl (ew_own_p hn rfl) (ew_pm hp rfl) ?_
            refine xr_go hc rfl rfl ?_
            by_cases hwn : 0 ≤ w ∧ w < V 6 0
            · skip
              refine xr_v_2 hc rfl rfl (ew_own_p hn rfl) (c_numbered hC hwn) ?_
              first
                | (have hwf := v4 w.toNat (by omega)
                   have hw59 := hwf.1
                   simp only [ew_own, Bool.and_eq_true, decide_eq_true_eq] at hw59
                   have hWO := hVW w.toNat (by omega)
                   obtain ⟨k0, k1, k2, k3, k4⟩ := id hWO)
                | skip
              refine xr_s1_5 hc rfl rfl rfl ?_
              refine xr_go hc rfl rfl ?_
              refine xr_null hc rfl (fun c11 => by exfalso; omega) (fun c11 => ?_)
              refine xr_go hc rfl rfl ?_
              refine xr_gf0 rfl hc rfl hwf.1 hwf.2.1 ?_
              refine xr_go hc rfl rfl ?_
              refine xr_gf0 (A := 12 + 2 * t.toNat) rfl hc rfl hT1 rfl ?_
              refine xr_s_2 hc rfl rfl (c_isUnder (by omega) (by omega)) ?_
              refine xr_if_ne hc rfl (by have := s_un_01 (V w.toNat 0) (M (12 + 2 * t.toNat) 1); omega) (fun c12 => ?_) (fun c12 => ?_)
              · skip
                refine xr_go hc rfl rfl ?_
                refine xr_go hc rfl rfl ?_
                refine xr_go hc rfl rfl ?_
                refine xr_vv_3 (v := (0, 0)) hc rfl rfl hT1 (c_tSet hn hp (u := t.toNat) (by omega) hs (by omega) (Or.inr hwf.1)) ?_
                refine xr_go hc rfl rfl ?_
                refine xr_ret hc rfl rfl ?_
                first
                  | (exfalso; omega)
                  | (refine ⟨rfl, rfl, ?_⟩
                     first
                       | (rw [if_neg (by omega)]; done)
                       | (rw [if_pos (by omega)]; done))
              · skip
                refine xr_go hc rfl rfl ?_
                refine xr_ret hc rfl rfl ?_
                first
                  | (exfalso; omega)
                  | (refine ⟨rfl, rfl, ?_⟩
                     first
                       | (rw [if_neg (by omega)]; done)
                       | (rw [if_pos (by omega)]; done))
            · skip
              refine xr_v_2 hc rfl rfl (ew_own_p hn rfl) (c_numberedN hC hw hwn) ?_
              first
                | (have hwf := v4 w.toNat (by omega)
                   have hw59 := hwf.1
                   simp only [ew_own, Bool.and_eq_true, decide_eq_true_eq] at hw59
                   have hWO := hVW w.toNat (by omega)
                   obtain ⟨k0, k1, k2, k3, k4⟩ := id hWO)
                | skip
              refine xr_s1_5 hc rfl rfl rfl ?_
              refine xr_go hc rfl rfl ?_
              refine xr_null hc rfl (fun c13 => ?_) (fun c13 => by exfalso; omega)
              refine xr_go hc rfl rfl ?_
              refine xr_go hc rfl rfl ?_
              refine xr_go hc rfl rfl ?_
              refine xr_vv_3 (v := (0, 0)) hc rfl rfl hT1 (c_tSet hn hp (u := t.toNat) (by omega) hs (by omega) (Or.inl rfl)) ?_
              refine xr_go hc rfl rfl ?_
              refine xr_ret hc rfl rfl ?_
              first
                | (exfalso; omega)
                | (refine ⟨rfl, rfl, ?_⟩
                   first
                     | (rw [if_neg (by omega)]; done)
                     | (rw [if_pos (by omega)]; done))
          · skip
            refine xr_go hc rfl rfl ?_
            refine xr_ret hc rfl rfl ?_
            first
              | (exfalso; omega)
              | (refine ⟨rfl, rfl, ?_⟩
                 first
                   | (rw [if_neg (by omega)]; done)
                   | (rw [if_pos (by omega)]; done))
        · skip
          refine xr_go hc rfl rfl ?_
          refine xr_ret hc rfl rfl ?_
          first
            | (exfalso; omega)
            | (refine ⟨rfl, rfl, ?_⟩
               first
                 | (rw [if_neg (by omega)]; done)
                 | (rw [if_pos (by omega)]; done))
      · skip
        refine xr_go hc rfl rfl ?_
        refine xr_ret hc rfl rfl ?_
        first
          | (exfalso; omega)
          | (refine ⟨rfl, rfl, ?_⟩
             first
               | (rw [if_neg (by omega)]; done)
               | (rw [if_pos (by omega)]; done))
  · skip
    refine xr_v_2 hc rfl rfl (ew_own_p hn rfl) (c_trayN0 hn hp ht hq) ?_
    first
      | (have hTT := s_tr hn hp (u := t.toNat) (by omega)
         obtain ⟨hT1, hT2, hT3, hT4, hT5⟩ := hTT)
      | skip
    refine xr_s1_4 hc rfl rfl rfl ?_
    refine xr_go hc rfl rfl ?_
    refine xr_null hc rfl (fun c14 => ?_) (fun c14 => by exfalso; omega)
    refine xr_go hc rfl rfl ?_
    refine xr_ret hc rfl rfl ?_
    first
      | (exfalso; omega)
      | (refine ⟨rfl, rfl, ?_⟩
         first
           | (rw [if_neg (by omega)]; done)
           | (rw [if_pos (by omega)]; done))

set_option maxRecDepth 20000 in
theorem cx_layN {V : ew_Mem} {n : Nat} {M : ew_Mem} (hC : s_C V n M) {t i w : Int} (ht : ew_in t) (hi : ew_in i) (hw : ew_in w) (hk : -1 ≤ M (12 + 2 * t.toNat) 1 ∧ M (12 + 2 * t.toNat) 1 ≤ 4) (hs : 0 ≤ M (12 + 2 * t.toNat) 2 ∧ M (12 + 2 * t.toNat) 2 ≤ 12) (h : ¬ s_okL V (M (12 + 2 * t.toNat) 1) (M (12 + 2 * t.toNat) 2) t i w) : ew_FM 136 [(2, 4), (0, t), (0, i), (0, w)] n M (0, s_n_lay V (M (12 + 2 * t.toNat) 1) (M (12 + 2 * t.toNat) 2) t i w) n M := by
  obtain ⟨hn, hp, hV, v0, v1, v2, v3, v4⟩ := id hC
  obtain ⟨hc6, hVW, hnd, hap, hr0, hr1, hr2, hr3, hr4, hr5⟩ := id hV
  have hc := ew_c_136
  show ew_X 136 0 [(2, 4), (0, t), (0, i), (0, w), (5, 0), (5, 0)] [] n M _
  refine xr_go hc rfl rfl ?_
  refine xr_go hc rfl rfl ?_
  by_cases hq : 0 ≤ t ∧ t < 4
  · skip
    refine xr_v_2 hc rfl rfl (ew_own_p hn rfl) (c_trayN hn hp hq) ?_
    first
      | (have hTT := s_tr hn hp (u := t.toNat) (by omega)
         obtain ⟨hT1, hT2, hT3, hT4, hT5⟩ := hTT)
      | skip
    refine xr_s1_4 hc rfl rfl rfl ?_
    refine xr_go hc rfl rfl ?_
    refine xr_null hc rfl (fun c1 => by exfalso; omega) (fun c1 => ?_)
    refine xr_go hc rfl rfl ?_
    refine xr_go hc rfl rfl ?_
    refine xr_icmp_eq hc rfl (by omega) (by decide) (fun c2 => ?_) (fun c2 => ?_)
    · skip
      refine xr_go hc rfl rfl ?_
      refine xr_v_1 hc rfl rfl hT1 (c_tMiss hn hp (u := t.toNat) (by omega) hk) ?_
      refine xr_if_eq hc rfl (by split <;> omega) (fun c3 => ?_) (fun c3 => ?_)
      · skip
        refine xr_go hc rfl rfl ?_
        refine xr_go hc rfl rfl ?_
        refine xr_v_2 hc rfl rfl hT1 (c_tHas hn hp (u := t.toNat) (by omega) hs hi) ?_
        refine xr_if_ne hc rfl (by split <;> omega) (fun c4 => ?_) (fun c4 => ?_)
        · skip
          refine xr_go hc rfl rfl ?_
          refine xr_gf2 (A := 4) (w := 5) rfl hc rfl (ew_own_p hn rfl) (ew_pm hp rfl) ?_
          refine xr_go hc rfl rfl ?_
          by_cases hwn : 0 ≤ w ∧ w < V 6 0
          · skip
            refine xr_v_2 hc rfl rfl (ew_own_p hn rfl) (c_numbered hC hwn) ?_
            first
              | (have hwf := v4 w.toNat (by omega)
                 have hw59 := hwf.1
                 simp only [ew_own, Bool.and_eq_true, decide_eq_true_eq] at hw59
                 have hWO := hVW w.toNat (by omega)
                 obtain ⟨k0, k1, k2, k3, k4⟩ := id hWO)
              | skip
            refine xr_s1_5 hc rfl rfl rfl ?_
            refine xr_go hc rfl rfl ?_
            refine xr_null hc rfl (fun c5 => by exfalso; omega) (fun c5 => ?_)
            refine xr_go hc rfl rfl ?_
            refine xr_gf0 rfl hc rfl hwf.1 hwf.2.1 ?_
            refine xr_go hc rfl rfl ?_
            refine xr_gf0 (A := 12 + 2 * t.toNat) rfl hc rfl hT1 rfl ?_
            refine xr_s_2 hc rfl rfl (c_isUnder (by omega) (by omega)) ?_
            refine xr_if_ne hc rfl (by have := s_un_01 (V w.toNat 0) (M (12 + 2 * t.toNat) 1); omega) (fun c6 => ?_) (fun c6 => ?_)
            · skip
              exfalso
              apply h
              first
                | exact ⟨by omega, by omega, by omega, by omega, fun _ => by have := s_un_01 (V w.toNat 0) (M (12 + 2 * t.toNat) 1); omega⟩
                | exact ⟨by omega, by omega, by omega, by omega, fun q => absurd q (by omega)⟩
            · skip
              refine xr_go hc rfl rfl ?_
              refine xr_ret hc rfl rfl ?_
              first
                | (exfalso; omega)
                | (refine ⟨?_, rfl, rfl⟩
                   unfold s_n_lay
                   repeat' split
                   all_goals first
                     | rfl
                     | (exfalso; omega)
                     | (congr 2; omega))
          · skip
            refine xr_v_2 hc rfl rfl (ew_own_p hn rfl) (c_numberedN hC hw hwn) ?_
            first
              | (have hwf := v4 w.toNat (by omega)
                 have hw59 := hwf.1
                 simp only [ew_own, Bool.and_eq_true, decide_eq_true_eq] at hw59
                 have hWO := hVW w.toNat (by omega)
                 obtain ⟨k0, k1, k2, k3, k4⟩ := id hWO)
              | skip
            refine xr_s1_5 hc rfl rfl rfl ?_
            refine xr_go hc rfl rfl ?_
            refine xr_null hc rfl (fun c7 => ?_) (fun c7 => by exfalso; omega)
            exfalso
            apply h
            first
              | exact ⟨by omega, by omega, by omega, by omega, fun _ => by have := s_un_01 (V w.toNat 0) (M (12 + 2 * t.toNat) 1); omega⟩
              | exact ⟨by omega, by omega, by omega, by omega, fun q => absurd q (by omega)⟩
        · skip
          refine xr_go hc rfl rfl ?_
          refine xr_ret hc rfl rfl ?_
          first
            | (exfalso; omega)
            | (refine ⟨?_, rfl, rfl⟩
               unfold s_n_lay
               repeat' split
               all_goals first
                 | rfl
                 | (exfalso; omega)
                 | (congr 2; omega))
      · skip
        refine xr_go hc rfl rfl ?_
        refine xr_ret hc rfl rfl ?_
        first
          | (exfalso; omega)
          | (refine ⟨?_, rfl, rfl⟩
             unfold s_n_lay
             repeat' split
             all_goals first
               | rfl
               | (exfalso; omega)
               | (congr 2; omega))
    · skip
      refine xr_go hc rfl rfl ?_
      refine xr_gf2 (A := 4) (w := 5) rfl hc rfl (ew_own_p hn rfl) (ew_pm hp rfl) ?_
      refine xr_go hc rfl rfl ?_
      refine xr_v_2 hc rfl rfl (ew_own_p hn rfl) (c_has hC hw) ?_
      refine xr_if_ne hc rfl (by split <;> omega) (fun c8 => ?_) (fun c8 => ?_)
      · skip
        refine xr_go hc rfl rfl ?_
        refine xr_v_1 hc rfl rfl hT1 (c_tMiss hn hp (u := t.toNat) (by omega) hk) ?_
        refine xr_if_eq hc rfl (by split <;> omega) (fun c9 => ?_) (fun c9 => ?_)
        · skip
          refine xr_go hc rfl rfl ?_
          refine xr_go hc rfl rfl ?_
          refine xr_v_2 hc rfl rfl hT1 (c_tHas hn hp (u := t.toNat) (by omega) hs hi) ?_
          refine xr_if_ne hc rfl (by split <;> omega) (fun c10 => ?_) (fun c10 => ?_)
          · skip
            refine xr_go hc rfl rfl ?_
            refine xr_gf2 (A := 4) (w := 5) rfl hc rfl (ew_own_p hn rfl) (ew_pm hp rfl) ?_
            refine xr_go hc rfl rfl ?_
            by_cases hwn : 0 ≤ w ∧ w < V 6 0
            · skip
              refine xr_v_2 hc rfl rfl (ew_own_p hn rfl) (c_numbered hC hwn) ?_
              first
                | (have hwf := v4 w.toNat (by omega)
                   have hw59 := hwf.1
                   simp only [ew_own, Bool.and_eq_true, decide_eq_true_eq] at hw59
                   have hWO := hVW w.toNat (by omega)
                   obtain ⟨k0, k1, k2, k3, k4⟩ := id hWO)
                | skip
              refine xr_s1_5 hc rfl rfl rfl ?_
              refine xr_go hc rfl rfl ?_
              refine xr_null hc rfl (fun c11 => by exfalso; omega) (fun c11 => ?_)
              refine xr_go hc rfl rfl ?_
              refine xr_gf0 rfl hc rfl hwf.1 hwf.2.1 ?_
              refine xr_go hc rfl rfl ?_
              refine xr_gf0 (A := 12 + 2 * t.toNat) rfl hc rfl hT1 rfl ?_
              refine xr_s_2 hc rfl rfl (c_isUnder (by omega) (by omega)) ?_
              refine xr_if_ne hc rfl (by have := s_un_01 (V w.toNat 0) (M (12 + 2 * t.toNat) 1); omega) (fun c12 => ?_) (fun c12 => ?_)
              · skip
                exfalso
                apply h
                first
                  | exact ⟨by omega, by omega, by omega, by omega, fun _ => by have := s_un_01 (V w.toNat 0) (M (12 + 2 * t.toNat) 1); omega⟩
                  | exact ⟨by omega, by omega, by omega, by omega, fun q => absurd q (by omega)⟩
              · skip
                refine xr_go hc rfl rfl ?_
                refine xr_ret hc rfl rfl ?_
                first
                  | (exfalso; omega)
                  | (refine ⟨?_, rfl, rfl⟩
                     unfold s_n_lay
                     repeat' split
                     all_goals first
                       | rfl
                       | (exfalso; omega)
                       | (congr 2; omega))
            · skip
              refine xr_v_2 hc rfl rfl (ew_own_p hn rfl) (c_numberedN hC hw hwn) ?_
              first
                | (have hwf := v4 w.toNat (by omega)
                   have hw59 := hwf.1
                   simp only [ew_own, Bool.and_eq_true, decide_eq_true_eq] at hw59
                   have hWO := hVW w.toNat (by omega)
                   obtain ⟨k0, k1, k2, k3, k4⟩ := id hWO)
                | skip
              refine xr_s1_5 hc rfl rfl rfl ?_
              refine xr_go hc rfl rfl ?_
              refine xr_null hc rfl (fun c13 => ?_) (fun c13 => by exfalso; omega)
              exfalso
              apply h
              first
                | exact ⟨by omega, by omega, by omega, by omega, fun _ => by have := s_un_01 (V w.toNat 0) (M (12 + 2 * t.toNat) 1); omega⟩
                | exact ⟨by omega, by omega, by omega, by omega, fun q => absurd q (by omega)⟩
          · skip
            refine xr_go hc rfl rfl ?_
            refine xr_ret hc rfl rfl ?_
            first
              | (exfalso; omega)
              | (refine ⟨?_, rfl, rfl⟩
                 unfold s_n_lay
                 repeat' split
                 all_goals first
                   | rfl
                   | (exfalso; omega)
                   | (congr 2; omega))
        · skip
          refine xr_go hc rfl rfl ?_
          refine xr_ret hc rfl rfl ?_
          first
            | (exfalso; omega)
            | (refine ⟨?_, rfl, rfl⟩
               unfold s_n_lay
               repeat' split
               all_goals first
                 | rfl
                 | (exfalso; omega)
                 | (congr 2; omega))
      · skip
        refine xr_go hc rfl rfl ?_
        refine xr_ret hc rfl rfl ?_
        first
          | (exfalso; omega)
          | (refine ⟨?_, rfl, rfl⟩
             unfold s_n_lay
             repeat' split
             all_goals first
               | rfl
               | (exfalso; omega)
               | (congr 2; omega))
  · skip
    refine xr_v_2 hc rfl rfl (ew_own_p hn rfl) (c_trayN0 hn hp ht hq) ?_
    first
      | (have hTT := s_tr hn hp (u := t.toNat) (by omega)
         obtain ⟨hT1, hT2, hT3, hT4, hT5⟩ := hTT)
      | skip
    refine xr_s1_4 hc rfl rfl rfl ?_
    refine xr_go hc rfl rfl ?_
    refine xr_null hc rfl (fun c14 => ?_) (fun c14 => by exfalso; omega)
    refine xr_go hc rfl rfl ?_
    refine xr_ret hc rfl rfl ?_
    first
      | (exfalso; omega)
      | (refine ⟨?_, rfl, rfl⟩
         unfold s_n_lay
         repeat' split
         all_goals first
           | rfl
           | (exfalso; omega)
           | (congr 2; omega))

def s_a_laid (kd sz th : Int) (W : Nat → Int) (t i x : Int) : Int := if (0 ≤ t ∧ t < 4) ∧ 0 ≤ x ∧ x ≤ 3 then (if kd = -1 then -11 else if 0 ≤ i ∧ i < sz then (if th = 0 then -5 else s_told W x) else -12) else -1
set_option maxRecDepth 20000 in
theorem cx_laid {n : Nat} {M : ew_Mem} (hn : 59 ≤ n) (hp : ew_Pm M) {t i x : Int} (ht : ew_in t) (hi : ew_in i) (hx : ew_in x) (hk : -1 ≤ M (12 + 2 * t.toNat) 1 ∧ M (12 + 2 * t.toNat) 1 ≤ 4) (hs : 0 ≤ M (12 + 2 * t.toNat) 2 ∧ M (12 + 2 * t.toNat) 2 ≤ 12) {W : Nat → Int} (hO : ¬ (M (13 + 2 * t.toNat) i.toNat) = 0 → 0 < (M (13 + 2 * t.toNat) i.toNat) → s_WF (M (13 + 2 * t.toNat) i.toNat) n M W ∧ s_WO W) (hO0 : (0 ≤ i ∧ i < (M (12 + 2 * t.toNat) 2)) → 0 ≤ (M (13 + 2 * t.toNat) i.toNat)) : ew_FM 137 [(2, 4), (0, t), (0, i), (0, x)] n M (0, s_a_laid (M (12 + 2 * t.toNat) 1) (M (12 + 2 * t.toNat) 2) (M (13 + 2 * t.toNat) i.toNat) W t i x) n M := by
  have hc := ew_c_137
  show ew_X 137 0 [(2, 4), (0, t), (0, i), (0, x), (5, 0), (5, 0)] [] n M _
  refine xr_go hc rfl rfl ?_
  refine xr_go hc rfl rfl ?_
  by_cases hq : 0 ≤ t ∧ t < 4
  · skip
    refine xr_v_2 hc rfl rfl (ew_own_p hn rfl) (c_trayN hn hp hq) ?_
    first
      | (have hTT := s_tr hn hp (u := t.toNat) (by omega)
         obtain ⟨hT1, hT2, hT3, hT4, hT5⟩ := hTT)
      | skip
    refine xr_s1_4 hc rfl rfl rfl ?_
    refine xr_go hc rfl rfl ?_
    refine xr_null hc rfl (fun c1 => by exfalso; omega) (fun c1 => ?_)
    refine xr_go hc rfl rfl ?_
    refine xr_if_lt hc rfl (by omega) (fun c2 => ?_) (fun c2 => ?_)
    · skip
      refine xr_go hc rfl rfl ?_
      refine xr_ret hc rfl rfl ?_
      first
        | (exfalso; omega)
        | (refine ⟨?_, rfl, rfl⟩
           unfold s_a_laid
           repeat' split
           all_goals first
             | rfl
             | (exfalso; omega)
             | (congr 2; omega))
    · skip
      refine xr_go hc rfl rfl ?_
      refine xr_go hc rfl rfl ?_
      refine xr_icmp_le hc rfl (by omega) (by decide) (fun c3 => ?_) (fun c3 => ?_)
      · skip
        refine xr_go hc rfl rfl ?_
        refine xr_v_1 hc rfl rfl hT1 (c_tMiss hn hp (u := t.toNat) (by omega) hk) ?_
        refine xr_if_eq hc rfl (by split <;> omega) (fun c4 => ?_) (fun c4 => ?_)
        · skip
          refine xr_go hc rfl rfl ?_
          refine xr_go hc rfl rfl ?_
          refine xr_v_2 hc rfl rfl hT1 (c_tHas hn hp (u := t.toNat) (by omega) hs hi) ?_
          refine xr_if_ne hc rfl (by split <;> omega) (fun c5 => ?_) (fun c5 => ?_)
          · skip
            refine xr_go hc rfl rfl ?_
            refine xr_go hc rfl rfl ?_
            refine xr_v_2 hc rfl rfl hT1 (c_tAt hn hp (u := t.toNat) (by omega) hs (by omega)) ?_
            refine xr_s1_5 hc rfl rfl rfl ?_
            refine xr_go hc rfl rfl ?_
            refine xr_nonnull hc rfl (fun c6 => ?_) (fun c6 => ?_)
            · skip
              refine xr_go hc rfl rfl ?_
              refine xr_go hc rfl rfl ?_
              refine xr_v_2 hc rfl rfl (hO (by omega) (by omega)).1.1 (c_told hn hp (hO (by omega) (by omega)).1 (hO (by omega) (by omega)).2 hx) ?_
              refine xr_ret hc rfl rfl ?_
              first
                | (exfalso; omega)
                | (refine ⟨?_, rfl, rfl⟩
                   unfold s_a_laid
                   repeat' split
                   all_goals first
                     | rfl
                     | (exfalso; omega)
                     | (congr 2; omega))
            · skip
              refine xr_go hc rfl rfl ?_
              refine xr_go hc rfl rfl ?_
              refine xr_ret hc rfl rfl ?_
              first
                | (exfalso; omega)
                | (refine ⟨?_, rfl, rfl⟩
                   unfold s_a_laid
                   repeat' split
                   all_goals first
                     | rfl
                     | (exfalso; omega)
                     | (congr 2; omega))
          · skip
            refine xr_go hc rfl rfl ?_
            refine xr_ret hc rfl rfl ?_
            first
              | (exfalso; omega)
              | (refine ⟨?_, rfl, rfl⟩
                 unfold s_a_laid
                 repeat' split
                 all_goals first
                   | rfl
                   | (exfalso; omega)
                   | (congr 2; omega))
        · skip
          refine xr_go hc rfl rfl ?_
          refine xr_ret hc rfl rfl ?_
          first
            | (exfalso; omega)
            | (refine ⟨?_, rfl, rfl⟩
               unfold s_a_laid
               repeat' split
               all_goals first
                 | rfl
                 | (exfalso; omega)
                 | (congr 2; omega))
      · skip
        refine xr_go hc rfl rfl ?_
        refine xr_ret hc rfl rfl ?_
        first
          | (exfalso; omega)
          | (refine ⟨?_, rfl, rfl⟩
             unfold s_a_laid
             repeat' split
             all_goals first
               | rfl
               | (exfalso; omega)
               | (congr 2; omega))
  · skip
    refine xr_v_2 hc rfl rfl (ew_own_p hn rfl) (c_trayN0 hn hp ht hq) ?_
    first
      | (have hTT := s_tr hn hp (u := t.toNat) (by omega)
         obtain ⟨hT1, hT2, hT3, hT4, hT5⟩ := hTT)
      | skip
    refine xr_s1_4 hc rfl rfl rfl ?_
    refine xr_go hc rfl rfl ?_
    refine xr_null hc rfl (fun c7 => ?_) (fun c7 => by exfalso; omega)
    refine xr_go hc rfl rfl ?_
    refine xr_ret hc rfl rfl ?_
    first
      | (exfalso; omega)
      | (refine ⟨?_, rfl, rfl⟩
         unfold s_a_laid
         repeat' split
         all_goals first
           | rfl
           | (exfalso; omega)
           | (congr 2; omega))

abbrev s_okK (kd t o : Int) : Prop := ((0 ≤ t ∧ t < 4) ∧ 0 ≤ o ∧ o < 4) ∧ ¬ kd = -1
def s_n_like (t o : Int) : Int := if (0 ≤ t ∧ t < 4) ∧ 0 ≤ o ∧ o < 4 then -11 else -1
set_option maxRecDepth 20000 in
theorem cx_like {n : Nat} {M : ew_Mem} (hn : 59 ≤ n) (hp : ew_Pm M) {t o : Int} (ht : ew_in t) (ho : ew_in o) (hk : -1 ≤ (M (12 + 2 * o.toNat) 1) ∧ (M (12 + 2 * o.toNat) 1) ≤ 4) (hO : ∀ i : Nat, i < 12 → M (13 + 2 * o.toNat) i = 0 ∨ ew_own 6 (M (13 + 2 * o.toNat) i) n = true) (h : s_okK (M (12 + 2 * o.toNat) 1) t o) : ew_FM 138 [(2, 4), (0, t), (0, o)] n M (0, M (12 + 2 * o.toNat) 2) n (s_tb M t.toNat o.toNat) := by
  have hc := ew_c_138
  show ew_X 138 0 [(2, 4), (0, t), (0, o), (5, 0), (5, 0)] [] n M _
  refine xr_go hc rfl rfl ?_
  refine xr_go hc rfl rfl ?_
  by_cases hq : 0 ≤ t ∧ t < 4
  · skip
    refine xr_v_2 hc rfl rfl (ew_own_p hn rfl) (c_trayN hn hp hq) ?_
    first
      | (have hTT := s_tr hn hp (u := t.toNat) (by omega)
         obtain ⟨hT1, hT2, hT3, hT4, hT5⟩ := hTT)
      | skip
    refine xr_s1_3 hc rfl rfl rfl ?_
    refine xr_go hc rfl rfl ?_
    refine xr_go hc rfl rfl ?_
    by_cases hq2 : 0 ≤ o ∧ o < 4
    · skip
      refine xr_v_2 hc rfl rfl (ew_own_p hn rfl) (c_trayN hn hp hq2) ?_
      first
        | (have hUT := s_tr hn hp (u := o.toNat) (by omega)
           obtain ⟨hU1, hU2, hU3, hU4, hU5⟩ := hUT)
        | skip
      refine xr_s1_4 hc rfl rfl rfl ?_
      refine xr_go hc rfl rfl ?_
      refine xr_null hc rfl (fun c1 => by exfalso; omega) (fun c1 => ?_)
      refine xr_go hc rfl rfl ?_
      refine xr_nonnull hc rfl (fun c2 => ?_) (fun c2 => by exfalso; omega)
      refine xr_go hc rfl rfl ?_
      refine xr_v_1 hc rfl rfl hU1 (c_tMiss hn hp (u := o.toNat) (by omega) hk) ?_
      refine xr_if_eq hc rfl (by split <;> omega) (fun c3 => ?_) (fun c3 => ?_)
      · skip
        refine xr_go hc rfl rfl ?_
        refine xr_go hc rfl rfl ?_
        refine xr_vv_2 (v := (0, 0)) hc rfl rfl hT1 (c_tBecome hn hp (u := t.toNat) (by omega) (v := o.toNat) (by omega) hO) ?_
        refine xr_go hc rfl rfl ?_
        refine xr_gf0 (A := 12 + 2 * t.toNat) rfl hc rfl hT1 (show _ = M (12 + 2 * o.toNat) 2 by unfold s_tb; rw [s_fn_ne (by omega), s_eq_rd]) ?_
        refine xr_ret hc rfl rfl ?_
        first
          | exact ⟨rfl, rfl, rfl⟩
          | (exfalso; omega)
      · skip
        refine xr_go hc rfl rfl ?_
        refine xr_ret hc rfl rfl ?_
        first
          | exact ⟨rfl, rfl, rfl⟩
          | (exfalso; omega)
    · skip
      refine xr_v_2 hc rfl rfl (ew_own_p hn rfl) (c_trayN0 hn hp ho hq2) ?_
      first
        | (have hUT := s_tr hn hp (u := o.toNat) (by omega)
           obtain ⟨hU1, hU2, hU3, hU4, hU5⟩ := hUT)
        | skip
      refine xr_s1_4 hc rfl rfl rfl ?_
      refine xr_go hc rfl rfl ?_
      refine xr_null hc rfl (fun c4 => by exfalso; omega) (fun c4 => ?_)
      refine xr_go hc rfl rfl ?_
      refine xr_nonnull hc rfl (fun c5 => by exfalso; omega) (fun c5 => ?_)
      refine xr_go hc rfl rfl ?_
      refine xr_ret hc rfl rfl ?_
      first
        | exact ⟨rfl, rfl, rfl⟩
        | (exfalso; omega)
  · skip
    refine xr_v_2 hc rfl rfl (ew_own_p hn rfl) (c_trayN0 hn hp ht hq) ?_
    first
      | (have hTT := s_tr hn hp (u := t.toNat) (by omega)
         obtain ⟨hT1, hT2, hT3, hT4, hT5⟩ := hTT)
      | skip
    refine xr_s1_3 hc rfl rfl rfl ?_
    refine xr_go hc rfl rfl ?_
    refine xr_go hc rfl rfl ?_
    by_cases hq2 : 0 ≤ o ∧ o < 4
    · skip
      refine xr_v_2 hc rfl rfl (ew_own_p hn rfl) (c_trayN hn hp hq2) ?_
      first
        | (have hUT := s_tr hn hp (u := o.toNat) (by omega)
           obtain ⟨hU1, hU2, hU3, hU4, hU5⟩ := hUT)
        | skip
      refine xr_s1_4 hc rfl rfl rfl ?_
      refine xr_go hc rfl rfl ?_
      refine xr_null hc rfl (fun c6 => ?_) (fun c6 => by exfalso; omega)
      refine xr_go hc rfl rfl ?_
      refine xr_ret hc rfl rfl ?_
      first
        | exact ⟨rfl, rfl, rfl⟩
        | (exfalso; omega)
    · skip
      refine xr_v_2 hc rfl rfl (ew_own_p hn rfl) (c_trayN0 hn hp ho hq2) ?_
      first
        | (have hUT := s_tr hn hp (u := o.toNat) (by omega)
           obtain ⟨hU1, hU2, hU3, hU4, hU5⟩ := hUT)
        | skip
      refine xr_s1_4 hc rfl rfl rfl ?_
      refine xr_go hc rfl rfl ?_
      refine xr_null hc rfl (fun c7 => ?_) (fun c7 => by exfalso; omega)
      refine xr_go hc rfl rfl ?_
      refine xr_ret hc rfl rfl ?_
      first
        | exact ⟨rfl, rfl, rfl⟩
        | (exfalso; omega)

set_option maxRecDepth 20000 in
theorem cx_likeN {n : Nat} {M : ew_Mem} (hn : 59 ≤ n) (hp : ew_Pm M) {t o : Int} (ht : ew_in t) (ho : ew_in o) (hk : -1 ≤ (M (12 + 2 * o.toNat) 1) ∧ (M (12 + 2 * o.toNat) 1) ≤ 4) (hO : ∀ i : Nat, i < 12 → M (13 + 2 * o.toNat) i = 0 ∨ ew_own 6 (M (13 + 2 * o.toNat) i) n = true) (h : ¬ s_okK (M (12 + 2 * o.toNat) 1) t o) : ew_FM 138 [(2, 4), (0, t), (0, o)] n M (0, s_n_like t o) n M := by
  have hc := ew_c_138
  show ew_X 138 0 [(2, 4), (0, t), (0, o), (5, 0), (5, 0)] [] n M _
  refine xr_go hc rfl rfl ?_
  refine xr_go hc rfl rfl ?_
  by_cases hq : 0 ≤ t ∧ t < 4
  · skip
    refine xr_v_2 hc rfl rfl (ew_own_p hn rfl) (c_trayN hn hp hq) ?_
    first
      | (have hTT := s_tr hn hp (u := t.toNat) (by omega)
         obtain ⟨hT1, hT2, hT3, hT4, hT5⟩ := hTT)
      | skip
    refine xr_s1_3 hc rfl rfl rfl ?_
    refine xr_go hc rfl rfl ?_
    refine xr_go hc rfl rfl ?_
    by_cases hq2 : 0 ≤ o ∧ o < 4
    · skip
      refine xr_v_2 hc rfl rfl (ew_own_p hn rfl) (c_trayN hn hp hq2) ?_
      first
        | (have hUT := s_tr hn hp (u := o.toNat) (by omega)
           obtain ⟨hU1, hU2, hU3, hU4, hU5⟩ := hUT)
        | skip
      refine xr_s1_4 hc rfl rfl rfl ?_
      refine xr_go hc rfl rfl ?_
      refine xr_null hc rfl (fun c1 => by exfalso; omega) (fun c1 => ?_)
      refine xr_go hc rfl rfl ?_
      refine xr_nonnull hc rfl (fun c2 => ?_) (fun c2 => by exfalso; omega)
      refine xr_go hc rfl rfl ?_
      refine xr_v_1 hc rfl rfl hU1 (c_tMiss hn hp (u := o.toNat) (by omega) hk) ?_
      refine xr_if_eq hc rfl (by split <;> omega) (fun c3 => ?_) (fun c3 => ?_)
      · skip
        exfalso; omega
      · skip
        refine xr_go hc rfl rfl ?_
        refine xr_ret hc rfl rfl ?_
        first
          | (exfalso; omega)
          | (refine ⟨?_, rfl, rfl⟩
             unfold s_n_like
             repeat' split
             all_goals first
               | rfl
               | (exfalso; omega)
               | (congr 2; omega))
    · skip
      refine xr_v_2 hc rfl rfl (ew_own_p hn rfl) (c_trayN0 hn hp ho hq2) ?_
      first
        | (have hUT := s_tr hn hp (u := o.toNat) (by omega)
           obtain ⟨hU1, hU2, hU3, hU4, hU5⟩ := hUT)
        | skip
      refine xr_s1_4 hc rfl rfl rfl ?_
      refine xr_go hc rfl rfl ?_
      refine xr_null hc rfl (fun c4 => by exfalso; omega) (fun c4 => ?_)
      refine xr_go hc rfl rfl ?_
      refine xr_nonnull hc rfl (fun c5 => by exfalso; omega) (fun c5 => ?_)
      refine xr_go hc rfl rfl ?_
      refine xr_ret hc rfl rfl ?_
      first
        | (exfalso; omega)
        | (refine ⟨?_, rfl, rfl⟩
           unfold s_n_like
           repeat' split
           all_goals first
             | rfl
             | (exfalso; omega)
             | (congr 2; omega))
  · skip
    refine xr_v_2 hc rfl rfl (ew_own_p hn rfl) (c_trayN0 hn hp ht hq) ?_
    first
      | (have hTT := s_tr hn hp (u := t.toNat) (by omega)
         obtain ⟨hT1, hT2, hT3, hT4, hT5⟩ := hTT)
      | skip
    refine xr_s1_3 hc rfl rfl rfl ?_
    refine xr_go hc rfl rfl ?_
    refine xr_go hc rfl rfl ?_
    by_cases hq2 : 0 ≤ o ∧ o < 4
    · skip
      refine xr_v_2 hc rfl rfl (ew_own_p hn rfl) (c_trayN hn hp hq2) ?_
      first
        | (have hUT := s_tr hn hp (u := o.toNat) (by omega)
           obtain ⟨hU1, hU2, hU3, hU4, hU5⟩ := hUT)
        | skip
      refine xr_s1_4 hc rfl rfl rfl ?_
      refine xr_go hc rfl rfl ?_
      refine xr_null hc rfl (fun c6 => ?_) (fun c6 => by exfalso; omega)
      refine xr_go hc rfl rfl ?_
      refine xr_ret hc rfl rfl ?_
      first
        | (exfalso; omega)
        | (refine ⟨?_, rfl, rfl⟩
           unfold s_n_like
           repeat' split
           all_goals first
             | rfl
             | (exfalso; omega)
             | (congr 2; omega))
    · skip
      refine xr_v_2 hc rfl rfl (ew_own_p hn rfl) (c_trayN0 hn hp ho hq2) ?_
      first
        | (have hUT := s_tr hn hp (u := o.toNat) (by omega)
           obtain ⟨hU1, hU2, hU3, hU4, hU5⟩ := hUT)
        | skip
      refine xr_s1_4 hc rfl rfl rfl ?_
      refine xr_go hc rfl rfl ?_
      refine xr_null hc rfl (fun c7 => ?_) (fun c7 => by exfalso; omega)
      refine xr_go hc rfl rfl ?_
      refine xr_ret hc rfl rfl ?_
      first
        | (exfalso; omega)
        | (refine ⟨?_, rfl, rfl⟩
           unfold s_n_like
           repeat' split
           all_goals first
             | rfl
             | (exfalso; omega)
             | (congr 2; omega))

