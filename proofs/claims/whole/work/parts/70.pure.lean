/-! plain tests that the state changers ask -/
set_option maxRecDepth 20000 in
theorem c_isKind {n : Nat} {M : ew_Mem} {x : Int} (hx : ew_in x) : ew_FM 34 [(0, x)] n M (0, if 0 ≤ x ∧ x ≤ 4 then 1 else 0) n M := by
  have hc := ew_c_34
  show ew_X 34 0 [(0, x)] [] n M _
  refine xr_go hc rfl rfl ?_
  refine xr_if_lt hc rfl (by omega) (fun c1 => ?_) (fun c1 => ?_)
  · skip
    refine xr_go hc rfl rfl ?_
    refine xr_ret hc rfl rfl ?_
    exact ⟨by congr 2; split <;> omega, rfl, rfl⟩
  · skip
    refine xr_go hc rfl rfl ?_
    refine xr_go hc rfl rfl ?_
    refine xr_icmp_gt hc rfl (by omega) (by decide) (fun c2 => ?_) (fun c2 => ?_)
    · skip
      refine xr_go hc rfl rfl ?_
      refine xr_ret hc rfl rfl ?_
      exact ⟨by congr 2; split <;> omega, rfl, rfl⟩
    · skip
      refine xr_go hc rfl rfl ?_
      refine xr_go hc rfl rfl ?_
      refine xr_ret hc rfl rfl ?_
      exact ⟨by congr 2; split <;> omega, rfl, rfl⟩

set_option maxRecDepth 20000 in
theorem c_canBe {n : Nat} {M : ew_Mem} {x p s t : Int} (hx : ew_in x) (hp : ew_in p) (hs : ew_in s) (ht : ew_in t) : ew_FM 33 [(0, x), (0, p), (0, s), (0, t)] n M (0, if (0 ≤ x ∧ x ≤ 4) ∧ (2 ≤ p ∧ p ≤ 100000) ∧ (0 ≤ s ∧ s ≤ 99999) ∧ 0 ≤ t ∧ t < p then 1 else 0) n M := by
  have hc := ew_c_33
  show ew_X 33 0 [(0, x), (0, p), (0, s), (0, t)] [] n M _
  refine xr_go hc rfl rfl ?_
  refine xr_s_1 hc rfl rfl (c_isKind hx) ?_
  refine xr_if_eq hc rfl (by split <;> omega) (fun c1 => ?_) (fun c1 => ?_)
  · skip
    refine xr_go hc rfl rfl ?_
    refine xr_ret hc rfl rfl ?_
    exact ⟨by congr 2; split <;> omega, rfl, rfl⟩
  · skip
    refine xr_go hc rfl rfl ?_
    refine xr_go hc rfl rfl ?_
    refine xr_icmp_lt hc rfl (by omega) (by decide) (fun c2 => ?_) (fun c2 => ?_)
    · skip
      refine xr_go hc rfl rfl ?_
      refine xr_ret hc rfl rfl ?_
      exact ⟨by congr 2; split <;> omega, rfl, rfl⟩
    · skip
      refine xr_go hc rfl rfl ?_
      refine xr_go hc rfl rfl ?_
      refine xr_icmp_gt hc rfl (by omega) (by decide) (fun c3 => ?_) (fun c3 => ?_)
      · skip
        refine xr_go hc rfl rfl ?_
        refine xr_ret hc rfl rfl ?_
        exact ⟨by congr 2; split <;> omega, rfl, rfl⟩
      · skip
        refine xr_go hc rfl rfl ?_
        refine xr_if_lt hc rfl (by omega) (fun c4 => ?_) (fun c4 => ?_)
        · skip
          refine xr_go hc rfl rfl ?_
          refine xr_ret hc rfl rfl ?_
          exact ⟨by congr 2; split <;> omega, rfl, rfl⟩
        · skip
          refine xr_go hc rfl rfl ?_
          refine xr_go hc rfl rfl ?_
          refine xr_icmp_gt hc rfl (by omega) (by decide) (fun c5 => ?_) (fun c5 => ?_)
          · skip
            refine xr_go hc rfl rfl ?_
            refine xr_ret hc rfl rfl ?_
            exact ⟨by congr 2; split <;> omega, rfl, rfl⟩
          · skip
            refine xr_go hc rfl rfl ?_
            refine xr_if_lt hc rfl (by omega) (fun c6 => ?_) (fun c6 => ?_)
            · skip
              refine xr_go hc rfl rfl ?_
              refine xr_ret hc rfl rfl ?_
              exact ⟨by congr 2; split <;> omega, rfl, rfl⟩
            · skip
              refine xr_go hc rfl rfl ?_
              refine xr_go hc rfl rfl ?_
              refine xr_icmp_ge hc rfl (by omega) (by omega) (fun c7 => ?_) (fun c7 => ?_)
              · skip
                refine xr_go hc rfl rfl ?_
                refine xr_ret hc rfl rfl ?_
                exact ⟨by congr 2; split <;> omega, rfl, rfl⟩
              · skip
                refine xr_go hc rfl rfl ?_
                refine xr_go hc rfl rfl ?_
                refine xr_ret hc rfl rfl ?_
                exact ⟨by congr 2; split <;> omega, rfl, rfl⟩

set_option maxRecDepth 20000 in
theorem m_areBounds {n : Nat} {M : ew_Mem} {p s t : Int} (hp : ew_in p) (hs : ew_in s) (ht : ew_in t) : ew_FM 151 [(0, p), (0, s), (0, t)] n M (0, if (2 ≤ p ∧ p ≤ 100000) ∧ (0 ≤ s ∧ s ≤ 99999) ∧ 0 ≤ t ∧ t < p then 1 else 0) n M := by
  have hc := ew_c_151
  show ew_X 151 0 [(0, p), (0, s), (0, t)] [] n M _
  refine xr_go hc rfl rfl ?_
  refine xr_i2l hc rfl (by omega) ?_
  refine xr_go hc rfl rfl ?_
  refine xr_go hc rfl rfl ?_
  refine xr_s_3 hc rfl rfl (c_in (by omega) (by decide) (by omega)) ?_
  refine xr_if_eq hc rfl (by split <;> omega) (fun c1 => ?_) (fun c1 => ?_)
  · skip
    refine xr_go hc rfl rfl ?_
    refine xr_ret hc rfl rfl ?_
    exact ⟨by congr 2; split <;> omega, rfl, rfl⟩
  · skip
    refine xr_go hc rfl rfl ?_
    refine xr_i2l hc rfl (by omega) ?_
    refine xr_go hc rfl rfl ?_
    refine xr_go hc rfl rfl ?_
    refine xr_s_3 hc rfl rfl (c_in (by omega) (by decide) (by omega)) ?_
    refine xr_if_eq hc rfl (by split <;> omega) (fun c2 => ?_) (fun c2 => ?_)
    · skip
      refine xr_go hc rfl rfl ?_
      refine xr_ret hc rfl rfl ?_
      exact ⟨by congr 2; split <;> omega, rfl, rfl⟩
    · skip
      refine xr_go hc rfl rfl ?_
      refine xr_i2l hc rfl (by omega) ?_
      refine xr_go hc rfl rfl ?_
      refine xr_go hc rfl rfl ?_
      refine xr_go hc rfl rfl ?_
      refine xr_go hc rfl rfl ?_
      refine xr_i2l hc rfl (by omega) ?_
      refine xr_s_3 hc rfl rfl (c_in (by omega) (by decide) (by omega)) ?_
      refine xr_if_eq hc rfl (by split <;> omega) (fun c3 => ?_) (fun c3 => ?_)
      · skip
        refine xr_go hc rfl rfl ?_
        refine xr_ret hc rfl rfl ?_
        exact ⟨by congr 2; split <;> omega, rfl, rfl⟩
      · skip
        refine xr_go hc rfl rfl ?_
        refine xr_go hc rfl rfl ?_
        refine xr_ret hc rfl rfl ?_
        exact ⟨by congr 2; split <;> omega, rfl, rfl⟩

set_option maxRecDepth 20000 in
theorem m_isTray {n : Nat} {M : ew_Mem} {x : Int} (hx : ew_in x) : ew_FM 225 [(0, x)] n M (0, if 0 ≤ x ∧ x ≤ 3 then 1 else 0) n M := by
  have hc := ew_c_225
  show ew_X 225 0 [(0, x)] [] n M _
  refine xr_go hc rfl rfl ?_
  refine xr_i2l hc rfl (by omega) ?_
  refine xr_go hc rfl rfl ?_
  refine xr_go hc rfl rfl ?_
  refine xr_s_3 hc rfl rfl (c_in (by omega) (by decide) (by decide)) ?_
  refine xr_retB hc rfl (by split <;> omega) ?_
  exact ⟨rfl, rfl, rfl⟩

set_option maxRecDepth 20000 in
theorem m_isList {n : Nat} {M : ew_Mem} {x : Int} (hx : ew_in x) : ew_FM 231 [(0, x)] n M (0, if 0 ≤ x ∧ x ≤ 2 then 1 else 0) n M := by
  have hc := ew_c_231
  show ew_X 231 0 [(0, x)] [] n M _
  refine xr_go hc rfl rfl ?_
  refine xr_i2l hc rfl (by omega) ?_
  refine xr_go hc rfl rfl ?_
  refine xr_go hc rfl rfl ?_
  refine xr_s_3 hc rfl rfl (c_in (by omega) (by decide) (by decide)) ?_
  refine xr_retB hc rfl (by split <;> omega) ?_
  exact ⟨rfl, rfl, rfl⟩

/-- a wheel of kind k may lie where x is asked -/
def s_un (k x : Int) : Int := if k = x ∨ x = 0 ∨ (x = 1 ∧ k = 3) ∨ (x = 2 ∧ k = 4) then 1 else 0
set_option maxRecDepth 20000 in
theorem c_kindAbove {n : Nat} {M : ew_Mem} {x : Int} (hx : ew_in x) : ew_FM 37 [(0, x)] n M (0, if x = 1 then 0 else if x = 2 then 0 else if x = 3 then 1 else if x = 4 then 2 else -1) n M := by
  have hc := ew_c_37
  show ew_X 37 0 [(0, x)] [] n M _
  refine xr_go hc rfl rfl ?_
  refine xr_ts hc rfl hx (fun c1 => ?_) (fun c1a c1b => ?_)
  · skip
    refine xr_go hc rfl rfl ?_
    refine xr_ret hc rfl rfl ?_
    refine ⟨?_, rfl, rfl⟩
    congr 2
    repeat' split
    all_goals omega
  · rcases (show (x) = 1 ∨ (x) = 2 ∨ (x) = 3 ∨ (x) = 4 by omega) with ec1 | ec1 | ec1 | ec1
    · refine ⟨31, 32, by rw [ec1]; rfl, rfl, ?_⟩
      refine xr_go hc rfl rfl ?_
      refine xr_ret hc rfl rfl ?_
      refine ⟨?_, rfl, rfl⟩
      congr 2
      repeat' split
      all_goals omega
    · refine ⟨33, 34, by rw [ec1]; rfl, rfl, ?_⟩
      refine xr_go hc rfl rfl ?_
      refine xr_ret hc rfl rfl ?_
      refine ⟨?_, rfl, rfl⟩
      congr 2
      repeat' split
      all_goals omega
    · refine ⟨35, 36, by rw [ec1]; rfl, rfl, ?_⟩
      refine xr_go hc rfl rfl ?_
      refine xr_ret hc rfl rfl ?_
      refine ⟨?_, rfl, rfl⟩
      congr 2
      repeat' split
      all_goals omega
    · refine ⟨37, 38, by rw [ec1]; rfl, rfl, ?_⟩
      refine xr_go hc rfl rfl ?_
      refine xr_ret hc rfl rfl ?_
      refine ⟨?_, rfl, rfl⟩
      congr 2
      repeat' split
      all_goals omega

theorem c_kindAbove_0 {n : Nat} {M : ew_Mem} : ew_FM 37 [(0, 0)] n M (0, -1) n M := c_kindAbove (x := 0) (by decide)
theorem c_kindAbove_1 {n : Nat} {M : ew_Mem} : ew_FM 37 [(0, 1)] n M (0, 0) n M := c_kindAbove (x := 1) (by decide)
theorem c_kindAbove_2 {n : Nat} {M : ew_Mem} : ew_FM 37 [(0, 2)] n M (0, 0) n M := c_kindAbove (x := 2) (by decide)
theorem c_kindAbove_3 {n : Nat} {M : ew_Mem} : ew_FM 37 [(0, 3)] n M (0, 1) n M := c_kindAbove (x := 3) (by decide)
theorem c_kindAbove_4 {n : Nat} {M : ew_Mem} : ew_FM 37 [(0, 4)] n M (0, 2) n M := c_kindAbove (x := 4) (by decide)
theorem c_isUnder_0 {n : Nat} {M : ew_Mem} {x : Int} (hx : 0 ≤ x ∧ x ≤ 4) : ew_FM 36 [(0, 0), (0, x)] n M (0, s_un 0 x) n M := by
  have hc := ew_c_36
  show ew_X 36 0 [(0, 0), (0, x), (5, 0), (5, 0)] [] n M _
  refine xr_go hc rfl rfl ?_
  refine xr_s1_2 hc rfl rfl rfl ?_
  refine xr_go hc rfl rfl ?_
  refine xr_s1_3 hc rfl rfl rfl ?_
  refine xr_go hc rfl rfl ?_
  refine xr_go hc rfl rfl ?_
  refine xr_icmp_gt hc rfl (by decide) (by decide) (fun c1 => by exfalso; omega) (fun c1 => ?_)
  refine xr_go hc rfl rfl ?_
  refine xr_go hc rfl rfl ?_
  refine xr_icmp_eq hc rfl (by decide) (by decide) (fun c2 => by exfalso; omega) (fun c2 => ?_)
  refine xr_go hc rfl rfl ?_
  refine xr_go hc rfl rfl ?_
  refine xr_icmp_ne hc rfl (by decide) (by omega) (fun c3 => ?_) (fun c3 => ?_)
  · skip
    refine xr_go hc rfl rfl ?_
    refine xr_s_1 hc rfl rfl c_kindAbove_0 ?_
    refine xr_s1_2 hc rfl rfl rfl ?_
    refine xr_inc_3 hc rfl ?_
    refine xr_go hc rfl rfl ?_
    refine xr_go hc rfl rfl ?_
    refine xr_go hc rfl rfl ?_
    refine xr_icmp_gt hc rfl (by decide) (by decide) (fun c4 => by exfalso; omega) (fun c4 => ?_)
    refine xr_go hc rfl rfl ?_
    refine xr_go hc rfl rfl ?_
    refine xr_icmp_eq hc rfl (by decide) (by decide) (fun c5 => ?_) (fun c5 => by exfalso; omega)
    refine xr_go hc rfl rfl ?_
    refine xr_ret hc rfl rfl ?_
    refine ⟨?_, rfl, rfl⟩
    unfold s_un
    first
      | rw [if_pos (by omega)]
      | rw [if_neg (by omega)]
  · skip
    refine xr_go hc rfl rfl ?_
    refine xr_ret hc rfl rfl ?_
    refine ⟨?_, rfl, rfl⟩
    unfold s_un
    first
      | rw [if_pos (by omega)]
      | rw [if_neg (by omega)]

theorem c_isUnder_1 {n : Nat} {M : ew_Mem} {x : Int} (hx : 0 ≤ x ∧ x ≤ 4) : ew_FM 36 [(0, 1), (0, x)] n M (0, s_un 1 x) n M := by
  have hc := ew_c_36
  show ew_X 36 0 [(0, 1), (0, x), (5, 0), (5, 0)] [] n M _
  refine xr_go hc rfl rfl ?_
  refine xr_s1_2 hc rfl rfl rfl ?_
  refine xr_go hc rfl rfl ?_
  refine xr_s1_3 hc rfl rfl rfl ?_
  refine xr_go hc rfl rfl ?_
  refine xr_go hc rfl rfl ?_
  refine xr_icmp_gt hc rfl (by decide) (by decide) (fun c1 => by exfalso; omega) (fun c1 => ?_)
  refine xr_go hc rfl rfl ?_
  refine xr_go hc rfl rfl ?_
  refine xr_icmp_eq hc rfl (by decide) (by decide) (fun c2 => by exfalso; omega) (fun c2 => ?_)
  refine xr_go hc rfl rfl ?_
  refine xr_go hc rfl rfl ?_
  refine xr_icmp_ne hc rfl (by decide) (by omega) (fun c3 => ?_) (fun c3 => ?_)
  · skip
    refine xr_go hc rfl rfl ?_
    refine xr_s_1 hc rfl rfl c_kindAbove_1 ?_
    refine xr_s1_2 hc rfl rfl rfl ?_
    refine xr_inc_3 hc rfl ?_
    refine xr_go hc rfl rfl ?_
    refine xr_go hc rfl rfl ?_
    refine xr_go hc rfl rfl ?_
    refine xr_icmp_gt hc rfl (by decide) (by decide) (fun c4 => by exfalso; omega) (fun c4 => ?_)
    refine xr_go hc rfl rfl ?_
    refine xr_go hc rfl rfl ?_
    refine xr_icmp_eq hc rfl (by decide) (by decide) (fun c5 => by exfalso; omega) (fun c5 => ?_)
    refine xr_go hc rfl rfl ?_
    refine xr_go hc rfl rfl ?_
    refine xr_icmp_ne hc rfl (by decide) (by omega) (fun c6 => ?_) (fun c6 => ?_)
    · skip
      refine xr_go hc rfl rfl ?_
      refine xr_s_1 hc rfl rfl c_kindAbove_0 ?_
      refine xr_s1_2 hc rfl rfl rfl ?_
      refine xr_inc_3 hc rfl ?_
      refine xr_go hc rfl rfl ?_
      refine xr_go hc rfl rfl ?_
      refine xr_go hc rfl rfl ?_
      refine xr_icmp_gt hc rfl (by decide) (by decide) (fun c7 => by exfalso; omega) (fun c7 => ?_)
      refine xr_go hc rfl rfl ?_
      refine xr_go hc rfl rfl ?_
      refine xr_icmp_eq hc rfl (by decide) (by decide) (fun c8 => ?_) (fun c8 => by exfalso; omega)
      refine xr_go hc rfl rfl ?_
      refine xr_ret hc rfl rfl ?_
      refine ⟨?_, rfl, rfl⟩
      unfold s_un
      first
        | rw [if_pos (by omega)]
        | rw [if_neg (by omega)]
    · skip
      refine xr_go hc rfl rfl ?_
      refine xr_ret hc rfl rfl ?_
      refine ⟨?_, rfl, rfl⟩
      unfold s_un
      first
        | rw [if_pos (by omega)]
        | rw [if_neg (by omega)]
  · skip
    refine xr_go hc rfl rfl ?_
    refine xr_ret hc rfl rfl ?_
    refine ⟨?_, rfl, rfl⟩
    unfold s_un
    first
      | rw [if_pos (by omega)]
      | rw [if_neg (by omega)]

theorem c_isUnder_2 {n : Nat} {M : ew_Mem} {x : Int} (hx : 0 ≤ x ∧ x ≤ 4) : ew_FM 36 [(0, 2), (0, x)] n M (0, s_un 2 x) n M := by
  have hc := ew_c_36
  show ew_X 36 0 [(0, 2), (0, x), (5, 0), (5, 0)] [] n M _
  refine xr_go hc rfl rfl ?_
  refine xr_s1_2 hc rfl rfl rfl ?_
  refine xr_go hc rfl rfl ?_
  refine xr_s1_3 hc rfl rfl rfl ?_
  refine xr_go hc rfl rfl ?_
  refine xr_go hc rfl rfl ?_
  refine xr_icmp_gt hc rfl (by decide) (by decide) (fun c1 => by exfalso; omega) (fun c1 => ?_)
  refine xr_go hc rfl rfl ?_
  refine xr_go hc rfl rfl ?_
  refine xr_icmp_eq hc rfl (by decide) (by decide) (fun c2 => by exfalso; omega) (fun c2 => ?_)
  refine xr_go hc rfl rfl ?_
  refine xr_go hc rfl rfl ?_
  refine xr_icmp_ne hc rfl (by decide) (by omega) (fun c3 => ?_) (fun c3 => ?_)
  · skip
    refine xr_go hc rfl rfl ?_
    refine xr_s_1 hc rfl rfl c_kindAbove_2 ?_
    refine xr_s1_2 hc rfl rfl rfl ?_
    refine xr_inc_3 hc rfl ?_
    refine xr_go hc rfl rfl ?_
    refine xr_go hc rfl rfl ?_
    refine xr_go hc rfl rfl ?_
    refine xr_icmp_gt hc rfl (by decide) (by decide) (fun c4 => by exfalso; omega) (fun c4 => ?_)
    refine xr_go hc rfl rfl ?_
    refine xr_go hc rfl rfl ?_
    refine xr_icmp_eq hc rfl (by decide) (by decide) (fun c5 => by exfalso; omega) (fun c5 => ?_)
    refine xr_go hc rfl rfl ?_
    refine xr_go hc rfl rfl ?_
    refine xr_icmp_ne hc rfl (by decide) (by omega) (fun c6 => ?_) (fun c6 => ?_)
    · skip
      refine xr_go hc rfl rfl ?_
      refine xr_s_1 hc rfl rfl c_kindAbove_0 ?_
      refine xr_s1_2 hc rfl rfl rfl ?_
      refine xr_inc_3 hc rfl ?_
      refine xr_go hc rfl rfl ?_
      refine xr_go hc rfl rfl ?_
      refine xr_go hc rfl rfl ?_
      refine xr_icmp_gt hc rfl (by decide) (by decide) (fun c7 => by exfalso; omega) (fun c7 => ?_)
      refine xr_go hc rfl rfl ?_
      refine xr_go hc rfl rfl ?_
      refine xr_icmp_eq hc rfl (by decide) (by decide) (fun c8 => ?_) (fun c8 => by exfalso; omega)
      refine xr_go hc rfl rfl ?_
      refine xr_ret hc rfl rfl ?_
      refine ⟨?_, rfl, rfl⟩
      unfold s_un
      first
        | rw [if_pos (by omega)]
        | rw [if_neg (by omega)]
    · skip
      refine xr_go hc rfl rfl ?_
      refine xr_ret hc rfl rfl ?_
      refine ⟨?_, rfl, rfl⟩
      unfold s_un
      first
        | rw [if_pos (by omega)]
        | rw [if_neg (by omega)]
  · skip
    refine xr_go hc rfl rfl ?_
    refine xr_ret hc rfl rfl ?_
    refine ⟨?_, rfl, rfl⟩
    unfold s_un
    first
      | rw [if_pos (by omega)]
      | rw [if_neg (by omega)]

theorem c_isUnder_3 {n : Nat} {M : ew_Mem} {x : Int} (hx : 0 ≤ x ∧ x ≤ 4) : ew_FM 36 [(0, 3), (0, x)] n M (0, s_un 3 x) n M := by
  have hc := ew_c_36
  show ew_X 36 0 [(0, 3), (0, x), (5, 0), (5, 0)] [] n M _
  refine xr_go hc rfl rfl ?_
  refine xr_s1_2 hc rfl rfl rfl ?_
  refine xr_go hc rfl rfl ?_
  refine xr_s1_3 hc rfl rfl rfl ?_
  refine xr_go hc rfl rfl ?_
  refine xr_go hc rfl rfl ?_
  refine xr_icmp_gt hc rfl (by decide) (by decide) (fun c1 => by exfalso; omega) (fun c1 => ?_)
  refine xr_go hc rfl rfl ?_
  refine xr_go hc rfl rfl ?_
  refine xr_icmp_eq hc rfl (by decide) (by decide) (fun c2 => by exfalso; omega) (fun c2 => ?_)
  refine xr_go hc rfl rfl ?_
  refine xr_go hc rfl rfl ?_
  refine xr_icmp_ne hc rfl (by decide) (by omega) (fun c3 => ?_) (fun c3 => ?_)
  · skip
    refine xr_go hc rfl rfl ?_
    refine xr_s_1 hc rfl rfl c_kindAbove_3 ?_
    refine xr_s1_2 hc rfl rfl rfl ?_
    refine xr_inc_3 hc rfl ?_
    refine xr_go hc rfl rfl ?_
    refine xr_go hc rfl rfl ?_
    refine xr_go hc rfl rfl ?_
    refine xr_icmp_gt hc rfl (by decide) (by decide) (fun c4 => by exfalso; omega) (fun c4 => ?_)
    refine xr_go hc rfl rfl ?_
    refine xr_go hc rfl rfl ?_
    refine xr_icmp_eq hc rfl (by decide) (by decide) (fun c5 => by exfalso; omega) (fun c5 => ?_)
    refine xr_go hc rfl rfl ?_
    refine xr_go hc rfl rfl ?_
    refine xr_icmp_ne hc rfl (by decide) (by omega) (fun c6 => ?_) (fun c6 => ?_)
    · skip
      refine xr_go hc rfl rfl ?_
      refine xr_s_1 hc rfl rfl c_kindAbove_1 ?_
      refine xr_s1_2 hc rfl rfl rfl ?_
      refine xr_inc_3 hc rfl ?_
      refine xr_go hc rfl rfl ?_
      refine xr_go hc rfl rfl ?_
      refine xr_go hc rfl rfl ?_
      refine xr_icmp_gt hc rfl (by decide) (by decide) (fun c7 => by exfalso; omega) (fun c7 => ?_)
      refine xr_go hc rfl rfl ?_
      refine xr_go hc rfl rfl ?_
      refine xr_icmp_eq hc rfl (by decide) (by decide) (fun c8 => by exfalso; omega) (fun c8 => ?_)
      refine xr_go hc rfl rfl ?_
      refine xr_go hc rfl rfl ?_
      refine xr_icmp_ne hc rfl (by decide) (by omega) (fun c9 => ?_) (fun c9 => ?_)
      · skip
        refine xr_go hc rfl rfl ?_
        refine xr_s_1 hc rfl rfl c_kindAbove_0 ?_
        refine xr_s1_2 hc rfl rfl rfl ?_
        refine xr_inc_3 hc rfl ?_
        refine xr_go hc rfl rfl ?_
        refine xr_go hc rfl rfl ?_
        refine xr_go hc rfl rfl ?_
        refine xr_icmp_gt hc rfl (by decide) (by decide) (fun c10 => by exfalso; omega) (fun c10 => ?_)
        refine xr_go hc rfl rfl ?_
        refine xr_go hc rfl rfl ?_
        refine xr_icmp_eq hc rfl (by decide) (by decide) (fun c11 => ?_) (fun c11 => by exfalso; omega)
        refine xr_go hc rfl rfl ?_
        refine xr_ret hc rfl rfl ?_
        refine ⟨?_, rfl, rfl⟩
        unfold s_un
        first
          | rw [if_pos (by omega)]
          | rw [if_neg (by omega)]
      · skip
        refine xr_go hc rfl rfl ?_
        refine xr_ret hc rfl rfl ?_
        refine ⟨?_, rfl, rfl⟩
        unfold s_un
        first
          | rw [if_pos (by omega)]
          | rw [if_neg (by omega)]
    · skip
      refine xr_go hc rfl rfl ?_
      refine xr_ret hc rfl rfl ?_
      refine ⟨?_, rfl, rfl⟩
      unfold s_un
      first
        | rw [if_pos (by omega)]
        | rw [if_neg (by omega)]
  · skip
    refine xr_go hc rfl rfl ?_
    refine xr_ret hc rfl rfl ?_
    refine ⟨?_, rfl, rfl⟩
    unfold s_un
    first
      | rw [if_pos (by omega)]
      | rw [if_neg (by omega)]

theorem c_isUnder_4 {n : Nat} {M : ew_Mem} {x : Int} (hx : 0 ≤ x ∧ x ≤ 4) : ew_FM 36 [(0, 4), (0, x)] n M (0, s_un 4 x) n M := by
  have hc := ew_c_36
  show ew_X 36 0 [(0, 4), (0, x), (5, 0), (5, 0)] [] n M _
  refine xr_go hc rfl rfl ?_
  refine xr_s1_2 hc rfl rfl rfl ?_
  refine xr_go hc rfl rfl ?_
  refine xr_s1_3 hc rfl rfl rfl ?_
  refine xr_go hc rfl rfl ?_
  refine xr_go hc rfl rfl ?_
  refine xr_icmp_gt hc rfl (by decide) (by decide) (fun c1 => by exfalso; omega) (fun c1 => ?_)
  refine xr_go hc rfl rfl ?_
  refine xr_go hc rfl rfl ?_
  refine xr_icmp_eq hc rfl (by decide) (by decide) (fun c2 => by exfalso; omega) (fun c2 => ?_)
  refine xr_go hc rfl rfl ?_
  refine xr_go hc rfl rfl ?_
  refine xr_icmp_ne hc rfl (by decide) (by omega) (fun c3 => ?_) (fun c3 => ?_)
  · skip
    refine xr_go hc rfl rfl ?_
    refine xr_s_1 hc rfl rfl c_kindAbove_4 ?_
    refine xr_s1_2 hc rfl rfl rfl ?_
    refine xr_inc_3 hc rfl ?_
    refine xr_go hc rfl rfl ?_
    refine xr_go hc rfl rfl ?_
    refine xr_go hc rfl rfl ?_
    refine xr_icmp_gt hc rfl (by decide) (by decide) (fun c4 => by exfalso; omega) (fun c4 => ?_)
    refine xr_go hc rfl rfl ?_
    refine xr_go hc rfl rfl ?_
    refine xr_icmp_eq hc rfl (by decide) (by decide) (fun c5 => by exfalso; omega) (fun c5 => ?_)
    refine xr_go hc rfl rfl ?_
    refine xr_go hc rfl rfl ?_
    refine xr_icmp_ne hc rfl (by decide) (by omega) (fun c6 => ?_) (fun c6 => ?_)
    · skip
      refine xr_go hc rfl rfl ?_
      refine xr_s_1 hc rfl rfl c_kindAbove_2 ?_
      refine xr_s1_2 hc rfl rfl rfl ?_
      refine xr_inc_3 hc rfl ?_
      refine xr_go hc rfl rfl ?_
      refine xr_go hc rfl rfl ?_
      refine xr_go hc rfl rfl ?_
      refine xr_icmp_gt hc rfl (by decide) (by decide) (fun c7 => by exfalso; omega) (fun c7 => ?_)
      refine xr_go hc rfl rfl ?_
      refine xr_go hc rfl rfl ?_
      refine xr_icmp_eq hc rfl (by decide) (by decide) (fun c8 => by exfalso; omega) (fun c8 => ?_)
      refine xr_go hc rfl rfl ?_
      refine xr_go hc rfl rfl ?_
      refine xr_icmp_ne hc rfl (by decide) (by omega) (fun c9 => ?_) (fun c9 => ?_)
      · skip
        refine xr_go hc rfl rfl ?_
        refine xr_s_1 hc rfl rfl c_kindAbove_0 ?_
        refine xr_s1_2 hc rfl rfl rfl ?_
        refine xr_inc_3 hc rfl ?_
        refine xr_go hc rfl rfl ?_
        refine xr_go hc rfl rfl ?_
        refine xr_go hc rfl rfl ?_
        refine xr_icmp_gt hc rfl (by decide) (by decide) (fun c10 => by exfalso; omega) (fun c10 => ?_)
        refine xr_go hc rfl rfl ?_
        refine xr_go hc rfl rfl ?_
        refine xr_icmp_eq hc rfl (by decide) (by decide) (fun c11 => ?_) (fun c11 => by exfalso; omega)
        refine xr_go hc rfl rfl ?_
        refine xr_ret hc rfl rfl ?_
        refine ⟨?_, rfl, rfl⟩
        unfold s_un
        first
          | rw [if_pos (by omega)]
          | rw [if_neg (by omega)]
      · skip
        refine xr_go hc rfl rfl ?_
        refine xr_ret hc rfl rfl ?_
        refine ⟨?_, rfl, rfl⟩
        unfold s_un
        first
          | rw [if_pos (by omega)]
          | rw [if_neg (by omega)]
    · skip
      refine xr_go hc rfl rfl ?_
      refine xr_ret hc rfl rfl ?_
      refine ⟨?_, rfl, rfl⟩
      unfold s_un
      first
        | rw [if_pos (by omega)]
        | rw [if_neg (by omega)]
  · skip
    refine xr_go hc rfl rfl ?_
    refine xr_ret hc rfl rfl ?_
    refine ⟨?_, rfl, rfl⟩
    unfold s_un
    first
      | rw [if_pos (by omega)]
      | rw [if_neg (by omega)]

theorem c_isUnder {n : Nat} {M : ew_Mem} {k x : Int} (hk : 0 ≤ k ∧ k ≤ 4) (hx : 0 ≤ x ∧ x ≤ 4) : ew_FM 36 [(0, k), (0, x)] n M (0, s_un k x) n M := by
  obtain rfl | rfl | rfl | rfl | rfl : k = 0 ∨ k = 1 ∨ k = 2 ∨ k = 3 ∨ k = 4 := by omega
  · exact c_isUnder_0 hx
  · exact c_isUnder_1 hx
  · exact c_isUnder_2 hx
  · exact c_isUnder_3 hx
  · exact c_isUnder_4 hx

set_option maxRecDepth 20000 in
theorem m_isUnder {n : Nat} {M : ew_Mem} {k x : Int} (hk : 0 ≤ k ∧ k ≤ 4) (hx : 0 ≤ x ∧ x ≤ 4) : ew_FM 227 [(0, k), (0, x)] n M (0, s_un k x) n M := by
  have hc := ew_c_227
  show ew_X 227 0 [(0, k), (0, x)] [] n M _
  refine xr_go hc rfl rfl ?_
  refine xr_go hc rfl rfl ?_
  refine xr_icmp_eq hc rfl (by omega) (by omega) (fun c1 => ?_) (fun c1 => ?_)
  · skip
    refine xr_go hc rfl rfl ?_
    refine xr_go hc rfl rfl ?_
    refine xr_ret hc rfl rfl ?_
    refine ⟨?_, rfl, rfl⟩
    unfold s_un
    first
      | (exfalso; omega)
      | rw [if_pos (by omega)]
      | rw [if_neg (by omega)]
  · skip
    refine xr_go hc rfl rfl ?_
    refine xr_if_eq hc rfl (by omega) (fun c2 => ?_) (fun c2 => ?_)
    · skip
      refine xr_go hc rfl rfl ?_
      refine xr_go hc rfl rfl ?_
      refine xr_ret hc rfl rfl ?_
      refine ⟨?_, rfl, rfl⟩
      unfold s_un
      first
        | (exfalso; omega)
        | rw [if_pos (by omega)]
        | rw [if_neg (by omega)]
    · skip
      refine xr_go hc rfl rfl ?_
      refine xr_go hc rfl rfl ?_
      refine xr_icmp_ne hc rfl (by omega) (by decide) (fun c3 => ?_) (fun c3 => ?_)
      · skip
        refine xr_go hc rfl rfl ?_
        refine xr_go hc rfl rfl ?_
        refine xr_icmp_ne hc rfl (by omega) (by decide) (fun c4 => ?_) (fun c4 => ?_)
        · skip
          refine xr_go hc rfl rfl ?_
          refine xr_ret hc rfl rfl ?_
          refine ⟨?_, rfl, rfl⟩
          unfold s_un
          first
            | (exfalso; omega)
            | rw [if_pos (by omega)]
            | rw [if_neg (by omega)]
        · skip
          refine xr_go hc rfl rfl ?_
          refine xr_go hc rfl rfl ?_
          refine xr_icmp_ne hc rfl (by omega) (by decide) (fun c5 => ?_) (fun c5 => ?_)
          · skip
            refine xr_go hc rfl rfl ?_
            refine xr_ret hc rfl rfl ?_
            refine ⟨?_, rfl, rfl⟩
            unfold s_un
            first
              | (exfalso; omega)
              | rw [if_pos (by omega)]
              | rw [if_neg (by omega)]
          · skip
            refine xr_go hc rfl rfl ?_
            refine xr_go hc rfl rfl ?_
            refine xr_ret hc rfl rfl ?_
            refine ⟨?_, rfl, rfl⟩
            unfold s_un
            first
              | (exfalso; omega)
              | rw [if_pos (by omega)]
              | rw [if_neg (by omega)]
      · skip
        refine xr_go hc rfl rfl ?_
        refine xr_go hc rfl rfl ?_
        refine xr_icmp_eq hc rfl (by omega) (by decide) (fun c6 => ?_) (fun c6 => ?_)
        · skip
          refine xr_go hc rfl rfl ?_
          refine xr_go hc rfl rfl ?_
          refine xr_ret hc rfl rfl ?_
          refine ⟨?_, rfl, rfl⟩
          unfold s_un
          first
            | (exfalso; omega)
            | rw [if_pos (by omega)]
            | rw [if_neg (by omega)]
        · skip
          refine xr_go hc rfl rfl ?_
          refine xr_go hc rfl rfl ?_
          refine xr_icmp_ne hc rfl (by omega) (by decide) (fun c7 => ?_) (fun c7 => ?_)
          · skip
            refine xr_go hc rfl rfl ?_
            refine xr_ret hc rfl rfl ?_
            refine ⟨?_, rfl, rfl⟩
            unfold s_un
            first
              | (exfalso; omega)
              | rw [if_pos (by omega)]
              | rw [if_neg (by omega)]
          · skip
            refine xr_go hc rfl rfl ?_
            refine xr_go hc rfl rfl ?_
            refine xr_icmp_ne hc rfl (by omega) (by decide) (fun c8 => ?_) (fun c8 => ?_)
            · skip
              refine xr_go hc rfl rfl ?_
              refine xr_ret hc rfl rfl ?_
              refine ⟨?_, rfl, rfl⟩
              unfold s_un
              first
                | (exfalso; omega)
                | rw [if_pos (by omega)]
                | rw [if_neg (by omega)]
            · skip
              refine xr_go hc rfl rfl ?_
              refine xr_go hc rfl rfl ?_
              refine xr_ret hc rfl rfl ?_
              refine ⟨?_, rfl, rfl⟩
              unfold s_un
              first
                | (exfalso; omega)
                | rw [if_pos (by omega)]
                | rw [if_neg (by omega)]

/-- the digits of how a wheel was made: its kind, its step, whether it was the first -/
def s_md (k s f : Int) : Int :=
  let v0 : Int := if s = 0 then 12 else 1
  let v1 := if k = 1 ∨ k = 3 then 10 * v0 + 3 else v0
  let v2 := if k = 2 ∨ k = 4 then 10 * v1 + 4 else v1
  let v3 := if k = 3 then 10 * v2 + 5 else v2
  let v4 := if k = 4 then 10 * v3 + 6 else v3
  if k = 4 ∧ f = 1 then 10 * v4 + 7 else v4
theorem c_isUnder_0_1 {n : Nat} {M : ew_Mem} : ew_FM 36 [(0, 0), (0, 1)] n M (0, 0) n M := c_isUnder_0 (x := 1) (by decide)
theorem c_isUnder_0_2 {n : Nat} {M : ew_Mem} : ew_FM 36 [(0, 0), (0, 2)] n M (0, 0) n M := c_isUnder_0 (x := 2) (by decide)
theorem c_isUnder_1_1 {n : Nat} {M : ew_Mem} : ew_FM 36 [(0, 1), (0, 1)] n M (0, 1) n M := c_isUnder_1 (x := 1) (by decide)
theorem c_isUnder_1_2 {n : Nat} {M : ew_Mem} : ew_FM 36 [(0, 1), (0, 2)] n M (0, 0) n M := c_isUnder_1 (x := 2) (by decide)
theorem c_isUnder_2_1 {n : Nat} {M : ew_Mem} : ew_FM 36 [(0, 2), (0, 1)] n M (0, 0) n M := c_isUnder_2 (x := 1) (by decide)
theorem c_isUnder_2_2 {n : Nat} {M : ew_Mem} : ew_FM 36 [(0, 2), (0, 2)] n M (0, 1) n M := c_isUnder_2 (x := 2) (by decide)
theorem c_isUnder_3_1 {n : Nat} {M : ew_Mem} : ew_FM 36 [(0, 3), (0, 1)] n M (0, 1) n M := c_isUnder_3 (x := 1) (by decide)
theorem c_isUnder_3_2 {n : Nat} {M : ew_Mem} : ew_FM 36 [(0, 3), (0, 2)] n M (0, 0) n M := c_isUnder_3 (x := 2) (by decide)
theorem c_isUnder_4_1 {n : Nat} {M : ew_Mem} : ew_FM 36 [(0, 4), (0, 1)] n M (0, 0) n M := c_isUnder_4 (x := 1) (by decide)
theorem c_isUnder_4_2 {n : Nat} {M : ew_Mem} : ew_FM 36 [(0, 4), (0, 2)] n M (0, 1) n M := c_isUnder_4 (x := 2) (by decide)
theorem c_made_0 {n : Nat} {M : ew_Mem} {s c : Int} (hs : ew_in s) (hc : ew_in c) : ew_FM 35 [(0, 0), (0, s), (0, c)] n M (0, s_md 0 s (if c = 0 then 1 else 0)) n M := by
  have hcc := ew_c_35
  show ew_X 35 0 [(0, 0), (0, s), (0, c), (5, 0)] [] n M _
  refine xr_go hcc rfl rfl ?_
  refine xr_if_ne hcc rfl (by omega) (fun c1 => ?_) (fun c1 => ?_)
  · skip
    refine xr_go hcc rfl rfl ?_
    refine xr_s1_3 hcc rfl rfl rfl ?_
    refine xr_go hcc rfl rfl ?_
    refine xr_go hcc rfl rfl ?_
    refine xr_s_2 hcc rfl rfl c_isUnder_0_1 ?_
    refine xr_if_eq hcc rfl (by decide) (fun c2 => ?_) (fun c2 => by exfalso; omega)
    refine xr_go hcc rfl rfl ?_
    refine xr_go hcc rfl rfl ?_
    refine xr_s_2 hcc rfl rfl c_isUnder_0_2 ?_
    refine xr_if_eq hcc rfl (by decide) (fun c3 => ?_) (fun c3 => by exfalso; omega)
    refine xr_go hcc rfl rfl ?_
    refine xr_go hcc rfl rfl ?_
    refine xr_icmp_ne hcc rfl (by decide) (by decide) (fun c4 => ?_) (fun c4 => by exfalso; omega)
    refine xr_go hcc rfl rfl ?_
    refine xr_go hcc rfl rfl ?_
    refine xr_icmp_ne hcc rfl (by decide) (by decide) (fun c5 => ?_) (fun c5 => by exfalso; omega)
    refine xr_go hcc rfl rfl ?_
    refine xr_go hcc rfl rfl ?_
    refine xr_icmp_ne hcc rfl (by decide) (by decide) (fun c6 => ?_) (fun c6 => by exfalso; omega)
    refine xr_go hcc rfl rfl ?_
    refine xr_ret hcc rfl rfl ?_
    refine ⟨?_, rfl, rfl⟩
    first
      | (have hs : s = 0 := by omega
         subst hs
         first
           | rfl
           | (simp [s_md, *] <;> omega))
      | (simp [s_md, *] <;> omega)
  · skip
    refine xr_go hcc rfl rfl ?_
    refine xr_go hcc rfl rfl ?_
    refine xr_s1_3 hcc rfl rfl rfl ?_
    refine xr_go hcc rfl rfl ?_
    refine xr_go hcc rfl rfl ?_
    refine xr_s_2 hcc rfl rfl c_isUnder_0_1 ?_
    refine xr_if_eq hcc rfl (by decide) (fun c7 => ?_) (fun c7 => by exfalso; omega)
    refine xr_go hcc rfl rfl ?_
    refine xr_go hcc rfl rfl ?_
    refine xr_s_2 hcc rfl rfl c_isUnder_0_2 ?_
    refine xr_if_eq hcc rfl (by decide) (fun c8 => ?_) (fun c8 => by exfalso; omega)
    refine xr_go hcc rfl rfl ?_
    refine xr_go hcc rfl rfl ?_
    refine xr_icmp_ne hcc rfl (by decide) (by decide) (fun c9 => ?_) (fun c9 => by exfalso; omega)
    refine xr_go hcc rfl rfl ?_
    refine xr_go hcc rfl rfl ?_
    refine xr_icmp_ne hcc rfl (by decide) (by decide) (fun c10 => ?_) (fun c10 => by exfalso; omega)
    refine xr_go hcc rfl rfl ?_
    refine xr_go hcc rfl rfl ?_
    refine xr_icmp_ne hcc rfl (by decide) (by decide) (fun c11 => ?_) (fun c11 => by exfalso; omega)
    refine xr_go hcc rfl rfl ?_
    refine xr_ret hcc rfl rfl ?_
    refine ⟨?_, rfl, rfl⟩
    first
      | (have hs : s = 0 := by omega
         subst hs
         first
           | rfl
           | (simp [s_md, *] <;> omega))
      | (simp [s_md, *] <;> omega)

theorem c_made_1 {n : Nat} {M : ew_Mem} {s c : Int} (hs : ew_in s) (hc : ew_in c) : ew_FM 35 [(0, 1), (0, s), (0, c)] n M (0, s_md 1 s (if c = 0 then 1 else 0)) n M := by
  have hcc := ew_c_35
  show ew_X 35 0 [(0, 1), (0, s), (0, c), (5, 0)] [] n M _
  refine xr_go hcc rfl rfl ?_
  refine xr_if_ne hcc rfl (by omega) (fun c1 => ?_) (fun c1 => ?_)
  · skip
    refine xr_go hcc rfl rfl ?_
    refine xr_s1_3 hcc rfl rfl rfl ?_
    refine xr_go hcc rfl rfl ?_
    refine xr_go hcc rfl rfl ?_
    refine xr_s_2 hcc rfl rfl c_isUnder_1_1 ?_
    refine xr_if_eq hcc rfl (by decide) (fun c2 => by exfalso; omega) (fun c2 => ?_)
    refine xr_go hcc rfl rfl ?_
    refine xr_go hcc rfl rfl ?_
    refine xr_go hcc rfl rfl ?_
    refine xr_go hcc rfl rfl ?_
    refine xr_go hcc rfl rfl ?_
    refine xr_s1_3 hcc rfl rfl rfl ?_
    refine xr_go hcc rfl rfl ?_
    refine xr_go hcc rfl rfl ?_
    refine xr_s_2 hcc rfl rfl c_isUnder_1_2 ?_
    refine xr_if_eq hcc rfl (by decide) (fun c3 => ?_) (fun c3 => by exfalso; omega)
    refine xr_go hcc rfl rfl ?_
    refine xr_go hcc rfl rfl ?_
    refine xr_icmp_ne hcc rfl (by decide) (by decide) (fun c4 => ?_) (fun c4 => by exfalso; omega)
    refine xr_go hcc rfl rfl ?_
    refine xr_go hcc rfl rfl ?_
    refine xr_icmp_ne hcc rfl (by decide) (by decide) (fun c5 => ?_) (fun c5 => by exfalso; omega)
    refine xr_go hcc rfl rfl ?_
    refine xr_go hcc rfl rfl ?_
    refine xr_icmp_ne hcc rfl (by decide) (by decide) (fun c6 => ?_) (fun c6 => by exfalso; omega)
    refine xr_go hcc rfl rfl ?_
    refine xr_ret hcc rfl rfl ?_
    refine ⟨?_, rfl, rfl⟩
    first
      | (have hs : s = 0 := by omega
         subst hs
         first
           | rfl
           | (simp [s_md, *] <;> omega))
      | (simp [s_md, *] <;> omega)
  · skip
    refine xr_go hcc rfl rfl ?_
    refine xr_go hcc rfl rfl ?_
    refine xr_s1_3 hcc rfl rfl rfl ?_
    refine xr_go hcc rfl rfl ?_
    refine xr_go hcc rfl rfl ?_
    refine xr_s_2 hcc rfl rfl c_isUnder_1_1 ?_
    refine xr_if_eq hcc rfl (by decide) (fun c7 => by exfalso; omega) (fun c7 => ?_)
    refine xr_go hcc rfl rfl ?_
    refine xr_go hcc rfl rfl ?_
    refine xr_go hcc rfl rfl ?_
    refine xr_go hcc rfl rfl ?_
    refine xr_go hcc rfl rfl ?_
    refine xr_s1_3 hcc rfl rfl rfl ?_
    refine xr_go hcc rfl rfl ?_
    refine xr_go hcc rfl rfl ?_
    refine xr_s_2 hcc rfl rfl c_isUnder_1_2 ?_
    refine xr_if_eq hcc rfl (by decide) (fun c8 => ?_) (fun c8 => by exfalso; omega)
    refine xr_go hcc rfl rfl ?_
    refine xr_go hcc rfl rfl ?_
    refine xr_icmp_ne hcc rfl (by decide) (by decide) (fun c9 => ?_) (fun c9 => by exfalso; omega)
    refine xr_go hcc rfl rfl ?_
    refine xr_go hcc rfl rfl ?_
    refine xr_icmp_ne hcc rfl (by decide) (by decide) (fun c10 => ?_) (fun c10 => by exfalso; omega)
    refine xr_go hcc rfl rfl ?_
    refine xr_go hcc rfl rfl ?_
    refine xr_icmp_ne hcc rfl (by decide) (by decide) (fun c11 => ?_) (fun c11 => by exfalso; omega)
    refine xr_go hcc rfl rfl ?_
    refine xr_ret hcc rfl rfl ?_
    refine ⟨?_, rfl, rfl⟩
    first
      | (have hs : s = 0 := by omega
         subst hs
         first
           | rfl
           | (simp [s_md, *] <;> omega))
      | (simp [s_md, *] <;> omega)

theorem c_made_2 {n : Nat} {M : ew_Mem} {s c : Int} (hs : ew_in s) (hc : ew_in c) : ew_FM 35 [(0, 2), (0, s), (0, c)] n M (0, s_md 2 s (if c = 0 then 1 else 0)) n M := by
  have hcc := ew_c_35
  show ew_X 35 0 [(0, 2), (0, s), (0, c), (5, 0)] [] n M _
  refine xr_go hcc rfl rfl ?_
  refine xr_if_ne hcc rfl (by omega) (fun c1 => ?_) (fun c1 => ?_)
  · skip
    refine xr_go hcc rfl rfl ?_
    refine xr_s1_3 hcc rfl rfl rfl ?_
    refine xr_go hcc rfl rfl ?_
    refine xr_go hcc rfl rfl ?_
    refine xr_s_2 hcc rfl rfl c_isUnder_2_1 ?_
    refine xr_if_eq hcc rfl (by decide) (fun c2 => ?_) (fun c2 => by exfalso; omega)
    refine xr_go hcc rfl rfl ?_
    refine xr_go hcc rfl rfl ?_
    refine xr_s_2 hcc rfl rfl c_isUnder_2_2 ?_
    refine xr_if_eq hcc rfl (by decide) (fun c3 => by exfalso; omega) (fun c3 => ?_)
    refine xr_go hcc rfl rfl ?_
    refine xr_go hcc rfl rfl ?_
    refine xr_go hcc rfl rfl ?_
    refine xr_go hcc rfl rfl ?_
    refine xr_go hcc rfl rfl ?_
    refine xr_s1_3 hcc rfl rfl rfl ?_
    refine xr_go hcc rfl rfl ?_
    refine xr_go hcc rfl rfl ?_
    refine xr_icmp_ne hcc rfl (by decide) (by decide) (fun c4 => ?_) (fun c4 => by exfalso; omega)
    refine xr_go hcc rfl rfl ?_
    refine xr_go hcc rfl rfl ?_
    refine xr_icmp_ne hcc rfl (by decide) (by decide) (fun c5 => ?_) (fun c5 => by exfalso; omega)
    refine xr_go hcc rfl rfl ?_
    refine xr_go hcc rfl rfl ?_
    refine xr_icmp_ne hcc rfl (by decide) (by decide) (fun c6 => ?_) (fun c6 => by exfalso; omega)
    refine xr_go hcc rfl rfl ?_
    refine xr_ret hcc rfl rfl ?_
    refine ⟨?_, rfl, rfl⟩
    first
      | (have hs : s = 0 := by omega
         subst hs
         first
           | rfl
           | (simp [s_md, *] <;> omega))
      | (simp [s_md, *] <;> omega)
  · skip
    refine xr_go hcc rfl rfl ?_
    refine xr_go hcc rfl rfl ?_
    refine xr_s1_3 hcc rfl rfl rfl ?_
    refine xr_go hcc rfl rfl ?_
    refine xr_go hcc rfl rfl ?_
    refine xr_s_2 hcc rfl rfl c_isUnder_2_1 ?_
    refine xr_if_eq hcc rfl (by decide) (fun c7 => ?_) (fun c7 => by exfalso; omega)
    refine xr_go hcc rfl rfl ?_
    refine xr_go hcc rfl rfl ?_
    refine xr_s_2 hcc rfl rfl c_isUnder_2_2 ?_
    refine xr_if_eq hcc rfl (by decide) (fun c8 => by exfalso; omega) (fun c8 => ?_)
    refine xr_go hcc rfl rfl ?_
    refine xr_go hcc rfl rfl ?_
    refine xr_go hcc rfl rfl ?_
    refine xr_go hcc rfl rfl ?_
    refine xr_go hcc rfl rfl ?_
    refine xr_s1_3 hcc rfl rfl rfl ?_
    refine xr_go hcc rfl rfl ?_
    refine xr_go hcc rfl rfl ?_
    refine xr_icmp_ne hcc rfl (by decide) (by decide) (fun c9 => ?_) (fun c9 => by exfalso; omega)
    refine xr_go hcc rfl rfl ?_
    refine xr_go hcc rfl rfl ?_
    refine xr_icmp_ne hcc rfl (by decide) (by decide) (fun c10 => ?_) (fun c10 => by exfalso; omega)
    refine xr_go hcc rfl rfl ?_
    refine xr_go hcc rfl rfl ?_
    refine xr_icmp_ne hcc rfl (by decide) (by decide) (fun c11 => ?_) (fun c11 => by exfalso; omega)
    refine xr_go hcc rfl rfl ?_
    refine xr_ret hcc rfl rfl ?_
    refine ⟨?_, rfl, rfl⟩
    first
      | (have hs : s = 0 := by omega
         subst hs
         first
           | rfl
           | (simp [s_md, *] <;> omega))
      | (simp [s_md, *] <;> omega)

theorem c_made_3 {n : Nat} {M : ew_Mem} {s c : Int} (hs : ew_in s) (hc : ew_in c) : ew_FM 35 [(0, 3), (0, s), (0, c)] n M (0, s_md 3 s (if c = 0 then 1 else 0)) n M := by
  have hcc := ew_c_35
  show ew_X 35 0 [(0, 3), (0, s), (0, c), (5, 0)] [] n M _
  refine xr_go hcc rfl rfl ?_
  refine xr_if_ne hcc rfl (by omega) (fun c1 => ?_) (fun c1 => ?_)
  · skip
    refine xr_go hcc rfl rfl ?_
    refine xr_s1_3 hcc rfl rfl rfl ?_
    refine xr_go hcc rfl rfl ?_
    refine xr_go hcc rfl rfl ?_
    refine xr_s_2 hcc rfl rfl c_isUnder_3_1 ?_
    refine xr_if_eq hcc rfl (by decide) (fun c2 => by exfalso; omega) (fun c2 => ?_)
    refine xr_go hcc rfl rfl ?_
    refine xr_go hcc rfl rfl ?_
    refine xr_go hcc rfl rfl ?_
    refine xr_go hcc rfl rfl ?_
    refine xr_go hcc rfl rfl ?_
    refine xr_s1_3 hcc rfl rfl rfl ?_
    refine xr_go hcc rfl rfl ?_
    refine xr_go hcc rfl rfl ?_
    refine xr_s_2 hcc rfl rfl c_isUnder_3_2 ?_
    refine xr_if_eq hcc rfl (by decide) (fun c3 => ?_) (fun c3 => by exfalso; omega)
    refine xr_go hcc rfl rfl ?_
    refine xr_go hcc rfl rfl ?_
    refine xr_icmp_ne hcc rfl (by decide) (by decide) (fun c4 => by exfalso; omega) (fun c4 => ?_)
    refine xr_go hcc rfl rfl ?_
    refine xr_go hcc rfl rfl ?_
    refine xr_go hcc rfl rfl ?_
    refine xr_go hcc rfl rfl ?_
    refine xr_go hcc rfl rfl ?_
    refine xr_s1_3 hcc rfl rfl rfl ?_
    refine xr_go hcc rfl rfl ?_
    refine xr_go hcc rfl rfl ?_
    refine xr_icmp_ne hcc rfl (by decide) (by decide) (fun c5 => ?_) (fun c5 => by exfalso; omega)
    refine xr_go hcc rfl rfl ?_
    refine xr_go hcc rfl rfl ?_
    refine xr_icmp_ne hcc rfl (by decide) (by decide) (fun c6 => ?_) (fun c6 => by exfalso; omega)
    refine xr_go hcc rfl rfl ?_
    refine xr_ret hcc rfl rfl ?_
    refine ⟨?_, rfl, rfl⟩
    first
      | (have hs : s = 0 := by omega
         subst hs
         first
           | rfl
           | (simp [s_md, *] <;> omega))
      | (simp [s_md, *] <;> omega)
  · skip
    refine xr_go hcc rfl rfl ?_
    refine xr_go hcc rfl rfl ?_
    refine xr_s1_3 hcc rfl rfl rfl ?_
    refine xr_go hcc rfl rfl ?_
    refine xr_go hcc rfl rfl ?_
    refine xr_s_2 hcc rfl rfl c_isUnder_3_1 ?_
    refine xr_if_eq hcc rfl (by decide) (fun c7 => by exfalso; omega) (fun c7 => ?_)
    refine xr_go hcc rfl rfl ?_
    refine xr_go hcc rfl rfl ?_
    refine xr_go hcc rfl rfl ?_
    refine xr_go hcc rfl rfl ?_
    refine xr_go hcc rfl rfl ?_
    refine xr_s1_3 hcc rfl rfl rfl ?_
    refine xr_go hcc rfl rfl ?_
    refine xr_go hcc rfl rfl ?_
    refine xr_s_2 hcc rfl rfl c_isUnder_3_2 ?_
    refine xr_if_eq hcc rfl (by decide) (fun c8 => ?_) (fun c8 => by exfalso; omega)
    refine xr_go hcc rfl rfl ?_
    refine xr_go hcc rfl rfl ?_
    refine xr_icmp_ne hcc rfl (by decide) (by decide) (fun c9 => by exfalso; omega) (fun c9 => ?_)
    refine xr_go hcc rfl rfl ?_
    refine xr_go hcc rfl rfl ?_
    refine xr_go hcc rfl rfl ?_
    refine xr_go hcc rfl rfl ?_
    refine xr_go hcc rfl rfl ?_
    refine xr_s1_3 hcc rfl rfl rfl ?_
    refine xr_go hcc rfl rfl ?_
    refine xr_go hcc rfl rfl ?_
    refine xr_icmp_ne hcc rfl (by decide) (by decide) (fun c10 => ?_) (fun c10 => by exfalso; omega)
    refine xr_go hcc rfl rfl ?_
    refine xr_go hcc rfl rfl ?_
    refine xr_icmp_ne hcc rfl (by decide) (by decide) (fun c11 => ?_) (fun c11 => by exfalso; omega)
    refine xr_go hcc rfl rfl ?_
    refine xr_ret hcc rfl rfl ?_
    refine ⟨?_, rfl, rfl⟩
    first
      | (have hs : s = 0 := by omega
         subst hs
         first
           | rfl
           | (simp [s_md, *] <;> omega))
      | (simp [s_md, *] <;> omega)

theorem c_made_4 {n : Nat} {M : ew_Mem} {s c : Int} (hs : ew_in s) (hc : ew_in c) : ew_FM 35 [(0, 4), (0, s), (0, c)] n M (0, s_md 4 s (if c = 0 then 1 else 0)) n M := by
  have hcc := ew_c_35
  show ew_X 35 0 [(0, 4), (0, s), (0, c), (5, 0)] [] n M _
  refine xr_go hcc rfl rfl ?_
  refine xr_if_ne hcc rfl (by omega) (fun c1 => ?_) (fun c1 => ?_)
  · skip
    refine xr_go hcc rfl rfl ?_
    refine xr_s1_3 hcc rfl rfl rfl ?_
    refine xr_go hcc rfl rfl ?_
    refine xr_go hcc rfl rfl ?_
    refine xr_s_2 hcc rfl rfl c_isUnder_4_1 ?_
    refine xr_if_eq hcc rfl (by decide) (fun c2 => ?_) (fun c2 => by exfalso; omega)
    refine xr_go hcc rfl rfl ?_
    refine xr_go hcc rfl rfl ?_
    refine xr_s_2 hcc rfl rfl c_isUnder_4_2 ?_
    refine xr_if_eq hcc rfl (by decide) (fun c3 => by exfalso; omega) (fun c3 => ?_)
    refine xr_go hcc rfl rfl ?_
    refine xr_go hcc rfl rfl ?_
    refine xr_go hcc rfl rfl ?_
    refine xr_go hcc rfl rfl ?_
    refine xr_go hcc rfl rfl ?_
    refine xr_s1_3 hcc rfl rfl rfl ?_
    refine xr_go hcc rfl rfl ?_
    refine xr_go hcc rfl rfl ?_
    refine xr_icmp_ne hcc rfl (by decide) (by decide) (fun c4 => ?_) (fun c4 => by exfalso; omega)
    refine xr_go hcc rfl rfl ?_
    refine xr_go hcc rfl rfl ?_
    refine xr_icmp_ne hcc rfl (by decide) (by decide) (fun c5 => by exfalso; omega) (fun c5 => ?_)
    refine xr_go hcc rfl rfl ?_
    refine xr_go hcc rfl rfl ?_
    refine xr_go hcc rfl rfl ?_
    refine xr_go hcc rfl rfl ?_
    refine xr_go hcc rfl rfl ?_
    refine xr_s1_3 hcc rfl rfl rfl ?_
    refine xr_go hcc rfl rfl ?_
    refine xr_go hcc rfl rfl ?_
    refine xr_icmp_ne hcc rfl (by decide) (by decide) (fun c6 => by exfalso; omega) (fun c6 => ?_)
    refine xr_go hcc rfl rfl ?_
    refine xr_if_ne hcc rfl (by omega) (fun c7 => ?_) (fun c7 => ?_)
    · skip
      refine xr_go hcc rfl rfl ?_
      refine xr_ret hcc rfl rfl ?_
      refine ⟨?_, rfl, rfl⟩
      first
        | (have hs : s = 0 := by omega
           subst hs
           first
             | rfl
             | (simp [s_md, *] <;> omega))
        | (simp [s_md, *] <;> omega)
    · skip
      refine xr_go hcc rfl rfl ?_
      refine xr_go hcc rfl rfl ?_
      refine xr_go hcc rfl rfl ?_
      refine xr_go hcc rfl rfl ?_
      refine xr_go hcc rfl rfl ?_
      refine xr_go hcc rfl rfl ?_
      refine xr_ret hcc rfl rfl ?_
      refine ⟨?_, rfl, rfl⟩
      first
        | (have hs : s = 0 := by omega
           subst hs
           first
             | rfl
             | (simp [s_md, *] <;> omega))
        | (simp [s_md, *] <;> omega)
  · skip
    refine xr_go hcc rfl rfl ?_
    refine xr_go hcc rfl rfl ?_
    refine xr_s1_3 hcc rfl rfl rfl ?_
    refine xr_go hcc rfl rfl ?_
    refine xr_go hcc rfl rfl ?_
    refine xr_s_2 hcc rfl rfl c_isUnder_4_1 ?_
    refine xr_if_eq hcc rfl (by decide) (fun c8 => ?_) (fun c8 => by exfalso; omega)
    refine xr_go hcc rfl rfl ?_
    refine xr_go hcc rfl rfl ?_
    refine xr_s_2 hcc rfl rfl c_isUnder_4_2 ?_
    refine xr_if_eq hcc rfl (by decide) (fun c9 => by exfalso; omega) (fun c9 => ?_)
    refine xr_go hcc rfl rfl ?_
    refine xr_go hcc rfl rfl ?_
    refine xr_go hcc rfl rfl ?_
    refine xr_go hcc rfl rfl ?_
    refine xr_go hcc rfl rfl ?_
    refine xr_s1_3 hcc rfl rfl rfl ?_
    refine xr_go hcc rfl rfl ?_
    refine xr_go hcc rfl rfl ?_
    refine xr_icmp_ne hcc rfl (by decide) (by decide) (fun c10 => ?_) (fun c10 => by exfalso; omega)
    refine xr_go hcc rfl rfl ?_
    refine xr_go hcc rfl rfl ?_
    refine xr_icmp_ne hcc rfl (by decide) (by decide) (fun c11 => by exfalso; omega) (fun c11 => ?_)
    refine xr_go hcc rfl rfl ?_
    refine xr_go hcc rfl rfl ?_
    refine xr_go hcc rfl rfl ?_
    refine xr_go hcc rfl rfl ?_
    refine xr_go hcc rfl rfl ?_
    refine xr_s1_3 hcc rfl rfl rfl ?_
    refine xr_go hcc rfl rfl ?_
    refine xr_go hcc rfl rfl ?_
    refine xr_icmp_ne hcc rfl (by decide) (by decide) (fun c12 => by exfalso; omega) (fun c12 => ?_)
    refine xr_go hcc rfl rfl ?_
    refine xr_if_ne hcc rfl (by omega) (fun c13 => ?_) (fun c13 => ?_)
    · skip
      refine xr_go hcc rfl rfl ?_
      refine xr_ret hcc rfl rfl ?_
      refine ⟨?_, rfl, rfl⟩
      first
        | (have hs : s = 0 := by omega
           subst hs
           first
             | rfl
             | (simp [s_md, *] <;> omega))
        | (simp [s_md, *] <;> omega)
    · skip
      refine xr_go hcc rfl rfl ?_
      refine xr_go hcc rfl rfl ?_
      refine xr_go hcc rfl rfl ?_
      refine xr_go hcc rfl rfl ?_
      refine xr_go hcc rfl rfl ?_
      refine xr_go hcc rfl rfl ?_
      refine xr_ret hcc rfl rfl ?_
      refine ⟨?_, rfl, rfl⟩
      first
        | (have hs : s = 0 := by omega
           subst hs
           first
             | rfl
             | (simp [s_md, *] <;> omega))
        | (simp [s_md, *] <;> omega)

theorem m_made_0 {n : Nat} {M : ew_Mem} {s c : Int} (hs : ew_in s) (hc : c = 0 ∨ c = 1) : ew_FM 152 [(0, 0), (0, s), (0, c)] n M (0, s_md 0 s c) n M := by
  have hcc := ew_c_152
  show ew_X 152 0 [(0, 0), (0, s), (0, c), (5, 0)] [] n M _
  refine xr_go hcc rfl rfl ?_
  refine xr_if_ne hcc rfl (by omega) (fun c1 => ?_) (fun c1 => ?_)
  · skip
    refine xr_go hcc rfl rfl ?_
    refine xr_s1_3 hcc rfl rfl rfl ?_
    refine xr_go hcc rfl rfl ?_
    refine xr_go hcc rfl rfl ?_
    refine xr_icmp_eq hcc rfl (by decide) (by decide) (fun c2 => by exfalso; omega) (fun c2 => ?_)
    refine xr_go hcc rfl rfl ?_
    refine xr_go hcc rfl rfl ?_
    refine xr_icmp_ne hcc rfl (by decide) (by decide) (fun c3 => ?_) (fun c3 => by exfalso; omega)
    refine xr_go hcc rfl rfl ?_
    refine xr_go hcc rfl rfl ?_
    refine xr_icmp_eq hcc rfl (by decide) (by decide) (fun c4 => by exfalso; omega) (fun c4 => ?_)
    refine xr_go hcc rfl rfl ?_
    refine xr_go hcc rfl rfl ?_
    refine xr_icmp_ne hcc rfl (by decide) (by decide) (fun c5 => ?_) (fun c5 => by exfalso; omega)
    refine xr_go hcc rfl rfl ?_
    refine xr_go hcc rfl rfl ?_
    refine xr_icmp_ne hcc rfl (by decide) (by decide) (fun c6 => ?_) (fun c6 => by exfalso; omega)
    refine xr_go hcc rfl rfl ?_
    refine xr_go hcc rfl rfl ?_
    refine xr_icmp_ne hcc rfl (by decide) (by decide) (fun c7 => ?_) (fun c7 => by exfalso; omega)
    refine xr_go hcc rfl rfl ?_
    refine xr_go hcc rfl rfl ?_
    refine xr_icmp_ne hcc rfl (by decide) (by decide) (fun c8 => ?_) (fun c8 => by exfalso; omega)
    refine xr_go hcc rfl rfl ?_
    refine xr_ret hcc rfl rfl ?_
    refine ⟨?_, rfl, rfl⟩
    first
      | (have hs : s = 0 := by omega
         subst hs
         first
           | rfl
           | (simp [s_md, *] <;> omega))
      | (simp [s_md, *] <;> omega)
  · skip
    refine xr_go hcc rfl rfl ?_
    refine xr_go hcc rfl rfl ?_
    refine xr_s1_3 hcc rfl rfl rfl ?_
    refine xr_go hcc rfl rfl ?_
    refine xr_go hcc rfl rfl ?_
    refine xr_icmp_eq hcc rfl (by decide) (by decide) (fun c9 => by exfalso; omega) (fun c9 => ?_)
    refine xr_go hcc rfl rfl ?_
    refine xr_go hcc rfl rfl ?_
    refine xr_icmp_ne hcc rfl (by decide) (by decide) (fun c10 => ?_) (fun c10 => by exfalso; omega)
    refine xr_go hcc rfl rfl ?_
    refine xr_go hcc rfl rfl ?_
    refine xr_icmp_eq hcc rfl (by decide) (by decide) (fun c11 => by exfalso; omega) (fun c11 => ?_)
    refine xr_go hcc rfl rfl ?_
    refine xr_go hcc rfl rfl ?_
    refine xr_icmp_ne hcc rfl (by decide) (by decide) (fun c12 => ?_) (fun c12 => by exfalso; omega)
    refine xr_go hcc rfl rfl ?_
    refine xr_go hcc rfl rfl ?_
    refine xr_icmp_ne hcc rfl (by decide) (by decide) (fun c13 => ?_) (fun c13 => by exfalso; omega)
    refine xr_go hcc rfl rfl ?_
    refine xr_go hcc rfl rfl ?_
    refine xr_icmp_ne hcc rfl (by decide) (by decide) (fun c14 => ?_) (fun c14 => by exfalso; omega)
    refine xr_go hcc rfl rfl ?_
    refine xr_go hcc rfl rfl ?_
    refine xr_icmp_ne hcc rfl (by decide) (by decide) (fun c15 => ?_) (fun c15 => by exfalso; omega)
    refine xr_go hcc rfl rfl ?_
    refine xr_ret hcc rfl rfl ?_
    refine ⟨?_, rfl, rfl⟩
    first
      | (have hs : s = 0 := by omega
         subst hs
         first
           | rfl
           | (simp [s_md, *] <;> omega))
      | (simp [s_md, *] <;> omega)

theorem m_made_1 {n : Nat} {M : ew_Mem} {s c : Int} (hs : ew_in s) (hc : c = 0 ∨ c = 1) : ew_FM 152 [(0, 1), (0, s), (0, c)] n M (0, s_md 1 s c) n M := by
  have hcc := ew_c_152
  show ew_X 152 0 [(0, 1), (0, s), (0, c), (5, 0)] [] n M _
  refine xr_go hcc rfl rfl ?_
  refine xr_if_ne hcc rfl (by omega) (fun c1 => ?_) (fun c1 => ?_)
  · skip
    refine xr_go hcc rfl rfl ?_
    refine xr_s1_3 hcc rfl rfl rfl ?_
    refine xr_go hcc rfl rfl ?_
    refine xr_go hcc rfl rfl ?_
    refine xr_icmp_eq hcc rfl (by decide) (by decide) (fun c2 => ?_) (fun c2 => by exfalso; omega)
    refine xr_go hcc rfl rfl ?_
    refine xr_go hcc rfl rfl ?_
    refine xr_go hcc rfl rfl ?_
    refine xr_go hcc rfl rfl ?_
    refine xr_go hcc rfl rfl ?_
    refine xr_s1_3 hcc rfl rfl rfl ?_
    refine xr_go hcc rfl rfl ?_
    refine xr_go hcc rfl rfl ?_
    refine xr_icmp_eq hcc rfl (by decide) (by decide) (fun c3 => by exfalso; omega) (fun c3 => ?_)
    refine xr_go hcc rfl rfl ?_
    refine xr_go hcc rfl rfl ?_
    refine xr_icmp_ne hcc rfl (by decide) (by decide) (fun c4 => ?_) (fun c4 => by exfalso; omega)
    refine xr_go hcc rfl rfl ?_
    refine xr_go hcc rfl rfl ?_
    refine xr_icmp_ne hcc rfl (by decide) (by decide) (fun c5 => ?_) (fun c5 => by exfalso; omega)
    refine xr_go hcc rfl rfl ?_
    refine xr_go hcc rfl rfl ?_
    refine xr_icmp_ne hcc rfl (by decide) (by decide) (fun c6 => ?_) (fun c6 => by exfalso; omega)
    refine xr_go hcc rfl rfl ?_
    refine xr_go hcc rfl rfl ?_
    refine xr_icmp_ne hcc rfl (by decide) (by decide) (fun c7 => ?_) (fun c7 => by exfalso; omega)
    refine xr_go hcc rfl rfl ?_
    refine xr_ret hcc rfl rfl ?_
    refine ⟨?_, rfl, rfl⟩
    first
      | (have hs : s = 0 := by omega
         subst hs
         first
           | rfl
           | (simp [s_md, *] <;> omega))
      | (simp [s_md, *] <;> omega)
  · skip
    refine xr_go hcc rfl rfl ?_
    refine xr_go hcc rfl rfl ?_
    refine xr_s1_3 hcc rfl rfl rfl ?_
    refine xr_go hcc rfl rfl ?_
    refine xr_go hcc rfl rfl ?_
    refine xr_icmp_eq hcc rfl (by decide) (by decide) (fun c8 => ?_) (fun c8 => by exfalso; omega)
    refine xr_go hcc rfl rfl ?_
    refine xr_go hcc rfl rfl ?_
    refine xr_go hcc rfl rfl ?_
    refine xr_go hcc rfl rfl ?_
    refine xr_go hcc rfl rfl ?_
    refine xr_s1_3 hcc rfl rfl rfl ?_
    refine xr_go hcc rfl rfl ?_
    refine xr_go hcc rfl rfl ?_
    refine xr_icmp_eq hcc rfl (by decide) (by decide) (fun c9 => by exfalso; omega) (fun c9 => ?_)
    refine xr_go hcc rfl rfl ?_
    refine xr_go hcc rfl rfl ?_
    refine xr_icmp_ne hcc rfl (by decide) (by decide) (fun c10 => ?_) (fun c10 => by exfalso; omega)
    refine xr_go hcc rfl rfl ?_
    refine xr_go hcc rfl rfl ?_
    refine xr_icmp_ne hcc rfl (by decide) (by decide) (fun c11 => ?_) (fun c11 => by exfalso; omega)
    refine xr_go hcc rfl rfl ?_
    refine xr_go hcc rfl rfl ?_
    refine xr_icmp_ne hcc rfl (by decide) (by decide) (fun c12 => ?_) (fun c12 => by exfalso; omega)
    refine xr_go hcc rfl rfl ?_
    refine xr_go hcc rfl rfl ?_
    refine xr_icmp_ne hcc rfl (by decide) (by decide) (fun c13 => ?_) (fun c13 => by exfalso; omega)
    refine xr_go hcc rfl rfl ?_
    refine xr_ret hcc rfl rfl ?_
    refine ⟨?_, rfl, rfl⟩
    first
      | (have hs : s = 0 := by omega
         subst hs
         first
           | rfl
           | (simp [s_md, *] <;> omega))
      | (simp [s_md, *] <;> omega)

theorem m_made_2 {n : Nat} {M : ew_Mem} {s c : Int} (hs : ew_in s) (hc : c = 0 ∨ c = 1) : ew_FM 152 [(0, 2), (0, s), (0, c)] n M (0, s_md 2 s c) n M := by
  have hcc := ew_c_152
  show ew_X 152 0 [(0, 2), (0, s), (0, c), (5, 0)] [] n M _
  refine xr_go hcc rfl rfl ?_
  refine xr_if_ne hcc rfl (by omega) (fun c1 => ?_) (fun c1 => ?_)
  · skip
    refine xr_go hcc rfl rfl ?_
    refine xr_s1_3 hcc rfl rfl rfl ?_
    refine xr_go hcc rfl rfl ?_
    refine xr_go hcc rfl rfl ?_
    refine xr_icmp_eq hcc rfl (by decide) (by decide) (fun c2 => by exfalso; omega) (fun c2 => ?_)
    refine xr_go hcc rfl rfl ?_
    refine xr_go hcc rfl rfl ?_
    refine xr_icmp_ne hcc rfl (by decide) (by decide) (fun c3 => ?_) (fun c3 => by exfalso; omega)
    refine xr_go hcc rfl rfl ?_
    refine xr_go hcc rfl rfl ?_
    refine xr_icmp_eq hcc rfl (by decide) (by decide) (fun c4 => ?_) (fun c4 => by exfalso; omega)
    refine xr_go hcc rfl rfl ?_
    refine xr_go hcc rfl rfl ?_
    refine xr_go hcc rfl rfl ?_
    refine xr_go hcc rfl rfl ?_
    refine xr_go hcc rfl rfl ?_
    refine xr_s1_3 hcc rfl rfl rfl ?_
    refine xr_go hcc rfl rfl ?_
    refine xr_go hcc rfl rfl ?_
    refine xr_icmp_ne hcc rfl (by decide) (by decide) (fun c5 => ?_) (fun c5 => by exfalso; omega)
    refine xr_go hcc rfl rfl ?_
    refine xr_go hcc rfl rfl ?_
    refine xr_icmp_ne hcc rfl (by decide) (by decide) (fun c6 => ?_) (fun c6 => by exfalso; omega)
    refine xr_go hcc rfl rfl ?_
    refine xr_go hcc rfl rfl ?_
    refine xr_icmp_ne hcc rfl (by decide) (by decide) (fun c7 => ?_) (fun c7 => by exfalso; omega)
    refine xr_go hcc rfl rfl ?_
    refine xr_ret hcc rfl rfl ?_
    refine ⟨?_, rfl, rfl⟩
    first
      | (have hs : s = 0 := by omega
         subst hs
         first
           | rfl
           | (simp [s_md, *] <;> omega))
      | (simp [s_md, *] <;> omega)
  · skip
    refine xr_go hcc rfl rfl ?_
    refine xr_go hcc rfl rfl ?_
    refine xr_s1_3 hcc rfl rfl rfl ?_
    refine xr_go hcc rfl rfl ?_
    refine xr_go hcc rfl rfl ?_
    refine xr_icmp_eq hcc rfl (by decide) (by decide) (fun c8 => by exfalso; omega) (fun c8 => ?_)
    refine xr_go hcc rfl rfl ?_
    refine xr_go hcc rfl rfl ?_
    refine xr_icmp_ne hcc rfl (by decide) (by decide) (fun c9 => ?_) (fun c9 => by exfalso; omega)
    refine xr_go hcc rfl rfl ?_
    refine xr_go hcc rfl rfl ?_
    refine xr_icmp_eq hcc rfl (by decide) (by decide) (fun c10 => ?_) (fun c10 => by exfalso; omega)
    refine xr_go hcc rfl rfl ?_
    refine xr_go hcc rfl rfl ?_
    refine xr_go hcc rfl rfl ?_
    refine xr_go hcc rfl rfl ?_
    refine xr_go hcc rfl rfl ?_
    refine xr_s1_3 hcc rfl rfl rfl ?_
    refine xr_go hcc rfl rfl ?_
    refine xr_go hcc rfl rfl ?_
    refine xr_icmp_ne hcc rfl (by decide) (by decide) (fun c11 => ?_) (fun c11 => by exfalso; omega)
    refine xr_go hcc rfl rfl ?_
    refine xr_go hcc rfl rfl ?_
    refine xr_icmp_ne hcc rfl (by decide) (by decide) (fun c12 => ?_) (fun c12 => by exfalso; omega)
    refine xr_go hcc rfl rfl ?_
    refine xr_go hcc rfl rfl ?_
    refine xr_icmp_ne hcc rfl (by decide) (by decide) (fun c13 => ?_) (fun c13 => by exfalso; omega)
    refine xr_go hcc rfl rfl ?_
    refine xr_ret hcc rfl rfl ?_
    refine ⟨?_, rfl, rfl⟩
    first
      | (have hs : s = 0 := by omega
         subst hs
         first
           | rfl
           | (simp [s_md, *] <;> omega))
      | (simp [s_md, *] <;> omega)

theorem m_made_3 {n : Nat} {M : ew_Mem} {s c : Int} (hs : ew_in s) (hc : c = 0 ∨ c = 1) : ew_FM 152 [(0, 3), (0, s), (0, c)] n M (0, s_md 3 s c) n M := by
  have hcc := ew_c_152
  show ew_X 152 0 [(0, 3), (0, s), (0, c), (5, 0)] [] n M _
  refine xr_go hcc rfl rfl ?_
  refine xr_if_ne hcc rfl (by omega) (fun c1 => ?_) (fun c1 => ?_)
  · skip
    refine xr_go hcc rfl rfl ?_
    refine xr_s1_3 hcc rfl rfl rfl ?_
    refine xr_go hcc rfl rfl ?_
    refine xr_go hcc rfl rfl ?_
    refine xr_icmp_eq hcc rfl (by decide) (by decide) (fun c2 => by exfalso; omega) (fun c2 => ?_)
    refine xr_go hcc rfl rfl ?_
    refine xr_go hcc rfl rfl ?_
    refine xr_icmp_ne hcc rfl (by decide) (by decide) (fun c3 => by exfalso; omega) (fun c3 => ?_)
    refine xr_go hcc rfl rfl ?_
    refine xr_go hcc rfl rfl ?_
    refine xr_go hcc rfl rfl ?_
    refine xr_go hcc rfl rfl ?_
    refine xr_go hcc rfl rfl ?_
    refine xr_s1_3 hcc rfl rfl rfl ?_
    refine xr_go hcc rfl rfl ?_
    refine xr_go hcc rfl rfl ?_
    refine xr_icmp_eq hcc rfl (by decide) (by decide) (fun c4 => by exfalso; omega) (fun c4 => ?_)
    refine xr_go hcc rfl rfl ?_
    refine xr_go hcc rfl rfl ?_
    refine xr_icmp_ne hcc rfl (by decide) (by decide) (fun c5 => ?_) (fun c5 => by exfalso; omega)
    refine xr_go hcc rfl rfl ?_
    refine xr_go hcc rfl rfl ?_
    refine xr_icmp_ne hcc rfl (by decide) (by decide) (fun c6 => by exfalso; omega) (fun c6 => ?_)
    refine xr_go hcc rfl rfl ?_
    refine xr_go hcc rfl rfl ?_
    refine xr_go hcc rfl rfl ?_
    refine xr_go hcc rfl rfl ?_
    refine xr_go hcc rfl rfl ?_
    refine xr_s1_3 hcc rfl rfl rfl ?_
    refine xr_go hcc rfl rfl ?_
    refine xr_go hcc rfl rfl ?_
    refine xr_icmp_ne hcc rfl (by decide) (by decide) (fun c7 => ?_) (fun c7 => by exfalso; omega)
    refine xr_go hcc rfl rfl ?_
    refine xr_go hcc rfl rfl ?_
    refine xr_icmp_ne hcc rfl (by decide) (by decide) (fun c8 => ?_) (fun c8 => by exfalso; omega)
    refine xr_go hcc rfl rfl ?_
    refine xr_ret hcc rfl rfl ?_
    refine ⟨?_, rfl, rfl⟩
    first
      | (have hs : s = 0 := by omega
         subst hs
         first
           | rfl
           | (simp [s_md, *] <;> omega))
      | (simp [s_md, *] <;> omega)
  · skip
    refine xr_go hcc rfl rfl ?_
    refine xr_go hcc rfl rfl ?_
    refine xr_s1_3 hcc rfl rfl rfl ?_
    refine xr_go hcc rfl rfl ?_
    refine xr_go hcc rfl rfl ?_
    refine xr_icmp_eq hcc rfl (by decide) (by decide) (fun c9 => by exfalso; omega) (fun c9 => ?_)
    refine xr_go hcc rfl rfl ?_
    refine xr_go hcc rfl rfl ?_
    refine xr_icmp_ne hcc rfl (by decide) (by decide) (fun c10 => by exfalso; omega) (fun c10 => ?_)
    refine xr_go hcc rfl rfl ?_
    refine xr_go hcc rfl rfl ?_
    refine xr_go hcc rfl rfl ?_
    refine xr_go hcc rfl rfl ?_
    refine xr_go hcc rfl rfl ?_
    refine xr_s1_3 hcc rfl rfl rfl ?_
    refine xr_go hcc rfl rfl ?_
    refine xr_go hcc rfl rfl ?_
    refine xr_icmp_eq hcc rfl (by decide) (by decide) (fun c11 => by exfalso; omega) (fun c11 => ?_)
    refine xr_go hcc rfl rfl ?_
    refine xr_go hcc rfl rfl ?_
    refine xr_icmp_ne hcc rfl (by decide) (by decide) (fun c12 => ?_) (fun c12 => by exfalso; omega)
    refine xr_go hcc rfl rfl ?_
    refine xr_go hcc rfl rfl ?_
    refine xr_icmp_ne hcc rfl (by decide) (by decide) (fun c13 => by exfalso; omega) (fun c13 => ?_)
    refine xr_go hcc rfl rfl ?_
    refine xr_go hcc rfl rfl ?_
    refine xr_go hcc rfl rfl ?_
    refine xr_go hcc rfl rfl ?_
    refine xr_go hcc rfl rfl ?_
    refine xr_s1_3 hcc rfl rfl rfl ?_
    refine xr_go hcc rfl rfl ?_
    refine xr_go hcc rfl rfl ?_
    refine xr_icmp_ne hcc rfl (by decide) (by decide) (fun c14 => ?_) (fun c14 => by exfalso; omega)
    refine xr_go hcc rfl rfl ?_
    refine xr_go hcc rfl rfl ?_
    refine xr_icmp_ne hcc rfl (by decide) (by decide) (fun c15 => ?_) (fun c15 => by exfalso; omega)
    refine xr_go hcc rfl rfl ?_
    refine xr_ret hcc rfl rfl ?_
    refine ⟨?_, rfl, rfl⟩
    first
      | (have hs : s = 0 := by omega
         subst hs
         first
           | rfl
           | (simp [s_md, *] <;> omega))
      | (simp [s_md, *] <;> omega)

theorem m_made_4 {n : Nat} {M : ew_Mem} {s c : Int} (hs : ew_in s) (hc : c = 0 ∨ c = 1) : ew_FM 152 [(0, 4), (0, s), (0, c)] n M (0, s_md 4 s c) n M := by
  have hcc := ew_c_152
  show ew_X 152 0 [(0, 4), (0, s), (0, c), (5, 0)] [] n M _
  refine xr_go hcc rfl rfl ?_
  refine xr_if_ne hcc rfl (by omega) (fun c1 => ?_) (fun c1 => ?_)
  · skip
    refine xr_go hcc rfl rfl ?_
    refine xr_s1_3 hcc rfl rfl rfl ?_
    refine xr_go hcc rfl rfl ?_
    refine xr_go hcc rfl rfl ?_
    refine xr_icmp_eq hcc rfl (by decide) (by decide) (fun c2 => by exfalso; omega) (fun c2 => ?_)
    refine xr_go hcc rfl rfl ?_
    refine xr_go hcc rfl rfl ?_
    refine xr_icmp_ne hcc rfl (by decide) (by decide) (fun c3 => ?_) (fun c3 => by exfalso; omega)
    refine xr_go hcc rfl rfl ?_
    refine xr_go hcc rfl rfl ?_
    refine xr_icmp_eq hcc rfl (by decide) (by decide) (fun c4 => by exfalso; omega) (fun c4 => ?_)
    refine xr_go hcc rfl rfl ?_
    refine xr_go hcc rfl rfl ?_
    refine xr_icmp_ne hcc rfl (by decide) (by decide) (fun c5 => by exfalso; omega) (fun c5 => ?_)
    refine xr_go hcc rfl rfl ?_
    refine xr_go hcc rfl rfl ?_
    refine xr_go hcc rfl rfl ?_
    refine xr_go hcc rfl rfl ?_
    refine xr_go hcc rfl rfl ?_
    refine xr_s1_3 hcc rfl rfl rfl ?_
    refine xr_go hcc rfl rfl ?_
    refine xr_go hcc rfl rfl ?_
    refine xr_icmp_ne hcc rfl (by decide) (by decide) (fun c6 => ?_) (fun c6 => by exfalso; omega)
    refine xr_go hcc rfl rfl ?_
    refine xr_go hcc rfl rfl ?_
    refine xr_icmp_ne hcc rfl (by decide) (by decide) (fun c7 => by exfalso; omega) (fun c7 => ?_)
    refine xr_go hcc rfl rfl ?_
    refine xr_go hcc rfl rfl ?_
    refine xr_go hcc rfl rfl ?_
    refine xr_go hcc rfl rfl ?_
    refine xr_go hcc rfl rfl ?_
    refine xr_s1_3 hcc rfl rfl rfl ?_
    refine xr_go hcc rfl rfl ?_
    refine xr_go hcc rfl rfl ?_
    refine xr_icmp_ne hcc rfl (by decide) (by decide) (fun c8 => by exfalso; omega) (fun c8 => ?_)
    refine xr_go hcc rfl rfl ?_
    refine xr_if_eq hcc rfl (by omega) (fun c9 => ?_) (fun c9 => ?_)
    · skip
      refine xr_go hcc rfl rfl ?_
      refine xr_ret hcc rfl rfl ?_
      refine ⟨?_, rfl, rfl⟩
      first
        | (have hs : s = 0 := by omega
           subst hs
           first
             | rfl
             | (simp [s_md, *] <;> omega))
        | (simp [s_md, *] <;> omega)
    · skip
      refine xr_go hcc rfl rfl ?_
      refine xr_go hcc rfl rfl ?_
      refine xr_go hcc rfl rfl ?_
      refine xr_go hcc rfl rfl ?_
      refine xr_go hcc rfl rfl ?_
      refine xr_go hcc rfl rfl ?_
      refine xr_ret hcc rfl rfl ?_
      refine ⟨?_, rfl, rfl⟩
      first
        | (have hs : s = 0 := by omega
           subst hs
           first
             | rfl
             | (simp [s_md, *] <;> omega))
        | (simp [s_md, *] <;> omega)
  · skip
    refine xr_go hcc rfl rfl ?_
    refine xr_go hcc rfl rfl ?_
    refine xr_s1_3 hcc rfl rfl rfl ?_
    refine xr_go hcc rfl rfl ?_
    refine xr_go hcc rfl rfl ?_
    refine xr_icmp_eq hcc rfl (by decide) (by decide) (fun c10 => by exfalso; omega) (fun c10 => ?_)
    refine xr_go hcc rfl rfl ?_
    refine xr_go hcc rfl rfl ?_
    refine xr_icmp_ne hcc rfl (by decide) (by decide) (fun c11 => ?_) (fun c11 => by exfalso; omega)
    refine xr_go hcc rfl rfl ?_
    refine xr_go hcc rfl rfl ?_
    refine xr_icmp_eq hcc rfl (by decide) (by decide) (fun c12 => by exfalso; omega) (fun c12 => ?_)
    refine xr_go hcc rfl rfl ?_
    refine xr_go hcc rfl rfl ?_
    refine xr_icmp_ne hcc rfl (by decide) (by decide) (fun c13 => by exfalso; omega) (fun c13 => ?_)
    refine xr_go hcc rfl rfl ?_
    refine xr_go hcc rfl rfl ?_
    refine xr_go hcc rfl rfl ?_
    refine xr_go hcc rfl rfl ?_
    refine xr_go hcc rfl rfl ?_
    refine xr_s1_3 hcc rfl rfl rfl ?_
    refine xr_go hcc rfl rfl ?_
    refine xr_go hcc rfl rfl ?_
    refine xr_icmp_ne hcc rfl (by decide) (by decide) (fun c14 => ?_) (fun c14 => by exfalso; omega)
    refine xr_go hcc rfl rfl ?_
    refine xr_go hcc rfl rfl ?_
    refine xr_icmp_ne hcc rfl (by decide) (by decide) (fun c15 => by exfalso; omega) (fun c15 => ?_)
    refine xr_go hcc rfl rfl ?_
    refine xr_go hcc rfl rfl ?_
    refine xr_go hcc rfl rfl ?_
    refine xr_go hcc rfl rfl ?_
    refine xr_go hcc rfl rfl ?_
    refine xr_s1_3 hcc rfl rfl rfl ?_
    refine xr_go hcc rfl rfl ?_
    refine xr_go hcc rfl rfl ?_
    refine xr_icmp_ne hcc rfl (by decide) (by decide) (fun c16 => by exfalso; omega) (fun c16 => ?_)
    refine xr_go hcc rfl rfl ?_
    refine xr_if_eq hcc rfl (by omega) (fun c17 => ?_) (fun c17 => ?_)
    · skip
      refine xr_go hcc rfl rfl ?_
      refine xr_ret hcc rfl rfl ?_
      refine ⟨?_, rfl, rfl⟩
      first
        | (have hs : s = 0 := by omega
           subst hs
           first
             | rfl
             | (simp [s_md, *] <;> omega))
        | (simp [s_md, *] <;> omega)
    · skip
      refine xr_go hcc rfl rfl ?_
      refine xr_go hcc rfl rfl ?_
      refine xr_go hcc rfl rfl ?_
      refine xr_go hcc rfl rfl ?_
      refine xr_go hcc rfl rfl ?_
      refine xr_go hcc rfl rfl ?_
      refine xr_ret hcc rfl rfl ?_
      refine ⟨?_, rfl, rfl⟩
      first
        | (have hs : s = 0 := by omega
           subst hs
           first
             | rfl
             | (simp [s_md, *] <;> omega))
        | (simp [s_md, *] <;> omega)

