/-! plain tests that the state changers ask -/
set_option maxRecDepth 20000 in
theorem c_isKind {n : Nat} {M : ew_Mem} {x : Int} (hx : ew_in x) : ew_FM 34 [(0, x)] n M (0, if 0 ≤ x ∧ x ≤ 4 then 1 else 0) n M := by
  have hc := ew_c_34
  show ew_X 34 0 [(0, x)] [] n M _
  refine xr_go hc rfl rfl ?_
  refine xr_if_lt hc rfl (by omega) (fun c1 => ?_) (fun c1 => ?_)
  · skip
    refine xr_go hc rfl rfl ?_
    refine xr_ret hc rfl rfl ?_
    exact ⟨by congr 2; split <;> omega, rfl, rfl⟩
  · skip
    refine xr_go hc rfl rfl ?_
    refine xr_go hc rfl rfl ?_
    refine xr_icmp_gt hc rfl (by omega) (by decide) (fun c2 => ?_) (fun c2 => ?_)
    · skip
      refine xr_go hc rfl rfl ?_
      refine xr_ret hc rfl rfl ?_
      exact ⟨by congr 2; split <;> omega, rfl, rfl⟩
    · skip
      refine xr_go hc rfl rfl ?_
      refine xr_go hc rfl rfl ?_
      refine xr_ret hc rfl rfl ?_
      exact ⟨by congr 2; split <;> omega, rfl, rfl⟩

set_option maxRecDepth 20000 in
theorem c_canBe {n : Nat} {M : ew_Mem} {x p s t : Int} (hx : ew_in x) (hp : ew_in p) (hs : ew_in s) (ht : ew_in t) : ew_FM 33 [(0, x), (0, p), (0, s), (0, t)] n M (0, if (0 ≤ x ∧ x ≤ 4) ∧ (2 ≤ p ∧ p ≤ 100000) ∧ (0 ≤ s ∧ s ≤ 99999) ∧ 0 ≤ t ∧ t < p then 1 else 0) n M := by
  have hc := ew_c_33
  show ew_X 33 0 [(0, x), (0, p), (0, s), (0, t)] [] n M _
  refine xr_go hc rfl rfl ?_
  refine xr_s_1 hc rfl rfl (c_isKind hx) ?_
  refine xr_if_eq hc rfl (by split <;> omega) (fun c1 => ?_) (fun c1 => ?_)
  · skip
    refine xr_go hc rfl rfl ?_
    refine xr_ret hc rfl rfl ?_
    exact ⟨by congr 2; split <;> omega, rfl, rfl⟩
  · skip
    refine xr_go hc rfl rfl ?_
    refine xr_go hc rfl rfl ?_
    refine xr_icmp_lt hc rfl (by omega) (by decide) (fun c2 => ?_) (fun c2 => ?_)
    · skip
      refine xr_go hc rfl rfl ?_
      refine xr_ret hc rfl rfl ?_
      exact ⟨by congr 2; split <;> omega, rfl, rfl⟩
    · skip
      refine xr_go hc rfl rfl ?_
      refine xr_go hc rfl rfl ?_
      refine xr_icmp_gt hc rfl (by omega) (by decide) (fun c3 => ?_) (fun c3 => ?_)
      · skip
        refine xr_go hc rfl rfl ?_
        refine xr_ret hc rfl rfl ?_
        exact ⟨by congr 2; split <;> omega, rfl, rfl⟩
      · skip
        refine xr_go hc rfl rfl ?_
        refine xr_if_lt hc rfl (by omega) (fun c4 => ?_) (fun c4 => ?_)
        · skip
          refine xr_go hc rfl rfl ?_
          refine xr_ret hc rfl rfl ?_
          exact ⟨by congr 2; split <;> omega, rfl, rfl⟩
        · skip
          refine xr_go hc rfl rfl ?_
          refine xr_go hc rfl rfl ?_
          refine xr_icmp_gt hc rfl (by omega) (by decide) (fun c5 => ?_) (fun c5 => ?_)
          · skip
            refine xr_go hc rfl rfl ?_
            refine xr_ret hc rfl rfl ?_
            exact ⟨by congr 2; split <;> omega, rfl, rfl⟩
          · skip
            refine xr_go hc rfl rfl ?_
            refine xr_if_lt hc rfl (by omega) (fun c6 => ?_) (fun c6 => ?_)
            · skip
              refine xr_go hc rfl rfl ?_
              refine xr_ret hc rfl rfl ?_
              exact ⟨by congr 2; split <;> omega, rfl, rfl⟩
            · skip
              refine xr_go hc rfl rfl ?_
              refine xr_go hc rfl rfl ?_
              refine xr_icmp_ge hc rfl (by omega) (by omega) (fun c7 => ?_) (fun c7 => ?_)
              · skip
                refine xr_go hc rfl rfl ?_
                refine xr_ret hc rfl rfl ?_
                exact ⟨by congr 2; split <;> omega, rfl, rfl⟩
              · skip
                refine xr_go hc rfl rfl ?_
                refine xr_go hc rfl rfl ?_
                refine xr_ret hc rfl rfl ?_
                exact ⟨by congr 2; split <;> omega, rfl, rfl⟩

set_option maxRecDepth 20000 in
theorem m_areBounds {n : Nat} {M : ew_Mem} {p s t : Int} (hp : ew_in p) (hs : ew_in s) (ht : ew_in t) : ew_FM 151 [(0, p), (0, s), (0, t)] n M (0, if (2 ≤ p ∧ p ≤ 100000) ∧ (0 ≤ s ∧ s ≤ 99999) ∧ 0 ≤ t ∧ t < p then 1 else 0) n M := by
  have hc := ew_c_151
  show ew_X 151 0 [(0, p), (0, s), (0, t)] [] n M _
  refine xr_go hc rfl rfl ?_
  refine xr_i2l hc rfl (by omega) ?_
  refine xr_go hc rfl rfl ?_
  refine xr_go hc rfl rfl ?_
  refine xr_s_3 hc rfl rfl (c_in (by omega) (by decide) (by omega)) ?_
  refine xr_if_eq hc rfl (by split <;> omega) (fun c1 => ?_) (fun c1 => ?_)
  · skip
    refine xr_go hc rfl rfl ?_
    refine xr_ret hc rfl rfl ?_
    exact ⟨by congr 2; split <;> omega, rfl, rfl⟩
  · skip
    refine xr_go hc rfl rfl ?_
    refine xr_i2l hc rfl (by omega) ?_
    refine xr_go hc rfl rfl ?_
    refine xr_go hc rfl rfl ?_
    refine xr_s_3 hc rfl rfl (c_in (by omega) (by decide) (by omega)) ?_
    refine xr_if_eq hc rfl (by split <;> omega) (fun c2 => ?_) (fun c2 => ?_)
    · skip
      refine xr_go hc rfl rfl ?_
      refine xr_ret hc rfl rfl ?_
      exact ⟨by congr 2; split <;> omega, rfl, rfl⟩
    · skip
      refine xr_go hc rfl rfl ?_
      refine xr_i2l hc rfl (by omega) ?_
      refine xr_go hc rfl rfl ?_
      refine xr_go hc rfl rfl ?_
      refine xr_go hc rfl rfl ?_
      refine xr_go hc rfl rfl ?_
      refine xr_i2l hc rfl (by omega) ?_
      refine xr_s_3 hc rfl rfl (c_in (by omega) (by decide) (by omega)) ?_
      refine xr_if_eq hc rfl (by split <;> omega) (fun c3 => ?_) (fun c3 => ?_)
      · skip
        refine xr_go hc rfl rfl ?_
        refine xr_ret hc rfl rfl ?_
        exact ⟨by congr 2; split <;> omega, rfl, rfl⟩
      · skip
        refine xr_go hc rfl rfl ?_
        refine xr_go hc rfl rfl ?_
        refine xr_ret hc rfl rfl ?_
        exact ⟨by congr 2; split <;> omega, rfl, rfl⟩

set_option maxRecDepth 20000 in
theorem m_isTray {n : Nat} {M : ew_Mem} {x : Int} (hx : ew_in x) : ew_FM 225 [(0, x)] n M (0, if 0 ≤ x ∧ x ≤ 3 then 1 else 0) n M := by
  have hc := ew_c_225
  show ew_X 225 0 [(0, x)] [] n M _
  refine xr_go hc rfl rfl ?_
  refine xr_i2l hc rfl (by omega) ?_
  refine xr_go hc rfl rfl ?_
  refine xr_go hc rfl rfl ?_
  refine xr_s_3 hc rfl rfl (c_in (by omega) (by decide) (by decide)) ?_
  refine xr_retB hc rfl (by split <;> omega) ?_
  exact ⟨rfl, rfl, rfl⟩

set_option maxRecDepth 20000 in
theorem m_isList {n : Nat} {M : ew_Mem} {x : Int} (hx : ew_in x) : ew_FM 231 [(0, x)] n M (0, if 0 ≤ x ∧ x ≤ 2 then 1 else 0) n M := by
  have hc := ew_c_231
  show ew_X 231 0 [(0, x)] [] n M _
  refine xr_go hc rfl rfl ?_
  refine xr_i2l hc rfl (by omega) ?_
  refine xr_go hc rfl rfl ?_
  refine xr_go hc rfl rfl ?_
  refine xr_s_3 hc rfl rfl (c_in (by omega) (by decide) (by decide)) ?_
  refine xr_retB hc rfl (by split <;> omega) ?_
  exact ⟨rfl, rfl, rfl⟩

