set_option maxRecDepth 20000 in
theorem c_told {n : Nat} {M : ew_Mem} (hn : 59 ≤ n) (hp : ew_Pm M) {w : Int} {W : Nat → Int} (hw : s_WF w n M W) (hW : s_WO W) {x : Int} (hx : ew_in x) : ew_FM 39 [(2, w), (0, x)] n M (0, s_told W x) n M := by
  have hc := ew_c_39
  obtain ⟨hw, w0, w1, w2, w3, w4⟩ := hw
  obtain ⟨k0, k1, k2, k3, k4⟩ := hW
  show ew_X 39 0 [(2, w), (0, x)] [] n M _
  refine xr_go hc rfl rfl ?_
  refine xr_ts hc rfl hx (fun c1 => ?_) (fun c1a c1b => ?_)
  · skip
    refine xr_go hc rfl rfl ?_
    refine xr_ret hc rfl rfl ?_
    exact ⟨by simp only [s_told]; congr 2; (first | rfl | (repeat' split) <;> omega), rfl, rfl⟩
  · obtain rfl | rfl | rfl | rfl | rfl : x = 0 ∨ x = 1 ∨ x = 2 ∨ x = 3 ∨ x = 4 := by omega
    · refine ⟨_, 36, rfl, rfl, ?_⟩
      refine xr_go hc rfl rfl ?_
      refine xr_gf0 rfl hc rfl hw w0 ?_
      refine xr_ret hc rfl rfl ?_
      exact ⟨by simp only [s_told]; congr 2; (first | rfl | (repeat' split) <;> omega), rfl, rfl⟩
    · refine ⟨_, 41, rfl, rfl, ?_⟩
      refine xr_go hc rfl rfl ?_
      refine xr_gf0 rfl hc rfl hw w1 ?_
      refine xr_ret hc rfl rfl ?_
      exact ⟨by simp only [s_told]; congr 2; (first | rfl | (repeat' split) <;> omega), rfl, rfl⟩
    · refine ⟨_, 46, rfl, rfl, ?_⟩
      refine xr_go hc rfl rfl ?_
      refine xr_gf0 rfl hc rfl hw w2 ?_
      refine xr_ret hc rfl rfl ?_
      exact ⟨by simp only [s_told]; congr 2; (first | rfl | (repeat' split) <;> omega), rfl, rfl⟩
    · refine ⟨_, 51, rfl, rfl, ?_⟩
      refine xr_go hc rfl rfl ?_
      refine xr_gf0 rfl hc rfl hw w3 ?_
      refine xr_ret hc rfl rfl ?_
      exact ⟨by simp only [s_told]; congr 2; (first | rfl | (repeat' split) <;> omega), rfl, rfl⟩
    · refine ⟨_, 56, rfl, rfl, ?_⟩
      refine xr_go hc rfl rfl ?_
      refine xr_gf0 rfl hc rfl hw w4 ?_
      refine xr_ret hc rfl rfl ?_
      exact ⟨by simp only [s_told]; congr 2; (first | rfl | (repeat' split) <;> omega), rfl, rfl⟩

set_option maxRecDepth 20000 in
theorem c_hasPlace {n : Nat} {M : ew_Mem} (hn : 59 ≤ n) (hp : ew_Pm M) {w : Int} {W : Nat → Int} (hw : s_WF w n M W) (hW : s_WO W) {x : Int} (hx : ew_in x) : ew_FM 46 [(2, w), (0, x)] n M (0, if 0 ≤ x ∧ x < W 1 then 1 else 0) n M := by
  have hc := ew_c_46
  obtain ⟨hw, w0, w1, w2, w3, w4⟩ := hw
  obtain ⟨k0, k1, k2, k3, k4⟩ := hW
  show ew_X 46 0 [(2, w), (0, x)] [] n M _
  refine xr_go hc rfl rfl ?_
  refine xr_if_lt hc rfl (by omega) (fun c1 => ?_) (fun c1 => ?_)
  · skip
    refine xr_go hc rfl rfl ?_
    refine xr_ret hc rfl rfl ?_
    exact ⟨by congr 2; split <;> omega, rfl, rfl⟩
  · skip
    refine xr_go hc rfl rfl ?_
    refine xr_go hc rfl rfl ?_
    refine xr_gf0 rfl hc rfl hw w1 ?_
    refine xr_icmp_ge hc rfl (by omega) (by omega) (fun c2 => ?_) (fun c2 => ?_)
    · skip
      refine xr_go hc rfl rfl ?_
      refine xr_ret hc rfl rfl ?_
      exact ⟨by congr 2; split <;> omega, rfl, rfl⟩
    · skip
      refine xr_go hc rfl rfl ?_
      refine xr_go hc rfl rfl ?_
      refine xr_ret hc rfl rfl ?_
      exact ⟨by congr 2; split <;> omega, rfl, rfl⟩

