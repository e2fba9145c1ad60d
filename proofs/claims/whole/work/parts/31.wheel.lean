set_option maxRecDepth 20000 in
theorem c_told {n : Nat} {M : ew_Mem} (hn : 59 ≤ n) (hp : ew_Pm M) {w : Int} {W : Nat → Int} (hw : s_WF w n M W) (hW : s_WO W) {x : Int} (hx : ew_in x) : ew_FM 39 [(2, w), (0, x)] n M (0, s_told W x) n M := by
  have hc := ew_c_39
  obtain ⟨hw, w0, w1, w2, w3, w4⟩ := hw
  obtain ⟨k0, k1, k2, k3, k4⟩ := hW
  show ew_X 39 0 [(2, w), (0, x)] [] n M _
  refine xr_go hc rfl rfl ?_
  refine xr_ts hc rfl hx (fun c1 => ?_) (fun c1a c1b => ?_)
  · skip
    refine xr_go hc rfl rfl ?_
    refine xr_ret hc rfl rfl ?_
    refine ⟨?_, rfl, rfl⟩
    first
      | (simp [s_told]; done)
      | (congr 2; unfold s_told; repeat' split
         all_goals omega)
  · obtain rfl | rfl | rfl | rfl | rfl : x = 0 ∨ x = 1 ∨ x = 2 ∨ x = 3 ∨ x = 4 := by omega
    · refine ⟨35, 36, rfl, rfl, ?_⟩
      refine xr_go hc rfl rfl ?_
      refine xr_gf0 rfl hc rfl hw w0 ?_
      refine xr_ret hc rfl rfl ?_
      refine ⟨?_, rfl, rfl⟩
      first
        | (simp [s_told]; done)
        | (congr 2; unfold s_told; repeat' split
           all_goals omega)
    · refine ⟨40, 41, rfl, rfl, ?_⟩
      refine xr_go hc rfl rfl ?_
      refine xr_gf0 rfl hc rfl hw w1 ?_
      refine xr_ret hc rfl rfl ?_
      refine ⟨?_, rfl, rfl⟩
      first
        | (simp [s_told]; done)
        | (congr 2; unfold s_told; repeat' split
           all_goals omega)
    · refine ⟨45, 46, rfl, rfl, ?_⟩
      refine xr_go hc rfl rfl ?_
      refine xr_gf0 rfl hc rfl hw w2 ?_
      refine xr_ret hc rfl rfl ?_
      refine ⟨?_, rfl, rfl⟩
      first
        | (simp [s_told]; done)
        | (congr 2; unfold s_told; repeat' split
           all_goals omega)
    · refine ⟨50, 51, rfl, rfl, ?_⟩
      refine xr_go hc rfl rfl ?_
      refine xr_gf0 rfl hc rfl hw w3 ?_
      refine xr_ret hc rfl rfl ?_
      refine ⟨?_, rfl, rfl⟩
      first
        | (simp [s_told]; done)
        | (congr 2; unfold s_told; repeat' split
           all_goals omega)
    · refine ⟨55, 56, rfl, rfl, ?_⟩
      refine xr_go hc rfl rfl ?_
      refine xr_gf0 rfl hc rfl hw w4 ?_
      refine xr_ret hc rfl rfl ?_
      refine ⟨?_, rfl, rfl⟩
      first
        | (simp [s_told]; done)
        | (congr 2; unfold s_told; repeat' split
           all_goals omega)

set_option maxRecDepth 20000 in
theorem c_hasPlace {n : Nat} {M : ew_Mem} (hn : 59 ≤ n) (hp : ew_Pm M) {w : Int} {W : Nat → Int} (hw : s_WF w n M W) (hW : s_WO W) {x : Int} (hx : ew_in x) : ew_FM 46 [(2, w), (0, x)] n M (0, if 0 ≤ x ∧ x < W 1 then 1 else 0) n M := by
  have hc := ew_c_46
  obtain ⟨hw, w0, w1, w2, w3, w4⟩ := hw
  obtain ⟨k0, k1, k2, k3, k4⟩ := hW
  show ew_X 46 0 [(2, w), (0, x)] [] n M _
  refine xr_go hc rfl rfl ?_
  refine xr_if_lt hc rfl (by omega) (fun c1 => ?_) (fun c1 => ?_)
  · skip
    refine xr_go hc rfl rfl ?_
    refine xr_ret hc rfl rfl ?_
    exact ⟨by congr 2; split <;> omega, rfl, rfl⟩
  · skip
    refine xr_go hc rfl rfl ?_
    refine xr_go hc rfl rfl ?_
    refine xr_gf0 rfl hc rfl hw w1 ?_
    refine xr_icmp_ge hc rfl (by omega) (by omega) (fun c2 => ?_) (fun c2 => ?_)
    · skip
      refine xr_go hc rfl rfl ?_
      refine xr_ret hc rfl rfl ?_
      exact ⟨by congr 2; split <;> omega, rfl, rfl⟩
    · skip
      refine xr_go hc rfl rfl ?_
      refine xr_go hc rfl rfl ?_
      refine xr_ret hc rfl rfl ?_
      exact ⟨by congr 2; split <;> omega, rfl, rfl⟩

theorem s_shr1 {d : Int} (hd : -200000 ≤ d ∧ d ≤ 200000) : (ew_l d >>> ((ew_i 1).toInt64 &&& 63)).toInt = d / 2 := by
  have h1 : ((ew_i 1).toInt64 &&& 63) = (1 : Int64) := by decide
  rw [h1]
  have hin := ew_l_in (x := d) ⟨by omega, by omega⟩
  have h2 : ((1 : Int64).toBitVec.smod 64).toNat = 1 := by decide +kernel
  show ((ew_l d).toBitVec.sshiftRight ((1 : Int64).toBitVec.smod 64).toNat).toInt = d / 2
  rw [h2, BitVec.toInt_sshiftRight, Int64.toInt_toBitVec, hin, Int.shiftRight_eq_div_pow]
  rfl

set_option maxRecDepth 20000 in
theorem c_wayBy {n : Nat} {M : ew_Mem} (hn : 59 ≤ n) (hp : ew_Pm M) {w : Int} {W : Nat → Int} (hw : s_WF w n M W) (hW : s_WO W) {d : Int} (hd : -200000 ≤ d ∧ d ≤ 200000) : ew_FM 40 [(2, w), (1, d)] n M (1, s_plain W d) n M := by
  have hc := ew_c_40
  obtain ⟨hw, w0, w1, w2, w3, w4⟩ := hw
  obtain ⟨k0, k1, k2, k3, k4⟩ := hW
  show ew_X 40 0 [(2, w), (1, d), (5, 0)] [] n M _
  refine xr_go hc rfl rfl ?_
  refine xr_gf0 rfl hc rfl hw w0 ?_
  refine xr_ts hc rfl (by omega) (fun c1 => ?_) (fun c1a c1b => ?_)
  · skip
    refine xr_go hc rfl rfl ?_
    refine xr_gf0 rfl hc rfl hw w3 ?_
    refine xr_i2l hc rfl (by omega) ?_
    refine xr_go hc rfl rfl ?_
    refine xr_gf0 rfl hc rfl hw w2 ?_
    refine xr_i2l hc rfl (by omega) ?_
    refine xr_go hc rfl rfl ?_
    refine xr_go hc rfl rfl ?_
    refine xr_go hc rfl rfl ?_
    refine xr_ret hc rfl rfl ?_
    refine ⟨?_, rfl, rfl⟩
    simp only [s_plain, *]
    first
      | (simp; done)
      | (rw [s_shr1 hd]; simp; done)
      | (rw [if_neg (by omega), if_neg (by omega), if_neg (by omega)])
  · rcases (show W 0 = 1 ∨ W 0 = 2 ∨ W 0 = 3 by omega) with ec1 | ec1 | ec1
    · refine ⟨28, 32, by rw [ec1]; rfl, rfl, ?_⟩
      refine xr_go hc rfl rfl ?_
      refine xr_gf0 rfl hc rfl hw w3 ?_
      refine xr_i2l hc rfl (by omega) ?_
      refine xr_go hc rfl rfl ?_
      refine xr_gf0 rfl hc rfl hw w2 ?_
      refine xr_i2l hc rfl (by omega) ?_
      refine xr_go hc rfl rfl ?_
      refine xr_go hc rfl rfl ?_
      refine xr_go hc rfl rfl ?_
      refine xr_ret hc rfl rfl ?_
      refine ⟨?_, rfl, rfl⟩
      simp only [s_plain, *]
      first
        | (simp; done)
        | (rw [s_shr1 hd]; simp; done)
        | (rw [if_neg (by omega), if_neg (by omega), if_neg (by omega)])
    · refine ⟨42, 46, by rw [ec1]; rfl, rfl, ?_⟩
      refine xr_go hc rfl rfl ?_
      refine xr_gf0 rfl hc rfl hw w3 ?_
      refine xr_i2l hc rfl (by omega) ?_
      refine xr_go hc rfl rfl ?_
      refine xr_gf0 rfl hc rfl hw w2 ?_
      refine xr_i2l hc rfl (by omega) ?_
      refine xr_go hc rfl rfl ?_
      refine xr_go hc rfl rfl ?_
      refine xr_go hc rfl rfl ?_
      refine xr_go hc rfl rfl ?_
      refine xr_go hc rfl rfl ?_
      refine xr_ret hc rfl rfl ?_
      refine ⟨?_, rfl, rfl⟩
      simp only [s_plain, *]
      first
        | (simp; done)
        | (rw [s_shr1 hd]; simp; done)
        | (rw [if_neg (by omega), if_neg (by omega), if_neg (by omega)])
    · refine ⟨58, 62, by rw [ec1]; rfl, rfl, ?_⟩
      refine xr_go hc rfl rfl ?_
      refine xr_gf0 rfl hc rfl hw w3 ?_
      refine xr_i2l hc rfl (by omega) ?_
      refine xr_go hc rfl rfl ?_
      refine xr_gf0 rfl hc rfl hw w2 ?_
      refine xr_i2l hc rfl (by omega) ?_
      refine xr_go hc rfl rfl ?_
      refine xr_go hc rfl rfl ?_
      refine xr_go hc rfl rfl ?_
      refine xr_go hc rfl rfl ?_
      refine xr_go hc rfl rfl ?_
      refine xr_ret hc rfl rfl ?_
      refine ⟨?_, rfl, rfl⟩
      simp only [s_plain, *]
      first
        | (simp; done)
        | (rw [s_shr1 hd]; simp; done)
        | (rw [if_neg (by omega), if_neg (by omega), if_neg (by omega)])

theorem s_l2i (x : Int) : x = x := rfl

set_option maxRecDepth 20000 in
theorem c_near {n : Nat} {M : ew_Mem} (hn : 59 ≤ n) (hp : ew_Pm M) {w : Int} {W : Nat → Int} (hw : s_WF w n M W) (hW : s_WO W) {x y : Int} (hx : -400000 ≤ x ∧ x ≤ 400000) (hy : -400000 ≤ y ∧ y ≤ 400000) : ew_FM 41 [(2, w), (0, x), (0, y)] n M (0, s_near x y (W 1)) n M := by
  have hc := ew_c_41
  obtain ⟨hw, w0, w1, w2, w3, w4⟩ := hw
  obtain ⟨k0, k1, k2, k3, k4⟩ := hW
  have g1 := Int.emod_nonneg (x - y) (show W 1 ≠ 0 by omega)
  have g2 := Int.emod_lt_of_pos (x - y) (show 0 < W 1 by omega)
  have g3 := Int.emod_nonneg (y - x) (show W 1 ≠ 0 by omega)
  have g4 := Int.emod_lt_of_pos (y - x) (show 0 < W 1 by omega)
  show ew_X 41 0 [(2, w), (0, x), (0, y)] [] n M _
  refine xr_go hc rfl rfl ?_
  refine xr_go hc rfl rfl ?_
  refine xr_go hc rfl rfl ?_
  refine xr_i2l hc rfl (by omega) ?_
  refine xr_go hc rfl rfl ?_
  refine xr_gf0 rfl hc rfl hw w1 ?_
  refine xr_i2l hc rfl (by omega) ?_
  refine xr_s_2 hc rfl rfl (c_leftOver (by omega) (by omega)) ?_
  refine xr_go hc rfl rfl ?_
  refine xr_go hc rfl rfl ?_
  refine xr_go hc rfl rfl ?_
  refine xr_i2l hc rfl (by omega) ?_
  refine xr_go hc rfl rfl ?_
  refine xr_gf0 rfl hc rfl hw w1 ?_
  refine xr_i2l hc rfl (by omega) ?_
  refine xr_s_2 hc rfl rfl (c_leftOver (by omega) (by omega)) ?_
  refine xr_s_2 hc rfl rfl (c_minJ (by omega) (by omega)) ?_
  refine xr_go hc rfl rfl ?_
  refine xr_ret hc rfl rfl ?_
  exact ⟨rfl, rfl, rfl⟩

