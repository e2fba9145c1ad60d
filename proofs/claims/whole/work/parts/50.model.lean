/-! the reference: what its plain methods answer -/
theorem ew_fdiv2 {x y : Int} (hy : 0 < y) : x / y = if x.tmod y < 0 then x.tdiv y - 1 else x.tdiv y := by
  have h1 := ew_fdiv (x := x) hy
  have h2 := ew_fmod (x := x) hy
  have h3 := Int.mul_tdiv_add_tmod x y
  rw [Int.mul_comm] at h3
  have h5 := Int.emod_lt_of_pos x hy
  have h6 := Int.emod_nonneg x (show y ≠ 0 by omega)
  split at h2
  · rw [h1, if_pos (by omega), if_pos (by omega)]
  · rw [h1, if_neg (by omega), if_neg (by omega)]
theorem s_cut {x y : Int} : x - x / y * y = x % y := by
  have := Int.emod_add_mul_ediv x y
  rw [Int.mul_comm] at this
  omega
/-- the row i holds the wheel W -/
def s_R (i : Int) (M : ew_Mem) (W : Nat → Int) : Prop := (0 ≤ i ∧ i < 64) ∧ M 39 i.toNat = W 0 ∧ M 40 i.toNat = W 1 ∧ M 41 i.toNat = W 2 ∧ M 42 i.toNat = W 3 ∧ M 43 i.toNat = W 4
set_option maxRecDepth 20000 in
theorem m_floor {n : Nat} {M : ew_Mem} {x y : Int} (hx : ew_inl x) (hy : 0 < y ∧ y < 9223372036854775808) : ew_FM 161 [(1, x), (1, y)] n M (1, x / y) n M := by
  have hc := ew_c_161
  have e1 := ew_tdiv_in hx hy
  show ew_X 161 0 [(1, x), (5, 0), (1, y), (5, 0), (5, 0), (5, 0)] [] n M _
  refine xr_go hc rfl rfl ?_
  refine xr_go hc rfl rfl ?_
  refine xr_ldiv hc rfl hx hy ?_
  refine xr_s2_4 hc rfl rfl rfl ?_
  refine xr_go hc rfl rfl ?_
  refine xr_go hc rfl rfl ?_
  refine xr_lrem hc rfl hx hy ?_
  refine xr_go hc rfl rfl ?_
  refine xr_l_ge hc rfl rfl e1.2 (by decide) (fun c1 => ?_) (fun c1 => ?_)
  · skip
    refine xr_go hc rfl rfl ?_
    refine xr_ret hc rfl rfl ?_
    refine ⟨?_, rfl, rfl⟩
    rw [ew_fdiv2 hy.1]
    first
      | rw [if_neg (by omega)]
      | rw [if_pos (by omega)]
  · skip
    refine xr_go hc rfl rfl ?_
    refine xr_go hc rfl rfl ?_
    refine xr_go hc rfl rfl ?_
    refine xr_go hc rfl rfl ?_
    refine xr_ret hc rfl rfl ?_
    refine ⟨?_, rfl, rfl⟩
    rw [ew_fdiv2 hy.1]
    first
      | rw [if_neg (by omega)]
      | rw [if_pos (by omega)]

set_option maxRecDepth 20000 in
theorem m_plainWay {n : Nat} {M : ew_Mem} (hn : 59 ≤ n) (hp : ew_Pm M) {i : Int} {W : Nat → Int} (hi : s_R i M W) (hW : s_WO W) {d : Int} (hd : -200000 ≤ d ∧ d ≤ 200000) : ew_FM 160 [(2, 38), (0, i), (1, d)] n M (1, s_plain W d) n M := by
  have hc := ew_c_160
  obtain ⟨q0, q1, q2, q3, q4, q5⟩ := hi
  obtain ⟨k0, k1, k2, k3, k4⟩ := hW
  show ew_X 160 0 [(2, 38), (0, i), (1, d), (5, 0)] [] n M _
  refine xr_go hc rfl rfl ?_
  refine xr_gf2 (A := 38) (w := 39) rfl hc rfl (ew_own_p hn rfl) (ew_pm hp rfl) ?_
  refine xr_go hc rfl rfl ?_
  refine xr_iald (A := 39) (N := 64) rfl rfl hc rfl (ew_ok_p hn rfl) (by omega) (by omega) q1 ?_
  refine xr_ts hc rfl (by omega) (fun c1 => ?_) (fun c1a c1b => ?_)
  · skip
    refine xr_go hc rfl rfl ?_
    refine xr_gf2 (A := 38) (w := 42) rfl hc rfl (ew_own_p hn rfl) (ew_pm hp rfl) ?_
    refine xr_go hc rfl rfl ?_
    refine xr_iald (A := 42) (N := 64) rfl rfl hc rfl (ew_ok_p hn rfl) (by omega) (by omega) q4 ?_
    refine xr_i2l hc rfl (by omega) ?_
    refine xr_go hc rfl rfl ?_
    refine xr_gf2 (A := 38) (w := 41) rfl hc rfl (ew_own_p hn rfl) (ew_pm hp rfl) ?_
    refine xr_go hc rfl rfl ?_
    refine xr_iald (A := 41) (N := 64) rfl rfl hc rfl (ew_ok_p hn rfl) (by omega) (by omega) q3 ?_
    refine xr_i2l hc rfl (by omega) ?_
    refine xr_go hc rfl rfl ?_
    refine xr_go hc rfl rfl ?_
    refine xr_go hc rfl rfl ?_
    refine xr_ret hc rfl rfl ?_
    refine ⟨?_, rfl, rfl⟩
    simp only [s_plain, *]
    first
      | (simp; done)
      | (rw [Int.mul_assoc]; simp; done)
      | (rw [if_neg (by omega), if_neg (by omega), if_neg (by omega)])
  · rcases (show W 0 = 1 ∨ W 0 = 2 ∨ W 0 = 3 by omega) with ec1 | ec1 | ec1
    · refine ⟨26, 32, by rw [ec1]; rfl, rfl, ?_⟩
      refine xr_go hc rfl rfl ?_
      refine xr_gf2 (A := 38) (w := 42) rfl hc rfl (ew_own_p hn rfl) (ew_pm hp rfl) ?_
      refine xr_go hc rfl rfl ?_
      refine xr_iald (A := 42) (N := 64) rfl rfl hc rfl (ew_ok_p hn rfl) (by omega) (by omega) q4 ?_
      refine xr_i2l hc rfl (by omega) ?_
      refine xr_go hc rfl rfl ?_
      refine xr_gf2 (A := 38) (w := 41) rfl hc rfl (ew_own_p hn rfl) (ew_pm hp rfl) ?_
      refine xr_go hc rfl rfl ?_
      refine xr_iald (A := 41) (N := 64) rfl rfl hc rfl (ew_ok_p hn rfl) (by omega) (by omega) q3 ?_
      refine xr_i2l hc rfl (by omega) ?_
      refine xr_go hc rfl rfl ?_
      refine xr_go hc rfl rfl ?_
      refine xr_go hc rfl rfl ?_
      refine xr_ret hc rfl rfl ?_
      refine ⟨?_, rfl, rfl⟩
      simp only [s_plain, *]
      first
        | (simp; done)
        | (rw [Int.mul_assoc]; simp; done)
        | (rw [if_neg (by omega), if_neg (by omega), if_neg (by omega)])
    · refine ⟨44, 50, by rw [ec1]; rfl, rfl, ?_⟩
      refine xr_go hc rfl rfl ?_
      refine xr_gf2 (A := 38) (w := 42) rfl hc rfl (ew_own_p hn rfl) (ew_pm hp rfl) ?_
      refine xr_go hc rfl rfl ?_
      refine xr_iald (A := 42) (N := 64) rfl rfl hc rfl (ew_ok_p hn rfl) (by omega) (by omega) q4 ?_
      refine xr_i2l hc rfl (by omega) ?_
      refine xr_go hc rfl rfl ?_
      refine xr_gf2 (A := 38) (w := 41) rfl hc rfl (ew_own_p hn rfl) (ew_pm hp rfl) ?_
      refine xr_go hc rfl rfl ?_
      refine xr_iald (A := 41) (N := 64) rfl rfl hc rfl (ew_ok_p hn rfl) (by omega) (by omega) q3 ?_
      refine xr_i2l hc rfl (by omega) ?_
      refine xr_go hc rfl rfl ?_
      refine xr_go hc rfl rfl ?_
      refine xr_s_2 hc rfl rfl (m_floor (by omega) (by decide)) ?_
      refine xr_go hc rfl rfl ?_
      refine xr_go hc rfl rfl ?_
      refine xr_ret hc rfl rfl ?_
      refine ⟨?_, rfl, rfl⟩
      simp only [s_plain, *]
      first
        | (simp; done)
        | (rw [Int.mul_assoc]; simp; done)
        | (rw [if_neg (by omega), if_neg (by omega), if_neg (by omega)])
    · refine ⟨68, 74, by rw [ec1]; rfl, rfl, ?_⟩
      refine xr_go hc rfl rfl ?_
      refine xr_gf2 (A := 38) (w := 42) rfl hc rfl (ew_own_p hn rfl) (ew_pm hp rfl) ?_
      refine xr_go hc rfl rfl ?_
      refine xr_iald (A := 42) (N := 64) rfl rfl hc rfl (ew_ok_p hn rfl) (by omega) (by omega) q4 ?_
      refine xr_i2l hc rfl (by omega) ?_
      refine xr_go hc rfl rfl ?_
      refine xr_gf2 (A := 38) (w := 41) rfl hc rfl (ew_own_p hn rfl) (ew_pm hp rfl) ?_
      refine xr_go hc rfl rfl ?_
      refine xr_iald (A := 41) (N := 64) rfl rfl hc rfl (ew_ok_p hn rfl) (by omega) (by omega) q3 ?_
      refine xr_i2l hc rfl (by omega) ?_
      refine xr_go hc rfl rfl ?_
      refine xr_go hc rfl rfl ?_
      refine xr_go hc rfl rfl ?_
      refine xr_go hc rfl rfl ?_
      refine xr_go hc rfl rfl ?_
      refine xr_ret hc rfl rfl ?_
      refine ⟨?_, rfl, rfl⟩
      simp only [s_plain, *]
      first
        | (simp; done)
        | (rw [Int.mul_assoc]; simp; done)
        | (rw [if_neg (by omega), if_neg (by omega), if_neg (by omega)])

set_option maxRecDepth 20000 in
theorem m_isWheel {V : ew_Mem} {n : Nat} {M : ew_Mem} (hM : s_M V n M) {i : Int} (hi : ew_in i) : ew_FM 156 [(2, 38), (0, i)] n M (0, if 0 ≤ i ∧ i < V 6 0 then 1 else 0) n M := by
  obtain ⟨hn, hp, hV, u0, u1, u2, u3, u4⟩ := id hM
  obtain ⟨hc6, hVW, hnd, hap, hr0, hr1, hr2, hr3, hr4, hr5⟩ := id hV
  have hc := ew_c_156
  show ew_X 156 0 [(2, 38), (0, i)] [] n M _
  refine xr_go hc rfl rfl ?_
  refine xr_i2l hc rfl (by omega) ?_
  refine xr_go hc rfl rfl ?_
  refine xr_go hc rfl rfl ?_
  refine xr_gf0 (A := 38) rfl hc rfl (ew_own_p hn rfl) u0 ?_
  refine xr_go hc rfl rfl ?_
  refine xr_go hc rfl rfl ?_
  refine xr_i2l hc rfl (by omega) ?_
  refine xr_s_3 hc rfl rfl (c_in (by omega) (by omega) (by omega)) ?_
  refine xr_retB hc rfl (by split <;> omega) ?_
  exact ⟨by congr 2; split <;> split <;> omega, rfl, rfl⟩

set_option maxRecDepth 20000 in
theorem m_way_2 {V : ew_Mem} {n : Nat} {M : ew_Mem} (hM : s_M V n M) {w d0 : Nat} {m : Int} (hw : (w : Int) < V 6 0) (hm : -100000 ≤ m ∧ m ≤ 100000) (h4 : ∀ r : Nat, d0 < r → r ≤ w → V r 0 = 4) : ∀ (j t : Nat) (v : Int) (q q2 : ew_AV), t + j = w → v = s_way V t m → d0 ≤ t →
    ew_X 159 46 [(2, 38), (0, (w : Int)), (0, m), (0, (d0 : Int)), (1, v), (5, 0), (0, ((t + 1 : Nat) : Int)), q, q2] [] n M (fun r a b => r = some (1, s_way V w m) ∧ a = n ∧ b = M) := by
  obtain ⟨hn, hp, hV, u0, u1, u2, u3, u4⟩ := id hM
  obtain ⟨hc6, hVW, hnd, hap, hr0, hr1, hr2, hr3, hr4, hr5⟩ := id hV
  have hc := ew_c_159
  intro j
  induction j with
  | zero =>
    intro t v q q2 hj hpl hd
    refine xr_go hc rfl rfl ?_
    refine xr_go hc rfl rfl ?_
    refine xr_icmp_gt hc rfl (by omega) (by omega) (fun c1 => ?_) (fun c1 => ?_)
    · skip
      refine xr_go hc rfl rfl ?_
      refine xr_ret hc rfl rfl ?_
      exact ⟨by rw [hpl, show t = w by omega], rfl, rfl⟩
    · exfalso; omega
  | succ j ih =>
    intro t v q q2 hj hpl hd
    have k4 := h4 (t + 1) (by omega) (by omega)
    obtain ⟨p0, p1, p2, p3, p4, p5⟩ := u4 t (by omega)
    obtain ⟨q0, q1, q2', q3, q4, q5⟩ := u4 (t + 1) (by omega)
    obtain ⟨l0, l1, l2, l3, l4⟩ := hVW t (by omega)
    obtain ⟨k0, k1, k2, k3, k5⟩ := hVW (t + 1) (by omega)
    have hbd := s_way_bd hV hm t (by omega)
    rw [← hpl] at hbd
    have hq2 : -100000000000 ≤ v / V t 1 ∧ v / V t 1 ≤ 100000000000 := s_div_bd hbd (by omega)
    have g1 := Int.emod_nonneg (v / V t 1) (show (100000 : Int) ≠ 0 by decide)
    have g2 := Int.emod_lt_of_pos (v / V t 1) (show (0 : Int) < 100000 by decide)
    refine xr_go hc rfl rfl ?_
    refine xr_go hc rfl rfl ?_
    refine xr_icmp_gt hc rfl (by omega) (by omega) (fun c1 => ?_) (fun c1 => ?_)
    · exfalso; omega
    · skip
      refine xr_go hc rfl rfl ?_
      refine xr_go hc rfl rfl ?_
      refine xr_gf2 (A := 38) (w := 40) rfl hc rfl (ew_own_p hn rfl) (ew_pm hp rfl) ?_
      refine xr_go hc rfl rfl ?_
      refine xr_gf2 (A := 38) (w := 44) rfl hc rfl (ew_own_p hn rfl) (ew_pm hp rfl) ?_
      refine xr_go hc rfl rfl ?_
      refine xr_go hc rfl rfl ?_
      refine xr_go hc rfl rfl ?_
      refine xr_iald (A := 44) (N := 6) rfl rfl hc rfl (ew_ok_p hn rfl) (by omega) (by omega) (show M 44 (((t + 1 : Nat) : Int) - 1).toNat = M 44 t by rw [show (((t + 1 : Nat) : Int) - 1).toNat = t by omega]) ?_
      refine xr_iald (A := 40) (N := 64) rfl rfl hc rfl (ew_ok_p hn rfl) (by omega) (by omega) p2 ?_
      refine xr_i2l hc rfl (by omega) ?_
      refine xr_s_2 hc rfl rfl (m_floor (by omega) (by omega)) ?_
      refine xr_s2_7 hc rfl rfl rfl ?_
      refine xr_go hc rfl rfl ?_
      refine xr_gf2 (A := 38) (w := 42) rfl hc rfl (ew_own_p hn rfl) (ew_pm hp rfl) ?_
      refine xr_go hc rfl rfl ?_
      refine xr_gf2 (A := 38) (w := 44) rfl hc rfl (ew_own_p hn rfl) (ew_pm hp rfl) ?_
      refine xr_go hc rfl rfl ?_
      refine xr_iald (A := 44) (N := 6) rfl rfl hc rfl (ew_ok_p hn rfl) (by omega) (by omega) (show M 44 ((t + 1 : Nat) : Int).toNat = M 44 (t + 1) from rfl) ?_
      refine xr_iald (A := 42) (N := 64) rfl rfl hc rfl (ew_ok_p hn rfl) (by omega) (by omega) q4 ?_
      refine xr_i2l hc rfl (by omega) ?_
      refine xr_go hc rfl rfl ?_
      refine xr_gf2 (A := 38) (w := 41) rfl hc rfl (ew_own_p hn rfl) (ew_pm hp rfl) ?_
      refine xr_go hc rfl rfl ?_
      refine xr_gf2 (A := 38) (w := 44) rfl hc rfl (ew_own_p hn rfl) (ew_pm hp rfl) ?_
      refine xr_go hc rfl rfl ?_
      refine xr_iald (A := 44) (N := 6) rfl rfl hc rfl (ew_ok_p hn rfl) (by omega) (by omega) (show M 44 ((t + 1 : Nat) : Int).toNat = M 44 (t + 1) from rfl) ?_
      refine xr_iald (A := 41) (N := 64) rfl rfl hc rfl (ew_ok_p hn rfl) (by omega) (by omega) q3 ?_
      refine xr_i2l hc rfl (by omega) ?_
      refine xr_go hc rfl rfl ?_
      refine xr_go hc rfl rfl ?_
      refine xr_go hc rfl rfl ?_
      refine xr_s_2 hc rfl rfl (m_floor (by omega) (by decide)) ?_
      refine xr_go hc rfl rfl ?_
      refine xr_go hc rfl rfl ?_
      refine xr_go hc rfl rfl ?_
      refine xr_go hc rfl rfl ?_
      refine xr_go hc rfl rfl ?_
      refine xr_s2_4 hc rfl rfl rfl ?_
      refine xr_inc_6 hc rfl ?_
      refine xr_go hc rfl rfl ?_
      rw [s_n1, s_cut]
      exact ih (t + 1) _ _ _ (by omega) (by rw [s_way_4 (h4 (t + 1) (by omega) (by omega)), ← hpl, s_plain, if_neg (by omega), if_neg (by omega), if_neg (by omega)]) (by omega)

set_option maxRecDepth 20000 in
theorem m_way_1 {V : ew_Mem} {n : Nat} {M : ew_Mem} (hM : s_M V n M) {w : Nat} {m : Int} (hw : (w : Int) < V 6 0) (hm : -100000 ≤ m ∧ m ≤ 100000) : ∀ (d : Nat), d ≤ w → (∀ r : Nat, d < r → r ≤ w → V r 0 = 4) →
    ew_X 159 2 [(2, 38), (0, (w : Int)), (0, m), (0, (d : Int)), (5, 0), (5, 0), (5, 0), (5, 0), (5, 0)] [] n M (fun r a b => r = some (1, s_way V w m) ∧ a = n ∧ b = M) := by
  obtain ⟨hn, hp, hV, u0, u1, u2, u3, u4⟩ := id hM
  obtain ⟨hc6, hVW, hnd, hap, hr0, hr1, hr2, hr3, hr4, hr5⟩ := id hV
  have hc := ew_c_159
  intro d
  induction d with
  | zero =>
    intro hd h4
    refine xr_go hc rfl rfl ?_
    refine xr_if_le hc rfl (by omega) (fun c1 => ?_) (fun c1 => ?_)
    · skip
      refine xr_go hc rfl rfl ?_
      refine xr_go hc rfl rfl ?_
      refine xr_gf2 (A := 38) (w := 44) rfl hc rfl (ew_own_p hn rfl) (ew_pm hp rfl) ?_
      refine xr_go hc rfl rfl ?_
      refine xr_iald (A := 44) (N := 6) rfl rfl hc rfl (ew_ok_p hn rfl) (by omega) (by omega) (show M 44 ((0 : Nat) : Int).toNat = M 44 0 from rfl) ?_
      refine xr_go hc rfl rfl ?_
      refine xr_i2l hc rfl (by omega) ?_
      refine xr_v_3 hc rfl rfl (ew_own_p hn rfl) (m_plainWay hn hp (u4 0 (by omega)) (hVW 0 (by omega)) (by omega)) ?_
      refine xr_s2_4 hc rfl rfl rfl ?_
      refine xr_go hc rfl rfl ?_
      refine xr_go hc rfl rfl ?_
      refine xr_go hc rfl rfl ?_
      refine xr_s1_6 hc rfl rfl rfl ?_
      exact m_way_2 hM hw hm h4 w 0 _ _ _ (by omega) rfl (by omega)
    · exfalso; omega
  | succ d ih =>
    intro hd h4
    obtain ⟨q0, q1, q2, q3, q4, q5⟩ := u4 (d + 1) (by omega)
    obtain ⟨k0, k1, k2, k3, k5⟩ := hVW (d + 1) (by omega)
    refine xr_go hc rfl rfl ?_
    refine xr_if_le hc rfl (by omega) (fun c1 => ?_) (fun c1 => ?_)
    · skip
      refine xr_go hc rfl rfl ?_
      refine xr_go hc rfl rfl ?_
      refine xr_gf2 (A := 38) (w := 44) rfl hc rfl (ew_own_p hn rfl) (ew_pm hp rfl) ?_
      refine xr_go hc rfl rfl ?_
      refine xr_iald (A := 44) (N := 6) rfl rfl hc rfl (ew_ok_p hn rfl) (by omega) (by omega) (show M 44 ((d + 1 : Nat) : Int).toNat = M 44 (d + 1) from rfl) ?_
      refine xr_go hc rfl rfl ?_
      refine xr_i2l hc rfl (by omega) ?_
      refine xr_v_3 hc rfl rfl (ew_own_p hn rfl) (m_plainWay hn hp (u4 (d + 1) (by omega)) (hVW (d + 1) (by omega)) (by omega)) ?_
      refine xr_s2_4 hc rfl rfl rfl ?_
      refine xr_go hc rfl rfl ?_
      refine xr_go hc rfl rfl ?_
      refine xr_go hc rfl rfl ?_
      refine xr_s1_6 hc rfl rfl rfl ?_
      rw [s_n1]
      exact m_way_2 hM hw hm h4 (w - (d + 1)) (d + 1) _ _ _ (by omega) (by rw [s_way_n (by omega)]) (by omega)
    · skip
      refine xr_go hc rfl rfl ?_
      refine xr_gf2 (A := 38) (w := 39) rfl hc rfl (ew_own_p hn rfl) (ew_pm hp rfl) ?_
      refine xr_go hc rfl rfl ?_
      refine xr_gf2 (A := 38) (w := 44) rfl hc rfl (ew_own_p hn rfl) (ew_pm hp rfl) ?_
      refine xr_go hc rfl rfl ?_
      refine xr_iald (A := 44) (N := 6) rfl rfl hc rfl (ew_ok_p hn rfl) (by omega) (by omega) (show M 44 ((d + 1 : Nat) : Int).toNat = M 44 (d + 1) from rfl) ?_
      refine xr_iald (A := 39) (N := 64) rfl rfl hc rfl (ew_ok_p hn rfl) (by omega) (by omega) q1 ?_
      refine xr_go hc rfl rfl ?_
      refine xr_icmp_ne hc rfl (by omega) (by decide) (fun c2 => ?_) (fun c2 => ?_)
      · skip
        refine xr_go hc rfl rfl ?_
        refine xr_go hc rfl rfl ?_
        refine xr_gf2 (A := 38) (w := 44) rfl hc rfl (ew_own_p hn rfl) (ew_pm hp rfl) ?_
        refine xr_go hc rfl rfl ?_
        refine xr_iald (A := 44) (N := 6) rfl rfl hc rfl (ew_ok_p hn rfl) (by omega) (by omega) (show M 44 ((d + 1 : Nat) : Int).toNat = M 44 (d + 1) from rfl) ?_
        refine xr_go hc rfl rfl ?_
        refine xr_i2l hc rfl (by omega) ?_
        refine xr_v_3 hc rfl rfl (ew_own_p hn rfl) (m_plainWay hn hp (u4 (d + 1) (by omega)) (hVW (d + 1) (by omega)) (by omega)) ?_
        refine xr_s2_4 hc rfl rfl rfl ?_
        refine xr_go hc rfl rfl ?_
        refine xr_go hc rfl rfl ?_
        refine xr_go hc rfl rfl ?_
        refine xr_s1_6 hc rfl rfl rfl ?_
        rw [s_n1]
        exact m_way_2 hM hw hm h4 (w - (d + 1)) (d + 1) _ _ _ (by omega) (by rw [s_way_n (by omega)]) (by omega)
      · skip
        refine xr_inc_3 hc rfl ?_
        refine xr_go hc rfl rfl ?_
        rw [show (((d + 1 : Nat) : Int) + -1) = (d : Int) by omega]
        exact ih (by omega) (fun r h1 h2 => by
          by_cases hr : r = d + 1
          · subst hr; exact (by omega)
          · exact h4 r (by omega) h2)

set_option maxRecDepth 20000 in
theorem m_way {V : ew_Mem} {n : Nat} {M : ew_Mem} (hM : s_M V n M) {w : Nat} {m : Int} (hw : (w : Int) < V 6 0) (hm : -100000 ≤ m ∧ m ≤ 100000) : ew_FM 159 [(2, 38), (0, (w : Int)), (0, m)] n M (1, s_way V w m) n M := by
  obtain ⟨hn, hp, hV, u0, u1, u2, u3, u4⟩ := id hM
  obtain ⟨hc6, hVW, hnd, hap, hr0, hr1, hr2, hr3, hr4, hr5⟩ := id hV
  have hc := ew_c_159
  show ew_X 159 0 [(2, 38), (0, (w : Int)), (0, m), (5, 0), (5, 0), (5, 0), (5, 0), (5, 0), (5, 0)] [] n M _
  refine xr_go hc rfl rfl ?_
  refine xr_s1_3 hc rfl rfl rfl ?_
  exact m_way_1 hM hw hm w (by omega) (fun r h1 h2 => by omega)

theorem m_wayI {V : ew_Mem} {n : Nat} {M : ew_Mem} (hM : s_M V n M) {w m : Int} (hw : 0 ≤ w ∧ w < V 6 0) (hm : -100000 ≤ m ∧ m ≤ 100000) : ew_FM 159 [(2, 38), (0, w), (0, m)] n M (1, s_way V w.toNat m) n M := by
  have h := m_way hM (w := w.toNat) (m := m) (by omega) hm
  rw [Int.toNat_of_nonneg hw.1] at h
  exact h
set_option maxRecDepth 20000 in
theorem m_roundsOf {V : ew_Mem} {n : Nat} {M : ew_Mem} (hM : s_M V n M) {w m : Int} (hw : 0 ≤ w ∧ w < V 6 0) (hm : -100000 ≤ m ∧ m ≤ 100000) : ew_FM 166 [(2, 38), (0, w), (0, m)] n M (1, s_rounds V w.toNat m) n M := by
  obtain ⟨hn, hp, hV, u0, u1, u2, u3, u4⟩ := id hM
  obtain ⟨hc6, hVW, hnd, hap, hr0, hr1, hr2, hr3, hr4, hr5⟩ := id hV
  have hc := ew_c_166
  obtain ⟨q0, q1, q2, q3, q4, q5⟩ := u4 w.toNat (by omega)
  obtain ⟨k0, k1, k2, k3, k4⟩ := hVW w.toNat (by omega)
  have hbd := s_way_bd hV hm w.toNat (by omega)
  have hab := s_at_bd hV m (w := w.toNat) (by omega)
  show ew_X 166 0 [(2, 38), (0, w), (0, m)] [] n M _
  refine xr_go hc rfl rfl ?_
  refine xr_go hc rfl rfl ?_
  refine xr_go hc rfl rfl ?_
  refine xr_v_3 hc rfl rfl (ew_own_p hn rfl) (m_wayI hM hw hm) ?_
  refine xr_go hc rfl rfl ?_
  refine xr_gf2 (A := 38) (w := 40) rfl hc rfl (ew_own_p hn rfl) (ew_pm hp rfl) ?_
  refine xr_go hc rfl rfl ?_
  refine xr_gf2 (A := 38) (w := 44) rfl hc rfl (ew_own_p hn rfl) (ew_pm hp rfl) ?_
  refine xr_go hc rfl rfl ?_
  refine xr_iald (A := 44) (N := 6) rfl rfl hc rfl (ew_ok_p hn rfl) (by omega) (by omega) rfl ?_
  refine xr_iald (A := 40) (N := 64) rfl rfl hc rfl (ew_ok_p hn rfl) (by omega) (by omega) q2 ?_
  refine xr_i2l hc rfl (by omega) ?_
  refine xr_s_2 hc rfl rfl (m_floor (by omega) (by omega)) ?_
  refine xr_ret hc rfl rfl ?_
  exact ⟨rfl, rfl, rfl⟩

set_option maxRecDepth 20000 in
theorem m_place {V : ew_Mem} {n : Nat} {M : ew_Mem} (hM : s_M V n M) {w m : Int} (hw : 0 ≤ w ∧ w < V 6 0) (hm : -100000 ≤ m ∧ m ≤ 100000) : ew_FM 158 [(2, 38), (0, w), (0, m)] n M (0, s_at V w.toNat m) n M := by
  obtain ⟨hn, hp, hV, u0, u1, u2, u3, u4⟩ := id hM
  obtain ⟨hc6, hVW, hnd, hap, hr0, hr1, hr2, hr3, hr4, hr5⟩ := id hV
  have hc := ew_c_158
  obtain ⟨q0, q1, q2, q3, q4, q5⟩ := u4 w.toNat (by omega)
  obtain ⟨k0, k1, k2, k3, k4⟩ := hVW w.toNat (by omega)
  have hbd := s_way_bd hV hm w.toNat (by omega)
  have hab := s_at_bd hV m (w := w.toNat) (by omega)
  show ew_X 158 0 [(2, 38), (0, w), (0, m), (5, 0), (5, 0)] [] n M _
  refine xr_go hc rfl rfl ?_
  refine xr_go hc rfl rfl ?_
  refine xr_go hc rfl rfl ?_
  refine xr_v_3 hc rfl rfl (ew_own_p hn rfl) (m_wayI hM hw hm) ?_
  refine xr_s2_3 hc rfl rfl rfl ?_
  refine xr_go hc rfl rfl ?_
  refine xr_go hc rfl rfl ?_
  refine xr_go hc rfl rfl ?_
  refine xr_gf2 (A := 38) (w := 40) rfl hc rfl (ew_own_p hn rfl) (ew_pm hp rfl) ?_
  refine xr_go hc rfl rfl ?_
  refine xr_gf2 (A := 38) (w := 44) rfl hc rfl (ew_own_p hn rfl) (ew_pm hp rfl) ?_
  refine xr_go hc rfl rfl ?_
  refine xr_iald (A := 44) (N := 6) rfl rfl hc rfl (ew_ok_p hn rfl) (by omega) (by omega) rfl ?_
  refine xr_iald (A := 40) (N := 64) rfl rfl hc rfl (ew_ok_p hn rfl) (by omega) (by omega) q2 ?_
  refine xr_i2l hc rfl (by omega) ?_
  refine xr_s_2 hc rfl rfl (m_floor (by omega) (by omega)) ?_
  refine xr_go hc rfl rfl ?_
  refine xr_gf2 (A := 38) (w := 40) rfl hc rfl (ew_own_p hn rfl) (ew_pm hp rfl) ?_
  refine xr_go hc rfl rfl ?_
  refine xr_gf2 (A := 38) (w := 44) rfl hc rfl (ew_own_p hn rfl) (ew_pm hp rfl) ?_
  refine xr_go hc rfl rfl ?_
  refine xr_iald (A := 44) (N := 6) rfl rfl hc rfl (ew_ok_p hn rfl) (by omega) (by omega) rfl ?_
  refine xr_iald (A := 40) (N := 64) rfl rfl hc rfl (ew_ok_p hn rfl) (by omega) (by omega) q2 ?_
  refine xr_i2l hc rfl (by omega) ?_
  refine xr_go hc rfl rfl ?_
  refine xr_go hc rfl rfl ?_
  refine xr_go hc rfl rfl ?_
  refine xr_ret hc rfl rfl ?_
  refine ⟨?_, rfl, rfl⟩
  rw [s_cut]
  rfl

theorem s_nege {x y : Int} (hy : 0 < y) : (-x) % y = if x % y = 0 then 0 else y - x % y := by
  have h1 := Int.emod_add_mul_ediv x y
  have g1 := Int.emod_nonneg x (show y ≠ 0 by omega)
  have g2 := Int.emod_lt_of_pos x hy
  have h2 : -x = -(x % y) + y * (-(x / y)) := by rw [Int.mul_neg]; omega
  rw [h2, Int.add_mul_emod_self_left]
  split
  · rename_i h
    rw [h]
    rfl
  · have h3 : -(x % y) = (y - x % y) + y * (-1) := by omega
    rw [h3, Int.add_mul_emod_self_left]
    exact Int.emod_eq_of_lt (by omega) (by omega)
theorem s_near_abs {p q all : Int} (h : 0 < all) : min ((if p - q < 0 then -(p - q) else p - q) % all) (all - (if p - q < 0 then -(p - q) else p - q) % all) = s_near p q all := by
  have h1 := s_nege (x := p - q) h
  have g1 := Int.emod_nonneg (p - q) (show all ≠ 0 by omega)
  have g2 := Int.emod_lt_of_pos (p - q) h
  rw [show -(p - q) = q - p by omega] at h1 ⊢
  unfold s_near
  rw [h1]
  split
  · rw [h1]
    split <;> omega
  · split <;> omega
set_option maxRecDepth 20000 in
theorem m_isMonth {n : Nat} {M : ew_Mem} {x : Int} (hx : ew_in x) : ew_FM 164 [(0, x)] n M (0, if -100000 ≤ x ∧ x ≤ 100000 then 1 else 0) n M := by
  have hc := ew_c_164
  show ew_X 164 0 [(0, x)] [] n M _
  refine xr_go hc rfl rfl ?_
  refine xr_i2l hc rfl (by omega) ?_
  refine xr_go hc rfl rfl ?_
  refine xr_go hc rfl rfl ?_
  refine xr_s_3 hc rfl rfl (c_in (by omega) (by decide) (by decide)) ?_
  refine xr_retB hc rfl (by split <;> omega) ?_
  exact ⟨rfl, rfl, rfl⟩

set_option maxRecDepth 20000 in
theorem m_isCycle {n : Nat} {M : ew_Mem} {x : Int} (hx : ew_in x) : ew_FM 181 [(0, x)] n M (0, if 1 ≤ x ∧ x ≤ 2000 then 1 else 0) n M := by
  have hc := ew_c_181
  show ew_X 181 0 [(0, x)] [] n M _
  refine xr_go hc rfl rfl ?_
  refine xr_i2l hc rfl (by omega) ?_
  refine xr_go hc rfl rfl ?_
  refine xr_go hc rfl rfl ?_
  refine xr_s_3 hc rfl rfl (c_in (by omega) (by decide) (by decide)) ?_
  refine xr_retB hc rfl (by split <;> omega) ?_
  exact ⟨rfl, rfl, rfl⟩

set_option maxRecDepth 20000 in
theorem m_isSpan {n : Nat} {M : ew_Mem} {x y z : Int} (hx : ew_in x) (hy : ew_in y) (hz : 0 ≤ z ∧ z ≤ 10000) : ew_FM 178 [(0, x), (0, y), (0, z)] n M (0, if (-100000 ≤ x ∧ x ≤ 100000) ∧ (-100000 ≤ y ∧ y ≤ 100000) ∧ x ≤ y ∧ y - x < z then 1 else 0) n M := by
  have hc := ew_c_178
  show ew_X 178 0 [(0, x), (0, y), (0, z)] [] n M _
  refine xr_go hc rfl rfl ?_
  refine xr_s_1 hc rfl rfl (m_isMonth (by omega)) ?_
  refine xr_if_eq hc rfl (by omega) (fun c1 => ?_) (fun c1 => ?_)
  · skip
    refine xr_go hc rfl rfl ?_
    refine xr_ret hc rfl rfl ?_
    exact ⟨by congr 2; split <;> omega, rfl, rfl⟩
  · skip
    refine xr_go hc rfl rfl ?_
    refine xr_s_1 hc rfl rfl (m_isMonth (by omega)) ?_
    refine xr_if_eq hc rfl (by omega) (fun c2 => ?_) (fun c2 => ?_)
    · skip
      refine xr_go hc rfl rfl ?_
      refine xr_ret hc rfl rfl ?_
      exact ⟨by congr 2; split <;> omega, rfl, rfl⟩
    · skip
      refine xr_go hc rfl rfl ?_
      refine xr_go hc rfl rfl ?_
      refine xr_icmp_lt hc rfl (by omega) (by omega) (fun c3 => ?_) (fun c3 => ?_)
      · skip
        refine xr_go hc rfl rfl ?_
        refine xr_ret hc rfl rfl ?_
        exact ⟨by congr 2; split <;> omega, rfl, rfl⟩
      · skip
        refine xr_go hc rfl rfl ?_
        refine xr_go hc rfl rfl ?_
        refine xr_go hc rfl rfl ?_
        refine xr_go hc rfl rfl ?_
        refine xr_icmp_ge hc rfl (by omega) (by omega) (fun c4 => ?_) (fun c4 => ?_)
        · skip
          refine xr_go hc rfl rfl ?_
          refine xr_ret hc rfl rfl ?_
          exact ⟨by congr 2; split <;> omega, rfl, rfl⟩
        · skip
          refine xr_go hc rfl rfl ?_
          refine xr_go hc rfl rfl ?_
          refine xr_ret hc rfl rfl ?_
          exact ⟨by congr 2; split <;> omega, rfl, rfl⟩

set_option maxRecDepth 20000 in
theorem m_near {n : Nat} {M : ew_Mem} {p q all : Int} (hx : -400000 ≤ p ∧ p ≤ 400000) (hy : -400000 ≤ q ∧ q ≤ 400000) (h : 0 < all ∧ all ≤ 200000) : ew_FM 175 [(0, p), (0, q), (0, all)] n M (0, s_near p q all) n M := by
  have hc := ew_c_175
  have g1 := Int.emod_nonneg (if p - q < 0 then -(p - q) else p - q) (show all ≠ 0 by omega)
  have g2 := Int.emod_lt_of_pos (if p - q < 0 then -(p - q) else p - q) h.1
  show ew_X 175 0 [(0, p), (0, q), (0, all), (5, 0)] [] n M _
  refine xr_go hc rfl rfl ?_
  refine xr_go hc rfl rfl ?_
  refine xr_go hc rfl rfl ?_
  refine xr_s_1 hc rfl rfl (c_absI (by omega)) ?_
  refine xr_go hc rfl rfl ?_
  refine xr_irem hc rfl (by omega) (by omega) ?_
  refine xr_s1_3 hc rfl rfl rfl ?_
  refine xr_go hc rfl rfl ?_
  refine xr_go hc rfl rfl ?_
  refine xr_go hc rfl rfl ?_
  refine xr_go hc rfl rfl ?_
  refine xr_s_2 hc rfl rfl (c_minI (by omega) (by omega)) ?_
  refine xr_ret hc rfl rfl ?_
  exact ⟨by rw [s_near_abs h.1], rfl, rfl⟩

set_option maxRecDepth 20000 in
theorem m_nodeParts {V : ew_Mem} {n : Nat} {M : ew_Mem} (hM : s_M V n M) (h0 : 0 < V 6 0) : ew_FM 174 [(2, 38)] n M (0, s_nP V) n M := by
  obtain ⟨hn, hp, hV, u0, u1, u2, u3, u4⟩ := id hM
  obtain ⟨hc6, hVW, hnd, hap, hr0, hr1, hr2, hr3, hr4, hr5⟩ := id hV
  have hc := ew_c_174
  have hnd0 : 0 ≤ V 6 1 ∧ V 6 1 < V 6 0 := by omega
  obtain ⟨q0, q1, q2, q3, q4, q5⟩ := u4 (V 6 1).toNat (by omega)
  obtain ⟨k0, k1, k2, k3, k4⟩ := hVW (V 6 1).toNat (by omega)
  show ew_X 174 0 [(2, 38)] [] n M _
  refine xr_go hc rfl rfl ?_
  refine xr_gf2 (A := 38) (w := 40) rfl hc rfl (ew_own_p hn rfl) (ew_pm hp rfl) ?_
  refine xr_go hc rfl rfl ?_
  refine xr_gf2 (A := 38) (w := 44) rfl hc rfl (ew_own_p hn rfl) (ew_pm hp rfl) ?_
  refine xr_go hc rfl rfl ?_
  refine xr_gf0 (A := 38) rfl hc rfl (ew_own_p hn rfl) u1 ?_
  refine xr_iald (A := 44) (N := 6) rfl rfl hc rfl (ew_ok_p hn rfl) (by omega) (by omega) rfl ?_
  refine xr_iald (A := 40) (N := 64) rfl rfl hc rfl (ew_ok_p hn rfl) (by omega) (by omega) q2 ?_
  refine xr_ret hc rfl rfl ?_
  exact ⟨rfl, rfl, rfl⟩

set_option maxRecDepth 20000 in
theorem m_farFrom {V : ew_Mem} {n : Nat} {M : ew_Mem} (hM : s_M V n M) (h0 : 0 < V 6 0) {m x : Int} (hm : -100000 ≤ m ∧ m ≤ 100000) (hx : x = 0 ∨ x = 1) : ew_FM 173 [(2, 38), (0, m), (0, x)] n M (0, s_near (s_at V (V 6 1).toNat m) (if x = 0 then 0 else s_nP V / 2) (s_nP V)) n M := by
  obtain ⟨hn, hp, hV, u0, u1, u2, u3, u4⟩ := id hM
  obtain ⟨hc6, hVW, hnd, hap, hr0, hr1, hr2, hr3, hr4, hr5⟩ := id hV
  have hc := ew_c_173
  have hnd0 : 0 ≤ V 6 1 ∧ V 6 1 < V 6 0 := by omega
  obtain ⟨q0, q1, q2, q3, q4, q5⟩ := u4 (V 6 1).toNat (by omega)
  obtain ⟨k0, k1, k2, k3, k4⟩ := hVW (V 6 1).toNat (by omega)
  have hat := s_at_bd hV m (w := (V 6 1).toNat) (by omega)
  have hnP : s_nP V = V (V 6 1).toNat 1 := rfl
  show ew_X 173 0 [(2, 38), (0, m), (0, x)] [] n M _
  refine xr_go hc rfl rfl ?_
  refine xr_go hc rfl rfl ?_
  refine xr_gf0 (A := 38) rfl hc rfl (ew_own_p hn rfl) u1 ?_
  refine xr_go hc rfl rfl ?_
  refine xr_v_3 hc rfl rfl (ew_own_p hn rfl) (m_place hM hnd0 hm) ?_
  refine xr_go hc rfl rfl ?_
  refine xr_if_ne hc rfl (by omega) (fun c1 => ?_) (fun c1 => ?_)
  · skip
    refine xr_go hc rfl rfl ?_
    refine xr_v_1 hc rfl rfl (ew_own_p hn rfl) (m_nodeParts hM h0) ?_
    refine xr_go hc rfl rfl ?_
    refine xr_idiv hc rfl (by omega) (by omega) ?_
    refine xr_go hc rfl rfl ?_
    refine xr_v_1 hc rfl rfl (ew_own_p hn rfl) (m_nodeParts hM h0) ?_
    refine xr_s_3 hc rfl rfl (m_near (by omega) (by omega) (by omega)) ?_
    refine xr_ret hc rfl rfl ?_
    refine ⟨?_, rfl, rfl⟩
    first
      | rw [if_neg (by omega)]
      | rw [if_pos (by omega)]
  · skip
    refine xr_go hc rfl rfl ?_
    refine xr_go hc rfl rfl ?_
    refine xr_go hc rfl rfl ?_
    refine xr_v_1 hc rfl rfl (ew_own_p hn rfl) (m_nodeParts hM h0) ?_
    refine xr_s_3 hc rfl rfl (m_near (by omega) (by omega) (by omega)) ?_
    refine xr_ret hc rfl rfl ?_
    refine ⟨?_, rfl, rfl⟩
    first
      | rw [if_neg (by omega)]
      | rw [if_pos (by omega)]

theorem m_farFrom0 {V : ew_Mem} {n : Nat} {M : ew_Mem} (hM : s_M V n M) (h0 : 0 < V 6 0) {m : Int} (hm : -100000 ≤ m ∧ m ≤ 100000) : ew_FM 173 [(2, 38), (0, m), (0, 0)] n M (0, s_near (s_at V (V 6 1).toNat m) 0 (s_nP V)) n M :=
  m_farFrom hM h0 hm (x := 0) (by decide)
theorem m_farFrom1 {V : ew_Mem} {n : Nat} {M : ew_Mem} (hM : s_M V n M) (h0 : 0 < V 6 0) {m : Int} (hm : -100000 ≤ m ∧ m ≤ 100000) : ew_FM 173 [(2, 38), (0, m), (0, 1)] n M (0, s_near (s_at V (V 6 1).toNat m) (s_nP V / 2) (s_nP V)) n M :=
  m_farFrom hM h0 hm (x := 1) (by decide)
set_option maxRecDepth 20000 in
theorem m_sideOf {V : ew_Mem} {n : Nat} {M : ew_Mem} (hM : s_M V n M) (h0 : 0 < V 6 0) {m : Int} (hm : -100000 ≤ m ∧ m ≤ 100000) : ew_FM 176 [(2, 38), (0, m)] n M (0, s_side V m) n M := by
  obtain ⟨hn, hp, hV, u0, u1, u2, u3, u4⟩ := id hM
  obtain ⟨hc6, hVW, hnd, hap, hr0, hr1, hr2, hr3, hr4, hr5⟩ := id hV
  have hc := ew_c_176
  have hnd0 : 0 ≤ V 6 1 ∧ V 6 1 < V 6 0 := by omega
  obtain ⟨q0, q1, q2, q3, q4, q5⟩ := u4 (V 6 1).toNat (by omega)
  obtain ⟨k0, k1, k2, k3, k4⟩ := hVW (V 6 1).toNat (by omega)
  have hnP : s_nP V = V (V 6 1).toNat 1 := rfl
  have hn0 := s_near_bd (s_at V (V 6 1).toNat m) 0 (all := s_nP V) (by omega)
  have hn1 := s_near_bd (s_at V (V 6 1).toNat m) (s_nP V / 2) (all := s_nP V) (by omega)
  show ew_X 176 0 [(2, 38), (0, m)] [] n M _
  refine xr_go hc rfl rfl ?_
  refine xr_go hc rfl rfl ?_
  refine xr_go hc rfl rfl ?_
  refine xr_v_3 hc rfl rfl (ew_own_p hn rfl) (m_farFrom1 hM h0 hm) ?_
  refine xr_go hc rfl rfl ?_
  refine xr_go hc rfl rfl ?_
  refine xr_go hc rfl rfl ?_
  refine xr_v_3 hc rfl rfl (ew_own_p hn rfl) (m_farFrom0 hM h0 hm) ?_
  refine xr_icmp_ge hc rfl (by omega) (by omega) (fun c1 => ?_) (fun c1 => ?_)
  · skip
    refine xr_go hc rfl rfl ?_
    refine xr_ret hc rfl rfl ?_
    refine ⟨?_, rfl, rfl⟩
    unfold s_side
    rw [hnP] at c1
    first
      | rw [if_pos c1]
      | rw [if_neg c1]
      | rw [if_pos (by omega)]
      | rw [if_neg (by omega)]
  · skip
    refine xr_go hc rfl rfl ?_
    refine xr_go hc rfl rfl ?_
    refine xr_ret hc rfl rfl ?_
    refine ⟨?_, rfl, rfl⟩
    unfold s_side
    rw [hnP] at c1
    first
      | rw [if_pos c1]
      | rw [if_neg c1]
      | rw [if_pos (by omega)]
      | rw [if_neg (by omega)]

set_option maxRecDepth 20000 in
theorem m_far {V : ew_Mem} {n : Nat} {M : ew_Mem} (hM : s_M V n M) (h0 : 0 < V 6 0) {m : Int} (hm : -100000 ≤ m ∧ m ≤ 100000) : ew_FM 172 [(2, 38), (0, m)] n M (0, s_far V m) n M := by
  obtain ⟨hn, hp, hV, u0, u1, u2, u3, u4⟩ := id hM
  obtain ⟨hc6, hVW, hnd, hap, hr0, hr1, hr2, hr3, hr4, hr5⟩ := id hV
  have hc := ew_c_172
  have hnd0 : 0 ≤ V 6 1 ∧ V 6 1 < V 6 0 := by omega
  obtain ⟨q0, q1, q2, q3, q4, q5⟩ := u4 (V 6 1).toNat (by omega)
  obtain ⟨k0, k1, k2, k3, k4⟩ := hVW (V 6 1).toNat (by omega)
  have hnP : s_nP V = V (V 6 1).toNat 1 := rfl
  have hn0 := s_near_bd (s_at V (V 6 1).toNat m) 0 (all := s_nP V) (by omega)
  have hn1 := s_near_bd (s_at V (V 6 1).toNat m) (s_nP V / 2) (all := s_nP V) (by omega)
  show ew_X 172 0 [(2, 38), (0, m)] [] n M _
  refine xr_go hc rfl rfl ?_
  refine xr_go hc rfl rfl ?_
  refine xr_go hc rfl rfl ?_
  refine xr_v_3 hc rfl rfl (ew_own_p hn rfl) (m_farFrom0 hM h0 hm) ?_
  refine xr_go hc rfl rfl ?_
  refine xr_go hc rfl rfl ?_
  refine xr_go hc rfl rfl ?_
  refine xr_v_3 hc rfl rfl (ew_own_p hn rfl) (m_farFrom1 hM h0 hm) ?_
  refine xr_s_2 hc rfl rfl (c_minI (by omega) (by omega)) ?_
  refine xr_ret hc rfl rfl ?_
  exact ⟨rfl, rfl, rfl⟩

set_option maxRecDepth 20000 in
theorem m_eclipseAt {V : ew_Mem} {n : Nat} {M : ew_Mem} (hM : s_M V n M) {m : Int} (hm : -100000 ≤ m ∧ m ≤ 100000) : ew_FM 171 [(2, 38), (0, m)] n M (0, s_ecl V m) n M := by
  obtain ⟨hn, hp, hV, u0, u1, u2, u3, u4⟩ := id hM
  obtain ⟨hc6, hVW, hnd, hap, hr0, hr1, hr2, hr3, hr4, hr5⟩ := id hV
  have hc := ew_c_171
  show ew_X 171 0 [(2, 38), (0, m), (5, 0)] [] n M _
  refine xr_go hc rfl rfl ?_
  refine xr_gf0 (A := 38) rfl hc rfl (ew_own_p hn rfl) u0 ?_
  refine xr_if_ne hc rfl (by omega) (fun c1 => ?_) (fun c1 => ?_)
  · skip
    have hf := s_far_bd hV (by omega) m
    refine xr_go hc rfl rfl ?_
    refine xr_go hc rfl rfl ?_
    refine xr_v_2 hc rfl rfl (ew_own_p hn rfl) (m_far hM (by omega) hm) ?_
    refine xr_s1_2 hc rfl rfl rfl ?_
    refine xr_go hc rfl rfl ?_
    refine xr_go hc rfl rfl ?_
    refine xr_gf2 (A := 38) (w := 45) rfl hc rfl (ew_own_p hn rfl) (ew_pm hp rfl) ?_
    refine xr_go hc rfl rfl ?_
    refine xr_iald (A := 45) (N := 6) rfl rfl hc rfl (ew_ok_p hn rfl) (by decide) (by decide) (u3 0 (by decide)) ?_
    refine xr_icmp_le hc rfl (by omega) (by omega) (fun c2 => ?_) (fun c2 => ?_)
    · skip
      refine xr_go hc rfl rfl ?_
      refine xr_go hc rfl rfl ?_
      refine xr_gf2 (A := 38) (w := 45) rfl hc rfl (ew_own_p hn rfl) (ew_pm hp rfl) ?_
      refine xr_go hc rfl rfl ?_
      refine xr_iald (A := 45) (N := 6) rfl rfl hc rfl (ew_ok_p hn rfl) (by decide) (by decide) (u3 1 (by decide)) ?_
      refine xr_icmp_le hc rfl (by omega) (by omega) (fun c3 => ?_) (fun c3 => ?_)
      · skip
        refine xr_go hc rfl rfl ?_
        refine xr_gf0 (A := 38) rfl hc rfl (ew_own_p hn rfl) u2 ?_
        refine xr_if_lt hc rfl (by omega) (fun c4 => ?_) (fun c4 => ?_)
        · skip
          refine xr_go hc rfl rfl ?_
          refine xr_ret hc rfl rfl ?_
          refine ⟨?_, rfl, rfl⟩
          unfold s_ecl
          repeat' split
          all_goals first
            | rfl
            | (exfalso; omega)
        · skip
          obtain ⟨q0, q1, q2, q3, q4, q5⟩ := u4 (V 6 2).toNat (by omega)
          obtain ⟨k0, k1, k2, k3, k4⟩ := hVW (V 6 2).toNat (by omega)
          have hat := s_at_bd hV m (w := (V 6 2).toNat) (by omega)
          have hnb := s_near_bd (s_at V (V 6 2).toNat m) 0 (all := V (V 6 2).toNat 1) (by omega)
          refine xr_go hc rfl rfl ?_
          refine xr_go hc rfl rfl ?_
          refine xr_gf0 (A := 38) rfl hc rfl (ew_own_p hn rfl) u2 ?_
          refine xr_go hc rfl rfl ?_
          refine xr_v_3 hc rfl rfl (ew_own_p hn rfl) (m_place hM (w := V 6 2) (by omega) hm) ?_
          refine xr_go hc rfl rfl ?_
          refine xr_go hc rfl rfl ?_
          refine xr_gf2 (A := 38) (w := 40) rfl hc rfl (ew_own_p hn rfl) (ew_pm hp rfl) ?_
          refine xr_go hc rfl rfl ?_
          refine xr_gf2 (A := 38) (w := 44) rfl hc rfl (ew_own_p hn rfl) (ew_pm hp rfl) ?_
          refine xr_go hc rfl rfl ?_
          refine xr_gf0 (A := 38) rfl hc rfl (ew_own_p hn rfl) u2 ?_
          refine xr_iald (A := 44) (N := 6) rfl rfl hc rfl (ew_ok_p hn rfl) (by omega) (by omega) rfl ?_
          refine xr_iald (A := 40) (N := 64) rfl rfl hc rfl (ew_ok_p hn rfl) (by omega) (by omega) q2 ?_
          refine xr_s_3 hc rfl rfl (m_near (by omega) (by omega) (by omega)) ?_
          refine xr_go hc rfl rfl ?_
          refine xr_gf2 (A := 38) (w := 45) rfl hc rfl (ew_own_p hn rfl) (ew_pm hp rfl) ?_
          refine xr_go hc rfl rfl ?_
          refine xr_iald (A := 45) (N := 6) rfl rfl hc rfl (ew_ok_p hn rfl) (by decide) (by decide) (u3 2 (by decide)) ?_
          refine xr_icmp_le hc rfl (by omega) (by omega) (fun c5 => ?_) (fun c5 => ?_)
          · skip
            refine xr_go hc rfl rfl ?_
            refine xr_ret hc rfl rfl ?_
            refine ⟨?_, rfl, rfl⟩
            unfold s_ecl
            repeat' split
            all_goals first
              | rfl
              | (exfalso; omega)
          · skip
            refine xr_go hc rfl rfl ?_
            refine xr_go hc rfl rfl ?_
            refine xr_ret hc rfl rfl ?_
            refine ⟨?_, rfl, rfl⟩
            unfold s_ecl
            repeat' split
            all_goals first
              | rfl
              | (exfalso; omega)
      · skip
        refine xr_go hc rfl rfl ?_
        refine xr_ret hc rfl rfl ?_
        refine ⟨?_, rfl, rfl⟩
        unfold s_ecl
        repeat' split
        all_goals first
          | rfl
          | (exfalso; omega)
    · skip
      refine xr_go hc rfl rfl ?_
      refine xr_ret hc rfl rfl ?_
      refine ⟨?_, rfl, rfl⟩
      unfold s_ecl
      repeat' split
      all_goals first
        | rfl
        | (exfalso; omega)
  · skip
    refine xr_go hc rfl rfl ?_
    refine xr_ret hc rfl rfl ?_
    refine ⟨?_, rfl, rfl⟩
    unfold s_ecl
    repeat' split
    all_goals first
      | rfl
      | (exfalso; omega)

set_option maxRecDepth 20000 in
theorem m_isRule {n : Nat} {M : ew_Mem} {x v : Int} (hx : 0 ≤ x ∧ x ≤ 5) (hv : ew_in v) : ew_FM 169 [(0, x), (0, v)] n M (0, s_b (s_rok x v)) n M := by
  have hc := ew_c_169
  show ew_X 169 0 [(0, x), (0, v)] [] n M _
  refine xr_go hc rfl rfl ?_
  refine xr_ts hc rfl (by omega) (fun c1 => ?_) (fun c1a c1b => ?_)
  · skip
    refine xr_go hc rfl rfl ?_
    refine xr_i2l hc rfl (by omega) ?_
    refine xr_go hc rfl rfl ?_
    refine xr_go hc rfl rfl ?_
    refine xr_s_3 hc rfl rfl (c_in (by omega) (by decide) (by decide)) ?_
    refine xr_retB hc rfl (by split <;> omega) ?_
    refine ⟨?_, rfl, rfl⟩
    unfold s_b s_rok
    simp only [decide_eq_true_eq]
    congr 2
    repeat' split
    all_goals first
      | rfl
      | (exfalso; omega)
  · rcases (show (x) = 3 ∨ (x) = 4 ∨ (x) = 5 by omega) with ec1 | ec1 | ec1
    · refine ⟨27, 28, by rw [ec1]; rfl, rfl, ?_⟩
      refine xr_go hc rfl rfl ?_
      refine xr_i2l hc rfl (by omega) ?_
      refine xr_go hc rfl rfl ?_
      refine xr_go hc rfl rfl ?_
      refine xr_s_3 hc rfl rfl (c_in (by omega) (by decide) (by decide)) ?_
      refine xr_retB hc rfl (by split <;> omega) ?_
      refine ⟨?_, rfl, rfl⟩
      unfold s_b s_rok
      simp only [decide_eq_true_eq]
      congr 2
      repeat' split
      all_goals first
        | rfl
        | (exfalso; omega)
    · refine ⟨37, 38, by rw [ec1]; rfl, rfl, ?_⟩
      refine xr_go hc rfl rfl ?_
      refine xr_i2l hc rfl (by omega) ?_
      refine xr_go hc rfl rfl ?_
      refine xr_go hc rfl rfl ?_
      refine xr_s_3 hc rfl rfl (c_in (by omega) (by decide) (by decide)) ?_
      refine xr_retB hc rfl (by split <;> omega) ?_
      refine ⟨?_, rfl, rfl⟩
      unfold s_b s_rok
      simp only [decide_eq_true_eq]
      congr 2
      repeat' split
      all_goals first
        | rfl
        | (exfalso; omega)
    · refine ⟨47, 48, by rw [ec1]; rfl, rfl, ?_⟩
      refine xr_go hc rfl rfl ?_
      refine xr_i2l hc rfl (by omega) ?_
      refine xr_go hc rfl rfl ?_
      refine xr_go hc rfl rfl ?_
      refine xr_s_3 hc rfl rfl (c_in (by omega) (by decide) (by decide)) ?_
      refine xr_retB hc rfl (by split <;> omega) ?_
      refine ⟨?_, rfl, rfl⟩
      unfold s_b s_rok
      simp only [decide_eq_true_eq]
      congr 2
      repeat' split
      all_goals first
        | rfl
        | (exfalso; omega)

