/-! paper: bytes and numbers, both sides -/
theorem s_ne_rd {M : ew_Mem} {a c i f : Nat} {v : Int} (h : ¬ c = a) : ew_wr M a i v c f = M c f := by
  simp only [ew_wr]
  simp [h]
set_option maxRecDepth 20000 in
theorem c_add {n : Nat} {M : ew_Mem} (hn : 59 ≤ n) (hp : ew_Pm M) {P : List Int} {v : Int} (hP : P.length < 120) : ew_VM 23 [(2, 34), (0, v)] n (s_sh M 35 34 1 P) n (s_sh M 35 34 1 (P ++ [v])) := by
  have hp2 : ew_Pm (s_sh M 35 34 1 P) := s_Fr_pm (s_sh_fr (s_scr_c rfl) rfl) hp
  have hc := ew_c_23
  show ew_X 23 0 [(2, 34), (0, v)] [] n _ _
  refine xr_go hc rfl rfl ?_
  refine xr_gf0 (A := 34) rfl hc rfl (ew_own_p hn rfl) (show _ = (P.length : Int) by first | exact s_sh_len | (show ew_wr (s_sh M 35 34 1 P) 35 _ _ 34 1 = _; rw [s_ne_rd (by decide)]; exact s_sh_len)) ?_
  refine xr_if_lt hc rfl (by omega) (fun c1 => ?_) (fun c1 => ?_)
  · exfalso; omega
  · skip
    refine xr_go hc rfl rfl ?_
    refine xr_gf0 (A := 34) rfl hc rfl (ew_own_p hn rfl) (show _ = (P.length : Int) by first | exact s_sh_len | (show ew_wr (s_sh M 35 34 1 P) 35 _ _ 34 1 = _; rw [s_ne_rd (by decide)]; exact s_sh_len)) ?_
    refine xr_go hc rfl rfl ?_
    refine xr_gf2 (A := 34) rfl hc rfl (ew_own_p hn rfl) (ew_pm (v := 35) hp2 rfl) ?_
    refine xr_alen (A := 35) (N := 120) (t := 20) rfl rfl hc rfl (ew_ok_p hn rfl) (by decide) ?_
    refine xr_icmp_ge hc rfl (by omega) (by decide) (fun c2 => ?_) (fun c2 => ?_)
    · exfalso; omega
    · skip
      refine xr_go hc rfl rfl ?_
      refine xr_gf2 (A := 34) rfl hc rfl (ew_own_p hn rfl) (ew_pm (v := 35) hp2 rfl) ?_
      refine xr_go hc rfl rfl ?_
      refine xr_gf0 (A := 34) rfl hc rfl (ew_own_p hn rfl) (show _ = (P.length : Int) by first | exact s_sh_len | (show ew_wr (s_sh M 35 34 1 P) 35 _ _ 34 1 = _; rw [s_ne_rd (by decide)]; exact s_sh_len)) ?_
      refine xr_go hc rfl rfl ?_
      refine xr_iast (A := 35) (N := 120) rfl rfl hc rfl (ew_own_p hn rfl) (by omega) (by omega) ?_
      refine xr_go hc rfl rfl ?_
      refine xr_go hc rfl rfl ?_
      refine xr_gf0 (A := 34) rfl hc rfl (ew_own_p hn rfl) (show _ = (P.length : Int) by first | exact s_sh_len | (show ew_wr (s_sh M 35 34 1 P) 35 _ _ 34 1 = _; rw [s_ne_rd (by decide)]; exact s_sh_len)) ?_
      refine xr_go hc rfl rfl ?_
      refine xr_go hc rfl rfl ?_
      refine xr_pf (A := 34) rfl hc rfl (ew_own_p hn rfl) ?_
      refine xr_ret hc rfl rfl ?_
      refine ⟨rfl, rfl, ?_⟩
      rw [Int.toNat_natCast]
      exact s_sh_add (by decide)

set_option maxRecDepth 20000 in
theorem m_print {n : Nat} {M : ew_Mem} (hn : 59 ≤ n) (hp : ew_Pm M) {P : List Int} {v : Int} (hP : P.length < 140) : ew_VM 209 [(2, 38), (0, v)] n (s_sh M 51 38 18 P) n (s_sh M 51 38 18 (P ++ [v])) := by
  have hp2 : ew_Pm (s_sh M 51 38 18 P) := s_Fr_pm (s_sh_fr (s_scr_c rfl) rfl) hp
  have hc := ew_c_209
  show ew_X 209 0 [(2, 38), (0, v)] [] n _ _
  refine xr_go hc rfl rfl ?_
  refine xr_gf2 (A := 38) rfl hc rfl (ew_own_p hn rfl) (ew_pm (v := 51) hp2 rfl) ?_
  refine xr_go hc rfl rfl ?_
  refine xr_gf0 (A := 38) rfl hc rfl (ew_own_p hn rfl) (show _ = (P.length : Int) by first | exact s_sh_len | (show ew_wr (s_sh M 51 38 18 P) 51 _ _ 38 18 = _; rw [s_ne_rd (by decide)]; exact s_sh_len)) ?_
  refine xr_go hc rfl rfl ?_
  refine xr_iast (A := 51) (N := 140) rfl rfl hc rfl (ew_own_p hn rfl) (by omega) (by omega) ?_
  refine xr_go hc rfl rfl ?_
  refine xr_go hc rfl rfl ?_
  refine xr_gf0 (A := 38) rfl hc rfl (ew_own_p hn rfl) (show _ = (P.length : Int) by first | exact s_sh_len | (show ew_wr (s_sh M 51 38 18 P) 51 _ _ 38 18 = _; rw [s_ne_rd (by decide)]; exact s_sh_len)) ?_
  refine xr_go hc rfl rfl ?_
  refine xr_go hc rfl rfl ?_
  refine xr_pf (A := 38) rfl hc rfl (ew_own_p hn rfl) ?_
  refine xr_ret hc rfl rfl ?_
  refine ⟨rfl, rfl, ?_⟩
  rw [Int.toNat_natCast]
  exact s_sh_add (by decide)

set_option maxRecDepth 20000 in
theorem c_dg_e {n : Nat} {M : ew_Mem} (hn : 59 ≤ n) (hp : ew_Pm M) {x0 x d0 : Int} {P : List Int} (hx : 0 ≤ x ∧ x ≤ 100000) (hP : P.length + 0 ≤ 120) : ew_X 24 49 [(2, 34), (0, x0), (0, x), (0, d0), (0, 0)] [] n (s_sh M 35 34 1 P) (fun r a b => r = none ∧ a = n ∧ b = (s_sh M 35 34 1 P)) := by
  have hc := ew_c_24
  refine xr_go hc rfl rfl ?_
  refine xr_go hc rfl rfl ?_
  refine xr_icmp_lt hc rfl (by omega) (by decide) (fun c1 => ?_) (fun c1 => ?_)
  · skip
    refine xr_ret hc rfl rfl ?_
    exact ⟨rfl, rfl, rfl⟩
  · exfalso; omega

set_option maxRecDepth 20000 in
theorem c_dg_0 {n : Nat} {M : ew_Mem} (hn : 59 ≤ n) (hp : ew_Pm M) {x0 x d0 : Int} {P : List Int} (hx : 0 ≤ x ∧ x ≤ 100000) (hP : P.length + 1 ≤ 120) : ew_X 24 49 [(2, 34), (0, x0), (0, x), (0, d0), (0, 1)] [] n (s_sh M 35 34 1 P) (fun r a b => r = none ∧ a = n ∧ b = (s_sh M 35 34 1 (P ++ s_dg x 0))) := by
  have hc := ew_c_24
  refine xr_go hc rfl rfl ?_
  refine xr_go hc rfl rfl ?_
  refine xr_icmp_lt hc rfl (by omega) (by decide) (fun c1 => ?_) (fun c1 => ?_)
  · exfalso; omega
  · skip
    refine xr_go hc rfl rfl ?_
    refine xr_go hc rfl rfl ?_
    refine xr_go hc rfl rfl ?_
    refine xr_go hc rfl rfl ?_
    refine xr_idiv hc rfl (by omega) (by omega) ?_
    refine xr_go hc rfl rfl ?_
    refine xr_irem hc rfl (by omega) (by omega) ?_
    refine xr_go hc rfl rfl ?_
    refine xr_vv_2 (v := (0, 0)) hc rfl rfl (ew_own_p hn rfl) (c_add hn hp (by omega)) ?_
    refine xr_go hc rfl rfl ?_
    refine xr_go hc rfl rfl ?_
    refine xr_idiv hc rfl (by omega) (by omega) ?_
    refine xr_s1_4 hc rfl rfl rfl ?_
    refine xr_go hc rfl rfl ?_
    have h := c_dg_e hn hp (d0 := d0) (x0 := x0) (x := x) (P := P ++ [48 + x / 1 % 10]) hx (by simp; omega)
    exact h

set_option maxRecDepth 20000 in
theorem c_dg_1 {n : Nat} {M : ew_Mem} (hn : 59 ≤ n) (hp : ew_Pm M) {x0 x d0 : Int} {P : List Int} (hx : 0 ≤ x ∧ x ≤ 100000) (hP : P.length + 2 ≤ 120) : ew_X 24 49 [(2, 34), (0, x0), (0, x), (0, d0), (0, 10)] [] n (s_sh M 35 34 1 P) (fun r a b => r = none ∧ a = n ∧ b = (s_sh M 35 34 1 (P ++ s_dg x 1))) := by
  have hc := ew_c_24
  refine xr_go hc rfl rfl ?_
  refine xr_go hc rfl rfl ?_
  refine xr_icmp_lt hc rfl (by omega) (by decide) (fun c1 => ?_) (fun c1 => ?_)
  · exfalso; omega
  · skip
    refine xr_go hc rfl rfl ?_
    refine xr_go hc rfl rfl ?_
    refine xr_go hc rfl rfl ?_
    refine xr_go hc rfl rfl ?_
    refine xr_idiv hc rfl (by omega) (by omega) ?_
    refine xr_go hc rfl rfl ?_
    refine xr_irem hc rfl (by omega) (by omega) ?_
    refine xr_go hc rfl rfl ?_
    refine xr_vv_2 (v := (0, 0)) hc rfl rfl (ew_own_p hn rfl) (c_add hn hp (by omega)) ?_
    refine xr_go hc rfl rfl ?_
    refine xr_go hc rfl rfl ?_
    refine xr_idiv hc rfl (by omega) (by omega) ?_
    refine xr_s1_4 hc rfl rfl rfl ?_
    refine xr_go hc rfl rfl ?_
    have h := c_dg_0 hn hp (d0 := d0) (x0 := x0) (x := x) (P := P ++ [48 + x / 10 % 10]) hx (by simp; omega)
    rw [List.append_assoc] at h
    exact h

set_option maxRecDepth 20000 in
theorem c_dg_2 {n : Nat} {M : ew_Mem} (hn : 59 ≤ n) (hp : ew_Pm M) {x0 x d0 : Int} {P : List Int} (hx : 0 ≤ x ∧ x ≤ 100000) (hP : P.length + 3 ≤ 120) : ew_X 24 49 [(2, 34), (0, x0), (0, x), (0, d0), (0, 100)] [] n (s_sh M 35 34 1 P) (fun r a b => r = none ∧ a = n ∧ b = (s_sh M 35 34 1 (P ++ s_dg x 2))) := by
  have hc := ew_c_24
  refine xr_go hc rfl rfl ?_
  refine xr_go hc rfl rfl ?_
  refine xr_icmp_lt hc rfl (by omega) (by decide) (fun c1 => ?_) (fun c1 => ?_)
  · exfalso; omega
  · skip
    refine xr_go hc rfl rfl ?_
    refine xr_go hc rfl rfl ?_
    refine xr_go hc rfl rfl ?_
    refine xr_go hc rfl rfl ?_
    refine xr_idiv hc rfl (by omega) (by omega) ?_
    refine xr_go hc rfl rfl ?_
    refine xr_irem hc rfl (by omega) (by omega) ?_
    refine xr_go hc rfl rfl ?_
    refine xr_vv_2 (v := (0, 0)) hc rfl rfl (ew_own_p hn rfl) (c_add hn hp (by omega)) ?_
    refine xr_go hc rfl rfl ?_
    refine xr_go hc rfl rfl ?_
    refine xr_idiv hc rfl (by omega) (by omega) ?_
    refine xr_s1_4 hc rfl rfl rfl ?_
    refine xr_go hc rfl rfl ?_
    have h := c_dg_1 hn hp (d0 := d0) (x0 := x0) (x := x) (P := P ++ [48 + x / 100 % 10]) hx (by simp; omega)
    rw [List.append_assoc] at h
    exact h

set_option maxRecDepth 20000 in
theorem c_dg_3 {n : Nat} {M : ew_Mem} (hn : 59 ≤ n) (hp : ew_Pm M) {x0 x d0 : Int} {P : List Int} (hx : 0 ≤ x ∧ x ≤ 100000) (hP : P.length + 4 ≤ 120) : ew_X 24 49 [(2, 34), (0, x0), (0, x), (0, d0), (0, 1000)] [] n (s_sh M 35 34 1 P) (fun r a b => r = none ∧ a = n ∧ b = (s_sh M 35 34 1 (P ++ s_dg x 3))) := by
  have hc := ew_c_24
  refine xr_go hc rfl rfl ?_
  refine xr_go hc rfl rfl ?_
  refine xr_icmp_lt hc rfl (by omega) (by decide) (fun c1 => ?_) (fun c1 => ?_)
  · exfalso; omega
  · skip
    refine xr_go hc rfl rfl ?_
    refine xr_go hc rfl rfl ?_
    refine xr_go hc rfl rfl ?_
    refine xr_go hc rfl rfl ?_
    refine xr_idiv hc rfl (by omega) (by omega) ?_
    refine xr_go hc rfl rfl ?_
    refine xr_irem hc rfl (by omega) (by omega) ?_
    refine xr_go hc rfl rfl ?_
    refine xr_vv_2 (v := (0, 0)) hc rfl rfl (ew_own_p hn rfl) (c_add hn hp (by omega)) ?_
    refine xr_go hc rfl rfl ?_
    refine xr_go hc rfl rfl ?_
    refine xr_idiv hc rfl (by omega) (by omega) ?_
    refine xr_s1_4 hc rfl rfl rfl ?_
    refine xr_go hc rfl rfl ?_
    have h := c_dg_2 hn hp (d0 := d0) (x0 := x0) (x := x) (P := P ++ [48 + x / 1000 % 10]) hx (by simp; omega)
    rw [List.append_assoc] at h
    exact h

set_option maxRecDepth 20000 in
theorem c_dg_4 {n : Nat} {M : ew_Mem} (hn : 59 ≤ n) (hp : ew_Pm M) {x0 x d0 : Int} {P : List Int} (hx : 0 ≤ x ∧ x ≤ 100000) (hP : P.length + 5 ≤ 120) : ew_X 24 49 [(2, 34), (0, x0), (0, x), (0, d0), (0, 10000)] [] n (s_sh M 35 34 1 P) (fun r a b => r = none ∧ a = n ∧ b = (s_sh M 35 34 1 (P ++ s_dg x 4))) := by
  have hc := ew_c_24
  refine xr_go hc rfl rfl ?_
  refine xr_go hc rfl rfl ?_
  refine xr_icmp_lt hc rfl (by omega) (by decide) (fun c1 => ?_) (fun c1 => ?_)
  · exfalso; omega
  · skip
    refine xr_go hc rfl rfl ?_
    refine xr_go hc rfl rfl ?_
    refine xr_go hc rfl rfl ?_
    refine xr_go hc rfl rfl ?_
    refine xr_idiv hc rfl (by omega) (by omega) ?_
    refine xr_go hc rfl rfl ?_
    refine xr_irem hc rfl (by omega) (by omega) ?_
    refine xr_go hc rfl rfl ?_
    refine xr_vv_2 (v := (0, 0)) hc rfl rfl (ew_own_p hn rfl) (c_add hn hp (by omega)) ?_
    refine xr_go hc rfl rfl ?_
    refine xr_go hc rfl rfl ?_
    refine xr_idiv hc rfl (by omega) (by omega) ?_
    refine xr_s1_4 hc rfl rfl rfl ?_
    refine xr_go hc rfl rfl ?_
    have h := c_dg_3 hn hp (d0 := d0) (x0 := x0) (x := x) (P := P ++ [48 + x / 10000 % 10]) hx (by simp; omega)
    rw [List.append_assoc] at h
    exact h

set_option maxRecDepth 20000 in
theorem c_dg_5 {n : Nat} {M : ew_Mem} (hn : 59 ≤ n) (hp : ew_Pm M) {x0 x d0 : Int} {P : List Int} (hx : 0 ≤ x ∧ x ≤ 100000) (hP : P.length + 6 ≤ 120) : ew_X 24 49 [(2, 34), (0, x0), (0, x), (0, d0), (0, 100000)] [] n (s_sh M 35 34 1 P) (fun r a b => r = none ∧ a = n ∧ b = (s_sh M 35 34 1 (P ++ s_dg x 5))) := by
  have hc := ew_c_24
  refine xr_go hc rfl rfl ?_
  refine xr_go hc rfl rfl ?_
  refine xr_icmp_lt hc rfl (by omega) (by decide) (fun c1 => ?_) (fun c1 => ?_)
  · exfalso; omega
  · skip
    refine xr_go hc rfl rfl ?_
    refine xr_go hc rfl rfl ?_
    refine xr_go hc rfl rfl ?_
    refine xr_go hc rfl rfl ?_
    refine xr_idiv hc rfl (by omega) (by omega) ?_
    refine xr_go hc rfl rfl ?_
    refine xr_irem hc rfl (by omega) (by omega) ?_
    refine xr_go hc rfl rfl ?_
    refine xr_vv_2 (v := (0, 0)) hc rfl rfl (ew_own_p hn rfl) (c_add hn hp (by omega)) ?_
    refine xr_go hc rfl rfl ?_
    refine xr_go hc rfl rfl ?_
    refine xr_idiv hc rfl (by omega) (by omega) ?_
    refine xr_s1_4 hc rfl rfl rfl ?_
    refine xr_go hc rfl rfl ?_
    have h := c_dg_4 hn hp (d0 := d0) (x0 := x0) (x := x) (P := P ++ [48 + x / 100000 % 10]) hx (by simp; omega)
    rw [List.append_assoc] at h
    exact h

set_option maxRecDepth 20000 in
theorem m_dg_e {n : Nat} {M : ew_Mem} (hn : 59 ≤ n) (hp : ew_Pm M) {x0 x : Int} {P : List Int} (hx : 0 ≤ x ∧ x ≤ 100000) (hP : P.length + 0 ≤ 140) : ew_X 210 33 [(2, 38), (0, x0), (0, x), (0, 0)] [] n (s_sh M 51 38 18 P) (fun r a b => r = none ∧ a = n ∧ b = (s_sh M 51 38 18 P)) := by
  have hc := ew_c_210
  refine xr_go hc rfl rfl ?_
  refine xr_if_le hc rfl (by decide) (fun c1 => ?_) (fun c1 => ?_)
  · skip
    refine xr_ret hc rfl rfl ?_
    exact ⟨rfl, rfl, rfl⟩
  · exfalso; omega

set_option maxRecDepth 20000 in
theorem m_dg_0 {n : Nat} {M : ew_Mem} (hn : 59 ≤ n) (hp : ew_Pm M) {x0 x : Int} {P : List Int} (hx : 0 ≤ x ∧ x ≤ 100000) (hP : P.length + 1 ≤ 140) : ew_X 210 33 [(2, 38), (0, x0), (0, x), (0, 1)] [] n (s_sh M 51 38 18 P) (fun r a b => r = none ∧ a = n ∧ b = (s_sh M 51 38 18 (P ++ s_dg x 0))) := by
  have hc := ew_c_210
  refine xr_go hc rfl rfl ?_
  refine xr_if_le hc rfl (by decide) (fun c1 => ?_) (fun c1 => ?_)
  · exfalso; omega
  · skip
    refine xr_go hc rfl rfl ?_
    refine xr_go hc rfl rfl ?_
    refine xr_go hc rfl rfl ?_
    refine xr_go hc rfl rfl ?_
    refine xr_idiv hc rfl (by omega) (by omega) ?_
    refine xr_go hc rfl rfl ?_
    refine xr_irem hc rfl (by omega) (by omega) ?_
    refine xr_go hc rfl rfl ?_
    refine xr_vv_2 (v := (0, 0)) hc rfl rfl (ew_own_p hn rfl) (m_print hn hp (by omega)) ?_
    refine xr_go hc rfl rfl ?_
    refine xr_go hc rfl rfl ?_
    refine xr_idiv hc rfl (by omega) (by omega) ?_
    refine xr_s1_3 hc rfl rfl rfl ?_
    refine xr_go hc rfl rfl ?_
    have h := m_dg_e hn hp (x0 := x0) (x := x) (P := P ++ [48 + x / 1 % 10]) hx (by simp; omega)
    exact h

set_option maxRecDepth 20000 in
theorem m_dg_1 {n : Nat} {M : ew_Mem} (hn : 59 ≤ n) (hp : ew_Pm M) {x0 x : Int} {P : List Int} (hx : 0 ≤ x ∧ x ≤ 100000) (hP : P.length + 2 ≤ 140) : ew_X 210 33 [(2, 38), (0, x0), (0, x), (0, 10)] [] n (s_sh M 51 38 18 P) (fun r a b => r = none ∧ a = n ∧ b = (s_sh M 51 38 18 (P ++ s_dg x 1))) := by
  have hc := ew_c_210
  refine xr_go hc rfl rfl ?_
  refine xr_if_le hc rfl (by decide) (fun c1 => ?_) (fun c1 => ?_)
  · exfalso; omega
  · skip
    refine xr_go hc rfl rfl ?_
    refine xr_go hc rfl rfl ?_
    refine xr_go hc rfl rfl ?_
    refine xr_go hc rfl rfl ?_
    refine xr_idiv hc rfl (by omega) (by omega) ?_
    refine xr_go hc rfl rfl ?_
    refine xr_irem hc rfl (by omega) (by omega) ?_
    refine xr_go hc rfl rfl ?_
    refine xr_vv_2 (v := (0, 0)) hc rfl rfl (ew_own_p hn rfl) (m_print hn hp (by omega)) ?_
    refine xr_go hc rfl rfl ?_
    refine xr_go hc rfl rfl ?_
    refine xr_idiv hc rfl (by omega) (by omega) ?_
    refine xr_s1_3 hc rfl rfl rfl ?_
    refine xr_go hc rfl rfl ?_
    have h := m_dg_0 hn hp (x0 := x0) (x := x) (P := P ++ [48 + x / 10 % 10]) hx (by simp; omega)
    rw [List.append_assoc] at h
    exact h

set_option maxRecDepth 20000 in
theorem m_dg_2 {n : Nat} {M : ew_Mem} (hn : 59 ≤ n) (hp : ew_Pm M) {x0 x : Int} {P : List Int} (hx : 0 ≤ x ∧ x ≤ 100000) (hP : P.length + 3 ≤ 140) : ew_X 210 33 [(2, 38), (0, x0), (0, x), (0, 100)] [] n (s_sh M 51 38 18 P) (fun r a b => r = none ∧ a = n ∧ b = (s_sh M 51 38 18 (P ++ s_dg x 2))) := by
  have hc := ew_c_210
  refine xr_go hc rfl rfl ?_
  refine xr_if_le hc rfl (by decide) (fun c1 => ?_) (fun c1 => ?_)
  · exfalso; omega
  · skip
    refine xr_go hc rfl rfl ?_
    refine xr_go hc rfl rfl ?_
    refine xr_go hc rfl rfl ?_
    refine xr_go hc rfl rfl ?_
    refine xr_idiv hc rfl (by omega) (by omega) ?_
    refine xr_go hc rfl rfl ?_
    refine xr_irem hc rfl (by omega) (by omega) ?_
    refine xr_go hc rfl rfl ?_
    refine xr_vv_2 (v := (0, 0)) hc rfl rfl (ew_own_p hn rfl) (m_print hn hp (by omega)) ?_
    refine xr_go hc rfl rfl ?_
    refine xr_go hc rfl rfl ?_
    refine xr_idiv hc rfl (by omega) (by omega) ?_
    refine xr_s1_3 hc rfl rfl rfl ?_
    refine xr_go hc rfl rfl ?_
    have h := m_dg_1 hn hp (x0 := x0) (x := x) (P := P ++ [48 + x / 100 % 10]) hx (by simp; omega)
    rw [List.append_assoc] at h
    exact h

set_option maxRecDepth 20000 in
theorem m_dg_3 {n : Nat} {M : ew_Mem} (hn : 59 ≤ n) (hp : ew_Pm M) {x0 x : Int} {P : List Int} (hx : 0 ≤ x ∧ x ≤ 100000) (hP : P.length + 4 ≤ 140) : ew_X 210 33 [(2, 38), (0, x0), (0, x), (0, 1000)] [] n (s_sh M 51 38 18 P) (fun r a b => r = none ∧ a = n ∧ b = (s_sh M 51 38 18 (P ++ s_dg x 3))) := by
  have hc := ew_c_210
  refine xr_go hc rfl rfl ?_
  refine xr_if_le hc rfl (by decide) (fun c1 => ?_) (fun c1 => ?_)
  · exfalso; omega
  · skip
    refine xr_go hc rfl rfl ?_
    refine xr_go hc rfl rfl ?_
    refine xr_go hc rfl rfl ?_
    refine xr_go hc rfl rfl ?_
    refine xr_idiv hc rfl (by omega) (by omega) ?_
    refine xr_go hc rfl rfl ?_
    refine xr_irem hc rfl (by omega) (by omega) ?_
    refine xr_go hc rfl rfl ?_
    refine xr_vv_2 (v := (0, 0)) hc rfl rfl (ew_own_p hn rfl) (m_print hn hp (by omega)) ?_
    refine xr_go hc rfl rfl ?_
    refine xr_go hc rfl rfl ?_
    refine xr_idiv hc rfl (by omega) (by omega) ?_
    refine xr_s1_3 hc rfl rfl rfl ?_
    refine xr_go hc rfl rfl ?_
    have h := m_dg_2 hn hp (x0 := x0) (x := x) (P := P ++ [48 + x / 1000 % 10]) hx (by simp; omega)
    rw [List.append_assoc] at h
    exact h

set_option maxRecDepth 20000 in
theorem m_dg_4 {n : Nat} {M : ew_Mem} (hn : 59 ≤ n) (hp : ew_Pm M) {x0 x : Int} {P : List Int} (hx : 0 ≤ x ∧ x ≤ 100000) (hP : P.length + 5 ≤ 140) : ew_X 210 33 [(2, 38), (0, x0), (0, x), (0, 10000)] [] n (s_sh M 51 38 18 P) (fun r a b => r = none ∧ a = n ∧ b = (s_sh M 51 38 18 (P ++ s_dg x 4))) := by
  have hc := ew_c_210
  refine xr_go hc rfl rfl ?_
  refine xr_if_le hc rfl (by decide) (fun c1 => ?_) (fun c1 => ?_)
  · exfalso; omega
  · skip
    refine xr_go hc rfl rfl ?_
    refine xr_go hc rfl rfl ?_
    refine xr_go hc rfl rfl ?_
    refine xr_go hc rfl rfl ?_
    refine xr_idiv hc rfl (by omega) (by omega) ?_
    refine xr_go hc rfl rfl ?_
    refine xr_irem hc rfl (by omega) (by omega) ?_
    refine xr_go hc rfl rfl ?_
    refine xr_vv_2 (v := (0, 0)) hc rfl rfl (ew_own_p hn rfl) (m_print hn hp (by omega)) ?_
    refine xr_go hc rfl rfl ?_
    refine xr_go hc rfl rfl ?_
    refine xr_idiv hc rfl (by omega) (by omega) ?_
    refine xr_s1_3 hc rfl rfl rfl ?_
    refine xr_go hc rfl rfl ?_
    have h := m_dg_3 hn hp (x0 := x0) (x := x) (P := P ++ [48 + x / 10000 % 10]) hx (by simp; omega)
    rw [List.append_assoc] at h
    exact h

set_option maxRecDepth 20000 in
theorem m_dg_5 {n : Nat} {M : ew_Mem} (hn : 59 ≤ n) (hp : ew_Pm M) {x0 x : Int} {P : List Int} (hx : 0 ≤ x ∧ x ≤ 100000) (hP : P.length + 6 ≤ 140) : ew_X 210 33 [(2, 38), (0, x0), (0, x), (0, 100000)] [] n (s_sh M 51 38 18 P) (fun r a b => r = none ∧ a = n ∧ b = (s_sh M 51 38 18 (P ++ s_dg x 5))) := by
  have hc := ew_c_210
  refine xr_go hc rfl rfl ?_
  refine xr_if_le hc rfl (by decide) (fun c1 => ?_) (fun c1 => ?_)
  · exfalso; omega
  · skip
    refine xr_go hc rfl rfl ?_
    refine xr_go hc rfl rfl ?_
    refine xr_go hc rfl rfl ?_
    refine xr_go hc rfl rfl ?_
    refine xr_idiv hc rfl (by omega) (by omega) ?_
    refine xr_go hc rfl rfl ?_
    refine xr_irem hc rfl (by omega) (by omega) ?_
    refine xr_go hc rfl rfl ?_
    refine xr_vv_2 (v := (0, 0)) hc rfl rfl (ew_own_p hn rfl) (m_print hn hp (by omega)) ?_
    refine xr_go hc rfl rfl ?_
    refine xr_go hc rfl rfl ?_
    refine xr_idiv hc rfl (by omega) (by omega) ?_
    refine xr_s1_3 hc rfl rfl rfl ?_
    refine xr_go hc rfl rfl ?_
    have h := m_dg_4 hn hp (x0 := x0) (x := x) (P := P ++ [48 + x / 100000 % 10]) hx (by simp; omega)
    rw [List.append_assoc] at h
    exact h

set_option maxRecDepth 20000 in
theorem c_sc_5 {n : Nat} {M : ew_Mem} (hn : 59 ≤ n) (hp : ew_Pm M) {x0 x : Int} {P : List Int} (hx : 0 ≤ x ∧ x ≤ 100000) (hlo : 100000 ≤ x) (hP : P.length + 6 ≤ 120) : ew_X 24 20 [(2, 34), (0, x0), (0, x), (0, 100000), (0, 5)] [] n (s_sh M 35 34 1 P) (fun r a b => r = none ∧ a = n ∧ b = (s_sh M 35 34 1 (P ++ s_dg x (s_tj x)))) := by
  have hc := ew_c_24
  refine xr_go hc rfl rfl ?_
  refine xr_go hc rfl rfl ?_
  refine xr_icmp_ge hc rfl (by omega) (by decide) (fun c1 => ?_) (fun c1 => ?_)
  · exfalso; omega
  · skip
    refine xr_go hc rfl rfl ?_
    refine xr_go hc rfl rfl ?_
    refine xr_go hc rfl rfl ?_
    refine xr_go hc rfl rfl ?_
    refine xr_icmp_lt hc rfl (by omega) (by omega) (fun c2 => ?_) (fun c2 => ?_)
    · skip
      refine xr_go hc rfl rfl ?_
      refine xr_s1_4 hc rfl rfl rfl ?_
      have htj : s_tj x = 5 := by
        unfold s_tj
        repeat' split
        all_goals omega
      rw [htj]
      exact c_dg_5 hn hp hx (by omega)
    · skip
      refine xr_go hc rfl rfl ?_
      refine xr_go hc rfl rfl ?_
      refine xr_go hc rfl rfl ?_
      refine xr_s1_3 hc rfl rfl rfl ?_
      refine xr_inc_4 hc rfl ?_
      refine xr_go hc rfl rfl ?_
      exfalso; omega

set_option maxRecDepth 20000 in
theorem c_sc_4 {n : Nat} {M : ew_Mem} (hn : 59 ≤ n) (hp : ew_Pm M) {x0 x : Int} {P : List Int} (hx : 0 ≤ x ∧ x ≤ 100000) (hlo : 10000 ≤ x) (hP : P.length + 6 ≤ 120) : ew_X 24 20 [(2, 34), (0, x0), (0, x), (0, 10000), (0, 4)] [] n (s_sh M 35 34 1 P) (fun r a b => r = none ∧ a = n ∧ b = (s_sh M 35 34 1 (P ++ s_dg x (s_tj x)))) := by
  have hc := ew_c_24
  refine xr_go hc rfl rfl ?_
  refine xr_go hc rfl rfl ?_
  refine xr_icmp_ge hc rfl (by omega) (by decide) (fun c1 => ?_) (fun c1 => ?_)
  · exfalso; omega
  · skip
    refine xr_go hc rfl rfl ?_
    refine xr_go hc rfl rfl ?_
    refine xr_go hc rfl rfl ?_
    refine xr_go hc rfl rfl ?_
    refine xr_icmp_lt hc rfl (by omega) (by omega) (fun c2 => ?_) (fun c2 => ?_)
    · skip
      refine xr_go hc rfl rfl ?_
      refine xr_s1_4 hc rfl rfl rfl ?_
      have htj : s_tj x = 4 := by
        unfold s_tj
        repeat' split
        all_goals omega
      rw [htj]
      exact c_dg_4 hn hp hx (by omega)
    · skip
      refine xr_go hc rfl rfl ?_
      refine xr_go hc rfl rfl ?_
      refine xr_go hc rfl rfl ?_
      refine xr_s1_3 hc rfl rfl rfl ?_
      refine xr_inc_4 hc rfl ?_
      refine xr_go hc rfl rfl ?_
      exact c_sc_5 hn hp hx (by omega) hP

set_option maxRecDepth 20000 in
theorem c_sc_3 {n : Nat} {M : ew_Mem} (hn : 59 ≤ n) (hp : ew_Pm M) {x0 x : Int} {P : List Int} (hx : 0 ≤ x ∧ x ≤ 100000) (hlo : 1000 ≤ x) (hP : P.length + 6 ≤ 120) : ew_X 24 20 [(2, 34), (0, x0), (0, x), (0, 1000), (0, 3)] [] n (s_sh M 35 34 1 P) (fun r a b => r = none ∧ a = n ∧ b = (s_sh M 35 34 1 (P ++ s_dg x (s_tj x)))) := by
  have hc := ew_c_24
  refine xr_go hc rfl rfl ?_
  refine xr_go hc rfl rfl ?_
  refine xr_icmp_ge hc rfl (by omega) (by decide) (fun c1 => ?_) (fun c1 => ?_)
  · exfalso; omega
  · skip
    refine xr_go hc rfl rfl ?_
    refine xr_go hc rfl rfl ?_
    refine xr_go hc rfl rfl ?_
    refine xr_go hc rfl rfl ?_
    refine xr_icmp_lt hc rfl (by omega) (by omega) (fun c2 => ?_) (fun c2 => ?_)
    · skip
      refine xr_go hc rfl rfl ?_
      refine xr_s1_4 hc rfl rfl rfl ?_
      have htj : s_tj x = 3 := by
        unfold s_tj
        repeat' split
        all_goals omega
      rw [htj]
      exact c_dg_3 hn hp hx (by omega)
    · skip
      refine xr_go hc rfl rfl ?_
      refine xr_go hc rfl rfl ?_
      refine xr_go hc rfl rfl ?_
      refine xr_s1_3 hc rfl rfl rfl ?_
      refine xr_inc_4 hc rfl ?_
      refine xr_go hc rfl rfl ?_
      exact c_sc_4 hn hp hx (by omega) hP

set_option maxRecDepth 20000 in
theorem c_sc_2 {n : Nat} {M : ew_Mem} (hn : 59 ≤ n) (hp : ew_Pm M) {x0 x : Int} {P : List Int} (hx : 0 ≤ x ∧ x ≤ 100000) (hlo : 100 ≤ x) (hP : P.length + 6 ≤ 120) : ew_X 24 20 [(2, 34), (0, x0), (0, x), (0, 100), (0, 2)] [] n (s_sh M 35 34 1 P) (fun r a b => r = none ∧ a = n ∧ b = (s_sh M 35 34 1 (P ++ s_dg x (s_tj x)))) := by
  have hc := ew_c_24
  refine xr_go hc rfl rfl ?_
  refine xr_go hc rfl rfl ?_
  refine xr_icmp_ge hc rfl (by omega) (by decide) (fun c1 => ?_) (fun c1 => ?_)
  · exfalso; omega
  · skip
    refine xr_go hc rfl rfl ?_
    refine xr_go hc rfl rfl ?_
    refine xr_go hc rfl rfl ?_
    refine xr_go hc rfl rfl ?_
    refine xr_icmp_lt hc rfl (by omega) (by omega) (fun c2 => ?_) (fun c2 => ?_)
    · skip
      refine xr_go hc rfl rfl ?_
      refine xr_s1_4 hc rfl rfl rfl ?_
      have htj : s_tj x = 2 := by
        unfold s_tj
        repeat' split
        all_goals omega
      rw [htj]
      exact c_dg_2 hn hp hx (by omega)
    · skip
      refine xr_go hc rfl rfl ?_
      refine xr_go hc rfl rfl ?_
      refine xr_go hc rfl rfl ?_
      refine xr_s1_3 hc rfl rfl rfl ?_
      refine xr_inc_4 hc rfl ?_
      refine xr_go hc rfl rfl ?_
      exact c_sc_3 hn hp hx (by omega) hP

set_option maxRecDepth 20000 in
theorem c_sc_1 {n : Nat} {M : ew_Mem} (hn : 59 ≤ n) (hp : ew_Pm M) {x0 x : Int} {P : List Int} (hx : 0 ≤ x ∧ x ≤ 100000) (hlo : 10 ≤ x) (hP : P.length + 6 ≤ 120) : ew_X 24 20 [(2, 34), (0, x0), (0, x), (0, 10), (0, 1)] [] n (s_sh M 35 34 1 P) (fun r a b => r = none ∧ a = n ∧ b = (s_sh M 35 34 1 (P ++ s_dg x (s_tj x)))) := by
  have hc := ew_c_24
  refine xr_go hc rfl rfl ?_
  refine xr_go hc rfl rfl ?_
  refine xr_icmp_ge hc rfl (by omega) (by decide) (fun c1 => ?_) (fun c1 => ?_)
  · exfalso; omega
  · skip
    refine xr_go hc rfl rfl ?_
    refine xr_go hc rfl rfl ?_
    refine xr_go hc rfl rfl ?_
    refine xr_go hc rfl rfl ?_
    refine xr_icmp_lt hc rfl (by omega) (by omega) (fun c2 => ?_) (fun c2 => ?_)
    · skip
      refine xr_go hc rfl rfl ?_
      refine xr_s1_4 hc rfl rfl rfl ?_
      have htj : s_tj x = 1 := by
        unfold s_tj
        repeat' split
        all_goals omega
      rw [htj]
      exact c_dg_1 hn hp hx (by omega)
    · skip
      refine xr_go hc rfl rfl ?_
      refine xr_go hc rfl rfl ?_
      refine xr_go hc rfl rfl ?_
      refine xr_s1_3 hc rfl rfl rfl ?_
      refine xr_inc_4 hc rfl ?_
      refine xr_go hc rfl rfl ?_
      exact c_sc_2 hn hp hx (by omega) hP

set_option maxRecDepth 20000 in
theorem c_sc_0 {n : Nat} {M : ew_Mem} (hn : 59 ≤ n) (hp : ew_Pm M) {x0 x : Int} {P : List Int} (hx : 0 ≤ x ∧ x ≤ 100000) (hlo : 0 ≤ x) (hP : P.length + 6 ≤ 120) : ew_X 24 20 [(2, 34), (0, x0), (0, x), (0, 1), (0, 0)] [] n (s_sh M 35 34 1 P) (fun r a b => r = none ∧ a = n ∧ b = (s_sh M 35 34 1 (P ++ s_dg x (s_tj x)))) := by
  have hc := ew_c_24
  refine xr_go hc rfl rfl ?_
  refine xr_go hc rfl rfl ?_
  refine xr_icmp_ge hc rfl (by omega) (by decide) (fun c1 => ?_) (fun c1 => ?_)
  · exfalso; omega
  · skip
    refine xr_go hc rfl rfl ?_
    refine xr_go hc rfl rfl ?_
    refine xr_go hc rfl rfl ?_
    refine xr_go hc rfl rfl ?_
    refine xr_icmp_lt hc rfl (by omega) (by omega) (fun c2 => ?_) (fun c2 => ?_)
    · skip
      refine xr_go hc rfl rfl ?_
      refine xr_s1_4 hc rfl rfl rfl ?_
      have htj : s_tj x = 0 := by
        unfold s_tj
        repeat' split
        all_goals omega
      rw [htj]
      exact c_dg_0 hn hp hx (by omega)
    · skip
      refine xr_go hc rfl rfl ?_
      refine xr_go hc rfl rfl ?_
      refine xr_go hc rfl rfl ?_
      refine xr_s1_3 hc rfl rfl rfl ?_
      refine xr_inc_4 hc rfl ?_
      refine xr_go hc rfl rfl ?_
      exact c_sc_1 hn hp hx (by omega) hP

set_option maxRecDepth 20000 in
theorem c_addNumber {n : Nat} {M : ew_Mem} (hn : 59 ≤ n) (hp : ew_Pm M) {P : List Int} {x : Int} (hx : -100000 ≤ x ∧ x ≤ 100000) (hP : P.length + 7 ≤ 120) : ew_VM 24 [(2, 34), (0, x)] n (s_sh M 35 34 1 P) n (s_sh M 35 34 1 (P ++ s_nb x)) := by
  have hc := ew_c_24
  show ew_X 24 0 [(2, 34), (0, x), (5, 0), (5, 0), (5, 0)] [] n _ _
  refine xr_go hc rfl rfl ?_
  refine xr_if_ge hc rfl (by omega) (fun c1 => ?_) (fun c1 => ?_)
  · skip
    refine xr_go hc rfl rfl ?_
    refine xr_s_1 hc rfl rfl (c_absI (by omega)) ?_
    refine xr_s1_2 hc rfl rfl rfl ?_
    refine xr_go hc rfl rfl ?_
    refine xr_s1_3 hc rfl rfl rfl ?_
    refine xr_go hc rfl rfl ?_
    refine xr_s1_4 hc rfl rfl rfl ?_
    have hab : 0 ≤ s_ab x ∧ s_ab x ≤ 100000 := by unfold s_ab; split <;> omega
    have hae : (if x < 0 then -x else x) = s_ab x := rfl
    rw [hae]
    unfold s_nb
    first
      | (rw [if_pos (show x < 0 by omega), ← List.append_assoc]
         exact c_sc_0 hn hp (x := s_ab x) (P := P ++ [45]) hab hab.1 (by rw [List.length_append]; show P.length + 1 + 6 ≤ _; omega))
      | (rw [if_neg (show ¬ x < 0 by omega), List.nil_append]
         exact c_sc_0 hn hp (x := s_ab x) (P := P) hab hab.1 (by omega))
  · skip
    refine xr_go hc rfl rfl ?_
    refine xr_go hc rfl rfl ?_
    refine xr_vv_2 (v := (0, 0)) hc rfl rfl (ew_own_p hn rfl) (c_add hn hp (by omega)) ?_
    refine xr_go hc rfl rfl ?_
    refine xr_s_1 hc rfl rfl (c_absI (by omega)) ?_
    refine xr_s1_2 hc rfl rfl rfl ?_
    refine xr_go hc rfl rfl ?_
    refine xr_s1_3 hc rfl rfl rfl ?_
    refine xr_go hc rfl rfl ?_
    refine xr_s1_4 hc rfl rfl rfl ?_
    have hab : 0 ≤ s_ab x ∧ s_ab x ≤ 100000 := by unfold s_ab; split <;> omega
    have hae : (if x < 0 then -x else x) = s_ab x := rfl
    rw [hae]
    unfold s_nb
    first
      | (rw [if_pos (show x < 0 by omega), ← List.append_assoc]
         exact c_sc_0 hn hp (x := s_ab x) (P := P ++ [45]) hab hab.1 (by rw [List.length_append]; show P.length + 1 + 6 ≤ _; omega))
      | (rw [if_neg (show ¬ x < 0 by omega), List.nil_append]
         exact c_sc_0 hn hp (x := s_ab x) (P := P) hab hab.1 (by omega))

set_option maxRecDepth 20000 in
theorem m_sc_5 {n : Nat} {M : ew_Mem} (hn : 59 ≤ n) (hp : ew_Pm M) {x0 x : Int} {P : List Int} (hx : 0 ≤ x ∧ x ≤ 100000) (hlo : 100000 ≤ x) (hP : P.length + 6 ≤ 140) : ew_X 210 17 [(2, 38), (0, x0), (0, x), (0, 100000)] [] n (s_sh M 51 38 18 P) (fun r a b => r = none ∧ a = n ∧ b = (s_sh M 51 38 18 (P ++ s_dg x (s_tj x)))) := by
  have hc := ew_c_210
  refine xr_go hc rfl rfl ?_
  refine xr_go hc rfl rfl ?_
  refine xr_idiv hc rfl (by omega) (by omega) ?_
  refine xr_go hc rfl rfl ?_
  refine xr_icmp_le hc rfl (by omega) (by decide) (fun c1 => ?_) (fun c1 => ?_)
  · skip
    have htj : s_tj x = 5 := by
      unfold s_tj
      repeat' split
      all_goals omega
    rw [htj]
    exact m_dg_5 hn hp hx (by omega)
  · skip
    refine xr_go hc rfl rfl ?_
    refine xr_go hc rfl rfl ?_
    refine xr_go hc rfl rfl ?_
    refine xr_s1_3 hc rfl rfl rfl ?_
    refine xr_go hc rfl rfl ?_
    exfalso; omega

set_option maxRecDepth 20000 in
theorem m_sc_4 {n : Nat} {M : ew_Mem} (hn : 59 ≤ n) (hp : ew_Pm M) {x0 x : Int} {P : List Int} (hx : 0 ≤ x ∧ x ≤ 100000) (hlo : 10000 ≤ x) (hP : P.length + 6 ≤ 140) : ew_X 210 17 [(2, 38), (0, x0), (0, x), (0, 10000)] [] n (s_sh M 51 38 18 P) (fun r a b => r = none ∧ a = n ∧ b = (s_sh M 51 38 18 (P ++ s_dg x (s_tj x)))) := by
  have hc := ew_c_210
  refine xr_go hc rfl rfl ?_
  refine xr_go hc rfl rfl ?_
  refine xr_idiv hc rfl (by omega) (by omega) ?_
  refine xr_go hc rfl rfl ?_
  refine xr_icmp_le hc rfl (by omega) (by decide) (fun c1 => ?_) (fun c1 => ?_)
  · skip
    have htj : s_tj x = 4 := by
      unfold s_tj
      repeat' split
      all_goals omega
    rw [htj]
    exact m_dg_4 hn hp hx (by omega)
  · skip
    refine xr_go hc rfl rfl ?_
    refine xr_go hc rfl rfl ?_
    refine xr_go hc rfl rfl ?_
    refine xr_s1_3 hc rfl rfl rfl ?_
    refine xr_go hc rfl rfl ?_
    exact m_sc_5 hn hp hx (by omega) hP

set_option maxRecDepth 20000 in
theorem m_sc_3 {n : Nat} {M : ew_Mem} (hn : 59 ≤ n) (hp : ew_Pm M) {x0 x : Int} {P : List Int} (hx : 0 ≤ x ∧ x ≤ 100000) (hlo : 1000 ≤ x) (hP : P.length + 6 ≤ 140) : ew_X 210 17 [(2, 38), (0, x0), (0, x), (0, 1000)] [] n (s_sh M 51 38 18 P) (fun r a b => r = none ∧ a = n ∧ b = (s_sh M 51 38 18 (P ++ s_dg x (s_tj x)))) := by
  have hc := ew_c_210
  refine xr_go hc rfl rfl ?_
  refine xr_go hc rfl rfl ?_
  refine xr_idiv hc rfl (by omega) (by omega) ?_
  refine xr_go hc rfl rfl ?_
  refine xr_icmp_le hc rfl (by omega) (by decide) (fun c1 => ?_) (fun c1 => ?_)
  · skip
    have htj : s_tj x = 3 := by
      unfold s_tj
      repeat' split
      all_goals omega
    rw [htj]
    exact m_dg_3 hn hp hx (by omega)
  · skip
    refine xr_go hc rfl rfl ?_
    refine xr_go hc rfl rfl ?_
    refine xr_go hc rfl rfl ?_
    refine xr_s1_3 hc rfl rfl rfl ?_
    refine xr_go hc rfl rfl ?_
    exact m_sc_4 hn hp hx (by omega) hP

set_option maxRecDepth 20000 in
theorem m_sc_2 {n : Nat} {M : ew_Mem} (hn : 59 ≤ n) (hp : ew_Pm M) {x0 x : Int} {P : List Int} (hx : 0 ≤ x ∧ x ≤ 100000) (hlo : 100 ≤ x) (hP : P.length + 6 ≤ 140) : ew_X 210 17 [(2, 38), (0, x0), (0, x), (0, 100)] [] n (s_sh M 51 38 18 P) (fun r a b => r = none ∧ a = n ∧ b = (s_sh M 51 38 18 (P ++ s_dg x (s_tj x)))) := by
  have hc := ew_c_210
  refine xr_go hc rfl rfl ?_
  refine xr_go hc rfl rfl ?_
  refine xr_idiv hc rfl (by omega) (by omega) ?_
  refine xr_go hc rfl rfl ?_
  refine xr_icmp_le hc rfl (by omega) (by decide) (fun c1 => ?_) (fun c1 => ?_)
  · skip
    have htj : s_tj x = 2 := by
      unfold s_tj
      repeat' split
      all_goals omega
    rw [htj]
    exact m_dg_2 hn hp hx (by omega)
  · skip
    refine xr_go hc rfl rfl ?_
    refine xr_go hc rfl rfl ?_
    refine xr_go hc rfl rfl ?_
    refine xr_s1_3 hc rfl rfl rfl ?_
    refine xr_go hc rfl rfl ?_
    exact m_sc_3 hn hp hx (by omega) hP

set_option maxRecDepth 20000 in
theorem m_sc_1 {n : Nat} {M : ew_Mem} (hn : 59 ≤ n) (hp : ew_Pm M) {x0 x : Int} {P : List Int} (hx : 0 ≤ x ∧ x ≤ 100000) (hlo : 10 ≤ x) (hP : P.length + 6 ≤ 140) : ew_X 210 17 [(2, 38), (0, x0), (0, x), (0, 10)] [] n (s_sh M 51 38 18 P) (fun r a b => r = none ∧ a = n ∧ b = (s_sh M 51 38 18 (P ++ s_dg x (s_tj x)))) := by
  have hc := ew_c_210
  refine xr_go hc rfl rfl ?_
  refine xr_go hc rfl rfl ?_
  refine xr_idiv hc rfl (by omega) (by omega) ?_
  refine xr_go hc rfl rfl ?_
  refine xr_icmp_le hc rfl (by omega) (by decide) (fun c1 => ?_) (fun c1 => ?_)
  · skip
    have htj : s_tj x = 1 := by
      unfold s_tj
      repeat' split
      all_goals omega
    rw [htj]
    exact m_dg_1 hn hp hx (by omega)
  · skip
    refine xr_go hc rfl rfl ?_
    refine xr_go hc rfl rfl ?_
    refine xr_go hc rfl rfl ?_
    refine xr_s1_3 hc rfl rfl rfl ?_
    refine xr_go hc rfl rfl ?_
    exact m_sc_2 hn hp hx (by omega) hP

set_option maxRecDepth 20000 in
theorem m_sc_0 {n : Nat} {M : ew_Mem} (hn : 59 ≤ n) (hp : ew_Pm M) {x0 x : Int} {P : List Int} (hx : 0 ≤ x ∧ x ≤ 100000) (hlo : 0 ≤ x) (hP : P.length + 6 ≤ 140) : ew_X 210 17 [(2, 38), (0, x0), (0, x), (0, 1)] [] n (s_sh M 51 38 18 P) (fun r a b => r = none ∧ a = n ∧ b = (s_sh M 51 38 18 (P ++ s_dg x (s_tj x)))) := by
  have hc := ew_c_210
  refine xr_go hc rfl rfl ?_
  refine xr_go hc rfl rfl ?_
  refine xr_idiv hc rfl (by omega) (by omega) ?_
  refine xr_go hc rfl rfl ?_
  refine xr_icmp_le hc rfl (by omega) (by decide) (fun c1 => ?_) (fun c1 => ?_)
  · skip
    have htj : s_tj x = 0 := by
      unfold s_tj
      repeat' split
      all_goals omega
    rw [htj]
    exact m_dg_0 hn hp hx (by omega)
  · skip
    refine xr_go hc rfl rfl ?_
    refine xr_go hc rfl rfl ?_
    refine xr_go hc rfl rfl ?_
    refine xr_s1_3 hc rfl rfl rfl ?_
    refine xr_go hc rfl rfl ?_
    exact m_sc_1 hn hp hx (by omega) hP

set_option maxRecDepth 20000 in
theorem m_printNumber {n : Nat} {M : ew_Mem} (hn : 59 ≤ n) (hp : ew_Pm M) {P : List Int} {x : Int} (hx : -100000 ≤ x ∧ x ≤ 100000) (hP : P.length + 7 ≤ 140) : ew_VM 210 [(2, 38), (0, x)] n (s_sh M 51 38 18 P) n (s_sh M 51 38 18 (P ++ s_nb x)) := by
  have hc := ew_c_210
  show ew_X 210 0 [(2, 38), (0, x), (5, 0), (5, 0)] [] n _ _
  refine xr_go hc rfl rfl ?_
  refine xr_if_ge hc rfl (by omega) (fun c1 => ?_) (fun c1 => ?_)
  · skip
    refine xr_go hc rfl rfl ?_
    refine xr_s_1 hc rfl rfl (c_absI (by omega)) ?_
    refine xr_s1_2 hc rfl rfl rfl ?_
    refine xr_go hc rfl rfl ?_
    refine xr_s1_3 hc rfl rfl rfl ?_
    have hab : 0 ≤ s_ab x ∧ s_ab x ≤ 100000 := by unfold s_ab; split <;> omega
    have hae : (if x < 0 then -x else x) = s_ab x := rfl
    rw [hae]
    unfold s_nb
    first
      | (rw [if_pos (show x < 0 by omega), ← List.append_assoc]
         exact m_sc_0 hn hp (x := s_ab x) (P := P ++ [45]) hab hab.1 (by rw [List.length_append]; show P.length + 1 + 6 ≤ _; omega))
      | (rw [if_neg (show ¬ x < 0 by omega), List.nil_append]
         exact m_sc_0 hn hp (x := s_ab x) (P := P) hab hab.1 (by omega))
  · skip
    refine xr_go hc rfl rfl ?_
    refine xr_go hc rfl rfl ?_
    refine xr_vv_2 (v := (0, 0)) hc rfl rfl (ew_own_p hn rfl) (m_print hn hp (by omega)) ?_
    refine xr_go hc rfl rfl ?_
    refine xr_s_1 hc rfl rfl (c_absI (by omega)) ?_
    refine xr_s1_2 hc rfl rfl rfl ?_
    refine xr_go hc rfl rfl ?_
    refine xr_s1_3 hc rfl rfl rfl ?_
    have hab : 0 ≤ s_ab x ∧ s_ab x ≤ 100000 := by unfold s_ab; split <;> omega
    have hae : (if x < 0 then -x else x) = s_ab x := rfl
    rw [hae]
    unfold s_nb
    first
      | (rw [if_pos (show x < 0 by omega), ← List.append_assoc]
         exact m_sc_0 hn hp (x := s_ab x) (P := P ++ [45]) hab hab.1 (by rw [List.length_append]; show P.length + 1 + 6 ≤ _; omega))
      | (rw [if_neg (show ¬ x < 0 by omega), List.nil_append]
         exact m_sc_0 hn hp (x := s_ab x) (P := P) hab hab.1 (by omega))

