/-! bind: both sides -/
abbrev s_okB (V : ew_Mem) (w a : Int) : Prop := s_isW V w ∧ (a = -1 ∨ s_isW V a)
set_option maxRecDepth 20000 in
theorem cx_bind {V : ew_Mem} {n : Nat} {M : ew_Mem} (hC : s_C V n M) {w a : Int} (hw : ew_in w) (ha : ew_in a) (h : s_okB V w a) : ew_FM 96 [(2, 4), (0, w), (0, a)] n M (0, 1) n (ew_wr (ew_wr M 5 3 w) 5 4 a) := by
  obtain ⟨hn, hp, hV, v0, v1, v2, v3, v4⟩ := id hC
  obtain ⟨hc6, hVW, hnd, hap, hr0, hr1, hr2, hr3, hr4, hr5⟩ := id hV
  have hc := ew_c_96
  show ew_X 96 0 [(2, 4), (0, w), (0, a)] [] n M _
  refine xr_go hc rfl rfl ?_
  refine xr_gf2 (A := 4) rfl hc rfl (ew_own_p hn rfl) (show _ = (5 : Int) by first | exact ew_pm (v := 5) hp rfl | exact ew_pm (v := 5) (ew_Pm_wr hp rfl) rfl) ?_
  refine xr_go hc rfl rfl ?_
  refine xr_v_2 hc rfl rfl (ew_own_p hn rfl) (c_has hC (by omega)) ?_
  refine xr_if_eq hc rfl (by split <;> omega) (fun c1 => ?_) (fun c1 => ?_)
  · skip
    refine xr_go hc rfl rfl ?_
    refine xr_ret hc rfl rfl ?_
    exfalso; omega
  · skip
    refine xr_go hc rfl rfl ?_
    refine xr_go hc rfl rfl ?_
    refine xr_icmp_eq hc rfl (by omega) (by decide) (fun c2 => ?_) (fun c2 => ?_)
    · skip
      refine xr_go hc rfl rfl ?_
      refine xr_gf2 (A := 4) rfl hc rfl (ew_own_p hn rfl) (show _ = (5 : Int) by first | exact ew_pm (v := 5) hp rfl | exact ew_pm (v := 5) (ew_Pm_wr hp rfl) rfl) ?_
      refine xr_go hc rfl rfl ?_
      refine xr_pf (A := 5) rfl hc rfl (ew_own_p hn rfl) ?_
      refine xr_go hc rfl rfl ?_
      refine xr_gf2 (A := 4) rfl hc rfl (ew_own_p hn rfl) (show _ = (5 : Int) by first | exact ew_pm (v := 5) hp rfl | exact ew_pm (v := 5) (ew_Pm_wr hp rfl) rfl) ?_
      refine xr_go hc rfl rfl ?_
      refine xr_pf (A := 5) rfl hc rfl (ew_own_p hn rfl) ?_
      refine xr_go hc rfl rfl ?_
      refine xr_ret hc rfl rfl ?_
      exact ⟨rfl, rfl, rfl⟩
    · skip
      refine xr_go hc rfl rfl ?_
      refine xr_gf2 (A := 4) rfl hc rfl (ew_own_p hn rfl) (show _ = (5 : Int) by first | exact ew_pm (v := 5) hp rfl | exact ew_pm (v := 5) (ew_Pm_wr hp rfl) rfl) ?_
      refine xr_go hc rfl rfl ?_
      refine xr_v_2 hc rfl rfl (ew_own_p hn rfl) (c_has hC (by omega)) ?_
      refine xr_if_ne hc rfl (by split <;> omega) (fun c3 => ?_) (fun c3 => ?_)
      · skip
        refine xr_go hc rfl rfl ?_
        refine xr_gf2 (A := 4) rfl hc rfl (ew_own_p hn rfl) (show _ = (5 : Int) by first | exact ew_pm (v := 5) hp rfl | exact ew_pm (v := 5) (ew_Pm_wr hp rfl) rfl) ?_
        refine xr_go hc rfl rfl ?_
        refine xr_pf (A := 5) rfl hc rfl (ew_own_p hn rfl) ?_
        refine xr_go hc rfl rfl ?_
        refine xr_gf2 (A := 4) rfl hc rfl (ew_own_p hn rfl) (show _ = (5 : Int) by first | exact ew_pm (v := 5) hp rfl | exact ew_pm (v := 5) (ew_Pm_wr hp rfl) rfl) ?_
        refine xr_go hc rfl rfl ?_
        refine xr_pf (A := 5) rfl hc rfl (ew_own_p hn rfl) ?_
        refine xr_go hc rfl rfl ?_
        refine xr_ret hc rfl rfl ?_
        exact ⟨rfl, rfl, rfl⟩
      · skip
        refine xr_go hc rfl rfl ?_
        refine xr_ret hc rfl rfl ?_
        exfalso; omega

set_option maxRecDepth 20000 in
theorem cx_bindN {V : ew_Mem} {n : Nat} {M : ew_Mem} (hC : s_C V n M) {w a : Int} (hw : ew_in w) (ha : ew_in a) (h : ¬ s_okB V w a) : ew_FM 96 [(2, 4), (0, w), (0, a)] n M (0, -1) n M := by
  obtain ⟨hn, hp, hV, v0, v1, v2, v3, v4⟩ := id hC
  obtain ⟨hc6, hVW, hnd, hap, hr0, hr1, hr2, hr3, hr4, hr5⟩ := id hV
  have hc := ew_c_96
  show ew_X 96 0 [(2, 4), (0, w), (0, a)] [] n M _
  refine xr_go hc rfl rfl ?_
  refine xr_gf2 (A := 4) rfl hc rfl (ew_own_p hn rfl) (show _ = (5 : Int) by first | exact ew_pm (v := 5) hp rfl | exact ew_pm (v := 5) (ew_Pm_wr hp rfl) rfl) ?_
  refine xr_go hc rfl rfl ?_
  refine xr_v_2 hc rfl rfl (ew_own_p hn rfl) (c_has hC (by omega)) ?_
  refine xr_if_eq hc rfl (by split <;> omega) (fun c1 => ?_) (fun c1 => ?_)
  · skip
    refine xr_go hc rfl rfl ?_
    refine xr_ret hc rfl rfl ?_
    exact ⟨rfl, rfl, rfl⟩
  · skip
    refine xr_go hc rfl rfl ?_
    refine xr_go hc rfl rfl ?_
    refine xr_icmp_eq hc rfl (by omega) (by decide) (fun c2 => ?_) (fun c2 => ?_)
    · skip
      refine xr_go hc rfl rfl ?_
      refine xr_gf2 (A := 4) rfl hc rfl (ew_own_p hn rfl) (show _ = (5 : Int) by first | exact ew_pm (v := 5) hp rfl | exact ew_pm (v := 5) (ew_Pm_wr hp rfl) rfl) ?_
      refine xr_go hc rfl rfl ?_
      refine xr_pf (A := 5) rfl hc rfl (ew_own_p hn rfl) ?_
      refine xr_go hc rfl rfl ?_
      refine xr_gf2 (A := 4) rfl hc rfl (ew_own_p hn rfl) (show _ = (5 : Int) by first | exact ew_pm (v := 5) hp rfl | exact ew_pm (v := 5) (ew_Pm_wr hp rfl) rfl) ?_
      refine xr_go hc rfl rfl ?_
      refine xr_pf (A := 5) rfl hc rfl (ew_own_p hn rfl) ?_
      refine xr_go hc rfl rfl ?_
      refine xr_ret hc rfl rfl ?_
      exfalso; omega
    · skip
      refine xr_go hc rfl rfl ?_
      refine xr_gf2 (A := 4) rfl hc rfl (ew_own_p hn rfl) (show _ = (5 : Int) by first | exact ew_pm (v := 5) hp rfl | exact ew_pm (v := 5) (ew_Pm_wr hp rfl) rfl) ?_
      refine xr_go hc rfl rfl ?_
      refine xr_v_2 hc rfl rfl (ew_own_p hn rfl) (c_has hC (by omega)) ?_
      refine xr_if_ne hc rfl (by split <;> omega) (fun c3 => ?_) (fun c3 => ?_)
      · skip
        refine xr_go hc rfl rfl ?_
        refine xr_gf2 (A := 4) rfl hc rfl (ew_own_p hn rfl) (show _ = (5 : Int) by first | exact ew_pm (v := 5) hp rfl | exact ew_pm (v := 5) (ew_Pm_wr hp rfl) rfl) ?_
        refine xr_go hc rfl rfl ?_
        refine xr_pf (A := 5) rfl hc rfl (ew_own_p hn rfl) ?_
        refine xr_go hc rfl rfl ?_
        refine xr_gf2 (A := 4) rfl hc rfl (ew_own_p hn rfl) (show _ = (5 : Int) by first | exact ew_pm (v := 5) hp rfl | exact ew_pm (v := 5) (ew_Pm_wr hp rfl) rfl) ?_
        refine xr_go hc rfl rfl ?_
        refine xr_pf (A := 5) rfl hc rfl (ew_own_p hn rfl) ?_
        refine xr_go hc rfl rfl ?_
        refine xr_ret hc rfl rfl ?_
        exfalso; omega
      · skip
        refine xr_go hc rfl rfl ?_
        refine xr_ret hc rfl rfl ?_
        exact ⟨rfl, rfl, rfl⟩

set_option maxRecDepth 20000 in
theorem mx_bind {V : ew_Mem} {n : Nat} {M : ew_Mem} (hM : s_M V n M) {w a : Int} (hw : ew_in w) (ha : ew_in a) (h : s_okB V w a) : ew_FM 167 [(2, 38), (0, w), (0, a)] n M (0, 1) n (ew_wr (ew_wr M 38 7 w) 38 8 a) := by
  obtain ⟨hn, hp, hV, u0, u1, u2, u3, u4⟩ := id hM
  obtain ⟨hc6, hVW, hnd, hap, hr0, hr1, hr2, hr3, hr4, hr5⟩ := id hV
  have hc := ew_c_167
  show ew_X 167 0 [(2, 38), (0, w), (0, a)] [] n M _
  refine xr_go hc rfl rfl ?_
  refine xr_go hc rfl rfl ?_
  refine xr_v_2 hc rfl rfl (ew_own_p hn rfl) (m_isWheel hM (by omega)) ?_
  refine xr_if_eq hc rfl (by split <;> omega) (fun c1 => ?_) (fun c1 => ?_)
  · skip
    refine xr_go hc rfl rfl ?_
    refine xr_ret hc rfl rfl ?_
    exfalso; omega
  · skip
    refine xr_go hc rfl rfl ?_
    refine xr_go hc rfl rfl ?_
    refine xr_icmp_eq hc rfl (by omega) (by decide) (fun c2 => ?_) (fun c2 => ?_)
    · skip
      refine xr_go hc rfl rfl ?_
      refine xr_go hc rfl rfl ?_
      refine xr_pf (A := 38) rfl hc rfl (ew_own_p hn rfl) ?_
      refine xr_go hc rfl rfl ?_
      refine xr_go hc rfl rfl ?_
      refine xr_pf (A := 38) rfl hc rfl (ew_own_p hn rfl) ?_
      refine xr_go hc rfl rfl ?_
      refine xr_ret hc rfl rfl ?_
      exact ⟨rfl, rfl, rfl⟩
    · skip
      refine xr_go hc rfl rfl ?_
      refine xr_go hc rfl rfl ?_
      refine xr_v_2 hc rfl rfl (ew_own_p hn rfl) (m_isWheel hM (by omega)) ?_
      refine xr_if_ne hc rfl (by split <;> omega) (fun c3 => ?_) (fun c3 => ?_)
      · skip
        refine xr_go hc rfl rfl ?_
        refine xr_go hc rfl rfl ?_
        refine xr_pf (A := 38) rfl hc rfl (ew_own_p hn rfl) ?_
        refine xr_go hc rfl rfl ?_
        refine xr_go hc rfl rfl ?_
        refine xr_pf (A := 38) rfl hc rfl (ew_own_p hn rfl) ?_
        refine xr_go hc rfl rfl ?_
        refine xr_ret hc rfl rfl ?_
        exact ⟨rfl, rfl, rfl⟩
      · skip
        refine xr_go hc rfl rfl ?_
        refine xr_ret hc rfl rfl ?_
        exfalso; omega

set_option maxRecDepth 20000 in
theorem mx_bindN {V : ew_Mem} {n : Nat} {M : ew_Mem} (hM : s_M V n M) {w a : Int} (hw : ew_in w) (ha : ew_in a) (h : ¬ s_okB V w a) : ew_FM 167 [(2, 38), (0, w), (0, a)] n M (0, -1) n M := by
  obtain ⟨hn, hp, hV, u0, u1, u2, u3, u4⟩ := id hM
  obtain ⟨hc6, hVW, hnd, hap, hr0, hr1, hr2, hr3, hr4, hr5⟩ := id hV
  have hc := ew_c_167
  show ew_X 167 0 [(2, 38), (0, w), (0, a)] [] n M _
  refine xr_go hc rfl rfl ?_
  refine xr_go hc rfl rfl ?_
  refine xr_v_2 hc rfl rfl (ew_own_p hn rfl) (m_isWheel hM (by omega)) ?_
  refine xr_if_eq hc rfl (by split <;> omega) (fun c1 => ?_) (fun c1 => ?_)
  · skip
    refine xr_go hc rfl rfl ?_
    refine xr_ret hc rfl rfl ?_
    exact ⟨rfl, rfl, rfl⟩
  · skip
    refine xr_go hc rfl rfl ?_
    refine xr_go hc rfl rfl ?_
    refine xr_icmp_eq hc rfl (by omega) (by decide) (fun c2 => ?_) (fun c2 => ?_)
    · skip
      refine xr_go hc rfl rfl ?_
      refine xr_go hc rfl rfl ?_
      refine xr_pf (A := 38) rfl hc rfl (ew_own_p hn rfl) ?_
      refine xr_go hc rfl rfl ?_
      refine xr_go hc rfl rfl ?_
      refine xr_pf (A := 38) rfl hc rfl (ew_own_p hn rfl) ?_
      refine xr_go hc rfl rfl ?_
      refine xr_ret hc rfl rfl ?_
      exfalso; omega
    · skip
      refine xr_go hc rfl rfl ?_
      refine xr_go hc rfl rfl ?_
      refine xr_v_2 hc rfl rfl (ew_own_p hn rfl) (m_isWheel hM (by omega)) ?_
      refine xr_if_ne hc rfl (by split <;> omega) (fun c3 => ?_) (fun c3 => ?_)
      · skip
        refine xr_go hc rfl rfl ?_
        refine xr_go hc rfl rfl ?_
        refine xr_pf (A := 38) rfl hc rfl (ew_own_p hn rfl) ?_
        refine xr_go hc rfl rfl ?_
        refine xr_go hc rfl rfl ?_
        refine xr_pf (A := 38) rfl hc rfl (ew_own_p hn rfl) ?_
        refine xr_go hc rfl rfl ?_
        refine xr_ret hc rfl rfl ?_
        exfalso; omega
      · skip
        refine xr_go hc rfl rfl ?_
        refine xr_ret hc rfl rfl ?_
        exact ⟨rfl, rfl, rfl⟩

set_option maxRecDepth 20000 in
theorem c_ruled {V : ew_Mem} {n : Nat} {M : ew_Mem} (hC : s_C V n M) {x : Int} (hx : 0 ≤ x ∧ x ≤ 5) : ew_FM 73 [(2, 5), (0, x)] n M (0, V 7 x.toNat) n M := by
  obtain ⟨hn, hp, hV, v0, v1, v2, v3, v4⟩ := id hC
  obtain ⟨hc6, hVW, hnd, hap, hr0, hr1, hr2, hr3, hr4, hr5⟩ := id hV
  have hc := ew_c_73
  show ew_X 73 0 [(2, 5), (0, x)] [] n M _
  refine xr_go hc rfl rfl ?_
  refine xr_s_1 hc rfl rfl (c_isRule (by omega)) ?_
  refine xr_if_eq hc rfl (by split <;> omega) (fun c1 => ?_) (fun c1 => ?_)
  · exfalso; omega
  · skip
    refine xr_go hc rfl rfl ?_
    refine xr_gf2 (A := 5) (w := 7) rfl hc rfl (ew_own_p hn rfl) (ew_pm hp rfl) ?_
    refine xr_go hc rfl rfl ?_
    refine xr_iald (A := 7) (N := 6) rfl rfl hc rfl (ew_ok_p hn rfl) (by omega) (by omega) (v3 x.toNat (by omega)) ?_
    refine xr_go hc rfl rfl ?_
    refine xr_ret hc rfl rfl ?_
    first
      | exact ⟨rfl, rfl, rfl⟩
      | (exfalso; omega)

set_option maxRecDepth 20000 in
theorem mx_rule {V : ew_Mem} {n : Nat} {M : ew_Mem} (hM : s_M V n M) {x v : Int} (hx : ew_in x) (hv : ew_in v) (h0 : 0 ≤ x ∧ x ≤ 5) (h : s_rok x v = true) : ew_FM 168 [(2, 38), (0, x), (0, v)] n M (0, V 7 x.toNat) n (ew_wr M 45 x.toNat v) := by
  obtain ⟨hn, hp, hV, u0, u1, u2, u3, u4⟩ := id hM
  obtain ⟨hc6, hVW, hnd, hap, hr0, hr1, hr2, hr3, hr4, hr5⟩ := id hV
  have hc := ew_c_168
  show ew_X 168 0 [(2, 38), (0, x), (0, v), (5, 0)] [] n M _
  refine xr_go hc rfl rfl ?_
  refine xr_i2l hc rfl (by omega) ?_
  refine xr_go hc rfl rfl ?_
  refine xr_go hc rfl rfl ?_
  refine xr_s_3 hc rfl rfl (c_in (by omega) (by decide) (by decide)) ?_
  refine xr_if_ne hc rfl (by split <;> omega) (fun c1 => ?_) (fun c1 => ?_)
  · skip
    refine xr_go hc rfl rfl ?_
    refine xr_go hc rfl rfl ?_
    refine xr_s_2 hc rfl rfl (m_isRule h0 hv) ?_
    refine xr_if_ne hc rfl (by rw [h]; decide) (fun c2 => ?_) (fun c2 => ?_)
    · skip
      refine xr_go hc rfl rfl ?_
      refine xr_gf2 (A := 38) (w := 45) rfl hc rfl (ew_own_p hn rfl) (ew_pm hp rfl) ?_
      refine xr_go hc rfl rfl ?_
      refine xr_iald (A := 45) (N := 6) rfl rfl hc rfl (ew_ok_p hn rfl) (by omega) (by omega) (u3 x.toNat (by omega)) ?_
      refine xr_s1_3 hc rfl rfl rfl ?_
      refine xr_go hc rfl rfl ?_
      refine xr_gf2 (A := 38) (w := 45) rfl hc rfl (ew_own_p hn rfl) (ew_pm hp rfl) ?_
      refine xr_go hc rfl rfl ?_
      refine xr_go hc rfl rfl ?_
      refine xr_iast (A := 45) (N := 6) rfl rfl hc rfl (ew_own_p hn rfl) (by omega) (by omega) ?_
      refine xr_go hc rfl rfl ?_
      refine xr_ret hc rfl rfl ?_
      exact ⟨rfl, rfl, rfl⟩
    · skip
      refine xr_go hc rfl rfl ?_
      refine xr_ret hc rfl rfl ?_
      exfalso
      rw [h] at c2
      exact absurd c2 (by decide)
  · skip
    refine xr_go hc rfl rfl ?_
    refine xr_ret hc rfl rfl ?_
    exfalso; omega

