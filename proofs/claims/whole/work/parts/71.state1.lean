/-! bind: both sides -/
abbrev s_okB (V : ew_Mem) (w a : Int) : Prop := s_isW V w ∧ (a = -1 ∨ s_isW V a)
set_option maxRecDepth 20000 in
theorem cx_bind {V : ew_Mem} {n : Nat} {M : ew_Mem} (hC : s_C V n M) {w a : Int} (hw : ew_in w) (ha : ew_in a) (h : s_okB V w a) : ew_FM 96 [(2, 4), (0, w), (0, a)] n M (0, 1) n (ew_wr (ew_wr M 5 3 w) 5 4 a) := by
  obtain ⟨hn, hp, hV, v0, v1, v2, v3, v4⟩ := id hC
  obtain ⟨hc6, hVW, hnd, hap, hr0, hr1, hr2, hr3, hr4, hr5⟩ := id hV
  have hc := ew_c_96
  show ew_X 96 0 [(2, 4), (0, w), (0, a)] [] n M _
  refine xr_go hc rfl rfl ?_
  refine xr_gf2 (A := 4) rfl hc rfl (ew_own_p hn rfl) (show _ = (5 : Int) by first | exact ew_pm (v := 5) hp rfl | exact ew_pm (v := 5) (ew_Pm_wr hp rfl) rfl) ?_
  refine xr_go hc rfl rfl ?_
  refine xr_v_2 hc rfl rfl (ew_own_p hn rfl) (c_has hC (by omega)) ?_
  refine xr_if_eq hc rfl (by split <;> omega) (fun c1 => ?_) (fun c1 => ?_)
  · skip
    refine xr_go hc rfl rfl ?_
    refine xr_ret hc rfl rfl ?_
    exfalso; omega
  · skip
    refine xr_go hc rfl rfl ?_
    refine xr_go hc rfl rfl ?_
    refine xr_icmp_eq hc rfl (by omega) (by decide) (fun c2 => ?_) (fun c2 => ?_)
    · skip
      refine xr_go hc rfl rfl ?_
      refine xr_gf2 (A := 4) rfl hc rfl (ew_own_p hn rfl) (show _ = (5 : Int) by first | exact ew_pm (v := 5) hp rfl | exact ew_pm (v := 5) (ew_Pm_wr hp rfl) rfl) ?_
      refine xr_go hc rfl rfl ?_
      refine xr_pf (A := 5) rfl hc rfl (ew_own_p hn rfl) ?_
      refine xr_go hc rfl rfl ?_
      refine xr_gf2 (A := 4) rfl hc rfl (ew_own_p hn rfl) (show _ = (5 : Int) by first | exact ew_pm (v := 5) hp rfl | exact ew_pm (v := 5) (ew_Pm_wr hp rfl) rfl) ?_
      refine xr_go hc rfl rfl ?_
      refine xr_pf (A := 5) rfl hc rfl (ew_own_p hn rfl) ?_
      refine xr_go hc rfl rfl ?_
      refine xr_ret hc rfl rfl ?_
      exact ⟨rfl, rfl, rfl⟩
    · skip
      refine xr_go hc rfl rfl ?_
      refine xr_gf2 (A := 4) rfl hc rfl (ew_own_p hn rfl) (show _ = (5 : Int) by first | exact ew_pm (v := 5) hp rfl | exact ew_pm (v := 5) (ew_Pm_wr hp rfl) rfl) ?_
      refine xr_go hc rfl rfl ?_
      refine xr_v_2 hc rfl rfl (ew_own_p hn rfl) (c_has hC (by omega)) ?_
      refine xr_if_ne hc rfl (by split <;> omega) (fun c3 => ?_) (fun c3 => ?_)
      · skip
        refine xr_go hc rfl rfl ?_
        refine xr_gf2 (A := 4) rfl hc rfl (ew_own_p hn rfl) (show _ = (5 : Int) by first | exact ew_pm (v := 5) hp rfl | exact ew_pm (v := 5) (ew_Pm_wr hp rfl) rfl) ?_
        refine xr_go hc rfl rfl ?_
        refine xr_pf (A := 5) rfl hc rfl (ew_own_p hn rfl) ?_
        refine xr_go hc rfl rfl ?_
        refine xr_gf2 (A := 4) rfl hc rfl (ew_own_p hn rfl) (show _ = (5 : Int) by first | exact ew_pm (v := 5) hp rfl | exact ew_pm (v := 5) (ew_Pm_wr hp rfl) rfl) ?_
        refine xr_go hc rfl rfl ?_
        refine xr_pf (A := 5) rfl hc rfl (ew_own_p hn rfl) ?_
        refine xr_go hc rfl rfl ?_
        refine xr_ret hc rfl rfl ?_
        exact ⟨rfl, rfl, rfl⟩
      · skip
        refine xr_go hc rfl rfl ?_
        refine xr_ret hc rfl rfl ?_
        exfalso; omega

set_option maxRecDepth 20000 in
theorem cx_bindN {V : ew_Mem} {n : Nat} {M : ew_Mem} (hC : s_C V n M) {w a : Int} (hw : ew_in w) (ha : ew_in a) (h : ¬ s_okB V w a) : ew_FM 96 [(2, 4), (0, w), (0, a)] n M (0, -1) n M := by
  obtain ⟨hn, hp, hV, v0, v1, v2, v3, v4⟩ := id hC
  obtain ⟨hc6, hVW, hnd, hap, hr0, hr1, hr2, hr3, hr4, hr5⟩ := id hV
  have hc := ew_c_96
  show ew_X 96 0 [(2, 4), (0, w), (0, a)] [] n M _
  refine xr_go hc rfl rfl ?_
  refine xr_gf2 (A := 4) rfl hc rfl (ew_own_p hn rfl) (show _ = (5 : Int) by first | exact ew_pm (v := 5) hp rfl | exact ew_pm (v := 5) (ew_Pm_wr hp rfl) rfl) ?_
  refine xr_go hc rfl rfl ?_
  refine xr_v_2 hc rfl rfl (ew_own_p hn rfl) (c_has hC (by omega)) ?_
  refine xr_if_eq hc rfl (by split <;> omega) (fun c1 => ?_) (fun c1 => ?_)
  · skip
    refine xr_go hc rfl rfl ?_
    refine xr_ret hc rfl rfl ?_
    exact ⟨rfl, rfl, rfl⟩
  · skip
    refine xr_go hc rfl rfl ?_
    refine xr_go hc rfl rfl ?_
    refine xr_icmp_eq hc rfl (by omega) (by decide) (fun c2 => ?_) (fun c2 => ?_)
    · skip
      refine xr_go hc rfl rfl ?_
      refine xr_gf2 (A := 4) rfl hc rfl (ew_own_p hn rfl) (show _ = (5 : Int) by first | exact ew_pm (v := 5) hp rfl | exact ew_pm (v := 5) (ew_Pm_wr hp rfl) rfl) ?_
      refine xr_go hc rfl rfl ?_
      refine xr_pf (A := 5) rfl hc rfl (ew_own_p hn rfl) ?_
      refine xr_go hc rfl rfl ?_
      refine xr_gf2 (A := 4) rfl hc rfl (ew_own_p hn rfl) (show _ = (5 : Int) by first | exact ew_pm (v := 5) hp rfl | exact ew_pm (v := 5) (ew_Pm_wr hp rfl) rfl) ?_
      refine xr_go hc rfl rfl ?_
      refine xr_pf (A := 5) rfl hc rfl (ew_own_p hn rfl) ?_
      refine xr_go hc rfl rfl ?_
      refine xr_ret hc rfl rfl ?_
      exfalso; omega
    · skip
      refine xr_go hc rfl rfl ?_
      refine xr_gf2 (A := 4) rfl hc rfl (ew_own_p hn rfl) (show _ = (5 : Int) by first | exact ew_pm (v := 5) hp rfl | exact ew_pm (v := 5) (ew_Pm_wr hp rfl) rfl) ?_
      refine xr_go hc rfl rfl ?_
      refine xr_v_2 hc rfl rfl (ew_own_p hn rfl) (c_has hC (by omega)) ?_
      refine xr_if_ne hc rfl (by split <;> omega) (fun c3 => ?_) (fun c3 => ?_)
      · skip
        refine xr_go hc rfl rfl ?_
        refine xr_gf2 (A := 4) rfl hc rfl (ew_own_p hn rfl) (show _ = (5 : Int) by first | exact ew_pm (v := 5) hp rfl | exact ew_pm (v := 5) (ew_Pm_wr hp rfl) rfl) ?_
        refine xr_go hc rfl rfl ?_
        refine xr_pf (A := 5) rfl hc rfl (ew_own_p hn rfl) ?_
        refine xr_go hc rfl rfl ?_
        refine xr_gf2 (A := 4) rfl hc rfl (ew_own_p hn rfl) (show _ = (5 : Int) by first | exact ew_pm (v := 5) hp rfl | exact ew_pm (v := 5) (ew_Pm_wr hp rfl) rfl) ?_
        refine xr_go hc rfl rfl ?_
        refine xr_pf (A := 5) rfl hc rfl (ew_own_p hn rfl) ?_
        refine xr_go hc rfl rfl ?_
        refine xr_ret hc rfl rfl ?_
        exfalso; omega
      · skip
        refine xr_go hc rfl rfl ?_
        refine xr_ret hc rfl rfl ?_
        exact ⟨rfl, rfl, rfl⟩

set_option maxRecDepth 20000 in
theorem mx_bind {V : ew_Mem} {n : Nat} {M : ew_Mem} (hM : s_M V n M) {w a : Int} (hw : ew_in w) (ha : ew_in a) (h : s_okB V w a) : ew_FM 167 [(2, 38), (0, w), (0, a)] n M (0, 1) n (ew_wr (ew_wr M 38 7 w) 38 8 a) := by
  obtain ⟨hn, hp, hV, u0, u1, u2, u3, u4⟩ := id hM
  obtain ⟨hc6, hVW, hnd, hap, hr0, hr1, hr2, hr3, hr4, hr5⟩ := id hV
  have hc := ew_c_167
  show ew_X 167 0 [(2, 38), (0, w), (0, a)] [] n M _
  refine xr_go hc rfl rfl ?_
  refine xr_go hc rfl rfl ?_
  refine xr_v_2 hc rfl rfl (ew_own_p hn rfl) (m_isWheel hM (by omega)) ?_
  refine xr_if_eq hc rfl (by split <;> omega) (fun c1 => ?_) (fun c1 => ?_)
  · skip
    refine xr_go hc rfl rfl ?_
    refine xr_ret hc rfl rfl ?_
    exfalso; omega
  · skip
    refine xr_go hc rfl rfl ?_
    refine xr_go hc rfl rfl ?_
    refine xr_icmp_eq hc rfl (by omega) (by decide) (fun c2 => ?_) (fun c2 => ?_)
    · skip
      refine xr_go hc rfl rfl ?_
      refine xr_go hc rfl rfl ?_
      refine xr_pf (A := 38) rfl hc rfl (ew_own_p hn rfl) ?_
      refine xr_go hc rfl rfl ?_
      refine xr_go hc rfl rfl ?_
      refine xr_pf (A := 38) rfl hc rfl (ew_own_p hn rfl) ?_
      refine xr_go hc rfl rfl ?_
      refine xr_ret hc rfl rfl ?_
      exact ⟨rfl, rfl, rfl⟩
    · skip
      refine xr_go hc rfl rfl ?_
      refine xr_go hc rfl rfl ?_
      refine xr_v_2 hc rfl rfl (ew_own_p hn rfl) (m_isWheel hM (by omega)) ?_
      refine xr_if_ne hc rfl (by split <;> omega) (fun c3 => ?_) (fun c3 => ?_)
      · skip
        refine xr_go hc rfl rfl ?_
        refine xr_go hc rfl rfl ?_
        refine xr_pf (A := 38) rfl hc rfl (ew_own_p hn rfl) ?_
        refine xr_go hc rfl rfl ?_
        refine xr_go hc rfl rfl ?_
        refine xr_pf (A := 38) rfl hc rfl (ew_own_p hn rfl) ?_
        refine xr_go hc rfl rfl ?_
        refine xr_ret hc rfl rfl ?_
        exact ⟨rfl, rfl, rfl⟩
      · skip
        refine xr_go hc rfl rfl ?_
        refine xr_ret hc rfl rfl ?_
        exfalso; omega

set_option maxRecDepth 20000 in
theorem mx_bindN {V : ew_Mem} {n : Nat} {M : ew_Mem} (hM : s_M V n M) {w a : Int} (hw : ew_in w) (ha : ew_in a) (h : ¬ s_okB V w a) : ew_FM 167 [(2, 38), (0, w), (0, a)] n M (0, -1) n M := by
  obtain ⟨hn, hp, hV, u0, u1, u2, u3, u4⟩ := id hM
  obtain ⟨hc6, hVW, hnd, hap, hr0, hr1, hr2, hr3, hr4, hr5⟩ := id hV
  have hc := ew_c_167
  show ew_X 167 0 [(2, 38), (0, w), (0, a)] [] n M _
  refine xr_go hc rfl rfl ?_
  refine xr_go hc rfl rfl ?_
  refine xr_v_2 hc rfl rfl (ew_own_p hn rfl) (m_isWheel hM (by omega)) ?_
  refine xr_if_eq hc rfl (by split <;> omega) (fun c1 => ?_) (fun c1 => ?_)
  · skip
    refine xr_go hc rfl rfl ?_
    refine xr_ret hc rfl rfl ?_
    exact ⟨rfl, rfl, rfl⟩
  · skip
    refine xr_go hc rfl rfl ?_
    refine xr_go hc rfl rfl ?_
    refine xr_icmp_eq hc rfl (by omega) (by decide) (fun c2 => ?_) (fun c2 => ?_)
    · skip
      refine xr_go hc rfl rfl ?_
      refine xr_go hc rfl rfl ?_
      refine xr_pf (A := 38) rfl hc rfl (ew_own_p hn rfl) ?_
      refine xr_go hc rfl rfl ?_
      refine xr_go hc rfl rfl ?_
      refine xr_pf (A := 38) rfl hc rfl (ew_own_p hn rfl) ?_
      refine xr_go hc rfl rfl ?_
      refine xr_ret hc rfl rfl ?_
      exfalso; omega
    · skip
      refine xr_go hc rfl rfl ?_
      refine xr_go hc rfl rfl ?_
      refine xr_v_2 hc rfl rfl (ew_own_p hn rfl) (m_isWheel hM (by omega)) ?_
      refine xr_if_ne hc rfl (by split <;> omega) (fun c3 => ?_) (fun c3 => ?_)
      · skip
        refine xr_go hc rfl rfl ?_
        refine xr_go hc rfl rfl ?_
        refine xr_pf (A := 38) rfl hc rfl (ew_own_p hn rfl) ?_
        refine xr_go hc rfl rfl ?_
        refine xr_go hc rfl rfl ?_
        refine xr_pf (A := 38) rfl hc rfl (ew_own_p hn rfl) ?_
        refine xr_go hc rfl rfl ?_
        refine xr_ret hc rfl rfl ?_
        exfalso; omega
      · skip
        refine xr_go hc rfl rfl ?_
        refine xr_ret hc rfl rfl ?_
        exact ⟨rfl, rfl, rfl⟩

