/-! roll: both sides -/
theorem s_rm36 {V M : ew_Mem} {a : Int} {k i j : Nat} (hp : ew_Pm M) : s_Fr M (s_rm V M 36 37 a k i j) ∧ ew_Pm (s_rm V M 36 37 a k i j) := by
  have h : s_Fr M (s_rm V M 36 37 a k i j) := s_rm_fr (s_scr_c rfl) (s_scr_c rfl)
  exact ⟨h, s_Fr_pm h hp⟩
theorem s_rm47 {V M : ew_Mem} {a : Int} {k i j : Nat} (hp : ew_Pm M) : s_Fr M (s_rm V M 47 48 a k i j) ∧ ew_Pm (s_rm V M 47 48 a k i j) := by
  have h : s_Fr M (s_rm V M 47 48 a k i j) := s_rm_fr (s_scr_c rfl) (s_scr_c rfl)
  exact ⟨h, s_Fr_pm h hp⟩
set_option maxRecDepth 20000 in
theorem c_rolledSize {V : ew_Mem} {n : Nat} {M : ew_Mem} {a : Int} {k i : Nat} {j i2 : Nat} (hn : 59 ≤ n) (hp : ew_Pm M) (hk : 1 ≤ k ∧ k ≤ 2000) (hi : i < 200) (hi2 : i ≤ i2) : ew_FM 106 [(2, 4), (0, (i : Int) - (k : Int))] n (s_rm V M 36 37 a k i2 j) (0, s_zk V a k i) n (s_rm V M 36 37 a k i2 j) := by
  obtain ⟨hfr, hp2⟩ := s_rm36 (V := V) (a := a) (k := k) (i := i2) (j := j) hp
  have hc := ew_c_106
  show ew_X 106 0 [(2, 4), (0, (i : Int) - (k : Int))] [] n _ _
  refine xr_go hc rfl rfl ?_
  refine xr_if_lt hc rfl (by omega) (fun c1 => ?_) (fun c1 => ?_)
  · skip
    refine xr_go hc rfl rfl ?_
    refine xr_ret hc rfl rfl ?_
    refine ⟨?_, rfl, rfl⟩
    unfold s_zk
    first
      | rw [if_pos (by omega)]
      | rw [if_neg (by omega)]
  · skip
    refine xr_go hc rfl rfl ?_
    refine xr_go hc rfl rfl ?_
    refine xr_gf2 (A := 4) rfl hc rfl (ew_own_p hn rfl) (ew_pm (v := 36) hp2 rfl) ?_
    refine xr_alen (A := 36) (N := 200) (t := 20) rfl rfl hc rfl (ew_ok_p hn rfl) (by decide) ?_
    refine xr_icmp_ge hc rfl (by omega) (by decide) (fun c2 => ?_) (fun c2 => ?_)
    · exfalso; omega
    · skip
      refine xr_go hc rfl rfl ?_
      refine xr_gf2 (A := 4) rfl hc rfl (ew_own_p hn rfl) (ew_pm (v := 36) hp2 rfl) ?_
      refine xr_go hc rfl rfl ?_
      refine xr_iald (A := 36) (N := 200) rfl rfl hc rfl (ew_ok_p hn rfl) (by omega) (by omega) (show s_rm V M 36 37 a k i2 j 36 ((i : Int) - (k : Int)).toNat = s_z V a k (i - k) by rw [show ((i : Int) - (k : Int)).toNat = i - k by omega]; exact s_rm_z (by decide) (by omega)) ?_
      refine xr_go hc rfl rfl ?_
      refine xr_ret hc rfl rfl ?_
      refine ⟨?_, rfl, rfl⟩
      unfold s_zk
      first
        | rw [if_pos (by omega)]
        | rw [if_neg (by omega)]

set_option maxRecDepth 20000 in
theorem c_rollOnto {V : ew_Mem} {n : Nat} {M : ew_Mem} {a : Int} {k i : Nat} (hC : s_C V n M) (hk : 1 ≤ k ∧ k ≤ 2000) (hi : i < 200) (hm : s_isM a ∧ s_isM (a + (i : Int))) : ew_FM 105 [(2, 4), (0, a), (0, (i : Int)), (0, (k : Int))] n (s_rm V M 36 37 a k i i) (0, s_z V a k i) n (s_rm V M 36 37 a k (i + 1) (i + 1)) := by
  obtain ⟨hn, hp, -⟩ := id hC
  obtain ⟨hfr, hp2⟩ := s_rm36 (V := V) (a := a) (k := k) (i := i) (j := i) hp
  have hC2 := s_C_fr hfr hC
  have he := s_ecl_bd V (a + (i : Int))
  have hs := s_side_bd V (a + (i : Int))
  have hs2 := s_sd_bd V a (i - k)
  have hz := s_z_bd (V := V) (a := a) hk.1 (i - k)
  have hze := s_z_eq (V := V) (a := a) hk.1 i
  have hzk : s_zk V a k i = if k ≤ i then s_z V a k (i - k) else 0 := rfl
  have hsd : s_sd V a i = if s_ecl V (a + (i : Int)) = 0 then 0 else s_side V (a + (i : Int)) := rfl
  have hzkb : 0 ≤ s_zk V a k i ∧ s_zk V a k i ≤ (i : Int) + 1 := by rw [hzk]; split <;> omega
  have h00 : ¬ s_ecl V (a + (i : Int)) = 0 → 0 < V 6 0 := by
    intro hh
    by_cases h0 : 0 < V 6 0
    · exact h0
    · exfalso
      apply hh
      unfold s_ecl
      obtain ⟨-, -, hV, -⟩ := hC
      rw [if_pos (by have := hV.1; omega)]
  have hc := ew_c_105
  show ew_X 105 0 [(2, 4), (0, a), (0, (i : Int)), (0, (k : Int)), (5, 0), (5, 0), (5, 0)] [] n _ _
  refine xr_go hc rfl rfl ?_
  refine xr_s1_4 hc rfl rfl rfl ?_
  refine xr_go hc rfl rfl ?_
  refine xr_s1_5 hc rfl rfl rfl ?_
  refine xr_go hc rfl rfl ?_
  refine xr_gf2 (A := 4) rfl hc rfl (ew_own_p hn rfl) (ew_pm (v := 5) hp2 rfl) ?_
  refine xr_go hc rfl rfl ?_
  refine xr_go hc rfl rfl ?_
  refine xr_go hc rfl rfl ?_
  refine xr_v_2 hc rfl rfl (ew_own_p hn rfl) (c_eclipseAt hC2 (by omega)) ?_
  refine xr_if_eq hc rfl (by omega) (fun c1 => ?_) (fun c1 => ?_)
  · skip
    refine xr_go hc rfl rfl ?_
    refine xr_if_lt hc rfl (by omega) (fun c2 => ?_) (fun c2 => ?_)
    · exfalso; omega
    · skip
      refine xr_go hc rfl rfl ?_
      refine xr_go hc rfl rfl ?_
      refine xr_icmp_ge hc rfl (by omega) (by decide) (fun c3 => ?_) (fun c3 => ?_)
      · exfalso; omega
      · skip
        refine xr_go hc rfl rfl ?_
        refine xr_gf2 (A := 4) rfl hc rfl (ew_own_p hn rfl) (ew_pm (v := 36) hp2 rfl) ?_
        refine xr_go hc rfl rfl ?_
        refine xr_go hc rfl rfl ?_
        refine xr_iast (A := 36) (N := 200) rfl rfl hc rfl (ew_own_p hn rfl) (by omega) (by omega) ?_
        refine xr_go hc rfl rfl ?_
        refine xr_gf2 (A := 4) rfl hc rfl (ew_own_p hn rfl) (show _ = (37 : Int) by first | exact ew_pm (v := 37) hp2 rfl | exact ew_pm (v := 37) (ew_Pm_wrA hp2 rfl) rfl) ?_
        refine xr_go hc rfl rfl ?_
        refine xr_go hc rfl rfl ?_
        refine xr_iast (A := 37) (N := 200) rfl rfl hc rfl (ew_own_p hn rfl) (by omega) (by omega) ?_
        refine xr_go hc rfl rfl ?_
        refine xr_ret hc rfl rfl ?_
        refine ⟨?_, rfl, ?_⟩
        focus
          rw [hze]
          first
            | (rw [if_pos (by omega)]; done)
            | (rw [if_neg (by omega), if_pos (by omega)]; done)
            | (rw [if_neg (by omega), if_neg (by split at hzk <;> omega)]; done)
        rw [Int.toNat_natCast, s_rm_wz (by decide) ?_, s_rm_ws ?_]
        focus
          rw [hsd]
          first
            | (rw [if_pos (by omega)]; done)
            | (rw [if_neg (by omega)]; done)
        rw [hze]
        first
          | (rw [if_pos (by omega)]; done)
          | (rw [if_neg (by omega), if_pos (by omega)]; done)
          | (rw [if_neg (by omega), if_neg (by split at hzk <;> omega)]; done)
  · skip
    refine xr_go hc rfl rfl ?_
    refine xr_gf2 (A := 4) rfl hc rfl (ew_own_p hn rfl) (ew_pm (v := 5) hp2 rfl) ?_
    refine xr_go hc rfl rfl ?_
    refine xr_go hc rfl rfl ?_
    refine xr_go hc rfl rfl ?_
    refine xr_v_2 hc rfl rfl (ew_own_p hn rfl) (c_sideAt hC2 (h00 (by omega)) (by omega)) ?_
    refine xr_s1_5 hc rfl rfl rfl ?_
    refine xr_go hc rfl rfl ?_
    refine xr_go hc rfl rfl ?_
    refine xr_go hc rfl rfl ?_
    refine xr_go hc rfl rfl ?_
    refine xr_v_2 hc rfl rfl (ew_own_p hn rfl) (c_rolledSize hn hp hk hi (Nat.le_refl _)) ?_
    refine xr_if_le hc rfl (by omega) (fun c4 => ?_) (fun c4 => ?_)
    · skip
      refine xr_go hc rfl rfl ?_
      refine xr_s1_6 hc rfl rfl rfl ?_
      refine xr_go hc rfl rfl ?_
      refine xr_if_eq hc rfl (by omega) (fun c5 => ?_) (fun c5 => ?_)
      · try (exfalso; omega)
        all_goals
          refine xr_go hc rfl rfl ?_
          refine xr_s1_4 hc rfl rfl rfl ?_
          refine xr_go hc rfl rfl ?_
          refine xr_if_lt hc rfl (by omega) (fun c6 => ?_) (fun c6 => ?_)
          · exfalso; omega
          · skip
            refine xr_go hc rfl rfl ?_
            refine xr_go hc rfl rfl ?_
            refine xr_icmp_ge hc rfl (by omega) (by decide) (fun c7 => ?_) (fun c7 => ?_)
            · exfalso; omega
            · skip
              refine xr_go hc rfl rfl ?_
              refine xr_gf2 (A := 4) rfl hc rfl (ew_own_p hn rfl) (ew_pm (v := 36) hp2 rfl) ?_
              refine xr_go hc rfl rfl ?_
              refine xr_go hc rfl rfl ?_
              refine xr_iast (A := 36) (N := 200) rfl rfl hc rfl (ew_own_p hn rfl) (by omega) (by omega) ?_
              refine xr_go hc rfl rfl ?_
              refine xr_gf2 (A := 4) rfl hc rfl (ew_own_p hn rfl) (show _ = (37 : Int) by first | exact ew_pm (v := 37) hp2 rfl | exact ew_pm (v := 37) (ew_Pm_wrA hp2 rfl) rfl) ?_
              refine xr_go hc rfl rfl ?_
              refine xr_go hc rfl rfl ?_
              refine xr_iast (A := 37) (N := 200) rfl rfl hc rfl (ew_own_p hn rfl) (by omega) (by omega) ?_
              refine xr_go hc rfl rfl ?_
              refine xr_ret hc rfl rfl ?_
              refine ⟨?_, rfl, ?_⟩
              focus
                rw [hze]
                first
                  | (rw [if_pos (by omega)]; done)
                  | (rw [if_neg (by omega), if_pos (by omega)]; done)
                  | (rw [if_neg (by omega), if_neg (by split at hzk <;> omega)]; done)
              rw [Int.toNat_natCast, s_rm_wz (by decide) ?_, s_rm_ws ?_]
              focus
                rw [hsd]
                first
                  | (rw [if_pos (by omega)]; done)
                  | (rw [if_neg (by omega)]; done)
              rw [hze]
              first
                | (rw [if_pos (by omega)]; done)
                | (rw [if_neg (by omega), if_pos (by omega)]; done)
                | (rw [if_neg (by omega), if_neg (by split at hzk <;> omega)]; done)
      · try (exfalso; omega)
        all_goals
          refine xr_go hc rfl rfl ?_
          refine xr_gf2 (A := 4) rfl hc rfl (ew_own_p hn rfl) (ew_pm (v := 36) hp2 rfl) ?_
          refine xr_go hc rfl rfl ?_
          refine xr_go hc rfl rfl ?_
          refine xr_go hc rfl rfl ?_
          refine xr_iald (A := 36) (N := 200) rfl rfl hc rfl (ew_ok_p hn rfl) (by omega) (by omega) H36 ?_
          refine xr_go hc rfl rfl ?_
          refine xr_go hc rfl rfl ?_
          refine xr_go hc rfl rfl ?_
          refine xr_s1_4 hc rfl rfl rfl ?_
          refine xr_go hc rfl rfl ?_
          refine xr_if_lt hc rfl (by omega) (fun c8 => ?_) (fun c8 => ?_)
          · exfalso; omega
          · skip
            refine xr_go hc rfl rfl ?_
            refine xr_go hc rfl rfl ?_
            refine xr_icmp_ge hc rfl (by omega) (by decide) (fun c9 => ?_) (fun c9 => ?_)
            · exfalso; omega
            · skip
              refine xr_go hc rfl rfl ?_
              refine xr_gf2 (A := 4) rfl hc rfl (ew_own_p hn rfl) (ew_pm (v := 36) hp2 rfl) ?_
              refine xr_go hc rfl rfl ?_
              refine xr_go hc rfl rfl ?_
              refine xr_iast (A := 36) (N := 200) rfl rfl hc rfl (ew_own_p hn rfl) (by omega) (by omega) ?_
              refine xr_go hc rfl rfl ?_
              refine xr_gf2 (A := 4) rfl hc rfl (ew_own_p hn rfl) (show _ = (37 : Int) by first | exact ew_pm (v := 37) hp2 rfl | exact ew_pm (v := 37) (ew_Pm_wrA hp2 rfl) rfl) ?_
              refine xr_go hc rfl rfl ?_
              refine xr_go hc rfl rfl ?_
              refine xr_iast (A := 37) (N := 200) rfl rfl hc rfl (ew_own_p hn rfl) (by omega) (by omega) ?_
              refine xr_go hc rfl rfl ?_
              refine xr_ret hc rfl rfl ?_
              refine ⟨?_, rfl, ?_⟩
              focus
                rw [hze]
                first
                  | (rw [if_pos (by omega)]; done)
                  | (rw [if_neg (by omega), if_pos (by omega)]; done)
                  | (rw [if_neg (by omega), if_neg (by split at hzk <;> omega)]; done)
              rw [Int.toNat_natCast, s_rm_wz (by decide) ?_, s_rm_ws ?_]
              focus
                rw [hsd]
                first
                  | (rw [if_pos (by omega)]; done)
                  | (rw [if_neg (by omega)]; done)
              rw [hze]
              first
                | (rw [if_pos (by omega)]; done)
                | (rw [if_neg (by omega), if_pos (by omega)]; done)
                | (rw [if_neg (by omega), if_neg (by split at hzk <;> omega)]; done)
    · skip
      have hki : k ≤ i := by split at hzk <;> omega
      have hzk2 : s_zk V a k i = s_z V a k (i - k) := by rw [hzk, if_pos hki]
      have H37 : s_rm V M 36 37 a k i i 37 ((i : Int) - (k : Int)).toNat = s_sd V a (i - k) := by
        rw [show ((i : Int) - (k : Int)).toNat = i - k by omega]
        exact s_rm_s (by omega)
      have H36 : s_rm V M 36 37 a k i i 36 ((i : Int) - (k : Int)).toNat = s_z V a k (i - k) := by
        rw [show ((i : Int) - (k : Int)).toNat = i - k by omega]
        exact s_rm_z (by decide) (by omega)
      refine xr_go hc rfl rfl ?_
      refine xr_gf2 (A := 4) rfl hc rfl (ew_own_p hn rfl) (show _ = (37 : Int) by first | exact ew_pm (v := 37) hp2 rfl | exact ew_pm (v := 37) (ew_Pm_wrA hp2 rfl) rfl) ?_
      refine xr_go hc rfl rfl ?_
      refine xr_go hc rfl rfl ?_
      refine xr_go hc rfl rfl ?_
      refine xr_iald (A := 37) (N := 200) rfl rfl hc rfl (ew_ok_p hn rfl) (by omega) (by omega) H37 ?_
      refine xr_go hc rfl rfl ?_
      refine xr_icmp_ne hc rfl (by omega) (by omega) (fun c10 => ?_) (fun c10 => ?_)
      · skip
        refine xr_go hc rfl rfl ?_
        refine xr_s1_6 hc rfl rfl rfl ?_
        refine xr_go hc rfl rfl ?_
        refine xr_if_eq hc rfl (by omega) (fun c11 => ?_) (fun c11 => ?_)
        · try (exfalso; omega)
          all_goals
            refine xr_go hc rfl rfl ?_
            refine xr_s1_4 hc rfl rfl rfl ?_
            refine xr_go hc rfl rfl ?_
            refine xr_if_lt hc rfl (by omega) (fun c12 => ?_) (fun c12 => ?_)
            · exfalso; omega
            · skip
              refine xr_go hc rfl rfl ?_
              refine xr_go hc rfl rfl ?_
              refine xr_icmp_ge hc rfl (by omega) (by decide) (fun c13 => ?_) (fun c13 => ?_)
              · exfalso; omega
              · skip
                refine xr_go hc rfl rfl ?_
                refine xr_gf2 (A := 4) rfl hc rfl (ew_own_p hn rfl) (ew_pm (v := 36) hp2 rfl) ?_
                refine xr_go hc rfl rfl ?_
                refine xr_go hc rfl rfl ?_
                refine xr_iast (A := 36) (N := 200) rfl rfl hc rfl (ew_own_p hn rfl) (by omega) (by omega) ?_
                refine xr_go hc rfl rfl ?_
                refine xr_gf2 (A := 4) rfl hc rfl (ew_own_p hn rfl) (show _ = (37 : Int) by first | exact ew_pm (v := 37) hp2 rfl | exact ew_pm (v := 37) (ew_Pm_wrA hp2 rfl) rfl) ?_
                refine xr_go hc rfl rfl ?_
                refine xr_go hc rfl rfl ?_
                refine xr_iast (A := 37) (N := 200) rfl rfl hc rfl (ew_own_p hn rfl) (by omega) (by omega) ?_
                refine xr_go hc rfl rfl ?_
                refine xr_ret hc rfl rfl ?_
                refine ⟨?_, rfl, ?_⟩
                focus
                  rw [hze]
                  first
                    | (rw [if_pos (by omega)]; done)
                    | (rw [if_neg (by omega), if_pos (by omega)]; done)
                    | (rw [if_neg (by omega), if_neg (by split at hzk <;> omega)]; done)
                rw [Int.toNat_natCast, s_rm_wz (by decide) ?_, s_rm_ws ?_]
                focus
                  rw [hsd]
                  first
                    | (rw [if_pos (by omega)]; done)
                    | (rw [if_neg (by omega)]; done)
                rw [hze]
                first
                  | (rw [if_pos (by omega)]; done)
                  | (rw [if_neg (by omega), if_pos (by omega)]; done)
                  | (rw [if_neg (by omega), if_neg (by split at hzk <;> omega)]; done)
        · try (exfalso; omega)
          all_goals
            refine xr_go hc rfl rfl ?_
            refine xr_gf2 (A := 4) rfl hc rfl (ew_own_p hn rfl) (ew_pm (v := 36) hp2 rfl) ?_
            refine xr_go hc rfl rfl ?_
            refine xr_go hc rfl rfl ?_
            refine xr_go hc rfl rfl ?_
            refine xr_iald (A := 36) (N := 200) rfl rfl hc rfl (ew_ok_p hn rfl) (by omega) (by omega) H36 ?_
            refine xr_go hc rfl rfl ?_
            refine xr_go hc rfl rfl ?_
            refine xr_go hc rfl rfl ?_
            refine xr_s1_4 hc rfl rfl rfl ?_
            refine xr_go hc rfl rfl ?_
            refine xr_if_lt hc rfl (by omega) (fun c14 => ?_) (fun c14 => ?_)
            · exfalso; omega
            · skip
              refine xr_go hc rfl rfl ?_
              refine xr_go hc rfl rfl ?_
              refine xr_icmp_ge hc rfl (by omega) (by decide) (fun c15 => ?_) (fun c15 => ?_)
              · exfalso; omega
              · skip
                refine xr_go hc rfl rfl ?_
                refine xr_gf2 (A := 4) rfl hc rfl (ew_own_p hn rfl) (ew_pm (v := 36) hp2 rfl) ?_
                refine xr_go hc rfl rfl ?_
                refine xr_go hc rfl rfl ?_
                refine xr_iast (A := 36) (N := 200) rfl rfl hc rfl (ew_own_p hn rfl) (by omega) (by omega) ?_
                refine xr_go hc rfl rfl ?_
                refine xr_gf2 (A := 4) rfl hc rfl (ew_own_p hn rfl) (show _ = (37 : Int) by first | exact ew_pm (v := 37) hp2 rfl | exact ew_pm (v := 37) (ew_Pm_wrA hp2 rfl) rfl) ?_
                refine xr_go hc rfl rfl ?_
                refine xr_go hc rfl rfl ?_
                refine xr_iast (A := 37) (N := 200) rfl rfl hc rfl (ew_own_p hn rfl) (by omega) (by omega) ?_
                refine xr_go hc rfl rfl ?_
                refine xr_ret hc rfl rfl ?_
                refine ⟨?_, rfl, ?_⟩
                focus
                  rw [hze]
                  first
                    | (rw [if_pos (by omega)]; done)
                    | (rw [if_neg (by omega), if_pos (by omega)]; done)
                    | (rw [if_neg (by omega), if_neg (by split at hzk <;> omega)]; done)
                rw [Int.toNat_natCast, s_rm_wz (by decide) ?_, s_rm_ws ?_]
                focus
                  rw [hsd]
                  first
                    | (rw [if_pos (by omega)]; done)
                    | (rw [if_neg (by omega)]; done)
                rw [hze]
                first
                  | (rw [if_pos (by omega)]; done)
                  | (rw [if_neg (by omega), if_pos (by omega)]; done)
                  | (rw [if_neg (by omega), if_neg (by split at hzk <;> omega)]; done)
      · skip
        refine xr_go hc rfl rfl ?_
        refine xr_go hc rfl rfl ?_
        refine xr_s1_6 hc rfl rfl rfl ?_
        refine xr_go hc rfl rfl ?_
        refine xr_if_eq hc rfl (by omega) (fun c16 => ?_) (fun c16 => ?_)
        · try (exfalso; omega)
          all_goals
            refine xr_go hc rfl rfl ?_
            refine xr_s1_4 hc rfl rfl rfl ?_
            refine xr_go hc rfl rfl ?_
            refine xr_if_lt hc rfl (by omega) (fun c17 => ?_) (fun c17 => ?_)
            · exfalso; omega
            · skip
              refine xr_go hc rfl rfl ?_
              refine xr_go hc rfl rfl ?_
              refine xr_icmp_ge hc rfl (by omega) (by decide) (fun c18 => ?_) (fun c18 => ?_)
              · exfalso; omega
              · skip
                refine xr_go hc rfl rfl ?_
                refine xr_gf2 (A := 4) rfl hc rfl (ew_own_p hn rfl) (ew_pm (v := 36) hp2 rfl) ?_
                refine xr_go hc rfl rfl ?_
                refine xr_go hc rfl rfl ?_
                refine xr_iast (A := 36) (N := 200) rfl rfl hc rfl (ew_own_p hn rfl) (by omega) (by omega) ?_
                refine xr_go hc rfl rfl ?_
                refine xr_gf2 (A := 4) rfl hc rfl (ew_own_p hn rfl) (show _ = (37 : Int) by first | exact ew_pm (v := 37) hp2 rfl | exact ew_pm (v := 37) (ew_Pm_wrA hp2 rfl) rfl) ?_
                refine xr_go hc rfl rfl ?_
                refine xr_go hc rfl rfl ?_
                refine xr_iast (A := 37) (N := 200) rfl rfl hc rfl (ew_own_p hn rfl) (by omega) (by omega) ?_
                refine xr_go hc rfl rfl ?_
                refine xr_ret hc rfl rfl ?_
                refine ⟨?_, rfl, ?_⟩
                focus
                  rw [hze]
                  first
                    | (rw [if_pos (by omega)]; done)
                    | (rw [if_neg (by omega), if_pos (by omega)]; done)
                    | (rw [if_neg (by omega), if_neg (by split at hzk <;> omega)]; done)
                rw [Int.toNat_natCast, s_rm_wz (by decide) ?_, s_rm_ws ?_]
                focus
                  rw [hsd]
                  first
                    | (rw [if_pos (by omega)]; done)
                    | (rw [if_neg (by omega)]; done)
                rw [hze]
                first
                  | (rw [if_pos (by omega)]; done)
                  | (rw [if_neg (by omega), if_pos (by omega)]; done)
                  | (rw [if_neg (by omega), if_neg (by split at hzk <;> omega)]; done)
        · try (exfalso; omega)
          all_goals
            refine xr_go hc rfl rfl ?_
            refine xr_gf2 (A := 4) rfl hc rfl (ew_own_p hn rfl) (ew_pm (v := 36) hp2 rfl) ?_
            refine xr_go hc rfl rfl ?_
            refine xr_go hc rfl rfl ?_
            refine xr_go hc rfl rfl ?_
            refine xr_iald (A := 36) (N := 200) rfl rfl hc rfl (ew_ok_p hn rfl) (by omega) (by omega) H36 ?_
            refine xr_go hc rfl rfl ?_
            refine xr_go hc rfl rfl ?_
            refine xr_go hc rfl rfl ?_
            refine xr_s1_4 hc rfl rfl rfl ?_
            refine xr_go hc rfl rfl ?_
            refine xr_if_lt hc rfl (by omega) (fun c19 => ?_) (fun c19 => ?_)
            · exfalso; omega
            · skip
              refine xr_go hc rfl rfl ?_
              refine xr_go hc rfl rfl ?_
              refine xr_icmp_ge hc rfl (by omega) (by decide) (fun c20 => ?_) (fun c20 => ?_)
              · exfalso; omega
              · skip
                refine xr_go hc rfl rfl ?_
                refine xr_gf2 (A := 4) rfl hc rfl (ew_own_p hn rfl) (ew_pm (v := 36) hp2 rfl) ?_
                refine xr_go hc rfl rfl ?_
                refine xr_go hc rfl rfl ?_
                refine xr_iast (A := 36) (N := 200) rfl rfl hc rfl (ew_own_p hn rfl) (by omega) (by omega) ?_
                refine xr_go hc rfl rfl ?_
                refine xr_gf2 (A := 4) rfl hc rfl (ew_own_p hn rfl) (show _ = (37 : Int) by first | exact ew_pm (v := 37) hp2 rfl | exact ew_pm (v := 37) (ew_Pm_wrA hp2 rfl) rfl) ?_
                refine xr_go hc rfl rfl ?_
                refine xr_go hc rfl rfl ?_
                refine xr_iast (A := 37) (N := 200) rfl rfl hc rfl (ew_own_p hn rfl) (by omega) (by omega) ?_
                refine xr_go hc rfl rfl ?_
                refine xr_ret hc rfl rfl ?_
                refine ⟨?_, rfl, ?_⟩
                focus
                  rw [hze]
                  first
                    | (rw [if_pos (by omega)]; done)
                    | (rw [if_neg (by omega), if_pos (by omega)]; done)
                    | (rw [if_neg (by omega), if_neg (by split at hzk <;> omega)]; done)
                rw [Int.toNat_natCast, s_rm_wz (by decide) ?_, s_rm_ws ?_]
                focus
                  rw [hsd]
                  first
                    | (rw [if_pos (by omega)]; done)
                    | (rw [if_neg (by omega)]; done)
                rw [hze]
                first
                  | (rw [if_pos (by omega)]; done)
                  | (rw [if_neg (by omega), if_pos (by omega)]; done)
                  | (rw [if_neg (by omega), if_neg (by split at hzk <;> omega)]; done)

