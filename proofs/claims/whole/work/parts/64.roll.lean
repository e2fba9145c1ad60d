/-! roll: both sides -/
theorem s_rm36 {V M : ew_Mem} {a : Int} {k i j : Nat} (hp : ew_Pm M) : s_Fr M (s_rm V M 36 37 a k i j) ∧ ew_Pm (s_rm V M 36 37 a k i j) := by
  have h : s_Fr M (s_rm V M 36 37 a k i j) := s_rm_fr (s_scr_c rfl) (s_scr_c rfl)
  exact ⟨h, s_Fr_pm h hp⟩
theorem s_rm47 {V M : ew_Mem} {a : Int} {k i j : Nat} (hp : ew_Pm M) : s_Fr M (s_rm V M 47 48 a k i j) ∧ ew_Pm (s_rm V M 47 48 a k i j) := by
  have h : s_Fr M (s_rm V M 47 48 a k i j) := s_rm_fr (s_scr_c rfl) (s_scr_c rfl)
  exact ⟨h, s_Fr_pm h hp⟩
set_option maxRecDepth 20000 in
theorem c_rolledSize {V : ew_Mem} {n : Nat} {M : ew_Mem} {a : Int} {k i : Nat} {j i2 : Nat} (hn : 59 ≤ n) (hp : ew_Pm M) (hk : 1 ≤ k ∧ k ≤ 2000) (hi : i < 200) (hi2 : i ≤ i2) : ew_FM 106 [(2, 4), (0, (i : Int) - (k : Int))] n (s_rm V M 36 37 a k i2 j) (0, s_zk V a k i) n (s_rm V M 36 37 a k i2 j) := by
  obtain ⟨hfr, hp2⟩ := s_rm36 (V := V) (a := a) (k := k) (i := i2) (j := j) hp
  have hc := ew_c_106
  show ew_X 106 0 [(2, 4), (0, (i : Int) - (k : Int))] [] n _ _
  refine xr_go hc rfl rfl ?_
  refine xr_if_lt hc rfl (by omega) (fun c1 => ?_) (fun c1 => ?_)
  · skip
    refine xr_go hc rfl rfl ?_
    refine xr_ret hc rfl rfl ?_
    refine ⟨?_, rfl, rfl⟩
    unfold s_zk
    first
      | rw [if_pos (by omega)]
      | rw [if_neg (by omega)]
  · skip
    refine xr_go hc rfl rfl ?_
    refine xr_go hc rfl rfl ?_
    refine xr_gf2 (A := 4) rfl hc rfl (ew_own_p hn rfl) (ew_pm (v := 36) hp2 rfl) ?_
    refine xr_alen (A := 36) (N := 200) (t := 20) rfl rfl hc rfl (ew_ok_p hn rfl) (by decide) ?_
    refine xr_icmp_ge hc rfl (by omega) (by decide) (fun c2 => ?_) (fun c2 => ?_)
    · exfalso; omega
    · skip
      refine xr_go hc rfl rfl ?_
      refine xr_gf2 (A := 4) rfl hc rfl (ew_own_p hn rfl) (ew_pm (v := 36) hp2 rfl) ?_
      refine xr_go hc rfl rfl ?_
      refine xr_iald (A := 36) (N := 200) rfl rfl hc rfl (ew_ok_p hn rfl) (by omega) (by omega) (show s_rm V M 36 37 a k i2 j 36 ((i : Int) - (k : Int)).toNat = s_z V a k (i - k) by rw [show ((i : Int) - (k : Int)).toNat = i - k by omega]; exact s_rm_z (by decide) (by omega)) ?_
      refine xr_go hc rfl rfl ?_
      refine xr_ret hc rfl rfl ?_
      refine ⟨?_, rfl, rfl⟩
      unfold s_zk
      first
        | rw [if_pos (by omega)]
        | rw [if_neg (by omega)]

set_option maxRecDepth 20000 in
theorem c_rollOnto {V : ew_Mem} {n : Nat} {M : ew_Mem} {a : Int} {k i : Nat} (hC : s_C V n M) (hk : 1 ≤ k ∧ k ≤ 2000) (hi : i < 200) (hm : s_isM a ∧ s_isM (a + (i : Int))) : ew_FM 105 [(2, 4), (0, a), (0, (i : Int)), (0, (k : Int))] n (s_rm V M 36 37 a k i i) (0, s_z V a k i) n (s_rm V M 36 37 a k (i + 1) (i + 1)) := by
  obtain ⟨hn, hp, -⟩ := id hC
  obtain ⟨hfr, hp2⟩ := s_rm36 (V := V) (a := a) (k := k) (i := i) (j := i) hp
  have hC2 := s_C_fr hfr hC
  have he := s_ecl_bd V (a + (i : Int))
  have hs := s_side_bd V (a + (i : Int))
  have hs2 := s_sd_bd V a (i - k)
  have hz := s_z_bd (V := V) (a := a) hk.1 (i - k)
  have hze := s_z_eq (V := V) (a := a) hk.1 i
  have hzk : s_zk V a k i = if k ≤ i then s_z V a k (i - k) else 0 := rfl
  have hsd : s_sd V a i = if s_ecl V (a + (i : Int)) = 0 then 0 else s_side V (a + (i : Int)) := rfl
  have hzkb : 0 ≤ s_zk V a k i ∧ s_zk V a k i ≤ (i : Int) + 1 := by rw [hzk]; split <;> omega
  have h00 : ¬ s_ecl V (a + (i : Int)) = 0 → 0 < V 6 0 := by
    intro hh
    by_cases h0 : 0 < V 6 0
    · exact h0
    · exfalso
      apply hh
      unfold s_ecl
      obtain ⟨-, -, hV, -⟩ := hC
      rw [if_pos (by have := hV.1; omega)]
  have hc := ew_c_105
  show ew_X 105 0 [(2, 4), (0, a), (0, (i : Int)), (0, (k : Int)), (5, 0), (5, 0), (5, 0)] [] n _ _
  refine xr_go hc rfl rfl ?_
  refine xr_s1_4 hc rfl rfl rfl ?_
  refine xr_go hc rfl rfl ?_
  refine xr_s1_5 hc rfl rfl rfl ?_
  refine xr_go hc rfl rfl ?_
  refine xr_gf2 (A := 4) rfl hc rfl (ew_own_p hn rfl) (ew_pm (v := 5) hp2 rfl) ?_
  refine xr_go hc rfl rfl ?_
  refine xr_go hc rfl rfl ?_
  refine xr_go hc rfl rfl ?_
  refine xr_v_2 hc rfl rfl (ew_own_p hn rfl) (c_eclipseAt hC2 (by omega)) ?_
  refine xr_if_eq hc rfl (by omega) (fun c1 => ?_) (fun c1 => ?_)
  · skip
    refine xr_go hc rfl rfl ?_
    refine xr_if_lt hc rfl (by omega) (fun c2 => ?_) (fun c2 => ?_)
    · exfalso; omega
    · skip
      refine xr_go hc rfl rfl ?_
      refine xr_go hc rfl rfl ?_
      refine xr_icmp_ge hc rfl (by omega) (by decide) (fun c3 => ?_) (fun c3 => ?_)
      · exfalso; omega
      · skip
        refine xr_go hc rfl rfl ?_
        refine xr_gf2 (A := 4) rfl hc rfl (ew_own_p hn rfl) (ew_pm (v := 36) hp2 rfl) ?_
        refine xr_go hc rfl rfl ?_
        refine xr_go hc rfl rfl ?_
        refine xr_iast (A := 36) (N := 200) rfl rfl hc rfl (ew_own_p hn rfl) (by omega) (by omega) ?_
        refine xr_go hc rfl rfl ?_
        refine xr_gf2 (A := 4) rfl hc rfl (ew_own_p hn rfl) (show _ = (37 : Int) by first | exact ew_pm (v := 37) hp2 rfl | exact ew_pm (v := 37) (ew_Pm_wrA hp2 rfl) rfl) ?_
        refine xr_go hc rfl rfl ?_
        refine xr_go hc rfl rfl ?_
        refine xr_iast (A := 37) (N := 200) rfl rfl hc rfl (ew_own_p hn rfl) (by omega) (by omega) ?_
        refine xr_go hc rfl rfl ?_
        refine xr_ret hc rfl rfl ?_
        refine ⟨?_, rfl, ?_⟩
        focus
          rw [hze]
          first
            | (rw [if_pos (by omega)]; done)
            | (rw [if_neg (by omega), if_pos (by omega)]; done)
            | (rw [if_neg (by omega), if_neg (by split at hzk <;> omega)]; done)
        rw [Int.toNat_natCast, s_rm_wz (by decide) ?_, s_rm_ws ?_]
        focus
          rw [hsd]
          first
            | (rw [if_pos (by omega)]; done)
            | (rw [if_neg (by omega)]; done)
        rw [hze]
        first
          | (rw [if_pos (by omega)]; done)
          | (rw [if_neg (by omega), if_pos (by omega)]; done)
          | (rw [if_neg (by omega), if_neg (by split at hzk <;> omega)]; done)
  · skip
    refine xr_go hc rfl rfl ?_
    refine xr_gf2 (A := 4) rfl hc rfl (ew_own_p hn rfl) (ew_pm (v := 5) hp2 rfl) ?_
    refine xr_go hc rfl rfl ?_
    refine xr_go hc rfl rfl ?_
    refine xr_go hc rfl rfl ?_
    refine xr_v_2 hc rfl rfl (ew_own_p hn rfl) (c_sideAt hC2 (h00 (by omega)) (by omega)) ?_
    refine xr_s1_5 hc rfl rfl rfl ?_
    refine xr_go hc rfl rfl ?_
    refine xr_go hc rfl rfl ?_
    refine xr_go hc rfl rfl ?_
    refine xr_go hc rfl rfl ?_
    refine xr_v_2 hc rfl rfl (ew_own_p hn rfl) (c_rolledSize hn hp hk hi (Nat.le_refl _)) ?_
    refine xr_if_le hc rfl (by omega) (fun c4 => ?_) (fun c4 => ?_)
    · skip
      refine xr_go hc rfl rfl ?_
      refine xr_s1_6 hc rfl rfl rfl ?_
      refine xr_go hc rfl rfl ?_
      refine xr_if_eq hc rfl (by omega) (fun c5 => ?_) (fun c5 => ?_)
      · try (exfalso; omega)
        all_goals
          refine xr_go hc rfl rfl ?_
          refine xr_s1_4 hc rfl rfl rfl ?_
          refine xr_go hc rfl rfl ?_
          refine xr_if_lt hc rfl (by omega) (fun c6 => ?_) (fun c6 => ?_)
          · exfalso; omega
          · skip
            refine xr_go hc rfl rfl ?_
            refine xr_go hc rfl rfl ?_
            refine xr_icmp_ge hc rfl (by omega) (by decide) (fun c7 => ?_) (fun c7 => ?_)
            · exfalso; omega
            · skip
              refine xr_go hc rfl rfl ?_
              refine xr_gf2 (A := 4) rfl hc rfl (ew_own_p hn rfl) (ew_pm (v := 36) hp2 rfl) ?_
              refine xr_go hc rfl rfl ?_
              refine xr_go hc rfl rfl ?_
              refine xr_iast (A := 36) (N := 200) rfl rfl hc rfl (ew_own_p hn rfl) (by omega) (by omega) ?_
              refine xr_go hc rfl rfl ?_
              refine xr_gf2 (A := 4) rfl hc rfl (ew_own_p hn rfl) (show _ = (37 : Int) by first | exact ew_pm (v := 37) hp2 rfl | exact ew_pm (v := 37) (ew_Pm_wrA hp2 rfl) rfl) ?_
              refine xr_go hc rfl rfl ?_
              refine xr_go hc rfl rfl ?_
              refine xr_iast (A := 37) (N := 200) rfl rfl hc rfl (ew_own_p hn rfl) (by omega) (by omega) ?_
              refine xr_go hc rfl rfl ?_
              refine xr_ret hc rfl rfl ?_
              refine ⟨?_, rfl, ?_⟩
              focus
                rw [hze]
                first
                  | (rw [if_pos (by omega)]; done)
                  | (rw [if_neg (by omega), if_pos (by omega)]; done)
                  | (rw [if_neg (by omega), if_neg (by split at hzk <;> omega)]; done)
              rw [Int.toNat_natCast, s_rm_wz (by decide) ?_, s_rm_ws ?_]
              focus
                rw [hsd]
                first
                  | (rw [if_pos (by omega)]; done)
                  | (rw [if_neg (by omega)]; done)
              rw [hze]
              first
                | (rw [if_pos (by omega)]; done)
                | (rw [if_neg (by omega), if_pos (by omega)]; done)
                | (rw [if_neg (by omega), if_neg (by split at hzk <;> omega)]; done)
      · try (exfalso; omega)
        all_goals
          refine xr_go hc rfl rfl ?_
          refine xr_gf2 (A := 4) rfl hc rfl (ew_own_p hn rfl) (ew_pm (v := 36) hp2 rfl) ?_
          refine xr_go hc rfl rfl ?_
          refine xr_go hc rfl rfl ?_
          refine xr_go hc rfl rfl ?_
          refine xr_iald (A := 36) (N := 200) rfl rfl hc rfl (ew_ok_p hn rfl) (by omega) (by omega) H36 ?_
          refine xr_go hc rfl rfl ?_
          refine xr_go hc rfl rfl ?_
          refine xr_go hc rfl rfl ?_
          refine xr_s1_4 hc rfl rfl rfl ?_
          refine xr_go hc rfl rfl ?_
          refine xr_if_lt hc rfl (by omega) (fun c8 => ?_) (fun c8 => ?_)
          · exfalso; omega
          · skip
            refine xr_go hc rfl rfl ?_
            refine xr_go hc rfl rfl ?_
            refine xr_icmp_ge hc rfl (by omega) (by decide) (fun c9 => ?_) (fun c9 => ?_)
            · exfalso; omega
            · skip
              refine xr_go hc rfl rfl ?_
              refine xr_gf2 (A := 4) rfl hc rfl (ew_own_p hn rfl) (ew_pm (v := 36) hp2 rfl) ?_
              refine xr_go hc rfl rfl ?_
              refine xr_go hc rfl rfl ?_
              refine xr_iast (A := 36) (N := 200) rfl rfl hc rfl (ew_own_p hn rfl) (by omega) (by omega) ?_
              refine xr_go hc rfl rfl ?_
              refine xr_gf2 (A := 4) rfl hc rfl (ew_own_p hn rfl) (show _ = (37 : Int) by first | exact ew_pm (v := 37) hp2 rfl | exact ew_pm (v := 37) (ew_Pm_wrA hp2 rfl) rfl) ?_
              refine xr_go hc rfl rfl ?_
              refine xr_go hc rfl rfl ?_
              refine xr_iast (A := 37) (N := 200) rfl rfl hc rfl (ew_own_p hn rfl) (by omega) (by omega) ?_
              refine xr_go hc rfl rfl ?_
              refine xr_ret hc rfl rfl ?_
              refine ⟨?_, rfl, ?_⟩
              focus
                rw [hze]
                first
                  | (rw [if_pos (by omega)]; done)
                  | (rw [if_neg (by omega), if_pos (by omega)]; done)
                  | (rw [if_neg (by omega), if_neg (by split at hzk <;> omega)]; done)
              rw [Int.toNat_natCast, s_rm_wz (by decide) ?_, s_rm_ws ?_]
              focus
                rw [hsd]
                first
                  | (rw [if_pos (by omega)]; done)
                  | (rw [if_neg (by omega)]; done)
              rw [hze]
              first
                | (rw [if_pos (by omega)]; done)
                | (rw [if_neg (by omega), if_pos (by omega)]; done)
                | (rw [if_neg (by omega), if_neg (by split at hzk <;> omega)]; done)
    · skip
      have hki : k ≤ i := by split at hzk <;> omega
      have hzk2 : s_zk V a k i = s_z V a k (i - k) := by rw [hzk, if_pos hki]
      have H37 : s_rm V M 36 37 a k i i 37 ((i : Int) - (k : Int)).toNat = s_sd V a (i - k) := by
        rw [show ((i : Int) - (k : Int)).toNat = i - k by omega]
        exact s_rm_s (by omega)
      have H36 : s_rm V M 36 37 a k i i 36 ((i : Int) - (k : Int)).toNat = s_z V a k (i - k) := by
        rw [show ((i : Int) - (k : Int)).toNat = i - k by omega]
        exact s_rm_z (by decide) (by omega)
      refine xr_go hc rfl rfl ?_
      refine xr_gf2 (A := 4) rfl hc rfl (ew_own_p hn rfl) (show _ = (37 : Int) by first | exact ew_pm (v := 37) hp2 rfl | exact ew_pm (v := 37) (ew_Pm_wrA hp2 rfl) rfl) ?_
      refine xr_go hc rfl rfl ?_
      refine xr_go hc rfl rfl ?_
      refine xr_go hc rfl rfl ?_
      refine xr_iald (A := 37) (N := 200) rfl rfl hc rfl (ew_ok_p hn rfl) (by omega) (by omega) H37 ?_
      refine xr_go hc rfl rfl ?_
      refine xr_icmp_ne hc rfl (by omega) (by omega) (fun c10 => ?_) (fun c10 => ?_)
      · skip
        refine xr_go hc rfl rfl ?_
        refine xr_s1_6 hc rfl rfl rfl ?_
        refine xr_go hc rfl rfl ?_
        refine xr_if_eq hc rfl (by omega) (fun c11 => ?_) (fun c11 => ?_)
        · try (exfalso; omega)
          all_goals
            refine xr_go hc rfl rfl ?_
            refine xr_s1_4 hc rfl rfl rfl ?_
            refine xr_go hc rfl rfl ?_
            refine xr_if_lt hc rfl (by omega) (fun c12 => ?_) (fun c12 => ?_)
            · exfalso; omega
            · skip
              refine xr_go hc rfl rfl ?_
              refine xr_go hc rfl rfl ?_
              refine xr_icmp_ge hc rfl (by omega) (by decide) (fun c13 => ?_) (fun c13 => ?_)
              · exfalso; omega
              · skip
                refine xr_go hc rfl rfl ?_
                refine xr_gf2 (A := 4) rfl hc rfl (ew_own_p hn rfl) (ew_pm (v := 36) hp2 rfl) ?_
                refine xr_go hc rfl rfl ?_
                refine xr_go hc rfl rfl ?_
                refine xr_iast (A := 36) (N := 200) rfl rfl hc rfl (ew_own_p hn rfl) (by omega) (by omega) ?_
                refine xr_go hc rfl rfl ?_
                refine xr_gf2 (A := 4) rfl hc rfl (ew_own_p hn rfl) (show _ = (37 : Int) by first | exact ew_pm (v := 37) hp2 rfl | exact ew_pm (v := 37) (ew_Pm_wrA hp2 rfl) rfl) ?_
                refine xr_go hc rfl rfl ?_
                refine xr_go hc rfl rfl ?_
                refine xr_iast (A := 37) (N := 200) rfl rfl hc rfl (ew_own_p hn rfl) (by omega) (by omega) ?_
                refine xr_go hc rfl rfl ?_
                refine xr_ret hc rfl rfl ?_
                refine ⟨?_, rfl, ?_⟩
                focus
                  rw [hze]
                  first
                    | (rw [if_pos (by omega)]; done)
                    | (rw [if_neg (by omega), if_pos (by omega)]; done)
                    | (rw [if_neg (by omega), if_neg (by split at hzk <;> omega)]; done)
                rw [Int.toNat_natCast, s_rm_wz (by decide) ?_, s_rm_ws ?_]
                focus
                  rw [hsd]
                  first
                    | (rw [if_pos (by omega)]; done)
                    | (rw [if_neg (by omega)]; done)
                rw [hze]
                first
                  | (rw [if_pos (by omega)]; done)
                  | (rw [if_neg (by omega), if_pos (by omega)]; done)
                  | (rw [if_neg (by omega), if_neg (by split at hzk <;> omega)]; done)
        · try (exfalso; omega)
          all_goals
            refine xr_go hc rfl rfl ?_
            refine xr_gf2 (A := 4) rfl hc rfl (ew_own_p hn rfl) (ew_pm (v := 36) hp2 rfl) ?_
            refine xr_go hc rfl rfl ?_
            refine xr_go hc rfl rfl ?_
            refine xr_go hc rfl rfl ?_
            refine xr_iald (A := 36) (N := 200) rfl rfl hc rfl (ew_ok_p hn rfl) (by omega) (by omega) H36 ?_
            refine xr_go hc rfl rfl ?_
            refine xr_go hc rfl rfl ?_
            refine xr_go hc rfl rfl ?_
            refine xr_s1_4 hc rfl rfl rfl ?_
            refine xr_go hc rfl rfl ?_
            refine xr_if_lt hc rfl (by omega) (fun c14 => ?_) (fun c14 => ?_)
            · exfalso; omega
            · skip
              refine xr_go hc rfl rfl ?_
              refine xr_go hc rfl rfl ?_
              refine xr_icmp_ge hc rfl (by omega) (by decide) (fun c15 => ?_) (fun c15 => ?_)
              · exfalso; omega
              · skip
                refine xr_go hc rfl rfl ?_
                refine xr_gf2 (A := 4) rfl hc rfl (ew_own_p hn rfl) (ew_pm (v := 36) hp2 rfl) ?_
                refine xr_go hc rfl rfl ?_
                refine xr_go hc rfl rfl ?_
                refine xr_iast (A := 36) (N := 200) rfl rfl hc rfl (ew_own_p hn rfl) (by omega) (by omega) ?_
                refine xr_go hc rfl rfl ?_
                refine xr_gf2 (A := 4) rfl hc rfl (ew_own_p hn rfl) (show _ = (37 : Int) by first | exact ew_pm (v := 37) hp2 rfl | exact ew_pm (v := 37) (ew_Pm_wrA hp2 rfl) rfl) ?_
                refine xr_go hc rfl rfl ?_
                refine xr_go hc rfl rfl ?_
                refine xr_iast (A := 37) (N := 200) rfl rfl hc rfl (ew_own_p hn rfl) (by omega) (by omega) ?_
                refine xr_go hc rfl rfl ?_
                refine xr_ret hc rfl rfl ?_
                refine ⟨?_, rfl, ?_⟩
                focus
                  rw [hze]
                  first
                    | (rw [if_pos (by omega)]; done)
                    | (rw [if_neg (by omega), if_pos (by omega)]; done)
                    | (rw [if_neg (by omega), if_neg (by split at hzk <;> omega)]; done)
                rw [Int.toNat_natCast, s_rm_wz (by decide) ?_, s_rm_ws ?_]
                focus
                  rw [hsd]
                  first
                    | (rw [if_pos (by omega)]; done)
                    | (rw [if_neg (by omega)]; done)
                rw [hze]
                first
                  | (rw [if_pos (by omega)]; done)
                  | (rw [if_neg (by omega), if_pos (by omega)]; done)
                  | (rw [if_neg (by omega), if_neg (by split at hzk <;> omega)]; done)
      · skip
        refine xr_go hc rfl rfl ?_
        refine xr_go hc rfl rfl ?_
        refine xr_s1_6 hc rfl rfl rfl ?_
        refine xr_go hc rfl rfl ?_
        refine xr_if_eq hc rfl (by omega) (fun c16 => ?_) (fun c16 => ?_)
        · try (exfalso; omega)
          all_goals
            refine xr_go hc rfl rfl ?_
            refine xr_s1_4 hc rfl rfl rfl ?_
            refine xr_go hc rfl rfl ?_
            refine xr_if_lt hc rfl (by omega) (fun c17 => ?_) (fun c17 => ?_)
            · exfalso; omega
            · skip
              refine xr_go hc rfl rfl ?_
              refine xr_go hc rfl rfl ?_
              refine xr_icmp_ge hc rfl (by omega) (by decide) (fun c18 => ?_) (fun c18 => ?_)
              · exfalso; omega
              · skip
                refine xr_go hc rfl rfl ?_
                refine xr_gf2 (A := 4) rfl hc rfl (ew_own_p hn rfl) (ew_pm (v := 36) hp2 rfl) ?_
                refine xr_go hc rfl rfl ?_
                refine xr_go hc rfl rfl ?_
                refine xr_iast (A := 36) (N := 200) rfl rfl hc rfl (ew_own_p hn rfl) (by omega) (by omega) ?_
                refine xr_go hc rfl rfl ?_
                refine xr_gf2 (A := 4) rfl hc rfl (ew_own_p hn rfl) (show _ = (37 : Int) by first | exact ew_pm (v := 37) hp2 rfl | exact ew_pm (v := 37) (ew_Pm_wrA hp2 rfl) rfl) ?_
                refine xr_go hc rfl rfl ?_
                refine xr_go hc rfl rfl ?_
                refine xr_iast (A := 37) (N := 200) rfl rfl hc rfl (ew_own_p hn rfl) (by omega) (by omega) ?_
                refine xr_go hc rfl rfl ?_
                refine xr_ret hc rfl rfl ?_
                refine ⟨?_, rfl, ?_⟩
                focus
                  rw [hze]
                  first
                    | (rw [if_pos (by omega)]; done)
                    | (rw [if_neg (by omega), if_pos (by omega)]; done)
                    | (rw [if_neg (by omega), if_neg (by split at hzk <;> omega)]; done)
                rw [Int.toNat_natCast, s_rm_wz (by decide) ?_, s_rm_ws ?_]
                focus
                  rw [hsd]
                  first
                    | (rw [if_pos (by omega)]; done)
                    | (rw [if_neg (by omega)]; done)
                rw [hze]
                first
                  | (rw [if_pos (by omega)]; done)
                  | (rw [if_neg (by omega), if_pos (by omega)]; done)
                  | (rw [if_neg (by omega), if_neg (by split at hzk <;> omega)]; done)
        · try (exfalso; omega)
          all_goals
            refine xr_go hc rfl rfl ?_
            refine xr_gf2 (A := 4) rfl hc rfl (ew_own_p hn rfl) (ew_pm (v := 36) hp2 rfl) ?_
            refine xr_go hc rfl rfl ?_
            refine xr_go hc rfl rfl ?_
            refine xr_go hc rfl rfl ?_
            refine xr_iald (A := 36) (N := 200) rfl rfl hc rfl (ew_ok_p hn rfl) (by omega) (by omega) H36 ?_
            refine xr_go hc rfl rfl ?_
            refine xr_go hc rfl rfl ?_
            refine xr_go hc rfl rfl ?_
            refine xr_s1_4 hc rfl rfl rfl ?_
            refine xr_go hc rfl rfl ?_
            refine xr_if_lt hc rfl (by omega) (fun c19 => ?_) (fun c19 => ?_)
            · exfalso; omega
            · skip
              refine xr_go hc rfl rfl ?_
              refine xr_go hc rfl rfl ?_
              refine xr_icmp_ge hc rfl (by omega) (by decide) (fun c20 => ?_) (fun c20 => ?_)
              · exfalso; omega
              · skip
                refine xr_go hc rfl rfl ?_
                refine xr_gf2 (A := 4) rfl hc rfl (ew_own_p hn rfl) (ew_pm (v := 36) hp2 rfl) ?_
                refine xr_go hc rfl rfl ?_
                refine xr_go hc rfl rfl ?_
                refine xr_iast (A := 36) (N := 200) rfl rfl hc rfl (ew_own_p hn rfl) (by omega) (by omega) ?_
                refine xr_go hc rfl rfl ?_
                refine xr_gf2 (A := 4) rfl hc rfl (ew_own_p hn rfl) (show _ = (37 : Int) by first | exact ew_pm (v := 37) hp2 rfl | exact ew_pm (v := 37) (ew_Pm_wrA hp2 rfl) rfl) ?_
                refine xr_go hc rfl rfl ?_
                refine xr_go hc rfl rfl ?_
                refine xr_iast (A := 37) (N := 200) rfl rfl hc rfl (ew_own_p hn rfl) (by omega) (by omega) ?_
                refine xr_go hc rfl rfl ?_
                refine xr_ret hc rfl rfl ?_
                refine ⟨?_, rfl, ?_⟩
                focus
                  rw [hze]
                  first
                    | (rw [if_pos (by omega)]; done)
                    | (rw [if_neg (by omega), if_pos (by omega)]; done)
                    | (rw [if_neg (by omega), if_neg (by split at hzk <;> omega)]; done)
                rw [Int.toNat_natCast, s_rm_wz (by decide) ?_, s_rm_ws ?_]
                focus
                  rw [hsd]
                  first
                    | (rw [if_pos (by omega)]; done)
                    | (rw [if_neg (by omega)]; done)
                rw [hze]
                first
                  | (rw [if_pos (by omega)]; done)
                  | (rw [if_neg (by omega), if_pos (by omega)]; done)
                  | (rw [if_neg (by omega), if_neg (by split at hzk <;> omega)]; done)

set_option maxRecDepth 20000 in
theorem cx_roll_1 {V : ew_Mem} {n : Nat} {M : ew_Mem} {a b x : Int} {k Ln : Nat} (hC : s_C V n M) (hk : 1 ≤ k ∧ k ≤ 2000) (ha : s_isM a) (hb : s_isM b) (hab : b - a + 1 = (Ln : Int)) (hln : Ln ≤ 200) (hx : 0 ≤ x ∧ x ≤ 4) : ∀ (j i : Nat) (q : ew_AV), i + j = Ln →
    ew_X 104 47 [(2, 4), (0, a), (0, b), (0, (k : Int)), (0, x), (0, s_rB V a k i), (0, s_rN V a k i), (0, s_rX V a k i), (0, s_rO V a k i), (0, (i : Int)), q] [] n (s_rm V M 36 37 a k i i) (fun r n1 M1 => r = some (0, s_ra V a k Ln x) ∧ n1 = n ∧ s_Fr M M1) := by
  obtain ⟨hn, hp, -⟩ := id hC
  have hc := ew_c_104
  intro j
  induction j with
  | zero =>
    intro i q hj
    obtain ⟨hfr, hp2⟩ := s_rm36 (V := V) (a := a) (k := k) (i := i) (j := i) hp
    have e1 : s_rB V a k (i + 1) = s_rB V a k i + (if s_z V a k i = 1 then 1 else 0) := rfl
    have e2 : s_rN V a k (i + 1) = s_rN V a k i + (if 0 < s_zk V a k i ∧ s_z V a k i ≤ 1 then 1 else 0) := rfl
    have e3 : s_rX V a k (i + 1) = max (s_rX V a k i) (s_z V a k i) := rfl
    have e4 : s_rO V a k (i + 1) = max (s_rO V a k i) (s_rB V a k (i + 1) - s_rN V a k (i + 1)) := rfl
    have hz := s_z_bd (V := V) (a := a) hk.1 i
    obtain ⟨b1, b2, b3, b4⟩ := s_r_bd (V := V) (a := a) hk.1 i
    refine xr_go hc rfl rfl ?_
    refine xr_go hc rfl rfl ?_
    refine xr_go hc rfl rfl ?_
    refine xr_go hc rfl rfl ?_
    refine xr_icmp_gt hc rfl (by omega) (by omega) (fun c1 => ?_) (fun c1 => ?_)
    · skip
      refine xr_go hc rfl rfl ?_
      refine xr_ts hc rfl (by omega) (fun c2 => ?_) (fun c2a c2b => ?_)
      · skip
        refine xr_go hc rfl rfl ?_
        refine xr_ret hc rfl rfl ?_
        refine ⟨?_, rfl, hfr⟩
        first
          | rw [show i = Ln by omega]
          | skip
        unfold s_ra
        first
          | (rw [if_pos (by omega)]; done)
          | (rw [if_neg (by omega), if_pos (by omega)]; done)
          | (rw [if_neg (by omega), if_neg (by omega), if_pos (by omega)]; done)
          | (rw [if_neg (by omega), if_neg (by omega), if_neg (by omega), if_pos (by omega)]; done)
          | (rw [if_neg (by omega), if_neg (by omega), if_neg (by omega), if_neg (by omega)]; done)
      · rcases (show (x) = 0 ∨ (x) = 1 ∨ (x) = 2 ∨ (x) = 3 by omega) with ec2 | ec2 | ec2 | ec2
        · refine ⟨29, 160, by rw [ec2]; rfl, rfl, ?_⟩
          refine xr_go hc rfl rfl ?_
          refine xr_ret hc rfl rfl ?_
          refine ⟨?_, rfl, hfr⟩
          first
            | rw [show i = Ln by omega]
            | skip
          unfold s_ra
          first
            | (rw [if_pos (by omega)]; done)
            | (rw [if_neg (by omega), if_pos (by omega)]; done)
            | (rw [if_neg (by omega), if_neg (by omega), if_pos (by omega)]; done)
            | (rw [if_neg (by omega), if_neg (by omega), if_neg (by omega), if_pos (by omega)]; done)
            | (rw [if_neg (by omega), if_neg (by omega), if_neg (by omega), if_neg (by omega)]; done)
        · refine ⟨32, 163, by rw [ec2]; rfl, rfl, ?_⟩
          refine xr_go hc rfl rfl ?_
          refine xr_ret hc rfl rfl ?_
          refine ⟨?_, rfl, hfr⟩
          first
            | rw [show i = Ln by omega]
            | skip
          unfold s_ra
          first
            | (rw [if_pos (by omega)]; done)
            | (rw [if_neg (by omega), if_pos (by omega)]; done)
            | (rw [if_neg (by omega), if_neg (by omega), if_pos (by omega)]; done)
            | (rw [if_neg (by omega), if_neg (by omega), if_neg (by omega), if_pos (by omega)]; done)
            | (rw [if_neg (by omega), if_neg (by omega), if_neg (by omega), if_neg (by omega)]; done)
        · refine ⟨35, 166, by rw [ec2]; rfl, rfl, ?_⟩
          refine xr_go hc rfl rfl ?_
          refine xr_go hc rfl rfl ?_
          refine xr_go hc rfl rfl ?_
          refine xr_ret hc rfl rfl ?_
          refine ⟨?_, rfl, hfr⟩
          first
            | rw [show i = Ln by omega]
            | skip
          unfold s_ra
          first
            | (rw [if_pos (by omega)]; done)
            | (rw [if_neg (by omega), if_pos (by omega)]; done)
            | (rw [if_neg (by omega), if_neg (by omega), if_pos (by omega)]; done)
            | (rw [if_neg (by omega), if_neg (by omega), if_neg (by omega), if_pos (by omega)]; done)
            | (rw [if_neg (by omega), if_neg (by omega), if_neg (by omega), if_neg (by omega)]; done)
        · refine ⟨41, 172, by rw [ec2]; rfl, rfl, ?_⟩
          refine xr_go hc rfl rfl ?_
          refine xr_ret hc rfl rfl ?_
          refine ⟨?_, rfl, hfr⟩
          first
            | rw [show i = Ln by omega]
            | skip
          unfold s_ra
          first
            | (rw [if_pos (by omega)]; done)
            | (rw [if_neg (by omega), if_pos (by omega)]; done)
            | (rw [if_neg (by omega), if_neg (by omega), if_pos (by omega)]; done)
            | (rw [if_neg (by omega), if_neg (by omega), if_neg (by omega), if_pos (by omega)]; done)
            | (rw [if_neg (by omega), if_neg (by omega), if_neg (by omega), if_neg (by omega)]; done)
    · exfalso; omega
  | succ j ih =>
    intro i q hj
    have hzkb : 0 ≤ s_zk V a k i ∧ s_zk V a k i ≤ (i : Int) + 1 := by
      have := s_z_bd (V := V) (a := a) hk.1 (i - k)
      unfold s_zk
      split <;> omega
    have e1 : s_rB V a k (i + 1) = s_rB V a k i + (if s_z V a k i = 1 then 1 else 0) := rfl
    have e2 : s_rN V a k (i + 1) = s_rN V a k i + (if 0 < s_zk V a k i ∧ s_z V a k i ≤ 1 then 1 else 0) := rfl
    have e3 : s_rX V a k (i + 1) = max (s_rX V a k i) (s_z V a k i) := rfl
    have e4 : s_rO V a k (i + 1) = max (s_rO V a k i) (s_rB V a k (i + 1) - s_rN V a k (i + 1)) := rfl
    have hz := s_z_bd (V := V) (a := a) hk.1 i
    obtain ⟨b1, b2, b3, b4⟩ := s_r_bd (V := V) (a := a) hk.1 i
    refine xr_go hc rfl rfl ?_
    refine xr_go hc rfl rfl ?_
    refine xr_go hc rfl rfl ?_
    refine xr_go hc rfl rfl ?_
    refine xr_icmp_gt hc rfl (by omega) (by omega) (fun c1 => ?_) (fun c1 => ?_)
    · exfalso; omega
    · skip
      refine xr_go hc rfl rfl ?_
      refine xr_go hc rfl rfl ?_
      refine xr_icmp_ge hc rfl (by omega) (by decide) (fun c2 => ?_) (fun c2 => ?_)
      · exfalso; omega
      · skip
        refine xr_go hc rfl rfl ?_
        refine xr_go hc rfl rfl ?_
        refine xr_go hc rfl rfl ?_
        refine xr_go hc rfl rfl ?_
        refine xr_v_4 hc rfl rfl (ew_own_p hn rfl) (c_rollOnto hC hk (by omega) ⟨ha, by omega⟩) ?_
        refine xr_s1_10 hc rfl rfl rfl ?_
        refine xr_go hc rfl rfl ?_
        refine xr_go hc rfl rfl ?_
        refine xr_s_2 hc rfl rfl (c_maxI (by omega) (by omega)) ?_
        refine xr_s1_7 hc rfl rfl rfl ?_
        refine xr_go hc rfl rfl ?_
        refine xr_go hc rfl rfl ?_
        refine xr_icmp_ne hc rfl (by omega) (by decide) (fun c3 => ?_) (fun c3 => ?_)
        · skip
          refine xr_go hc rfl rfl ?_
          refine xr_go hc rfl rfl ?_
          refine xr_go hc rfl rfl ?_
          refine xr_go hc rfl rfl ?_
          refine xr_v_2 hc rfl rfl (ew_own_p hn rfl) (c_rolledSize (i2 := i + 1) (j := i + 1) hn hp hk (by omega) (by omega)) ?_
          refine xr_if_le hc rfl (by omega) (fun c4 => ?_) (fun c4 => ?_)
          · skip
            refine xr_go hc rfl rfl ?_
            refine xr_go hc rfl rfl ?_
            refine xr_go hc rfl rfl ?_
            refine xr_go hc rfl rfl ?_
            refine xr_s_2 hc rfl rfl (c_maxI (by omega) (by omega)) ?_
            refine xr_s1_8 hc rfl rfl rfl ?_
            refine xr_inc_9 hc rfl ?_
            refine xr_go hc rfl rfl ?_
            rw [s_n1]
            have h := fun q => ih (i + 1) q (by omega)
            rw [e4, e3, e2, e1] at h
            first
              | (rw [if_pos (show s_z V a k i = 1 by omega), if_pos (by omega)] at h; exact h _)
              | (rw [if_pos (show s_z V a k i = 1 by omega), if_neg (by omega), Int.add_zero] at h; exact h _)
              | (rw [if_neg (show ¬ s_z V a k i = 1 by omega), if_pos (by omega), Int.add_zero] at h; exact h _)
              | (rw [if_neg (show ¬ s_z V a k i = 1 by omega), if_neg (by omega), Int.add_zero, Int.add_zero] at h; exact h _)
          · skip
            refine xr_go hc rfl rfl ?_
            refine xr_go hc rfl rfl ?_
            refine xr_icmp_gt hc rfl (by omega) (by decide) (fun c5 => ?_) (fun c5 => ?_)
            · skip
              refine xr_go hc rfl rfl ?_
              refine xr_go hc rfl rfl ?_
              refine xr_go hc rfl rfl ?_
              refine xr_go hc rfl rfl ?_
              refine xr_s_2 hc rfl rfl (c_maxI (by omega) (by omega)) ?_
              refine xr_s1_8 hc rfl rfl rfl ?_
              refine xr_inc_9 hc rfl ?_
              refine xr_go hc rfl rfl ?_
              rw [s_n1]
              have h := fun q => ih (i + 1) q (by omega)
              rw [e4, e3, e2, e1] at h
              first
                | (rw [if_pos (show s_z V a k i = 1 by omega), if_pos (by omega)] at h; exact h _)
                | (rw [if_pos (show s_z V a k i = 1 by omega), if_neg (by omega), Int.add_zero] at h; exact h _)
                | (rw [if_neg (show ¬ s_z V a k i = 1 by omega), if_pos (by omega), Int.add_zero] at h; exact h _)
                | (rw [if_neg (show ¬ s_z V a k i = 1 by omega), if_neg (by omega), Int.add_zero, Int.add_zero] at h; exact h _)
            · skip
              refine xr_inc_6 hc rfl ?_
              refine xr_go hc rfl rfl ?_
              refine xr_go hc rfl rfl ?_
              refine xr_go hc rfl rfl ?_
              refine xr_go hc rfl rfl ?_
              refine xr_s_2 hc rfl rfl (c_maxI (by omega) (by omega)) ?_
              refine xr_s1_8 hc rfl rfl rfl ?_
              refine xr_inc_9 hc rfl ?_
              refine xr_go hc rfl rfl ?_
              rw [s_n1]
              have h := fun q => ih (i + 1) q (by omega)
              rw [e4, e3, e2, e1] at h
              first
                | (rw [if_pos (show s_z V a k i = 1 by omega), if_pos (by omega)] at h; exact h _)
                | (rw [if_pos (show s_z V a k i = 1 by omega), if_neg (by omega), Int.add_zero] at h; exact h _)
                | (rw [if_neg (show ¬ s_z V a k i = 1 by omega), if_pos (by omega), Int.add_zero] at h; exact h _)
                | (rw [if_neg (show ¬ s_z V a k i = 1 by omega), if_neg (by omega), Int.add_zero, Int.add_zero] at h; exact h _)
        · skip
          refine xr_inc_5 hc rfl ?_
          refine xr_go hc rfl rfl ?_
          refine xr_go hc rfl rfl ?_
          refine xr_go hc rfl rfl ?_
          refine xr_go hc rfl rfl ?_
          refine xr_v_2 hc rfl rfl (ew_own_p hn rfl) (c_rolledSize (i2 := i + 1) (j := i + 1) hn hp hk (by omega) (by omega)) ?_
          refine xr_if_le hc rfl (by omega) (fun c6 => ?_) (fun c6 => ?_)
          · skip
            refine xr_go hc rfl rfl ?_
            refine xr_go hc rfl rfl ?_
            refine xr_go hc rfl rfl ?_
            refine xr_go hc rfl rfl ?_
            refine xr_s_2 hc rfl rfl (c_maxI (by omega) (by omega)) ?_
            refine xr_s1_8 hc rfl rfl rfl ?_
            refine xr_inc_9 hc rfl ?_
            refine xr_go hc rfl rfl ?_
            rw [s_n1]
            have h := fun q => ih (i + 1) q (by omega)
            rw [e4, e3, e2, e1] at h
            first
              | (rw [if_pos (show s_z V a k i = 1 by omega), if_pos (by omega)] at h; exact h _)
              | (rw [if_pos (show s_z V a k i = 1 by omega), if_neg (by omega), Int.add_zero] at h; exact h _)
              | (rw [if_neg (show ¬ s_z V a k i = 1 by omega), if_pos (by omega), Int.add_zero] at h; exact h _)
              | (rw [if_neg (show ¬ s_z V a k i = 1 by omega), if_neg (by omega), Int.add_zero, Int.add_zero] at h; exact h _)
          · skip
            refine xr_go hc rfl rfl ?_
            refine xr_go hc rfl rfl ?_
            refine xr_icmp_gt hc rfl (by omega) (by decide) (fun c7 => ?_) (fun c7 => ?_)
            · skip
              refine xr_go hc rfl rfl ?_
              refine xr_go hc rfl rfl ?_
              refine xr_go hc rfl rfl ?_
              refine xr_go hc rfl rfl ?_
              refine xr_s_2 hc rfl rfl (c_maxI (by omega) (by omega)) ?_
              refine xr_s1_8 hc rfl rfl rfl ?_
              refine xr_inc_9 hc rfl ?_
              refine xr_go hc rfl rfl ?_
              rw [s_n1]
              have h := fun q => ih (i + 1) q (by omega)
              rw [e4, e3, e2, e1] at h
              first
                | (rw [if_pos (show s_z V a k i = 1 by omega), if_pos (by omega)] at h; exact h _)
                | (rw [if_pos (show s_z V a k i = 1 by omega), if_neg (by omega), Int.add_zero] at h; exact h _)
                | (rw [if_neg (show ¬ s_z V a k i = 1 by omega), if_pos (by omega), Int.add_zero] at h; exact h _)
                | (rw [if_neg (show ¬ s_z V a k i = 1 by omega), if_neg (by omega), Int.add_zero, Int.add_zero] at h; exact h _)
            · skip
              refine xr_inc_6 hc rfl ?_
              refine xr_go hc rfl rfl ?_
              refine xr_go hc rfl rfl ?_
              refine xr_go hc rfl rfl ?_
              refine xr_go hc rfl rfl ?_
              refine xr_s_2 hc rfl rfl (c_maxI (by omega) (by omega)) ?_
              refine xr_s1_8 hc rfl rfl rfl ?_
              refine xr_inc_9 hc rfl ?_
              refine xr_go hc rfl rfl ?_
              rw [s_n1]
              have h := fun q => ih (i + 1) q (by omega)
              rw [e4, e3, e2, e1] at h
              first
                | (rw [if_pos (show s_z V a k i = 1 by omega), if_pos (by omega)] at h; exact h _)
                | (rw [if_pos (show s_z V a k i = 1 by omega), if_neg (by omega), Int.add_zero] at h; exact h _)
                | (rw [if_neg (show ¬ s_z V a k i = 1 by omega), if_pos (by omega), Int.add_zero] at h; exact h _)
                | (rw [if_neg (show ¬ s_z V a k i = 1 by omega), if_neg (by omega), Int.add_zero, Int.add_zero] at h; exact h _)

set_option maxRecDepth 20000 in
theorem cx_roll {V : ew_Mem} {n : Nat} {M : ew_Mem} (hC : s_C V n M) {a b k x : Int} (ha : ew_in a) (hb : ew_in b) (hk : ew_in k) (hx : ew_in x) : ew_C 104 [(2, 4), (0, a), (0, b), (0, k), (0, x)] n M (s_QF (0, s_a_roll V a b k x) n M) := by
  obtain ⟨hn, hp, hV, v0, v1, v2, v3, v4⟩ := id hC
  obtain ⟨hc6, hVW, hnd, hap, hr0, hr1, hr2, hr3, hr4, hr5⟩ := id hV
  have hc := ew_c_104
  show ew_X 104 0 [(2, 4), (0, a), (0, b), (0, k), (0, x), (5, 0), (5, 0), (5, 0), (5, 0), (5, 0), (5, 0)] [] n M _
  refine xr_go hc rfl rfl ?_
  refine xr_go hc rfl rfl ?_
  refine xr_go hc rfl rfl ?_
  refine xr_s_3 hc rfl rfl (c_isStretch ha hb (by decide)) ?_
  refine xr_if_eq hc rfl (by split <;> omega) (fun c1 => ?_) (fun c1 => ?_)
  · skip
    refine xr_go hc rfl rfl ?_
    refine xr_ret hc rfl rfl ?_
    refine ⟨?_, rfl, s_Fr_rfl⟩
    unfold s_a_roll
    rw [if_neg (by omega)]
  · skip
    refine xr_go hc rfl rfl ?_
    refine xr_s_1 hc rfl rfl (c_isCycle hk) ?_
    refine xr_if_eq hc rfl (by split <;> omega) (fun c2 => ?_) (fun c2 => ?_)
    · skip
      refine xr_go hc rfl rfl ?_
      refine xr_ret hc rfl rfl ?_
      refine ⟨?_, rfl, s_Fr_rfl⟩
      unfold s_a_roll
      rw [if_neg (by omega)]
    · skip
      refine xr_go hc rfl rfl ?_
      refine xr_if_lt hc rfl (by omega) (fun c3 => ?_) (fun c3 => ?_)
      · skip
        refine xr_go hc rfl rfl ?_
        refine xr_ret hc rfl rfl ?_
        refine ⟨?_, rfl, s_Fr_rfl⟩
        unfold s_a_roll
        rw [if_neg (by omega)]
      · skip
        refine xr_go hc rfl rfl ?_
        refine xr_go hc rfl rfl ?_
        refine xr_icmp_le hc rfl (by omega) (by decide) (fun c4 => ?_) (fun c4 => ?_)
        · skip
          refine xr_go hc rfl rfl ?_
          refine xr_s1_5 hc rfl rfl rfl ?_
          refine xr_go hc rfl rfl ?_
          refine xr_s1_6 hc rfl rfl rfl ?_
          refine xr_go hc rfl rfl ?_
          refine xr_s1_7 hc rfl rfl rfl ?_
          refine xr_go hc rfl rfl ?_
          refine xr_s1_8 hc rfl rfl rfl ?_
          refine xr_go hc rfl rfl ?_
          refine xr_s1_9 hc rfl rfl rfl ?_
          have h := cx_roll_1 hC (a := a) (b := b) (x := x) (k := k.toNat) (Ln := (b - a + 1).toNat) (by omega) (by omega) (by omega) (by omega) (by omega) (by omega) (b - a + 1).toNat 0 (5, 0) (by omega)
          rw [s_rm_0, Int.toNat_of_nonneg (by omega)] at h
          unfold s_a_roll
          rw [if_pos (by omega)]
          exact h
        · skip
          refine xr_go hc rfl rfl ?_
          refine xr_ret hc rfl rfl ?_
          refine ⟨?_, rfl, s_Fr_rfl⟩
          unfold s_a_roll
          rw [if_neg (by omega)]

set_option maxRecDepth 20000 in
theorem m_roll_2 {V : ew_Mem} {n : Nat} {M1 : ew_Mem} {a b x : Int} {k i : Nat} {Q : Option ew_AV → Nat → ew_Mem → Prop} {v5 v6 v8 v10 v11 : Int} (hn : 59 ≤ n) (hp2 : ew_Pm M1) (hi : i < 200) (h8 : 0 ≤ v8 ∧ v8 ≤ 1000) (hz : ∀ t : Nat, t ≤ i → M1 47 t = s_z V a k t) (hzb : ∀ t : Nat, 0 ≤ s_z V a k t ∧ s_z V a k t ≤ (t : Int) + 1) : ∀ (j t : Nat) (c : Int), t + j = i + 1 → (0 ≤ c ∧ c ≤ (t : Int)) → (∀ q10 q11 q12 : ew_AV, ew_X 183 49 [(2, 38), (0, a), (0, b), (0, (k : Int)), (0, x), (0, v5), (0, v6), (0, c + s_pc (s_z V a k) j t), (0, max v8 (c + s_pc (s_z V a k) j t)), (0, ((i + 1 : Nat) : Int)), q10, q11, q12] [] n M1 Q) →
    ew_X 183 233 [(2, 38), (0, a), (0, b), (0, (k : Int)), (0, x), (0, v5), (0, v6), (0, c), (0, v8), (0, (i : Int)), (0, v10), (0, v11), (0, (t : Int))] [] n M1 Q := by
  have hc := ew_c_183
  intro j
  induction j with
  | zero =>
    intro t c hj hcb H
    rw [s_pc, Int.add_zero] at H
    refine xr_go hc rfl rfl ?_
    refine xr_go hc rfl rfl ?_
    refine xr_icmp_gt hc rfl (by omega) (by omega) (fun c1 => ?_) (fun c1 => ?_)
    · skip
      refine xr_go hc rfl rfl ?_
      refine xr_go hc rfl rfl ?_
      refine xr_s_2 hc rfl rfl (c_maxI (by omega) (by omega)) ?_
      refine xr_s1_8 hc rfl rfl rfl ?_
      refine xr_inc_9 hc rfl ?_
      refine xr_go hc rfl rfl ?_
      rw [s_n1]
      exact H _ _ _
    · exfalso; omega
  | succ j ih =>
    intro t c hj hcb H
    have hzt := hz t (by omega)
    have hzbt := hzb t
    have H2 : s_pc (s_z V a k) (j + 1) t = (if 0 < s_z V a k t then 1 else 0) + s_pc (s_z V a k) j (t + 1) := rfl
    rw [H2] at H
    refine xr_go hc rfl rfl ?_
    refine xr_go hc rfl rfl ?_
    refine xr_icmp_gt hc rfl (by omega) (by omega) (fun c1 => ?_) (fun c1 => ?_)
    · exfalso; omega
    · skip
      refine xr_go hc rfl rfl ?_
      refine xr_go hc rfl rfl ?_
      refine xr_gf2 (A := 38) rfl hc rfl (ew_own_p hn rfl) (ew_pm (v := 47) hp2 rfl) ?_
      refine xr_go hc rfl rfl ?_
      refine xr_iald (A := 47) (N := 200) rfl rfl hc rfl (ew_ok_p hn rfl) (by omega) (by omega) (show M1 47 (t : Int).toNat = s_z V a k t from hzt) ?_
      refine xr_if_le hc rfl (by omega) (fun c2 => ?_) (fun c2 => ?_)
      · skip
        refine xr_go hc rfl rfl ?_
        refine xr_go hc rfl rfl ?_
        refine xr_s1_7 hc rfl rfl rfl ?_
        refine xr_inc_12 hc rfl ?_
        refine xr_go hc rfl rfl ?_
        rw [s_n1]
        first
          | (rw [if_pos (by omega), ← Int.add_assoc] at H
             exact ih (t + 1) (c + 1) (by omega) (by omega) H)
          | (rw [if_neg (by omega), Int.zero_add] at H
             exact ih (t + 1) c (by omega) (by omega) H)
          | (rw [if_neg (by omega), Int.zero_add] at H
             rw [Int.add_zero]
             exact ih (t + 1) c (by omega) (by omega) H)
      · skip
        refine xr_go hc rfl rfl ?_
        refine xr_go hc rfl rfl ?_
        refine xr_go hc rfl rfl ?_
        refine xr_s1_7 hc rfl rfl rfl ?_
        refine xr_inc_12 hc rfl ?_
        refine xr_go hc rfl rfl ?_
        rw [s_n1]
        first
          | (rw [if_pos (by omega), ← Int.add_assoc] at H
             exact ih (t + 1) (c + 1) (by omega) (by omega) H)
          | (rw [if_neg (by omega), Int.zero_add] at H
             exact ih (t + 1) c (by omega) (by omega) H)
          | (rw [if_neg (by omega), Int.zero_add] at H
             rw [Int.add_zero]
             exact ih (t + 1) c (by omega) (by omega) H)

set_option maxRecDepth 20000 in
set_option maxHeartbeats 1000000 in
theorem m_roll_1 {V : ew_Mem} {n : Nat} {M : ew_Mem} {a b x : Int} {k Ln : Nat} (hM : s_M V n M) (hk : 1 ≤ k ∧ k ≤ 2000) (ha : s_isM a) (hb : s_isM b) (hab : b - a + 1 = (Ln : Int)) (hln : Ln ≤ 200) (hx : 0 ≤ x ∧ x ≤ 4) : ∀ (j i : Nat) (q10 q11 q12 : ew_AV), i + j = Ln →
    ew_X 183 49 [(2, 38), (0, a), (0, b), (0, (k : Int)), (0, x), (0, s_rB V a k i), (0, s_rX V a k i), (0, s_rB V a k i - s_rN V a k i), (0, s_rO V a k i), (0, (i : Int)), q10, q11, q12] [] n (s_rm V M 47 48 a k i i) (fun r n1 M1 => r = some (0, s_ra V a k Ln x) ∧ n1 = n ∧ s_Fr M M1) := by
  obtain ⟨hn, hp, -⟩ := id hM
  have hc := ew_c_183
  intro j
  induction j with
  | zero =>
    intro i q10 q11 q12 hj
    obtain ⟨hfr, hp2⟩ := s_rm47 (V := V) (a := a) (k := k) (i := i) (j := i) hp
    have e1 : s_rB V a k (i + 1) = s_rB V a k i + (if s_z V a k i = 1 then 1 else 0) := rfl
    have e2 : s_rN V a k (i + 1) = s_rN V a k i + (if 0 < s_zk V a k i ∧ s_z V a k i ≤ 1 then 1 else 0) := rfl
    have e3 : s_rX V a k (i + 1) = max (s_rX V a k i) (s_z V a k i) := rfl
    have e4 : s_rO V a k (i + 1) = max (s_rO V a k i) (s_rB V a k (i + 1) - s_rN V a k (i + 1)) := rfl
    have hz := s_z_bd (V := V) (a := a) hk.1 i
    obtain ⟨b1, b2, b3, b4⟩ := s_r_bd (V := V) (a := a) hk.1 i
    refine xr_go hc rfl rfl ?_
    refine xr_go hc rfl rfl ?_
    refine xr_go hc rfl rfl ?_
    refine xr_go hc rfl rfl ?_
    refine xr_icmp_gt hc rfl (by omega) (by omega) (fun c1 => ?_) (fun c1 => ?_)
    · skip
      refine xr_go hc rfl rfl ?_
      refine xr_ts hc rfl (by omega) (fun c2 => ?_) (fun c2a c2b => ?_)
      · skip
        refine xr_go hc rfl rfl ?_
        refine xr_ret hc rfl rfl ?_
        refine ⟨?_, rfl, hfr⟩
        first
          | rw [show i = Ln by omega]
          | skip
        unfold s_ra
        first
          | (rw [if_pos (by omega)]; first | done | (congr 2; omega))
          | (rw [if_neg (by omega), if_pos (by omega)]; first | done | (congr 2; omega))
          | (rw [if_neg (by omega), if_neg (by omega), if_pos (by omega)]; first | done | (congr 2; omega))
          | (rw [if_neg (by omega), if_neg (by omega), if_neg (by omega), if_pos (by omega)]; first | done | (congr 2; omega))
          | (rw [if_neg (by omega), if_neg (by omega), if_neg (by omega), if_neg (by omega)]; first | done | (congr 2; omega))
      · rcases (show (x) = 0 ∨ (x) = 1 ∨ (x) = 2 ∨ (x) = 3 by omega) with ec2 | ec2 | ec2 | ec2
        · refine ⟨29, 312, by rw [ec2]; rfl, rfl, ?_⟩
          refine xr_go hc rfl rfl ?_
          refine xr_ret hc rfl rfl ?_
          refine ⟨?_, rfl, hfr⟩
          first
            | rw [show i = Ln by omega]
            | skip
          unfold s_ra
          first
            | (rw [if_pos (by omega)]; first | done | (congr 2; omega))
            | (rw [if_neg (by omega), if_pos (by omega)]; first | done | (congr 2; omega))
            | (rw [if_neg (by omega), if_neg (by omega), if_pos (by omega)]; first | done | (congr 2; omega))
            | (rw [if_neg (by omega), if_neg (by omega), if_neg (by omega), if_pos (by omega)]; first | done | (congr 2; omega))
            | (rw [if_neg (by omega), if_neg (by omega), if_neg (by omega), if_neg (by omega)]; first | done | (congr 2; omega))
        · refine ⟨32, 315, by rw [ec2]; rfl, rfl, ?_⟩
          refine xr_go hc rfl rfl ?_
          refine xr_go hc rfl rfl ?_
          refine xr_go hc rfl rfl ?_
          refine xr_ret hc rfl rfl ?_
          refine ⟨?_, rfl, hfr⟩
          first
            | rw [show i = Ln by omega]
            | skip
          unfold s_ra
          first
            | (rw [if_pos (by omega)]; first | done | (congr 2; omega))
            | (rw [if_neg (by omega), if_pos (by omega)]; first | done | (congr 2; omega))
            | (rw [if_neg (by omega), if_neg (by omega), if_pos (by omega)]; first | done | (congr 2; omega))
            | (rw [if_neg (by omega), if_neg (by omega), if_neg (by omega), if_pos (by omega)]; first | done | (congr 2; omega))
            | (rw [if_neg (by omega), if_neg (by omega), if_neg (by omega), if_neg (by omega)]; first | done | (congr 2; omega))
        · refine ⟨38, 321, by rw [ec2]; rfl, rfl, ?_⟩
          refine xr_go hc rfl rfl ?_
          refine xr_ret hc rfl rfl ?_
          refine ⟨?_, rfl, hfr⟩
          first
            | rw [show i = Ln by omega]
            | skip
          unfold s_ra
          first
            | (rw [if_pos (by omega)]; first | done | (congr 2; omega))
            | (rw [if_neg (by omega), if_pos (by omega)]; first | done | (congr 2; omega))
            | (rw [if_neg (by omega), if_neg (by omega), if_pos (by omega)]; first | done | (congr 2; omega))
            | (rw [if_neg (by omega), if_neg (by omega), if_neg (by omega), if_pos (by omega)]; first | done | (congr 2; omega))
            | (rw [if_neg (by omega), if_neg (by omega), if_neg (by omega), if_neg (by omega)]; first | done | (congr 2; omega))
        · refine ⟨41, 324, by rw [ec2]; rfl, rfl, ?_⟩
          refine xr_go hc rfl rfl ?_
          refine xr_ret hc rfl rfl ?_
          refine ⟨?_, rfl, hfr⟩
          first
            | rw [show i = Ln by omega]
            | skip
          unfold s_ra
          first
            | (rw [if_pos (by omega)]; first | done | (congr 2; omega))
            | (rw [if_neg (by omega), if_pos (by omega)]; first | done | (congr 2; omega))
            | (rw [if_neg (by omega), if_neg (by omega), if_pos (by omega)]; first | done | (congr 2; omega))
            | (rw [if_neg (by omega), if_neg (by omega), if_neg (by omega), if_pos (by omega)]; first | done | (congr 2; omega))
            | (rw [if_neg (by omega), if_neg (by omega), if_neg (by omega), if_neg (by omega)]; first | done | (congr 2; omega))
    · exfalso; omega
  | succ j ih =>
    intro i q10 q11 q12 hj
    obtain ⟨hfr, hp2⟩ := s_rm47 (V := V) (a := a) (k := k) (i := i) (j := i) hp
    have hM2 := s_M_fr hfr hM
    obtain ⟨hfr3, hp3⟩ := s_rm47 (V := V) (a := a) (k := k) (i := i) (j := i + 1) hp
    obtain ⟨hfr4, hp4⟩ := s_rm47 (V := V) (a := a) (k := k) (i := i + 1) (j := i + 1) hp
    have he := s_ecl_bd V (a + (i : Int))
    have hs := s_side_bd V (a + (i : Int))
    have hs2 := s_sd_bd V a (i - k)
    have hs3 := s_sd_bd V a i
    have hzz := s_z_bd (V := V) (a := a) hk.1 (i - k)
    have hze := s_z_eq (V := V) (a := a) hk.1 i
    have hsd : s_sd V a i = if s_ecl V (a + (i : Int)) = 0 then 0 else s_side V (a + (i : Int)) := rfl
    have h00 : ¬ s_ecl V (a + (i : Int)) = 0 → 0 < V 6 0 := by
      intro hh
      by_cases h0 : 0 < V 6 0
      · exact h0
      · exfalso
        apply hh
        unfold s_ecl
        obtain ⟨-, -, hV, -⟩ := hM
        rw [if_pos (by have := hV.1; omega)]
    have e1 : s_rB V a k (i + 1) = s_rB V a k i + (if s_z V a k i = 1 then 1 else 0) := rfl
    have e2 : s_rN V a k (i + 1) = s_rN V a k i + (if 0 < s_zk V a k i ∧ s_z V a k i ≤ 1 then 1 else 0) := rfl
    have e3 : s_rX V a k (i + 1) = max (s_rX V a k i) (s_z V a k i) := rfl
    have e4 : s_rO V a k (i + 1) = max (s_rO V a k i) (s_rB V a k (i + 1) - s_rN V a k (i + 1)) := rfl
    have hz := s_z_bd (V := V) (a := a) hk.1 i
    obtain ⟨b1, b2, b3, b4⟩ := s_r_bd (V := V) (a := a) hk.1 i
    have hw := s_win (V := V) (a := a) hk.1 (i + 1)
    have hpc := s_pc_C (s_z V a k) (i + 1 - (i + 1 - k)) (i + 1 - k)
    rw [show i + 1 - k + (i + 1 - (i + 1 - k)) = i + 1 by omega, ← hw] at hpc
    have hwt : ((i + 1 - k : Nat) : Int) = max 0 ((i : Int) - (k : Int) + 1) := by omega
    refine xr_go hc rfl rfl ?_
    refine xr_go hc rfl rfl ?_
    refine xr_go hc rfl rfl ?_
    refine xr_go hc rfl rfl ?_
    refine xr_icmp_gt hc rfl (by omega) (by omega) (fun c1 => ?_) (fun c1 => ?_)
    · exfalso; omega
    · skip
      refine xr_go hc rfl rfl ?_
      refine xr_go hc rfl rfl ?_
      refine xr_go hc rfl rfl ?_
      refine xr_go hc rfl rfl ?_
      refine xr_v_2 hc rfl rfl (ew_own_p hn rfl) (m_eclipseAt hM2 (by omega)) ?_
      refine xr_if_le hc rfl (by omega) (fun c2 => ?_) (fun c2 => ?_)
      · skip
        refine xr_go hc rfl rfl ?_
        refine xr_s1_10 hc rfl rfl rfl ?_
        refine xr_go hc rfl rfl ?_
        refine xr_gf2 (A := 38) rfl hc rfl (ew_own_p hn rfl) (show _ = (48 : Int) by first | exact ew_pm (v := 48) hp2 rfl | exact ew_pm (v := 48) hp3 rfl | exact ew_pm (v := 48) hp4 rfl) ?_
        refine xr_go hc rfl rfl ?_
        refine xr_go hc rfl rfl ?_
        refine xr_if_eq hc rfl (by decide) (fun c3 => ?_) (fun c3 => by exfalso; omega)
        refine xr_go hc rfl rfl ?_
        refine xr_iast (A := 48) (N := 200) rfl rfl hc rfl (ew_own_p hn rfl) (by omega) (by omega) ?_
        first
          | rw [Int.toNat_natCast, s_rm_ws (show s_side V (a + (i : Int)) = s_sd V a i by rw [hsd, if_neg (by omega)])]
          | rw [Int.toNat_natCast, s_rm_ws (show (0 : Int) = s_sd V a i by rw [hsd, if_pos (by omega)])]
        refine xr_go hc rfl rfl ?_
        refine xr_if_eq hc rfl (by decide) (fun c4 => ?_) (fun c4 => by exfalso; omega)
        refine xr_go hc rfl rfl ?_
        refine xr_s1_11 hc rfl rfl rfl ?_
        refine xr_go hc rfl rfl ?_
        refine xr_gf2 (A := 38) rfl hc rfl (ew_own_p hn rfl) (show _ = (47 : Int) by first | exact ew_pm (v := 47) hp2 rfl | exact ew_pm (v := 47) hp3 rfl | exact ew_pm (v := 47) hp4 rfl) ?_
        refine xr_go hc rfl rfl ?_
        refine xr_go hc rfl rfl ?_
        refine xr_if_ne hc rfl (by decide) (fun c5 => by exfalso; omega) (fun c5 => ?_)
        refine xr_go hc rfl rfl ?_
        refine xr_go hc rfl rfl ?_
        refine xr_iast (A := 47) (N := 200) rfl rfl hc rfl (ew_own_p hn rfl) (by omega) (by omega) ?_
        first
          | rw [Int.toNat_natCast, s_rm_wz (by decide) (show (0 : Int) = s_z V a k i by rw [hze, if_pos (by omega)])]
          | rw [Int.toNat_natCast, s_rm_wz (by decide) (show s_z V a k (i - k) + 1 = s_z V a k i by rw [hze, if_neg (by omega), if_pos (by omega)])]
          | rw [Int.toNat_natCast, s_rm_wz (by decide) (show (1 : Int) = s_z V a k i by rw [hze, if_neg (by omega), if_neg (by omega)])]
        refine xr_go hc rfl rfl ?_
        refine xr_go hc rfl rfl ?_
        refine xr_if_eq hc rfl (by decide) (fun c6 => ?_) (fun c6 => by exfalso; omega)
        refine xr_go hc rfl rfl ?_
        refine xr_go hc rfl rfl ?_
        refine xr_s1_5 hc rfl rfl rfl ?_
        refine xr_go hc rfl rfl ?_
        refine xr_go hc rfl rfl ?_
        refine xr_gf2 (A := 38) rfl hc rfl (ew_own_p hn rfl) (show _ = (47 : Int) by first | exact ew_pm (v := 47) hp2 rfl | exact ew_pm (v := 47) hp3 rfl | exact ew_pm (v := 47) hp4 rfl) ?_
        refine xr_go hc rfl rfl ?_
        refine xr_iald (A := 47) (N := 200) rfl rfl hc rfl (ew_ok_p hn rfl) (by omega) (by omega) (show s_rm V M 47 48 a k (i + 1) (i + 1) 47 (i : Int).toNat = s_z V a k i from s_rm_z (by decide) (by omega)) ?_
        refine xr_s_2 hc rfl rfl (c_maxI (by omega) (by omega)) ?_
        refine xr_s1_6 hc rfl rfl rfl ?_
        refine xr_go hc rfl rfl ?_
        refine xr_s1_7 hc rfl rfl rfl ?_
        refine xr_go hc rfl rfl ?_
        refine xr_go hc rfl rfl ?_
        refine xr_go hc rfl rfl ?_
        refine xr_go hc rfl rfl ?_
        refine xr_go hc rfl rfl ?_
        refine xr_go hc rfl rfl ?_
        refine xr_s_2 hc rfl rfl (c_maxI (by omega) (by omega)) ?_
        refine xr_s1_12 hc rfl rfl rfl ?_
        rw [← hwt]
        refine m_roll_2 hn hp4 (by omega) (by omega) (fun t ht => s_rm_z (by decide) (by omega)) (s_z_bd hk.1) (i + 1 - (i + 1 - k)) (i + 1 - k) 0 (by omega) (by omega) (fun q10 q11 q12 => ?_)
        have h := ih (i + 1) q10 q11 q12 (by omega)
        rw [Int.zero_add, hpc]
        rw [e4, e3] at h
        first
          | (rw [show s_rB V a k i + 1 = s_rB V a k (i + 1) by rw [e1, if_pos (show s_z V a k i = 1 by rw [hze, if_neg (by omega), if_neg (by omega)])]]
             exact h)
          | (rw [show s_rB V a k i + 0 = s_rB V a k (i + 1) by rw [e1, if_neg (show ¬ s_z V a k i = 1 by rw [hze, if_neg (by omega), if_pos (by omega)]; omega)]]
             exact h)
          | (rw [show s_rB V a k i + 0 = s_rB V a k (i + 1) by rw [e1, if_neg (show ¬ s_z V a k i = 1 by rw [hze, if_pos (by omega)]; decide)]]
             exact h)
      · skip
        refine xr_go hc rfl rfl ?_
        refine xr_go hc rfl rfl ?_
        refine xr_s1_10 hc rfl rfl rfl ?_
        refine xr_go hc rfl rfl ?_
        refine xr_gf2 (A := 38) rfl hc rfl (ew_own_p hn rfl) (show _ = (48 : Int) by first | exact ew_pm (v := 48) hp2 rfl | exact ew_pm (v := 48) hp3 rfl | exact ew_pm (v := 48) hp4 rfl) ?_
        refine xr_go hc rfl rfl ?_
        refine xr_go hc rfl rfl ?_
        refine xr_if_eq hc rfl (by decide) (fun c7 => by exfalso; omega) (fun c7 => ?_)
        refine xr_go hc rfl rfl ?_
        refine xr_go hc rfl rfl ?_
        refine xr_go hc rfl rfl ?_
        refine xr_go hc rfl rfl ?_
        refine xr_v_2 hc rfl rfl (ew_own_p hn rfl) (m_sideOf hM2 (h00 (by omega)) (by omega)) ?_
        refine xr_go hc rfl rfl ?_
        refine xr_iast (A := 48) (N := 200) rfl rfl hc rfl (ew_own_p hn rfl) (by omega) (by omega) ?_
        first
          | rw [Int.toNat_natCast, s_rm_ws (show s_side V (a + (i : Int)) = s_sd V a i by rw [hsd, if_neg (by omega)])]
          | rw [Int.toNat_natCast, s_rm_ws (show (0 : Int) = s_sd V a i by rw [hsd, if_pos (by omega)])]
        refine xr_go hc rfl rfl ?_
        refine xr_if_eq hc rfl (by decide) (fun c8 => by exfalso; omega) (fun c8 => ?_)
        refine xr_go hc rfl rfl ?_
        refine xr_go hc rfl rfl ?_
        refine xr_icmp_lt hc rfl (by omega) (by omega) (fun c9 => ?_) (fun c9 => ?_)
        · skip
          refine xr_go hc rfl rfl ?_
          refine xr_s1_11 hc rfl rfl rfl ?_
          refine xr_go hc rfl rfl ?_
          refine xr_gf2 (A := 38) rfl hc rfl (ew_own_p hn rfl) (show _ = (47 : Int) by first | exact ew_pm (v := 47) hp2 rfl | exact ew_pm (v := 47) hp3 rfl | exact ew_pm (v := 47) hp4 rfl) ?_
          refine xr_go hc rfl rfl ?_
          refine xr_go hc rfl rfl ?_
          refine xr_if_ne hc rfl (by decide) (fun c10 => ?_) (fun c10 => by exfalso; omega)
          refine xr_go hc rfl rfl ?_
          refine xr_if_eq hc rfl (by decide) (fun c11 => ?_) (fun c11 => by exfalso; omega)
          refine xr_go hc rfl rfl ?_
          refine xr_iast (A := 47) (N := 200) rfl rfl hc rfl (ew_own_p hn rfl) (by omega) (by omega) ?_
          first
            | rw [Int.toNat_natCast, s_rm_wz (by decide) (show (0 : Int) = s_z V a k i by rw [hze, if_pos (by omega)])]
            | rw [Int.toNat_natCast, s_rm_wz (by decide) (show s_z V a k (i - k) + 1 = s_z V a k i by rw [hze, if_neg (by omega), if_pos (by omega)])]
            | rw [Int.toNat_natCast, s_rm_wz (by decide) (show (1 : Int) = s_z V a k i by rw [hze, if_neg (by omega), if_neg (by omega)])]
          refine xr_go hc rfl rfl ?_
          refine xr_go hc rfl rfl ?_
          refine xr_if_eq hc rfl (by decide) (fun c12 => by exfalso; omega) (fun c12 => ?_)
          refine xr_go hc rfl rfl ?_
          refine xr_if_ne hc rfl (by decide) (fun c13 => by exfalso; omega) (fun c13 => ?_)
          refine xr_go hc rfl rfl ?_
          refine xr_go hc rfl rfl ?_
          refine xr_go hc rfl rfl ?_
          refine xr_s1_5 hc rfl rfl rfl ?_
          refine xr_go hc rfl rfl ?_
          refine xr_go hc rfl rfl ?_
          refine xr_gf2 (A := 38) rfl hc rfl (ew_own_p hn rfl) (show _ = (47 : Int) by first | exact ew_pm (v := 47) hp2 rfl | exact ew_pm (v := 47) hp3 rfl | exact ew_pm (v := 47) hp4 rfl) ?_
          refine xr_go hc rfl rfl ?_
          refine xr_iald (A := 47) (N := 200) rfl rfl hc rfl (ew_ok_p hn rfl) (by omega) (by omega) (show s_rm V M 47 48 a k (i + 1) (i + 1) 47 (i : Int).toNat = s_z V a k i from s_rm_z (by decide) (by omega)) ?_
          refine xr_s_2 hc rfl rfl (c_maxI (by omega) (by omega)) ?_
          refine xr_s1_6 hc rfl rfl rfl ?_
          refine xr_go hc rfl rfl ?_
          refine xr_s1_7 hc rfl rfl rfl ?_
          refine xr_go hc rfl rfl ?_
          refine xr_go hc rfl rfl ?_
          refine xr_go hc rfl rfl ?_
          refine xr_go hc rfl rfl ?_
          refine xr_go hc rfl rfl ?_
          refine xr_go hc rfl rfl ?_
          refine xr_s_2 hc rfl rfl (c_maxI (by omega) (by omega)) ?_
          refine xr_s1_12 hc rfl rfl rfl ?_
          rw [← hwt]
          refine m_roll_2 hn hp4 (by omega) (by omega) (fun t ht => s_rm_z (by decide) (by omega)) (s_z_bd hk.1) (i + 1 - (i + 1 - k)) (i + 1 - k) 0 (by omega) (by omega) (fun q10 q11 q12 => ?_)
          have h := ih (i + 1) q10 q11 q12 (by omega)
          rw [Int.zero_add, hpc]
          rw [e4, e3] at h
          first
            | (rw [show s_rB V a k i + 1 = s_rB V a k (i + 1) by rw [e1, if_pos (show s_z V a k i = 1 by rw [hze, if_neg (by omega), if_neg (by omega)])]]
               exact h)
            | (rw [show s_rB V a k i + 0 = s_rB V a k (i + 1) by rw [e1, if_neg (show ¬ s_z V a k i = 1 by rw [hze, if_neg (by omega), if_pos (by omega)]; omega)]]
               exact h)
            | (rw [show s_rB V a k i + 0 = s_rB V a k (i + 1) by rw [e1, if_neg (show ¬ s_z V a k i = 1 by rw [hze, if_pos (by omega)]; decide)]]
               exact h)
        · skip
          refine xr_go hc rfl rfl ?_
          refine xr_gf2 (A := 38) rfl hc rfl (ew_own_p hn rfl) (show _ = (47 : Int) by first | exact ew_pm (v := 47) hp2 rfl | exact ew_pm (v := 47) hp3 rfl | exact ew_pm (v := 47) hp4 rfl) ?_
          refine xr_go hc rfl rfl ?_
          refine xr_go hc rfl rfl ?_
          refine xr_go hc rfl rfl ?_
          refine xr_iald (A := 47) (N := 200) rfl rfl hc rfl (ew_ok_p hn rfl) (by omega) (by omega) (show s_rm V M 47 48 a k i (i + 1) 47 ((i : Int) - (k : Int)).toNat = s_z V a k (i - k) by rw [show ((i : Int) - (k : Int)).toNat = i - k by omega]; exact s_rm_z (by decide) (by omega)) ?_
          refine xr_if_le hc rfl (by omega) (fun c14 => ?_) (fun c14 => ?_)
          · skip
            refine xr_go hc rfl rfl ?_
            refine xr_s1_11 hc rfl rfl rfl ?_
            refine xr_go hc rfl rfl ?_
            refine xr_gf2 (A := 38) rfl hc rfl (ew_own_p hn rfl) (show _ = (47 : Int) by first | exact ew_pm (v := 47) hp2 rfl | exact ew_pm (v := 47) hp3 rfl | exact ew_pm (v := 47) hp4 rfl) ?_
            refine xr_go hc rfl rfl ?_
            refine xr_go hc rfl rfl ?_
            refine xr_if_ne hc rfl (by decide) (fun c15 => ?_) (fun c15 => by exfalso; omega)
            refine xr_go hc rfl rfl ?_
            refine xr_if_eq hc rfl (by decide) (fun c16 => ?_) (fun c16 => by exfalso; omega)
            refine xr_go hc rfl rfl ?_
            refine xr_iast (A := 47) (N := 200) rfl rfl hc rfl (ew_own_p hn rfl) (by omega) (by omega) ?_
            first
              | rw [Int.toNat_natCast, s_rm_wz (by decide) (show (0 : Int) = s_z V a k i by rw [hze, if_pos (by omega)])]
              | rw [Int.toNat_natCast, s_rm_wz (by decide) (show s_z V a k (i - k) + 1 = s_z V a k i by rw [hze, if_neg (by omega), if_pos (by omega)])]
              | rw [Int.toNat_natCast, s_rm_wz (by decide) (show (1 : Int) = s_z V a k i by rw [hze, if_neg (by omega), if_neg (by omega)])]
            refine xr_go hc rfl rfl ?_
            refine xr_go hc rfl rfl ?_
            refine xr_if_eq hc rfl (by decide) (fun c17 => by exfalso; omega) (fun c17 => ?_)
            refine xr_go hc rfl rfl ?_
            refine xr_if_ne hc rfl (by decide) (fun c18 => by exfalso; omega) (fun c18 => ?_)
            refine xr_go hc rfl rfl ?_
            refine xr_go hc rfl rfl ?_
            refine xr_go hc rfl rfl ?_
            refine xr_s1_5 hc rfl rfl rfl ?_
            refine xr_go hc rfl rfl ?_
            refine xr_go hc rfl rfl ?_
            refine xr_gf2 (A := 38) rfl hc rfl (ew_own_p hn rfl) (show _ = (47 : Int) by first | exact ew_pm (v := 47) hp2 rfl | exact ew_pm (v := 47) hp3 rfl | exact ew_pm (v := 47) hp4 rfl) ?_
            refine xr_go hc rfl rfl ?_
            refine xr_iald (A := 47) (N := 200) rfl rfl hc rfl (ew_ok_p hn rfl) (by omega) (by omega) (show s_rm V M 47 48 a k (i + 1) (i + 1) 47 (i : Int).toNat = s_z V a k i from s_rm_z (by decide) (by omega)) ?_
            refine xr_s_2 hc rfl rfl (c_maxI (by omega) (by omega)) ?_
            refine xr_s1_6 hc rfl rfl rfl ?_
            refine xr_go hc rfl rfl ?_
            refine xr_s1_7 hc rfl rfl rfl ?_
            refine xr_go hc rfl rfl ?_
            refine xr_go hc rfl rfl ?_
            refine xr_go hc rfl rfl ?_
            refine xr_go hc rfl rfl ?_
            refine xr_go hc rfl rfl ?_
            refine xr_go hc rfl rfl ?_
            refine xr_s_2 hc rfl rfl (c_maxI (by omega) (by omega)) ?_
            refine xr_s1_12 hc rfl rfl rfl ?_
            rw [← hwt]
            refine m_roll_2 hn hp4 (by omega) (by omega) (fun t ht => s_rm_z (by decide) (by omega)) (s_z_bd hk.1) (i + 1 - (i + 1 - k)) (i + 1 - k) 0 (by omega) (by omega) (fun q10 q11 q12 => ?_)
            have h := ih (i + 1) q10 q11 q12 (by omega)
            rw [Int.zero_add, hpc]
            rw [e4, e3] at h
            first
              | (rw [show s_rB V a k i + 1 = s_rB V a k (i + 1) by rw [e1, if_pos (show s_z V a k i = 1 by rw [hze, if_neg (by omega), if_neg (by omega)])]]
                 exact h)
              | (rw [show s_rB V a k i + 0 = s_rB V a k (i + 1) by rw [e1, if_neg (show ¬ s_z V a k i = 1 by rw [hze, if_neg (by omega), if_pos (by omega)]; omega)]]
                 exact h)
              | (rw [show s_rB V a k i + 0 = s_rB V a k (i + 1) by rw [e1, if_neg (show ¬ s_z V a k i = 1 by rw [hze, if_pos (by omega)]; decide)]]
                 exact h)
          · skip
            refine xr_go hc rfl rfl ?_
            refine xr_gf2 (A := 38) rfl hc rfl (ew_own_p hn rfl) (show _ = (48 : Int) by first | exact ew_pm (v := 48) hp2 rfl | exact ew_pm (v := 48) hp3 rfl | exact ew_pm (v := 48) hp4 rfl) ?_
            refine xr_go hc rfl rfl ?_
            refine xr_go hc rfl rfl ?_
            refine xr_go hc rfl rfl ?_
            refine xr_iald (A := 48) (N := 200) rfl rfl hc rfl (ew_ok_p hn rfl) (by omega) (by omega) (show s_rm V M 47 48 a k i (i + 1) 48 ((i : Int) - (k : Int)).toNat = s_sd V a (i - k) by rw [show ((i : Int) - (k : Int)).toNat = i - k by omega]; exact s_rm_s (by omega)) ?_
            refine xr_go hc rfl rfl ?_
            refine xr_gf2 (A := 38) rfl hc rfl (ew_own_p hn rfl) (show _ = (48 : Int) by first | exact ew_pm (v := 48) hp2 rfl | exact ew_pm (v := 48) hp3 rfl | exact ew_pm (v := 48) hp4 rfl) ?_
            refine xr_go hc rfl rfl ?_
            refine xr_iald (A := 48) (N := 200) rfl rfl hc rfl (ew_ok_p hn rfl) (by omega) (by omega) (show s_rm V M 47 48 a k i (i + 1) 48 (i : Int).toNat = s_sd V a i from s_rm_s (by omega)) ?_
            refine xr_icmp_ne hc rfl (by omega) (by omega) (fun c19 => ?_) (fun c19 => ?_)
            · skip
              refine xr_go hc rfl rfl ?_
              refine xr_s1_11 hc rfl rfl rfl ?_
              refine xr_go hc rfl rfl ?_
              refine xr_gf2 (A := 38) rfl hc rfl (ew_own_p hn rfl) (show _ = (47 : Int) by first | exact ew_pm (v := 47) hp2 rfl | exact ew_pm (v := 47) hp3 rfl | exact ew_pm (v := 47) hp4 rfl) ?_
              refine xr_go hc rfl rfl ?_
              refine xr_go hc rfl rfl ?_
              refine xr_if_ne hc rfl (by decide) (fun c20 => ?_) (fun c20 => by exfalso; omega)
              refine xr_go hc rfl rfl ?_
              refine xr_if_eq hc rfl (by decide) (fun c21 => ?_) (fun c21 => by exfalso; omega)
              refine xr_go hc rfl rfl ?_
              refine xr_iast (A := 47) (N := 200) rfl rfl hc rfl (ew_own_p hn rfl) (by omega) (by omega) ?_
              first
                | rw [Int.toNat_natCast, s_rm_wz (by decide) (show (0 : Int) = s_z V a k i by rw [hze, if_pos (by omega)])]
                | rw [Int.toNat_natCast, s_rm_wz (by decide) (show s_z V a k (i - k) + 1 = s_z V a k i by rw [hze, if_neg (by omega), if_pos (by omega)])]
                | rw [Int.toNat_natCast, s_rm_wz (by decide) (show (1 : Int) = s_z V a k i by rw [hze, if_neg (by omega), if_neg (by omega)])]
              refine xr_go hc rfl rfl ?_
              refine xr_go hc rfl rfl ?_
              refine xr_if_eq hc rfl (by decide) (fun c22 => by exfalso; omega) (fun c22 => ?_)
              refine xr_go hc rfl rfl ?_
              refine xr_if_ne hc rfl (by decide) (fun c23 => by exfalso; omega) (fun c23 => ?_)
              refine xr_go hc rfl rfl ?_
              refine xr_go hc rfl rfl ?_
              refine xr_go hc rfl rfl ?_
              refine xr_s1_5 hc rfl rfl rfl ?_
              refine xr_go hc rfl rfl ?_
              refine xr_go hc rfl rfl ?_
              refine xr_gf2 (A := 38) rfl hc rfl (ew_own_p hn rfl) (show _ = (47 : Int) by first | exact ew_pm (v := 47) hp2 rfl | exact ew_pm (v := 47) hp3 rfl | exact ew_pm (v := 47) hp4 rfl) ?_
              refine xr_go hc rfl rfl ?_
              refine xr_iald (A := 47) (N := 200) rfl rfl hc rfl (ew_ok_p hn rfl) (by omega) (by omega) (show s_rm V M 47 48 a k (i + 1) (i + 1) 47 (i : Int).toNat = s_z V a k i from s_rm_z (by decide) (by omega)) ?_
              refine xr_s_2 hc rfl rfl (c_maxI (by omega) (by omega)) ?_
              refine xr_s1_6 hc rfl rfl rfl ?_
              refine xr_go hc rfl rfl ?_
              refine xr_s1_7 hc rfl rfl rfl ?_
              refine xr_go hc rfl rfl ?_
              refine xr_go hc rfl rfl ?_
              refine xr_go hc rfl rfl ?_
              refine xr_go hc rfl rfl ?_
              refine xr_go hc rfl rfl ?_
              refine xr_go hc rfl rfl ?_
              refine xr_s_2 hc rfl rfl (c_maxI (by omega) (by omega)) ?_
              refine xr_s1_12 hc rfl rfl rfl ?_
              rw [← hwt]
              refine m_roll_2 hn hp4 (by omega) (by omega) (fun t ht => s_rm_z (by decide) (by omega)) (s_z_bd hk.1) (i + 1 - (i + 1 - k)) (i + 1 - k) 0 (by omega) (by omega) (fun q10 q11 q12 => ?_)
              have h := ih (i + 1) q10 q11 q12 (by omega)
              rw [Int.zero_add, hpc]
              rw [e4, e3] at h
              first
                | (rw [show s_rB V a k i + 1 = s_rB V a k (i + 1) by rw [e1, if_pos (show s_z V a k i = 1 by rw [hze, if_neg (by omega), if_neg (by omega)])]]
                   exact h)
                | (rw [show s_rB V a k i + 0 = s_rB V a k (i + 1) by rw [e1, if_neg (show ¬ s_z V a k i = 1 by rw [hze, if_neg (by omega), if_pos (by omega)]; omega)]]
                   exact h)
                | (rw [show s_rB V a k i + 0 = s_rB V a k (i + 1) by rw [e1, if_neg (show ¬ s_z V a k i = 1 by rw [hze, if_pos (by omega)]; decide)]]
                   exact h)
            · skip
              refine xr_go hc rfl rfl ?_
              refine xr_go hc rfl rfl ?_
              refine xr_s1_11 hc rfl rfl rfl ?_
              refine xr_go hc rfl rfl ?_
              refine xr_gf2 (A := 38) rfl hc rfl (ew_own_p hn rfl) (show _ = (47 : Int) by first | exact ew_pm (v := 47) hp2 rfl | exact ew_pm (v := 47) hp3 rfl | exact ew_pm (v := 47) hp4 rfl) ?_
              refine xr_go hc rfl rfl ?_
              refine xr_go hc rfl rfl ?_
              refine xr_if_ne hc rfl (by decide) (fun c24 => ?_) (fun c24 => by exfalso; omega)
              refine xr_go hc rfl rfl ?_
              refine xr_if_eq hc rfl (by decide) (fun c25 => by exfalso; omega) (fun c25 => ?_)
              refine xr_go hc rfl rfl ?_
              refine xr_gf2 (A := 38) rfl hc rfl (ew_own_p hn rfl) (show _ = (47 : Int) by first | exact ew_pm (v := 47) hp2 rfl | exact ew_pm (v := 47) hp3 rfl | exact ew_pm (v := 47) hp4 rfl) ?_
              refine xr_go hc rfl rfl ?_
              refine xr_go hc rfl rfl ?_
              refine xr_go hc rfl rfl ?_
              refine xr_iald (A := 47) (N := 200) rfl rfl hc rfl (ew_ok_p hn rfl) (by omega) (by omega) (show s_rm V M 47 48 a k i (i + 1) 47 ((i : Int) - (k : Int)).toNat = s_z V a k (i - k) by rw [show ((i : Int) - (k : Int)).toNat = i - k by omega]; exact s_rm_z (by decide) (by omega)) ?_
              refine xr_go hc rfl rfl ?_
              refine xr_go hc rfl rfl ?_
              refine xr_go hc rfl rfl ?_
              refine xr_iast (A := 47) (N := 200) rfl rfl hc rfl (ew_own_p hn rfl) (by omega) (by omega) ?_
              first
                | rw [Int.toNat_natCast, s_rm_wz (by decide) (show (0 : Int) = s_z V a k i by rw [hze, if_pos (by omega)])]
                | rw [Int.toNat_natCast, s_rm_wz (by decide) (show s_z V a k (i - k) + 1 = s_z V a k i by rw [hze, if_neg (by omega), if_pos (by omega)])]
                | rw [Int.toNat_natCast, s_rm_wz (by decide) (show (1 : Int) = s_z V a k i by rw [hze, if_neg (by omega), if_neg (by omega)])]
              refine xr_go hc rfl rfl ?_
              refine xr_go hc rfl rfl ?_
              refine xr_if_eq hc rfl (by decide) (fun c26 => by exfalso; omega) (fun c26 => ?_)
              refine xr_go hc rfl rfl ?_
              refine xr_if_ne hc rfl (by decide) (fun c27 => ?_) (fun c27 => by exfalso; omega)
              refine xr_go hc rfl rfl ?_
              refine xr_go hc rfl rfl ?_
              refine xr_s1_5 hc rfl rfl rfl ?_
              refine xr_go hc rfl rfl ?_
              refine xr_go hc rfl rfl ?_
              refine xr_gf2 (A := 38) rfl hc rfl (ew_own_p hn rfl) (show _ = (47 : Int) by first | exact ew_pm (v := 47) hp2 rfl | exact ew_pm (v := 47) hp3 rfl | exact ew_pm (v := 47) hp4 rfl) ?_
              refine xr_go hc rfl rfl ?_
              refine xr_iald (A := 47) (N := 200) rfl rfl hc rfl (ew_ok_p hn rfl) (by omega) (by omega) (show s_rm V M 47 48 a k (i + 1) (i + 1) 47 (i : Int).toNat = s_z V a k i from s_rm_z (by decide) (by omega)) ?_
              refine xr_s_2 hc rfl rfl (c_maxI (by omega) (by omega)) ?_
              refine xr_s1_6 hc rfl rfl rfl ?_
              refine xr_go hc rfl rfl ?_
              refine xr_s1_7 hc rfl rfl rfl ?_
              refine xr_go hc rfl rfl ?_
              refine xr_go hc rfl rfl ?_
              refine xr_go hc rfl rfl ?_
              refine xr_go hc rfl rfl ?_
              refine xr_go hc rfl rfl ?_
              refine xr_go hc rfl rfl ?_
              refine xr_s_2 hc rfl rfl (c_maxI (by omega) (by omega)) ?_
              refine xr_s1_12 hc rfl rfl rfl ?_
              rw [← hwt]
              refine m_roll_2 hn hp4 (by omega) (by omega) (fun t ht => s_rm_z (by decide) (by omega)) (s_z_bd hk.1) (i + 1 - (i + 1 - k)) (i + 1 - k) 0 (by omega) (by omega) (fun q10 q11 q12 => ?_)
              have h := ih (i + 1) q10 q11 q12 (by omega)
              rw [Int.zero_add, hpc]
              rw [e4, e3] at h
              first
                | (rw [show s_rB V a k i + 1 = s_rB V a k (i + 1) by rw [e1, if_pos (show s_z V a k i = 1 by rw [hze, if_neg (by omega), if_neg (by omega)])]]
                   exact h)
                | (rw [show s_rB V a k i + 0 = s_rB V a k (i + 1) by rw [e1, if_neg (show ¬ s_z V a k i = 1 by rw [hze, if_neg (by omega), if_pos (by omega)]; omega)]]
                   exact h)
                | (rw [show s_rB V a k i + 0 = s_rB V a k (i + 1) by rw [e1, if_neg (show ¬ s_z V a k i = 1 by rw [hze, if_pos (by omega)]; decide)]]
                   exact h)

set_option maxRecDepth 20000 in
theorem mx_roll {V : ew_Mem} {n : Nat} {M : ew_Mem} (hM : s_M V n M) {a b k x : Int} (ha : ew_in a) (hb : ew_in b) (hk : ew_in k) (hx : ew_in x) : ew_C 183 [(2, 38), (0, a), (0, b), (0, k), (0, x)] n M (s_QF (0, s_a_roll V a b k x) n M) := by
  obtain ⟨hn, hp, hV, u0, u1, u2, u3, u4⟩ := id hM
  obtain ⟨hc6, hVW, hnd, hap, hr0, hr1, hr2, hr3, hr4, hr5⟩ := id hV
  have hc := ew_c_183
  show ew_X 183 0 [(2, 38), (0, a), (0, b), (0, k), (0, x), (5, 0), (5, 0), (5, 0), (5, 0), (5, 0), (5, 0), (5, 0), (5, 0)] [] n M _
  refine xr_go hc rfl rfl ?_
  refine xr_go hc rfl rfl ?_
  refine xr_go hc rfl rfl ?_
  refine xr_s_3 hc rfl rfl (m_isSpan ha hb (by decide)) ?_
  refine xr_if_eq hc rfl (by split <;> omega) (fun c1 => ?_) (fun c1 => ?_)
  · skip
    refine xr_go hc rfl rfl ?_
    refine xr_ret hc rfl rfl ?_
    refine ⟨?_, rfl, s_Fr_rfl⟩
    unfold s_a_roll
    rw [if_neg (by omega)]
  · skip
    refine xr_go hc rfl rfl ?_
    refine xr_s_1 hc rfl rfl (m_isCycle hk) ?_
    refine xr_if_eq hc rfl (by split <;> omega) (fun c2 => ?_) (fun c2 => ?_)
    · skip
      refine xr_go hc rfl rfl ?_
      refine xr_ret hc rfl rfl ?_
      refine ⟨?_, rfl, s_Fr_rfl⟩
      unfold s_a_roll
      rw [if_neg (by omega)]
    · skip
      refine xr_go hc rfl rfl ?_
      refine xr_i2l hc rfl (by omega) ?_
      refine xr_go hc rfl rfl ?_
      refine xr_go hc rfl rfl ?_
      refine xr_s_3 hc rfl rfl (c_in (by omega) (by decide) (by decide)) ?_
      refine xr_if_ne hc rfl (by split <;> omega) (fun c3 => ?_) (fun c3 => ?_)
      · skip
        refine xr_go hc rfl rfl ?_
        refine xr_s1_5 hc rfl rfl rfl ?_
        refine xr_go hc rfl rfl ?_
        refine xr_s1_6 hc rfl rfl rfl ?_
        refine xr_go hc rfl rfl ?_
        refine xr_s1_7 hc rfl rfl rfl ?_
        refine xr_go hc rfl rfl ?_
        refine xr_s1_8 hc rfl rfl rfl ?_
        refine xr_go hc rfl rfl ?_
        refine xr_s1_9 hc rfl rfl rfl ?_
        have h := m_roll_1 hM (a := a) (b := b) (x := x) (k := k.toNat) (Ln := (b - a + 1).toNat) (by omega) (by omega) (by omega) (by omega) (by omega) (by omega) (b - a + 1).toNat 0 (5, 0) (5, 0) (5, 0) (by omega)
        rw [s_rm_0, Int.toNat_of_nonneg (by omega)] at h
        unfold s_a_roll
        rw [if_pos (by omega)]
        exact h
      · skip
        refine xr_go hc rfl rfl ?_
        refine xr_ret hc rfl rfl ?_
        refine ⟨?_, rfl, s_Fr_rfl⟩
        unfold s_a_roll
        rw [if_neg (by omega)]

