/-! paper: both sides -/
set_option maxRecDepth 20000 in
theorem c_letterOf {n : Nat} {M : ew_Mem} {e : Int} (he : ew_in e) : ew_FM 126 [(0, e)] n M (0, s_lt e) n M := by
  have hc := ew_c_126
  show ew_X 126 0 [(0, e)] [] n M _
  refine xr_go hc rfl rfl ?_
  refine xr_go hc rfl rfl ?_
  refine xr_icmp_ne hc rfl (by omega) (by decide) (fun c1 => ?_) (fun c1 => ?_)
  · skip
    refine xr_go hc rfl rfl ?_
    refine xr_go hc rfl rfl ?_
    refine xr_icmp_ne hc rfl (by omega) (by decide) (fun c2 => ?_) (fun c2 => ?_)
    · skip
      refine xr_go hc rfl rfl ?_
      refine xr_ret hc rfl rfl ?_
      refine ⟨?_, rfl, rfl⟩
      unfold s_lt
      first
        | rw [if_pos (by omega)]
        | rw [if_neg (by omega), if_pos (by omega)]
        | rw [if_neg (by omega), if_neg (by omega)]
    · skip
      refine xr_go hc rfl rfl ?_
      refine xr_go hc rfl rfl ?_
      refine xr_ret hc rfl rfl ?_
      refine ⟨?_, rfl, rfl⟩
      unfold s_lt
      first
        | rw [if_pos (by omega)]
        | rw [if_neg (by omega), if_pos (by omega)]
        | rw [if_neg (by omega), if_neg (by omega)]
  · skip
    refine xr_go hc rfl rfl ?_
    refine xr_ret hc rfl rfl ?_
    refine ⟨?_, rfl, rfl⟩
    unfold s_lt
    first
      | rw [if_pos (by omega)]
      | rw [if_neg (by omega), if_pos (by omega)]
      | rw [if_neg (by omega), if_neg (by omega)]

set_option maxRecDepth 20000 in
theorem c_paper_1 {V : ew_Mem} {n : Nat} {M : ew_Mem} (hC : s_C V n M) {E : List Int} (hE : ∀ i : Nat, i < E.length → M 32 i = E.getD i 0) (hEb : ∀ m ∈ E, s_isM m ∧ ¬ s_ecl V m = 0) (hEl : E.length ≤ 12) : ∀ (j i : Nat) (P : List Int), i + j = E.length → P.length ≤ 10 * i →
    ew_X 125 10 [(2, 4), (0, (E.length : Int)), (0, (i : Int))] [] n (s_sh M 35 34 1 P) (fun r a b => r = none ∧ a = n ∧ b = s_sh M 35 34 1 (P ++ s_pq V (E.drop i) (i : Int))) := by
  obtain ⟨hn, hp, hV, -⟩ := id hC
  have hc := ew_c_125
  intro j
  induction j with
  | zero =>
    intro i P hj hl
    have hd : E.drop i = [] := List.drop_eq_nil_iff.mpr (by omega)
    refine xr_go hc rfl rfl ?_
    refine xr_go hc rfl rfl ?_
    refine xr_icmp_ge hc rfl (by omega) (by omega) (fun c1 => ?_) (fun c1 => ?_)
    · skip
      refine xr_ret hc rfl rfl ?_
      exact ⟨rfl, rfl, by rw [hd, s_pq, List.append_nil]⟩
    · exfalso; omega
  | succ j ih =>
    intro i P hj hl
    have hil : i < E.length := by omega
    have hEi : M 32 (i : Int).toNat = E[i] := by
      rw [Int.toNat_natCast, hE i hil, List.getD_eq_getElem?_getD, List.getElem?_eq_getElem hil]
      rfl
    have hd : E.drop i = E[i] :: E.drop (i + 1) := List.drop_eq_getElem_cons hil
    obtain ⟨hm, hne⟩ := hEb E[i] (List.getElem_mem hil)
    generalize hme : E[i] = m at *
    have h0 := s_ecl_h0 hV hne
    have he := s_ecl_bd V m
    have hs := s_side_bd V m
    have hnl := s_nb_len m
    refine xr_go hc rfl rfl ?_
    refine xr_go hc rfl rfl ?_
    refine xr_icmp_ge hc rfl (by omega) (by omega) (fun c1 => ?_) (fun c1 => ?_)
    · exfalso; omega
    · skip
      refine xr_go hc rfl rfl ?_
      refine xr_go hc rfl rfl ?_
      refine xr_gf2 (A := 4) rfl hc rfl (ew_own_p hn rfl) (ew_pm (v := 32) (s_Fr_pm (s_sh_fr (s_scr_c rfl) rfl) hp) rfl) ?_
      refine xr_alen (A := 32) (N := 61) (t := 20) rfl rfl hc rfl (ew_ok_p hn rfl) (by decide) ?_
      refine xr_icmp_ge hc rfl (by omega) (by decide) (fun c2 => ?_) (fun c2 => ?_)
      · exfalso; omega
      · skip
        refine xr_go hc rfl rfl ?_
        refine xr_if_le hc rfl (by omega) (fun c3 => ?_) (fun c3 => ?_)
        · skip
          refine xr_go hc rfl rfl ?_
          refine xr_gf2 (A := 4) rfl hc rfl (ew_own_p hn rfl) (ew_pm (v := 34) (s_Fr_pm (s_sh_fr (s_scr_c rfl) rfl) hp) rfl) ?_
          refine xr_go hc rfl rfl ?_
          refine xr_gf2 (A := 4) rfl hc rfl (ew_own_p hn rfl) (ew_pm (v := 32) (s_Fr_pm (s_sh_fr (s_scr_c rfl) rfl) hp) rfl) ?_
          refine xr_go hc rfl rfl ?_
          refine xr_iald (A := 32) (N := 61) rfl rfl hc rfl (ew_ok_p hn rfl) (by omega) (by omega) ((s_sh_ne (by decide) (by decide)).trans hEi) ?_
          refine xr_vv_2 (v := (0, 0)) hc rfl rfl (ew_own_p hn rfl) (c_addNumber hn hp (by omega) (by first | omega | (simp only [List.length_append, List.length_cons, List.length_nil]; omega))) ?_
          refine xr_go hc rfl rfl ?_
          refine xr_gf2 (A := 4) rfl hc rfl (ew_own_p hn rfl) (ew_pm (v := 34) (s_Fr_pm (s_sh_fr (s_scr_c rfl) rfl) hp) rfl) ?_
          refine xr_go hc rfl rfl ?_
          refine xr_gf2 (A := 4) rfl hc rfl (ew_own_p hn rfl) (ew_pm (v := 5) (s_Fr_pm (s_sh_fr (s_scr_c rfl) rfl) hp) rfl) ?_
          refine xr_go hc rfl rfl ?_
          refine xr_gf2 (A := 4) rfl hc rfl (ew_own_p hn rfl) (ew_pm (v := 32) (s_Fr_pm (s_sh_fr (s_scr_c rfl) rfl) hp) rfl) ?_
          refine xr_go hc rfl rfl ?_
          refine xr_iald (A := 32) (N := 61) rfl rfl hc rfl (ew_ok_p hn rfl) (by omega) (by omega) ((s_sh_ne (by decide) (by decide)).trans hEi) ?_
          refine xr_v_2 hc rfl rfl (ew_own_p hn rfl) (c_eclipseAt (s_C_fr (s_sh_fr (s_scr_c rfl) rfl) hC) (by omega)) ?_
          refine xr_s_1 hc rfl rfl (c_letterOf (by omega)) ?_
          refine xr_vv_2 (v := (0, 0)) hc rfl rfl (ew_own_p hn rfl) (c_add hn hp (by first | omega | (simp only [List.length_append, List.length_cons, List.length_nil]; omega))) ?_
          refine xr_go hc rfl rfl ?_
          refine xr_gf2 (A := 4) rfl hc rfl (ew_own_p hn rfl) (ew_pm (v := 34) (s_Fr_pm (s_sh_fr (s_scr_c rfl) rfl) hp) rfl) ?_
          refine xr_go hc rfl rfl ?_
          refine xr_go hc rfl rfl ?_
          refine xr_gf2 (A := 4) rfl hc rfl (ew_own_p hn rfl) (ew_pm (v := 5) (s_Fr_pm (s_sh_fr (s_scr_c rfl) rfl) hp) rfl) ?_
          refine xr_go hc rfl rfl ?_
          refine xr_gf2 (A := 4) rfl hc rfl (ew_own_p hn rfl) (ew_pm (v := 32) (s_Fr_pm (s_sh_fr (s_scr_c rfl) rfl) hp) rfl) ?_
          refine xr_go hc rfl rfl ?_
          refine xr_iald (A := 32) (N := 61) rfl rfl hc rfl (ew_ok_p hn rfl) (by omega) (by omega) ((s_sh_ne (by decide) (by decide)).trans hEi) ?_
          refine xr_v_2 hc rfl rfl (ew_own_p hn rfl) (c_sideAt (s_C_fr (s_sh_fr (s_scr_c rfl) rfl) hC) h0 (by omega)) ?_
          refine xr_go hc rfl rfl ?_
          refine xr_vv_2 (v := (0, 0)) hc rfl rfl (ew_own_p hn rfl) (c_add hn hp (by first | omega | (simp only [List.length_append, List.length_cons, List.length_nil]; omega))) ?_
          refine xr_inc_2 hc rfl ?_
          refine xr_go hc rfl rfl ?_
          rw [s_n1]
          have h := ih (i + 1) (P ++ ((if 0 < (i : Int) then [59] else []) ++ (s_nb m ++ ([s_lt (s_ecl V m)] ++ [48 + s_side V m])))) (by omega) (by split <;> simp only [List.length_append, List.length_cons, List.length_nil] <;> omega)
          rw [hd, s_pq]
          first
            | (rw [if_pos (by omega)] at h ⊢
               simp only [List.append_assoc, List.nil_append] at h ⊢
               exact h)
            | (rw [if_neg (by omega)] at h ⊢
               simp only [List.append_assoc, List.nil_append] at h ⊢
               exact h)
        · skip
          refine xr_go hc rfl rfl ?_
          refine xr_gf2 (A := 4) rfl hc rfl (ew_own_p hn rfl) (ew_pm (v := 34) (s_Fr_pm (s_sh_fr (s_scr_c rfl) rfl) hp) rfl) ?_
          refine xr_go hc rfl rfl ?_
          refine xr_vv_2 (v := (0, 0)) hc rfl rfl (ew_own_p hn rfl) (c_add hn hp (by first | omega | (simp only [List.length_append, List.length_cons, List.length_nil]; omega))) ?_
          refine xr_go hc rfl rfl ?_
          refine xr_gf2 (A := 4) rfl hc rfl (ew_own_p hn rfl) (ew_pm (v := 34) (s_Fr_pm (s_sh_fr (s_scr_c rfl) rfl) hp) rfl) ?_
          refine xr_go hc rfl rfl ?_
          refine xr_gf2 (A := 4) rfl hc rfl (ew_own_p hn rfl) (ew_pm (v := 32) (s_Fr_pm (s_sh_fr (s_scr_c rfl) rfl) hp) rfl) ?_
          refine xr_go hc rfl rfl ?_
          refine xr_iald (A := 32) (N := 61) rfl rfl hc rfl (ew_ok_p hn rfl) (by omega) (by omega) ((s_sh_ne (by decide) (by decide)).trans hEi) ?_
          refine xr_vv_2 (v := (0, 0)) hc rfl rfl (ew_own_p hn rfl) (c_addNumber hn hp (by omega) (by first | omega | (simp only [List.length_append, List.length_cons, List.length_nil]; omega))) ?_
          refine xr_go hc rfl rfl ?_
          refine xr_gf2 (A := 4) rfl hc rfl (ew_own_p hn rfl) (ew_pm (v := 34) (s_Fr_pm (s_sh_fr (s_scr_c rfl) rfl) hp) rfl) ?_
          refine xr_go hc rfl rfl ?_
          refine xr_gf2 (A := 4) rfl hc rfl (ew_own_p hn rfl) (ew_pm (v := 5) (s_Fr_pm (s_sh_fr (s_scr_c rfl) rfl) hp) rfl) ?_
          refine xr_go hc rfl rfl ?_
          refine xr_gf2 (A := 4) rfl hc rfl (ew_own_p hn rfl) (ew_pm (v := 32) (s_Fr_pm (s_sh_fr (s_scr_c rfl) rfl) hp) rfl) ?_
          refine xr_go hc rfl rfl ?_
          refine xr_iald (A := 32) (N := 61) rfl rfl hc rfl (ew_ok_p hn rfl) (by omega) (by omega) ((s_sh_ne (by decide) (by decide)).trans hEi) ?_
          refine xr_v_2 hc rfl rfl (ew_own_p hn rfl) (c_eclipseAt (s_C_fr (s_sh_fr (s_scr_c rfl) rfl) hC) (by omega)) ?_
          refine xr_s_1 hc rfl rfl (c_letterOf (by omega)) ?_
          refine xr_vv_2 (v := (0, 0)) hc rfl rfl (ew_own_p hn rfl) (c_add hn hp (by first | omega | (simp only [List.length_append, List.length_cons, List.length_nil]; omega))) ?_
          refine xr_go hc rfl rfl ?_
          refine xr_gf2 (A := 4) rfl hc rfl (ew_own_p hn rfl) (ew_pm (v := 34) (s_Fr_pm (s_sh_fr (s_scr_c rfl) rfl) hp) rfl) ?_
          refine xr_go hc rfl rfl ?_
          refine xr_go hc rfl rfl ?_
          refine xr_gf2 (A := 4) rfl hc rfl (ew_own_p hn rfl) (ew_pm (v := 5) (s_Fr_pm (s_sh_fr (s_scr_c rfl) rfl) hp) rfl) ?_
          refine xr_go hc rfl rfl ?_
          refine xr_gf2 (A := 4) rfl hc rfl (ew_own_p hn rfl) (ew_pm (v := 32) (s_Fr_pm (s_sh_fr (s_scr_c rfl) rfl) hp) rfl) ?_
          refine xr_go hc rfl rfl ?_
          refine xr_iald (A := 32) (N := 61) rfl rfl hc rfl (ew_ok_p hn rfl) (by omega) (by omega) ((s_sh_ne (by decide) (by decide)).trans hEi) ?_
          refine xr_v_2 hc rfl rfl (ew_own_p hn rfl) (c_sideAt (s_C_fr (s_sh_fr (s_scr_c rfl) rfl) hC) h0 (by omega)) ?_
          refine xr_go hc rfl rfl ?_
          refine xr_vv_2 (v := (0, 0)) hc rfl rfl (ew_own_p hn rfl) (c_add hn hp (by first | omega | (simp only [List.length_append, List.length_cons, List.length_nil]; omega))) ?_
          refine xr_inc_2 hc rfl ?_
          refine xr_go hc rfl rfl ?_
          rw [s_n1]
          have h := ih (i + 1) (P ++ ((if 0 < (i : Int) then [59] else []) ++ (s_nb m ++ ([s_lt (s_ecl V m)] ++ [48 + s_side V m])))) (by omega) (by split <;> simp only [List.length_append, List.length_cons, List.length_nil] <;> omega)
          rw [hd, s_pq]
          first
            | (rw [if_pos (by omega)] at h ⊢
               simp only [List.append_assoc, List.nil_append] at h ⊢
               exact h)
            | (rw [if_neg (by omega)] at h ⊢
               simp only [List.append_assoc, List.nil_append] at h ⊢
               exact h)

set_option maxRecDepth 20000 in
theorem c_writePaper {V : ew_Mem} {n : Nat} {M : ew_Mem} (hC : s_C V n M) {E : List Int} (hE : ∀ i : Nat, i < E.length → M 32 i = E.getD i 0) (hEb : ∀ m ∈ E, s_isM m ∧ ¬ s_ecl V m = 0) (hEl : E.length ≤ 12) : ew_VM 125 [(2, 4), (0, (E.length : Int))] n M n (s_sh M 35 34 1 (s_pq V E 0)) := by
  obtain ⟨hn, hp, hV, -⟩ := id hC
  have hc := ew_c_125
  show ew_X 125 0 [(2, 4), (0, (E.length : Int)), (5, 0)] [] n _ _
  refine xr_go hc rfl rfl ?_
  refine xr_gf2 (A := 4) (w := 34) rfl hc rfl (ew_own_p hn rfl) (ew_pm hp rfl) ?_
  refine xr_go hc rfl rfl ?_
  refine xr_pf (A := 34) rfl hc rfl (ew_own_p hn rfl) ?_
  refine xr_go hc rfl rfl ?_
  refine xr_s1_2 hc rfl rfl rfl ?_
  rw [s_sh_nil]
  have h := c_paper_1 hC hE hEb hEl E.length 0 [] (by omega) (by decide)
  rw [List.nil_append, List.drop_zero] at h
  exact h

set_option maxRecDepth 20000 in
theorem cx_spell {V : ew_Mem} {n : Nat} {M : ew_Mem} (hC : s_C V n M) {m : Int} (hm : ew_in m) : ew_C 123 [(2, 4), (0, m)] n M (s_QF (0, s_a_spell V m) n M) := by
  obtain ⟨hn, hp, hV, v0, v1, v2, v3, v4⟩ := id hC
  obtain ⟨hc6, hVW, hnd, hap, hr0, hr1, hr2, hr3, hr4, hr5⟩ := id hV
  have hc := ew_c_123
  show ew_X 123 0 [(2, 4), (0, m)] [] n M _
  refine xr_go hc rfl rfl ?_
  refine xr_s_1 hc rfl rfl (c_isMonth hm) ?_
  refine xr_if_ne hc rfl (by split <;> omega) (fun c1 => ?_) (fun c1 => ?_)
  · skip
    refine xr_go hc rfl rfl ?_
    refine xr_go hc rfl rfl ?_
    refine xr_go hc rfl rfl ?_
    refine xr_go hc rfl rfl ?_
    refine xr_v_3 hc rfl rfl (ew_own_p hn rfl) (c_find hC (by omega) (by decide)) ?_
    have hfr : s_Fr M (s_put M 32 (s_E V m 12)) := s_put_fr s_Fr_rfl (s_scr_c rfl)
    have hC2 := s_C_fr hfr hC
    have hle : ((s_E V m 12).length : Int) ≤ 12 := s_es_len _ _ _ (by decide)
    have hW := c_writePaper hC2 (E := s_E V m 12) (fun i hi => s_put_rd hi) (fun a ha => ⟨by have := s_es_bd _ _ _ a ha; omega, s_es_ne _ _ _ a ha⟩) (by omega)
    have hfr2 : s_Fr M (s_sh (s_put M 32 (s_E V m 12)) 35 34 1 (s_pp V m)) := s_Fr_tr hfr (s_sh_fr (s_scr_c rfl) rfl)
    have hp3 := s_Fr_pm hfr2 hp
    refine xr_vv_2 (v := (0, 0)) hc rfl rfl (ew_own_p hn rfl) hW ?_
    refine xr_go hc rfl rfl ?_
    refine xr_gf2 (A := 4) rfl hc rfl (ew_own_p hn rfl) (ew_pm (v := 34) hp3 rfl) ?_
    refine xr_gf0 (A := 34) rfl hc rfl (ew_own_p hn rfl) (show _ = ((s_pp V m).length : Int) from s_sh_len) ?_
    refine xr_ret hc rfl rfl ?_
    refine ⟨?_, rfl, ?_⟩
    focus
      unfold s_a_spell
      first
        | (rw [if_neg (by omega)]; done)
        | (rw [if_pos (by omega)]; done)
    first
      | exact s_Fr_rfl
      | exact hfr2
  · skip
    refine xr_go hc rfl rfl ?_
    refine xr_ret hc rfl rfl ?_
    refine ⟨?_, rfl, ?_⟩
    focus
      unfold s_a_spell
      first
        | (rw [if_neg (by omega)]; done)
        | (rw [if_pos (by omega)]; done)
    first
      | exact s_Fr_rfl
      | exact hfr2

