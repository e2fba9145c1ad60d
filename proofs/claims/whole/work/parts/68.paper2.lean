/-! paper: both sides -/
set_option maxRecDepth 20000 in
theorem c_letterOf {n : Nat} {M : ew_Mem} {e : Int} (he : ew_in e) : ew_FM 126 [(0, e)] n M (0, s_lt e) n M := by
  have hc := ew_c_126
  show ew_X 126 0 [(0, e)] [] n M _
  refine xr_go hc rfl rfl ?_
  refine xr_go hc rfl rfl ?_
  refine xr_icmp_ne hc rfl (by omega) (by decide) (fun c1 => ?_) (fun c1 => ?_)
  · skip
    refine xr_go hc rfl rfl ?_
    refine xr_go hc rfl rfl ?_
    refine xr_icmp_ne hc rfl (by omega) (by decide) (fun c2 => ?_) (fun c2 => ?_)
    · skip
      refine xr_go hc rfl rfl ?_
      refine xr_ret hc rfl rfl ?_
      refine ⟨?_, rfl, rfl⟩
      unfold s_lt
      first
        | rw [if_pos (by omega)]
        | rw [if_neg (by omega), if_pos (by omega)]
        | rw [if_neg (by omega), if_neg (by omega)]
    · skip
      refine xr_go hc rfl rfl ?_
      refine xr_go hc rfl rfl ?_
      refine xr_ret hc rfl rfl ?_
      refine ⟨?_, rfl, rfl⟩
      unfold s_lt
      first
        | rw [if_pos (by omega)]
        | rw [if_neg (by omega), if_pos (by omega)]
        | rw [if_neg (by omega), if_neg (by omega)]
  · skip
    refine xr_go hc rfl rfl ?_
    refine xr_ret hc rfl rfl ?_
    refine ⟨?_, rfl, rfl⟩
    unfold s_lt
    first
      | rw [if_pos (by omega)]
      | rw [if_neg (by omega), if_pos (by omega)]
      | rw [if_neg (by omega), if_neg (by omega)]

set_option maxRecDepth 20000 in
theorem c_paper_1 {V : ew_Mem} {n : Nat} {M : ew_Mem} (hC : s_C V n M) {E : List Int} (hE : ∀ i : Nat, i < E.length → M 32 i = E.getD i 0) (hEb : ∀ m ∈ E, s_isM m ∧ ¬ s_ecl V m = 0) (hEl : E.length ≤ 12) : ∀ (j i : Nat) (P : List Int), i + j = E.length → P.length ≤ 10 * i →
    ew_X 125 10 [(2, 4), (0, (E.length : Int)), (0, (i : Int))] [] n (s_sh M 35 34 1 P) (fun r a b => r = none ∧ a = n ∧ b = s_sh M 35 34 1 (P ++ s_pq V (E.drop i) (i : Int))) := by
  obtain ⟨hn, hp, hV, -⟩ := id hC
  have hc := ew_c_125
  intro j
  induction j with
  | zero =>
    intro i P hj hl
    have hd : E.drop i = [] := List.drop_eq_nil_iff.mpr (by omega)
    refine xr_go hc rfl rfl ?_
    refine xr_go hc rfl rfl ?_
    refine xr_icmp_ge hc rfl (by omega) (by omega) (fun c1 => ?_) (fun c1 => ?_)
    · skip
      refine xr_ret hc rfl rfl ?_
      exact ⟨rfl, rfl, by rw [hd, s_pq, List.append_nil]⟩
    · exfalso; omega
  | succ j ih =>
    intro i P hj hl
    have hil : i < E.length := by omega
    have hEi : M 32 (i : Int).toNat = E[i] := by
      rw [Int.toNat_natCast, hE i hil, List.getD_eq_getElem?_getD, List.getElem?_eq_getElem hil]
      rfl
    have hd : E.drop i = E[i] :: E.drop (i + 1) := List.drop_eq_getElem_cons hil
    obtain ⟨hm, hne⟩ := hEb E[i] (List.getElem_mem hil)
    generalize hme : E[i] = m at *
    have h0 := s_ecl_h0 hV hne
    have he := s_ecl_bd V m
    have hs := s_side_bd V m
    have hnl := s_nb_len m
    refine xr_go hc rfl rfl ?_
    refine xr_go hc rfl rfl ?_
    refine xr_icmp_ge hc rfl (by omega) (by omega) (fun c1 => ?_) (fun c1 => ?_)
    · exfalso; omega
    · skip
      refine xr_go hc rfl rfl ?_
      refine xr_go hc rfl rfl ?_
      refine xr_gf2 (A := 4) rfl hc rfl (ew_own_p hn rfl) (ew_pm (v := 32) (s_Fr_pm (s_sh_fr (s_scr_c rfl) rfl) hp) rfl) ?_
      refine xr_alen (A := 32) (N := 61) (t := 20) rfl rfl hc rfl (ew_ok_p hn rfl) (by decide) ?_
      refine xr_icmp_ge hc rfl (by omega) (by decide) (fun c2 => ?_) (fun c2 => ?_)
      · exfalso; omega
      · skip
        refine xr_go hc rfl rfl ?_
        refine xr_if_le hc rfl (by omega) (fun c3 => ?_) (fun c3 => ?_)
        · skip
          refine xr_go hc rfl rfl ?_
          refine xr_gf2 (A := 4) rfl hc rfl (ew_own_p hn rfl) (ew_pm (v := 34) (s_Fr_pm (s_sh_fr (s_scr_c rfl) rfl) hp) rfl) ?_
          refine xr_go hc rfl rfl ?_
          refine xr_gf2 (A := 4) rfl hc rfl (ew_own_p hn rfl) (ew_pm (v := 32) (s_Fr_pm (s_sh_fr (s_scr_c rfl) rfl) hp) rfl) ?_
          refine xr_go hc rfl rfl ?_
          refine xr_iald (A := 32) (N := 61) rfl rfl hc rfl (ew_ok_p hn rfl) (by omega) (by omega) ((s_sh_ne (by decide) (by decide)).trans hEi) ?_
          refine xr_vv_2 (v := (0, 0)) hc rfl rfl (ew_own_p hn rfl) (c_addNumber hn hp (by omega) (by first | omega | (simp only [List.length_append, List.length_cons, List.length_nil]; omega))) ?_
          refine xr_go hc rfl rfl ?_
          refine xr_gf2 (A := 4) rfl hc rfl (ew_own_p hn rfl) (ew_pm (v := 34) (s_Fr_pm (s_sh_fr (s_scr_c rfl) rfl) hp) rfl) ?_
          refine xr_go hc rfl rfl ?_
          refine xr_gf2 (A := 4) rfl hc rfl (ew_own_p hn rfl) (ew_pm (v := 5) (s_Fr_pm (s_sh_fr (s_scr_c rfl) rfl) hp) rfl) ?_
          refine xr_go hc rfl rfl ?_
          refine xr_gf2 (A := 4) rfl hc rfl (ew_own_p hn rfl) (ew_pm (v := 32) (s_Fr_pm (s_sh_fr (s_scr_c rfl) rfl) hp) rfl) ?_
          refine xr_go hc rfl rfl ?_
          refine xr_iald (A := 32) (N := 61) rfl rfl hc rfl (ew_ok_p hn rfl) (by omega) (by omega) ((s_sh_ne (by decide) (by decide)).trans hEi) ?_
          refine xr_v_2 hc rfl rfl (ew_own_p hn rfl) (c_eclipseAt (s_C_fr (s_sh_fr (s_scr_c rfl) rfl) hC) (by omega)) ?_
          refine xr_s_1 hc rfl rfl (c_letterOf (by omega)) ?_
          refine xr_vv_2 (v := (0, 0)) hc rfl rfl (ew_own_p hn rfl) (c_add hn hp (by first | omega | (simp only [List.length_append, List.length_cons, List.length_nil]; omega))) ?_
          refine xr_go hc rfl rfl ?_
          refine xr_gf2 (A := 4) rfl hc rfl (ew_own_p hn rfl) (ew_pm (v := 34) (s_Fr_pm (s_sh_fr (s_scr_c rfl) rfl) hp) rfl) ?_
          refine xr_go hc rfl rfl ?_
          refine xr_go hc rfl rfl ?_
          refine xr_gf2 (A := 4) rfl hc rfl (ew_own_p hn rfl) (ew_pm (v := 5) (s_Fr_pm (s_sh_fr (s_scr_c rfl) rfl) hp) rfl) ?_
          refine xr_go hc rfl rfl ?_
          refine xr_gf2 (A := 4) rfl hc rfl (ew_own_p hn rfl) (ew_pm (v := 32) (s_Fr_pm (s_sh_fr (s_scr_c rfl) rfl) hp) rfl) ?_
          refine xr_go hc rfl rfl ?_
          refine xr_iald (A := 32) (N := 61) rfl rfl hc rfl (ew_ok_p hn rfl) (by omega) (by omega) ((s_sh_ne (by decide) (by decide)).trans hEi) ?_
          refine xr_v_2 hc rfl rfl (ew_own_p hn rfl) (c_sideAt (s_C_fr (s_sh_fr (s_scr_c rfl) rfl) hC) h0 (by omega)) ?_
          refine xr_go hc rfl rfl ?_
          refine xr_vv_2 (v := (0, 0)) hc rfl rfl (ew_own_p hn rfl) (c_add hn hp (by first | omega | (simp only [List.length_append, List.length_cons, List.length_nil]; omega))) ?_
          refine xr_inc_2 hc rfl ?_
          refine xr_go hc rfl rfl ?_
          rw [s_n1]
          have h := ih (i + 1) (P ++ ((if 0 < (i : Int) then [59] else []) ++ (s_nb m ++ ([s_lt (s_ecl V m)] ++ [48 + s_side V m])))) (by omega) (by split <;> simp only [List.length_append, List.length_cons, List.length_nil] <;> omega)
          rw [hd, s_pq]
          first
            | (rw [if_pos (by omega)] at h ⊢
               simp only [List.append_assoc, List.nil_append] at h ⊢
               exact h)
            | (rw [if_neg (by omega)] at h ⊢
               simp only [List.append_assoc, List.nil_append] at h ⊢
               exact h)
        · skip
          refine xr_go hc rfl rfl ?_
          refine xr_gf2 (A := 4) rfl hc rfl (ew_own_p hn rfl) (ew_pm (v := 34) (s_Fr_pm (s_sh_fr (s_scr_c rfl) rfl) hp) rfl) ?_
          refine xr_go hc rfl rfl ?_
          refine xr_vv_2 (v := (0, 0)) hc rfl rfl (ew_own_p hn rfl) (c_add hn hp (by first | omega | (simp only [List.length_append, List.length_cons, List.length_nil]; omega))) ?_
          refine xr_go hc rfl rfl ?_
          refine xr_gf2 (A := 4) rfl hc rfl (ew_own_p hn rfl) (ew_pm (v := 34) (s_Fr_pm (s_sh_fr (s_scr_c rfl) rfl) hp) rfl) ?_
          refine xr_go hc rfl rfl ?_
          refine xr_gf2 (A := 4) rfl hc rfl (ew_own_p hn rfl) (ew_pm (v := 32) (s_Fr_pm (s_sh_fr (s_scr_c rfl) rfl) hp) rfl) ?_
          refine xr_go hc rfl rfl ?_
          refine xr_iald (A := 32) (N := 61) rfl rfl hc rfl (ew_ok_p hn rfl) (by omega) (by omega) ((s_sh_ne (by decide) (by decide)).trans hEi) ?_
          refine xr_vv_2 (v := (0, 0)) hc rfl rfl (ew_own_p hn rfl) (c_addNumber hn hp (by omega) (by first | omega | (simp only [List.length_append, List.length_cons, List.length_nil]; omega))) ?_
          refine xr_go hc rfl rfl ?_
          refine xr_gf2 (A := 4) rfl hc rfl (ew_own_p hn rfl) (ew_pm (v := 34) (s_Fr_pm (s_sh_fr (s_scr_c rfl) rfl) hp) rfl) ?_
          refine xr_go hc rfl rfl ?_
          refine xr_gf2 (A := 4) rfl hc rfl (ew_own_p hn rfl) (ew_pm (v := 5) (s_Fr_pm (s_sh_fr (s_scr_c rfl) rfl) hp) rfl) ?_
          refine xr_go hc rfl rfl ?_
          refine xr_gf2 (A := 4) rfl hc rfl (ew_own_p hn rfl) (ew_pm (v := 32) (s_Fr_pm (s_sh_fr (s_scr_c rfl) rfl) hp) rfl) ?_
          refine xr_go hc rfl rfl ?_
          refine xr_iald (A := 32) (N := 61) rfl rfl hc rfl (ew_ok_p hn rfl) (by omega) (by omega) ((s_sh_ne (by decide) (by decide)).trans hEi) ?_
          refine xr_v_2 hc rfl rfl (ew_own_p hn rfl) (c_eclipseAt (s_C_fr (s_sh_fr (s_scr_c rfl) rfl) hC) (by omega)) ?_
          refine xr_s_1 hc rfl rfl (c_letterOf (by omega)) ?_
          refine xr_vv_2 (v := (0, 0)) hc rfl rfl (ew_own_p hn rfl) (c_add hn hp (by first | omega | (simp only [List.length_append, List.length_cons, List.length_nil]; omega))) ?_
          refine xr_go hc rfl rfl ?_
          refine xr_gf2 (A := 4) rfl hc rfl (ew_own_p hn rfl) (ew_pm (v := 34) (s_Fr_pm (s_sh_fr (s_scr_c rfl) rfl) hp) rfl) ?_
          refine xr_go hc rfl rfl ?_
          refine xr_go hc rfl rfl ?_
          refine xr_gf2 (A := 4) rfl hc rfl (ew_own_p hn rfl) (ew_pm (v := 5) (s_Fr_pm (s_sh_fr (s_scr_c rfl) rfl) hp) rfl) ?_
          refine xr_go hc rfl rfl ?_
          refine xr_gf2 (A := 4) rfl hc rfl (ew_own_p hn rfl) (ew_pm (v := 32) (s_Fr_pm (s_sh_fr (s_scr_c rfl) rfl) hp) rfl) ?_
          refine xr_go hc rfl rfl ?_
          refine xr_iald (A := 32) (N := 61) rfl rfl hc rfl (ew_ok_p hn rfl) (by omega) (by omega) ((s_sh_ne (by decide) (by decide)).trans hEi) ?_
          refine xr_v_2 hc rfl rfl (ew_own_p hn rfl) (c_sideAt (s_C_fr (s_sh_fr (s_scr_c rfl) rfl) hC) h0 (by omega)) ?_
          refine xr_go hc rfl rfl ?_
          refine xr_vv_2 (v := (0, 0)) hc rfl rfl (ew_own_p hn rfl) (c_add hn hp (by first | omega | (simp only [List.length_append, List.length_cons, List.length_nil]; omega))) ?_
          refine xr_inc_2 hc rfl ?_
          refine xr_go hc rfl rfl ?_
          rw [s_n1]
          have h := ih (i + 1) (P ++ ((if 0 < (i : Int) then [59] else []) ++ (s_nb m ++ ([s_lt (s_ecl V m)] ++ [48 + s_side V m])))) (by omega) (by split <;> simp only [List.length_append, List.length_cons, List.length_nil] <;> omega)
          rw [hd, s_pq]
          first
            | (rw [if_pos (by omega)] at h ⊢
               simp only [List.append_assoc, List.nil_append] at h ⊢
               exact h)
            | (rw [if_neg (by omega)] at h ⊢
               simp only [List.append_assoc, List.nil_append] at h ⊢
               exact h)

set_option maxRecDepth 20000 in
theorem c_writePaper {V : ew_Mem} {n : Nat} {M : ew_Mem} (hC : s_C V n M) {E : List Int} (hE : ∀ i : Nat, i < E.length → M 32 i = E.getD i 0) (hEb : ∀ m ∈ E, s_isM m ∧ ¬ s_ecl V m = 0) (hEl : E.length ≤ 12) : ew_VM 125 [(2, 4), (0, (E.length : Int))] n M n (s_sh M 35 34 1 (s_pq V E 0)) := by
  obtain ⟨hn, hp, hV, -⟩ := id hC
  have hc := ew_c_125
  show ew_X 125 0 [(2, 4), (0, (E.length : Int)), (5, 0)] [] n _ _
  refine xr_go hc rfl rfl ?_
  refine xr_gf2 (A := 4) (w := 34) rfl hc rfl (ew_own_p hn rfl) (ew_pm hp rfl) ?_
  refine xr_go hc rfl rfl ?_
  refine xr_pf (A := 34) rfl hc rfl (ew_own_p hn rfl) ?_
  refine xr_go hc rfl rfl ?_
  refine xr_s1_2 hc rfl rfl rfl ?_
  rw [s_sh_nil]
  have h := c_paper_1 hC hE hEb hEl E.length 0 [] (by omega) (by decide)
  rw [List.nil_append, List.drop_zero] at h
  exact h

set_option maxRecDepth 20000 in
theorem cx_spell {V : ew_Mem} {n : Nat} {M : ew_Mem} (hC : s_C V n M) {m : Int} (hm : ew_in m) : ew_C 123 [(2, 4), (0, m)] n M (s_QF (0, s_a_spell V m) n M) := by
  obtain ⟨hn, hp, hV, v0, v1, v2, v3, v4⟩ := id hC
  obtain ⟨hc6, hVW, hnd, hap, hr0, hr1, hr2, hr3, hr4, hr5⟩ := id hV
  have hc := ew_c_123
  show ew_X 123 0 [(2, 4), (0, m)] [] n M _
  refine xr_go hc rfl rfl ?_
  refine xr_s_1 hc rfl rfl (c_isMonth hm) ?_
  refine xr_if_ne hc rfl (by split <;> omega) (fun c1 => ?_) (fun c1 => ?_)
  · skip
    refine xr_go hc rfl rfl ?_
    refine xr_go hc rfl rfl ?_
    refine xr_go hc rfl rfl ?_
    refine xr_go hc rfl rfl ?_
    refine xr_v_3 hc rfl rfl (ew_own_p hn rfl) (c_find hC (by omega) (by decide)) ?_
    have hfr : s_Fr M (s_put M 32 (s_E V m 12)) := s_put_fr s_Fr_rfl (s_scr_c rfl)
    have hC2 := s_C_fr hfr hC
    have hle : ((s_E V m 12).length : Int) ≤ 12 := s_es_len _ _ _ (by decide)
    have hW := c_writePaper hC2 (E := s_E V m 12) (fun i hi => s_put_rd hi) (fun a ha => ⟨by have := s_es_bd _ _ _ a ha; omega, s_es_ne _ _ _ a ha⟩) (by omega)
    have hfr2 : s_Fr M (s_sh (s_put M 32 (s_E V m 12)) 35 34 1 (s_pp V m)) := s_Fr_tr hfr (s_sh_fr (s_scr_c rfl) rfl)
    have hp3 := s_Fr_pm hfr2 hp
    refine xr_vv_2 (v := (0, 0)) hc rfl rfl (ew_own_p hn rfl) hW ?_
    refine xr_go hc rfl rfl ?_
    refine xr_gf2 (A := 4) rfl hc rfl (ew_own_p hn rfl) (ew_pm (v := 34) hp3 rfl) ?_
    refine xr_gf0 (A := 34) rfl hc rfl (ew_own_p hn rfl) (show _ = ((s_pp V m).length : Int) from s_sh_len) ?_
    refine xr_ret hc rfl rfl ?_
    refine ⟨?_, rfl, ?_⟩
    focus
      unfold s_a_spell
      first
        | (rw [if_neg (by omega)]; done)
        | (rw [if_pos (by omega)]; done)
    first
      | exact s_Fr_rfl
      | exact hfr2
  · skip
    refine xr_go hc rfl rfl ?_
    refine xr_ret hc rfl rfl ?_
    refine ⟨?_, rfl, ?_⟩
    focus
      unfold s_a_spell
      first
        | (rw [if_neg (by omega)]; done)
        | (rw [if_pos (by omega)]; done)
    first
      | exact s_Fr_rfl
      | exact hfr2

theorem s_pq_len {V : ew_Mem} : ∀ (l : List Int) (i : Int), (s_pq V l i).length ≤ 10 * l.length
  | [], _ => Nat.le_refl _
  | m :: l, i => by
    have h1 := s_pq_len (V := V) l (i + 1)
    have h2 := s_nb_len m
    unfold s_pq
    split <;> simp only [List.length_append, List.length_cons, List.length_nil] <;> omega
theorem s_pp_len {V : ew_Mem} {m : Int} : (s_pp V m).length ≤ 120 := by
  have h1 := s_pq_len (V := V) (s_E V m 12) 0
  have h2 : ((s_E V m 12).length : Int) ≤ 12 := s_es_len _ _ _ (by decide)
  unfold s_pp
  omega
theorem s_nb_in (x : Int) : ∀ a ∈ s_nb x, 0 ≤ a ∧ a < 2147483648 := by
  have hd : ∀ (y : Int) (j : Nat), ∀ a ∈ s_dg y j, 0 ≤ a ∧ a < 2147483648 := by
    intro y j a ha
    unfold s_dg at ha
    split at ha <;> simp only [List.mem_cons, List.not_mem_nil, or_false] at ha <;> omega
  intro a ha
  unfold s_nb at ha
  rcases List.mem_append.mp ha with h | h
  · split at h
    · simp only [List.mem_cons, List.not_mem_nil, or_false] at h
      omega
    · cases h
  · exact hd _ _ a h
theorem s_pq_in {V : ew_Mem} : ∀ (l : List Int) (i : Int), ∀ a ∈ s_pq V l i, 0 ≤ a ∧ a < 2147483648
  | [], _, a, h => by cases h
  | m :: l, i, a, h => by
    have hs := s_side_bd V m
    unfold s_pq at h
    rcases List.mem_append.mp h with h | h
    · split at h
      · simp only [List.mem_cons, List.not_mem_nil, or_false] at h
        omega
      · cases h
    · rcases List.mem_append.mp h with h | h
      · exact s_nb_in m a h
      · rcases List.mem_append.mp h with h | h
        · simp only [List.mem_cons, List.not_mem_nil, or_false] at h
          unfold s_lt at h
          split at h
          · omega
          · split at h <;> omega
        · rcases List.mem_append.mp h with h | h
          · simp only [List.mem_cons, List.not_mem_nil, or_false] at h
            omega
          · exact s_pq_in l (i + 1) a h
theorem s_sh_nth {M : ew_Mem} {a s f : Nat} {P : List Int} {i : Int} (h : ¬ a = s) (hi : 0 ≤ i ∧ i < (P.length : Int)) : s_sh M a s f P a i.toNat = s_nth P i := by
  unfold s_sh
  rw [s_ne_rd h]
  exact s_nth_put hi
set_option maxRecDepth 20000 in
theorem c_byteAt {n : Nat} {M : ew_Mem} (hn : 59 ≤ n) (hp : ew_Pm M) {P : List Int} (hP : P.length ≤ 120) {i : Int} (hi : ew_in i) : ew_FM 25 [(2, 34), (0, i)] n (s_sh M 35 34 1 P) (0, s_nth P i) n (s_sh M 35 34 1 P) := by
  have hp2 : ew_Pm (s_sh M 35 34 1 P) := s_Fr_pm (s_sh_fr (s_scr_c rfl) rfl) hp
  have hc := ew_c_25
  show ew_X 25 0 [(2, 34), (0, i)] [] n _ _
  refine xr_go hc rfl rfl ?_
  refine xr_if_lt hc rfl (by omega) (fun c1 => ?_) (fun c1 => ?_)
  · skip
    refine xr_go hc rfl rfl ?_
    refine xr_ret hc rfl rfl ?_
    refine ⟨?_, rfl, rfl⟩
    first
      | rfl
      | rw [s_nth_outI (by omega)]
  · skip
    refine xr_go hc rfl rfl ?_
    refine xr_go hc rfl rfl ?_
    refine xr_gf0 (A := 34) rfl hc rfl (ew_own_p hn rfl) (show _ = (P.length : Int) from s_sh_len) ?_
    refine xr_icmp_ge hc rfl (by omega) (by omega) (fun c2 => ?_) (fun c2 => ?_)
    · skip
      refine xr_go hc rfl rfl ?_
      refine xr_ret hc rfl rfl ?_
      refine ⟨?_, rfl, rfl⟩
      first
        | rfl
        | rw [s_nth_outI (by omega)]
    · skip
      refine xr_go hc rfl rfl ?_
      refine xr_go hc rfl rfl ?_
      refine xr_gf2 (A := 34) rfl hc rfl (ew_own_p hn rfl) (ew_pm (v := 35) hp2 rfl) ?_
      refine xr_alen (A := 35) (N := 120) (t := 20) rfl rfl hc rfl (ew_ok_p hn rfl) (by decide) ?_
      refine xr_icmp_ge hc rfl (by omega) (by decide) (fun c3 => ?_) (fun c3 => ?_)
      · exfalso; omega
      · skip
        refine xr_go hc rfl rfl ?_
        refine xr_gf2 (A := 34) rfl hc rfl (ew_own_p hn rfl) (ew_pm (v := 35) hp2 rfl) ?_
        refine xr_go hc rfl rfl ?_
        refine xr_iald (A := 35) (N := 120) rfl rfl hc rfl (ew_ok_p hn rfl) (by omega) (by omega) (s_sh_nth (by decide) (by omega)) ?_
        refine xr_go hc rfl rfl ?_
        refine xr_ret hc rfl rfl ?_
        refine ⟨?_, rfl, rfl⟩
        first
          | rfl
          | rw [s_nth_outI (by omega)]

set_option maxRecDepth 20000 in
theorem cx_paper {V : ew_Mem} {n : Nat} {M : ew_Mem} (hC : s_C V n M) {m i : Int} (hm : ew_in m) (hi : ew_in i) : ew_C 127 [(2, 4), (0, m), (0, i)] n M (s_QF (0, s_a_paper V m i) n M) := by
  obtain ⟨hn, hp, hV, v0, v1, v2, v3, v4⟩ := id hC
  obtain ⟨hc6, hVW, hnd, hap, hr0, hr1, hr2, hr3, hr4, hr5⟩ := id hV
  have hc := ew_c_127
  show ew_X 127 0 [(2, 4), (0, m), (0, i)] [] n M _
  refine xr_go hc rfl rfl ?_
  refine xr_s_1 hc rfl rfl (c_isMonth hm) ?_
  refine xr_if_ne hc rfl (by split <;> omega) (fun c1 => ?_) (fun c1 => ?_)
  · skip
    refine xr_go hc rfl rfl ?_
    refine xr_go hc rfl rfl ?_
    refine xr_go hc rfl rfl ?_
    refine xr_go hc rfl rfl ?_
    refine xr_v_3 hc rfl rfl (ew_own_p hn rfl) (c_find hC (by omega) (by decide)) ?_
    have hfr : s_Fr M (s_put M 32 (s_E V m 12)) := s_put_fr s_Fr_rfl (s_scr_c rfl)
    have hC2 := s_C_fr hfr hC
    have hle : ((s_E V m 12).length : Int) ≤ 12 := s_es_len _ _ _ (by decide)
    have hW := c_writePaper hC2 (E := s_E V m 12) (fun i hi => s_put_rd hi) (fun a ha => ⟨by have := s_es_bd _ _ _ a ha; omega, s_es_ne _ _ _ a ha⟩) (by omega)
    have hfr2 : s_Fr M (s_sh (s_put M 32 (s_E V m 12)) 35 34 1 (s_pp V m)) := s_Fr_tr hfr (s_sh_fr (s_scr_c rfl) rfl)
    have hp3 := s_Fr_pm hfr2 hp
    refine xr_vv_2 (v := (0, 0)) hc rfl rfl (ew_own_p hn rfl) hW ?_
    refine xr_go hc rfl rfl ?_
    refine xr_gf2 (A := 4) rfl hc rfl (ew_own_p hn rfl) (ew_pm (v := 34) hp3 rfl) ?_
    refine xr_go hc rfl rfl ?_
    refine xr_v_2 hc rfl rfl (ew_own_p hn rfl) (c_byteAt hn (s_Fr_pm hfr hp) (P := s_pp V m) s_pp_len hi) ?_
    refine xr_ret hc rfl rfl ?_
    refine ⟨?_, rfl, ?_⟩
    focus
      unfold s_a_paper
      first
        | (rw [if_neg (by omega)]; done)
        | (rw [if_pos (by omega)]; done)
    first
      | exact s_Fr_rfl
      | exact hfr2
  · skip
    refine xr_go hc rfl rfl ?_
    refine xr_ret hc rfl rfl ?_
    refine ⟨?_, rfl, ?_⟩
    focus
      unfold s_a_paper
      first
        | (rw [if_neg (by omega)]; done)
        | (rw [if_pos (by omega)]; done)
    first
      | exact s_Fr_rfl
      | exact hfr2

set_option maxRecDepth 20000 in
theorem m_prints_1 {V : ew_Mem} {n : Nat} {M : ew_Mem} (hM : s_M V n M) {m0 : Int} (hm0 : s_isM m0) : ∀ (j : Nat) (m : Int) (i : Nat) (P : List Int) (q : ew_AV), m + (j : Int) = min (m0 + 3999) 100000 + 1 → -100000 ≤ m → i ≤ 12 → P.length ≤ 10 * i →
    ew_X 208 9 [(2, 38), (0, m0), (0, (i : Int)), (0, m), q] [] n (s_sh M 51 38 18 P) (fun r a b => r = none ∧ a = n ∧ b = s_sh M 51 38 18 (P ++ s_pq V (s_es V j m (12 - (i : Int))) (i : Int))) := by
  obtain ⟨hn, hp, hV, -⟩ := id hM
  have hc := ew_c_208
  intro j
  induction j with
  | zero =>
    intro m i P q hj hm hi hl
    have he := s_ecl_bd V m
    refine xr_go hc rfl rfl ?_
    refine xr_go hc rfl rfl ?_
    refine xr_go hc rfl rfl ?_
    refine xr_go hc rfl rfl ?_
    refine xr_icmp_ge hc rfl (by omega) (by omega) (fun c1 => ?_) (fun c1 => ?_)
    · skip
      refine xr_ret hc rfl rfl ?_
      exact ⟨rfl, rfl, by rw [s_es, s_pq, List.append_nil]⟩
    · skip
      refine xr_go hc rfl rfl ?_
      refine xr_go hc rfl rfl ?_
      refine xr_icmp_gt hc rfl (by omega) (by decide) (fun c2 => ?_) (fun c2 => ?_)
      · skip
        refine xr_ret hc rfl rfl ?_
        exact ⟨rfl, rfl, by rw [s_es, s_pq, List.append_nil]⟩
      · exfalso; omega
  | succ j ih =>
    intro m i P q hj hm hi hl
    have he := s_ecl_bd V m
    have hs := s_side_bd V m
    have hnl := s_nb_len m
    refine xr_go hc rfl rfl ?_
    refine xr_go hc rfl rfl ?_
    refine xr_go hc rfl rfl ?_
    refine xr_go hc rfl rfl ?_
    refine xr_icmp_ge hc rfl (by omega) (by omega) (fun c1 => ?_) (fun c1 => ?_)
    · exfalso; omega
    · skip
      refine xr_go hc rfl rfl ?_
      refine xr_go hc rfl rfl ?_
      refine xr_icmp_gt hc rfl (by omega) (by decide) (fun c2 => ?_) (fun c2 => ?_)
      · exfalso; omega
      · skip
        refine xr_go hc rfl rfl ?_
        refine xr_go hc rfl rfl ?_
        refine xr_icmp_ge hc rfl (by omega) (by decide) (fun c3 => ?_) (fun c3 => ?_)
        · skip
          refine xr_ret hc rfl rfl ?_
          exact ⟨rfl, rfl, by rw [s_es_0 (by omega), s_pq, List.append_nil]⟩
        · skip
          refine xr_go hc rfl rfl ?_
          refine xr_go hc rfl rfl ?_
          refine xr_v_2 hc rfl rfl (ew_own_p hn rfl) (m_eclipseAt (s_M_fr (s_sh_fr (s_scr_c rfl) rfl) hM) (by omega)) ?_
          refine xr_s1_4 hc rfl rfl rfl ?_
          refine xr_go hc rfl rfl ?_
          refine xr_if_ne hc rfl (by omega) (fun c4 => ?_) (fun c4 => ?_)
          · skip
            refine xr_go hc rfl rfl ?_
            refine xr_if_le hc rfl (by omega) (fun c5 => ?_) (fun c5 => ?_)
            · skip
              refine xr_go hc rfl rfl ?_
              refine xr_go hc rfl rfl ?_
              refine xr_vv_2 (v := (0, 0)) hc rfl rfl (ew_own_p hn rfl) (m_printNumber hn hp (by omega) (by first | omega | (simp only [List.length_append, List.length_cons, List.length_nil]; omega))) ?_
              refine xr_go hc rfl rfl ?_
              refine xr_go hc rfl rfl ?_
              refine xr_go hc rfl rfl ?_
              refine xr_icmp_ne hc rfl (by omega) (by decide) (fun c6 => ?_) (fun c6 => ?_)
              · skip
                refine xr_go hc rfl rfl ?_
                refine xr_go hc rfl rfl ?_
                refine xr_icmp_ne hc rfl (by omega) (by decide) (fun c7 => ?_) (fun c7 => ?_)
                · skip
                  refine xr_go hc rfl rfl ?_
                  refine xr_vv_2 (v := (0, 0)) hc rfl rfl (ew_own_p hn rfl) (m_print hn hp (by first | omega | (simp only [List.length_append, List.length_cons, List.length_nil]; omega))) ?_
                  refine xr_go hc rfl rfl ?_
                  refine xr_go hc rfl rfl ?_
                  refine xr_go hc rfl rfl ?_
                  refine xr_go hc rfl rfl ?_
                  refine xr_v_2 hc rfl rfl (ew_own_p hn rfl) (m_sideOf (s_M_fr (s_sh_fr (s_scr_c rfl) rfl) hM) (s_ecl_h0 hV (m := m) (by omega)) (by omega)) ?_
                  refine xr_go hc rfl rfl ?_
                  refine xr_vv_2 (v := (0, 0)) hc rfl rfl (ew_own_p hn rfl) (m_print hn hp (by first | omega | (simp only [List.length_append, List.length_cons, List.length_nil]; omega))) ?_
                  refine xr_inc_2 hc rfl ?_
                  refine xr_inc_3 hc rfl ?_
                  refine xr_go hc rfl rfl ?_
                  first
                    | (rw [s_es, if_pos (by omega), if_pos (by omega)]
                       exact ih (m + 1) i P _ (by omega) (by omega) (by omega) (by omega))
                    | (rw [s_es, if_pos (by omega), if_neg (by omega), s_n1, s_pq]
                       have hlt : s_lt (s_ecl V m) = if s_ecl V m = 1 then 112 else if s_ecl V m = 2 then 119 else 114 := rfl
                       have h := fun q => ih (m + 1) (i + 1) (P ++ ((if 0 < (i : Int) then [59] else []) ++ (s_nb m ++ ([s_lt (s_ecl V m)] ++ [48 + s_side V m])))) q (by omega) (by omega) (by omega) (by split <;> simp only [List.length_append, List.length_cons, List.length_nil] <;> omega)
                       rw [show (12 : Int) - ((i + 1 : Nat) : Int) = 12 - (i : Int) - 1 by omega] at h
                       simp only [List.append_assoc, List.nil_append] at h ⊢
                       first
                         | (rw [if_pos (show 0 < (i : Int) by omega)] at h ⊢
                            first
                              | (rw [show s_lt (s_ecl V m) = 112 by rw [hlt, if_pos (by omega)]] at h ⊢; exact h _)
                              | (rw [show s_lt (s_ecl V m) = 119 by rw [hlt, if_neg (by omega), if_pos (by omega)]] at h ⊢; exact h _)
                              | (rw [show s_lt (s_ecl V m) = 114 by rw [hlt, if_neg (by omega), if_neg (by omega)]] at h ⊢; exact h _))
                         | (rw [if_neg (show ¬ 0 < (i : Int) by omega)] at h ⊢
                            simp only [List.nil_append] at h ⊢
                            first
                              | (rw [show s_lt (s_ecl V m) = 112 by rw [hlt, if_pos (by omega)]] at h ⊢; exact h _)
                              | (rw [show s_lt (s_ecl V m) = 119 by rw [hlt, if_neg (by omega), if_pos (by omega)]] at h ⊢; exact h _)
                              | (rw [show s_lt (s_ecl V m) = 114 by rw [hlt, if_neg (by omega), if_neg (by omega)]] at h ⊢; exact h _)))
                · skip
                  refine xr_go hc rfl rfl ?_
                  refine xr_go hc rfl rfl ?_
                  refine xr_vv_2 (v := (0, 0)) hc rfl rfl (ew_own_p hn rfl) (m_print hn hp (by first | omega | (simp only [List.length_append, List.length_cons, List.length_nil]; omega))) ?_
                  refine xr_go hc rfl rfl ?_
                  refine xr_go hc rfl rfl ?_
                  refine xr_go hc rfl rfl ?_
                  refine xr_go hc rfl rfl ?_
                  refine xr_v_2 hc rfl rfl (ew_own_p hn rfl) (m_sideOf (s_M_fr (s_sh_fr (s_scr_c rfl) rfl) hM) (s_ecl_h0 hV (m := m) (by omega)) (by omega)) ?_
                  refine xr_go hc rfl rfl ?_
                  refine xr_vv_2 (v := (0, 0)) hc rfl rfl (ew_own_p hn rfl) (m_print hn hp (by first | omega | (simp only [List.length_append, List.length_cons, List.length_nil]; omega))) ?_
                  refine xr_inc_2 hc rfl ?_
                  refine xr_inc_3 hc rfl ?_
                  refine xr_go hc rfl rfl ?_
                  first
                    | (rw [s_es, if_pos (by omega), if_pos (by omega)]
                       exact ih (m + 1) i P _ (by omega) (by omega) (by omega) (by omega))
                    | (rw [s_es, if_pos (by omega), if_neg (by omega), s_n1, s_pq]
                       have hlt : s_lt (s_ecl V m) = if s_ecl V m = 1 then 112 else if s_ecl V m = 2 then 119 else 114 := rfl
                       have h := fun q => ih (m + 1) (i + 1) (P ++ ((if 0 < (i : Int) then [59] else []) ++ (s_nb m ++ ([s_lt (s_ecl V m)] ++ [48 + s_side V m])))) q (by omega) (by omega) (by omega) (by split <;> simp only [List.length_append, List.length_cons, List.length_nil] <;> omega)
                       rw [show (12 : Int) - ((i + 1 : Nat) : Int) = 12 - (i : Int) - 1 by omega] at h
                       simp only [List.append_assoc, List.nil_append] at h ⊢
                       first
                         | (rw [if_pos (show 0 < (i : Int) by omega)] at h ⊢
                            first
                              | (rw [show s_lt (s_ecl V m) = 112 by rw [hlt, if_pos (by omega)]] at h ⊢; exact h _)
                              | (rw [show s_lt (s_ecl V m) = 119 by rw [hlt, if_neg (by omega), if_pos (by omega)]] at h ⊢; exact h _)
                              | (rw [show s_lt (s_ecl V m) = 114 by rw [hlt, if_neg (by omega), if_neg (by omega)]] at h ⊢; exact h _))
                         | (rw [if_neg (show ¬ 0 < (i : Int) by omega)] at h ⊢
                            simp only [List.nil_append] at h ⊢
                            first
                              | (rw [show s_lt (s_ecl V m) = 112 by rw [hlt, if_pos (by omega)]] at h ⊢; exact h _)
                              | (rw [show s_lt (s_ecl V m) = 119 by rw [hlt, if_neg (by omega), if_pos (by omega)]] at h ⊢; exact h _)
                              | (rw [show s_lt (s_ecl V m) = 114 by rw [hlt, if_neg (by omega), if_neg (by omega)]] at h ⊢; exact h _)))
              · skip
                refine xr_go hc rfl rfl ?_
                refine xr_go hc rfl rfl ?_
                refine xr_vv_2 (v := (0, 0)) hc rfl rfl (ew_own_p hn rfl) (m_print hn hp (by first | omega | (simp only [List.length_append, List.length_cons, List.length_nil]; omega))) ?_
                refine xr_go hc rfl rfl ?_
                refine xr_go hc rfl rfl ?_
                refine xr_go hc rfl rfl ?_
                refine xr_go hc rfl rfl ?_
                refine xr_v_2 hc rfl rfl (ew_own_p hn rfl) (m_sideOf (s_M_fr (s_sh_fr (s_scr_c rfl) rfl) hM) (s_ecl_h0 hV (m := m) (by omega)) (by omega)) ?_
                refine xr_go hc rfl rfl ?_
                refine xr_vv_2 (v := (0, 0)) hc rfl rfl (ew_own_p hn rfl) (m_print hn hp (by first | omega | (simp only [List.length_append, List.length_cons, List.length_nil]; omega))) ?_
                refine xr_inc_2 hc rfl ?_
                refine xr_inc_3 hc rfl ?_
                refine xr_go hc rfl rfl ?_
                first
                  | (rw [s_es, if_pos (by omega), if_pos (by omega)]
                     exact ih (m + 1) i P _ (by omega) (by omega) (by omega) (by omega))
                  | (rw [s_es, if_pos (by omega), if_neg (by omega), s_n1, s_pq]
                     have hlt : s_lt (s_ecl V m) = if s_ecl V m = 1 then 112 else if s_ecl V m = 2 then 119 else 114 := rfl
                     have h := fun q => ih (m + 1) (i + 1) (P ++ ((if 0 < (i : Int) then [59] else []) ++ (s_nb m ++ ([s_lt (s_ecl V m)] ++ [48 + s_side V m])))) q (by omega) (by omega) (by omega) (by split <;> simp only [List.length_append, List.length_cons, List.length_nil] <;> omega)
                     rw [show (12 : Int) - ((i + 1 : Nat) : Int) = 12 - (i : Int) - 1 by omega] at h
                     simp only [List.append_assoc, List.nil_append] at h ⊢
                     first
                       | (rw [if_pos (show 0 < (i : Int) by omega)] at h ⊢
                          first
                            | (rw [show s_lt (s_ecl V m) = 112 by rw [hlt, if_pos (by omega)]] at h ⊢; exact h _)
                            | (rw [show s_lt (s_ecl V m) = 119 by rw [hlt, if_neg (by omega), if_pos (by omega)]] at h ⊢; exact h _)
                            | (rw [show s_lt (s_ecl V m) = 114 by rw [hlt, if_neg (by omega), if_neg (by omega)]] at h ⊢; exact h _))
                       | (rw [if_neg (show ¬ 0 < (i : Int) by omega)] at h ⊢
                          simp only [List.nil_append] at h ⊢
                          first
                            | (rw [show s_lt (s_ecl V m) = 112 by rw [hlt, if_pos (by omega)]] at h ⊢; exact h _)
                            | (rw [show s_lt (s_ecl V m) = 119 by rw [hlt, if_neg (by omega), if_pos (by omega)]] at h ⊢; exact h _)
                            | (rw [show s_lt (s_ecl V m) = 114 by rw [hlt, if_neg (by omega), if_neg (by omega)]] at h ⊢; exact h _)))
            · skip
              refine xr_go hc rfl rfl ?_
              refine xr_go hc rfl rfl ?_
              refine xr_vv_2 (v := (0, 0)) hc rfl rfl (ew_own_p hn rfl) (m_print hn hp (by first | omega | (simp only [List.length_append, List.length_cons, List.length_nil]; omega))) ?_
              refine xr_go hc rfl rfl ?_
              refine xr_go hc rfl rfl ?_
              refine xr_vv_2 (v := (0, 0)) hc rfl rfl (ew_own_p hn rfl) (m_printNumber hn hp (by omega) (by first | omega | (simp only [List.length_append, List.length_cons, List.length_nil]; omega))) ?_
              refine xr_go hc rfl rfl ?_
              refine xr_go hc rfl rfl ?_
              refine xr_go hc rfl rfl ?_
              refine xr_icmp_ne hc rfl (by omega) (by decide) (fun c8 => ?_) (fun c8 => ?_)
              · skip
                refine xr_go hc rfl rfl ?_
                refine xr_go hc rfl rfl ?_
                refine xr_icmp_ne hc rfl (by omega) (by decide) (fun c9 => ?_) (fun c9 => ?_)
                · skip
                  refine xr_go hc rfl rfl ?_
                  refine xr_vv_2 (v := (0, 0)) hc rfl rfl (ew_own_p hn rfl) (m_print hn hp (by first | omega | (simp only [List.length_append, List.length_cons, List.length_nil]; omega))) ?_
                  refine xr_go hc rfl rfl ?_
                  refine xr_go hc rfl rfl ?_
                  refine xr_go hc rfl rfl ?_
                  refine xr_go hc rfl rfl ?_
                  refine xr_v_2 hc rfl rfl (ew_own_p hn rfl) (m_sideOf (s_M_fr (s_sh_fr (s_scr_c rfl) rfl) hM) (s_ecl_h0 hV (m := m) (by omega)) (by omega)) ?_
                  refine xr_go hc rfl rfl ?_
                  refine xr_vv_2 (v := (0, 0)) hc rfl rfl (ew_own_p hn rfl) (m_print hn hp (by first | omega | (simp only [List.length_append, List.length_cons, List.length_nil]; omega))) ?_
                  refine xr_inc_2 hc rfl ?_
                  refine xr_inc_3 hc rfl ?_
                  refine xr_go hc rfl rfl ?_
                  first
                    | (rw [s_es, if_pos (by omega), if_pos (by omega)]
                       exact ih (m + 1) i P _ (by omega) (by omega) (by omega) (by omega))
                    | (rw [s_es, if_pos (by omega), if_neg (by omega), s_n1, s_pq]
                       have hlt : s_lt (s_ecl V m) = if s_ecl V m = 1 then 112 else if s_ecl V m = 2 then 119 else 114 := rfl
                       have h := fun q => ih (m + 1) (i + 1) (P ++ ((if 0 < (i : Int) then [59] else []) ++ (s_nb m ++ ([s_lt (s_ecl V m)] ++ [48 + s_side V m])))) q (by omega) (by omega) (by omega) (by split <;> simp only [List.length_append, List.length_cons, List.length_nil] <;> omega)
                       rw [show (12 : Int) - ((i + 1 : Nat) : Int) = 12 - (i : Int) - 1 by omega] at h
                       simp only [List.append_assoc, List.nil_append] at h ⊢
                       first
                         | (rw [if_pos (show 0 < (i : Int) by omega)] at h ⊢
                            first
                              | (rw [show s_lt (s_ecl V m) = 112 by rw [hlt, if_pos (by omega)]] at h ⊢; exact h _)
                              | (rw [show s_lt (s_ecl V m) = 119 by rw [hlt, if_neg (by omega), if_pos (by omega)]] at h ⊢; exact h _)
                              | (rw [show s_lt (s_ecl V m) = 114 by rw [hlt, if_neg (by omega), if_neg (by omega)]] at h ⊢; exact h _))
                         | (rw [if_neg (show ¬ 0 < (i : Int) by omega)] at h ⊢
                            simp only [List.nil_append] at h ⊢
                            first
                              | (rw [show s_lt (s_ecl V m) = 112 by rw [hlt, if_pos (by omega)]] at h ⊢; exact h _)
                              | (rw [show s_lt (s_ecl V m) = 119 by rw [hlt, if_neg (by omega), if_pos (by omega)]] at h ⊢; exact h _)
                              | (rw [show s_lt (s_ecl V m) = 114 by rw [hlt, if_neg (by omega), if_neg (by omega)]] at h ⊢; exact h _)))
                · skip
                  refine xr_go hc rfl rfl ?_
                  refine xr_go hc rfl rfl ?_
                  refine xr_vv_2 (v := (0, 0)) hc rfl rfl (ew_own_p hn rfl) (m_print hn hp (by first | omega | (simp only [List.length_append, List.length_cons, List.length_nil]; omega))) ?_
                  refine xr_go hc rfl rfl ?_
                  refine xr_go hc rfl rfl ?_
                  refine xr_go hc rfl rfl ?_
                  refine xr_go hc rfl rfl ?_
                  refine xr_v_2 hc rfl rfl (ew_own_p hn rfl) (m_sideOf (s_M_fr (s_sh_fr (s_scr_c rfl) rfl) hM) (s_ecl_h0 hV (m := m) (by omega)) (by omega)) ?_
                  refine xr_go hc rfl rfl ?_
                  refine xr_vv_2 (v := (0, 0)) hc rfl rfl (ew_own_p hn rfl) (m_print hn hp (by first | omega | (simp only [List.length_append, List.length_cons, List.length_nil]; omega))) ?_
                  refine xr_inc_2 hc rfl ?_
                  refine xr_inc_3 hc rfl ?_
                  refine xr_go hc rfl rfl ?_
                  first
                    | (rw [s_es, if_pos (by omega), if_pos (by omega)]
                       exact ih (m + 1) i P _ (by omega) (by omega) (by omega) (by omega))
                    | (rw [s_es, if_pos (by omega), if_neg (by omega), s_n1, s_pq]
                       have hlt : s_lt (s_ecl V m) = if s_ecl V m = 1 then 112 else if s_ecl V m = 2 then 119 else 114 := rfl
                       have h := fun q => ih (m + 1) (i + 1) (P ++ ((if 0 < (i : Int) then [59] else []) ++ (s_nb m ++ ([s_lt (s_ecl V m)] ++ [48 + s_side V m])))) q (by omega) (by omega) (by omega) (by split <;> simp only [List.length_append, List.length_cons, List.length_nil] <;> omega)
                       rw [show (12 : Int) - ((i + 1 : Nat) : Int) = 12 - (i : Int) - 1 by omega] at h
                       simp only [List.append_assoc, List.nil_append] at h ⊢
                       first
                         | (rw [if_pos (show 0 < (i : Int) by omega)] at h ⊢
                            first
                              | (rw [show s_lt (s_ecl V m) = 112 by rw [hlt, if_pos (by omega)]] at h ⊢; exact h _)
                              | (rw [show s_lt (s_ecl V m) = 119 by rw [hlt, if_neg (by omega), if_pos (by omega)]] at h ⊢; exact h _)
                              | (rw [show s_lt (s_ecl V m) = 114 by rw [hlt, if_neg (by omega), if_neg (by omega)]] at h ⊢; exact h _))
                         | (rw [if_neg (show ¬ 0 < (i : Int) by omega)] at h ⊢
                            simp only [List.nil_append] at h ⊢
                            first
                              | (rw [show s_lt (s_ecl V m) = 112 by rw [hlt, if_pos (by omega)]] at h ⊢; exact h _)
                              | (rw [show s_lt (s_ecl V m) = 119 by rw [hlt, if_neg (by omega), if_pos (by omega)]] at h ⊢; exact h _)
                              | (rw [show s_lt (s_ecl V m) = 114 by rw [hlt, if_neg (by omega), if_neg (by omega)]] at h ⊢; exact h _)))
              · skip
                refine xr_go hc rfl rfl ?_
                refine xr_go hc rfl rfl ?_
                refine xr_vv_2 (v := (0, 0)) hc rfl rfl (ew_own_p hn rfl) (m_print hn hp (by first | omega | (simp only [List.length_append, List.length_cons, List.length_nil]; omega))) ?_
                refine xr_go hc rfl rfl ?_
                refine xr_go hc rfl rfl ?_
                refine xr_go hc rfl rfl ?_
                refine xr_go hc rfl rfl ?_
                refine xr_v_2 hc rfl rfl (ew_own_p hn rfl) (m_sideOf (s_M_fr (s_sh_fr (s_scr_c rfl) rfl) hM) (s_ecl_h0 hV (m := m) (by omega)) (by omega)) ?_
                refine xr_go hc rfl rfl ?_
                refine xr_vv_2 (v := (0, 0)) hc rfl rfl (ew_own_p hn rfl) (m_print hn hp (by first | omega | (simp only [List.length_append, List.length_cons, List.length_nil]; omega))) ?_
                refine xr_inc_2 hc rfl ?_
                refine xr_inc_3 hc rfl ?_
                refine xr_go hc rfl rfl ?_
                first
                  | (rw [s_es, if_pos (by omega), if_pos (by omega)]
                     exact ih (m + 1) i P _ (by omega) (by omega) (by omega) (by omega))
                  | (rw [s_es, if_pos (by omega), if_neg (by omega), s_n1, s_pq]
                     have hlt : s_lt (s_ecl V m) = if s_ecl V m = 1 then 112 else if s_ecl V m = 2 then 119 else 114 := rfl
                     have h := fun q => ih (m + 1) (i + 1) (P ++ ((if 0 < (i : Int) then [59] else []) ++ (s_nb m ++ ([s_lt (s_ecl V m)] ++ [48 + s_side V m])))) q (by omega) (by omega) (by omega) (by split <;> simp only [List.length_append, List.length_cons, List.length_nil] <;> omega)
                     rw [show (12 : Int) - ((i + 1 : Nat) : Int) = 12 - (i : Int) - 1 by omega] at h
                     simp only [List.append_assoc, List.nil_append] at h ⊢
                     first
                       | (rw [if_pos (show 0 < (i : Int) by omega)] at h ⊢
                          first
                            | (rw [show s_lt (s_ecl V m) = 112 by rw [hlt, if_pos (by omega)]] at h ⊢; exact h _)
                            | (rw [show s_lt (s_ecl V m) = 119 by rw [hlt, if_neg (by omega), if_pos (by omega)]] at h ⊢; exact h _)
                            | (rw [show s_lt (s_ecl V m) = 114 by rw [hlt, if_neg (by omega), if_neg (by omega)]] at h ⊢; exact h _))
                       | (rw [if_neg (show ¬ 0 < (i : Int) by omega)] at h ⊢
                          simp only [List.nil_append] at h ⊢
                          first
                            | (rw [show s_lt (s_ecl V m) = 112 by rw [hlt, if_pos (by omega)]] at h ⊢; exact h _)
                            | (rw [show s_lt (s_ecl V m) = 119 by rw [hlt, if_neg (by omega), if_pos (by omega)]] at h ⊢; exact h _)
                            | (rw [show s_lt (s_ecl V m) = 114 by rw [hlt, if_neg (by omega), if_neg (by omega)]] at h ⊢; exact h _)))
          · skip
            refine xr_go hc rfl rfl ?_
            refine xr_inc_3 hc rfl ?_
            refine xr_go hc rfl rfl ?_
            first
              | (rw [s_es, if_pos (by omega), if_pos (by omega)]
                 exact ih (m + 1) i P _ (by omega) (by omega) (by omega) (by omega))
              | (rw [s_es, if_pos (by omega), if_neg (by omega), s_n1, s_pq]
                 have hlt : s_lt (s_ecl V m) = if s_ecl V m = 1 then 112 else if s_ecl V m = 2 then 119 else 114 := rfl
                 have h := fun q => ih (m + 1) (i + 1) (P ++ ((if 0 < (i : Int) then [59] else []) ++ (s_nb m ++ ([s_lt (s_ecl V m)] ++ [48 + s_side V m])))) q (by omega) (by omega) (by omega) (by split <;> simp only [List.length_append, List.length_cons, List.length_nil] <;> omega)
                 rw [show (12 : Int) - ((i + 1 : Nat) : Int) = 12 - (i : Int) - 1 by omega] at h
                 simp only [List.append_assoc, List.nil_append] at h ⊢
                 first
                   | (rw [if_pos (show 0 < (i : Int) by omega)] at h ⊢
                      first
                        | (rw [show s_lt (s_ecl V m) = 112 by rw [hlt, if_pos (by omega)]] at h ⊢; exact h _)
                        | (rw [show s_lt (s_ecl V m) = 119 by rw [hlt, if_neg (by omega), if_pos (by omega)]] at h ⊢; exact h _)
                        | (rw [show s_lt (s_ecl V m) = 114 by rw [hlt, if_neg (by omega), if_neg (by omega)]] at h ⊢; exact h _))
                   | (rw [if_neg (show ¬ 0 < (i : Int) by omega)] at h ⊢
                      simp only [List.nil_append] at h ⊢
                      first
                        | (rw [show s_lt (s_ecl V m) = 112 by rw [hlt, if_pos (by omega)]] at h ⊢; exact h _)
                        | (rw [show s_lt (s_ecl V m) = 119 by rw [hlt, if_neg (by omega), if_pos (by omega)]] at h ⊢; exact h _)
                        | (rw [show s_lt (s_ecl V m) = 114 by rw [hlt, if_neg (by omega), if_neg (by omega)]] at h ⊢; exact h _)))

set_option maxRecDepth 20000 in
theorem m_prints {V : ew_Mem} {n : Nat} {M : ew_Mem} (hM : s_M V n M) {m : Int} (hm : s_isM m) : ew_VM 208 [(2, 38), (0, m)] n M n (s_sh M 51 38 18 (s_pp V m)) := by
  obtain ⟨hn, hp, hV, -⟩ := id hM
  have hc := ew_c_208
  show ew_X 208 0 [(2, 38), (0, m), (5, 0), (5, 0), (5, 0)] [] n _ _
  refine xr_go hc rfl rfl ?_
  refine xr_go hc rfl rfl ?_
  refine xr_pf (A := 38) rfl hc rfl (ew_own_p hn rfl) ?_
  refine xr_go hc rfl rfl ?_
  refine xr_s1_2 hc rfl rfl rfl ?_
  refine xr_go hc rfl rfl ?_
  refine xr_s1_3 hc rfl rfl rfl ?_
  rw [s_sh_nil]
  have h := m_prints_1 hM hm (min (m + 3999) 100000 - m + 1).toNat m 0 [] (5, 0) (by omega) (by omega) (by decide) (by decide)
  rw [List.nil_append] at h
  exact h

set_option maxRecDepth 20000 in
theorem mx_spell {V : ew_Mem} {n : Nat} {M : ew_Mem} (hM : s_M V n M) {m : Int} (hm : ew_in m) : ew_C 207 [(2, 38), (0, m)] n M (s_QF (0, s_a_spell V m) n M) := by
  obtain ⟨hn, hp, hV, u0, u1, u2, u3, u4⟩ := id hM
  obtain ⟨hc6, hVW, hnd, hap, hr0, hr1, hr2, hr3, hr4, hr5⟩ := id hV
  have hc := ew_c_207
  show ew_X 207 0 [(2, 38), (0, m)] [] n M _
  refine xr_go hc rfl rfl ?_
  refine xr_s_1 hc rfl rfl (m_isMonth hm) ?_
  refine xr_if_ne hc rfl (by split <;> omega) (fun c1 => ?_) (fun c1 => ?_)
  · skip
    have hfr2 : s_Fr M (s_sh M 51 38 18 (s_pp V m)) := s_sh_fr (s_scr_c rfl) rfl
    have hp3 := s_Fr_pm hfr2 hp
    have hpl := s_pp_len (V := V) (m := m)
    refine xr_go hc rfl rfl ?_
    refine xr_go hc rfl rfl ?_
    refine xr_vv_2 (v := (0, 0)) hc rfl rfl (ew_own_p hn rfl) (m_prints hM (by omega)) ?_
    refine xr_go hc rfl rfl ?_
    refine xr_gf0 (A := 38) rfl hc rfl (ew_own_p hn rfl) (show _ = ((s_pp V m).length : Int) from s_sh_len) ?_
    refine xr_ret hc rfl rfl ?_
    refine ⟨?_, rfl, ?_⟩
    focus
      unfold s_a_spell
      first
        | (rw [if_neg (by omega)]; done)
        | (rw [if_pos (by omega)]; done)
    first
      | exact s_Fr_rfl
      | exact hfr2
  · skip
    refine xr_go hc rfl rfl ?_
    refine xr_ret hc rfl rfl ?_
    refine ⟨?_, rfl, ?_⟩
    focus
      unfold s_a_spell
      first
        | (rw [if_neg (by omega)]; done)
        | (rw [if_pos (by omega)]; done)
    first
      | exact s_Fr_rfl
      | exact hfr2

set_option maxRecDepth 20000 in
theorem mx_paper {V : ew_Mem} {n : Nat} {M : ew_Mem} (hM : s_M V n M) {m i : Int} (hm : ew_in m) (hi : ew_in i) : ew_C 211 [(2, 38), (0, m), (0, i)] n M (s_QF (0, s_a_paper V m i) n M) := by
  obtain ⟨hn, hp, hV, u0, u1, u2, u3, u4⟩ := id hM
  obtain ⟨hc6, hVW, hnd, hap, hr0, hr1, hr2, hr3, hr4, hr5⟩ := id hV
  have hc := ew_c_211
  show ew_X 211 0 [(2, 38), (0, m), (0, i)] [] n M _
  refine xr_go hc rfl rfl ?_
  refine xr_s_1 hc rfl rfl (m_isMonth hm) ?_
  refine xr_if_ne hc rfl (by split <;> omega) (fun c1 => ?_) (fun c1 => ?_)
  · skip
    have hfr2 : s_Fr M (s_sh M 51 38 18 (s_pp V m)) := s_sh_fr (s_scr_c rfl) rfl
    have hp3 := s_Fr_pm hfr2 hp
    have hpl := s_pp_len (V := V) (m := m)
    refine xr_go hc rfl rfl ?_
    refine xr_go hc rfl rfl ?_
    refine xr_vv_2 (v := (0, 0)) hc rfl rfl (ew_own_p hn rfl) (m_prints hM (by omega)) ?_
    refine xr_go hc rfl rfl ?_
    refine xr_i2l hc rfl (by omega) ?_
    refine xr_go hc rfl rfl ?_
    refine xr_go hc rfl rfl ?_
    refine xr_gf0 (A := 38) rfl hc rfl (ew_own_p hn rfl) (show _ = ((s_pp V m).length : Int) from s_sh_len) ?_
    refine xr_go hc rfl rfl ?_
    refine xr_go hc rfl rfl ?_
    refine xr_i2l hc rfl (by omega) ?_
    refine xr_s_3 hc rfl rfl (c_in (by omega) (by decide) (by omega)) ?_
    refine xr_if_eq hc rfl (by split <;> omega) (fun c2 => ?_) (fun c2 => ?_)
    · skip
      refine xr_go hc rfl rfl ?_
      refine xr_ret hc rfl rfl ?_
      refine ⟨?_, rfl, ?_⟩
      focus
        unfold s_a_paper
        first
          | (rw [if_neg (by omega)]; done)
          | (rw [if_pos (by omega)]; done)
          | (rw [if_pos (by omega), s_nth_outI (by omega)]; done)
      first
        | exact s_Fr_rfl
        | exact hfr2
    · skip
      refine xr_go hc rfl rfl ?_
      refine xr_gf2 (A := 38) rfl hc rfl (ew_own_p hn rfl) (ew_pm (v := 51) hp3 rfl) ?_
      refine xr_go hc rfl rfl ?_
      refine xr_iald (A := 51) (N := 140) rfl rfl hc rfl (ew_ok_p hn rfl) (by omega) (by omega) (s_sh_nth (by decide) (by omega)) ?_
      refine xr_go hc rfl rfl ?_
      refine xr_ret hc rfl rfl ?_
      refine ⟨?_, rfl, ?_⟩
      focus
        unfold s_a_paper
        first
          | (rw [if_neg (by omega)]; done)
          | (rw [if_pos (by omega)]; done)
          | (rw [if_pos (by omega), s_nth_outI (by omega)]; done)
      first
        | exact s_Fr_rfl
        | exact hfr2
  · skip
    refine xr_go hc rfl rfl ?_
    refine xr_ret hc rfl rfl ?_
    refine ⟨?_, rfl, ?_⟩
    focus
      unfold s_a_paper
      first
        | (rw [if_neg (by omega)]; done)
        | (rw [if_pos (by omega)]; done)
        | (rw [if_pos (by omega), s_nth_outI (by omega)]; done)
    first
      | exact s_Fr_rfl
      | exact hfr2

