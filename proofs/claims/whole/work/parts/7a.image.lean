/-! image and undo: the class' side, the reference's side -/
theorem s_own_up {t : Nat} {o : Int} {n m : Nat} (h : ew_own t o n = true) (hm : n ≤ m) : ew_own t o m = true := by
  simp only [ew_own, Bool.and_eq_true, decide_eq_true_eq] at h ⊢
  exact ⟨h.1, by omega, h.2.2⟩
theorem s_own_lt {t : Nat} {o : Int} {n : Nat} (h : ew_own t o n = true) : o.toNat < n := by
  simp only [ew_own, Bool.and_eq_true, decide_eq_true_eq] at h
  exact h.2.1
/-- so many wheels of S are copied to D -/
def s_B1 (D S : Nat) (z : Int) (n : Nat) (M : ew_Mem) (i : Nat) (n' : Nat) (M' : ew_Mem) : Prop := (n' : Int) = (n : Int) + min (i : Int) z ∧ (∀ a j : Nat, a < n → ¬ a = D → M' a j = M a j) ∧ (∀ r : Nat, r < i → M' D r = if (r : Int) < z then ((n + r : Nat) : Int) else 0) ∧ ∀ r : Nat, r < i → (r : Int) < z → s_ob M' ((n + r : Nat) : Int) = s_ob M (M S r)
def s_wS (S : Nat) (z : Int) (n : Nat) (M : ew_Mem) : Prop := (0 ≤ z ∧ z ≤ 6) ∧ ∀ r : Nat, r < 6 → ((r : Int) < z ∧ ew_own 6 (M S r) n = true) ∨ (z ≤ (r : Int) ∧ M S r = 0)
theorem s_B1_0 {D S : Nat} {z : Int} {n : Nat} {M : ew_Mem} (hz : 0 ≤ z) : s_B1 D S z n M 0 n M := ⟨by omega, fun _ _ _ _ => rfl, fun r hr => by omega, fun r hr => by omega⟩
theorem s_B1_n {D S : Nat} {z : Int} {n i n' : Nat} {M M' : ew_Mem} (hD : D < n) (h : s_B1 D S z n M i n' M') (hi : z ≤ (i : Int)) : s_B1 D S z n M (i + 1) n' (ew_wr M' D i 0) := by
  obtain ⟨h1, h2, h3, h4⟩ := h
  refine ⟨by omega, fun a j ha hne => ?_, fun r hr => ?_, fun r hr hz => ?_⟩
  · rw [s_ne_rd hne]
    exact h2 a j ha hne
  · by_cases e : r = i
    · rw [e, s_eq_rd, if_neg (by omega)]
    · rw [s_ne_ri e]
      exact h3 r (by omega)
  · rw [← h4 r (by omega) hz]
    refine s_ob_ag (fun j => ?_)
    rw [s_ne_rd (by omega)]
theorem s_B1_s {D S : Nat} {z : Int} {n i n' : Nat} {M M' : ew_Mem} (hD : D < n) (h : s_B1 D S z n M i n' M') (hi : (i : Int) < z) (hw : (M S i).toNat < n ∧ ¬ (M S i).toNat = D) : s_B1 D S z n M (i + 1) (n' + 1) (ew_wr (s_mw (ew_clr M' n') n' (M' (M S i).toNat 0) (M' (M S i).toNat 1) (M' (M S i).toNat 3) (M' (M S i).toNat 4) (M' (M S i).toNat 2)) D i (n' : Int)) := by
  obtain ⟨h1, h2, h3, h4⟩ := h
  have hn' : n' = n + i := by omega
  refine ⟨by omega, fun a j ha hne => ?_, fun r hr => ?_, fun r hr hz => ?_⟩
  · rw [s_ne_rd hne, s_mw_ne (by omega), s_clr_ne (by omega)]
    exact h2 a j ha hne
  · by_cases e : r = i
    · rw [e, s_eq_rd, if_pos hi, hn']
    · rw [s_ne_ri e, s_mw_ne (by omega), s_clr_ne (by omega)]
      exact h3 r (by omega)
  · by_cases e : r = i
    · subst e
      have e1 : s_ob (ew_wr (s_mw (ew_clr M' n') n' (M' (M S r).toNat 0) (M' (M S r).toNat 1) (M' (M S r).toNat 3) (M' (M S r).toNat 4) (M' (M S r).toNat 2)) D r (n' : Int)) (n' : Int) = s_ob (s_mw (ew_clr M' n') n' (M' (M S r).toNat 0) (M' (M S r).toNat 1) (M' (M S r).toNat 3) (M' (M S r).toNat 4) (M' (M S r).toNat 2)) (n' : Int) := s_ob_ag (fun j => by rw [s_ne_rd (by omega)])
      rw [← hn', e1, s_mw_ob, h2 _ _ hw.1 hw.2, h2 _ _ hw.1 hw.2, h2 _ _ hw.1 hw.2, h2 _ _ hw.1 hw.2, h2 _ _ hw.1 hw.2]
      rfl
    · rw [← h4 r (by omega) hz]
      refine s_ob_ag (fun j => ?_)
      rw [s_ne_rd (by omega), s_mw_ne (by omega), s_clr_ne (by omega)]
theorem s_B1_pm {D S : Nat} {z : Int} {n i n' : Nat} {M M' : ew_Mem} (hn : 59 ≤ n) (hD : ew_pa D = false) (h : s_B1 D S z n M i n' M') (hp : ew_Pm M) : ew_Pm M' := by
  intro q hm
  have h1 : ∀ q ∈ ew_perm, q.1 < 59 := by decide +kernel
  have h2 := h1 q hm
  rw [h.2.1 q.1 q.2.1 (by omega) (fun e => by
    unfold ew_pa at hD
    rw [List.any_eq_false] at hD
    exact hD q hm (by simp [e]))]
  exact hp q hm
/-- the rest of a setup copied from s, q to d, p -/
def s_B2 (d p s q : Nat) (M : ew_Mem) : ew_Mem := ew_wr (ew_wr (ew_wr (s_fn M p 0 6 (fun j => M q j)) d 2 (M s 2)) d 3 (M s 3)) d 4 (M s 4)
set_option maxRecDepth 20000 in
theorem c_copied {n : Nat} {M : ew_Mem} (hn : 59 ≤ n) {w : Int} (hw : ew_own 6 w n = true) : ew_FM 47 [(2, w)] n M (2, (n : Int)) (n + 1) (s_mw (ew_clr M n) n (M w.toNat 0) (M w.toNat 1) (M w.toNat 3) (M w.toNat 4) (M w.toNat 2)) := by
  have hlt := s_own_lt hw
  have hc := ew_c_47
  show ew_X 47 0 [(2, w)] [] n M _
  refine xr_new hc rfl (ew_tag_w hn) ?_
  refine xr_go hc rfl rfl ?_
  refine xr_go hc rfl rfl ?_
  refine xr_gf0 (A := w.toNat) rfl hc rfl (s_own_up hw (by omega)) (show _ = M w.toNat 0 from s_clr_ne (by omega)) ?_
  refine xr_go hc rfl rfl ?_
  refine xr_gf0 (A := w.toNat) rfl hc rfl (s_own_up hw (by omega)) (show _ = M w.toNat 1 from s_clr_ne (by omega)) ?_
  refine xr_go hc rfl rfl ?_
  refine xr_gf0 (A := w.toNat) rfl hc rfl (s_own_up hw (by omega)) (show _ = M w.toNat 3 from s_clr_ne (by omega)) ?_
  refine xr_go hc rfl rfl ?_
  refine xr_gf0 (A := w.toNat) rfl hc rfl (s_own_up hw (by omega)) (show _ = M w.toNat 4 from s_clr_ne (by omega)) ?_
  refine xr_go hc rfl rfl ?_
  refine xr_gf0 (A := w.toNat) rfl hc rfl (s_own_up hw (by omega)) (show _ = M w.toNat 2 from s_clr_ne (by omega)) ?_
  refine xr_iv_6 (v := (0, 0)) hc rfl rfl (ew_own_w (by omega) (by omega)) (c_whInit (by omega)) ?_
  refine xr_ret hc rfl rfl ?_
  exact ⟨rfl, rfl, rfl⟩

set_option maxRecDepth 20000 in
theorem c_bw_i {n : Nat} {M : ew_Mem} {z : Int} (hn : 59 ≤ n) (hp : ew_Pm M) (hS : s_wS 6 z n M) {Q : Option ew_AV → Nat → ew_Mem → Prop} : ∀ (j i n' : Nat) (M' : ew_Mem) (q : ew_AV), i + j = 6 → s_B1 9 6 z n M i n' M' → (∀ n2 M2 q2, s_B1 9 6 z n M 6 n2 M2 → ew_X 87 39 [(2, 8), (2, 5), (0, 6), q2] [] n2 M2 Q) →
    ew_X 87 2 [(2, 8), (2, 5), (0, (i : Int)), q] [] n' M' Q := by
  have hc := ew_c_87
  intro j
  induction j with
  | zero =>
    intro i n' M' q hj hB hk
    obtain rfl : i = 6 := by omega
    obtain ⟨hz, hS2⟩ := id hS
    have hp2 := s_B1_pm hn rfl hB hp
    have hn2 : 59 ≤ n' := by have := hB.1; omega
    refine xr_go hc rfl rfl ?_
    refine xr_go hc rfl rfl ?_
    refine xr_icmp_ge hc rfl (by omega) (by decide) (fun c1 => ?_) (fun c1 => ?_)
    · skip
      exact hk _ _ _ hB
    · exfalso; omega
  | succ j ih =>
    intro i n' M' q hj hB hk
    obtain ⟨hz, hS2⟩ := id hS
    have hp2 := s_B1_pm hn rfl hB hp
    have hn2 : 59 ≤ n' := by have := hB.1; omega
    have hS4 : 0 < M 6 i → (M 6 i).toNat < n ∧ ¬ (M 6 i).toNat = 9 := by
      intro hpos
      rcases hS2 i (by omega) with g | g
      · have g2 := s_own6 g.2
        exact ⟨s_own_lt g.2, by omega⟩
      · omega
    have hS5 : M 6 i ≤ 0 → z ≤ (i : Int) := by
      intro hneg
      rcases hS2 i (by omega) with g | g
      · have g2 := s_own6 g.2
        omega
      · exact g.1
    refine xr_go hc rfl rfl ?_
    refine xr_go hc rfl rfl ?_
    refine xr_icmp_ge hc rfl (by omega) (by decide) (fun c1 => ?_) (fun c1 => ?_)
    · exfalso; omega
    · skip
      refine xr_go hc rfl rfl ?_
      refine xr_gf2 (A := 5) rfl hc rfl (ew_own_p (by omega) rfl) (ew_pm (v := 6) hp2 rfl) ?_
      refine xr_go hc rfl rfl ?_
      refine xr_aald (A := 6) (t := 22) (N := 6) rfl rfl hc rfl (ew_own_p (by omega) rfl) (by decide) (by omega) (by omega) (show _ = M 6 i from hB.2.1 6 i (by omega) (by decide)) ?_
      refine xr_s1_3 hc rfl rfl rfl ?_
      refine xr_go hc rfl rfl ?_
      refine xr_gf2 (A := 8) rfl hc rfl (ew_own_p (by omega) rfl) (ew_pm (v := 9) hp2 rfl) ?_
      refine xr_go hc rfl rfl ?_
      refine xr_go hc rfl rfl ?_
      have hS3 : 0 < M 6 i → (i : Int) < z ∧ ew_own 6 (M 6 i) n' = true := by
        intro hpos
        rcases hS2 i (by omega) with g | g
        · exact ⟨g.1, s_own_up g.2 (by have := hB.1; omega)⟩
        · omega
      refine xr_nonnull hc rfl (fun c2 => ?_) (fun c2 => ?_)
      · skip
        refine xr_go hc rfl rfl ?_
        refine xr_v_1 hc rfl rfl (hS3 (by omega)).2 (c_copied hn2 (hS3 (by omega)).2) ?_
        refine xr_aast (A := 9) (N := 6) rfl rfl hc rfl (ew_own_p (by omega) rfl) (by first | exact Or.inl rfl | exact Or.inr (ew_own_w (by omega) (by omega))) (by omega) (by omega) ?_
        refine xr_inc_2 hc rfl ?_
        refine xr_go hc rfl rfl ?_
        rw [s_n1]
        first
          | exact ih (i + 1) _ _ _ (by omega) (s_B1_s (by omega) hB (hS3 (by omega)).1 (hS4 (by omega))) hk
          | exact ih (i + 1) _ _ _ (by omega) (s_B1_n (by omega) hB (hS5 (by omega))) hk
      · skip
        refine xr_go hc rfl rfl ?_
        refine xr_go hc rfl rfl ?_
        refine xr_aast (A := 9) (N := 6) rfl rfl hc rfl (ew_own_p (by omega) rfl) (by first | exact Or.inl rfl | exact Or.inr (ew_own_w (by omega) (by omega))) (by omega) (by omega) ?_
        refine xr_inc_2 hc rfl ?_
        refine xr_go hc rfl rfl ?_
        rw [s_n1]
        first
          | exact ih (i + 1) _ _ _ (by omega) (s_B1_s (by omega) hB (hS3 (by omega)).1 (hS4 (by omega))) hk
          | exact ih (i + 1) _ _ _ (by omega) (s_B1_n (by omega) hB (hS5 (by omega))) hk

set_option maxRecDepth 20000 in
theorem c_br_i {n : Nat} {M : ew_Mem} (hn : 59 ≤ n) (hp : ew_Pm M) {q : ew_AV} {Q : Option ew_AV → Nat → ew_Mem → Prop} (hk : ew_X 87 65 [(2, 8), (2, 5), (0, 6), q] [] n (s_fn M 10 0 6 (fun j => M 7 j)) Q) : ∀ (j i : Nat), i + j = 6 →
    ew_X 87 41 [(2, 8), (2, 5), (0, (i : Int)), q] [] n (s_fn M 10 0 i (fun j => M 7 j)) Q := by
  have hc := ew_c_87
  intro j
  induction j with
  | zero =>
    intro i hj
    obtain rfl : i = 6 := by omega
    refine xr_go hc rfl rfl ?_
    refine xr_go hc rfl rfl ?_
    refine xr_icmp_ge hc rfl (by omega) (by decide) (fun c1 => ?_) (fun c1 => ?_)
    · skip
      exact hk
    · exfalso; omega
  | succ j ih =>
    intro i hj
    refine xr_go hc rfl rfl ?_
    refine xr_go hc rfl rfl ?_
    refine xr_icmp_ge hc rfl (by omega) (by decide) (fun c1 => ?_) (fun c1 => ?_)
    · exfalso; omega
    · skip
      refine xr_go hc rfl rfl ?_
      refine xr_gf2 (A := 8) rfl hc rfl (ew_own_p hn rfl) (show _ = (10 : Int) from (s_fn_ne (by decide)).trans (ew_pm (v := 10) hp rfl)) ?_
      refine xr_go hc rfl rfl ?_
      refine xr_go hc rfl rfl ?_
      refine xr_gf2 (A := 5) rfl hc rfl (ew_own_p hn rfl) (show _ = (7 : Int) from (s_fn_ne (by decide)).trans (ew_pm (v := 7) hp rfl)) ?_
      refine xr_go hc rfl rfl ?_
      refine xr_iald (A := 7) (N := 6) rfl rfl hc rfl (ew_ok_p hn rfl) (by omega) (by omega) (show _ = M 7 i from s_fn_ne (by decide)) ?_
      refine xr_iast (A := 10) (N := 6) rfl rfl hc rfl (ew_own_p hn rfl) (by omega) (by omega) ?_
      refine xr_inc_2 hc rfl ?_
      refine xr_go hc rfl rfl ?_
      rw [s_n1, s_fn_w2 (by omega) rfl]
      exact ih (i + 1) (by omega)

set_option maxRecDepth 20000 in
theorem c_become_i {n : Nat} {M : ew_Mem} {z : Int} (hn : 59 ≤ n) (hp : ew_Pm M) (hS : s_wS 6 z n M) : ew_C 87 [(2, 8), (2, 5)] n M (fun r n2 M3 => r = none ∧ ∃ M2, s_B1 9 6 z n M 6 n2 M2 ∧ M3 = s_B2 8 10 5 7 M2) := by
  have hc := ew_c_87
  show ew_X 87 0 [(2, 8), (2, 5), (5, 0), (5, 0)] [] n M _
  refine xr_go hc rfl rfl ?_
  refine xr_s1_2 hc rfl rfl rfl ?_
  refine c_bw_i hn hp hS 6 0 n M _ rfl (s_B1_0 hS.1.1) (fun n2 M2 q2 hB => ?_)
  have hn2 : 59 ≤ n2 := by have := hB.1; have := hS.1; omega
  have hp2 := s_B1_pm hn rfl hB hp
  refine xr_go hc rfl rfl ?_
  refine xr_s1_2 hc rfl rfl rfl ?_
  have hg := c_br_i hn2 hp2 (q := q2) (Q := fun r n3 M3 => r = none ∧ ∃ M2, s_B1 9 6 z n M 6 n3 M2 ∧ M3 = s_B2 8 10 5 7 M2) ?_ 6 0 rfl
  · rw [s_fn_0] at hg
    exact hg
  · skip
    refine xr_go hc rfl rfl ?_
    refine xr_go hc rfl rfl ?_
    refine xr_gf0 (A := 5) rfl hc rfl (ew_own_p hn2 rfl) (show _ = M2 5 2 from rfl) ?_
    refine xr_pf (A := 8) rfl hc rfl (ew_own_p hn2 rfl) ?_
    refine xr_go hc rfl rfl ?_
    refine xr_go hc rfl rfl ?_
    refine xr_gf0 (A := 5) rfl hc rfl (ew_own_p hn2 rfl) (show _ = M2 5 3 from rfl) ?_
    refine xr_pf (A := 8) rfl hc rfl (ew_own_p hn2 rfl) ?_
    refine xr_go hc rfl rfl ?_
    refine xr_go hc rfl rfl ?_
    refine xr_gf0 (A := 5) rfl hc rfl (ew_own_p hn2 rfl) (show _ = M2 5 4 from rfl) ?_
    refine xr_pf (A := 8) rfl hc rfl (ew_own_p hn2 rfl) ?_
    refine xr_ret hc rfl rfl ?_
    exact ⟨rfl, M2, hB, rfl⟩

set_option maxRecDepth 20000 in
theorem c_bw_u {n : Nat} {M : ew_Mem} {z : Int} (hn : 59 ≤ n) (hp : ew_Pm M) (hS : s_wS 9 z n M) {Q : Option ew_AV → Nat → ew_Mem → Prop} : ∀ (j i n' : Nat) (M' : ew_Mem) (q : ew_AV), i + j = 6 → s_B1 6 9 z n M i n' M' → (∀ n2 M2 q2, s_B1 6 9 z n M 6 n2 M2 → ew_X 87 39 [(2, 5), (2, 8), (0, 6), q2] [] n2 M2 Q) →
    ew_X 87 2 [(2, 5), (2, 8), (0, (i : Int)), q] [] n' M' Q := by
  have hc := ew_c_87
  intro j
  induction j with
  | zero =>
    intro i n' M' q hj hB hk
    obtain rfl : i = 6 := by omega
    obtain ⟨hz, hS2⟩ := id hS
    have hp2 := s_B1_pm hn rfl hB hp
    have hn2 : 59 ≤ n' := by have := hB.1; omega
    refine xr_go hc rfl rfl ?_
    refine xr_go hc rfl rfl ?_
    refine xr_icmp_ge hc rfl (by omega) (by decide) (fun c1 => ?_) (fun c1 => ?_)
    · skip
      exact hk _ _ _ hB
    · exfalso; omega
  | succ j ih =>
    intro i n' M' q hj hB hk
    obtain ⟨hz, hS2⟩ := id hS
    have hp2 := s_B1_pm hn rfl hB hp
    have hn2 : 59 ≤ n' := by have := hB.1; omega
    have hS4 : 0 < M 9 i → (M 9 i).toNat < n ∧ ¬ (M 9 i).toNat = 6 := by
      intro hpos
      rcases hS2 i (by omega) with g | g
      · have g2 := s_own6 g.2
        exact ⟨s_own_lt g.2, by omega⟩
      · omega
    have hS5 : M 9 i ≤ 0 → z ≤ (i : Int) := by
      intro hneg
      rcases hS2 i (by omega) with g | g
      · have g2 := s_own6 g.2
        omega
      · exact g.1
    refine xr_go hc rfl rfl ?_
    refine xr_go hc rfl rfl ?_
    refine xr_icmp_ge hc rfl (by omega) (by decide) (fun c1 => ?_) (fun c1 => ?_)
    · exfalso; omega
    · skip
      refine xr_go hc rfl rfl ?_
      refine xr_gf2 (A := 8) rfl hc rfl (ew_own_p (by omega) rfl) (ew_pm (v := 9) hp2 rfl) ?_
      refine xr_go hc rfl rfl ?_
      refine xr_aald (A := 9) (t := 22) (N := 6) rfl rfl hc rfl (ew_own_p (by omega) rfl) (by decide) (by omega) (by omega) (show _ = M 9 i from hB.2.1 9 i (by omega) (by decide)) ?_
      refine xr_s1_3 hc rfl rfl rfl ?_
      refine xr_go hc rfl rfl ?_
      refine xr_gf2 (A := 5) rfl hc rfl (ew_own_p (by omega) rfl) (ew_pm (v := 6) hp2 rfl) ?_
      refine xr_go hc rfl rfl ?_
      refine xr_go hc rfl rfl ?_
      have hS3 : 0 < M 9 i → (i : Int) < z ∧ ew_own 6 (M 9 i) n' = true := by
        intro hpos
        rcases hS2 i (by omega) with g | g
        · exact ⟨g.1, s_own_up g.2 (by have := hB.1; omega)⟩
        · omega
      refine xr_nonnull hc rfl (fun c2 => ?_) (fun c2 => ?_)
      · skip
        refine xr_go hc rfl rfl ?_
        refine xr_v_1 hc rfl rfl (hS3 (by omega)).2 (c_copied hn2 (hS3 (by omega)).2) ?_
        refine xr_aast (A := 6) (N := 6) rfl rfl hc rfl (ew_own_p (by omega) rfl) (by first | exact Or.inl rfl | exact Or.inr (ew_own_w (by omega) (by omega))) (by omega) (by omega) ?_
        refine xr_inc_2 hc rfl ?_
        refine xr_go hc rfl rfl ?_
        rw [s_n1]
        first
          | exact ih (i + 1) _ _ _ (by omega) (s_B1_s (by omega) hB (hS3 (by omega)).1 (hS4 (by omega))) hk
          | exact ih (i + 1) _ _ _ (by omega) (s_B1_n (by omega) hB (hS5 (by omega))) hk
      · skip
        refine xr_go hc rfl rfl ?_
        refine xr_go hc rfl rfl ?_
        refine xr_aast (A := 6) (N := 6) rfl rfl hc rfl (ew_own_p (by omega) rfl) (by first | exact Or.inl rfl | exact Or.inr (ew_own_w (by omega) (by omega))) (by omega) (by omega) ?_
        refine xr_inc_2 hc rfl ?_
        refine xr_go hc rfl rfl ?_
        rw [s_n1]
        first
          | exact ih (i + 1) _ _ _ (by omega) (s_B1_s (by omega) hB (hS3 (by omega)).1 (hS4 (by omega))) hk
          | exact ih (i + 1) _ _ _ (by omega) (s_B1_n (by omega) hB (hS5 (by omega))) hk

set_option maxRecDepth 20000 in
theorem c_br_u {n : Nat} {M : ew_Mem} (hn : 59 ≤ n) (hp : ew_Pm M) {q : ew_AV} {Q : Option ew_AV → Nat → ew_Mem → Prop} (hk : ew_X 87 65 [(2, 5), (2, 8), (0, 6), q] [] n (s_fn M 7 0 6 (fun j => M 10 j)) Q) : ∀ (j i : Nat), i + j = 6 →
    ew_X 87 41 [(2, 5), (2, 8), (0, (i : Int)), q] [] n (s_fn M 7 0 i (fun j => M 10 j)) Q := by
  have hc := ew_c_87
  intro j
  induction j with
  | zero =>
    intro i hj
    obtain rfl : i = 6 := by omega
    refine xr_go hc rfl rfl ?_
    refine xr_go hc rfl rfl ?_
    refine xr_icmp_ge hc rfl (by omega) (by decide) (fun c1 => ?_) (fun c1 => ?_)
    · skip
      exact hk
    · exfalso; omega
  | succ j ih =>
    intro i hj
    refine xr_go hc rfl rfl ?_
    refine xr_go hc rfl rfl ?_
    refine xr_icmp_ge hc rfl (by omega) (by decide) (fun c1 => ?_) (fun c1 => ?_)
    · exfalso; omega
    · skip
      refine xr_go hc rfl rfl ?_
      refine xr_gf2 (A := 5) rfl hc rfl (ew_own_p hn rfl) (show _ = (7 : Int) from (s_fn_ne (by decide)).trans (ew_pm (v := 7) hp rfl)) ?_
      refine xr_go hc rfl rfl ?_
      refine xr_go hc rfl rfl ?_
      refine xr_gf2 (A := 8) rfl hc rfl (ew_own_p hn rfl) (show _ = (10 : Int) from (s_fn_ne (by decide)).trans (ew_pm (v := 10) hp rfl)) ?_
      refine xr_go hc rfl rfl ?_
      refine xr_iald (A := 10) (N := 6) rfl rfl hc rfl (ew_ok_p hn rfl) (by omega) (by omega) (show _ = M 10 i from s_fn_ne (by decide)) ?_
      refine xr_iast (A := 7) (N := 6) rfl rfl hc rfl (ew_own_p hn rfl) (by omega) (by omega) ?_
      refine xr_inc_2 hc rfl ?_
      refine xr_go hc rfl rfl ?_
      rw [s_n1, s_fn_w2 (by omega) rfl]
      exact ih (i + 1) (by omega)

set_option maxRecDepth 20000 in
theorem c_become_u {n : Nat} {M : ew_Mem} {z : Int} (hn : 59 ≤ n) (hp : ew_Pm M) (hS : s_wS 9 z n M) : ew_C 87 [(2, 5), (2, 8)] n M (fun r n2 M3 => r = none ∧ ∃ M2, s_B1 6 9 z n M 6 n2 M2 ∧ M3 = s_B2 5 7 8 10 M2) := by
  have hc := ew_c_87
  show ew_X 87 0 [(2, 5), (2, 8), (5, 0), (5, 0)] [] n M _
  refine xr_go hc rfl rfl ?_
  refine xr_s1_2 hc rfl rfl rfl ?_
  refine c_bw_u hn hp hS 6 0 n M _ rfl (s_B1_0 hS.1.1) (fun n2 M2 q2 hB => ?_)
  have hn2 : 59 ≤ n2 := by have := hB.1; have := hS.1; omega
  have hp2 := s_B1_pm hn rfl hB hp
  refine xr_go hc rfl rfl ?_
  refine xr_s1_2 hc rfl rfl rfl ?_
  have hg := c_br_u hn2 hp2 (q := q2) (Q := fun r n3 M3 => r = none ∧ ∃ M2, s_B1 6 9 z n M 6 n3 M2 ∧ M3 = s_B2 5 7 8 10 M2) ?_ 6 0 rfl
  · rw [s_fn_0] at hg
    exact hg
  · skip
    refine xr_go hc rfl rfl ?_
    refine xr_go hc rfl rfl ?_
    refine xr_gf0 (A := 8) rfl hc rfl (ew_own_p hn2 rfl) (show _ = M2 8 2 from rfl) ?_
    refine xr_pf (A := 5) rfl hc rfl (ew_own_p hn2 rfl) ?_
    refine xr_go hc rfl rfl ?_
    refine xr_go hc rfl rfl ?_
    refine xr_gf0 (A := 8) rfl hc rfl (ew_own_p hn2 rfl) (show _ = M2 8 3 from rfl) ?_
    refine xr_pf (A := 5) rfl hc rfl (ew_own_p hn2 rfl) ?_
    refine xr_go hc rfl rfl ?_
    refine xr_go hc rfl rfl ?_
    refine xr_gf0 (A := 8) rfl hc rfl (ew_own_p hn2 rfl) (show _ = M2 8 4 from rfl) ?_
    refine xr_pf (A := 5) rfl hc rfl (ew_own_p hn2 rfl) ?_
    refine xr_ret hc rfl rfl ?_
    exact ⟨rfl, M2, hB, rfl⟩

set_option maxRecDepth 20000 in
theorem cx_image {n : Nat} {M : ew_Mem} (hn : 59 ≤ n) (hp : ew_Pm M) {z : Int} (hz : M 5 2 = z) (hS : s_wS 6 z n M) : ew_C 146 [(2, 4)] n M (fun r n2 M3 => r = some (0, z) ∧ ∃ M2, s_B1 9 6 z n M 6 n2 M2 ∧ M3 = ew_wr (s_B2 8 10 5 7 M2) 4 2 1) := by
  have hc := ew_c_146
  show ew_X 146 0 [(2, 4)] [] n M _
  refine xr_go hc rfl rfl ?_
  refine xr_gf2 (A := 4) (w := 8) rfl hc rfl (ew_own_p (by omega) rfl) (ew_pm hp rfl) ?_
  refine xr_go hc rfl rfl ?_
  refine xr_gf2 (A := 4) (w := 5) rfl hc rfl (ew_own_p (by omega) rfl) (ew_pm hp rfl) ?_
  refine xr_vC_2 hc rfl rfl (ew_own_p (by omega) rfl) (c_become_i hn hp hS) ?_
  rintro w n2 M3 ⟨rfl, M2, hB, rfl⟩
  have hn2 : 59 ≤ n2 := by have := hB.1; have := hS.1; omega
  have hp2 := s_B1_pm hn rfl hB hp
  have hp5 : ew_wr (s_B2 8 10 5 7 M2) 4 2 1 4 0 = 5 := (show _ = M2 4 0 from rfl).trans (ew_pm (v := 5) hp2 rfl)
  have h52 : ew_wr (s_B2 8 10 5 7 M2) 4 2 1 5 2 = z := (show _ = M2 5 2 from rfl).trans ((hB.2.1 5 2 (by omega) (by decide)).trans hz)
  show ew_X 146 _ _ [] _ _ _
  refine xr_go hc rfl rfl ?_
  refine xr_go hc rfl rfl ?_
  refine xr_pfB (A := 4) rfl hc rfl (ew_own_p (by omega) rfl) (Or.inr rfl) ?_
  refine xr_go hc rfl rfl ?_
  refine xr_gf2 (A := 4) rfl hc rfl (ew_own_p (by omega) rfl) (show _ = (5 : Int) from hp5) ?_
  refine xr_gf0 (A := 5) rfl hc rfl (ew_own_p (by omega) rfl) (show _ = z from h52) ?_
  refine xr_ret hc rfl rfl ?_
  exact ⟨rfl, M2, hB, rfl⟩

set_option maxRecDepth 20000 in
theorem cx_undo {n : Nat} {M : ew_Mem} (hn : 59 ≤ n) (hp : ew_Pm M) {z : Int} (h1 : M 4 2 = 1) (hz : M 8 2 = z) (hS : s_wS 9 z n M) : ew_C 147 [(2, 4)] n M (fun r n2 M3 => r = some (0, z) ∧ ∃ M2, s_B1 6 9 z n M 6 n2 M2 ∧ M3 = s_B2 5 7 8 10 M2) := by
  have hc := ew_c_147
  show ew_X 147 0 [(2, 4)] [] n M _
  refine xr_go hc rfl rfl ?_
  refine xr_gf0 (A := 4) rfl hc rfl (ew_own_p (by omega) rfl) h1 ?_
  refine xr_if_ne hc rfl (by decide) (fun c1 => ?_) (fun c1 => ?_)
  · skip
    refine xr_go hc rfl rfl ?_
    refine xr_gf2 (A := 4) (w := 5) rfl hc rfl (ew_own_p (by omega) rfl) (ew_pm hp rfl) ?_
    refine xr_go hc rfl rfl ?_
    refine xr_gf2 (A := 4) (w := 8) rfl hc rfl (ew_own_p (by omega) rfl) (ew_pm hp rfl) ?_
    refine xr_vC_2 hc rfl rfl (ew_own_p (by omega) rfl) (c_become_u hn hp hS) ?_
    rintro w n2 M3 ⟨rfl, M2, hB, rfl⟩
    have hn2 : 59 ≤ n2 := by have := hB.1; have := hS.1; omega
    have hp2 := s_B1_pm hn rfl hB hp
    have hp5 : s_B2 5 7 8 10 M2 4 0 = 5 := (show _ = M2 4 0 from rfl).trans (ew_pm (v := 5) hp2 rfl)
    have h52 : s_B2 5 7 8 10 M2 5 2 = z := (show _ = M2 8 2 from rfl).trans ((hB.2.1 8 2 (by omega) (by decide)).trans hz)
    show ew_X 147 _ _ [] _ _ _
    refine xr_go hc rfl rfl ?_
    refine xr_gf2 (A := 4) rfl hc rfl (ew_own_p (by omega) rfl) (show _ = (5 : Int) from hp5) ?_
    refine xr_gf0 (A := 5) rfl hc rfl (ew_own_p (by omega) rfl) (show _ = z from h52) ?_
    refine xr_ret hc rfl rfl ?_
    exact ⟨rfl, M2, hB, rfl⟩
  · exfalso; omega

set_option maxRecDepth 20000 in
theorem cx_undoN {n : Nat} {M : ew_Mem} (hn : 59 ≤ n) (hp : ew_Pm M) (h1 : M 4 2 = 0) : ew_FM 147 [(2, 4)] n M (0, -3) n M := by
  have hc := ew_c_147
  show ew_X 147 0 [(2, 4)] [] n M _
  refine xr_go hc rfl rfl ?_
  refine xr_gf0 (A := 4) rfl hc rfl (ew_own_p hn rfl) h1 ?_
  refine xr_if_ne hc rfl (by decide) (fun c1 => ?_) (fun c1 => ?_)
  · exfalso; omega
  · skip
    refine xr_go hc rfl rfl ?_
    refine xr_ret hc rfl rfl ?_
    first
      | exact ⟨rfl, rfl, rfl⟩
      | (exfalso; omega)

