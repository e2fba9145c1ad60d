/-! read: the class -/
theorem s_fr_pm {i : Nat} {M M' : ew_Mem} (h : s_fr i M M') (hp : ew_Pm M) : ew_Pm M' := by
  intro q hm
  have h1 : ∀ q ∈ ew_perm, ¬ (q.1 = 27 ∧ 5 ≤ q.2.1 ∧ q.2.1 ≤ 7) ∧ ¬ (q.1 = 29 ∨ q.1 = 30) ∧ ¬ q.1 = 31 := by decide +kernel
  obtain ⟨g1, g2, g3⟩ := h1 q hm
  rw [h q.1 q.2.1 g1 (fun e => g2 e.1) (fun e => g3 e.1)]
  exact hp q hm
theorem s_fr_C {M M' : ew_Mem} (h : s_fr 0 M M') : s_aC M M' := by
  intro a i ha hs
  refine h a i (fun e => ?_) (fun e => ?_) (fun e => ?_)
  · have : i = 5 ∨ i = 6 ∨ i = 7 := by omega
    obtain ⟨rfl, h5⟩ := e
    rcases this with rfl | rfl | rfl
    · exact absurd hs (by decide)
    · exact absurd hs (by decide)
    · exact absurd hs (by decide)
  · rcases e.1 with rfl | rfl
    · unfold s_scr at hs
      simp at hs
    · unfold s_scr at hs
      simp at hs
  · obtain ⟨rfl, -⟩ := e
    unfold s_scr at hs
    simp at hs
theorem s_do_o {t : s_ST} {n : Nat} {X : ew_Mem} {a j : Nat} (h5 : ¬ a = 5) (h6 : ¬ a = 6) (h7 : ¬ a = 7) (hn : ¬ a = n) : (s_do t n X).2 a j = X a j := by
  unfold s_do
  repeat' split
  all_goals first
    | exact s_ne_rd h5
    | exact s_ne_rd h7
    | exact s_ad_n hn h6 (fun e => absurd e h5)
theorem s_do_n {t : s_ST} {n : Nat} {X : ew_Mem} (h : t.2.1 = 110) : s_do t n X = (n, ew_wr X 5 3 t.2.2.1) := by
  unfold s_do
  rw [if_pos h]
theorem s_do_a {t : s_ST} {n : Nat} {X : ew_Mem} (h : t.2.1 = 97) : s_do t n X = (n, ew_wr X 5 4 t.2.2.1) := by
  unfold s_do
  rw [if_neg (by omega), if_pos h]
theorem s_do_r {t : s_ST} {n : Nat} {X : ew_Mem} (h : t.2.1 = 111) : s_do t n X = (n, ew_wr X 7 0 t.2.2.1) := by
  unfold s_do
  rw [if_neg (by omega), if_neg (by omega), if_pos h]
theorem s_do_i {t : s_ST} {n : Nat} {X : ew_Mem} (h : t.2.1 = 105) : s_do t n X = (n, ew_wr X 7 1 t.2.2.1) := by
  unfold s_do
  rw [if_neg (by omega), if_neg (by omega), if_neg (by omega), if_pos h]
theorem s_do_w {t : s_ST} {n : Nat} {X : ew_Mem} (h : ¬ t.2.1 = 110 ∧ ¬ t.2.1 = 97 ∧ ¬ t.2.1 = 111 ∧ ¬ t.2.1 = 105) : s_do t n X = (n + 1, s_ad X n (s_kd t.2.1) t.2.2.2.1 t.2.2.1 t.2.2.2.2 (s_md (s_kd t.2.1) t.2.2.2.2 (if X 5 2 = 0 then 1 else 0)) (X 5 2)) := by
  unfold s_do
  rw [if_neg h.1, if_neg h.2.1, if_neg h.2.2.1, if_neg h.2.2.2]
theorem s_do_5 {t : s_ST} {n : Nat} {X : ew_Mem} (ht : s_tOK t) : (s_do t n X).2 5 2 = if s_kd t.2.1 = -1 then X 5 2 else X 5 2 + 1 := by
  by_cases h1 : t.2.1 = 110
  · rw [s_do_n h1, h1, if_pos (by decide)]
    rfl
  · by_cases h2 : t.2.1 = 97
    · rw [s_do_a h2, h2, if_pos (by decide)]
      rfl
    · by_cases h3 : t.2.1 = 111
      · rw [s_do_r h3, h3, if_pos (by decide)]
        rfl
      · by_cases h4 : t.2.1 = 105
        · rw [s_do_i h4, h4, if_pos (by decide)]
          rfl
        · rw [s_do_w ⟨h1, h2, h3, h4⟩]
          have hk : ¬ s_kd t.2.1 = -1 := by
            rcases ht.1 with g | g | g | g | g
            · exact g
            all_goals (exfalso; omega)
          refine Eq.trans ?_ (if_neg hk).symm
          exact s_ad_2 (X := X) (n := n) (k := s_kd t.2.1) (p := t.2.2.2.1) (s := t.2.2.1) (t := t.2.2.2.2) (d := s_md (s_kd t.2.1) t.2.2.2.2 (if X 5 2 = 0 then 1 else 0)) (z := X 5 2)
theorem s_cb_def {t : s_ST} {w : Int} (h : s_cb w t = true) : (t.2.1 = 110 ∧ t.2.2.1 < w) ∨ (t.2.1 = 97 ∧ t.2.2.1 < w) ∨ (t.2.1 = 111 ∧ s_rok 0 t.2.2.1 = true) ∨ (t.2.1 = 105 ∧ s_rok 1 t.2.2.1 = true) ∨ ((¬ t.2.1 = 110 ∧ ¬ t.2.1 = 97 ∧ ¬ t.2.1 = 111 ∧ ¬ t.2.1 = 105) ∧ w < 6 ∧ (0 ≤ s_kd t.2.1 ∧ s_kd t.2.1 ≤ 4) ∧ s_AB t.2.2.2.1 t.2.2.1 t.2.2.2.2) := by
  have h2 := of_decide_eq_true h
  by_cases e1 : t.2.1 = 110
  · rw [if_pos (Or.inl e1)] at h2
    exact Or.inl ⟨e1, h2⟩
  · by_cases e2 : t.2.1 = 97
    · rw [if_pos (Or.inr e2)] at h2
      exact Or.inr (Or.inl ⟨e2, h2⟩)
    · rw [if_neg (by omega)] at h2
      by_cases e3 : t.2.1 = 111
      · rw [if_pos e3] at h2
        exact Or.inr (Or.inr (Or.inl ⟨e3, h2⟩))
      · rw [if_neg e3] at h2
        by_cases e4 : t.2.1 = 105
        · rw [if_pos e4] at h2
          exact Or.inr (Or.inr (Or.inr (Or.inl ⟨e4, h2⟩)))
        · rw [if_neg e4] at h2
          exact Or.inr (Or.inr (Or.inr (Or.inr ⟨⟨e1, e2, e3, e4⟩, h2⟩)))
theorem s_md_in {k s f : Int} : 0 ≤ s_md k s f ∧ s_md k s f < 2147483648 := by
  have := s_md_bd (k := k) (s := s) (f := f)
  omega
theorem K_node {c n : Nat} {X : ew_Mem} (hK : s_K c n X) {w : Int} (hw : 0 ≤ w ∧ w < X 5 2) : s_K (c + 1) n (ew_wr X 5 3 w) := by
  have h := hK.2.2.2.1.2.2.1
  have hg := K_bind hK (w := w) (a := X 5 4) ⟨hw, by show X 5 4 = -1 ∨ (0 ≤ X 5 4 ∧ X 5 4 < X 5 2); omega⟩
  rw [s_wr_id (M := ew_wr X 5 3 w) (a := 5) (i := 4) (v := X 5 4) rfl] at hg
  exact hg
theorem K_apse {c n : Nat} {X : ew_Mem} (hK : s_K c n X) {w : Int} (hw : 0 ≤ w ∧ w < X 5 2) : s_K (c + 1) n (ew_wr X 5 4 w) := by
  have h := hK.2.2.2.1.2.1
  have hg := K_bind hK (w := X 5 3) (a := w) ⟨by show 0 ≤ X 5 3 ∧ X 5 3 < X 5 2; omega, Or.inr hw⟩
  rw [s_wr_id (M := X) (a := 5) (i := 3) (v := X 5 3) rfl] at hg
  exact hg
theorem K_do {c n : Nat} {X : ew_Mem} (hK : s_K c n X) {t : s_ST} (ht : s_tOK t) (hcb : s_cb (X 5 2) t = true) : s_K (c + 1) (s_do t n X).1 (s_do t n X).2 := by
  have hb := ht.2.2.1
  rcases s_cb_def hcb with ⟨h1, h2⟩ | ⟨h1, h2⟩ | ⟨h1, h2⟩ | ⟨h1, h2⟩ | ⟨h1, h2, h3, h4⟩
  · rw [s_do_n h1]
    exact K_node hK ⟨hb.1, h2⟩
  · rw [s_do_a h1]
    exact K_apse hK ⟨hb.1, h2⟩
  · rw [s_do_r h1]
    exact K_rule hK (x := 0) (by decide) h2
  · rw [s_do_i h1]
    exact K_rule hK (x := 1) (by decide) h2
  · rw [s_do_w h1]
    exact K_add hK ⟨h3, h4⟩ s_md_in h2
theorem s_fa_cons {t : s_ST} {T : List s_ST} {w : Int} (h : s_fa (t :: T) w = 0) : s_cb w t = true ∧ s_fa T (if s_kd t.2.1 = -1 then w else w + 1) = 0 := by
  rw [s_fa] at h
  by_cases e : s_cb w t = true
  · rw [if_pos e] at h
    exact ⟨e, h⟩
  · rw [if_neg e] at h
    omega
/-- what read answers if it does nothing -/
def s_rf (P : Bool × Nat × List s_ST) (w : Int) : Int := if P.1 = true then s_fa P.2.2 w else -100 - (P.2.1 : Int)
theorem s_fa_bd : ∀ (T : List s_ST) (w : Int), (∀ t ∈ T, s_tOK t) → -400 ≤ s_fa T w ∧ s_fa T w ≤ 0
  | [], w, _ => by show (-400 : Int) ≤ 0 ∧ (0 : Int) ≤ 0; decide
  | t :: T, w, h => by
    have h1 := (h t List.mem_cons_self).2.2.2.2.2
    rw [s_fa]
    split
    · exact s_fa_bd T _ (fun t ht => h t (List.mem_cons_of_mem _ ht))
    · omega
set_option maxHeartbeats 4000000 in
theorem K_sz {c n : Nat} {X : ew_Mem} (hK : s_K c n X)  : s_K (c + 1) n (ew_wr X 27 1 0) := by
  obtain ⟨k0, k1, k2, k3, k4, k5, k6, k7, k8, k9, k10, k11⟩ := id hK
  refine ⟨by omega, by omega, ?_, ?_, ?_, ?_, ?_, ?_, ?_, ?_, ?_⟩
  · exact ew_Pm_wr k2 rfl
  · exact s_S1_ag (fun i => (by first | rfl | ((repeat first | rw [s_ne_rd (by omega)] | rw [s_ne_ri (by omega)] | rw [s_fn_ne (by omega)] | rw [s_pf_ne (by omega)] | rw [s_put_ne (by omega)] | rw [s_clr_ne (by omega)] | rw [s_mw_ne (by omega)]); done))) (fun i => (by first | rfl | ((repeat first | rw [s_ne_rd (by omega)] | rw [s_ne_ri (by omega)] | rw [s_fn_ne (by omega)] | rw [s_pf_ne (by omega)] | rw [s_put_ne (by omega)] | rw [s_clr_ne (by omega)] | rw [s_mw_ne (by omega)]); done))) k3
  · exact s_K2_ag (by first | rfl | ((repeat first | rw [s_ne_rd (by omega)] | rw [s_ne_ri (by omega)] | rw [s_fn_ne (by omega)] | rw [s_pf_ne (by omega)] | rw [s_put_ne (by omega)] | rw [s_clr_ne (by omega)] | rw [s_mw_ne (by omega)]); done)) (fun i => (by first | rfl | ((repeat first | rw [s_ne_rd (by omega)] | rw [s_ne_ri (by omega)] | rw [s_fn_ne (by omega)] | rw [s_pf_ne (by omega)] | rw [s_put_ne (by omega)] | rw [s_clr_ne (by omega)] | rw [s_mw_ne (by omega)]); done))) (fun a h1 h2 i => (by first | rfl | ((repeat first | rw [s_ne_rd (by omega)] | rw [s_ne_ri (by omega)] | rw [s_fn_ne (by omega)] | rw [s_pf_ne (by omega)] | rw [s_put_ne (by omega)] | rw [s_clr_ne (by omega)] | rw [s_mw_ne (by omega)]); done))) (by omega) k4
  · exact s_K3_ag (by first | rfl | ((repeat first | rw [s_ne_rd (by omega)] | rw [s_ne_ri (by omega)] | rw [s_fn_ne (by omega)] | rw [s_pf_ne (by omega)] | rw [s_put_ne (by omega)] | rw [s_clr_ne (by omega)] | rw [s_mw_ne (by omega)]); done)) (fun i => (by first | rfl | ((repeat first | rw [s_ne_rd (by omega)] | rw [s_ne_ri (by omega)] | rw [s_fn_ne (by omega)] | rw [s_pf_ne (by omega)] | rw [s_put_ne (by omega)] | rw [s_clr_ne (by omega)] | rw [s_mw_ne (by omega)]); done))) k5
  · exact s_K4_ag (fun t i ht hi => (by first | rfl | ((repeat first | rw [s_ne_rd (by omega)] | rw [s_ne_ri (by omega)] | rw [s_fn_ne (by omega)] | rw [s_pf_ne (by omega)] | rw [s_put_ne (by omega)] | rw [s_clr_ne (by omega)] | rw [s_mw_ne (by omega)]); done))) (fun t i ht hi => (by first | rfl | ((repeat first | rw [s_ne_rd (by omega)] | rw [s_ne_ri (by omega)] | rw [s_fn_ne (by omega)] | rw [s_pf_ne (by omega)] | rw [s_put_ne (by omega)] | rw [s_clr_ne (by omega)] | rw [s_mw_ne (by omega)]); done))) (fun a h1 h2 i => (by first | rfl | ((repeat first | rw [s_ne_rd (by omega)] | rw [s_ne_ri (by omega)] | rw [s_fn_ne (by omega)] | rw [s_pf_ne (by omega)] | rw [s_put_ne (by omega)] | rw [s_clr_ne (by omega)] | rw [s_mw_ne (by omega)]); done))) (by omega) k6
  · exact s_K5_ag (fun l hl => (by first | rfl | ((repeat first | rw [s_ne_rd (by omega)] | rw [s_ne_ri (by omega)] | rw [s_fn_ne (by omega)] | rw [s_pf_ne (by omega)] | rw [s_put_ne (by omega)] | rw [s_clr_ne (by omega)] | rw [s_mw_ne (by omega)]); done))) (fun l i hl hi => (by first | rfl | ((repeat first | rw [s_ne_rd (by omega)] | rw [s_ne_ri (by omega)] | rw [s_fn_ne (by omega)] | rw [s_pf_ne (by omega)] | rw [s_put_ne (by omega)] | rw [s_clr_ne (by omega)] | rw [s_mw_ne (by omega)]); done))) k7
  · exact ⟨⟨show (0 : Int) ≤ 0 by decide, show (0 : Int) ≤ 80 by decide⟩, fun i hi => k8.2 i hi⟩
  · exact s_K7_ag (by first | rfl | ((repeat first | rw [s_ne_rd (by omega)] | rw [s_ne_ri (by omega)] | rw [s_fn_ne (by omega)] | rw [s_pf_ne (by omega)] | rw [s_put_ne (by omega)] | rw [s_clr_ne (by omega)] | rw [s_mw_ne (by omega)]); done)) (fun i => (by first | rfl | ((repeat first | rw [s_ne_rd (by omega)] | rw [s_ne_ri (by omega)] | rw [s_fn_ne (by omega)] | rw [s_pf_ne (by omega)] | rw [s_put_ne (by omega)] | rw [s_clr_ne (by omega)] | rw [s_mw_ne (by omega)]); done))) (fun i => (by first | rfl | ((repeat first | rw [s_ne_rd (by omega)] | rw [s_ne_ri (by omega)] | rw [s_fn_ne (by omega)] | rw [s_pf_ne (by omega)] | rw [s_put_ne (by omega)] | rw [s_clr_ne (by omega)] | rw [s_mw_ne (by omega)]); done))) (fun i => (by first | rfl | ((repeat first | rw [s_ne_rd (by omega)] | rw [s_ne_ri (by omega)] | rw [s_fn_ne (by omega)] | rw [s_pf_ne (by omega)] | rw [s_put_ne (by omega)] | rw [s_clr_ne (by omega)] | rw [s_mw_ne (by omega)]); done))) (fun a g hl => by
      have hq := s_OB_w g
      exact s_ob_ag (fun i => (by first | rfl | ((repeat first | rw [s_ne_rd (by omega)] | rw [s_ne_ri (by omega)] | rw [s_fn_ne (by omega)] | rw [s_pf_ne (by omega)] | rw [s_put_ne (by omega)] | rw [s_clr_ne (by omega)] | rw [s_mw_ne (by omega)]); done)))) (by omega) (fun a g => s_lv_ag (by first | rfl | ((repeat first | rw [s_ne_rd (by omega)] | rw [s_ne_ri (by omega)] | rw [s_fn_ne (by omega)] | rw [s_pf_ne (by omega)] | rw [s_put_ne (by omega)] | rw [s_clr_ne (by omega)] | rw [s_mw_ne (by omega)]); done)) (fun i => (by first | rfl | ((repeat first | rw [s_ne_rd (by omega)] | rw [s_ne_ri (by omega)] | rw [s_fn_ne (by omega)] | rw [s_pf_ne (by omega)] | rw [s_put_ne (by omega)] | rw [s_clr_ne (by omega)] | rw [s_mw_ne (by omega)]); done))) (fun t i ht hi => (by first | rfl | ((repeat first | rw [s_ne_rd (by omega)] | rw [s_ne_ri (by omega)] | rw [s_fn_ne (by omega)] | rw [s_pf_ne (by omega)] | rw [s_put_ne (by omega)] | rw [s_clr_ne (by omega)] | rw [s_mw_ne (by omega)]); done)))) k9
  · exact ⟨Int.le_trans k10 (Int.le_of_eq (Eq.symm (by first | rfl | ((repeat first | rw [s_ne_rd (by omega)] | rw [s_ne_ri (by omega)] | rw [s_fn_ne (by omega)] | rw [s_pf_ne (by omega)] | rw [s_put_ne (by omega)] | rw [s_clr_ne (by omega)] | rw [s_mw_ne (by omega)]); done)))), Int.le_trans (Int.le_of_eq (by first | rfl | ((repeat first | rw [s_ne_rd (by omega)] | rw [s_ne_ri (by omega)] | rw [s_fn_ne (by omega)] | rw [s_pf_ne (by omega)] | rw [s_put_ne (by omega)] | rw [s_clr_ne (by omega)] | rw [s_mw_ne (by omega)]); done))) (show X 4 6 ≤ ((c + 1 : Nat) : Int) by omega)⟩

set_option maxHeartbeats 4000000 in
theorem K_td {c n : Nat} {X : ew_Mem} (hK : s_K c n X)  : s_K (c + 1) n (ew_wr X 4 6 (X 4 6 + 1)) := by
  obtain ⟨k0, k1, k2, k3, k4, k5, k6, k7, k8, k9, k10, k11⟩ := id hK
  refine ⟨by omega, by omega, ?_, ?_, ?_, ?_, ?_, ?_, ?_, ?_, ?_⟩
  · exact ew_Pm_wr k2 rfl
  · exact s_S1_ag (fun i => (by first | rfl | ((repeat first | rw [s_ne_rd (by omega)] | rw [s_ne_ri (by omega)] | rw [s_fn_ne (by omega)] | rw [s_pf_ne (by omega)] | rw [s_put_ne (by omega)] | rw [s_clr_ne (by omega)] | rw [s_mw_ne (by omega)]); done))) (fun i => (by first | rfl | ((repeat first | rw [s_ne_rd (by omega)] | rw [s_ne_ri (by omega)] | rw [s_fn_ne (by omega)] | rw [s_pf_ne (by omega)] | rw [s_put_ne (by omega)] | rw [s_clr_ne (by omega)] | rw [s_mw_ne (by omega)]); done))) k3
  · exact s_K2_ag (by first | rfl | ((repeat first | rw [s_ne_rd (by omega)] | rw [s_ne_ri (by omega)] | rw [s_fn_ne (by omega)] | rw [s_pf_ne (by omega)] | rw [s_put_ne (by omega)] | rw [s_clr_ne (by omega)] | rw [s_mw_ne (by omega)]); done)) (fun i => (by first | rfl | ((repeat first | rw [s_ne_rd (by omega)] | rw [s_ne_ri (by omega)] | rw [s_fn_ne (by omega)] | rw [s_pf_ne (by omega)] | rw [s_put_ne (by omega)] | rw [s_clr_ne (by omega)] | rw [s_mw_ne (by omega)]); done))) (fun a h1 h2 i => (by first | rfl | ((repeat first | rw [s_ne_rd (by omega)] | rw [s_ne_ri (by omega)] | rw [s_fn_ne (by omega)] | rw [s_pf_ne (by omega)] | rw [s_put_ne (by omega)] | rw [s_clr_ne (by omega)] | rw [s_mw_ne (by omega)]); done))) (by omega) k4
  · exact s_K3_ag (by first | rfl | ((repeat first | rw [s_ne_rd (by omega)] | rw [s_ne_ri (by omega)] | rw [s_fn_ne (by omega)] | rw [s_pf_ne (by omega)] | rw [s_put_ne (by omega)] | rw [s_clr_ne (by omega)] | rw [s_mw_ne (by omega)]); done)) (fun i => (by first | rfl | ((repeat first | rw [s_ne_rd (by omega)] | rw [s_ne_ri (by omega)] | rw [s_fn_ne (by omega)] | rw [s_pf_ne (by omega)] | rw [s_put_ne (by omega)] | rw [s_clr_ne (by omega)] | rw [s_mw_ne (by omega)]); done))) k5
  · exact s_K4_ag (fun t i ht hi => (by first | rfl | ((repeat first | rw [s_ne_rd (by omega)] | rw [s_ne_ri (by omega)] | rw [s_fn_ne (by omega)] | rw [s_pf_ne (by omega)] | rw [s_put_ne (by omega)] | rw [s_clr_ne (by omega)] | rw [s_mw_ne (by omega)]); done))) (fun t i ht hi => (by first | rfl | ((repeat first | rw [s_ne_rd (by omega)] | rw [s_ne_ri (by omega)] | rw [s_fn_ne (by omega)] | rw [s_pf_ne (by omega)] | rw [s_put_ne (by omega)] | rw [s_clr_ne (by omega)] | rw [s_mw_ne (by omega)]); done))) (fun a h1 h2 i => (by first | rfl | ((repeat first | rw [s_ne_rd (by omega)] | rw [s_ne_ri (by omega)] | rw [s_fn_ne (by omega)] | rw [s_pf_ne (by omega)] | rw [s_put_ne (by omega)] | rw [s_clr_ne (by omega)] | rw [s_mw_ne (by omega)]); done))) (by omega) k6
  · exact s_K5_ag (fun l hl => (by first | rfl | ((repeat first | rw [s_ne_rd (by omega)] | rw [s_ne_ri (by omega)] | rw [s_fn_ne (by omega)] | rw [s_pf_ne (by omega)] | rw [s_put_ne (by omega)] | rw [s_clr_ne (by omega)] | rw [s_mw_ne (by omega)]); done))) (fun l i hl hi => (by first | rfl | ((repeat first | rw [s_ne_rd (by omega)] | rw [s_ne_ri (by omega)] | rw [s_fn_ne (by omega)] | rw [s_pf_ne (by omega)] | rw [s_put_ne (by omega)] | rw [s_clr_ne (by omega)] | rw [s_mw_ne (by omega)]); done))) k7
  · exact s_K6_ag (by first | rfl | ((repeat first | rw [s_ne_rd (by omega)] | rw [s_ne_ri (by omega)] | rw [s_fn_ne (by omega)] | rw [s_pf_ne (by omega)] | rw [s_put_ne (by omega)] | rw [s_clr_ne (by omega)] | rw [s_mw_ne (by omega)]); done)) (fun i => (by first | rfl | ((repeat first | rw [s_ne_rd (by omega)] | rw [s_ne_ri (by omega)] | rw [s_fn_ne (by omega)] | rw [s_pf_ne (by omega)] | rw [s_put_ne (by omega)] | rw [s_clr_ne (by omega)] | rw [s_mw_ne (by omega)]); done))) k8
  · exact s_K7_ag (by first | rfl | ((repeat first | rw [s_ne_rd (by omega)] | rw [s_ne_ri (by omega)] | rw [s_fn_ne (by omega)] | rw [s_pf_ne (by omega)] | rw [s_put_ne (by omega)] | rw [s_clr_ne (by omega)] | rw [s_mw_ne (by omega)]); done)) (fun i => (by first | rfl | ((repeat first | rw [s_ne_rd (by omega)] | rw [s_ne_ri (by omega)] | rw [s_fn_ne (by omega)] | rw [s_pf_ne (by omega)] | rw [s_put_ne (by omega)] | rw [s_clr_ne (by omega)] | rw [s_mw_ne (by omega)]); done))) (fun i => (by first | rfl | ((repeat first | rw [s_ne_rd (by omega)] | rw [s_ne_ri (by omega)] | rw [s_fn_ne (by omega)] | rw [s_pf_ne (by omega)] | rw [s_put_ne (by omega)] | rw [s_clr_ne (by omega)] | rw [s_mw_ne (by omega)]); done))) (fun i => (by first | rfl | ((repeat first | rw [s_ne_rd (by omega)] | rw [s_ne_ri (by omega)] | rw [s_fn_ne (by omega)] | rw [s_pf_ne (by omega)] | rw [s_put_ne (by omega)] | rw [s_clr_ne (by omega)] | rw [s_mw_ne (by omega)]); done))) (fun a g hl => by
      have hq := s_OB_w g
      exact s_ob_ag (fun i => (by first | rfl | ((repeat first | rw [s_ne_rd (by omega)] | rw [s_ne_ri (by omega)] | rw [s_fn_ne (by omega)] | rw [s_pf_ne (by omega)] | rw [s_put_ne (by omega)] | rw [s_clr_ne (by omega)] | rw [s_mw_ne (by omega)]); done)))) (by omega) (fun a g => s_lv_ag (by first | rfl | ((repeat first | rw [s_ne_rd (by omega)] | rw [s_ne_ri (by omega)] | rw [s_fn_ne (by omega)] | rw [s_pf_ne (by omega)] | rw [s_put_ne (by omega)] | rw [s_clr_ne (by omega)] | rw [s_mw_ne (by omega)]); done)) (fun i => (by first | rfl | ((repeat first | rw [s_ne_rd (by omega)] | rw [s_ne_ri (by omega)] | rw [s_fn_ne (by omega)] | rw [s_pf_ne (by omega)] | rw [s_put_ne (by omega)] | rw [s_clr_ne (by omega)] | rw [s_mw_ne (by omega)]); done))) (fun t i ht hi => (by first | rfl | ((repeat first | rw [s_ne_rd (by omega)] | rw [s_ne_ri (by omega)] | rw [s_fn_ne (by omega)] | rw [s_pf_ne (by omega)] | rw [s_put_ne (by omega)] | rw [s_clr_ne (by omega)] | rw [s_mw_ne (by omega)]); done)))) k9
  · exact ⟨by rw [s_eq_rd]; omega, by rw [s_eq_rd]; omega⟩

set_option maxRecDepth 20000 in
theorem c_rd_1 : ∀ (T : List s_ST) (i n c : Nat) (M : ew_Mem) (td sl : Int), s_K c n M → s_TL M i T → (∀ t ∈ T, s_tOK t) → M 27 5 = sl → sl = (i : Int) + (T.length : Int) → i + T.length ≤ 27 → s_fa T (M 5 2) = 0 → M 4 6 = td →
    ew_X 132 43 [(2, 4), (0, 0), (0, (i : Int))] [] n M (fun r a b => r = some (0, sl) ∧ a = (s_dos T n M).1 ∧ b = ew_wr (s_dos T n M).2 4 6 (td + 1)) := by
  intro T
  induction T with
  | nil =>
    intro i n c M td sl hK hTL hOK h5 hsl hl hfa htd
    rw [List.length_nil] at hsl hl
    obtain ⟨hn, -, hp, -⟩ := id hK
    have hc := ew_c_132
    refine xr_go hc rfl rfl ?_
    refine xr_go hc rfl rfl ?_
    refine xr_gf2 (A := 4) rfl hc rfl (ew_own_p hn rfl) (show _ = (27 : Int) by first | exact ew_pm (v := 27) hp rfl | (rw [s_ne_ri (by omega)]; exact ew_pm (v := 27) hp rfl)) ?_
    refine xr_gf0 (A := 27) rfl hc rfl (ew_own_p hn rfl) (show _ = sl by first | exact h5 | (rw [s_ne_rd (by omega)]; exact h5)) ?_
    refine xr_icmp_ge hc rfl (by omega) (by omega) (fun c1 => ?_) (fun c1 => ?_)
    · skip
      refine xr_go hc rfl rfl ?_
      refine xr_go hc rfl rfl ?_
      refine xr_gf0 (A := 4) rfl hc rfl (ew_own_p hn rfl) htd ?_
      refine xr_go hc rfl rfl ?_
      refine xr_go hc rfl rfl ?_
      refine xr_pf (A := 4) rfl hc rfl (ew_own_p hn rfl) ?_
      refine xr_go hc rfl rfl ?_
      refine xr_gf2 (A := 4) rfl hc rfl (ew_own_p hn rfl) (show _ = (27 : Int) by first | exact ew_pm (v := 27) hp rfl | (rw [s_ne_ri (by omega)]; exact ew_pm (v := 27) hp rfl)) ?_
      refine xr_gf0 (A := 27) rfl hc rfl (ew_own_p hn rfl) (show _ = sl by first | exact h5 | (rw [s_ne_rd (by omega)]; exact h5)) ?_
      refine xr_ret hc rfl rfl ?_
      exact ⟨rfl, rfl, rfl⟩
    · exfalso; omega
  | cons t T ih =>
    intro i n c M td sl hK hTL hOK h5 hsl hl hfa htd
    rw [List.length_cons] at hsl hl
    obtain ⟨hn, -, hp, -⟩ := id hK
    obtain ⟨hT1, hT2⟩ := hTL
    obtain ⟨hcb, hfa2⟩ := s_fa_cons hfa
    have ht := hOK t List.mem_cons_self
    have hS := c_doS (s_K_C hK) (i := i) (by omega) ht hT1 hcb
    have hK2 := K_do hK ht hcb
    have e5 := s_do_5 (n := n) (X := M) ht
    have hc := ew_c_132
    refine xr_go hc rfl rfl ?_
    refine xr_go hc rfl rfl ?_
    refine xr_gf2 (A := 4) rfl hc rfl (ew_own_p hn rfl) (ew_pm (v := 27) hp rfl) ?_
    refine xr_gf0 (A := 27) rfl hc rfl (ew_own_p hn rfl) h5 ?_
    refine xr_icmp_ge hc rfl (by omega) (by omega) (fun c1 => ?_) (fun c1 => ?_)
    · exfalso; omega
    · skip
      refine xr_go hc rfl rfl ?_
      refine xr_go hc rfl rfl ?_
      refine xr_vv_2 (v := (0, 0)) hc rfl rfl (ew_own_p hn rfl) hS ?_
      refine xr_inc_2 hc rfl ?_
      refine xr_go hc rfl rfl ?_
      rw [s_n1]
      have hg := ih (i + 1) (s_do t n M).1 (c + 1) (s_do t n M).2 td sl hK2 (s_TL_ag (fun a j ha => s_do_o (by omega) (by omega) (by omega) (by omega)) T (i + 1) hT2) (fun t h => hOK t (List.mem_cons_of_mem _ h)) ((s_do_o (by omega) (by omega) (by omega) (by omega)).trans h5) (by omega) (by omega) (by rw [e5]; exact hfa2) ((s_do_o (by omega) (by omega) (by omega) (by omega)).trans htd)
      exact hg

set_option maxRecDepth 20000 in
theorem cx_read {c n : Nat} {M : ew_Mem} (hK : s_K c n M) {B : Nat → Int} {z : Nat} (hT : s_TP B z M) : ew_C 132 [(2, 4)] n M (fun r a b => ∃ M1, s_fr 0 M M1 ∧ (((s_ps B z 27 0).1 = true ∧ s_fa (s_ps B z 27 0).2.2 (M 5 2) = 0) → r = some (0, ((s_ps B z 27 0).2.2.length : Int)) ∧ a = (s_dos (s_ps B z 27 0).2.2 n (ew_wr M1 27 1 0)).1 ∧ b = ew_wr (s_dos (s_ps B z 27 0).2.2 n (ew_wr M1 27 1 0)).2 4 6 (M 4 6 + 1)) ∧ (¬ ((s_ps B z 27 0).1 = true ∧ s_fa (s_ps B z 27 0).2.2 (M 5 2) = 0) → r = some (0, s_rf (s_ps B z 27 0) (M 5 2)) ∧ a = n ∧ b = ew_wr M1 27 1 0)) := by
  obtain ⟨hn, -, hp, -⟩ := id hK
  obtain ⟨hp0, hz1, hz8, hB28, hB⟩ := id hT
  have hps := s_ps_bd hz8 hB 27 0 (Nat.zero_le _)
  have hc := ew_c_132
  show ew_X 132 0 [(2, 4), (5, 0), (5, 0)] [] n _ _
  refine xr_go hc rfl rfl ?_
  refine xr_gf2 (A := 4) (w := 27) rfl hc rfl (ew_own_p hn rfl) (ew_pm hp rfl) ?_
  refine xr_vC_1 hc rfl rfl (ew_own_p hn rfl) (c_ff hn hT) ?_
  rintro w n2 M2 ⟨rfl, f1, f2, f3⟩
  have hp2 := s_fr_pm f1 hp
  by_cases hP : (s_ps B z 27 0).1 = true
  · skip
    obtain ⟨rfl, hTL, h5⟩ := f2 hP
    have hfb := s_fa_bd (s_ps B z 27 0).2.2 (M 5 2) hps.2.2
    have hdf := c_df hn hp2 (w := M 5 2) hTL hps.2.2 (by omega) hps.2.1 (by have := hK.2.2.2.1.1; omega)
    show ew_X 132 7 _ [(0, 0)] _ _ _
    refine xr_s1_1 hc rfl rfl rfl ?_
    refine xr_go hc rfl rfl ?_
    refine xr_if_ne hc rfl (by decide) (fun c1 => by exfalso; omega) (fun c1 => ?_)
    refine xr_go hc rfl rfl ?_
    refine xr_gf2 (A := 4) rfl hc rfl (ew_own_p hn rfl) (ew_pm (v := 27) hp2 rfl) ?_
    refine xr_go hc rfl rfl ?_
    refine xr_gf2 (A := 4) rfl hc rfl (ew_own_p hn rfl) (ew_pm (v := 5) hp2 rfl) ?_
    refine xr_gf0 (A := 5) rfl hc rfl (ew_own_p hn rfl) (show _ = M 5 2 from f1 5 2 (by omega) (by omega) (by omega)) ?_
    refine xr_v_2 hc rfl rfl (ew_own_p hn rfl) hdf ?_
    refine xr_s1_1 hc rfl rfl rfl ?_
    refine xr_go hc rfl rfl ?_
    refine xr_gf2 (A := 4) rfl hc rfl (ew_own_p hn rfl) (ew_pm (v := 27) hp2 rfl) ?_
    refine xr_go hc rfl rfl ?_
    refine xr_pf (A := 27) rfl hc rfl (ew_own_p hn rfl) ?_
    refine xr_go hc rfl rfl ?_
    refine xr_if_eq hc rfl (by omega) (fun c2 => ?_) (fun c2 => ?_)
    · skip
      refine xr_go hc rfl rfl ?_
      refine xr_s1_2 hc rfl rfl rfl ?_
      have e0 : s_fa (s_ps B z 27 0).2.2 (M 5 2) = 0 := by assumption
      have hK2 := K_sz (s_K_ag (s_fr_C f1) hp2 hK)
      have hg := c_rd_1 (s_ps B z 27 0).2.2 0 _ (c + 1) (ew_wr M2 27 1 0) (M 4 6) ((s_ps B z 27 0).2.2.length : Int) hK2 (s_TL_ag (fun a j ha => s_nr (by omega)) _ _ hTL) hps.2.2 (by rw [s_nr (by omega), h5]; omega) (by omega) (by omega) (by rw [s_nr (by omega), f1 5 2 (by omega) (by omega) (by omega)]; exact e0) (by rw [s_nr (by omega), f1 4 6 (by omega) (by omega) (by omega)])
      rw [e0]
      refine ew_X.mono hg ?_
      rintro r a b ⟨rfl, rfl, rfl⟩
      exact ⟨M2, f1, fun _ => ⟨rfl, rfl, rfl⟩, fun q => absurd ⟨hP, rfl⟩ q⟩
    · skip
      refine xr_go hc rfl rfl ?_
      refine xr_ret hc rfl rfl ?_
      refine ⟨M2, f1, fun q => ?_, fun q => ⟨?_, rfl, rfl⟩⟩
      · exfalso
        have := q.2
        omega
      · unfold s_rf
        rw [if_pos hP]
  · skip
    have hP : (s_ps B z 27 0).1 = false := by cases e : (s_ps B z 27 0).1 <;> simp_all
    obtain rfl := f3 hP
    show ew_X 132 7 _ [(0, -100 - ((s_ps B z 27 0).2.1 : Int))] _ _ _
    refine xr_s1_1 hc rfl rfl rfl ?_
    refine xr_go hc rfl rfl ?_
    refine xr_if_ne hc rfl (by omega) (fun c1 => ?_) (fun c1 => ?_)
    · skip
      refine xr_go hc rfl rfl ?_
      refine xr_gf2 (A := 4) rfl hc rfl (ew_own_p hn rfl) (ew_pm (v := 27) hp2 rfl) ?_
      refine xr_go hc rfl rfl ?_
      refine xr_pf (A := 27) rfl hc rfl (ew_own_p hn rfl) ?_
      refine xr_go hc rfl rfl ?_
      refine xr_if_eq hc rfl (by omega) (fun c2 => ?_) (fun c2 => ?_)
      · exfalso; omega
      · skip
        refine xr_go hc rfl rfl ?_
        refine xr_ret hc rfl rfl ?_
        refine ⟨M2, f1, fun q => ?_, fun q => ⟨?_, rfl, rfl⟩⟩
        · rw [hP] at q
          exact absurd q.1 (by decide)
        · unfold s_rf
          rw [hP, if_neg (by decide)]
    · exfalso; omega
  

