/-! read, both sides together -/
theorem s_clr_wr {M : ew_Mem} {c a i : Nat} {v : Int} (h : ¬ a = c) : ew_clr (ew_wr M a i v) c = ew_wr (ew_clr M c) a i v := by
  funext b j
  unfold ew_clr ew_wr
  by_cases e : b = c
  · have : ¬ b = a := by omega
    simp [e]
    omega
  · simp [e]
theorem s_ad_cm {X : ew_Mem} {n : Nat} (hn : 59 ≤ n) {k p s t d z v : Int} : s_ad (ew_wr X 27 1 v) n k p s t d z = ew_wr (s_ad X n k p s t d z) 27 1 v := by
  unfold s_ad s_mw
  rw [s_clr_wr (by omega)]
  rw [s_wr_cm (a := 27) (i := 1) (v := v) (by omega), s_wr_cm (a := 27) (i := 1) (v := v) (by omega), s_wr_cm (a := 27) (i := 1) (v := v) (by omega), s_wr_cm (a := 27) (i := 1) (v := v) (by omega), s_wr_cm (a := 27) (i := 1) (v := v) (by omega), s_wr_cm (a := 27) (i := 1) (v := v) (by omega), s_wr_cm (a := 27) (i := 1) (v := v) (by omega)]
theorem s_do_cm {t : s_ST} {n : Nat} {X : ew_Mem} (hn : 59 ≤ n) {v : Int} : s_do t n (ew_wr X 27 1 v) = ((s_do t n X).1, ew_wr (s_do t n X).2 27 1 v) := by
  by_cases h1 : t.2.1 = 110
  · rw [s_do_n h1, s_do_n h1, s_wr_cm (by omega)]
  · by_cases h2 : t.2.1 = 97
    · rw [s_do_a h2, s_do_a h2, s_wr_cm (by omega)]
    · by_cases h3 : t.2.1 = 111
      · rw [s_do_r h3, s_do_r h3, s_wr_cm (by omega)]
      · by_cases h4 : t.2.1 = 105
        · rw [s_do_i h4, s_do_i h4, s_wr_cm (by omega)]
        · rw [s_do_w ⟨h1, h2, h3, h4⟩, s_do_w ⟨h1, h2, h3, h4⟩, s_ad_cm hn, s_nr (by omega)]
theorem s_do_le {t : s_ST} {n : Nat} {X : ew_Mem} : n ≤ (s_do t n X).1 := by
  unfold s_do
  repeat' split
  all_goals first
    | exact Nat.le_refl _
    | exact Nat.le_succ _
theorem s_dos_cm {v : Int} : ∀ (T : List s_ST) (n : Nat) (X : ew_Mem), 59 ≤ n → s_dos T n (ew_wr X 27 1 v) = ((s_dos T n X).1, ew_wr (s_dos T n X).2 27 1 v)
  | [], n, X, _ => rfl
  | t :: T, n, X, hn => by
    have h := s_do_le (t := t) (n := n) (X := X)
    rw [s_dos, s_do_cm hn]
    exact s_dos_cm T (s_do t n X).1 (s_do t n X).2 (by omega)
theorem s_dos_o {a j : Nat} (h5 : ¬ a = 5) (h6 : ¬ a = 6) (h7 : ¬ a = 7) : ∀ (T : List s_ST) (n : Nat) (X : ew_Mem), a < n → (s_dos T n X).2 a j = X a j
  | [], _, _, _ => rfl
  | t :: T, n, X, hn => by
    have h := s_do_le (t := t) (n := n) (X := X)
    have g := s_dos_o (j := j) h5 h6 h7 T (s_do t n X).1 (s_do t n X).2 (by omega)
    rw [s_dos, g]
    exact s_do_o h5 h6 h7 (by omega)
theorem s_do_cnt {t : s_ST} {n : Nat} {X : ew_Mem} (ht : s_tOK t) : ((s_do t n X).1 : Int) + X 5 2 = (n : Int) + (s_do t n X).2 5 2 := by
  rw [s_do_5 ht]
  by_cases h1 : t.2.1 = 110
  · rw [s_do_n h1, h1, if_pos (by decide)]
  · by_cases h2 : t.2.1 = 97
    · rw [s_do_a h2, h2, if_pos (by decide)]
    · by_cases h3 : t.2.1 = 111
      · rw [s_do_r h3, h3, if_pos (by decide)]
      · by_cases h4 : t.2.1 = 105
        · rw [s_do_i h4, h4, if_pos (by decide)]
        · have hk : ¬ s_kd t.2.1 = -1 := by
            rcases ht.1 with g | g | g | g | g
            · exact g
            all_goals (exfalso; omega)
          rw [s_do_w ⟨h1, h2, h3, h4⟩, if_neg hk]
          show ((n + 1 : Nat) : Int) + _ = _
          omega
theorem K_dos : ∀ (T : List s_ST) (n c : Nat) (X : ew_Mem), s_K c n X → (∀ t ∈ T, s_tOK t) → s_fa T (X 5 2) = 0 → s_K (c + T.length) (s_dos T n X).1 (s_dos T n X).2 ∧ ((s_dos T n X).1 : Int) + X 5 2 = (n : Int) + (s_dos T n X).2 5 2
  | [], n, c, X, hK, _, _ => ⟨hK, rfl⟩
  | t :: T, n, c, X, hK, hT, hf => by
    have ht := hT t List.mem_cons_self
    obtain ⟨f1, f2⟩ := s_fa_cons hf
    have h1 := K_do hK ht f1
    have h2 := s_do_cnt (n := n) (X := X) ht
    have g := K_dos T (s_do t n X).1 (c + 1) (s_do t n X).2 h1 (fun q hq => hT q (List.mem_cons_of_mem _ hq)) (by rw [s_do_5 ht]; exact f2)
    rw [s_dos, List.length_cons, show c + (T.length + 1) = c + 1 + T.length by omega]
    exact ⟨g.1, by have := g.2; omega⟩
theorem s_K_lo {c c' n : Nat} {X : ew_Mem} (h : s_K c' n X) (h1 : n ≤ 59 + 12 * c) (h2 : X 4 6 ≤ (c : Int)) : s_K c n X := by
  obtain ⟨k0, k1, k2, k3, k4, k5, k6, k7, k8, k9, k10, k11⟩ := h
  exact ⟨k0, h1, k2, k3, k4, k5, k6, k7, k8, k9, k10, h2⟩
theorem J_two {c n1 : Nat} {X1 M2 : ew_Mem} {h2 : Int → Nat} (hK : s_K c n1 X1) (hR : s_RM h2 X1 M2) (e : s_aC X1 M2) (hp : ew_Pm M2) : s_J c n1 M2 := ⟨s_K_ag e hp hK, h2, s_R_ag hK e (fun _ _ _ _ => rfl) hR⟩
theorem ew_Cm {k : Nat} {A : List ew_AV} {n : Nat} {M : ew_Mem} {Q Q' : Option ew_AV → Nat → ew_Mem → Prop} (h : ew_C k A n M Q) (hq : ∀ v n' M', Q v n' M' → Q' v n' M') : ew_C k A n M Q' := by
  obtain ⟨f, v, n1, M1, h1, h2⟩ := h
  exact ⟨f, v, n1, M1, h1, hq _ _ _ h2⟩
/-- a call on both sides: the same answer, the picture kept -/
def s_Call (t k k' : Nat) (A : List ew_AV) (c n : Nat) (M : ew_Mem) : Prop := ew_C k ((2, 4) :: A) n M (fun r n1 M1 => ∃ x : Int, r = some (t, x) ∧ ew_C k' ((2, 38) :: A) n1 M1 (fun r2 n2 M2 => r2 = some (t, x) ∧ s_J (c + 1) n2 M2))
set_option maxHeartbeats 4000000 in
theorem R_sz {c n : Nat} {h : Int → Nat} {X M : ew_Mem} (hK : s_K c n X) (hR : s_RM h X M)  : s_RM h (ew_wr X 27 1 0) (ew_wr M 38 21 0) := by
  obtain ⟨k0, k1, k2, k3, k4, k5, k6, k7, k8, k9, k10, k11⟩ := id hK
  obtain ⟨g1, g2, g6, g7, g8, g9⟩ := id hR
  refine ⟨?_, ?_, ?_, ?_, ?_, ?_⟩
  · exact s_R1_ag (fun i => (by first | rfl | ((repeat first | rw [s_ne_rd (by omega)] | rw [s_ne_ri (by omega)] | rw [s_fn_ne (by omega)] | rw [s_pf_ne (by omega)] | rw [s_put_ne (by omega)] | rw [s_clr_ne (by omega)] | rw [s_mw_ne (by omega)]); done))) (fun i => (by first | rfl | ((repeat first | rw [s_ne_rd (by omega)] | rw [s_ne_ri (by omega)] | rw [s_fn_ne (by omega)] | rw [s_pf_ne (by omega)] | rw [s_put_ne (by omega)] | rw [s_clr_ne (by omega)] | rw [s_mw_ne (by omega)]); done))) (by first | rfl | ((repeat first | rw [s_ne_rd (by omega)] | rw [s_ne_ri (by omega)] | rw [s_fn_ne (by omega)] | rw [s_pf_ne (by omega)] | rw [s_put_ne (by omega)] | rw [s_clr_ne (by omega)] | rw [s_mw_ne (by omega)]); done)) (by first | rfl | ((repeat first | rw [s_ne_rd (by omega)] | rw [s_ne_ri (by omega)] | rw [s_fn_ne (by omega)] | rw [s_pf_ne (by omega)] | rw [s_put_ne (by omega)] | rw [s_clr_ne (by omega)] | rw [s_mw_ne (by omega)]); done)) (by first | rfl | ((repeat first | rw [s_ne_rd (by omega)] | rw [s_ne_ri (by omega)] | rw [s_fn_ne (by omega)] | rw [s_pf_ne (by omega)] | rw [s_put_ne (by omega)] | rw [s_clr_ne (by omega)] | rw [s_mw_ne (by omega)]); done)) (fun i => (by first | rfl | ((repeat first | rw [s_ne_rd (by omega)] | rw [s_ne_ri (by omega)] | rw [s_fn_ne (by omega)] | rw [s_pf_ne (by omega)] | rw [s_put_ne (by omega)] | rw [s_clr_ne (by omega)] | rw [s_mw_ne (by omega)]); done))) g1
  · exact s_R2_ag (by first | rfl | ((repeat first | rw [s_ne_rd (by omega)] | rw [s_ne_ri (by omega)] | rw [s_fn_ne (by omega)] | rw [s_pf_ne (by omega)] | rw [s_put_ne (by omega)] | rw [s_clr_ne (by omega)] | rw [s_mw_ne (by omega)]); done)) (fun i => (by first | rfl | ((repeat first | rw [s_ne_rd (by omega)] | rw [s_ne_ri (by omega)] | rw [s_fn_ne (by omega)] | rw [s_pf_ne (by omega)] | rw [s_put_ne (by omega)] | rw [s_clr_ne (by omega)] | rw [s_mw_ne (by omega)]); done))) (fun t i ht hi => (by first | rfl | ((repeat first | rw [s_ne_rd (by omega)] | rw [s_ne_ri (by omega)] | rw [s_fn_ne (by omega)] | rw [s_pf_ne (by omega)] | rw [s_put_ne (by omega)] | rw [s_clr_ne (by omega)] | rw [s_mw_ne (by omega)]); done))) (fun a ha => by
      have hq := s_OB_w (s_lv_OB hK ha)
      exact s_ob_ag (fun i => (by first | rfl | ((repeat first | rw [s_ne_rd (by omega)] | rw [s_ne_ri (by omega)] | rw [s_fn_ne (by omega)] | rw [s_pf_ne (by omega)] | rw [s_put_ne (by omega)] | rw [s_clr_ne (by omega)] | rw [s_mw_ne (by omega)]); done)))) (fun i => (by first | rfl | ((repeat first | rw [s_ne_rd (by omega)] | rw [s_ne_ri (by omega)] | rw [s_fn_ne (by omega)] | rw [s_pf_ne (by omega)] | rw [s_put_ne (by omega)] | rw [s_clr_ne (by omega)] | rw [s_mw_ne (by omega)]); done))) (fun i => (by first | rfl | ((repeat first | rw [s_ne_rd (by omega)] | rw [s_ne_ri (by omega)] | rw [s_fn_ne (by omega)] | rw [s_pf_ne (by omega)] | rw [s_put_ne (by omega)] | rw [s_clr_ne (by omega)] | rw [s_mw_ne (by omega)]); done))) (fun i => (by first | rfl | ((repeat first | rw [s_ne_rd (by omega)] | rw [s_ne_ri (by omega)] | rw [s_fn_ne (by omega)] | rw [s_pf_ne (by omega)] | rw [s_put_ne (by omega)] | rw [s_clr_ne (by omega)] | rw [s_mw_ne (by omega)]); done))) (fun i => (by first | rfl | ((repeat first | rw [s_ne_rd (by omega)] | rw [s_ne_ri (by omega)] | rw [s_fn_ne (by omega)] | rw [s_pf_ne (by omega)] | rw [s_put_ne (by omega)] | rw [s_clr_ne (by omega)] | rw [s_mw_ne (by omega)]); done))) (fun i => (by first | rfl | ((repeat first | rw [s_ne_rd (by omega)] | rw [s_ne_ri (by omega)] | rw [s_fn_ne (by omega)] | rw [s_pf_ne (by omega)] | rw [s_put_ne (by omega)] | rw [s_clr_ne (by omega)] | rw [s_mw_ne (by omega)]); done))) (fun i => (by first | rfl | ((repeat first | rw [s_ne_rd (by omega)] | rw [s_ne_ri (by omega)] | rw [s_fn_ne (by omega)] | rw [s_pf_ne (by omega)] | rw [s_put_ne (by omega)] | rw [s_clr_ne (by omega)] | rw [s_mw_ne (by omega)]); done))) (fun i => (by first | rfl | ((repeat first | rw [s_ne_rd (by omega)] | rw [s_ne_ri (by omega)] | rw [s_fn_ne (by omega)] | rw [s_pf_ne (by omega)] | rw [s_put_ne (by omega)] | rw [s_clr_ne (by omega)] | rw [s_mw_ne (by omega)]); done))) g2
  · exact s_R6_ag (fun t i ht hi => (by first | rfl | ((repeat first | rw [s_ne_rd (by omega)] | rw [s_ne_ri (by omega)] | rw [s_fn_ne (by omega)] | rw [s_pf_ne (by omega)] | rw [s_put_ne (by omega)] | rw [s_clr_ne (by omega)] | rw [s_mw_ne (by omega)]); done))) (fun i => (by first | rfl | ((repeat first | rw [s_ne_rd (by omega)] | rw [s_ne_ri (by omega)] | rw [s_fn_ne (by omega)] | rw [s_pf_ne (by omega)] | rw [s_put_ne (by omega)] | rw [s_clr_ne (by omega)] | rw [s_mw_ne (by omega)]); done))) (fun i => (by first | rfl | ((repeat first | rw [s_ne_rd (by omega)] | rw [s_ne_ri (by omega)] | rw [s_fn_ne (by omega)] | rw [s_pf_ne (by omega)] | rw [s_put_ne (by omega)] | rw [s_clr_ne (by omega)] | rw [s_mw_ne (by omega)]); done))) g6
  · exact s_R7_ag (fun l hl => (by first | rfl | ((repeat first | rw [s_ne_rd (by omega)] | rw [s_ne_ri (by omega)] | rw [s_fn_ne (by omega)] | rw [s_pf_ne (by omega)] | rw [s_put_ne (by omega)] | rw [s_clr_ne (by omega)] | rw [s_mw_ne (by omega)]); done))) (fun l i hl hi => (by first | rfl | ((repeat first | rw [s_ne_rd (by omega)] | rw [s_ne_ri (by omega)] | rw [s_fn_ne (by omega)] | rw [s_pf_ne (by omega)] | rw [s_put_ne (by omega)] | rw [s_clr_ne (by omega)] | rw [s_mw_ne (by omega)]); done))) (fun i => (by first | rfl | ((repeat first | rw [s_ne_rd (by omega)] | rw [s_ne_ri (by omega)] | rw [s_fn_ne (by omega)] | rw [s_pf_ne (by omega)] | rw [s_put_ne (by omega)] | rw [s_clr_ne (by omega)] | rw [s_mw_ne (by omega)]); done))) (fun i => (by first | rfl | ((repeat first | rw [s_ne_rd (by omega)] | rw [s_ne_ri (by omega)] | rw [s_fn_ne (by omega)] | rw [s_pf_ne (by omega)] | rw [s_put_ne (by omega)] | rw [s_clr_ne (by omega)] | rw [s_mw_ne (by omega)]); done))) g7
  · exact ⟨rfl, g8.2.1, g8.2.2⟩
  · exact s_R9_ag (by first | rfl | ((repeat first | rw [s_ne_rd (by omega)] | rw [s_ne_ri (by omega)] | rw [s_fn_ne (by omega)] | rw [s_pf_ne (by omega)] | rw [s_put_ne (by omega)] | rw [s_clr_ne (by omega)] | rw [s_mw_ne (by omega)]); done)) (fun i => (by first | rfl | ((repeat first | rw [s_ne_rd (by omega)] | rw [s_ne_ri (by omega)] | rw [s_fn_ne (by omega)] | rw [s_pf_ne (by omega)] | rw [s_put_ne (by omega)] | rw [s_clr_ne (by omega)] | rw [s_mw_ne (by omega)]); done))) (fun i => (by first | rfl | ((repeat first | rw [s_ne_rd (by omega)] | rw [s_ne_ri (by omega)] | rw [s_fn_ne (by omega)] | rw [s_pf_ne (by omega)] | rw [s_put_ne (by omega)] | rw [s_clr_ne (by omega)] | rw [s_mw_ne (by omega)]); done))) (fun i => (by first | rfl | ((repeat first | rw [s_ne_rd (by omega)] | rw [s_ne_ri (by omega)] | rw [s_fn_ne (by omega)] | rw [s_pf_ne (by omega)] | rw [s_put_ne (by omega)] | rw [s_clr_ne (by omega)] | rw [s_mw_ne (by omega)]); done))) (fun q r hr => by
      have hq := s_OB_w (s_kept hK q hr).1
      exact s_ob_ag (fun i => (by first | rfl | ((repeat first | rw [s_ne_rd (by omega)] | rw [s_ne_ri (by omega)] | rw [s_fn_ne (by omega)] | rw [s_pf_ne (by omega)] | rw [s_put_ne (by omega)] | rw [s_clr_ne (by omega)] | rw [s_mw_ne (by omega)]); done)))) (by first | rfl | ((repeat first | rw [s_ne_rd (by omega)] | rw [s_ne_ri (by omega)] | rw [s_fn_ne (by omega)] | rw [s_pf_ne (by omega)] | rw [s_put_ne (by omega)] | rw [s_clr_ne (by omega)] | rw [s_mw_ne (by omega)]); done)) (fun i => (by first | rfl | ((repeat first | rw [s_ne_rd (by omega)] | rw [s_ne_ri (by omega)] | rw [s_fn_ne (by omega)] | rw [s_pf_ne (by omega)] | rw [s_put_ne (by omega)] | rw [s_clr_ne (by omega)] | rw [s_mw_ne (by omega)]); done))) g9

set_option maxHeartbeats 4000000 in
theorem R_td {c n : Nat} {h : Int → Nat} {X M : ew_Mem} (hK : s_K c n X) (hR : s_RM h X M)  : s_RM h (ew_wr X 4 6 (X 4 6 + 1)) (ew_wr M 38 22 (M 38 22 + 1)) := by
  obtain ⟨k0, k1, k2, k3, k4, k5, k6, k7, k8, k9, k10, k11⟩ := id hK
  obtain ⟨g1, g2, g6, g7, g8, g9⟩ := id hR
  refine ⟨?_, ?_, ?_, ?_, ?_, ?_⟩
  · exact s_R1_ag (fun i => (by first | rfl | ((repeat first | rw [s_ne_rd (by omega)] | rw [s_ne_ri (by omega)] | rw [s_fn_ne (by omega)] | rw [s_pf_ne (by omega)] | rw [s_put_ne (by omega)] | rw [s_clr_ne (by omega)] | rw [s_mw_ne (by omega)]); done))) (fun i => (by first | rfl | ((repeat first | rw [s_ne_rd (by omega)] | rw [s_ne_ri (by omega)] | rw [s_fn_ne (by omega)] | rw [s_pf_ne (by omega)] | rw [s_put_ne (by omega)] | rw [s_clr_ne (by omega)] | rw [s_mw_ne (by omega)]); done))) (by first | rfl | ((repeat first | rw [s_ne_rd (by omega)] | rw [s_ne_ri (by omega)] | rw [s_fn_ne (by omega)] | rw [s_pf_ne (by omega)] | rw [s_put_ne (by omega)] | rw [s_clr_ne (by omega)] | rw [s_mw_ne (by omega)]); done)) (by first | rfl | ((repeat first | rw [s_ne_rd (by omega)] | rw [s_ne_ri (by omega)] | rw [s_fn_ne (by omega)] | rw [s_pf_ne (by omega)] | rw [s_put_ne (by omega)] | rw [s_clr_ne (by omega)] | rw [s_mw_ne (by omega)]); done)) (by first | rfl | ((repeat first | rw [s_ne_rd (by omega)] | rw [s_ne_ri (by omega)] | rw [s_fn_ne (by omega)] | rw [s_pf_ne (by omega)] | rw [s_put_ne (by omega)] | rw [s_clr_ne (by omega)] | rw [s_mw_ne (by omega)]); done)) (fun i => (by first | rfl | ((repeat first | rw [s_ne_rd (by omega)] | rw [s_ne_ri (by omega)] | rw [s_fn_ne (by omega)] | rw [s_pf_ne (by omega)] | rw [s_put_ne (by omega)] | rw [s_clr_ne (by omega)] | rw [s_mw_ne (by omega)]); done))) g1
  · exact s_R2_ag (by first | rfl | ((repeat first | rw [s_ne_rd (by omega)] | rw [s_ne_ri (by omega)] | rw [s_fn_ne (by omega)] | rw [s_pf_ne (by omega)] | rw [s_put_ne (by omega)] | rw [s_clr_ne (by omega)] | rw [s_mw_ne (by omega)]); done)) (fun i => (by first | rfl | ((repeat first | rw [s_ne_rd (by omega)] | rw [s_ne_ri (by omega)] | rw [s_fn_ne (by omega)] | rw [s_pf_ne (by omega)] | rw [s_put_ne (by omega)] | rw [s_clr_ne (by omega)] | rw [s_mw_ne (by omega)]); done))) (fun t i ht hi => (by first | rfl | ((repeat first | rw [s_ne_rd (by omega)] | rw [s_ne_ri (by omega)] | rw [s_fn_ne (by omega)] | rw [s_pf_ne (by omega)] | rw [s_put_ne (by omega)] | rw [s_clr_ne (by omega)] | rw [s_mw_ne (by omega)]); done))) (fun a ha => by
      have hq := s_OB_w (s_lv_OB hK ha)
      exact s_ob_ag (fun i => (by first | rfl | ((repeat first | rw [s_ne_rd (by omega)] | rw [s_ne_ri (by omega)] | rw [s_fn_ne (by omega)] | rw [s_pf_ne (by omega)] | rw [s_put_ne (by omega)] | rw [s_clr_ne (by omega)] | rw [s_mw_ne (by omega)]); done)))) (fun i => (by first | rfl | ((repeat first | rw [s_ne_rd (by omega)] | rw [s_ne_ri (by omega)] | rw [s_fn_ne (by omega)] | rw [s_pf_ne (by omega)] | rw [s_put_ne (by omega)] | rw [s_clr_ne (by omega)] | rw [s_mw_ne (by omega)]); done))) (fun i => (by first | rfl | ((repeat first | rw [s_ne_rd (by omega)] | rw [s_ne_ri (by omega)] | rw [s_fn_ne (by omega)] | rw [s_pf_ne (by omega)] | rw [s_put_ne (by omega)] | rw [s_clr_ne (by omega)] | rw [s_mw_ne (by omega)]); done))) (fun i => (by first | rfl | ((repeat first | rw [s_ne_rd (by omega)] | rw [s_ne_ri (by omega)] | rw [s_fn_ne (by omega)] | rw [s_pf_ne (by omega)] | rw [s_put_ne (by omega)] | rw [s_clr_ne (by omega)] | rw [s_mw_ne (by omega)]); done))) (fun i => (by first | rfl | ((repeat first | rw [s_ne_rd (by omega)] | rw [s_ne_ri (by omega)] | rw [s_fn_ne (by omega)] | rw [s_pf_ne (by omega)] | rw [s_put_ne (by omega)] | rw [s_clr_ne (by omega)] | rw [s_mw_ne (by omega)]); done))) (fun i => (by first | rfl | ((repeat first | rw [s_ne_rd (by omega)] | rw [s_ne_ri (by omega)] | rw [s_fn_ne (by omega)] | rw [s_pf_ne (by omega)] | rw [s_put_ne (by omega)] | rw [s_clr_ne (by omega)] | rw [s_mw_ne (by omega)]); done))) (fun i => (by first | rfl | ((repeat first | rw [s_ne_rd (by omega)] | rw [s_ne_ri (by omega)] | rw [s_fn_ne (by omega)] | rw [s_pf_ne (by omega)] | rw [s_put_ne (by omega)] | rw [s_clr_ne (by omega)] | rw [s_mw_ne (by omega)]); done))) (fun i => (by first | rfl | ((repeat first | rw [s_ne_rd (by omega)] | rw [s_ne_ri (by omega)] | rw [s_fn_ne (by omega)] | rw [s_pf_ne (by omega)] | rw [s_put_ne (by omega)] | rw [s_clr_ne (by omega)] | rw [s_mw_ne (by omega)]); done))) g2
  · exact s_R6_ag (fun t i ht hi => (by first | rfl | ((repeat first | rw [s_ne_rd (by omega)] | rw [s_ne_ri (by omega)] | rw [s_fn_ne (by omega)] | rw [s_pf_ne (by omega)] | rw [s_put_ne (by omega)] | rw [s_clr_ne (by omega)] | rw [s_mw_ne (by omega)]); done))) (fun i => (by first | rfl | ((repeat first | rw [s_ne_rd (by omega)] | rw [s_ne_ri (by omega)] | rw [s_fn_ne (by omega)] | rw [s_pf_ne (by omega)] | rw [s_put_ne (by omega)] | rw [s_clr_ne (by omega)] | rw [s_mw_ne (by omega)]); done))) (fun i => (by first | rfl | ((repeat first | rw [s_ne_rd (by omega)] | rw [s_ne_ri (by omega)] | rw [s_fn_ne (by omega)] | rw [s_pf_ne (by omega)] | rw [s_put_ne (by omega)] | rw [s_clr_ne (by omega)] | rw [s_mw_ne (by omega)]); done))) g6
  · exact s_R7_ag (fun l hl => (by first | rfl | ((repeat first | rw [s_ne_rd (by omega)] | rw [s_ne_ri (by omega)] | rw [s_fn_ne (by omega)] | rw [s_pf_ne (by omega)] | rw [s_put_ne (by omega)] | rw [s_clr_ne (by omega)] | rw [s_mw_ne (by omega)]); done))) (fun l i hl hi => (by first | rfl | ((repeat first | rw [s_ne_rd (by omega)] | rw [s_ne_ri (by omega)] | rw [s_fn_ne (by omega)] | rw [s_pf_ne (by omega)] | rw [s_put_ne (by omega)] | rw [s_clr_ne (by omega)] | rw [s_mw_ne (by omega)]); done))) (fun i => (by first | rfl | ((repeat first | rw [s_ne_rd (by omega)] | rw [s_ne_ri (by omega)] | rw [s_fn_ne (by omega)] | rw [s_pf_ne (by omega)] | rw [s_put_ne (by omega)] | rw [s_clr_ne (by omega)] | rw [s_mw_ne (by omega)]); done))) (fun i => (by first | rfl | ((repeat first | rw [s_ne_rd (by omega)] | rw [s_ne_ri (by omega)] | rw [s_fn_ne (by omega)] | rw [s_pf_ne (by omega)] | rw [s_put_ne (by omega)] | rw [s_clr_ne (by omega)] | rw [s_mw_ne (by omega)]); done))) g7
  · refine ⟨g8.1, g8.2.1, ?_⟩
    show M 38 22 + 1 = X 4 6 + 1
    rw [g8.2.2]
  · exact s_R9_ag (by first | rfl | ((repeat first | rw [s_ne_rd (by omega)] | rw [s_ne_ri (by omega)] | rw [s_fn_ne (by omega)] | rw [s_pf_ne (by omega)] | rw [s_put_ne (by omega)] | rw [s_clr_ne (by omega)] | rw [s_mw_ne (by omega)]); done)) (fun i => (by first | rfl | ((repeat first | rw [s_ne_rd (by omega)] | rw [s_ne_ri (by omega)] | rw [s_fn_ne (by omega)] | rw [s_pf_ne (by omega)] | rw [s_put_ne (by omega)] | rw [s_clr_ne (by omega)] | rw [s_mw_ne (by omega)]); done))) (fun i => (by first | rfl | ((repeat first | rw [s_ne_rd (by omega)] | rw [s_ne_ri (by omega)] | rw [s_fn_ne (by omega)] | rw [s_pf_ne (by omega)] | rw [s_put_ne (by omega)] | rw [s_clr_ne (by omega)] | rw [s_mw_ne (by omega)]); done))) (fun i => (by first | rfl | ((repeat first | rw [s_ne_rd (by omega)] | rw [s_ne_ri (by omega)] | rw [s_fn_ne (by omega)] | rw [s_pf_ne (by omega)] | rw [s_put_ne (by omega)] | rw [s_clr_ne (by omega)] | rw [s_mw_ne (by omega)]); done))) (fun q r hr => by
      have hq := s_OB_w (s_kept hK q hr).1
      exact s_ob_ag (fun i => (by first | rfl | ((repeat first | rw [s_ne_rd (by omega)] | rw [s_ne_ri (by omega)] | rw [s_fn_ne (by omega)] | rw [s_pf_ne (by omega)] | rw [s_put_ne (by omega)] | rw [s_clr_ne (by omega)] | rw [s_mw_ne (by omega)]); done)))) (by first | rfl | ((repeat first | rw [s_ne_rd (by omega)] | rw [s_ne_ri (by omega)] | rw [s_fn_ne (by omega)] | rw [s_pf_ne (by omega)] | rw [s_put_ne (by omega)] | rw [s_clr_ne (by omega)] | rw [s_mw_ne (by omega)]); done)) (fun i => (by first | rfl | ((repeat first | rw [s_ne_rd (by omega)] | rw [s_ne_ri (by omega)] | rw [s_fn_ne (by omega)] | rw [s_pf_ne (by omega)] | rw [s_put_ne (by omega)] | rw [s_clr_ne (by omega)] | rw [s_mw_ne (by omega)]); done))) g9

theorem s_fr_aM {M M' : ew_Mem} (h : s_fr 0 M M') : s_aM M M' := fun a j ha _ => h a j (by omega) (by omega) (by omega)
theorem J_read {c n : Nat} {M : ew_Mem} (hJ : s_J c n M) : s_Call 0 132 216 [] c n M := by
  obtain ⟨hK, h, hR⟩ := hJ
  obtain ⟨k0, k1, k2, k3, k4, k5, k6, k7, k8, k9, k10, k11⟩ := id hK
  have hz : (((M 27 1).toNat : Nat) : Int) = M 27 1 := by have := k8.1; omega
  have hT : s_TP (fun i => M 28 i) (M 27 1).toNat M := ⟨k2, hz.symm, by have := k8.1; omega, fun _ _ => rfl, k8.2⟩
  have hps := s_ps_bd (B := fun i => M 28 i) (z := (M 27 1).toNat) (by have := k8.1; omega) k8.2 27 0 (Nat.zero_le _)
  unfold s_Call
  refine ew_Cm (cx_read hK hT) ?_
  rintro r a b ⟨M1, f1, q1, q2⟩
  generalize hP : s_ps (fun i => M 28 i) (M 27 1).toNat 27 0 = P at q1 q2 hps
  have hp1 := s_fr_pm f1 k2
  have hK1 : s_K c n M1 := s_K_ag (s_fr_C f1) hp1 hK
  have e52 : M1 5 2 = M 5 2 := f1 5 2 (by omega) (by omega) (by omega)
  have e46 : M1 4 6 = M 4 6 := f1 4 6 (by omega) (by omega) (by omega)
  by_cases hq : P.1 = true ∧ s_fa P.2.2 (M 5 2) = 0
  · obtain ⟨r1, r2, r3⟩ := q1 hq
    subst r1 r2 r3
    rw [s_dos_cm P.2.2 n M1 k0]
    have hfa : s_fa P.2.2 (M1 5 2) = 0 := by rw [e52]; exact hq.2
    obtain ⟨hK2, hcnt⟩ := K_dos P.2.2 n c M1 hK1 hps.2.2 hfa
    have hle := s_dos_len P.2.2 n M1
    have hoo : ∀ a j : Nat, ¬ a = 5 → ¬ a = 6 → ¬ a = 7 → a < n → (s_dos P.2.2 n M1).2 a j = M1 a j := fun a j h5 h6 h7 ha => s_dos_o h5 h6 h7 P.2.2 n M1 ha
    generalize hD : s_dos P.2.2 n M1 = D at hK2 hcnt hle hoo ⊢
    have hw1 := hK2.2.2.2.1.1
    have hw2 := hK1.2.2.2.1.1
    have hpD := hK2.2.2.1
    show ∃ x : Int, _ ∧ ew_C 216 _ D.1 (ew_wr (ew_wr D.2 27 1 0) 4 6 (M 4 6 + 1)) _
    generalize hb : ew_wr (ew_wr D.2 27 1 0) 4 6 (M 4 6 + 1) = b
    have hbo : ∀ a j : Nat, 38 ≤ a → a < 59 → b a j = M a j := by
      intro a j h1 h2
      rw [← hb, s_nr (by omega), s_nr (by omega), hoo a j (by omega) (by omega) (by omega) (by omega)]
      exact f1 a j (by omega) (by omega) (by omega)
    have hpb : ew_Pm b := by
      rw [← hb]
      exact ew_Pm_wr (ew_Pm_wr hpD rfl) rfl
    have hRb : s_RM h M1 b := s_R_ag hK (s_fr_C f1) (fun a j ha _ => hbo a j ha.1 ha.2) hR
    have hTb : s_TM (fun i => M 28 i) (M 27 1).toNat b := by
      obtain ⟨-, -, -, -, g8, -⟩ := hR
      exact ⟨hpb, (hbo 38 21 (by omega) (by omega)).trans (g8.1.trans hz.symm), by have := k8.1; omega, fun i hi => (hbo 53 i (by omega) (by omega)).trans (g8.2.1 i hi), k8.2⟩
    refine ⟨_, rfl, ew_Cm (mx_read hK1 hRb (show 59 ≤ D.1 by omega) hTb) ?_⟩
    rintro r2 n2 b2 ⟨s0, s1, -, s3⟩
    subst s0
    rw [hP] at s1
    obtain ⟨r1, h2, M2, t1, t2, t3⟩ := s1 ⟨hq.1, hfa⟩
    refine ⟨r1, ?_⟩
    rw [hD] at t1
    have e1 : s_RM h2 (ew_wr D.2 27 1 0) (ew_wr M2 38 21 0) := R_sz hK2 t1
    have hK3 := K_sz hK2
    have e2 := R_td hK3 e1
    have hK4 := K_td hK3
    have e3 : ew_wr D.2 27 1 0 4 6 = M 4 6 := by
      rw [s_nr (by omega), hoo 4 6 (by omega) (by omega) (by omega) (by omega)]
      exact e46
    rw [e3, hb] at e2 hK4
    have hK5 : s_K (c + 1) D.1 b := s_K_lo hK4 (by omega) (by rw [← hb, s_eq_rd]; omega)
    have e4 : ew_wr (ew_wr M2 38 21 0) 38 22 (ew_wr M2 38 21 0 38 22 + 1) = b2 := by
      rw [t3, s_nr (by omega), s_wr_cm (by omega)]
    rw [e4] at e2
    refine J_two hK5 e2 (fun a j ha _ => s3 a j ha) ?_
    rw [t3]
    exact ew_Pm_wr (ew_Pm_wr t2 rfl) rfl
  · obtain ⟨r1, r2, r3⟩ := q2 hq
    subst r1 r2 r3
    generalize hb : ew_wr M1 27 1 0 = b
    have hbo : ∀ a j : Nat, 38 ≤ a → b a j = M a j := by
      intro a j h1
      rw [← hb, s_nr (by omega)]
      exact f1 a j (by omega) (by omega) (by omega)
    have hpb : ew_Pm b := by
      rw [← hb]
      exact ew_Pm_wr hp1 rfl
    have hRb : s_RM h M1 b := s_R_ag hK (s_fr_C f1) (fun a j ha _ => hbo a j ha.1) hR
    have hTb : s_TM (fun i => M 28 i) (M 27 1).toNat b := by
      obtain ⟨-, -, -, -, g8, -⟩ := hR
      exact ⟨hpb, (hbo 38 21 (by omega)).trans (g8.1.trans hz.symm), by have := k8.1; omega, fun i hi => (hbo 53 i (by omega)).trans (g8.2.1 i hi), k8.2⟩
    refine ⟨_, rfl, ew_Cm (mx_read hK1 hRb k0 hTb) ?_⟩
    rintro r2 n2 b2 ⟨s0, -, s2, s3⟩
    subst s0
    rw [hP, e52] at s2
    obtain ⟨r1, M2, t1, t2, t3⟩ := s2 hq
    refine ⟨r1, ?_⟩
    have e1 : s_RM h (ew_wr M1 27 1 0) (ew_wr M2 38 21 0) := R_sz hK1 t1
    have hK3 := K_sz hK1
    rw [hb] at e1 hK3
    rw [← t3] at e1
    refine J_two hK3 e1 (fun a j ha _ => s3 a j ha) ?_
    rw [t3]
    exact ew_Pm_wr t2 rfl

