/-! both sides together: the calls that change the state -/
theorem J_st {t k k' : Nat} {A : List ew_AV} {c n n1 : Nat} {M X1 : ew_Mem} {x : Int} {h : Int → Nat} (hK : s_K c n M) (hR : s_RM h M M) (h1 : ew_FM k ((2, 4) :: A) n M (t, x) n1 X1) (hK1 : s_K (c + 1) n1 X1) (e1 : ∀ a j : Nat, (a < 4 ∨ (38 ≤ a ∧ a < 59)) → X1 a j = M a j)
    (h2 : s_RM h M X1 → s_M (s_V M) n1 X1 → ∃ (M2 : ew_Mem) (h2 : Int → Nat), ew_FM k' ((2, 38) :: A) n1 X1 (t, x) n1 M2 ∧ s_RM h2 X1 M2 ∧ ew_Pm M2 ∧ ∀ a j : Nat, (a < 38 ∨ 59 ≤ a) → M2 a j = X1 a j) : s_CL t k k' A c n M := by
  have hR1 : s_RM h M X1 := s_R_ag hK s_aC_rf (fun a j ha _ => e1 a j (Or.inr ha)) hR
  have hM := s_R_M hK hR1 hK1.2.2.1 hK1.1
  obtain ⟨M2, h2, g1, g2, g3, g4⟩ := h2 hR1 hM
  refine ew_Cm h1 ?_
  rintro r a b ⟨rfl, rfl, rfl⟩
  refine ⟨fun a j ha => e1 a j (Or.inl ha), x, rfl, ew_Cm g1 ?_⟩
  rintro r a b ⟨rfl, rfl, rfl⟩
  exact ⟨rfl, J_two hK1 g2 (fun a j ha _ => g4 a j ha) g3, fun a j ha => (g4 a j (by omega)).trans (e1 a j (Or.inl ha))⟩
theorem J_bind {c n : Nat} {M : ew_Mem} (hJ : s_J c n M) {w a : Int} (hw : ew_in w) (ha : ew_in a) : s_CL 0 96 167 [(0, w), (0, a)] c n M := by
  obtain ⟨hK, h, hR⟩ := id hJ
  by_cases hb : s_okB (s_V M) w a
  · exact J_st hK hR (cx_bind (s_K_C hK) hw ha hb) (K_bind hK hb) (fun a j ha1 => (by (repeat first | rw [s_nr (by omega)] | rw [s_fn_ne (by omega)] | rw [s_pf_ne (by omega)] | rw [s_put_ne (by omega)]))) (fun hR1 hM => ⟨_, h, mx_bind hM hw ha hb, R_bind hK hR1, ew_Pm_wr (ew_Pm_wr hM.2.1 rfl) rfl, (fun a j ha => (by (repeat first | rw [s_nr (by omega)] | rw [s_fn_ne (by omega)] | rw [s_pf_ne (by omega)] | rw [s_put_ne (by omega)])))⟩)
  · exact J_pure hJ (s_QF_of (cx_bindN (s_K_C hK) hw ha hb)) (fun _ _ _ hM => s_QF_of (mx_bindN hM hw ha hb))
theorem J_rule {c n : Nat} {M : ew_Mem} (hJ : s_J c n M) {x v : Int} (hx : ew_in x) (hv : ew_in v) : s_CL 0 97 168 [(0, x), (0, v)] c n M := by
  obtain ⟨hK, h, hR⟩ := id hJ
  by_cases hb : s_okR x v
  · exact J_st hK hR (cx_rule (s_K_C hK) hx hv hb.1 hb.2) (K_rule hK hb.1 hb.2) (fun a j ha1 => (by (repeat first | rw [s_nr (by omega)] | rw [s_fn_ne (by omega)] | rw [s_pf_ne (by omega)] | rw [s_put_ne (by omega)]))) (fun hR1 hM => ⟨_, h, mx_rule hM hx hv hb.1 hb.2, R_rule hK hR1, ew_Pm_wrA hM.2.1 rfl, (fun a j ha => (by (repeat first | rw [s_nr (by omega)] | rw [s_fn_ne (by omega)] | rw [s_pf_ne (by omega)] | rw [s_put_ne (by omega)])))⟩)
  · exact J_pure hJ (s_QF_of (cx_ruleN (s_K_C hK) hx hv hb)) (fun _ _ _ hM => s_QF_of (mx_ruleN hM hx hv hb))
theorem J_feed {c n : Nat} {M : ew_Mem} (hJ : s_J c n M) {x : Int} (hx : ew_in x) : s_CL 0 131 215 [(0, x)] c n M := by
  obtain ⟨hK, h, hR⟩ := id hJ
  obtain ⟨k0, k1, k2, k3, k4, k5, k6, k7, k8, k9, k10, k11⟩ := id hK
  by_cases hb : (0 ≤ x ∧ x ≤ 127) ∧ M 27 1 < 80
  · exact J_st hK hR (cx_feed k0 k2 k8.1 hb) (K_feed hK hb) (fun a j ha1 => (by (repeat first | rw [s_nr (by omega)] | rw [s_fn_ne (by omega)] | rw [s_pf_ne (by omega)] | rw [s_put_ne (by omega)]))) (fun hR1 hM => ⟨_, h, mx_feed hM.1 hM.2.1 hR1.2.2.2.2.1.1 k8.1 hb, R_feed hK hR1, ew_Pm_wr (ew_Pm_wrA hM.2.1 rfl) rfl, (fun a j ha => (by (repeat first | rw [s_nr (by omega)] | rw [s_fn_ne (by omega)] | rw [s_pf_ne (by omega)] | rw [s_put_ne (by omega)])))⟩)
  · exact J_pure hJ (s_QF_of (cx_feedN k0 k2 hx k8.1 hb)) (fun _ _ hR1 hM => s_QF_of (mx_feedN hM.1 hM.2.1 hx hR1.2.2.2.2.1.1 k8.1 hb))
theorem J_drop {c n : Nat} {M : ew_Mem} (hJ : s_J c n M) : s_CL 0 92 162 [] c n M := by
  obtain ⟨hK, h, hR⟩ := id hJ
  have hw := hK.2.2.2.1.1
  by_cases hb : 0 < M 5 2
  · exact J_st (X1 := s_dr M) hK hR (cx_drop (s_K_C hK) hb) (K_drop hK hb) (fun a j ha1 => by unfold s_dr; exact (by (repeat first | rw [s_nr (by omega)] | rw [s_fn_ne (by omega)] | rw [s_pf_ne (by omega)] | rw [s_put_ne (by omega)]))) (fun hR1 hM => ⟨s_drM M (s_dr M), h, mx_drop hM hb, R_drop hK hR1 hb, ew_Pm_wr (ew_Pm_wr (ew_Pm_wr hM.2.1 rfl) rfl) rfl, fun a j ha => by unfold s_drM; exact (by (repeat first | rw [s_nr (by omega)] | rw [s_fn_ne (by omega)] | rw [s_pf_ne (by omega)] | rw [s_put_ne (by omega)]))⟩)
  · have h0 : M 5 2 = 0 := by omega
    exact J_pure hJ (s_QF_of (cx_dropN (s_K_C hK) h0)) (fun _ _ _ hM => s_QF_of (mx_dropN hM h0))
theorem J_turn {c n : Nat} {M : ew_Mem} (hJ : s_J c n M) {w s t : Int} (hw : ew_in w) (hs : ew_in s) (ht : ew_in t) : s_CL 0 91 157 [(0, w), (0, s), (0, t)] c n M := by
  obtain ⟨hK, h, hR⟩ := id hJ
  have hw6 := hK.2.2.2.1.1
  by_cases hb : s_okT (s_V M) w s t
  · have hwl : ((w.toNat : Nat) : Int) < M 5 2 := by
      have h1 : w < M 5 2 := hb.1.2
      have h2 := hb.1.1
      omega
    have hab : s_AB (M (M 6 w.toNat).toNat 1) s t := by
      have g := hb.2
      rw [s_V_r (by omega)] at g
      exact g
    have ho := s_OB_w (s_li_OB hK hwl)
    refine J_st (X1 := s_tn M (M 6 w.toNat).toNat s t) hK hR (cx_turn (s_K_C hK) hw hs ht hb) (K_turn hK hwl hab) (fun a j ha1 => by unfold s_tn; exact (by (repeat first | rw [s_nr (by omega)] | rw [s_fn_ne (by omega)] | rw [s_pf_ne (by omega)] | rw [s_put_ne (by omega)]))) (fun hR1 hM => ?_)
    have e44 := hR1.2.1.1 w.toNat hwl
    have g := mx_turn hM hw hs ht hb
    rw [e44, Int.toNat_natCast] at g
    exact ⟨_, h, g, R_turn hK hR1 hwl hab, ew_Pm_wrA (ew_Pm_wrA hM.2.1 rfl) rfl, (fun a j ha => (by (repeat first | rw [s_nr (by omega)] | rw [s_fn_ne (by omega)] | rw [s_pf_ne (by omega)] | rw [s_put_ne (by omega)])))⟩
  · exact J_pure hJ (s_QF_of (cx_turnN (s_K_C hK) hw hs ht hb)) (fun _ _ _ hM => s_QF_of (mx_turnN hM hw hs ht hb))
theorem s_R_lv {c n : Nat} {h : Int → Nat} {X M : ew_Mem} (hR : s_RM h X M) : (∀ r : Nat, (r : Int) < X 5 2 → 0 ≤ M 44 r ∧ M 44 r < 64) ∧ ∀ r : Nat, r < 48 → ew_in (M 56 r) := by
  refine ⟨fun r hr => ?_, fun r hr => ?_⟩
  · have g1 := hR.2.1.1 r hr
    have g2 := (hR.2.1.2.2.1 (X 6 r) (Or.inl ⟨r, hr, rfl⟩)).1
    omega
  · have g1 := hR.2.1.2.1 (r / 12) (r % 12) (by omega) (by omega)
    rw [show 12 * (r / 12) + r % 12 = r by omega] at g1
    rw [g1]
    split
    · decide
    · rename_i q
      have g2 := (hR.2.1.2.2.1 (X (13 + 2 * (r / 12)) (r % 12)) (Or.inr ⟨r / 12, r % 12, by omega, by omega, rfl, q⟩)).1
      omega
theorem J_wheel {c n : Nat} {M : ew_Mem} (hJ : s_J c n M) {k p s t : Int} (hk : ew_in k) (hp_ : ew_in p) (hs : ew_in s) (ht : ew_in t) : s_CL 0 89 149 [(0, k), (0, p), (0, s), (0, t)] c n M := by
  obtain ⟨hK, h, hR⟩ := id hJ
  have hw6 := hK.2.2.2.1.1
  have hn := hK.1
  by_cases hb : s_okW (s_V M) k p s t
  · have h6 : M 5 2 < 6 := hb.2
    have hmd := s_md_in (k := k) (s := t) (f := if M 5 2 = 0 then 1 else 0)
    refine J_st (X1 := s_ad M n k p s t (s_md k t (if M 5 2 = 0 then 1 else 0)) (M 5 2)) hK hR (cx_wheel (s_K_C hK) hk hp_ hs ht hb) (K_add hK hb.1 hmd h6) (fun a j ha1 => s_ad_n (by omega) (by omega) (by omega)) (fun hR1 hM => ?_)
    obtain ⟨hlv, h56⟩ := s_R_lv (c := c) (n := n) hR1
    have hcn : (((M 5 2).toNat : Nat) : Int) = M 5 2 := by omega
    obtain ⟨i, hi, f1, f2, hf⟩ := m_free hM.1 hM.2.1 (z := M 5 2) hR1.1.1 hw6 hlv hcn h56 (s_row (by omega))
    have f1' : ∀ r : Nat, (r : Int) < M 5 2 → ¬ s_ad M n k p s t (s_md k t (if M 5 2 = 0 then 1 else 0)) (M 5 2) 44 r = (i : Int) := fun r hr => f1 r (by omega)
    refine ⟨_, _, mx_wheel hM hk hp_ hs ht hi hf hb, R_add hK hR1 hi f1' f2 hb.1 hmd h6, ?_, ?_⟩
    · unfold s_cm
      exact ew_Pm_wr (ew_Pm_wrA (ew_Pm_wrA (ew_Pm_wrA (ew_Pm_wrA (ew_Pm_wrA (ew_Pm_wrA hM.2.1 rfl) rfl) rfl) rfl) rfl) rfl) rfl
    · intro a j ha
      exact s_cm_n (by omega)
  · exact J_pure hJ (s_QF_of (cx_wheelN (s_K_C hK) hk hp_ hs ht hb)) (fun _ _ _ hM => s_QF_of (mx_wheelN hM hk hp_ hs ht hb))
theorem J_tray {c n : Nat} {M : ew_Mem} (hJ : s_J c n M) {t k m : Int} (ht : ew_in t) (hk : ew_in k) (hm : ew_in m) : s_CL 0 134 224 [(0, t), (0, k), (0, m)] c n M := by
  obtain ⟨hK, h, hR⟩ := id hJ
  obtain ⟨k0, k1, k2, -⟩ := id hK
  by_cases hb : s_okY t k m
  · have hu : t.toNat < 4 := by omega
    exact J_st hK hR (cx_tray k0 k2 ht hk hm hb) (K_tray hK hu (by omega) (by split <;> omega)) (fun a j ha1 => by unfold s_ty; exact (by (repeat first | rw [s_nr (by omega)] | rw [s_fn_ne (by omega)] | rw [s_pf_ne (by omega)] | rw [s_put_ne (by omega)]))) (fun hR1 hM => ⟨_, h, mx_tray hM.1 hM.2.1 ht hk hm hb, R_tray hK hR1 hu, s_fn_pm (ew_Pm_wrA (ew_Pm_wrA hM.2.1 rfl) rfl) rfl, fun a j ha => by unfold s_tyM; exact (by (repeat first | rw [s_nr (by omega)] | rw [s_fn_ne (by omega)] | rw [s_pf_ne (by omega)] | rw [s_put_ne (by omega)]))⟩)
  · exact J_pure hJ (s_QF_of (cx_trayN k0 k2 ht hk hm hb)) (fun _ _ _ hM => s_QF_of (mx_trayN hM.1 hM.2.1 ht hk hm hb))
theorem J_lay {c n : Nat} {M : ew_Mem} (hJ : s_J c n M) {t i w : Int} (ht : ew_in t) (hi : ew_in i) (hw : ew_in w) : s_CL 0 136 226 [(0, t), (0, i), (0, w)] c n M := by
  obtain ⟨hK, h, hR⟩ := id hJ
  obtain ⟨k0, k1, k2, k3, k4, k5, k6, k7, k8, k9, k10, k11⟩ := id hK
  by_cases ho : 0 ≤ t ∧ t < 4
  · have hu : t.toNat < 4 := by omega
    obtain ⟨⟨hk1, hk2, hk3⟩, hbb⟩ := k6 t.toNat hu
    by_cases hb : s_okL (s_V M) (M (12 + 2 * t.toNat) 1) (M (12 + 2 * t.toNat) 2) t i w
    · have hwW : ¬ w = -1 → 0 ≤ w ∧ w < M 5 2 := fun q => by
        rcases hb.2.1 with g | g
        · exact absurd g q
        · exact g
      have hii := hb.2.2.2.1
      have hlv : (if w = -1 then 0 else M 6 w.toNat) = 0 ∨ s_lv M (if w = -1 then 0 else M 6 w.toNat) := by
        by_cases e : w = -1
        · rw [if_pos e]
          exact Or.inl rfl
        · rw [if_neg e]
          have := hwW e
          exact Or.inr (Or.inl ⟨w.toNat, by omega, rfl⟩)
      refine J_st hK hR (cx_lay (s_K_C hK) ht hi hw hk1 ⟨hk2, hk3⟩ hb) (K_lay hK hu hlv) (fun a j ha1 => (by (repeat first | rw [s_nr (by omega)] | rw [s_fn_ne (by omega)] | rw [s_pf_ne (by omega)] | rw [s_put_ne (by omega)]))) (fun hR1 hM => ?_)
      have g := mx_lay hM ht hi hw ((hR1.2.2.1 t.toNat hu).1) ((hR1.2.2.1 t.toNat hu).2) hk1 ⟨hk2, hk3⟩ hb
      rw [show (12 * t + i).toNat = 12 * t.toNat + i.toNat by omega] at g
      refine ⟨_, h, g, R_lay hK hR1 hu (by omega) hlv ?_, ew_Pm_wrA hM.2.1 rfl, (fun a j ha => (by (repeat first | rw [s_nr (by omega)] | rw [s_fn_ne (by omega)] | rw [s_pf_ne (by omega)] | rw [s_put_ne (by omega)])))⟩
      by_cases e : w = -1
      · rw [if_pos e, if_pos e, if_pos rfl]
      · have hww := hwW e
        have ho := s_OB_w (s_li_OB hK (w := w.toNat) (by omega))
        rw [if_neg e, if_neg e, if_neg (by omega)]
        have g44 := hR1.2.1.1 w.toNat (by omega)
        rw [if_neg e] at g44
        exact g44
    · exact J_pure hJ (s_QF_of (cx_layN (s_K_C hK) ht hi hw hk1 ⟨hk2, hk3⟩ hb)) (fun _ _ hR1 hM => s_QF_of (mx_layN hM ht hi hw ((hR1.2.2.1 t.toNat hu).1) ((hR1.2.2.1 t.toNat hu).2) hk1 ⟨hk2, hk3⟩ hb))
  · exact J_pure hJ (s_QF_of (cx_lay_o k0 k2 ht hi hw ho)) (fun _ _ _ hM => s_QF_of (mx_lay_o hM.1 hM.2.1 ht hi hw ho))
theorem J_like {c n : Nat} {M : ew_Mem} (hJ : s_J c n M) {t o : Int} (ht : ew_in t) (ho : ew_in o) : s_CL 0 138 229 [(0, t), (0, o)] c n M := by
  obtain ⟨hK, h, hR⟩ := id hJ
  obtain ⟨k0, k1, k2, k3, k4, k5, k6, k7, k8, k9, k10, k11⟩ := id hK
  by_cases hq : 0 ≤ o ∧ o < 4
  · have hv : o.toNat < 4 := by omega
    obtain ⟨⟨hk1, hk2, hk3⟩, hbb⟩ := k6 o.toNat hv
    have hO : ∀ i : Nat, i < 12 → M (13 + 2 * o.toNat) i = 0 ∨ ew_own 6 (M (13 + 2 * o.toNat) i) n = true := fun i hi => (hbb i hi).imp id (fun g => g.1)
    by_cases hb : s_okK (M (12 + 2 * o.toNat) 1) t o
    · have hu : t.toNat < 4 := by omega
      refine J_st hK hR (cx_like k0 k2 ht ho hk1 hO hb) (K_like hK hu hv) (fun a j ha1 => by unfold s_tb; exact (by (repeat first | rw [s_nr (by omega)] | rw [s_fn_ne (by omega)] | rw [s_pf_ne (by omega)] | rw [s_put_ne (by omega)]))) (fun hR1 hM => ?_)
      have g := mx_like hM.1 hM.2.1 ht ho (fun _ => (hR1.2.2.1 o.toNat hv).1) hk1 hb
      rw [(hR1.2.2.1 o.toNat hv).2] at g
      exact ⟨_, h, g, R_like hK hR1 hu hv, s_fn_pm (ew_Pm_wrA (ew_Pm_wrA hM.2.1 rfl) rfl) rfl, fun a j ha => by unfold s_tbM; exact (by (repeat first | rw [s_nr (by omega)] | rw [s_fn_ne (by omega)] | rw [s_pf_ne (by omega)] | rw [s_put_ne (by omega)]))⟩
    · exact J_pure hJ (s_QF_of (cx_likeN k0 k2 ht ho hk1 hO hb)) (fun _ _ hR1 hM => s_QF_of (mx_likeN hM.1 hM.2.1 ht ho (fun _ => (hR1.2.2.1 o.toNat hv).1) hk1 hb))
  · refine J_pure hJ (s_QF_of (cx_like_o k0 k2 ht ho hq)) (fun _ _ hR1 hM => ?_)
    have g := mx_likeN hM.1 hM.2.1 ht ho (kd := 0) (fun q => absurd q hq) (by decide) (fun q => hq q.1.2)
    have e : s_n_like t o = -1 := if_neg (fun q => hq q.2)
    rw [e] at g
    exact s_QF_of g
theorem J_list {c n : Nat} {M : ew_Mem} (hJ : s_J c n M) {t m : Int} (ht : ew_in t) (hm : ew_in m) : s_CL 0 139 230 [(0, t), (0, m)] c n M := by
  obtain ⟨hK, h, hR⟩ := id hJ
  obtain ⟨k0, k1, k2, -⟩ := id hK
  by_cases hb : s_okI t m
  · have hu : t.toNat < 3 := by omega
    exact J_st hK hR (cx_list k0 k2 ht hm hb) (K_list hK hu hb.2) (fun a j ha1 => by unfold s_cl; exact (by (repeat first | rw [s_nr (by omega)] | rw [s_fn_ne (by omega)] | rw [s_pf_ne (by omega)] | rw [s_put_ne (by omega)]))) (fun hR1 hM => ⟨_, h, mx_list hM.1 hM.2.1 ht hm hb, R_list hK hR1 hu, s_fn_pm (ew_Pm_wrA hM.2.1 rfl) rfl, fun a j ha => by unfold s_clM; exact (by (repeat first | rw [s_nr (by omega)] | rw [s_fn_ne (by omega)] | rw [s_pf_ne (by omega)] | rw [s_put_ne (by omega)]))⟩)
  · exact J_pure hJ (s_QF_of (cx_listN k0 k2 ht hm hb)) (fun _ _ _ hM => s_QF_of (mx_listN hM.1 hM.2.1 ht hm hb))
theorem J_put {c n : Nat} {M : ew_Mem} (hJ : s_J c n M) {t i v : Int} (ht : ew_in t) (hi : ew_in i) (hv : ew_inl v) : s_CL 0 141 232 [(0, t), (0, i), (1, v)] c n M := by
  obtain ⟨hK, h, hR⟩ := id hJ
  obtain ⟨k0, k1, k2, k3, k4, k5, k6, k7, k8, k9, k10, k11⟩ := id hK
  by_cases ho : 0 ≤ t ∧ t < 3
  · have hu : t.toNat < 3 := by omega
    have hk := (k7 t.toNat hu).1
    by_cases hb : s_okP (M (21 + 2 * t.toNat) 1) t i
    · have hii := hb.2.2
      refine J_st hK hR (cx_put k0 k2 ht hi rfl hk hb) (K_put hK hu hv) (fun a j ha1 => (by (repeat first | rw [s_nr (by omega)] | rw [s_fn_ne (by omega)] | rw [s_pf_ne (by omega)] | rw [s_put_ne (by omega)]))) (fun hR1 hM => ?_)
      have g := mx_put hM.1 hM.2.1 ht hi (v := v) ((hR1.2.2.2.1 t.toNat hu).1) hk hb
      rw [show (40 * t + i).toNat = 40 * t.toNat + i.toNat by omega] at g
      exact ⟨_, h, g, R_put hK hR1 hu (by omega), ew_Pm_wrA hM.2.1 rfl, (fun a j ha => (by (repeat first | rw [s_nr (by omega)] | rw [s_fn_ne (by omega)] | rw [s_pf_ne (by omega)] | rw [s_put_ne (by omega)])))⟩
    · exact J_pure hJ (s_QF_of (cx_putN k0 k2 ht hi rfl hk hb)) (fun _ _ hR1 hM => s_QF_of (mx_putN hM.1 hM.2.1 ht hi ((hR1.2.2.2.1 t.toNat hu).1) hk hb))
  · exact J_pure hJ (s_QF_of (cx_put_o k0 k2 ht hi ho)) (fun _ _ _ hM => s_QF_of (mx_put_o hM.1 hM.2.1 ht hi ho))
theorem J_fill {c n : Nat} {M : ew_Mem} (hJ : s_J c n M) {t m : Int} (ht : ew_in t) (hm : ew_in m) : s_CL 0 143 234 [(0, t), (0, m)] c n M := by
  obtain ⟨hK, h, hR⟩ := id hJ
  obtain ⟨k0, k1, k2, k3, k4, k5, k6, k7, k8, k9, k10, k11⟩ := id hK
  by_cases ho : 0 ≤ t ∧ t < 3
  · have hu : t.toNat < 3 := by omega
    have hk := (k7 t.toNat hu).1
    by_cases hb : s_okF (M (21 + 2 * t.toNat) 1) t m
    · have hmm := hb.2.1
      have hfr : s_Fr M (s_put M 32 (s_E (s_V M) m (M (21 + 2 * t.toNat) 1))) := s_put_fr s_Fr_rfl (fun i => by unfold s_scr; simp)
      have hK' : s_K c n (s_put M 32 (s_E (s_V M) m (M (21 + 2 * t.toNat) 1))) := s_K_ag (fun a i _ q => hfr a i q) (s_Fr_pm hfr k2) hK
      have hle : ((s_E (s_V M) m (M (21 + 2 * t.toNat) 1)).length : Int) ≤ M (21 + 2 * t.toNat) 1 := s_es_len _ _ _ (by omega)
      have hbd : ∀ v ∈ s_E (s_V M) m (M (21 + 2 * t.toNat) 1), ew_inl v := fun v hv => by
        have := s_es_bd _ _ _ v hv
        omega
      refine J_st hK hR (cx_fill (s_K_C hK) ht hm rfl hk hb) (K_fill hK' hu hbd) (fun a j ha1 => (by (repeat first | rw [s_nr (by omega)] | rw [s_fn_ne (by omega)] | rw [s_pf_ne (by omega)] | rw [s_put_ne (by omega)]))) (fun hR1 hM => ?_)
      exact ⟨_, h, mx_fill hM ht hm ((hR1.2.2.2.1 t.toNat hu).1) hk hb, R_fill hK' (s_R_ag hK (fun a i _ q => hfr a i q) (fun _ _ _ _ => rfl) hR1) hu (by omega), s_fn_pm hM.2.1 rfl, (fun a j ha => (by (repeat first | rw [s_nr (by omega)] | rw [s_fn_ne (by omega)] | rw [s_pf_ne (by omega)] | rw [s_put_ne (by omega)])))⟩
    · exact J_pure hJ (s_QF_of (cx_fillN (s_K_C hK) ht hm rfl hk hb)) (fun _ _ hR1 hM => s_QF_of (mx_fillN hM ht hm ((hR1.2.2.2.1 t.toNat hu).1) hk hb))
  · exact J_pure hJ (s_QF_of (cx_fill_o k0 k2 ht hm ho)) (fun _ _ _ hM => s_QF_of (mx_fill_o hM.1 hM.2.1 ht hm ho))
theorem J_image {c n : Nat} {M : ew_Mem} (hJ : s_J c n M) : s_CL 0 146 237 [] c n M := by
  obtain ⟨hK, h, hR⟩ := id hJ
  obtain ⟨k0, k1, k2, -⟩ := id hK
  refine ew_Cm (cx_image k0 k2 rfl (s_wS_now hK)) ?_
  rintro r n2 b ⟨rfl, M2, hB, rfl⟩
  have hK1 := s_K_image hK hB
  have e1 : ∀ a j : Nat, (a < 4 ∨ (38 ≤ a ∧ a < 59)) → s_im M2 a j = M a j := fun a j h1 => (s_im_o (by omega) (by omega) (by omega)).trans (hB.2.1 a j (by omega) (by omega))
  have hR1 : s_RM h M (s_im M2) := s_R_ag hK s_aC_rf (fun a j ha _ => e1 a j (Or.inr ha)) hR
  have hM := s_R_M hK hR1 hK1.2.2.1 hK1.1
  refine ⟨fun a j ha => e1 a j (Or.inl ha), M 5 2, rfl, ew_Cm (mx_image hM) ?_⟩
  rintro r2 n3 M3 ⟨rfl, e3, hI⟩
  obtain rfl := e3.symm
  have hfr := hI.1.2.1
  refine ⟨rfl, J_two hK1 (s_RM_image hK hR1 hB hI) (fun a j ha _ => hfr a j (by omega) (by omega)) ?_, fun a j ha => (hfr a j (by omega) (by omega)).trans (e1 a j (Or.inl ha))⟩
  intro q hq
  have h1 : ∀ q ∈ ew_perm, ¬ q.1 = 46 ∧ ¬ (q.1 = 38 ∧ q.2.1 = 11) := by decide +kernel
  rw [hfr q.1 q.2.1 (h1 q hq).1 (h1 q hq).2]
  exact hM.2.1 q hq
theorem J_undo {c n : Nat} {M : ew_Mem} (hJ : s_J c n M) : s_CL 0 147 238 [] c n M := by
  obtain ⟨hK, h, hR⟩ := id hJ
  obtain ⟨k0, k1, k2, k3, k4, k5, k6, k7, k8, k9, k10, k11⟩ := id hK
  rcases k9 with q | ⟨q, k9⟩
  · exact J_pure hJ (s_QF_of (cx_undoN k0 k2 q)) (fun _ _ hR1 hM => s_QF_of (mx_undoN hM.1 hM.2.1 (hR1.2.2.2.2.2.1.trans q)))
  · refine ew_Cm (cx_undo k0 k2 q rfl (s_wS_kept hK q)) ?_
    rintro r n2 b ⟨rfl, M2, hB, rfl⟩
    have hK1 := s_K_undo hK q hB
    have e1 : ∀ a j : Nat, (a < 4 ∨ (38 ≤ a ∧ a < 59)) → s_ud M2 a j = M a j := fun a j h1 => (s_ud_o (by omega) (by omega)).trans (hB.2.1 a j (by omega) (by omega))
    have hR1 : s_RM h M (s_ud M2) := s_R_ag hK s_aC_rf (fun a j ha _ => e1 a j (Or.inr ha)) hR
    have hM := s_R_M hK hR1 hK1.2.2.1 hK1.1
    obtain ⟨-, h56⟩ := s_R_lv (c := c) (n := n) hR1
    obtain ⟨r1, r2⟩ := hR1.2.2.2.2.2
    obtain ⟨r3, r4, r5, r6, r7⟩ := r2 q
    refine ⟨fun a j ha => e1 a j (Or.inl ha), M 8 2, rfl, ew_Cm (mx_undo hM.1 hM.2.1 (F := fun r j => s_ob M (M 9 r) j) k9.1.1 r3 r7 h56 (r1.trans q)) ?_⟩
    rintro r2 n3 M3 ⟨rfl, e3, g, M4, hU, rfl⟩
    obtain rfl := e3.symm
    have hfr : ∀ a j : Nat, (a < 38 ∨ 59 ≤ a) → s_U2 M4 a j = s_ud M2 a j := by
      intro a j ha
      unfold s_U2
      rw [s_fn_ne (by omega), s_nr (by omega), s_nr (by omega)]
      exact hU.2.2.2.2.2 a j (by omega)
    exact ⟨rfl, J_two hK1 (s_RM_undo hK q hR1 hB hU) (fun a j ha _ => hfr a j ha) (s_fn_pm (ew_Pm_wr (ew_Pm_wr (s_U1_pm hU hM.2.1) rfl) rfl) rfl), fun a j ha => (hfr a j (by omega)).trans (e1 a j (Or.inl ha))⟩
theorem J_read2 {c n : Nat} {M : ew_Mem} (hJ : s_J c n M) : s_CL 0 132 216 [] c n M := by
  obtain ⟨hK, h, hR⟩ := hJ
  obtain ⟨k0, k1, k2, k3, k4, k5, k6, k7, k8, k9, k10, k11⟩ := id hK
  have hz : (((M 27 1).toNat : Nat) : Int) = M 27 1 := by have := k8.1; omega
  have hT : s_TP (fun i => M 28 i) (M 27 1).toNat M := ⟨k2, hz.symm, by have := k8.1; omega, fun _ _ => rfl, k8.2⟩
  have hps := s_ps_bd (B := fun i => M 28 i) (z := (M 27 1).toNat) (by have := k8.1; omega) k8.2 27 0 (Nat.zero_le _)
  unfold s_CL
  refine ew_Cm (cx_read hK hT) ?_
  rintro r a b ⟨M1, f1, q1, q2⟩
  generalize hP : s_ps (fun i => M 28 i) (M 27 1).toNat 27 0 = P at q1 q2 hps
  have hp1 := s_fr_pm f1 k2
  have hK1 : s_K c n M1 := s_K_ag (s_fr_C f1) hp1 hK
  have e52 : M1 5 2 = M 5 2 := f1 5 2 (by omega) (by omega) (by omega)
  have e46 : M1 4 6 = M 4 6 := f1 4 6 (by omega) (by omega) (by omega)
  by_cases hq : P.1 = true ∧ s_fa P.2.2 (M 5 2) = 0
  · obtain ⟨r1, r2, r3⟩ := q1 hq
    subst r1 r2 r3
    rw [s_dos_cm P.2.2 n M1 k0]
    have hfa : s_fa P.2.2 (M1 5 2) = 0 := by rw [e52]; exact hq.2
    obtain ⟨hK2, hcnt⟩ := K_dos P.2.2 n c M1 hK1 hps.2.2 hfa
    have hle := s_dos_len P.2.2 n M1
    have hoo : ∀ a j : Nat, ¬ a = 5 → ¬ a = 6 → ¬ a = 7 → a < n → (s_dos P.2.2 n M1).2 a j = M1 a j := fun a j h5 h6 h7 ha => s_dos_o h5 h6 h7 P.2.2 n M1 ha
    generalize hD : s_dos P.2.2 n M1 = D at hK2 hcnt hle hoo ⊢
    have hw1 := hK2.2.2.2.1.1
    have hw2 := hK1.2.2.2.1.1
    have hpD := hK2.2.2.1
    show s_lo _ _ ∧ ∃ x : Int, _ ∧ ew_C 216 _ D.1 (ew_wr (ew_wr D.2 27 1 0) 4 6 (M 4 6 + 1)) _
    generalize hb : ew_wr (ew_wr D.2 27 1 0) 4 6 (M 4 6 + 1) = b
    have hbo : ∀ a j : Nat, (a < 4 ∨ (38 ≤ a ∧ a < 59)) → b a j = M a j := by
      intro a j h1
      rw [← hb, s_nr (by omega), s_nr (by omega), hoo a j (by omega) (by omega) (by omega) (by omega)]
      exact f1 a j (by omega) (by omega) (by omega)
    have hpb : ew_Pm b := by
      rw [← hb]
      exact ew_Pm_wr (ew_Pm_wr hpD rfl) rfl
    have hRb : s_RM h M1 b := s_R_ag hK (s_fr_C f1) (fun a j ha _ => hbo a j (Or.inr ha)) hR
    have hTb : s_TM (fun i => M 28 i) (M 27 1).toNat b := by
      obtain ⟨-, -, -, -, g8, -⟩ := hR
      exact ⟨hpb, (hbo 38 21 (by omega)).trans (g8.1.trans hz.symm), by have := k8.1; omega, fun i hi => (hbo 53 i (by omega)).trans (g8.2.1 i hi), k8.2⟩
    refine ⟨fun a j ha => hbo a j (Or.inl ha), _, rfl, ew_Cm (mx_read hK1 hRb (show 59 ≤ D.1 by omega) hTb) ?_⟩
    rintro r2 n2 b2 ⟨s0, s1, -, s3⟩
    subst s0
    rw [hP] at s1
    obtain ⟨r1, h2, M2, t1, t2, t3⟩ := s1 ⟨hq.1, hfa⟩
    refine ⟨r1, ?_, fun a j ha => (s3 a j (by omega)).trans (hbo a j (Or.inl ha))⟩
    rw [hD] at t1
    have e1 : s_RM h2 (ew_wr D.2 27 1 0) (ew_wr M2 38 21 0) := R_sz hK2 t1
    have hK3 := K_sz hK2
    have e2 := R_td hK3 e1
    have hK4 := K_td hK3
    have e3 : ew_wr D.2 27 1 0 4 6 = M 4 6 := by
      rw [s_nr (by omega), hoo 4 6 (by omega) (by omega) (by omega) (by omega)]
      exact e46
    rw [e3, hb] at e2 hK4
    have hK5 : s_K (c + 1) D.1 b := s_K_lo hK4 (by omega) (by rw [← hb, s_eq_rd]; omega)
    have e4 : ew_wr (ew_wr M2 38 21 0) 38 22 (ew_wr M2 38 21 0 38 22 + 1) = b2 := by
      rw [t3, s_nr (by omega), s_wr_cm (by omega)]
    rw [e4] at e2
    refine J_two hK5 e2 (fun a j ha _ => s3 a j ha) ?_
    rw [t3]
    exact ew_Pm_wr (ew_Pm_wr t2 rfl) rfl
  · obtain ⟨r1, r2, r3⟩ := q2 hq
    subst r1 r2 r3
    generalize hb : ew_wr M1 27 1 0 = b
    have hbo : ∀ a j : Nat, (a < 4 ∨ (38 ≤ a ∧ a < 59)) → b a j = M a j := by
      intro a j h1
      rw [← hb, s_nr (by omega)]
      exact f1 a j (by omega) (by omega) (by omega)
    have hpb : ew_Pm b := by
      rw [← hb]
      exact ew_Pm_wr hp1 rfl
    have hRb : s_RM h M1 b := s_R_ag hK (s_fr_C f1) (fun a j ha _ => hbo a j (Or.inr ha)) hR
    have hTb : s_TM (fun i => M 28 i) (M 27 1).toNat b := by
      obtain ⟨-, -, -, -, g8, -⟩ := hR
      exact ⟨hpb, (hbo 38 21 (by omega)).trans (g8.1.trans hz.symm), by have := k8.1; omega, fun i hi => (hbo 53 i (by omega)).trans (g8.2.1 i hi), k8.2⟩
    refine ⟨fun a j ha => hbo a j (Or.inl ha), _, rfl, ew_Cm (mx_read hK1 hRb k0 hTb) ?_⟩
    rintro r2 n2 b2 ⟨s0, -, s2, s3⟩
    subst s0
    rw [hP, e52] at s2
    obtain ⟨r1, M2, t1, t2, t3⟩ := s2 hq
    refine ⟨r1, ?_, fun a j ha => (s3 a j (by omega)).trans (hbo a j (Or.inl ha))⟩
    have e1 : s_RM h (ew_wr M1 27 1 0) (ew_wr M2 38 21 0) := R_sz hK1 t1
    have hK3 := K_sz hK1
    rw [hb] at e1 hK3
    rw [← t3] at e1
    refine J_two hK3 e1 (fun a j ha _ => s3 a j ha) ?_
    rw [t3]
    exact ew_Pm_wr t2 rfl
