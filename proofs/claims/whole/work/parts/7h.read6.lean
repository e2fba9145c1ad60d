/-! the reference does a text -/
theorem s_SM_pm {M M' : ew_Mem} (h : s_SM M M') (hp : ew_Pm M) : ew_Pm M' := by
  intro q hm
  have h1 : ∀ q ∈ ew_perm, ¬ (q.1 = 38 ∧ 23 ≤ q.2.1 ∧ q.2.1 ≤ 27) := by decide +kernel
  rw [h q.1 q.2.1 (h1 q hm)]
  exact hp q hm
theorem s_SM_TM {B : Nat → Int} {z : Nat} {M M' : ew_Mem} (h : s_SM M M') (hT : s_TM B z M) : s_TM B z M' := by
  obtain ⟨h1, h2, h3, h4, h5⟩ := hT
  refine ⟨s_SM_pm h h1, ?_, h3, fun j hj => ?_, h5⟩
  · rw [h 38 21 (by omega)]
    exact h2
  · rw [h 53 j (by omega)]
    exact h4 j hj
theorem s_SM_aM {M M' : ew_Mem} (h : s_SM M M') : s_aM M M' := by
  intro a i ha hs
  refine h a i (fun e => ?_)
  obtain ⟨rfl, e2⟩ := e
  have : i = 23 ∨ i = 24 ∨ i = 25 ∨ i = 26 ∨ i = 27 := by omega
  rcases this with rfl | rfl | rfl | rfl | rfl
  · exact absurd hs (by decide)
  · exact absurd hs (by decide)
  · exact absurd hs (by decide)
  · exact absurd hs (by decide)
  · exact absurd hs (by decide)
theorem s_aC_rf {X : ew_Mem} : s_aC X X := fun _ _ _ _ => rfl
theorem s_SM_R {c nX : Nat} {h : Int → Nat} {X M M' : ew_Mem} (hK : s_K c nX X) (e : s_SM M M') (g : s_RM h X M) : s_RM h X M' := s_R_ag hK s_aC_rf (s_SM_aM e) g
/-- what a refused text leaves -/
def s_rs (X M : ew_Mem) : ew_Mem := ew_wr (ew_wr (ew_wr (ew_wr (ew_wr M 38 5 (X 5 2)) 38 7 (X 5 3)) 38 8 (X 5 4)) 45 0 (X 7 0)) 45 1 (X 7 1)
theorem s_rs_a {X M : ew_Mem} {a j : Nat} (h : ¬ ((a = 38 ∧ (j = 5 ∨ j = 7 ∨ j = 8)) ∨ (a = 45 ∧ (j = 0 ∨ j = 1)))) : s_rs X M a j = M a j := by
  unfold s_rs
  rw [s_nr (by omega), s_nr (by omega), s_nr (by omega), s_nr (by omega), s_nr (by omega)]
theorem s_rs_b {X M M' : ew_Mem} {a j : Nat} (h : (a = 38 ∧ (j = 5 ∨ j = 7 ∨ j = 8)) ∨ (a = 45 ∧ (j = 0 ∨ j = 1))) : s_rs X M' a j = s_rs X M a j := by
  rcases h with ⟨rfl, h | h | h⟩ | ⟨rfl, h | h⟩
  all_goals subst h
  all_goals rfl
theorem s_rs_ag {X M M' : ew_Mem} (e : ∀ a j : Nat, (38 ≤ a ∧ a < 59) → s_scr a j = false → ¬ ((a = 38 ∧ (j = 5 ∨ j = 7 ∨ j = 8)) ∨ (a = 45 ∧ (j = 0 ∨ j = 1))) → M' a j = M a j) : s_aM (s_rs X M) (s_rs X M') := by
  intro a j ha hs
  by_cases h : (a = 38 ∧ (j = 5 ∨ j = 7 ∨ j = 8)) ∨ (a = 45 ∧ (j = 0 ∨ j = 1))
  · exact s_rs_b h
  · rw [s_rs_a h, s_rs_a h]
    exact e a j ha hs h
theorem s_rs_pm {X M : ew_Mem} (hp : ew_Pm M) : ew_Pm (s_rs X M) := ew_Pm_wrA (ew_Pm_wrA (ew_Pm_wr (ew_Pm_wr (ew_Pm_wr hp rfl) rfl) rfl) rfl) rfl
def s_BK (h : Int → Nat) (X M : ew_Mem) : Prop := s_RM h X (s_rs X M)
theorem s_BK_ag {c n : Nat} {h : Int → Nat} {X M M' : ew_Mem} (hK : s_K c n X) (e : ∀ a j : Nat, (38 ≤ a ∧ a < 59) → s_scr a j = false → ¬ ((a = 38 ∧ (j = 5 ∨ j = 7 ∨ j = 8)) ∨ (a = 45 ∧ (j = 0 ∨ j = 1))) → M' a j = M a j) (g : s_BK h X M) : s_BK h X M' := s_R_ag hK s_aC_rf (s_rs_ag e) g
theorem s_BK_SM {c n : Nat} {h : Int → Nat} {X M M' : ew_Mem} (hK : s_K c n X) (e : s_SM M M') (g : s_BK h X M) : s_BK h X M' := s_BK_ag hK (fun a j ha hs _ => s_SM_aM e a j ha hs) g
theorem s_BK_0 {c n : Nat} {h : Int → Nat} {X M : ew_Mem} (hK : s_K c n X) (g : s_RM h X M) : s_BK h X M := by
  refine s_R_ag hK s_aC_rf (fun a j ha hs => ?_) g
  obtain ⟨⟨g1, g2, g3, g4⟩, -⟩ := g
  by_cases h : (a = 38 ∧ (j = 5 ∨ j = 7 ∨ j = 8)) ∨ (a = 45 ∧ (j = 0 ∨ j = 1))
  · rcases h with ⟨rfl, h | h | h⟩ | ⟨rfl, h | h⟩
    · subst h
      exact g1.symm
    · subst h
      exact g2.symm
    · subst h
      exact g3.symm
    · subst h
      exact (g4 0 (by omega)).symm
    · subst h
      exact (g4 1 (by omega)).symm
  · exact s_rs_a h
theorem s_rs_cm {X M : ew_Mem} {a j i : Nat} {k p s t d z : Int} (h : ¬ (39 ≤ a ∧ a ≤ 44)) : s_rs X (s_cm M i k p s t d z) a j = s_rs X M a j := by
  by_cases h2 : (a = 38 ∧ (j = 5 ∨ j = 7 ∨ j = 8)) ∨ (a = 45 ∧ (j = 0 ∨ j = 1))
  · exact s_rs_b h2
  · rw [s_rs_a h2, s_rs_a h2]
    exact s_cm_n (by omega)
theorem s_BK_cm {c n : Nat} {h : Int → Nat} {X M : ew_Mem} (hK : s_K c n X) (g : s_BK h X M) {i : Nat} {k p s t d z : Int} (hz : X 5 2 ≤ z) (f1 : ∀ r : Nat, (r : Int) < z → ¬ M 44 r = (i : Int)) (f2 : ∀ r : Nat, r < 48 → ¬ M 56 r = (i : Int)) : s_BK h X (s_cm M i k p s t d z) := by
  obtain ⟨g1, g2, g6, g7, g8, g9⟩ := g
  have e : ∀ {a j : Nat}, ¬ (39 ≤ a ∧ a ≤ 44) → s_rs X (s_cm M i k p s t d z) a j = s_rs X M a j := fun h => s_rs_cm h
  refine ⟨s_R1_ag (fun _ => rfl) (fun _ => rfl) (e (by omega)) (e (by omega)) (e (by omega)) (fun _ => e (by omega)) g1, ?_, s_R6_ag (fun _ _ _ _ => rfl) (fun _ => e (by omega)) (fun _ => e (by omega)) g6, s_R7_ag (fun _ _ => rfl) (fun _ _ _ _ => rfl) (fun _ => e (by omega)) (fun _ => e (by omega)) g7, s_R8_ag rfl (fun _ => rfl) rfl (e (by omega)) (fun _ => e (by omega)) (e (by omega)) g8, s_R9_ag rfl (fun _ => rfl) (fun _ => rfl) (fun _ => rfl) (fun _ _ _ => rfl) (e (by omega)) (fun _ => e (by omega)) g9⟩
  obtain ⟨b1, b2, b3, b4⟩ := g2
  have hne : ∀ a, s_lv X a → ¬ h a = i := by
    intro a ha q
    rcases ha with ⟨r, hr, rfl⟩ | ⟨t', i', ht, hi, e1, e2⟩
    · have b := b1 r hr
      rw [s_rs_a (by omega)] at b
      exact f1 r (by omega) (by rw [b, q])
    · have b := b2 t' i' ht hi
      rw [s_rs_a (by omega), e1, if_neg e2] at b
      exact f2 (12 * t' + i') (by omega) (by rw [b, q])
  refine ⟨fun r hr => ?_, fun t' i' ht hi => ?_, fun a ha => ?_, b4⟩
  · rw [s_rs_a (by omega), s_cm_44, if_neg (by omega)]
    have b := b1 r hr
    rw [s_rs_a (by omega)] at b
    exact b
  · rw [e (by omega)]
    exact b2 t' i' ht hi
  · have hn := hne a ha
    have b := b3 a ha
    rw [s_rs_a (by omega), s_rs_a (by omega), s_rs_a (by omega), s_rs_a (by omega), s_rs_a (by omega)] at b
    rw [s_rs_a (by omega), s_rs_a (by omega), s_rs_a (by omega), s_rs_a (by omega), s_rs_a (by omega), s_cm_ro hn (by omega), s_cm_ro hn (by omega), s_cm_ro hn (by omega), s_cm_ro hn (by omega), s_cm_ro hn (by omega)]
    exact b
set_option maxRecDepth 20000 in
theorem m_dn_n1 {c nX n : Nat} {X M : ew_Mem} {h : Int → Nat} (hK : s_K c nX X) (hR : s_RM h X M) (hp : ew_Pm M) (hn : 59 ≤ n) {t : s_ST} (ht : s_tOK t) (e24 : M 38 24 = t.2.1) (e25 : M 38 25 = t.2.2.1) (h1 : t.2.1 = 110) (h2 : t.2.2.1 < X 5 2) : ew_FM 223 [(2, 38)] n M (0, 1) n (ew_wr (ew_wr M 38 7 t.2.2.1) 38 8 (X 5 4)) := by
  have hM := s_R_M hK hR hp hn
  obtain ⟨tl, tb, t1, t2, t3, tp⟩ := id ht
  obtain ⟨-, -, -, ⟨x2, x3, x4, x70, -⟩, -⟩ := id hK
  have u7 : M 38 7 = X 5 3 := hR.1.2.1
  have u8 : M 38 8 = X 5 4 := hR.1.2.2.1
  have hkb := s_kd_bd t.2.1
  have hb : s_okB (s_V X) t.2.2.1 (X 5 4) := by
    show (0 ≤ t.2.2.1 ∧ t.2.2.1 < X 5 2) ∧ (X 5 4 = -1 ∨ (0 ≤ X 5 4 ∧ X 5 4 < X 5 2))
    omega
  have hc := ew_c_223
  show ew_X 223 0 [(2, 38)] [] n _ _
  refine xr_go hc rfl rfl ?_
  refine xr_gf0 (A := 38) rfl hc rfl (ew_own_p hn rfl) (show _ = (110 : Int) from e24.trans h1) ?_
  refine xr_ls hc rfl (by decide) 48 (by decide) ?_
  refine xr_go hc rfl rfl ?_
  refine xr_go hc rfl rfl ?_
  refine xr_gf0 (A := 38) rfl hc rfl (ew_own_p hn rfl) (show _ = t.2.2.1 from e25) ?_
  refine xr_go hc rfl rfl ?_
  refine xr_gf0 (A := 38) rfl hc rfl (ew_own_p hn rfl) (show _ = X 5 4 from u8) ?_
  refine xr_v_3 hc rfl rfl (ew_own_p hn rfl) (mx_bind hM (by omega) (by omega) hb) ?_
  refine xr_go hc rfl rfl ?_
  refine xr_icmp_ne hc rfl (by decide) (by decide) (fun c2 => by exfalso; omega) (fun c2 => ?_)
  refine xr_go hc rfl rfl ?_
  refine xr_go hc rfl rfl ?_
  refine xr_ret hc rfl rfl ?_
  exact ⟨rfl, rfl, rfl⟩

set_option maxRecDepth 20000 in
theorem m_dn_n0 {c nX n : Nat} {X M : ew_Mem} {h : Int → Nat} (hK : s_K c nX X) (hR : s_RM h X M) (hp : ew_Pm M) (hn : 59 ≤ n) {t : s_ST} (ht : s_tOK t) (e24 : M 38 24 = t.2.1) (e25 : M 38 25 = t.2.2.1) (h1 : t.2.1 = 110) (h2 : ¬ t.2.2.1 < X 5 2) : ew_FM 223 [(2, 38)] n M (0, 0) n M := by
  have hM := s_R_M hK hR hp hn
  obtain ⟨tl, tb, t1, t2, t3, tp⟩ := id ht
  obtain ⟨-, -, -, ⟨x2, x3, x4, x70, -⟩, -⟩ := id hK
  have u7 : M 38 7 = X 5 3 := hR.1.2.1
  have u8 : M 38 8 = X 5 4 := hR.1.2.2.1
  have hkb := s_kd_bd t.2.1
  have hb : ¬ s_okB (s_V X) t.2.2.1 (X 5 4) := fun q => h2 q.1.2
  have hc := ew_c_223
  show ew_X 223 0 [(2, 38)] [] n _ _
  refine xr_go hc rfl rfl ?_
  refine xr_gf0 (A := 38) rfl hc rfl (ew_own_p hn rfl) (show _ = (110 : Int) from e24.trans h1) ?_
  refine xr_ls hc rfl (by decide) 48 (by decide) ?_
  refine xr_go hc rfl rfl ?_
  refine xr_go hc rfl rfl ?_
  refine xr_gf0 (A := 38) rfl hc rfl (ew_own_p hn rfl) (show _ = t.2.2.1 from e25) ?_
  refine xr_go hc rfl rfl ?_
  refine xr_gf0 (A := 38) rfl hc rfl (ew_own_p hn rfl) (show _ = X 5 4 from u8) ?_
  refine xr_v_3 hc rfl rfl (ew_own_p hn rfl) (mx_bindN hM (by omega) (by omega) hb) ?_
  refine xr_go hc rfl rfl ?_
  refine xr_icmp_ne hc rfl (by decide) (by decide) (fun c2 => ?_) (fun c2 => by exfalso; omega)
  refine xr_go hc rfl rfl ?_
  refine xr_ret hc rfl rfl ?_
  exact ⟨rfl, rfl, rfl⟩

set_option maxRecDepth 20000 in
theorem m_dn_a1 {c nX n : Nat} {X M : ew_Mem} {h : Int → Nat} (hK : s_K c nX X) (hR : s_RM h X M) (hp : ew_Pm M) (hn : 59 ≤ n) {t : s_ST} (ht : s_tOK t) (e24 : M 38 24 = t.2.1) (e25 : M 38 25 = t.2.2.1) (h1 : t.2.1 = 97) (h2 : t.2.2.1 < X 5 2) : ew_FM 223 [(2, 38)] n M (0, 1) n (ew_wr (ew_wr M 38 7 (X 5 3)) 38 8 t.2.2.1) := by
  have hM := s_R_M hK hR hp hn
  obtain ⟨tl, tb, t1, t2, t3, tp⟩ := id ht
  obtain ⟨-, -, -, ⟨x2, x3, x4, x70, -⟩, -⟩ := id hK
  have u7 : M 38 7 = X 5 3 := hR.1.2.1
  have u8 : M 38 8 = X 5 4 := hR.1.2.2.1
  have hkb := s_kd_bd t.2.1
  have hw : ew_FM 156 [(2, 38), (0, t.2.2.1)] n M (0, 1) n M := by
    have g := m_isWheel hM (i := t.2.2.1) (by omega)
    have e : (if 0 ≤ t.2.2.1 ∧ t.2.2.1 < s_V X 6 0 then (1 : Int) else 0) = 1 := if_pos (show (0 ≤ t.2.2.1 ∧ t.2.2.1 < X 5 2) by omega)
    rw [e] at g
    exact g
  have hb : s_okB (s_V X) (X 5 3) t.2.2.1 := by
    show (0 ≤ X 5 3 ∧ X 5 3 < X 5 2) ∧ (t.2.2.1 = -1 ∨ (0 ≤ t.2.2.1 ∧ t.2.2.1 < X 5 2))
    omega
  have hc := ew_c_223
  show ew_X 223 0 [(2, 38)] [] n _ _
  refine xr_go hc rfl rfl ?_
  refine xr_gf0 (A := 38) rfl hc rfl (ew_own_p hn rfl) (show _ = (97 : Int) from e24.trans h1) ?_
  refine xr_ls hc rfl (by decide) 70 (by decide) ?_
  refine xr_go hc rfl rfl ?_
  refine xr_go hc rfl rfl ?_
  refine xr_gf0 (A := 38) rfl hc rfl (ew_own_p hn rfl) (show _ = t.2.2.1 from e25) ?_
  refine xr_v_2 hc rfl rfl (ew_own_p hn rfl) hw ?_
  refine xr_if_eq hc rfl (by decide) (fun c2 => by exfalso; omega) (fun c2 => ?_)
  refine xr_go hc rfl rfl ?_
  refine xr_go hc rfl rfl ?_
  refine xr_gf0 (A := 38) rfl hc rfl (ew_own_p hn rfl) (show _ = X 5 3 from u7) ?_
  refine xr_go hc rfl rfl ?_
  refine xr_gf0 (A := 38) rfl hc rfl (ew_own_p hn rfl) (show _ = t.2.2.1 from e25) ?_
  refine xr_v_3 hc rfl rfl (ew_own_p hn rfl) (mx_bind hM (by omega) (by omega) hb) ?_
  refine xr_go hc rfl rfl ?_
  refine xr_icmp_ne hc rfl (by decide) (by decide) (fun c3 => by exfalso; omega) (fun c3 => ?_)
  refine xr_go hc rfl rfl ?_
  refine xr_go hc rfl rfl ?_
  refine xr_ret hc rfl rfl ?_
  exact ⟨rfl, rfl, rfl⟩

set_option maxRecDepth 20000 in
theorem m_dn_a0 {c nX n : Nat} {X M : ew_Mem} {h : Int → Nat} (hK : s_K c nX X) (hR : s_RM h X M) (hp : ew_Pm M) (hn : 59 ≤ n) {t : s_ST} (ht : s_tOK t) (e24 : M 38 24 = t.2.1) (e25 : M 38 25 = t.2.2.1) (h1 : t.2.1 = 97) (h2 : ¬ t.2.2.1 < X 5 2) : ew_FM 223 [(2, 38)] n M (0, 0) n M := by
  have hM := s_R_M hK hR hp hn
  obtain ⟨tl, tb, t1, t2, t3, tp⟩ := id ht
  obtain ⟨-, -, -, ⟨x2, x3, x4, x70, -⟩, -⟩ := id hK
  have u7 : M 38 7 = X 5 3 := hR.1.2.1
  have u8 : M 38 8 = X 5 4 := hR.1.2.2.1
  have hkb := s_kd_bd t.2.1
  have hw : ew_FM 156 [(2, 38), (0, t.2.2.1)] n M (0, 0) n M := by
    have g := m_isWheel hM (i := t.2.2.1) (by omega)
    have e : (if 0 ≤ t.2.2.1 ∧ t.2.2.1 < s_V X 6 0 then (1 : Int) else 0) = 0 := if_neg (show ¬ (0 ≤ t.2.2.1 ∧ t.2.2.1 < X 5 2) by omega)
    rw [e] at g
    exact g
  have hc := ew_c_223
  show ew_X 223 0 [(2, 38)] [] n _ _
  refine xr_go hc rfl rfl ?_
  refine xr_gf0 (A := 38) rfl hc rfl (ew_own_p hn rfl) (show _ = (97 : Int) from e24.trans h1) ?_
  refine xr_ls hc rfl (by decide) 70 (by decide) ?_
  refine xr_go hc rfl rfl ?_
  refine xr_go hc rfl rfl ?_
  refine xr_gf0 (A := 38) rfl hc rfl (ew_own_p hn rfl) (show _ = t.2.2.1 from e25) ?_
  refine xr_v_2 hc rfl rfl (ew_own_p hn rfl) hw ?_
  refine xr_if_eq hc rfl (by decide) (fun c2 => ?_) (fun c2 => by exfalso; omega)
  refine xr_go hc rfl rfl ?_
  refine xr_ret hc rfl rfl ?_
  exact ⟨rfl, rfl, rfl⟩

set_option maxRecDepth 20000 in
theorem m_dn_r01 {c nX n : Nat} {X M : ew_Mem} {h : Int → Nat} (hK : s_K c nX X) (hR : s_RM h X M) (hp : ew_Pm M) (hn : 59 ≤ n) {t : s_ST} (ht : s_tOK t) (e24 : M 38 24 = t.2.1) (e25 : M 38 25 = t.2.2.1) (h1 : t.2.1 = 111) (h2 : s_rok 0 t.2.2.1 = true) : ew_FM 223 [(2, 38)] n M (0, 1) n (ew_wr M 45 0 t.2.2.1) := by
  have hM := s_R_M hK hR hp hn
  obtain ⟨tl, tb, t1, t2, t3, tp⟩ := id ht
  obtain ⟨-, -, -, ⟨x2, x3, x4, x70, -⟩, -⟩ := id hK
  have u7 : M 38 7 = X 5 3 := hR.1.2.1
  have u8 : M 38 8 = X 5 4 := hR.1.2.2.1
  have hkb := s_kd_bd t.2.1
  have hr : ew_FM 168 [(2, 38), (0, 0), (0, t.2.2.1)] n M (0, X 7 0) n (ew_wr M 45 0 t.2.2.1) := mx_rule hM (x := 0) (by decide) (by omega) (by decide) h2
  obtain ⟨-, -, -, ⟨-, -, -, y0, y1, -⟩, -⟩ := id hK
  have hc := ew_c_223
  show ew_X 223 0 [(2, 38)] [] n _ _
  refine xr_go hc rfl rfl ?_
  refine xr_gf0 (A := 38) rfl hc rfl (ew_own_p hn rfl) (show _ = (111 : Int) from e24.trans h1) ?_
  refine xr_ls hc rfl (by decide) 103 (by decide) ?_
  refine xr_go hc rfl rfl ?_
  refine xr_go hc rfl rfl ?_
  refine xr_go hc rfl rfl ?_
  refine xr_gf0 (A := 38) rfl hc rfl (ew_own_p hn rfl) (show _ = t.2.2.1 from e25) ?_
  refine xr_v_3 hc rfl rfl (ew_own_p hn rfl) hr ?_
  refine xr_if_lt hc rfl (by omega) (fun c2 => ?_) (fun c2 => ?_)
  · exfalso; omega
  · skip
    refine xr_go hc rfl rfl ?_
    refine xr_go hc rfl rfl ?_
    refine xr_ret hc rfl rfl ?_
    exact ⟨rfl, rfl, rfl⟩

set_option maxRecDepth 20000 in
theorem m_dn_r00 {c nX n : Nat} {X M : ew_Mem} {h : Int → Nat} (hK : s_K c nX X) (hR : s_RM h X M) (hp : ew_Pm M) (hn : 59 ≤ n) {t : s_ST} (ht : s_tOK t) (e24 : M 38 24 = t.2.1) (e25 : M 38 25 = t.2.2.1) (h1 : t.2.1 = 111) (h2 : ¬ s_rok 0 t.2.2.1 = true) : ew_FM 223 [(2, 38)] n M (0, 0) n M := by
  have hM := s_R_M hK hR hp hn
  obtain ⟨tl, tb, t1, t2, t3, tp⟩ := id ht
  obtain ⟨-, -, -, ⟨x2, x3, x4, x70, -⟩, -⟩ := id hK
  have u7 : M 38 7 = X 5 3 := hR.1.2.1
  have u8 : M 38 8 = X 5 4 := hR.1.2.2.1
  have hkb := s_kd_bd t.2.1
  have hr : ew_FM 168 [(2, 38), (0, 0), (0, t.2.2.1)] n M (0, -2) n M := mx_ruleN hM (x := 0) (by decide) (by omega) (fun q => h2 q.2)
  have hc := ew_c_223
  show ew_X 223 0 [(2, 38)] [] n _ _
  refine xr_go hc rfl rfl ?_
  refine xr_gf0 (A := 38) rfl hc rfl (ew_own_p hn rfl) (show _ = (111 : Int) from e24.trans h1) ?_
  refine xr_ls hc rfl (by decide) 103 (by decide) ?_
  refine xr_go hc rfl rfl ?_
  refine xr_go hc rfl rfl ?_
  refine xr_go hc rfl rfl ?_
  refine xr_gf0 (A := 38) rfl hc rfl (ew_own_p hn rfl) (show _ = t.2.2.1 from e25) ?_
  refine xr_v_3 hc rfl rfl (ew_own_p hn rfl) hr ?_
  refine xr_if_lt hc rfl (by decide) (fun c2 => ?_) (fun c2 => by exfalso; omega)
  refine xr_go hc rfl rfl ?_
  refine xr_ret hc rfl rfl ?_
  exact ⟨rfl, rfl, rfl⟩

set_option maxRecDepth 20000 in
theorem m_dn_r11 {c nX n : Nat} {X M : ew_Mem} {h : Int → Nat} (hK : s_K c nX X) (hR : s_RM h X M) (hp : ew_Pm M) (hn : 59 ≤ n) {t : s_ST} (ht : s_tOK t) (e24 : M 38 24 = t.2.1) (e25 : M 38 25 = t.2.2.1) (h1 : t.2.1 = 105) (h2 : s_rok 1 t.2.2.1 = true) : ew_FM 223 [(2, 38)] n M (0, 1) n (ew_wr M 45 1 t.2.2.1) := by
  have hM := s_R_M hK hR hp hn
  obtain ⟨tl, tb, t1, t2, t3, tp⟩ := id ht
  obtain ⟨-, -, -, ⟨x2, x3, x4, x70, -⟩, -⟩ := id hK
  have u7 : M 38 7 = X 5 3 := hR.1.2.1
  have u8 : M 38 8 = X 5 4 := hR.1.2.2.1
  have hkb := s_kd_bd t.2.1
  have hr : ew_FM 168 [(2, 38), (0, 1), (0, t.2.2.1)] n M (0, X 7 1) n (ew_wr M 45 1 t.2.2.1) := mx_rule hM (x := 1) (by decide) (by omega) (by decide) h2
  obtain ⟨-, -, -, ⟨-, -, -, y0, y1, -⟩, -⟩ := id hK
  have hc := ew_c_223
  show ew_X 223 0 [(2, 38)] [] n _ _
  refine xr_go hc rfl rfl ?_
  refine xr_gf0 (A := 38) rfl hc rfl (ew_own_p hn rfl) (show _ = (105 : Int) from e24.trans h1) ?_
  refine xr_ls hc rfl (by decide) 121 (by decide) ?_
  refine xr_go hc rfl rfl ?_
  refine xr_go hc rfl rfl ?_
  refine xr_go hc rfl rfl ?_
  refine xr_gf0 (A := 38) rfl hc rfl (ew_own_p hn rfl) (show _ = t.2.2.1 from e25) ?_
  refine xr_v_3 hc rfl rfl (ew_own_p hn rfl) hr ?_
  refine xr_if_lt hc rfl (by omega) (fun c2 => ?_) (fun c2 => ?_)
  · exfalso; omega
  · skip
    refine xr_go hc rfl rfl ?_
    refine xr_go hc rfl rfl ?_
    refine xr_ret hc rfl rfl ?_
    exact ⟨rfl, rfl, rfl⟩

set_option maxRecDepth 20000 in
theorem m_dn_r10 {c nX n : Nat} {X M : ew_Mem} {h : Int → Nat} (hK : s_K c nX X) (hR : s_RM h X M) (hp : ew_Pm M) (hn : 59 ≤ n) {t : s_ST} (ht : s_tOK t) (e24 : M 38 24 = t.2.1) (e25 : M 38 25 = t.2.2.1) (h1 : t.2.1 = 105) (h2 : ¬ s_rok 1 t.2.2.1 = true) : ew_FM 223 [(2, 38)] n M (0, 0) n M := by
  have hM := s_R_M hK hR hp hn
  obtain ⟨tl, tb, t1, t2, t3, tp⟩ := id ht
  obtain ⟨-, -, -, ⟨x2, x3, x4, x70, -⟩, -⟩ := id hK
  have u7 : M 38 7 = X 5 3 := hR.1.2.1
  have u8 : M 38 8 = X 5 4 := hR.1.2.2.1
  have hkb := s_kd_bd t.2.1
  have hr : ew_FM 168 [(2, 38), (0, 1), (0, t.2.2.1)] n M (0, -2) n M := mx_ruleN hM (x := 1) (by decide) (by omega) (fun q => h2 q.2)
  have hc := ew_c_223
  show ew_X 223 0 [(2, 38)] [] n _ _
  refine xr_go hc rfl rfl ?_
  refine xr_gf0 (A := 38) rfl hc rfl (ew_own_p hn rfl) (show _ = (105 : Int) from e24.trans h1) ?_
  refine xr_ls hc rfl (by decide) 121 (by decide) ?_
  refine xr_go hc rfl rfl ?_
  refine xr_go hc rfl rfl ?_
  refine xr_go hc rfl rfl ?_
  refine xr_gf0 (A := 38) rfl hc rfl (ew_own_p hn rfl) (show _ = t.2.2.1 from e25) ?_
  refine xr_v_3 hc rfl rfl (ew_own_p hn rfl) hr ?_
  refine xr_if_lt hc rfl (by decide) (fun c2 => ?_) (fun c2 => by exfalso; omega)
  refine xr_go hc rfl rfl ?_
  refine xr_ret hc rfl rfl ?_
  exact ⟨rfl, rfl, rfl⟩

set_option maxRecDepth 20000 in
theorem m_dn_w1 {c nX n : Nat} {X M : ew_Mem} {h : Int → Nat} (hK : s_K c nX X) (hR : s_RM h X M) (hp : ew_Pm M) (hn : 59 ≤ n) {t : s_ST} (ht : s_tOK t) (e24 : M 38 24 = t.2.1) (e25 : M 38 25 = t.2.2.1) (h1 : ¬ t.2.1 = 110 ∧ ¬ t.2.1 = 97 ∧ ¬ t.2.1 = 111 ∧ ¬ t.2.1 = 105) (e26 : ¬ s_kd t.2.1 = -1 → M 38 26 = t.2.2.2.1 ∧ M 38 27 = t.2.2.2.2) (h2 : (0 ≤ s_kd t.2.1 ∧ s_kd t.2.1 ≤ 4) ∧ s_AB t.2.2.2.1 t.2.2.1 t.2.2.2.2) (h3 : X 5 2 < 6) {i : Nat} (hi : i < 64) (hf : ew_FM 154 [(2, 38)] n M (0, (i : Int)) n M) : ew_FM 223 [(2, 38)] n M (0, 1) n (s_cm M i (s_kd t.2.1) t.2.2.2.1 t.2.2.1 t.2.2.2.2 (s_md (s_kd t.2.1) t.2.2.2.2 (if X 5 2 = 0 then 1 else 0)) (X 5 2)) := by
  have hM := s_R_M hK hR hp hn
  obtain ⟨tl, tb, t1, t2, t3, tp⟩ := id ht
  obtain ⟨-, -, -, ⟨x2, x3, x4, x70, -⟩, -⟩ := id hK
  have u7 : M 38 7 = X 5 3 := hR.1.2.1
  have u8 : M 38 8 = X 5 4 := hR.1.2.2.1
  have hkb := s_kd_bd t.2.1
  have hk : ¬ s_kd t.2.1 = -1 := by omega
  obtain ⟨e26a, e27a⟩ := e26 hk
  have hw : ew_FM 149 [(2, 38), (0, s_kd t.2.1), (0, t.2.2.2.1), (0, t.2.2.1), (0, t.2.2.2.2)] n M (0, X 5 2) n (s_cm M i (s_kd t.2.1) t.2.2.2.1 t.2.2.1 t.2.2.2.2 (s_md (s_kd t.2.1) t.2.2.2.2 (if X 5 2 = 0 then 1 else 0)) (X 5 2)) := mx_wheel hM (by omega) (by omega) (by omega) (by omega) hi hf ⟨h2, h3⟩
  have hc := ew_c_223
  show ew_X 223 0 [(2, 38)] [] n _ _
  refine xr_go hc rfl rfl ?_
  refine xr_gf0 (A := 38) rfl hc rfl (ew_own_p hn rfl) (show _ = t.2.1 from e24) ?_
  refine xr_ls hc rfl (by omega) 139 (by show (4 : Int) + Op.lookupswitch.offset [(97, 66), (105, 117), (110, 44), (111, 99)] 135 t.2.1 = _; rw [Op.lookupswitch.offset_cons, if_neg (fun q => h1.2.1 q.symm), Op.lookupswitch.offset_cons, if_neg (fun q => h1.2.2.2 q.symm), Op.lookupswitch.offset_cons, if_neg (fun q => h1.1 q.symm), Op.lookupswitch.offset_cons, if_neg (fun q => h1.2.2.1 q.symm)]; rfl) ?_
  refine xr_go hc rfl rfl ?_
  refine xr_go hc rfl rfl ?_
  refine xr_gf0 (A := 38) rfl hc rfl (ew_own_p hn rfl) (show _ = t.2.1 from e24) ?_
  refine xr_s_1 hc rfl rfl (m_kindOf (by omega)) ?_
  refine xr_go hc rfl rfl ?_
  refine xr_gf0 (A := 38) rfl hc rfl (ew_own_p hn rfl) (show _ = t.2.2.2.1 from e26a) ?_
  refine xr_go hc rfl rfl ?_
  refine xr_gf0 (A := 38) rfl hc rfl (ew_own_p hn rfl) (show _ = t.2.2.1 from e25) ?_
  refine xr_go hc rfl rfl ?_
  refine xr_gf0 (A := 38) rfl hc rfl (ew_own_p hn rfl) (show _ = t.2.2.2.2 from e27a) ?_
  refine xr_v_5 hc rfl rfl (ew_own_p hn rfl) hw ?_
  refine xr_if_lt hc rfl (by omega) (fun c2 => ?_) (fun c2 => ?_)
  · exfalso; omega
  · skip
    refine xr_go hc rfl rfl ?_
    refine xr_go hc rfl rfl ?_
    refine xr_ret hc rfl rfl ?_
    exact ⟨rfl, rfl, rfl⟩

set_option maxRecDepth 20000 in
theorem m_dn_w0 {c nX n : Nat} {X M : ew_Mem} {h : Int → Nat} (hK : s_K c nX X) (hR : s_RM h X M) (hp : ew_Pm M) (hn : 59 ≤ n) {t : s_ST} (ht : s_tOK t) (e24 : M 38 24 = t.2.1) (e25 : M 38 25 = t.2.2.1) (h1 : ¬ t.2.1 = 110 ∧ ¬ t.2.1 = 97 ∧ ¬ t.2.1 = 111 ∧ ¬ t.2.1 = 105) (e26 : ¬ s_kd t.2.1 = -1 → M 38 26 = t.2.2.2.1 ∧ M 38 27 = t.2.2.2.2) (h2 : ¬ (X 5 2 < 6 ∧ (0 ≤ s_kd t.2.1 ∧ s_kd t.2.1 ≤ 4) ∧ s_AB t.2.2.2.1 t.2.2.1 t.2.2.2.2)) : ew_FM 223 [(2, 38)] n M (0, 0) n M := by
  have hM := s_R_M hK hR hp hn
  obtain ⟨tl, tb, t1, t2, t3, tp⟩ := id ht
  obtain ⟨-, -, -, ⟨x2, x3, x4, x70, -⟩, -⟩ := id hK
  have u7 : M 38 7 = X 5 3 := hR.1.2.1
  have u8 : M 38 8 = X 5 4 := hR.1.2.2.1
  have hkb := s_kd_bd t.2.1
  have hk : ¬ s_kd t.2.1 = -1 := by
    rcases tl with g | g | g | g | g
    · exact g
    all_goals (exfalso; omega)
  obtain ⟨e26a, e27a⟩ := e26 hk
  have hw := mx_wheelN hM (k := s_kd t.2.1) (p := t.2.2.2.1) (s := t.2.2.1) (t := t.2.2.2.2) (by omega) (by omega) (by omega) (by omega) (fun q => h2 ⟨q.2, q.1.1, q.1.2⟩)
  have hv : -10 ≤ s_n_wheel (s_kd t.2.1) t.2.2.2.1 t.2.2.1 t.2.2.2.2 ∧ s_n_wheel (s_kd t.2.1) t.2.2.2.1 t.2.2.1 t.2.2.2.2 < 0 := by
    unfold s_n_wheel
    split <;> decide
  have hc := ew_c_223
  show ew_X 223 0 [(2, 38)] [] n _ _
  refine xr_go hc rfl rfl ?_
  refine xr_gf0 (A := 38) rfl hc rfl (ew_own_p hn rfl) (show _ = t.2.1 from e24) ?_
  refine xr_ls hc rfl (by omega) 139 (by show (4 : Int) + Op.lookupswitch.offset [(97, 66), (105, 117), (110, 44), (111, 99)] 135 t.2.1 = _; rw [Op.lookupswitch.offset_cons, if_neg (fun q => h1.2.1 q.symm), Op.lookupswitch.offset_cons, if_neg (fun q => h1.2.2.2 q.symm), Op.lookupswitch.offset_cons, if_neg (fun q => h1.1 q.symm), Op.lookupswitch.offset_cons, if_neg (fun q => h1.2.2.1 q.symm)]; rfl) ?_
  refine xr_go hc rfl rfl ?_
  refine xr_go hc rfl rfl ?_
  refine xr_gf0 (A := 38) rfl hc rfl (ew_own_p hn rfl) (show _ = t.2.1 from e24) ?_
  refine xr_s_1 hc rfl rfl (m_kindOf (by omega)) ?_
  refine xr_go hc rfl rfl ?_
  refine xr_gf0 (A := 38) rfl hc rfl (ew_own_p hn rfl) (show _ = t.2.2.2.1 from e26a) ?_
  refine xr_go hc rfl rfl ?_
  refine xr_gf0 (A := 38) rfl hc rfl (ew_own_p hn rfl) (show _ = t.2.2.1 from e25) ?_
  refine xr_go hc rfl rfl ?_
  refine xr_gf0 (A := 38) rfl hc rfl (ew_own_p hn rfl) (show _ = t.2.2.2.2 from e27a) ?_
  refine xr_v_5 hc rfl rfl (ew_own_p hn rfl) hw ?_
  refine xr_if_lt hc rfl (by omega) (fun c2 => ?_) (fun c2 => ?_)
  · skip
    refine xr_go hc rfl rfl ?_
    refine xr_ret hc rfl rfl ?_
    exact ⟨rfl, rfl, rfl⟩
  · exfalso; omega

theorem m_dn0 {c nX n : Nat} {X M : ew_Mem} {h : Int → Nat} (hK : s_K c nX X) (hR : s_RM h X M) (hp : ew_Pm M) (hn : 59 ≤ n) {t : s_ST} (ht : s_tOK t) (e24 : M 38 24 = t.2.1) (e25 : M 38 25 = t.2.2.1) (e26 : ¬ s_kd t.2.1 = -1 → M 38 26 = t.2.2.2.1 ∧ M 38 27 = t.2.2.2.2) (hcb : ¬ s_cb (X 5 2) t = true) : ew_FM 223 [(2, 38)] n M (0, 0) n M := by
  have hcb2 := fun q => hcb (decide_eq_true q)
  by_cases h1 : t.2.1 = 110
  · rw [if_pos (Or.inl h1)] at hcb2
    exact m_dn_n0 hK hR hp hn ht e24 e25 h1 hcb2
  · by_cases h2 : t.2.1 = 97
    · rw [if_pos (Or.inr h2)] at hcb2
      exact m_dn_a0 hK hR hp hn ht e24 e25 h2 hcb2
    · rw [if_neg (by omega)] at hcb2
      by_cases h3 : t.2.1 = 111
      · rw [if_pos h3] at hcb2
        exact m_dn_r00 hK hR hp hn ht e24 e25 h3 hcb2
      · rw [if_neg h3] at hcb2
        by_cases h4 : t.2.1 = 105
        · rw [if_pos h4] at hcb2
          exact m_dn_r10 hK hR hp hn ht e24 e25 h4 hcb2
        · rw [if_neg h4] at hcb2
          exact m_dn_w0 hK hR hp hn ht e24 e25 ⟨h1, h2, h3, h4⟩ e26 hcb2

theorem m_dn1 {c nX n : Nat} {X M : ew_Mem} {h : Int → Nat} (hK : s_K c nX X) (hR : s_RM h X M) (hp : ew_Pm M) (hn : 59 ≤ n) {t : s_ST} (ht : s_tOK t) (e24 : M 38 24 = t.2.1) (e25 : M 38 25 = t.2.2.1) (e26 : ¬ s_kd t.2.1 = -1 → M 38 26 = t.2.2.2.1 ∧ M 38 27 = t.2.2.2.2) (hcb : s_cb (X 5 2) t = true) {c0 n0 : Nat} {h0 : Int → Nat} {X0 : ew_Mem} (hK0 : s_K c0 n0 X0) (hle : X0 5 2 ≤ X 5 2) (hb : s_BK h0 X0 M) :
    ∃ (M2 : ew_Mem) (h2 : Int → Nat), ew_FM 223 [(2, 38)] n M (0, 1) n M2 ∧ s_RM h2 (s_do t nX X).2 M2 ∧ s_BK h0 X0 M2 ∧ (∀ a j : Nat, (a < 38 ∨ 45 < a ∨ (a = 38 ∧ 9 ≤ j)) → M2 a j = M a j) ∧ ew_Pm M2 := by
  rcases s_cb_def hcb with ⟨h1, h2⟩ | ⟨h1, h2⟩ | ⟨h1, h2⟩ | ⟨h1, h2⟩ | ⟨h1, h2, h3, h4⟩
  · refine ⟨_, h, m_dn_n1 hK hR hp hn ht e24 e25 h1 h2, ?_, ?_, ?_, ?_⟩
    · rw [s_do_n h1]
      have hg := R_bind hK hR (w := t.2.2.1) (a := X 5 4)
      rw [s_wr_id (M := ew_wr X 5 3 t.2.2.1) (a := 5) (i := 4) (v := X 5 4) rfl] at hg
      exact hg
    · exact s_BK_ag hK0 (fun a j _ _ q => by rw [s_nr (by omega), s_nr (by omega)]) hb
    · intro a j q
      rw [s_nr (by omega), s_nr (by omega)]
    · exact ew_Pm_wr (ew_Pm_wr hp rfl) rfl
  · refine ⟨_, h, m_dn_a1 hK hR hp hn ht e24 e25 h1 h2, ?_, ?_, ?_, ?_⟩
    · rw [s_do_a h1]
      have hg := R_bind hK hR (w := X 5 3) (a := t.2.2.1)
      rw [s_wr_id (M := X) (a := 5) (i := 3) (v := X 5 3) rfl] at hg
      exact hg
    · exact s_BK_ag hK0 (fun a j _ _ q => by rw [s_nr (by omega), s_nr (by omega)]) hb
    · intro a j q
      rw [s_nr (by omega), s_nr (by omega)]
    · exact ew_Pm_wr (ew_Pm_wr hp rfl) rfl
  · refine ⟨_, h, m_dn_r01 hK hR hp hn ht e24 e25 h1 h2, ?_, ?_, ?_, ?_⟩
    · rw [s_do_r h1]
      exact R_rule hK hR (x := 0) (v := t.2.2.1)
    · exact s_BK_ag hK0 (fun a j _ _ q => by rw [s_nr (by omega)]) hb
    · intro a j q
      rw [s_nr (by omega)]
    · exact ew_Pm_wrA hp rfl
  · refine ⟨_, h, m_dn_r11 hK hR hp hn ht e24 e25 h1 h2, ?_, ?_, ?_, ?_⟩
    · rw [s_do_i h1]
      exact R_rule hK hR (x := 1) (v := t.2.2.1)
    · exact s_BK_ag hK0 (fun a j _ _ q => by rw [s_nr (by omega)]) hb
    · intro a j q
      rw [s_nr (by omega)]
    · exact ew_Pm_wrA hp rfl
  · have hx := hK.2.2.2.1.1
    have hlv : ∀ r : Nat, (r : Int) < X 5 2 → 0 ≤ M 44 r ∧ M 44 r < 64 := by
      intro r hr
      have g1 := hR.2.1.1 r hr
      have g2 := (hR.2.1.2.2.1 (X 6 r) (Or.inl ⟨r, hr, rfl⟩)).1
      omega
    have h56 : ∀ r : Nat, r < 48 → ew_in (M 56 r) := by
      intro r hr
      have g1 := hR.2.1.2.1 (r / 12) (r % 12) (by omega) (by omega)
      rw [show 12 * (r / 12) + r % 12 = r by omega] at g1
      rw [g1]
      split
      · decide
      · rename_i q
        have g2 := (hR.2.1.2.2.1 (X (13 + 2 * (r / 12)) (r % 12)) (Or.inr ⟨r / 12, r % 12, by omega, by omega, rfl, q⟩)).1
        omega
    have hcn : (((X 5 2).toNat : Nat) : Int) = X 5 2 := by omega
    obtain ⟨i, hi, f1, f2, hf⟩ := m_free hn hp (z := X 5 2) hR.1.1 hx hlv hcn h56 (s_row (by omega))
    have f1' : ∀ r : Nat, (r : Int) < X 5 2 → ¬ M 44 r = (i : Int) := fun r hr => f1 r (by omega)
    have hmd := s_md_in (k := s_kd t.2.1) (s := t.2.2.2.2) (f := if X 5 2 = 0 then 1 else 0)
    refine ⟨_, s_up h (nX : Int) i, m_dn_w1 hK hR hp hn ht e24 e25 h1 e26 ⟨h3, h4⟩ h2 hi hf, ?_, ?_, ?_, ?_⟩
    · rw [s_do_w h1]
      exact R_add hK hR hi f1' f2 ⟨h3, h4⟩ hmd h2
    · exact s_BK_cm hK0 hb hle f1' f2
    · intro a j q
      exact s_cm_n (by omega)
    · unfold s_cm
      exact ew_Pm_wr (ew_Pm_wrA (ew_Pm_wrA (ew_Pm_wrA (ew_Pm_wrA (ew_Pm_wrA (ew_Pm_wrA hp rfl) rfl) rfl) rfl) rfl) rfl) rfl

