/-! image and undo: the reference; the whole state's picture -/
/-- so many wheels are written down in the image -/
def s_I1 (V : ew_Mem) (M : ew_Mem) (w : Nat) (M' : ew_Mem) : Prop := M' 38 11 = 1 ∧ (∀ a j : Nat, ¬ a = 46 → ¬ (a = 38 ∧ j = 11) → M' a j = M a j) ∧ ∀ r : Nat, r < w → ∀ j : Nat, j < 5 → M' 46 (5 * r + j) = V r j
def s_I2 (V : ew_Mem) (M M' : ew_Mem) : Prop := s_I1 V M (V 6 0).toNat M' ∧ M' 46 30 = V 6 0 ∧ M' 46 31 = V 6 1 ∧ M' 46 32 = V 6 2 ∧ ∀ j : Nat, j < 6 → M' 46 (33 + j) = V 7 j
/-- so many wheels are brought back -/
def s_U1 (F : Nat → Nat → Int) (M : ew_Mem) (w : Nat) (g : Nat → Nat) (M' : ew_Mem) : Prop := M' 38 5 = (w : Int) ∧ (∀ r : Nat, r < w → g r < 64 ∧ M' 44 r = (g r : Int) ∧ M' 39 (g r) = F r 0 ∧ M' 40 (g r) = F r 1 ∧ M' 41 (g r) = F r 2 ∧ M' 42 (g r) = F r 3 ∧ M' 43 (g r) = F r 4) ∧ (∀ r q : Nat, r < w → q < w → g r = g q → r = q) ∧ (∀ r x : Nat, r < w → x < 48 → ¬ M 56 x = (g r : Int)) ∧
  (∀ i : Nat, (∀ r : Nat, r < w → ¬ g r = i) → ∀ a : Nat, 39 ≤ a → a ≤ 43 → M' a i = M a i) ∧ ∀ a j : Nat, (a < 38 ∨ 44 < a ∨ (a = 38 ∧ ¬ j = 5)) → M' a j = M a j
theorem s_U1_pm {F : Nat → Nat → Int} {M : ew_Mem} {w : Nat} {g : Nat → Nat} {M' : ew_Mem} (h : s_U1 F M w g M') (hp : ew_Pm M) : ew_Pm M' := by
  intro q hm
  have h1 : ∀ q ∈ ew_perm, q.1 < 38 ∨ 44 < q.1 ∨ (q.1 = 38 ∧ ¬ q.2.1 = 5) := by decide +kernel
  rw [h.2.2.2.2.2 _ _ (h1 q hm)]
  exact hp q hm
theorem s_U1_s {F : Nat → Nat → Int} {M : ew_Mem} {w : Nat} {g : Nat → Nat} {M' : ew_Mem} (h : s_U1 F M w g M') {i : Nat} (hi : i < 64) (f1 : ∀ r : Nat, r < w → ¬ M' 44 r = (i : Int)) (f2 : ∀ r : Nat, r < 48 → ¬ M' 56 r = (i : Int)) : s_U1 F M (w + 1) (fun r => if r = w then i else g r) (s_cm M' i (F w 0) (F w 1) (F w 2) (F w 3) (F w 4) (w : Int)) := by
  obtain ⟨h1, h2, h3, h4, h5, h6⟩ := h
  have hgi : ∀ r : Nat, r < w → ¬ g r = i := fun r hr e => f1 r hr (by rw [(h2 r hr).2.1, e])
  refine ⟨?_, fun r hr => ?_, fun r q hr hq he => ?_, fun r x hr hx => ?_, fun k hk a ha1 ha2 => ?_, fun a j ha => ?_⟩
  · unfold s_cm
    rw [s_eq_rd]
    omega
  · by_cases e : r = w
    · subst e
      dsimp only
      rw [if_pos rfl, s_cm_44, Int.toNat_natCast, if_pos rfl]
      exact ⟨hi, rfl, s_cm_row⟩
    · dsimp only
      have hr2 := h2 r (by omega)
      have hne := hgi r (by omega)
      rw [if_neg e, s_cm_44, Int.toNat_natCast, if_neg e, s_cm_ro hne (by omega), s_cm_ro hne (by omega), s_cm_ro hne (by omega), s_cm_ro hne (by omega), s_cm_ro hne (by omega)]
      exact hr2
  · dsimp only at he
    by_cases e1 : r = w
    · by_cases e2 : q = w
      · omega
      · rw [if_pos e1, if_neg e2] at he
        exact absurd he.symm (hgi q (by omega))
    · by_cases e2 : q = w
      · rw [if_neg e1, if_pos e2] at he
        exact absurd he (hgi r (by omega))
      · rw [if_neg e1, if_neg e2] at he
        exact h3 r q (by omega) (by omega) he
  · dsimp only
    by_cases e : r = w
    · rw [if_pos e, ← h6 56 x (by omega)]
      exact f2 x hx
    · rw [if_neg e]
      exact h4 r x (by omega) hx
  · have hki : ¬ k = i := by
      have := hk w (by omega)
      dsimp only at this
      rw [if_pos rfl] at this
      exact fun e => this e.symm
    rw [s_cm_ro hki ⟨ha1, ha2⟩]
    refine h5 k (fun r hr => ?_) a ha1 ha2
    have := hk r (by omega)
    dsimp only at this
    rw [if_neg (by omega)] at this
    exact this
  · rw [s_cm_n ha]
    exact h6 a j ha
/-- the reference's memory after undo -/
def s_U2 (M : ew_Mem) : ew_Mem := s_fn (ew_wr (ew_wr M 38 7 (M 46 31)) 38 8 (M 46 32)) 45 0 6 (fun j => M 46 (33 + j))
theorem s_I1_s {V M : ew_Mem} {w : Nat} {M' : ew_Mem} (h : s_I1 V M w M') : s_I1 V M (w + 1) (ew_wr (ew_wr (ew_wr (ew_wr (ew_wr M' 46 (5 * (w : Int)).toNat (V w 0)) 46 (5 * (w : Int) + 1).toNat (V w 1)) 46 (5 * (w : Int) + 2).toNat (V w 2)) 46 (5 * (w : Int) + 3).toNat (V w 3)) 46 (5 * (w : Int) + 4).toNat (V w 4)) := by
  obtain ⟨h1, h2, h3⟩ := h
  rw [show (5 * (w : Int)).toNat = 5 * w + 0 by omega, show (5 * (w : Int) + 1).toNat = 5 * w + 1 by omega, show (5 * (w : Int) + 2).toNat = 5 * w + 2 by omega, show (5 * (w : Int) + 3).toNat = 5 * w + 3 by omega, show (5 * (w : Int) + 4).toNat = 5 * w + 4 by omega]
  refine ⟨?_, fun a j ha1 ha2 => ?_, fun r hr j hj => ?_⟩
  · rw [s_ne_rd (by omega), s_ne_rd (by omega), s_ne_rd (by omega), s_ne_rd (by omega), s_ne_rd (by omega)]
    exact h1
  · rw [s_ne_rd ha1, s_ne_rd ha1, s_ne_rd ha1, s_ne_rd ha1, s_ne_rd ha1]
    exact h2 a j ha1 ha2
  · by_cases e : r = w
    · subst e
      obtain rfl | rfl | rfl | rfl | rfl : j = 0 ∨ j = 1 ∨ j = 2 ∨ j = 3 ∨ j = 4 := by omega
      · rw [s_ne_ri (by omega), s_ne_ri (by omega), s_ne_ri (by omega), s_ne_ri (by omega), s_eq_rd]
      · rw [s_ne_ri (by omega), s_ne_ri (by omega), s_ne_ri (by omega), s_eq_rd]
      · rw [s_ne_ri (by omega), s_ne_ri (by omega), s_eq_rd]
      · rw [s_ne_ri (by omega), s_eq_rd]
      · rw [s_eq_rd]
    · rw [s_ne_ri (by omega), s_ne_ri (by omega), s_ne_ri (by omega), s_ne_ri (by omega), s_ne_ri (by omega)]
      exact h3 r (by omega) j hj
set_option maxRecDepth 20000 in
set_option maxHeartbeats 4000000 in
theorem m_im_1 {V : ew_Mem} {n : Nat} {M : ew_Mem} (hM : s_M V n M) {c : Nat} (hcnt : (c : Int) = V 6 0) {Q : Option ew_AV → Nat → ew_Mem → Prop} (hk : ∀ M', s_I1 V M c M' → ew_X 237 124 [(2, 38), (0, (c : Int))] [] n M' Q) : ∀ (j w : Nat) (M' : ew_Mem), w + j = c → s_I1 V M w M' →
    ew_X 237 7 [(2, 38), (0, (w : Int))] [] n M' Q := by
  obtain ⟨hn, hp, hV, u0, u1, u2, u3, u4⟩ := id hM
  obtain ⟨hc6, hVW, hnd, hap, hr0, hr1, hr2, hr3, hr4, hr5⟩ := id hV
  have hc := ew_c_237
  intro j
  induction j with
  | zero =>
    intro w M' hj hI
    obtain rfl : w = c := by omega
    have hwr : ∀ a j : Nat, ¬ a = 46 → ¬ (a = 38 ∧ j = 11) → M' a j = M a j := hI.2.1
    have hp2 : ew_Pm M' := by
      intro q hm
      have h1 : ∀ q ∈ ew_perm, ¬ q.1 = 46 ∧ ¬ (q.1 = 38 ∧ q.2.1 = 11) := by decide +kernel
      rw [hwr _ _ (h1 q hm).1 (h1 q hm).2]
      exact hp q hm
    refine xr_go hc rfl rfl ?_
    refine xr_go hc rfl rfl ?_
    refine xr_gf0 (A := 38) rfl hc rfl (ew_own_p hn rfl) (show _ = V 6 0 by (repeat first | rw [s_ne_rd (by omega)] | rw [hwr _ _ (by omega) (by omega)]); exact u0) ?_
    refine xr_icmp_ge hc rfl (by omega) (by omega) (fun c1 => ?_) (fun c1 => ?_)
    · skip
      exact hk M' hI
    · exfalso; omega
  | succ j ih =>
    intro w M' hj hI
    obtain ⟨q0, q1, q2, q3, q4, q5⟩ := u4 w (by omega)
    have hwr : ∀ a j : Nat, ¬ a = 46 → ¬ (a = 38 ∧ j = 11) → M' a j = M a j := hI.2.1
    have hp2 : ew_Pm M' := by
      intro q hm
      have h1 : ∀ q ∈ ew_perm, ¬ q.1 = 46 ∧ ¬ (q.1 = 38 ∧ q.2.1 = 11) := by decide +kernel
      rw [hwr _ _ (h1 q hm).1 (h1 q hm).2]
      exact hp q hm
    refine xr_go hc rfl rfl ?_
    refine xr_go hc rfl rfl ?_
    refine xr_gf0 (A := 38) rfl hc rfl (ew_own_p hn rfl) (show _ = V 6 0 by (repeat first | rw [s_ne_rd (by omega)] | rw [hwr _ _ (by omega) (by omega)]); exact u0) ?_
    refine xr_icmp_ge hc rfl (by omega) (by omega) (fun c1 => ?_) (fun c1 => ?_)
    · exfalso; omega
    · skip
      refine xr_go hc rfl rfl ?_
      refine xr_gf2 (A := 38) rfl hc rfl (ew_own_p hn rfl) (show _ = (46 : Int) by first | exact ew_pm (v := 46) hp2 rfl | ((repeat first | rw [s_ne_rd (by omega)] | rw [hwr _ _ (by omega) (by omega)]); exact ew_pm (v := 46) hp rfl)) ?_
      refine xr_go hc rfl rfl ?_
      refine xr_go hc rfl rfl ?_
      refine xr_go hc rfl rfl ?_
      refine xr_go hc rfl rfl ?_
      refine xr_gf2 (A := 38) rfl hc rfl (ew_own_p hn rfl) (show _ = (39 : Int) by first | exact ew_pm (v := 39) hp2 rfl | ((repeat first | rw [s_ne_rd (by omega)] | rw [hwr _ _ (by omega) (by omega)]); exact ew_pm (v := 39) hp rfl)) ?_
      refine xr_go hc rfl rfl ?_
      refine xr_gf2 (A := 38) rfl hc rfl (ew_own_p hn rfl) (show _ = (44 : Int) by first | exact ew_pm (v := 44) hp2 rfl | ((repeat first | rw [s_ne_rd (by omega)] | rw [hwr _ _ (by omega) (by omega)]); exact ew_pm (v := 44) hp rfl)) ?_
      refine xr_go hc rfl rfl ?_
      refine xr_iald (A := 44) (N := 6) rfl rfl hc rfl (ew_ok_p hn rfl) (by omega) (by omega) (show _ = M 44 w by (repeat first | rw [s_ne_rd (by omega)] | rw [hwr _ _ (by omega) (by omega)]); rfl) ?_
      refine xr_iald (A := 39) (N := 64) rfl rfl hc rfl (ew_ok_p hn rfl) (by omega) (by omega) (show _ = V w 0 by (repeat first | rw [s_ne_rd (by omega)] | rw [hwr _ _ (by omega) (by omega)]); exact q1) ?_
      refine xr_iast (A := 46) (N := 40) rfl rfl hc rfl (ew_own_p hn rfl) (by omega) (by omega) ?_
      refine xr_go hc rfl rfl ?_
      refine xr_gf2 (A := 38) rfl hc rfl (ew_own_p hn rfl) (show _ = (46 : Int) by first | exact ew_pm (v := 46) hp2 rfl | ((repeat first | rw [s_ne_rd (by omega)] | rw [hwr _ _ (by omega) (by omega)]); exact ew_pm (v := 46) hp rfl)) ?_
      refine xr_go hc rfl rfl ?_
      refine xr_go hc rfl rfl ?_
      refine xr_go hc rfl rfl ?_
      refine xr_go hc rfl rfl ?_
      refine xr_go hc rfl rfl ?_
      refine xr_go hc rfl rfl ?_
      refine xr_gf2 (A := 38) rfl hc rfl (ew_own_p hn rfl) (show _ = (40 : Int) by first | exact ew_pm (v := 40) hp2 rfl | ((repeat first | rw [s_ne_rd (by omega)] | rw [hwr _ _ (by omega) (by omega)]); exact ew_pm (v := 40) hp rfl)) ?_
      refine xr_go hc rfl rfl ?_
      refine xr_gf2 (A := 38) rfl hc rfl (ew_own_p hn rfl) (show _ = (44 : Int) by first | exact ew_pm (v := 44) hp2 rfl | ((repeat first | rw [s_ne_rd (by omega)] | rw [hwr _ _ (by omega) (by omega)]); exact ew_pm (v := 44) hp rfl)) ?_
      refine xr_go hc rfl rfl ?_
      refine xr_iald (A := 44) (N := 6) rfl rfl hc rfl (ew_ok_p hn rfl) (by omega) (by omega) (show _ = M 44 w by (repeat first | rw [s_ne_rd (by omega)] | rw [hwr _ _ (by omega) (by omega)]); rfl) ?_
      refine xr_iald (A := 40) (N := 64) rfl rfl hc rfl (ew_ok_p hn rfl) (by omega) (by omega) (show _ = V w 1 by (repeat first | rw [s_ne_rd (by omega)] | rw [hwr _ _ (by omega) (by omega)]); exact q2) ?_
      refine xr_iast (A := 46) (N := 40) rfl rfl hc rfl (ew_own_p hn rfl) (by omega) (by omega) ?_
      refine xr_go hc rfl rfl ?_
      refine xr_gf2 (A := 38) rfl hc rfl (ew_own_p hn rfl) (show _ = (46 : Int) by first | exact ew_pm (v := 46) hp2 rfl | ((repeat first | rw [s_ne_rd (by omega)] | rw [hwr _ _ (by omega) (by omega)]); exact ew_pm (v := 46) hp rfl)) ?_
      refine xr_go hc rfl rfl ?_
      refine xr_go hc rfl rfl ?_
      refine xr_go hc rfl rfl ?_
      refine xr_go hc rfl rfl ?_
      refine xr_go hc rfl rfl ?_
      refine xr_go hc rfl rfl ?_
      refine xr_gf2 (A := 38) rfl hc rfl (ew_own_p hn rfl) (show _ = (41 : Int) by first | exact ew_pm (v := 41) hp2 rfl | ((repeat first | rw [s_ne_rd (by omega)] | rw [hwr _ _ (by omega) (by omega)]); exact ew_pm (v := 41) hp rfl)) ?_
      refine xr_go hc rfl rfl ?_
      refine xr_gf2 (A := 38) rfl hc rfl (ew_own_p hn rfl) (show _ = (44 : Int) by first | exact ew_pm (v := 44) hp2 rfl | ((repeat first | rw [s_ne_rd (by omega)] | rw [hwr _ _ (by omega) (by omega)]); exact ew_pm (v := 44) hp rfl)) ?_
      refine xr_go hc rfl rfl ?_
      refine xr_iald (A := 44) (N := 6) rfl rfl hc rfl (ew_ok_p hn rfl) (by omega) (by omega) (show _ = M 44 w by (repeat first | rw [s_ne_rd (by omega)] | rw [hwr _ _ (by omega) (by omega)]); rfl) ?_
      refine xr_iald (A := 41) (N := 64) rfl rfl hc rfl (ew_ok_p hn rfl) (by omega) (by omega) (show _ = V w 2 by (repeat first | rw [s_ne_rd (by omega)] | rw [hwr _ _ (by omega) (by omega)]); exact q3) ?_
      refine xr_iast (A := 46) (N := 40) rfl rfl hc rfl (ew_own_p hn rfl) (by omega) (by omega) ?_
      refine xr_go hc rfl rfl ?_
      refine xr_gf2 (A := 38) rfl hc rfl (ew_own_p hn rfl) (show _ = (46 : Int) by first | exact ew_pm (v := 46) hp2 rfl | ((repeat first | rw [s_ne_rd (by omega)] | rw [hwr _ _ (by omega) (by omega)]); exact ew_pm (v := 46) hp rfl)) ?_
      refine xr_go hc rfl rfl ?_
      refine xr_go hc rfl rfl ?_
      refine xr_go hc rfl rfl ?_
      refine xr_go hc rfl rfl ?_
      refine xr_go hc rfl rfl ?_
      refine xr_go hc rfl rfl ?_
      refine xr_gf2 (A := 38) rfl hc rfl (ew_own_p hn rfl) (show _ = (42 : Int) by first | exact ew_pm (v := 42) hp2 rfl | ((repeat first | rw [s_ne_rd (by omega)] | rw [hwr _ _ (by omega) (by omega)]); exact ew_pm (v := 42) hp rfl)) ?_
      refine xr_go hc rfl rfl ?_
      refine xr_gf2 (A := 38) rfl hc rfl (ew_own_p hn rfl) (show _ = (44 : Int) by first | exact ew_pm (v := 44) hp2 rfl | ((repeat first | rw [s_ne_rd (by omega)] | rw [hwr _ _ (by omega) (by omega)]); exact ew_pm (v := 44) hp rfl)) ?_
      refine xr_go hc rfl rfl ?_
      refine xr_iald (A := 44) (N := 6) rfl rfl hc rfl (ew_ok_p hn rfl) (by omega) (by omega) (show _ = M 44 w by (repeat first | rw [s_ne_rd (by omega)] | rw [hwr _ _ (by omega) (by omega)]); rfl) ?_
      refine xr_iald (A := 42) (N := 64) rfl rfl hc rfl (ew_ok_p hn rfl) (by omega) (by omega) (show _ = V w 3 by (repeat first | rw [s_ne_rd (by omega)] | rw [hwr _ _ (by omega) (by omega)]); exact q4) ?_
      refine xr_iast (A := 46) (N := 40) rfl rfl hc rfl (ew_own_p hn rfl) (by omega) (by omega) ?_
      refine xr_go hc rfl rfl ?_
      refine xr_gf2 (A := 38) rfl hc rfl (ew_own_p hn rfl) (show _ = (46 : Int) by first | exact ew_pm (v := 46) hp2 rfl | ((repeat first | rw [s_ne_rd (by omega)] | rw [hwr _ _ (by omega) (by omega)]); exact ew_pm (v := 46) hp rfl)) ?_
      refine xr_go hc rfl rfl ?_
      refine xr_go hc rfl rfl ?_
      refine xr_go hc rfl rfl ?_
      refine xr_go hc rfl rfl ?_
      refine xr_go hc rfl rfl ?_
      refine xr_go hc rfl rfl ?_
      refine xr_gf2 (A := 38) rfl hc rfl (ew_own_p hn rfl) (show _ = (43 : Int) by first | exact ew_pm (v := 43) hp2 rfl | ((repeat first | rw [s_ne_rd (by omega)] | rw [hwr _ _ (by omega) (by omega)]); exact ew_pm (v := 43) hp rfl)) ?_
      refine xr_go hc rfl rfl ?_
      refine xr_gf2 (A := 38) rfl hc rfl (ew_own_p hn rfl) (show _ = (44 : Int) by first | exact ew_pm (v := 44) hp2 rfl | ((repeat first | rw [s_ne_rd (by omega)] | rw [hwr _ _ (by omega) (by omega)]); exact ew_pm (v := 44) hp rfl)) ?_
      refine xr_go hc rfl rfl ?_
      refine xr_iald (A := 44) (N := 6) rfl rfl hc rfl (ew_ok_p hn rfl) (by omega) (by omega) (show _ = M 44 w by (repeat first | rw [s_ne_rd (by omega)] | rw [hwr _ _ (by omega) (by omega)]); rfl) ?_
      refine xr_iald (A := 43) (N := 64) rfl rfl hc rfl (ew_ok_p hn rfl) (by omega) (by omega) (show _ = V w 4 by (repeat first | rw [s_ne_rd (by omega)] | rw [hwr _ _ (by omega) (by omega)]); exact q5) ?_
      refine xr_iast (A := 46) (N := 40) rfl rfl hc rfl (ew_own_p hn rfl) (by omega) (by omega) ?_
      refine xr_inc_1 hc rfl ?_
      refine xr_go hc rfl rfl ?_
      rw [s_n1]
      exact ih (w + 1) _ (by omega) (s_I1_s hI)

set_option maxRecDepth 20000 in
theorem m_im_2 {V : ew_Mem} {n : Nat} {M : ew_Mem} (hM : s_M V n M) {M' : ew_Mem} (hp2 : ew_Pm M') (h5 : M' 38 5 = V 6 0) (h45 : ∀ j : Nat, j < 6 → M' 45 j = V 7 j) : ∀ (j i : Nat), i + j = 6 →
    ew_X 237 159 [(2, 38), (0, (i : Int))] [] n (s_fn M' 46 33 i (fun j => V 7 j)) (fun r a b => r = some (0, V 6 0) ∧ a = n ∧ b = (s_fn M' 46 33 6 (fun j => V 7 j))) := by
  obtain ⟨hn, hp, hV, u0, u1, u2, u3, u4⟩ := id hM
  obtain ⟨hc6, hVW, hnd, hap, hr0, hr1, hr2, hr3, hr4, hr5⟩ := id hV
  have hc := ew_c_237
  intro j
  induction j with
  | zero =>
    intro i hj
    obtain rfl : i = 6 := by omega
    refine xr_go hc rfl rfl ?_
    refine xr_go hc rfl rfl ?_
    refine xr_icmp_ge hc rfl (by omega) (by decide) (fun c1 => ?_) (fun c1 => ?_)
    · skip
      refine xr_go hc rfl rfl ?_
      refine xr_gf0 (A := 38) rfl hc rfl (ew_own_p hn rfl) (show _ = V 6 0 from (s_fn_ne (by decide)).trans h5) ?_
      refine xr_ret hc rfl rfl ?_
      exact ⟨rfl, rfl, rfl⟩
    · exfalso; omega
  | succ j ih =>
    intro i hj
    refine xr_go hc rfl rfl ?_
    refine xr_go hc rfl rfl ?_
    refine xr_icmp_ge hc rfl (by omega) (by decide) (fun c1 => ?_) (fun c1 => ?_)
    · exfalso; omega
    · skip
      refine xr_go hc rfl rfl ?_
      refine xr_gf2 (A := 38) rfl hc rfl (ew_own_p hn rfl) (show _ = (46 : Int) from (s_fn_ne (by decide)).trans (ew_pm (v := 46) hp2 rfl)) ?_
      refine xr_go hc rfl rfl ?_
      refine xr_go hc rfl rfl ?_
      refine xr_go hc rfl rfl ?_
      refine xr_go hc rfl rfl ?_
      refine xr_gf2 (A := 38) rfl hc rfl (ew_own_p hn rfl) (show _ = (45 : Int) from (s_fn_ne (by decide)).trans (ew_pm (v := 45) hp2 rfl)) ?_
      refine xr_go hc rfl rfl ?_
      refine xr_iald (A := 45) (N := 6) rfl rfl hc rfl (ew_ok_p hn rfl) (by omega) (by omega) (show _ = V 7 i from (s_fn_ne (by decide)).trans (h45 i (by omega))) ?_
      refine xr_iast (A := 46) (N := 40) rfl rfl hc rfl (ew_own_p hn rfl) (by omega) (by omega) ?_
      refine xr_inc_1 hc rfl ?_
      refine xr_go hc rfl rfl ?_
      rw [s_n1, s_fn_w2 (by omega) rfl]
      exact ih (i + 1) (by omega)

set_option maxRecDepth 20000 in
theorem mx_image {V : ew_Mem} {n : Nat} {M : ew_Mem} (hM : s_M V n M) : ew_C 237 [(2, 38)] n M (fun r a b => r = some (0, V 6 0) ∧ a = n ∧ s_I2 V M b) := by
  obtain ⟨hn, hp, hV, u0, u1, u2, u3, u4⟩ := id hM
  obtain ⟨hc6, hVW, hnd, hap, hr0, hr1, hr2, hr3, hr4, hr5⟩ := id hV
  have hc := ew_c_237
  show ew_X 237 0 [(2, 38), (5, 0)] [] n M _
  refine xr_go hc rfl rfl ?_
  refine xr_go hc rfl rfl ?_
  refine xr_pfB (A := 38) rfl hc rfl (ew_own_p hn rfl) (Or.inr rfl) ?_
  refine xr_go hc rfl rfl ?_
  refine xr_s1_1 hc rfl rfl rfl ?_
  refine m_im_1 hM (c := (V 6 0).toNat) (by omega) (fun M' hI => ?_) (V 6 0).toNat 0 _ (by omega) ⟨rfl, fun a j ha1 ha2 => ?_, fun r hr => by omega⟩
  · skip
    have hwr : ∀ a j : Nat, ¬ a = 46 → ¬ (a = 38 ∧ j = 11) → M' a j = M a j := hI.2.1
    have hp2 : ew_Pm M' := by
      intro q hm
      have h1 : ∀ q ∈ ew_perm, ¬ q.1 = 46 ∧ ¬ (q.1 = 38 ∧ q.2.1 = 11) := by decide +kernel
      rw [hwr _ _ (h1 q hm).1 (h1 q hm).2]
      exact hp q hm
    refine xr_go hc rfl rfl ?_
    refine xr_gf2 (A := 38) rfl hc rfl (ew_own_p hn rfl) (show _ = (46 : Int) by first | exact ew_pm (v := 46) hp2 rfl | ((repeat first | rw [s_ne_rd (by omega)] | rw [hwr _ _ (by omega) (by omega)]); exact ew_pm (v := 46) hp rfl)) ?_
    refine xr_go hc rfl rfl ?_
    refine xr_go hc rfl rfl ?_
    refine xr_gf0 (A := 38) rfl hc rfl (ew_own_p hn rfl) (show _ = V 6 0 by (repeat first | rw [s_ne_rd (by omega)] | rw [hwr _ _ (by omega) (by omega)]); exact u0) ?_
    refine xr_iast (A := 46) (N := 40) rfl rfl hc rfl (ew_own_p hn rfl) (by decide) (by decide) ?_
    refine xr_go hc rfl rfl ?_
    refine xr_gf2 (A := 38) rfl hc rfl (ew_own_p hn rfl) (show _ = (46 : Int) by first | exact ew_pm (v := 46) hp2 rfl | ((repeat first | rw [s_ne_rd (by omega)] | rw [hwr _ _ (by omega) (by omega)]); exact ew_pm (v := 46) hp rfl)) ?_
    refine xr_go hc rfl rfl ?_
    refine xr_go hc rfl rfl ?_
    refine xr_gf0 (A := 38) rfl hc rfl (ew_own_p hn rfl) (show _ = V 6 1 by (repeat first | rw [s_ne_rd (by omega)] | rw [hwr _ _ (by omega) (by omega)]); exact u1) ?_
    refine xr_iast (A := 46) (N := 40) rfl rfl hc rfl (ew_own_p hn rfl) (by decide) (by decide) ?_
    refine xr_go hc rfl rfl ?_
    refine xr_gf2 (A := 38) rfl hc rfl (ew_own_p hn rfl) (show _ = (46 : Int) by first | exact ew_pm (v := 46) hp2 rfl | ((repeat first | rw [s_ne_rd (by omega)] | rw [hwr _ _ (by omega) (by omega)]); exact ew_pm (v := 46) hp rfl)) ?_
    refine xr_go hc rfl rfl ?_
    refine xr_go hc rfl rfl ?_
    refine xr_gf0 (A := 38) rfl hc rfl (ew_own_p hn rfl) (show _ = V 6 2 by (repeat first | rw [s_ne_rd (by omega)] | rw [hwr _ _ (by omega) (by omega)]); exact u2) ?_
    refine xr_iast (A := 46) (N := 40) rfl rfl hc rfl (ew_own_p hn rfl) (by decide) (by decide) ?_
    refine xr_go hc rfl rfl ?_
    refine xr_s1_1 hc rfl rfl rfl ?_
    have hM4 : ∀ a j : Nat, ¬ a = 46 → ew_wr (ew_wr (ew_wr M' 46 30 (V 6 0)) 46 31 (V 6 1)) 46 32 (V 6 2) a j = M' a j := fun a j ha => by
      rw [s_ne_rd ha, s_ne_rd ha, s_ne_rd ha]
    have hp4 : ew_Pm (ew_wr (ew_wr (ew_wr M' 46 30 (V 6 0)) 46 31 (V 6 1)) 46 32 (V 6 2)) := ew_Pm_wrA (ew_Pm_wrA (ew_Pm_wrA hp2 rfl) rfl) rfl
    have hg := m_im_2 hM (M' := ew_wr (ew_wr (ew_wr M' 46 30 (V 6 0)) 46 31 (V 6 1)) 46 32 (V 6 2)) hp4 (by rw [hM4 _ _ (by decide), hwr _ _ (by decide) (by decide)]; exact u0) (fun j hj => by rw [hM4 _ _ (by decide), hwr _ _ (by decide) (by omega)]; exact u3 j hj) 6 0 rfl
    rw [s_fn_0] at hg
    refine ew_X.mono hg ?_
    rintro r a b ⟨rfl, rfl, rfl⟩
    refine ⟨rfl, rfl, ⟨?_, fun a j ha1 ha2 => ?_, fun r hr j hj => ?_⟩, ?_, ?_, ?_, fun j hj => ?_⟩
    · rw [s_fn_ne (by decide), hM4 _ _ (by decide)]; exact hI.1
    · rw [s_fn_ne ha1, hM4 _ _ ha1]; exact hI.2.1 a j ha1 ha2
    · rw [s_fn_out (by omega), s_ne_ri (by omega), s_ne_ri (by omega), s_ne_ri (by omega)]; exact hI.2.2 r (by omega) j hj
    · rw [s_fn_out (by omega), s_ne_ri (by omega), s_ne_ri (by omega), s_eq_rd]
    · rw [s_fn_out (by omega), s_ne_ri (by omega), s_eq_rd]
    · rw [s_fn_out (by omega), s_eq_rd]
    · rw [s_fn_in (by omega), Nat.add_sub_cancel_left]
  · by_cases e : a = 38
    · subst e
      exact s_ne_ri (by omega)
    · exact s_ne_rd e

set_option maxRecDepth 20000 in
set_option maxHeartbeats 4000000 in
theorem m_un_1 {n : Nat} {M : ew_Mem} (hn : 59 ≤ n) (hp : ew_Pm M) {F : Nat → Nat → Int} {z : Int} (hz : 0 ≤ z ∧ z ≤ 6) (hz2 : M 46 30 = z) (hF : ∀ r : Nat, (r : Int) < z → ∀ j : Nat, j < 5 → M 46 (5 * r + j) = F r j) (h56 : ∀ r : Nat, r < 48 → ew_in (M 56 r)) {Q : Option ew_AV → Nat → ew_Mem → Prop} (hk : ∀ g M', s_U1 F M z.toNat g M' → ew_X 238 86 [(2, 38), (0, z)] [] n M' Q) : ∀ (j w : Nat) (g : Nat → Nat) (M' : ew_Mem), ((w + j : Nat) : Int) = z → s_U1 F M w g M' →
    ew_X 238 17 [(2, 38), (0, (w : Int))] [] n M' Q := by
  have hc := ew_c_238
  intro j
  induction j with
  | zero =>
    intro w g M' hj hU
    obtain rfl : (w : Int) = z := by omega
    have hp2 := s_U1_pm hU hp
    obtain ⟨e1, e2, e3, e4, e5, e6⟩ := id hU
    refine xr_go hc rfl rfl ?_
    refine xr_go hc rfl rfl ?_
    refine xr_gf2 (A := 38) rfl hc rfl (ew_own_p hn rfl) (ew_pm (v := 46) hp2 rfl) ?_
    refine xr_go hc rfl rfl ?_
    refine xr_iald (A := 46) (N := 40) rfl rfl hc rfl (ew_ok_p hn rfl) (by decide) (by decide) (show _ = (w : Int) from (e6 46 30 (by omega)).trans hz2) ?_
    refine xr_icmp_ge hc rfl (by omega) (by omega) (fun c1 => ?_) (fun c1 => ?_)
    · skip
      exact hk g M' hU
    · exfalso; omega
  | succ j ih =>
    intro w g M' hj hU
    have hp2 := s_U1_pm hU hp
    obtain ⟨e1, e2, e3, e4, e5, e6⟩ := id hU
    obtain ⟨i, hi, f1, f2, hf⟩ := m_free hn hp2 e1 (by omega) (fun r hr => by rw [(e2 r (by omega)).2.1]; have := (e2 r (by omega)).1; omega) (c := w) rfl (fun r hr => by rw [e6 56 r (by omega)]; exact h56 r hr) (s_row (by omega))
    refine xr_go hc rfl rfl ?_
    refine xr_go hc rfl rfl ?_
    refine xr_gf2 (A := 38) rfl hc rfl (ew_own_p hn rfl) (ew_pm (v := 46) hp2 rfl) ?_
    refine xr_go hc rfl rfl ?_
    refine xr_iald (A := 46) (N := 40) rfl rfl hc rfl (ew_ok_p hn rfl) (by decide) (by decide) (show _ = z from (e6 46 30 (by omega)).trans hz2) ?_
    refine xr_icmp_ge hc rfl (by omega) (by omega) (fun c1 => ?_) (fun c1 => ?_)
    · exfalso; omega
    · skip
      refine xr_go hc rfl rfl ?_
      refine xr_go hc rfl rfl ?_
      refine xr_gf2 (A := 38) rfl hc rfl (ew_own_p hn rfl) (ew_pm (v := 46) hp2 rfl) ?_
      refine xr_go hc rfl rfl ?_
      refine xr_go hc rfl rfl ?_
      refine xr_go hc rfl rfl ?_
      refine xr_iald (A := 46) (N := 40) rfl rfl hc rfl (ew_ok_p hn rfl) (by omega) (by omega) (show _ = F w 0 by rw [e6 46 _ (by omega), show (5 * (w : Int)).toNat = 5 * w + 0 by omega]; exact hF w (by omega) 0 (by omega)) ?_
      refine xr_go hc rfl rfl ?_
      refine xr_gf2 (A := 38) rfl hc rfl (ew_own_p hn rfl) (ew_pm (v := 46) hp2 rfl) ?_
      refine xr_go hc rfl rfl ?_
      refine xr_go hc rfl rfl ?_
      refine xr_go hc rfl rfl ?_
      refine xr_go hc rfl rfl ?_
      refine xr_go hc rfl rfl ?_
      refine xr_iald (A := 46) (N := 40) rfl rfl hc rfl (ew_ok_p hn rfl) (by omega) (by omega) (show _ = F w 1 by rw [e6 46 _ (by omega), show (5 * (w : Int) + 1).toNat = 5 * w + 1 by omega]; exact hF w (by omega) 1 (by omega)) ?_
      refine xr_go hc rfl rfl ?_
      refine xr_gf2 (A := 38) rfl hc rfl (ew_own_p hn rfl) (ew_pm (v := 46) hp2 rfl) ?_
      refine xr_go hc rfl rfl ?_
      refine xr_go hc rfl rfl ?_
      refine xr_go hc rfl rfl ?_
      refine xr_go hc rfl rfl ?_
      refine xr_go hc rfl rfl ?_
      refine xr_iald (A := 46) (N := 40) rfl rfl hc rfl (ew_ok_p hn rfl) (by omega) (by omega) (show _ = F w 2 by rw [e6 46 _ (by omega), show (5 * (w : Int) + 2).toNat = 5 * w + 2 by omega]; exact hF w (by omega) 2 (by omega)) ?_
      refine xr_go hc rfl rfl ?_
      refine xr_gf2 (A := 38) rfl hc rfl (ew_own_p hn rfl) (ew_pm (v := 46) hp2 rfl) ?_
      refine xr_go hc rfl rfl ?_
      refine xr_go hc rfl rfl ?_
      refine xr_go hc rfl rfl ?_
      refine xr_go hc rfl rfl ?_
      refine xr_go hc rfl rfl ?_
      refine xr_iald (A := 46) (N := 40) rfl rfl hc rfl (ew_ok_p hn rfl) (by omega) (by omega) (show _ = F w 3 by rw [e6 46 _ (by omega), show (5 * (w : Int) + 3).toNat = 5 * w + 3 by omega]; exact hF w (by omega) 3 (by omega)) ?_
      refine xr_go hc rfl rfl ?_
      refine xr_gf2 (A := 38) rfl hc rfl (ew_own_p hn rfl) (ew_pm (v := 46) hp2 rfl) ?_
      refine xr_go hc rfl rfl ?_
      refine xr_go hc rfl rfl ?_
      refine xr_go hc rfl rfl ?_
      refine xr_go hc rfl rfl ?_
      refine xr_go hc rfl rfl ?_
      refine xr_iald (A := 46) (N := 40) rfl rfl hc rfl (ew_ok_p hn rfl) (by omega) (by omega) (show _ = F w 4 by rw [e6 46 _ (by omega), show (5 * (w : Int) + 4).toNat = 5 * w + 4 by omega]; exact hF w (by omega) 4 (by omega)) ?_
      refine xr_vv_6 (v := (0, 0)) hc rfl rfl (ew_own_p hn rfl) (m_comes hn hp2 e1 (by omega) (fun r hr => by rw [(e2 r (by omega)).2.1]; have := (e2 r (by omega)).1; omega) hi hf (by omega)) ?_
      refine xr_inc_1 hc rfl ?_
      refine xr_go hc rfl rfl ?_
      rw [s_n1]
      exact ih (w + 1) _ _ (by omega) (s_U1_s hU hi f1 f2)

set_option maxRecDepth 20000 in
theorem m_un_2 {n : Nat} (hn : 59 ≤ n) {M' : ew_Mem} (hp2 : ew_Pm M') {z : Int} (h5 : M' 38 5 = z) : ∀ (j i : Nat), i + j = 6 →
    ew_X 238 110 [(2, 38), (0, (i : Int))] [] n (s_fn M' 45 0 i (fun j => M' 46 (33 + j))) (fun r a b => r = some (0, z) ∧ a = n ∧ b = (s_fn M' 45 0 6 (fun j => M' 46 (33 + j)))) := by
  have hc := ew_c_238
  intro j
  induction j with
  | zero =>
    intro i hj
    obtain rfl : i = 6 := by omega
    refine xr_go hc rfl rfl ?_
    refine xr_go hc rfl rfl ?_
    refine xr_icmp_ge hc rfl (by omega) (by decide) (fun c1 => ?_) (fun c1 => ?_)
    · skip
      refine xr_go hc rfl rfl ?_
      refine xr_gf0 (A := 38) rfl hc rfl (ew_own_p hn rfl) (show _ = z from (s_fn_ne (by decide)).trans h5) ?_
      refine xr_ret hc rfl rfl ?_
      exact ⟨rfl, rfl, rfl⟩
    · exfalso; omega
  | succ j ih =>
    intro i hj
    refine xr_go hc rfl rfl ?_
    refine xr_go hc rfl rfl ?_
    refine xr_icmp_ge hc rfl (by omega) (by decide) (fun c1 => ?_) (fun c1 => ?_)
    · exfalso; omega
    · skip
      refine xr_go hc rfl rfl ?_
      refine xr_gf2 (A := 38) rfl hc rfl (ew_own_p hn rfl) (show _ = (45 : Int) from (s_fn_ne (by decide)).trans (ew_pm (v := 45) hp2 rfl)) ?_
      refine xr_go hc rfl rfl ?_
      refine xr_go hc rfl rfl ?_
      refine xr_gf2 (A := 38) rfl hc rfl (ew_own_p hn rfl) (show _ = (46 : Int) from (s_fn_ne (by decide)).trans (ew_pm (v := 46) hp2 rfl)) ?_
      refine xr_go hc rfl rfl ?_
      refine xr_go hc rfl rfl ?_
      refine xr_go hc rfl rfl ?_
      refine xr_iald (A := 46) (N := 40) rfl rfl hc rfl (ew_ok_p hn rfl) (by omega) (by omega) (show _ = M' 46 (33 + i) by rw [s_fn_ne (by decide)]; congr 1) ?_
      refine xr_iast (A := 45) (N := 6) rfl rfl hc rfl (ew_own_p hn rfl) (by omega) (by omega) ?_
      refine xr_inc_1 hc rfl ?_
      refine xr_go hc rfl rfl ?_
      rw [s_n1, s_fn_w2 (by omega) rfl]
      exact ih (i + 1) (by omega)

set_option maxRecDepth 20000 in
theorem mx_undo {n : Nat} {M : ew_Mem} (hn : 59 ≤ n) (hp : ew_Pm M) {F : Nat → Nat → Int} {z : Int} (hz : 0 ≤ z ∧ z ≤ 6) (hz2 : M 46 30 = z) (hF : ∀ r : Nat, (r : Int) < z → ∀ j : Nat, j < 5 → M 46 (5 * r + j) = F r j) (h56 : ∀ r : Nat, r < 48 → ew_in (M 56 r)) (h11 : M 38 11 = 1) : ew_C 238 [(2, 38)] n M (fun r a b => r = some (0, z) ∧ a = n ∧ ∃ g M2, s_U1 F M z.toNat g M2 ∧ b = s_U2 M2) := by
  have hc := ew_c_238
  show ew_X 238 0 [(2, 38), (5, 0)] [] n M _
  refine xr_go hc rfl rfl ?_
  refine xr_gf0 (A := 38) rfl hc rfl (ew_own_p hn rfl) h11 ?_
  refine xr_if_ne hc rfl (by decide) (fun c1 => ?_) (fun c1 => ?_)
  · skip
    refine xr_go hc rfl rfl ?_
    refine xr_go hc rfl rfl ?_
    refine xr_pf (A := 38) rfl hc rfl (ew_own_p hn rfl) ?_
    refine xr_go hc rfl rfl ?_
    refine xr_s1_1 hc rfl rfl rfl ?_
    refine m_un_1 hn hp hz hz2 hF h56 (fun g M' hU => ?_) z.toNat 0 (fun _ => 0) _ (by omega) ⟨s_eq_rd, fun r hr => by omega, fun r q hr => by omega, fun r x hr => by omega, fun i _ a ha1 ha2 => s_ne_rd (by omega), fun a j ha => ?_⟩
    · have hp2 := s_U1_pm hU hp
      refine xr_go hc rfl rfl ?_
      refine xr_go hc rfl rfl ?_
      refine xr_gf2 (A := 38) rfl hc rfl (ew_own_p hn rfl) (show _ = (46 : Int) by first | exact ew_pm (v := 46) hp2 rfl | (rw [s_ne_ri (by omega)]; exact ew_pm (v := 46) hp2 rfl)) ?_
      refine xr_go hc rfl rfl ?_
      refine xr_iald (A := 46) (N := 40) rfl rfl hc rfl (ew_ok_p hn rfl) (by decide) (by decide) (show _ = M' 46 31 from rfl) ?_
      refine xr_pf (A := 38) rfl hc rfl (ew_own_p hn rfl) ?_
      refine xr_go hc rfl rfl ?_
      refine xr_go hc rfl rfl ?_
      refine xr_gf2 (A := 38) rfl hc rfl (ew_own_p hn rfl) (show _ = (46 : Int) by first | exact ew_pm (v := 46) hp2 rfl | (rw [s_ne_ri (by omega)]; exact ew_pm (v := 46) hp2 rfl)) ?_
      refine xr_go hc rfl rfl ?_
      refine xr_iald (A := 46) (N := 40) rfl rfl hc rfl (ew_ok_p hn rfl) (by decide) (by decide) (show _ = M' 46 32 from s_ne_rd (by decide)) ?_
      refine xr_pf (A := 38) rfl hc rfl (ew_own_p hn rfl) ?_
      refine xr_go hc rfl rfl ?_
      refine xr_s1_1 hc rfl rfl rfl ?_
      have hp4 : ew_Pm (ew_wr (ew_wr M' 38 7 (M' 46 31)) 38 8 (M' 46 32)) := ew_Pm_wr (ew_Pm_wr hp2 rfl) rfl
      have hg := m_un_2 hn hp4 (z := z) ((s_ne_ri (by decide)).trans ((s_ne_ri (by decide)).trans (hU.1.trans (s_toI hz.1)))) 6 0 rfl
      rw [s_fn_0] at hg
      refine ew_X.mono hg ?_
      rintro r a b ⟨rfl, rfl, rfl⟩
      refine ⟨rfl, rfl, g, M', hU, ?_⟩
      unfold s_U2
      refine s_fn_cg (fun j hj => ?_)
      rw [s_ne_rd (by decide), s_ne_rd (by decide)]
    · by_cases e : a = 38
      · subst e
        exact s_ne_ri (by omega)
      · exact s_ne_rd e
  · exfalso; omega

set_option maxRecDepth 20000 in
theorem mx_undoN {n : Nat} {M : ew_Mem} (hn : 59 ≤ n) (hp : ew_Pm M) (h11 : M 38 11 = 0) : ew_FM 238 [(2, 38)] n M (0, -3) n M := by
  have hc := ew_c_238
  show ew_X 238 0 [(2, 38), (5, 0)] [] n M _
  refine xr_go hc rfl rfl ?_
  refine xr_gf0 (A := 38) rfl hc rfl (ew_own_p hn rfl) h11 ?_
  refine xr_if_ne hc rfl (by decide) (fun c1 => ?_) (fun c1 => ?_)
  · exfalso; omega
  · skip
    refine xr_go hc rfl rfl ?_
    refine xr_ret hc rfl rfl ?_
    first
      | exact ⟨rfl, rfl, rfl⟩
      | (exfalso; omega)

/-- what image leaves of the class -/
theorem s_wS_now {c n : Nat} {X : ew_Mem} (hK : s_K c n X) : s_wS 6 (X 5 2) n X := by
  obtain ⟨k0, k1, k2, k3, k4, k5, k6, k7, k8, k9, k10, k11⟩ := id hK
  refine ⟨k3.1, fun r hr => (k4 r hr).imp (fun g => ⟨g.1, g.2.1⟩) id⟩
theorem s_wS_kept {c n : Nat} {X : ew_Mem} (hK : s_K c n X) (q : X 4 2 = 1) : s_wS 9 (X 8 2) n X := by
  obtain ⟨k0, k1, k2, k3, k4, k5, k6, k7, k8, k9, k10, k11⟩ := id hK
  rcases k9 with k9 | k9
  · omega
  · exact ⟨k9.2.1.1, fun r hr => (k9.2.2 r hr).imp (fun g => ⟨g.1, g.2.1.1⟩) id⟩
def s_im (M2 : ew_Mem) : ew_Mem := ew_wr (s_B2 8 10 5 7 M2) 4 2 1
theorem s_im_o {M2 : ew_Mem} {a j : Nat} (h8 : ¬ a = 8) (h10 : ¬ a = 10) (h4 : ¬ (a = 4 ∧ j = 2)) : s_im M2 a j = M2 a j := by
  unfold s_im s_B2
  by_cases e : a = 4
  · subst e
    rw [s_ne_ri (by omega), s_ne_rd h8, s_ne_rd h8, s_ne_rd h8, s_fn_ne h10]
  · rw [s_ne_rd e, s_ne_rd h8, s_ne_rd h8, s_ne_rd h8, s_fn_ne h10]
theorem s_im_10 {M2 : ew_Mem} {j : Nat} (h : j < 6) : s_im M2 10 j = M2 7 j := by
  unfold s_im s_B2
  rw [s_ne_rd (by decide), s_ne_rd (by decide), s_ne_rd (by decide), s_ne_rd (by decide), s_fn_in (by omega), Nat.sub_zero]
theorem s_K_image {c n n2 : Nat} {X M2 : ew_Mem} (hK : s_K c n X) (hB : s_B1 9 6 (X 5 2) n X 6 n2 M2) : s_K (c + 1) n2 (s_im M2) := by
  obtain ⟨k0, k1, k2, k3, k4, k5, k6, k7, k8, k9, k10, k11⟩ := id hK
  obtain ⟨b1, b2, b3, b4⟩ := id hB
  have hc6 := k3.1
  have e : ∀ a j : Nat, a < n → ¬ a = 8 → ¬ a = 9 → ¬ a = 10 → ¬ (a = 4 ∧ j = 2) → s_im M2 a j = X a j := fun a j h1 h2 h3 h4 h5 => (s_im_o h2 h4 h5).trans (b2 a j h1 h3)
  have eo : s_eo n X (s_im M2) := fun a h1 h2 i => e a i h2 (by omega) (by omega) (by omega) (by omega)
  have hp := s_B1_pm k0 rfl hB k2
  have el : ∀ a, s_lv (s_im M2) a → s_lv X a := fun a => s_lv_ag (e 5 2 (by omega) (by decide) (by decide) (by decide) (by decide)) (fun i => e 6 i (by omega) (by decide) (by decide) (by decide) (by omega)) (fun t i ht hi => e _ i (by omega) (by omega) (by omega) (by omega) (by omega))
  have e82 : s_im M2 8 2 = X 5 2 := (show _ = M2 5 2 from rfl).trans (b2 5 2 (by omega) (by decide))
  have e83 : s_im M2 8 3 = X 5 3 := (show _ = M2 5 3 from rfl).trans (b2 5 3 (by omega) (by decide))
  have e84 : s_im M2 8 4 = X 5 4 := (show _ = M2 5 4 from rfl).trans (b2 5 4 (by omega) (by decide))
  have e10 : ∀ j : Nat, j < 6 → s_im M2 10 j = X 7 j := fun j hj => (s_im_10 hj).trans (b2 7 j (by omega) (by decide))
  refine ⟨by omega, by omega, ?_, ?_, ?_, ?_, ?_, ?_, ?_, ?_, ?_⟩
  · exact ew_Pm_wr (ew_Pm_wr (ew_Pm_wr (ew_Pm_wr (s_fn_pm hp rfl) rfl) rfl) rfl) rfl
  · exact s_S1_ag (fun i => e 5 i (by omega) (by decide) (by decide) (by decide) (by omega)) (fun i => e 7 i (by omega) (by decide) (by decide) (by decide) (by omega)) k3
  · exact s_K2_ag (e 5 2 (by omega) (by decide) (by decide) (by decide) (by decide)) (fun i => e 6 i (by omega) (by decide) (by decide) (by decide) (by omega)) eo (by omega) k4
  · exact s_K3_ag (e 5 2 (by omega) (by decide) (by decide) (by decide) (by decide)) (fun i => e 6 i (by omega) (by decide) (by decide) (by decide) (by omega)) k5
  · exact s_K4_ag (fun t i ht hi => e _ i (by omega) (by omega) (by omega) (by omega) (by omega)) (fun t i ht hi => e _ i (by omega) (by omega) (by omega) (by omega) (by omega)) eo (by omega) k6
  · exact s_K5_ag (fun l hl => e _ 1 (by omega) (by omega) (by omega) (by omega) (by omega)) (fun l i hl hi => e _ i (by omega) (by omega) (by omega) (by omega) (by omega)) k7
  · exact s_K6_ag (e 27 1 (by omega) (by decide) (by decide) (by decide) (by decide)) (fun i => e 28 i (by omega) (by decide) (by decide) (by decide) (by omega)) k8
  · refine Or.inr ⟨rfl, ?_, fun r hr => ?_⟩
    · unfold s_S1
      rw [e82, e83, e84, e10 0 (by decide), e10 1 (by decide), e10 2 (by decide), e10 3 (by decide), e10 4 (by decide), e10 5 (by decide)]
      exact k3
    · have e9 : s_im M2 9 r = if (r : Int) < X 5 2 then ((n + r : Nat) : Int) else 0 := (s_im_o (by decide) (by decide) (by omega)).trans (b3 r hr)
      rw [e82, e9]
      by_cases hrc : (r : Int) < X 5 2
      · rw [if_pos hrc]
        refine Or.inl ⟨hrc, ⟨ew_own_w (by omega) (by omega), ?_⟩, fun q => ?_⟩
        · have e1 : s_ob (s_im M2) ((n + r : Nat) : Int) = s_ob M2 ((n + r : Nat) : Int) := s_ob_ag (fun i => s_im_o (by omega) (by omega) (by omega))
          rw [e1, b4 r hr hrc]
          exact (s_li_OB hK hrc).2
        · have := s_OB_w (s_lv_OB hK (el _ q))
          omega
      · rw [if_neg hrc]
        exact Or.inr ⟨by omega, rfl⟩
  · rw [e 4 6 (by omega) (by decide) (by decide) (by decide) (by omega)]
    exact ⟨k10, by omega⟩
theorem s_RM_image {c n n2 : Nat} {X M2 M M3 : ew_Mem} {h : Int → Nat} (hK : s_K c n X) (hR : s_RM h X M) (hB : s_B1 9 6 (X 5 2) n X 6 n2 M2) (hI : s_I2 (s_V X) M M3) : s_RM h (s_im M2) M3 := by
  obtain ⟨k0, k1, k2, k3, k4, k5, k6, k7, k8, k9, k10, k11⟩ := id hK
  obtain ⟨b1, b2, b3, b4⟩ := id hB
  obtain ⟨g1, g2, g6, g7, g8, g9⟩ := id hR
  obtain ⟨⟨i1, i2, i3⟩, i4, i5, i6, i7⟩ := id hI
  have hc6 := k3.1
  have e : ∀ a j : Nat, a < n → ¬ a = 8 → ¬ a = 9 → ¬ a = 10 → ¬ (a = 4 ∧ j = 2) → s_im M2 a j = X a j := fun a j h1 h2 h3 h4 h5 => (s_im_o h2 h4 h5).trans (b2 a j h1 h3)
  have eo : s_eo n X (s_im M2) := fun a h1 h2 i => e a i h2 (by omega) (by omega) (by omega) (by omega)
  have e82 : s_im M2 8 2 = X 5 2 := (show _ = M2 5 2 from rfl).trans (b2 5 2 (by omega) (by decide))
  have e83 : s_im M2 8 3 = X 5 3 := (show _ = M2 5 3 from rfl).trans (b2 5 3 (by omega) (by decide))
  have e84 : s_im M2 8 4 = X 5 4 := (show _ = M2 5 4 from rfl).trans (b2 5 4 (by omega) (by decide))
  refine ⟨s_R1_ag (fun i => e 5 i (by omega) (by decide) (by decide) (by decide) (by omega)) (fun i => e 7 i (by omega) (by decide) (by decide) (by decide) (by omega)) (i2 38 5 (by decide) (by decide)) (i2 38 7 (by decide) (by decide)) (i2 38 8 (by decide) (by decide)) (fun i => i2 45 i (by decide) (by omega)) g1,
    s_R2_ag (e 5 2 (by omega) (by decide) (by decide) (by decide) (by decide)) (fun i => e 6 i (by omega) (by decide) (by decide) (by decide) (by omega)) (fun t i ht hi => e _ i (by omega) (by omega) (by omega) (by omega) (by omega)) (fun a ha => s_ob_eo eo (s_lv_OB hK ha)) (fun i => i2 39 i (by decide) (by omega)) (fun i => i2 40 i (by decide) (by omega)) (fun i => i2 41 i (by decide) (by omega)) (fun i => i2 42 i (by decide) (by omega)) (fun i => i2 43 i (by decide) (by omega)) (fun i => i2 44 i (by decide) (by omega)) (fun i => i2 56 i (by decide) (by omega)) g2,
    s_R6_ag (fun t i ht hi => e _ i (by omega) (by omega) (by omega) (by omega) (by omega)) (fun i => i2 54 i (by decide) (by omega)) (fun i => i2 55 i (by decide) (by omega)) g6,
    s_R7_ag (fun l hl => e _ 1 (by omega) (by omega) (by omega) (by omega) (by omega)) (fun l i hl hi => e _ i (by omega) (by omega) (by omega) (by omega) (by omega)) (fun i => i2 57 i (by decide) (by omega)) (fun i => i2 58 i (by decide) (by omega)) g7,
    s_R8_ag (e 27 1 (by omega) (by decide) (by decide) (by decide) (by decide)) (fun i => e 28 i (by omega) (by decide) (by decide) (by decide) (by omega)) (e 4 6 (by omega) (by decide) (by decide) (by decide) (by decide)) (i2 38 21 (by decide) (by decide)) (fun i => i2 53 i (by decide) (by omega)) (i2 38 22 (by decide) (by decide)) g8,
    i1, fun _ => ⟨i4.trans e82.symm, i5.trans e83.symm, i6.trans e84.symm, fun j hj => ?_, fun r hr j hj => ?_⟩⟩
  · rw [i7 j hj, s_im_10 hj, b2 7 j (by omega) (by decide)]
    rfl
  · rw [e82] at hr
    have e9 : s_im M2 9 r = ((n + r : Nat) : Int) := (s_im_o (by decide) (by decide) (by omega)).trans ((b3 r (by omega)).trans (if_pos hr))
    have e1 : s_ob (s_im M2) ((n + r : Nat) : Int) = s_ob M2 ((n + r : Nat) : Int) := s_ob_ag (fun i => s_im_o (by omega) (by omega) (by omega))
    rw [i3 r (by show r < (X 5 2).toNat; omega) j hj, e9, e1, b4 r (by omega) hr, s_V_r (by omega)]
/-- what undo leaves of the class -/
def s_ud (M2 : ew_Mem) : ew_Mem := s_B2 5 7 8 10 M2
theorem s_ud_o {M2 : ew_Mem} {a j : Nat} (h5 : ¬ a = 5) (h7 : ¬ a = 7) : s_ud M2 a j = M2 a j := by
  unfold s_ud s_B2
  rw [s_ne_rd h5, s_ne_rd h5, s_ne_rd h5, s_fn_ne h7]
theorem s_ud_7 {M2 : ew_Mem} {j : Nat} (h : j < 6) : s_ud M2 7 j = M2 10 j := by
  unfold s_ud s_B2
  rw [s_ne_rd (by decide), s_ne_rd (by decide), s_ne_rd (by decide), s_fn_in (by omega), Nat.sub_zero]
theorem s_ud_lv {c n n2 : Nat} {X M2 : ew_Mem} (hK : s_K c n X) (q : X 4 2 = 1) (hB : s_B1 6 9 (X 8 2) n X 6 n2 M2) {a : Int} (hl : s_lv (s_ud M2) a) : (∃ r : Nat, (r : Int) < X 8 2 ∧ r < 6 ∧ a = ((n + r : Nat) : Int)) ∨ (s_lv X a ∧ ∃ t i : Nat, t < 4 ∧ i < 12 ∧ X (13 + 2 * t) i = a ∧ ¬ a = 0) := by
  obtain ⟨k0, k1, k2, k3, k4, k5, k6, k7, k8, k9, k10, k11⟩ := id hK
  obtain ⟨b1, b2, b3, b4⟩ := id hB
  have hz := (s_wS_kept hK q).1
  have e52 : s_ud M2 5 2 = X 8 2 := (show _ = M2 8 2 from rfl).trans (b2 8 2 (by omega) (by decide))
  rcases hl with ⟨r, h1, h2⟩ | ⟨t, i, ht, hi, h1, h2⟩
  · rw [e52] at h1
    rw [s_ud_o (by decide) (by decide), b3 r (by omega), if_pos h1] at h2
    exact Or.inl ⟨r, h1, by omega, h2.symm⟩
  · rw [s_ud_o (by omega) (by omega), b2 _ _ (by omega) (by omega)] at h1
    exact Or.inr ⟨Or.inr ⟨t, i, ht, hi, h1, h2⟩, t, i, ht, hi, h1, h2⟩
theorem s_K_undo {c n n2 : Nat} {X M2 : ew_Mem} (hK : s_K c n X) (q : X 4 2 = 1) (hB : s_B1 6 9 (X 8 2) n X 6 n2 M2) : s_K (c + 1) n2 (s_ud M2) := by
  obtain ⟨k0, k1, k2, k3, k4, k5, k6, k7, k8, k9, k10, k11⟩ := id hK
  obtain ⟨b1, b2, b3, b4⟩ := id hB
  have hz := (s_wS_kept hK q).1
  have k9' : X 4 2 = 1 ∧ s_S1 X 8 10 ∧ _ := k9.resolve_left (by omega)
  have e : ∀ a j : Nat, a < n → ¬ a = 5 → ¬ a = 6 → ¬ a = 7 → s_ud M2 a j = X a j := fun a j h1 h2 h3 h4 => (s_ud_o h2 h4).trans (b2 a j h1 h3)
  have eo : s_eo n X (s_ud M2) := fun a h1 h2 i => e a i h2 (by omega) (by omega) (by omega)
  have hp := s_B1_pm k0 rfl hB k2
  have e52 : s_ud M2 5 2 = X 8 2 := (show _ = M2 8 2 from rfl).trans (b2 8 2 (by omega) (by decide))
  have e53 : s_ud M2 5 3 = X 8 3 := (show _ = M2 8 3 from rfl).trans (b2 8 3 (by omega) (by decide))
  have e54 : s_ud M2 5 4 = X 8 4 := (show _ = M2 8 4 from rfl).trans (b2 8 4 (by omega) (by decide))
  have e7 : ∀ j : Nat, j < 6 → s_ud M2 7 j = X 10 j := fun j hj => (s_ud_7 hj).trans (b2 10 j (by omega) (by decide))
  have e6 : ∀ r : Nat, r < 6 → s_ud M2 6 r = if (r : Int) < X 8 2 then ((n + r : Nat) : Int) else 0 := fun r hr => (s_ud_o (by decide) (by decide)).trans (b3 r hr)
  refine ⟨by omega, by omega, ?_, ?_, ?_, ?_, ?_, ?_, ?_, ?_, ?_⟩
  · exact ew_Pm_wr (ew_Pm_wr (ew_Pm_wr (s_fn_pm hp rfl) rfl) rfl) rfl
  · unfold s_S1
    rw [e52, e53, e54, e7 0 (by decide), e7 1 (by decide), e7 2 (by decide), e7 3 (by decide), e7 4 (by decide), e7 5 (by decide)]
    exact k9'.2.1
  · intro r hr
    rw [e52, e6 r hr]
    by_cases hrc : (r : Int) < X 8 2
    · rw [if_pos hrc]
      refine Or.inl ⟨hrc, ew_own_w (by omega) (by omega), ?_⟩
      have e1 : s_ob (s_ud M2) ((n + r : Nat) : Int) = s_ob M2 ((n + r : Nat) : Int) := s_ob_ag (fun i => s_ud_o (by omega) (by omega))
      rw [e1, b4 r hr hrc]
      exact (s_kept hK q hrc).1.2
    · rw [if_neg hrc]
      exact Or.inr ⟨by omega, rfl⟩
  · intro r p hr hq he
    rw [e52] at hr hq
    rw [e6 r (by omega), e6 p (by omega), if_pos hr, if_pos hq] at he
    omega
  · exact s_K4_ag (fun t i ht hi => e _ i (by omega) (by omega) (by omega) (by omega)) (fun t i ht hi => e _ i (by omega) (by omega) (by omega) (by omega)) eo (by omega) k6
  · exact s_K5_ag (fun l hl => e _ 1 (by omega) (by omega) (by omega) (by omega)) (fun l i hl hi => e _ i (by omega) (by omega) (by omega) (by omega)) k7
  · exact s_K6_ag (e 27 1 (by omega) (by decide) (by decide) (by decide)) (fun i => e 28 i (by omega) (by decide) (by decide) (by decide)) k8
  · refine s_K7_ag (e 4 2 (by omega) (by decide) (by decide) (by decide)) (fun i => e 8 i (by omega) (by decide) (by decide) (by decide)) (fun i => e 9 i (by omega) (by decide) (by decide) (by decide)) (fun i => e 10 i (by omega) (by decide) (by decide) (by decide)) (fun a g _ => s_ob_eo eo g) (by omega) (fun a g hl => ?_) k9
    have hq := s_OB_w g
    rcases s_ud_lv hK q hB hl with ⟨r, h1, h2, h3⟩ | h1
    · omega
    · exact h1.1
  · rw [e 4 6 (by omega) (by decide) (by decide) (by decide)]
    exact ⟨k10, by omega⟩
theorem s_RM_undo {c n n2 : Nat} {X M2 M M3 : ew_Mem} {h : Int → Nat} {g : Nat → Nat} (hK : s_K c n X) (q : X 4 2 = 1) (hR : s_RM h X M) (hB : s_B1 6 9 (X 8 2) n X 6 n2 M2) (hU : s_U1 (fun r j => s_ob X (X 9 r) j) M (X 8 2).toNat g M3) : s_RM (fun a => if (n : Int) ≤ a then g (a - n).toNat else h a) (s_ud M2) (s_U2 M3) := by
  obtain ⟨k0, k1, k2, k3, k4, k5, k6, k7, k8, k9, k10, k11⟩ := id hK
  obtain ⟨b1, b2, b3, b4⟩ := id hB
  obtain ⟨g1, g2, g6, g7, g8, g9⟩ := id hR
  obtain ⟨u1, u2, u3, u4, u5, u6⟩ := id hU
  have hz := (s_wS_kept hK q).1
  have e : ∀ a j : Nat, a < n → ¬ a = 5 → ¬ a = 6 → ¬ a = 7 → s_ud M2 a j = X a j := fun a j h1 h2 h3 h4 => (s_ud_o h2 h4).trans (b2 a j h1 h3)
  have eo : s_eo n X (s_ud M2) := fun a h1 h2 i => e a i h2 (by omega) (by omega) (by omega)
  have e52 : s_ud M2 5 2 = X 8 2 := (show _ = M2 8 2 from rfl).trans (b2 8 2 (by omega) (by decide))
  have e53 : s_ud M2 5 3 = X 8 3 := (show _ = M2 8 3 from rfl).trans (b2 8 3 (by omega) (by decide))
  have e54 : s_ud M2 5 4 = X 8 4 := (show _ = M2 8 4 from rfl).trans (b2 8 4 (by omega) (by decide))
  have e7 : ∀ j : Nat, j < 6 → s_ud M2 7 j = X 10 j := fun j hj => (s_ud_7 hj).trans (b2 10 j (by omega) (by decide))
  have e6 : ∀ r : Nat, (r : Int) < X 8 2 → s_ud M2 6 r = ((n + r : Nat) : Int) := fun r hr => (s_ud_o (by decide) (by decide)).trans ((b3 r (by omega)).trans (if_pos hr))
  have m : ∀ a j : Nat, ¬ a = 45 → ¬ (a = 38 ∧ (j = 7 ∨ j = 8)) → s_U2 M3 a j = M3 a j := by
    intro a j h1 h2
    unfold s_U2
    rw [s_fn_ne h1]
    by_cases e0 : a = 38
    · subst e0
      rw [s_ne_ri (by omega), s_ne_ri (by omega)]
    · rw [s_ne_rd e0, s_ne_rd e0]
  have m0 : ∀ a j : Nat, ¬ a = 45 → ¬ (a = 38 ∧ (j = 7 ∨ j = 8)) → (a < 38 ∨ 44 < a ∨ (a = 38 ∧ ¬ j = 5)) → s_U2 M3 a j = M a j := fun a j h1 h2 h3 => (m a j h1 h2).trans (u6 a j h3)
  obtain ⟨f1, f2, f3, f4, f5⟩ := g9.2 q
  have hh : ∀ a : Int, ¬ (n : Int) ≤ a → (fun a : Int => if (n : Int) ≤ a then g (a - n).toNat else h a) a = h a := fun a ha => if_neg ha
  have hg : ∀ r : Nat, (fun a : Int => if (n : Int) ≤ a then g (a - n).toNat else h a) ((n + r : Nat) : Int) = g r := by
    intro r
    dsimp only
    rw [if_pos (by omega), show ((((n + r : Nat) : Int)) - (n : Int)).toNat = r by omega]
  have hnt : ∀ a, (∃ t i : Nat, t < 4 ∧ i < 12 ∧ X (13 + 2 * t) i = a ∧ ¬ a = 0) → ∀ r : Nat, r < (X 8 2).toNat → ¬ g r = h a := by
    rintro a ⟨t, i, ht, hi, h1, h2⟩ r hr he
    apply u4 r (12 * t + i) hr (by omega)
    rw [g2.2.1 t i ht hi, h1, if_neg h2, he]
  refine ⟨⟨?_, ?_, ?_, fun j hj => ?_⟩, ⟨fun r hr => ?_, fun t i ht hi => ?_, fun a ha => ?_, fun a b ha hb he => ?_⟩, s_R6_ag (fun t i ht hi => e _ i (by omega) (by omega) (by omega) (by omega)) (fun i => m0 54 i (by decide) (by omega) (by omega)) (fun i => m0 55 i (by decide) (by omega) (by omega)) g6,
    s_R7_ag (fun l hl => e _ 1 (by omega) (by omega) (by omega) (by omega)) (fun l i hl hi => e _ i (by omega) (by omega) (by omega) (by omega)) (fun i => m0 57 i (by decide) (by omega) (by omega)) (fun i => m0 58 i (by decide) (by omega) (by omega)) g7,
    s_R8_ag (e 27 1 (by omega) (by decide) (by decide) (by decide)) (fun i => e 28 i (by omega) (by decide) (by decide) (by decide)) (e 4 6 (by omega) (by decide) (by decide) (by decide)) (m0 38 21 (by decide) (by decide) (by omega)) (fun i => m0 53 i (by decide) (by omega) (by omega)) (m0 38 22 (by decide) (by decide) (by omega)) g8,
    s_R9_ag (e 4 2 (by omega) (by decide) (by decide) (by decide)) (fun i => e 8 i (by omega) (by decide) (by decide) (by decide)) (fun i => e 9 i (by omega) (by decide) (by decide) (by decide)) (fun i => e 10 i (by omega) (by decide) (by decide) (by decide)) (fun q r hr => s_ob_eo eo (s_kept hK q hr).1) (m0 38 11 (by decide) (by decide) (by omega)) (fun i => m0 46 i (by decide) (by omega) (by omega)) g9⟩
  · rw [m 38 5 (by decide) (by decide), u1, e52, s_toI hz.1]
  · rw [e53, ← f2, ← u6 46 31 (by omega)]
    rfl
  · rw [e54, ← f3, ← u6 46 32 (by omega)]
    rfl
  · rw [e7 j hj, ← f4 j hj, ← u6 46 (33 + j) (by omega)]
    unfold s_U2
    rw [s_fn_in (by omega), Nat.sub_zero]
  · rw [e52] at hr
    rw [e6 r hr, hg r, m 44 r (by decide) (by omega)]
    exact (u2 r (by omega)).2.1
  · rw [m0 56 _ (by decide) (by omega) (by omega), e _ i (by omega) (by omega) (by omega) (by omega), g2.2.1 t i ht hi]
    by_cases e0 : X (13 + 2 * t) i = 0
    · rw [if_pos e0, if_pos e0]
    · have := s_OB_w (s_lv_OB hK (Or.inr ⟨t, i, ht, hi, rfl, e0⟩))
      rw [if_neg e0, if_neg e0, hh _ (by omega)]
  · rw [m 39 _ (by decide) (by omega), m 40 _ (by decide) (by omega), m 41 _ (by decide) (by omega), m 42 _ (by decide) (by omega), m 43 _ (by decide) (by omega)]
    rcases s_ud_lv hK q hB ha with ⟨r, h1, h2, h3⟩ | ⟨h1, h2⟩
    · subst h3
      have e1 : s_ob (s_ud M2) ((n + r : Nat) : Int) = s_ob M2 ((n + r : Nat) : Int) := s_ob_ag (fun i => s_ud_o (by omega) (by omega))
      rw [hg r, e1, b4 r h2 h1]
      obtain ⟨v0, v1, v2⟩ := u2 r (by omega)
      exact ⟨v0, v2⟩
    · have hq := s_OB_w (s_lv_OB hK h1)
      have hne := hnt a h2
      obtain ⟨q0, q1, q2, q3, q4, q5⟩ := g2.2.2.1 a h1
      rw [hh a (by omega), s_ob_eo eo (s_lv_OB hK h1), u5 (h a) hne 39 (by decide) (by decide), u5 (h a) hne 40 (by decide) (by decide), u5 (h a) hne 41 (by decide) (by decide), u5 (h a) hne 42 (by decide) (by decide), u5 (h a) hne 43 (by decide) (by decide)]
      exact ⟨q0, q1, q2, q3, q4, q5⟩
  · rcases s_ud_lv hK q hB ha with ⟨r, h1, h2, h3⟩ | ⟨h1, h2⟩
    · rcases s_ud_lv hK q hB hb with ⟨p, p1, p2, p3⟩ | ⟨p1, p2⟩
      · rw [h3, p3, hg r, hg p] at he
        have := u3 r p (by omega) (by omega) he
        rw [h3, p3, this]
      · have hq := s_OB_w (s_lv_OB hK p1)
        rw [h3, hg r, hh b (by omega)] at he
        exact absurd he (hnt b p2 r (by omega))
    · have hq := s_OB_w (s_lv_OB hK h1)
      rcases s_ud_lv hK q hB hb with ⟨p, p1, p2, p3⟩ | ⟨p1, p2⟩
      · rw [p3, hg p, hh a (by omega)] at he
        exact absurd he.symm (hnt a h2 p (by omega))
      · have hq2 := s_OB_w (s_lv_OB hK p1)
        rw [hh a (by omega), hh b (by omega)] at he
        exact g2.2.2.2 a b h1 p1 he
