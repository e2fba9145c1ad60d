/-! a wheel is made: what memory that leaves -/
/-- the object w is made a wheel -/
def s_mw (M : ew_Mem) (w : Nat) (k p s t d : Int) : ew_Mem := ew_wr (ew_wr (ew_wr (ew_wr (ew_wr M w 0 k) w 1 p) w 3 s) w 4 t) w 2 d
/-- a new wheel at the end of the list -/
def s_ad (M : ew_Mem) (n : Nat) (k p s t d c : Int) : ew_Mem := ew_wr (ew_wr (s_mw (ew_clr M n) n k p s t d) 6 c.toNat (n : Int)) 5 2 (c + 1)
/-- the same in the reference, in row i -/
def s_cm (M : ew_Mem) (i : Nat) (k p s t d c : Int) : ew_Mem := ew_wr (ew_wr (ew_wr (ew_wr (ew_wr (ew_wr (ew_wr M 39 i k) 40 i p) 41 i s) 42 i t) 43 i d) 44 c.toNat (i : Int)) 38 5 (c + 1)
theorem s_mw_ne {M : ew_Mem} {w a i : Nat} {k p s t d : Int} (h : ¬ a = w) : s_mw M w k p s t d a i = M a i := by
  unfold s_mw
  rw [s_ne_rd h, s_ne_rd h, s_ne_rd h, s_ne_rd h, s_ne_rd h]
theorem c_made {n : Nat} {M : ew_Mem} {k s c : Int} (hk : 0 ≤ k ∧ k ≤ 4) (hs : ew_in s) (hc : ew_in c) : ew_FM 35 [(0, k), (0, s), (0, c)] n M (0, s_md k s (if c = 0 then 1 else 0)) n M := by
  obtain rfl | rfl | rfl | rfl | rfl : k = 0 ∨ k = 1 ∨ k = 2 ∨ k = 3 ∨ k = 4 := by omega
  · exact c_made_0 hs hc
  · exact c_made_1 hs hc
  · exact c_made_2 hs hc
  · exact c_made_3 hs hc
  · exact c_made_4 hs hc

theorem m_made {n : Nat} {M : ew_Mem} {k s c : Int} (hk : 0 ≤ k ∧ k ≤ 4) (hs : ew_in s) (hc : c = 0 ∨ c = 1) : ew_FM 152 [(0, k), (0, s), (0, c)] n M (0, s_md k s c) n M := by
  obtain rfl | rfl | rfl | rfl | rfl : k = 0 ∨ k = 1 ∨ k = 2 ∨ k = 3 ∨ k = 4 := by omega
  · exact m_made_0 hs hc
  · exact m_made_1 hs hc
  · exact m_made_2 hs hc
  · exact m_made_3 hs hc
  · exact m_made_4 hs hc

theorem s_md_bd {k s f : Int} : 1 ≤ s_md k s f ∧ s_md k s f < 2147483648 := by
  unfold s_md
  dsimp only
  repeat' split
  all_goals omega
set_option maxRecDepth 20000 in
theorem c_whInit {n : Nat} {M : ew_Mem} {w : Nat} (hw : 59 ≤ w ∧ w < n) {k p s t d : Int} : ew_VM 38 [(2, (w : Int)), (0, k), (0, p), (0, s), (0, t), (0, d)] n M n (s_mw M w k p s t d) := by
  have hc := ew_c_38
  show ew_X 38 0 [(2, (w : Int)), (0, k), (0, p), (0, s), (0, t), (0, d)] [] n M _
  refine xr_go hc rfl rfl ?_
  refine xr_go hc rfl (show (if (0 : Int) < (w : Int) ∧ ew_ws [] ≤ 8 then _ else _) = _ from if_pos ⟨by omega, by decide⟩) ?_
  refine xr_go hc rfl rfl ?_
  refine xr_go hc rfl rfl ?_
  refine xr_pf rfl hc rfl (ew_own_w (by omega) (by omega)) ?_
  refine xr_go hc rfl rfl ?_
  refine xr_go hc rfl rfl ?_
  refine xr_pf rfl hc rfl (ew_own_w (by omega) (by omega)) ?_
  refine xr_go hc rfl rfl ?_
  refine xr_go hc rfl rfl ?_
  refine xr_pf rfl hc rfl (ew_own_w (by omega) (by omega)) ?_
  refine xr_go hc rfl rfl ?_
  refine xr_go hc rfl rfl ?_
  refine xr_pf rfl hc rfl (ew_own_w (by omega) (by omega)) ?_
  refine xr_go hc rfl rfl ?_
  refine xr_go hc rfl rfl ?_
  refine xr_pf rfl hc rfl (ew_own_w (by omega) (by omega)) ?_
  refine xr_ret hc rfl rfl ?_
  exact ⟨rfl, rfl, rfl⟩

set_option maxRecDepth 20000 in
theorem c_addWheel {V : ew_Mem} {n : Nat} {M : ew_Mem} (hC : s_C V n M) {k p s t : Int} (hk : 0 ≤ k ∧ k ≤ 4) (hb : s_AB p s t) (h6 : V 6 0 < 6) : ew_FM 64 [(2, 5), (0, k), (0, p), (0, s), (0, t)] n M (0, V 6 0) (n + 1) (s_ad M n k p s t (s_md k t (if V 6 0 = 0 then 1 else 0)) (V 6 0)) := by
  obtain ⟨hn, hp, hV, v0, v1, v2, v3, v4⟩ := id hC
  obtain ⟨hc6, hVW, hnd, hap, hr0, hr1, hr2, hr3, hr4, hr5⟩ := id hV
  have hc := ew_c_64
  show ew_X 64 0 [(2, 5), (0, k), (0, p), (0, s), (0, t), (5, 0)] [] n M _
  refine xr_go hc rfl rfl ?_
  refine xr_gf0 (A := 5) rfl hc rfl (ew_own_p (by omega) rfl) (show _ = V 6 0 by first | exact v0 | (rw [s_ne_rd (by omega), s_mw_ne (by omega), s_clr_ne (by omega)]; exact v0)) ?_
  refine xr_go hc rfl rfl ?_
  refine xr_icmp_lt hc rfl (by omega) (by decide) (fun c1 => ?_) (fun c1 => ?_)
  · skip
    refine xr_go hc rfl rfl ?_
    refine xr_gf0 (A := 5) rfl hc rfl (ew_own_p (by omega) rfl) (show _ = V 6 0 by first | exact v0 | (rw [s_ne_rd (by omega), s_mw_ne (by omega), s_clr_ne (by omega)]; exact v0)) ?_
    refine xr_s1_5 hc rfl rfl rfl ?_
    refine xr_go hc rfl rfl ?_
    refine xr_gf2 (A := 5) (w := 6) rfl hc rfl (ew_own_p (by omega) rfl) (ew_pm hp rfl) ?_
    refine xr_go hc rfl rfl ?_
    refine xr_new hc rfl (ew_tag_w (by omega)) ?_
    refine xr_go hc rfl rfl ?_
    refine xr_go hc rfl rfl ?_
    refine xr_go hc rfl rfl ?_
    refine xr_go hc rfl rfl ?_
    refine xr_go hc rfl rfl ?_
    refine xr_go hc rfl rfl ?_
    refine xr_go hc rfl rfl ?_
    refine xr_go hc rfl rfl ?_
    refine xr_s_3 hc rfl rfl (c_made (by omega) (by omega) (by omega)) ?_
    refine xr_iv_6 (v := (0, 0)) hc rfl rfl (ew_own_w (by omega) (by omega)) (c_whInit (by omega)) ?_
    refine xr_aast (A := 6) (N := 6) rfl rfl hc rfl (ew_own_p (by omega) rfl) (Or.inr (ew_own_w (by omega) (by omega))) (by omega) (by omega) ?_
    change ew_X _ _ _ _ (n + 1) (ew_wr (s_mw (ew_clr M n) n k p s t (s_md k t (if V 6 0 = 0 then 1 else 0))) 6 (V 6 0).toNat (n : Int)) _
    refine xr_go hc rfl rfl ?_
    refine xr_go hc rfl rfl ?_
    refine xr_gf0 (A := 5) rfl hc rfl (ew_own_p (by omega) rfl) (show _ = V 6 0 by first | exact v0 | (rw [s_ne_rd (by omega), s_mw_ne (by omega), s_clr_ne (by omega)]; exact v0)) ?_
    refine xr_go hc rfl rfl ?_
    refine xr_go hc rfl rfl ?_
    refine xr_pf (A := 5) rfl hc rfl (ew_own_p (by omega) rfl) ?_
    refine xr_go hc rfl rfl ?_
    refine xr_ret hc rfl rfl ?_
    exact ⟨rfl, rfl, rfl⟩
  · exfalso; omega

set_option maxRecDepth 20000 in
theorem c_addWheelN {V : ew_Mem} {n : Nat} {M : ew_Mem} (hC : s_C V n M) {k p s t : Int} (h6 : V 6 0 = 6) : ew_FM 64 [(2, 5), (0, k), (0, p), (0, s), (0, t)] n M (0, -4) n M := by
  obtain ⟨hn, hp, hV, v0, v1, v2, v3, v4⟩ := id hC
  obtain ⟨hc6, hVW, hnd, hap, hr0, hr1, hr2, hr3, hr4, hr5⟩ := id hV
  have hc := ew_c_64
  show ew_X 64 0 [(2, 5), (0, k), (0, p), (0, s), (0, t), (5, 0)] [] n M _
  refine xr_go hc rfl rfl ?_
  refine xr_gf0 (A := 5) rfl hc rfl (ew_own_p hn rfl) v0 ?_
  refine xr_go hc rfl rfl ?_
  refine xr_icmp_lt hc rfl (by omega) (by decide) (fun c1 => ?_) (fun c1 => ?_)
  · exfalso; omega
  · skip
    refine xr_go hc rfl rfl ?_
    refine xr_ret hc rfl rfl ?_
    first
      | exact ⟨rfl, rfl, rfl⟩
      | (exfalso; omega)

abbrev s_okW (V : ew_Mem) (k p s t : Int) : Prop := ((0 ≤ k ∧ k ≤ 4) ∧ s_AB p s t) ∧ V 6 0 < 6
def s_n_wheel (k p s t : Int) : Int := if (0 ≤ k ∧ k ≤ 4) ∧ s_AB p s t then -4 else -2
set_option maxRecDepth 20000 in
theorem cx_wheel {V : ew_Mem} {n : Nat} {M : ew_Mem} (hC : s_C V n M) {k p s t : Int} (hk : ew_in k) (hp_ : ew_in p) (hs : ew_in s) (ht : ew_in t) (h : s_okW V k p s t) : ew_FM 89 [(2, 4), (0, k), (0, p), (0, s), (0, t)] n M (0, V 6 0) (n + 1) (s_ad M n k p s t (s_md k t (if V 6 0 = 0 then 1 else 0)) (V 6 0)) := by
  obtain ⟨hn, hp, hV, v0, v1, v2, v3, v4⟩ := id hC
  obtain ⟨hc6, hVW, hnd, hap, hr0, hr1, hr2, hr3, hr4, hr5⟩ := id hV
  have hc := ew_c_89
  show ew_X 89 0 [(2, 4), (0, k), (0, p), (0, s), (0, t)] [] n M _
  refine xr_go hc rfl rfl ?_
  refine xr_go hc rfl rfl ?_
  refine xr_go hc rfl rfl ?_
  refine xr_go hc rfl rfl ?_
  refine xr_s_4 hc rfl rfl (c_canBe (by omega) (by omega) (by omega) (by omega)) ?_
  refine xr_if_eq hc rfl (by split <;> omega) (fun c1 => ?_) (fun c1 => ?_)
  · skip
    refine xr_go hc rfl rfl ?_
    refine xr_ret hc rfl rfl ?_
    first
      | exact ⟨rfl, rfl, rfl⟩
      | (exfalso; omega)
  · skip
    refine xr_go hc rfl rfl ?_
    refine xr_gf2 (A := 4) (w := 5) rfl hc rfl (ew_own_p hn rfl) (ew_pm hp rfl) ?_
    refine xr_go hc rfl rfl ?_
    refine xr_go hc rfl rfl ?_
    refine xr_go hc rfl rfl ?_
    refine xr_go hc rfl rfl ?_
    refine xr_v_5 hc rfl rfl (ew_own_p hn rfl) (c_addWheel hC (by omega) (by omega) (by omega)) ?_
    refine xr_go hc rfl rfl ?_
    refine xr_ret hc rfl rfl ?_
    first
      | exact ⟨rfl, rfl, rfl⟩
      | (exfalso; omega)

set_option maxRecDepth 20000 in
theorem cx_wheelN {V : ew_Mem} {n : Nat} {M : ew_Mem} (hC : s_C V n M) {k p s t : Int} (hk : ew_in k) (hp_ : ew_in p) (hs : ew_in s) (ht : ew_in t) (h : ¬ s_okW V k p s t) : ew_FM 89 [(2, 4), (0, k), (0, p), (0, s), (0, t)] n M (0, s_n_wheel k p s t) n M := by
  obtain ⟨hn, hp, hV, v0, v1, v2, v3, v4⟩ := id hC
  obtain ⟨hc6, hVW, hnd, hap, hr0, hr1, hr2, hr3, hr4, hr5⟩ := id hV
  have hc := ew_c_89
  show ew_X 89 0 [(2, 4), (0, k), (0, p), (0, s), (0, t)] [] n M _
  refine xr_go hc rfl rfl ?_
  refine xr_go hc rfl rfl ?_
  refine xr_go hc rfl rfl ?_
  refine xr_go hc rfl rfl ?_
  refine xr_s_4 hc rfl rfl (c_canBe (by omega) (by omega) (by omega) (by omega)) ?_
  refine xr_if_eq hc rfl (by split <;> omega) (fun c1 => ?_) (fun c1 => ?_)
  · skip
    refine xr_go hc rfl rfl ?_
    refine xr_ret hc rfl rfl ?_
    first
      | (exfalso; omega)
      | (refine ⟨?_, rfl, rfl⟩
         unfold s_n_wheel
         repeat' split
         all_goals first
           | rfl
           | (exfalso; omega)
           | (congr 2; omega))
  · skip
    refine xr_go hc rfl rfl ?_
    refine xr_gf2 (A := 4) (w := 5) rfl hc rfl (ew_own_p hn rfl) (ew_pm hp rfl) ?_
    refine xr_go hc rfl rfl ?_
    refine xr_go hc rfl rfl ?_
    refine xr_go hc rfl rfl ?_
    refine xr_go hc rfl rfl ?_
    refine xr_v_5 hc rfl rfl (ew_own_p hn rfl) (c_addWheelN hC (by omega)) ?_
    refine xr_go hc rfl rfl ?_
    refine xr_ret hc rfl rfl ?_
    first
      | (exfalso; omega)
      | (refine ⟨?_, rfl, rfl⟩
         unfold s_n_wheel
         repeat' split
         all_goals first
           | rfl
           | (exfalso; omega)
           | (congr 2; omega))

set_option maxRecDepth 20000 in
theorem m_free_w {n : Nat} {M : ew_Mem} (hn : 59 ≤ n) (hp : ew_Pm M) {z : Int} (u0 : M 38 5 = z) (hz : 0 ≤ z ∧ z ≤ 6) (u4 : ∀ r : Nat, (r : Int) < z → 0 ≤ M 44 r ∧ M 44 r < 64) {c : Nat} (hcnt : (c : Int) = z) {k : Nat} (hk : k < 64) {Q : Option ew_AV → Nat → ew_Mem → Prop} {b0 : Int} : ∀ (j w : Nat) (b : Int), w + j = c → (b = 0 ∨ b = 1) → (b = 1 ↔ b0 = 1 ∧ ∀ r : Nat, r < w → ¬ M 44 r = (k : Int)) →
    (∀ (b : Int), (b = 0 ∨ b = 1) → (b = 1 ↔ b0 = 1 ∧ ∀ r : Nat, r < c → ¬ M 44 r = (k : Int)) → ew_X 154 46 [(2, 38), (0, (k : Int)), (0, b), (0, (c : Int))] [] n M Q) →
    ew_X 154 12 [(2, 38), (0, (k : Int)), (0, b), (0, (w : Int))] [] n M Q := by
  have hc := ew_c_154
  intro j
  induction j with
  | zero =>
    intro w b hj hb hi hk2
    obtain rfl : w = c := by omega
    refine xr_go hc rfl rfl ?_
    refine xr_go hc rfl rfl ?_
    refine xr_gf0 (A := 38) rfl hc rfl (ew_own_p hn rfl) u0 ?_
    refine xr_icmp_ge hc rfl (by omega) (by omega) (fun c1 => ?_) (fun c1 => ?_)
    · skip
      exact hk2 b hb hi
    · exfalso; omega
  | succ j ih =>
    intro w b hj hb hi hk2
    have hMw : ew_in (M 44 (w : Int).toNat) := by
      rw [Int.toNat_natCast]
      have := u4 w (by omega)
      exact ⟨by omega, by omega⟩
    have hstep : ∀ b2 : Int, (b2 = 0 ∨ b2 = 1) → (b2 = 1 ↔ b = 1 ∧ ¬ M 44 w = (k : Int)) → ew_X 154 12 [(2, 38), (0, (k : Int)), (0, b2), (0, ((w + 1 : Nat) : Int))] [] n M Q := by
      intro b2 h1 h2
      refine ih (w + 1) b2 (by omega) h1 ?_ hk2
      rw [h2, hi]
      constructor
      · rintro ⟨⟨g1, g2⟩, g3⟩
        refine ⟨g1, fun r hr => ?_⟩
        rcases Nat.lt_succ_iff_lt_or_eq.mp hr with h | h
        · exact g2 r h
        · rw [h]; exact g3
      · rintro ⟨g1, g2⟩
        exact ⟨⟨g1, fun r hr => g2 r (by omega)⟩, g2 w (by omega)⟩
    refine xr_go hc rfl rfl ?_
    refine xr_go hc rfl rfl ?_
    refine xr_gf0 (A := 38) rfl hc rfl (ew_own_p hn rfl) u0 ?_
    refine xr_icmp_ge hc rfl (by omega) (by omega) (fun c1 => ?_) (fun c1 => ?_)
    · exfalso; omega
    · skip
      refine xr_go hc rfl rfl ?_
      refine xr_if_eq hc rfl (by omega) (fun c2 => ?_) (fun c2 => ?_)
      · skip
        refine xr_go hc rfl rfl ?_
        refine xr_s1_2 hc rfl rfl rfl ?_
        refine xr_inc_3 hc rfl ?_
        refine xr_go hc rfl rfl ?_
        rw [s_n1]
        refine hstep _ (by first | exact Or.inl rfl | exact Or.inr rfl) ?_
        rw [Int.toNat_natCast] at *
        first
          | exact ⟨fun _ => ⟨by omega, by assumption⟩, fun _ => rfl⟩
          | exact ⟨fun q => absurd q (by decide), fun q => absurd q.1 (by omega)⟩
          | exact ⟨fun q => absurd q (by decide), fun q => absurd (by assumption) q.2⟩
      · skip
        refine xr_go hc rfl rfl ?_
        refine xr_gf2 (A := 38) rfl hc rfl (ew_own_p hn rfl) (show _ = (44 : Int) by first | exact ew_pm (v := 44) hp rfl | ((repeat first | rw [s_ne_rd (by omega)] | rw [s_clr_ne (by omega)]); exact ew_pm (v := 44) hp rfl)) ?_
        refine xr_go hc rfl rfl ?_
        refine xr_iald (A := 44) (N := 6) rfl rfl hc rfl (ew_ok_p hn rfl) (by omega) (by omega) rfl ?_
        refine xr_go hc rfl rfl ?_
        refine xr_icmp_eq hc rfl hMw (by omega) (fun c3 => ?_) (fun c3 => ?_)
        · skip
          refine xr_go hc rfl rfl ?_
          refine xr_s1_2 hc rfl rfl rfl ?_
          refine xr_inc_3 hc rfl ?_
          refine xr_go hc rfl rfl ?_
          rw [s_n1]
          refine hstep _ (by first | exact Or.inl rfl | exact Or.inr rfl) ?_
          rw [Int.toNat_natCast] at *
          first
            | exact ⟨fun _ => ⟨by omega, by assumption⟩, fun _ => rfl⟩
            | exact ⟨fun q => absurd q (by decide), fun q => absurd q.1 (by omega)⟩
            | exact ⟨fun q => absurd q (by decide), fun q => absurd (by assumption) q.2⟩
        · skip
          refine xr_go hc rfl rfl ?_
          refine xr_go hc rfl rfl ?_
          refine xr_s1_2 hc rfl rfl rfl ?_
          refine xr_inc_3 hc rfl ?_
          refine xr_go hc rfl rfl ?_
          rw [s_n1]
          refine hstep _ (by first | exact Or.inl rfl | exact Or.inr rfl) ?_
          rw [Int.toNat_natCast] at *
          first
            | exact ⟨fun _ => ⟨by omega, by assumption⟩, fun _ => rfl⟩
            | exact ⟨fun q => absurd q (by decide), fun q => absurd q.1 (by omega)⟩
            | exact ⟨fun q => absurd q (by decide), fun q => absurd (by assumption) q.2⟩

set_option maxRecDepth 20000 in
theorem m_free_c {n : Nat} {M : ew_Mem} (hn : 59 ≤ n) (hp : ew_Pm M) {z : Int} (u0 : M 38 5 = z) (hz : 0 ≤ z ∧ z ≤ 6) (u4 : ∀ r : Nat, (r : Int) < z → 0 ≤ M 44 r ∧ M 44 r < 64) (hr : ∀ r : Nat, r < 48 → ew_in (M 56 r)) {k : Nat} (hk : k < 64) {Q : Option ew_AV → Nat → ew_Mem → Prop} {b0 : Int} : ∀ (j w : Nat) (b : Int), w + j = 48 → (b = 0 ∨ b = 1) → (b = 1 ↔ b0 = 1 ∧ ∀ r : Nat, r < w → ¬ M 56 r = (k : Int)) →
    (∀ (b : Int), (b = 0 ∨ b = 1) → (b = 1 ↔ b0 = 1 ∧ ∀ r : Nat, r < 48 → ¬ M 56 r = (k : Int)) → ew_X 154 80 [(2, 38), (0, (k : Int)), (0, b), (0, (48 : Int))] [] n M Q) →
    ew_X 154 48 [(2, 38), (0, (k : Int)), (0, b), (0, (w : Int))] [] n M Q := by
  have hc := ew_c_154
  intro j
  induction j with
  | zero =>
    intro w b hj hb hi hk2
    obtain rfl : w = 48 := by omega
    refine xr_go hc rfl rfl ?_
    refine xr_go hc rfl rfl ?_
    refine xr_icmp_ge hc rfl (by omega) (by decide) (fun c1 => ?_) (fun c1 => ?_)
    · skip
      exact hk2 b hb hi
    · exfalso; omega
  | succ j ih =>
    intro w b hj hb hi hk2
    have hMw : ew_in (M 56 (w : Int).toNat) := by
      rw [Int.toNat_natCast]
      exact hr w (by omega)
    have hstep : ∀ b2 : Int, (b2 = 0 ∨ b2 = 1) → (b2 = 1 ↔ b = 1 ∧ ¬ M 56 w = (k : Int)) → ew_X 154 48 [(2, 38), (0, (k : Int)), (0, b2), (0, ((w + 1 : Nat) : Int))] [] n M Q := by
      intro b2 h1 h2
      refine ih (w + 1) b2 (by omega) h1 ?_ hk2
      rw [h2, hi]
      constructor
      · rintro ⟨⟨g1, g2⟩, g3⟩
        refine ⟨g1, fun r hr => ?_⟩
        rcases Nat.lt_succ_iff_lt_or_eq.mp hr with h | h
        · exact g2 r h
        · rw [h]; exact g3
      · rintro ⟨g1, g2⟩
        exact ⟨⟨g1, fun r hr => g2 r (by omega)⟩, g2 w (by omega)⟩
    refine xr_go hc rfl rfl ?_
    refine xr_go hc rfl rfl ?_
    refine xr_icmp_ge hc rfl (by omega) (by decide) (fun c1 => ?_) (fun c1 => ?_)
    · exfalso; omega
    · skip
      refine xr_go hc rfl rfl ?_
      refine xr_if_eq hc rfl (by omega) (fun c2 => ?_) (fun c2 => ?_)
      · skip
        refine xr_go hc rfl rfl ?_
        refine xr_s1_2 hc rfl rfl rfl ?_
        refine xr_inc_3 hc rfl ?_
        refine xr_go hc rfl rfl ?_
        rw [s_n1]
        refine hstep _ (by first | exact Or.inl rfl | exact Or.inr rfl) ?_
        rw [Int.toNat_natCast] at *
        first
          | exact ⟨fun _ => ⟨by omega, by assumption⟩, fun _ => rfl⟩
          | exact ⟨fun q => absurd q (by decide), fun q => absurd q.1 (by omega)⟩
          | exact ⟨fun q => absurd q (by decide), fun q => absurd (by assumption) q.2⟩
      · skip
        refine xr_go hc rfl rfl ?_
        refine xr_gf2 (A := 38) rfl hc rfl (ew_own_p hn rfl) (show _ = (56 : Int) by first | exact ew_pm (v := 56) hp rfl | ((repeat first | rw [s_ne_rd (by omega)] | rw [s_clr_ne (by omega)]); exact ew_pm (v := 56) hp rfl)) ?_
        refine xr_go hc rfl rfl ?_
        refine xr_iald (A := 56) (N := 48) rfl rfl hc rfl (ew_ok_p hn rfl) (by omega) (by omega) rfl ?_
        refine xr_go hc rfl rfl ?_
        refine xr_icmp_eq hc rfl hMw (by omega) (fun c3 => ?_) (fun c3 => ?_)
        · skip
          refine xr_go hc rfl rfl ?_
          refine xr_s1_2 hc rfl rfl rfl ?_
          refine xr_inc_3 hc rfl ?_
          refine xr_go hc rfl rfl ?_
          rw [s_n1]
          refine hstep _ (by first | exact Or.inl rfl | exact Or.inr rfl) ?_
          rw [Int.toNat_natCast] at *
          first
            | exact ⟨fun _ => ⟨by omega, by assumption⟩, fun _ => rfl⟩
            | exact ⟨fun q => absurd q (by decide), fun q => absurd q.1 (by omega)⟩
            | exact ⟨fun q => absurd q (by decide), fun q => absurd (by assumption) q.2⟩
        · skip
          refine xr_go hc rfl rfl ?_
          refine xr_go hc rfl rfl ?_
          refine xr_s1_2 hc rfl rfl rfl ?_
          refine xr_inc_3 hc rfl ?_
          refine xr_go hc rfl rfl ?_
          rw [s_n1]
          refine hstep _ (by first | exact Or.inl rfl | exact Or.inr rfl) ?_
          rw [Int.toNat_natCast] at *
          first
            | exact ⟨fun _ => ⟨by omega, by assumption⟩, fun _ => rfl⟩
            | exact ⟨fun q => absurd q (by decide), fun q => absurd q.1 (by omega)⟩
            | exact ⟨fun q => absurd q (by decide), fun q => absurd (by assumption) q.2⟩

set_option maxRecDepth 20000 in
theorem m_free_1 {n : Nat} {M : ew_Mem} (hn : 59 ≤ n) (hp : ew_Pm M) {z : Int} (u0 : M 38 5 = z) (hz : 0 ≤ z ∧ z ≤ 6) (u4 : ∀ r : Nat, (r : Int) < z → 0 ≤ M 44 r ∧ M 44 r < 64) {c : Nat} (hcnt : (c : Int) = z) (hr : ∀ r : Nat, r < 48 → ew_in (M 56 r)) (hex : ∃ k : Nat, k < 64 ∧ (∀ r : Nat, r < c → ¬ M 44 r = (k : Int)) ∧ ∀ r : Nat, r < 48 → ¬ M 56 r = (k : Int)) :
    ∃ i : Nat, i < 64 ∧ (∀ r : Nat, r < c → ¬ M 44 r = (i : Int)) ∧ (∀ r : Nat, r < 48 → ¬ M 56 r = (i : Int)) ∧ ∀ (j k : Nat) (q2 q3 : ew_AV), k + j = 64 → k ≤ i → ew_X 154 2 [(2, 38), (0, (k : Int)), q2, q3] [] n M (fun r a b => r = some (0, (i : Int)) ∧ a = n ∧ b = M) := by
  have hc := ew_c_154
  obtain ⟨i, ⟨hi, h1, h2⟩, hmin⟩ : ∃ i : Nat, (i < 64 ∧ (∀ r : Nat, r < c → ¬ M 44 r = (i : Int)) ∧ ∀ r : Nat, r < 48 → ¬ M 56 r = (i : Int)) ∧ ∀ k : Nat, k < i → ¬ (k < 64 ∧ (∀ r : Nat, r < c → ¬ M 44 r = (k : Int)) ∧ ∀ r : Nat, r < 48 → ¬ M 56 r = (k : Int)) := by
    obtain ⟨k, hk⟩ := hex
    induction k using Nat.strongRecOn with
    | ind k ih =>
      by_cases hq : ∃ k2 : Nat, k2 < k ∧ (k2 < 64 ∧ (∀ r : Nat, r < c → ¬ M 44 r = (k2 : Int)) ∧ ∀ r : Nat, r < 48 → ¬ M 56 r = (k2 : Int))
      · obtain ⟨k2, g1, g2⟩ := hq
        exact ih k2 g1 g2
      · exact ⟨k, hk, fun k2 g1 g2 => hq ⟨k2, g1, g2⟩⟩
  refine ⟨i, hi, h1, h2, ?_⟩
  intro j
  induction j with
  | zero =>
    intro k q2 q3 hj hk
    omega
  | succ j ih =>
    intro k q2 q3 hj hk
    refine xr_go hc rfl rfl ?_
    refine xr_go hc rfl rfl ?_
    refine xr_icmp_ge hc rfl (by omega) (by decide) (fun c1 => ?_) (fun c1 => ?_)
    · exfalso; omega
    · skip
      refine xr_go hc rfl rfl ?_
      refine xr_s1_2 hc rfl rfl rfl ?_
      refine xr_go hc rfl rfl ?_
      refine xr_s1_3 hc rfl rfl rfl ?_
      have hA : ∀ (b : Int), (b = 0 ∨ b = 1) → (b = 1 ↔ (1 : Int) = 1 ∧ ∀ r : Nat, r < c → ¬ M 44 r = (k : Int)) → ew_X 154 46 [(2, 38), (0, (k : Int)), (0, b), (0, (c : Int))] [] n M (fun r a b => r = some (0, (i : Int)) ∧ a = n ∧ b = M) := by
        intro b hb hbi
        refine xr_go hc rfl rfl ?_
        refine xr_s1_3 hc rfl rfl rfl ?_
        have hB : ∀ (b2 : Int), (b2 = 0 ∨ b2 = 1) → (b2 = 1 ↔ b = 1 ∧ ∀ r : Nat, r < 48 → ¬ M 56 r = (k : Int)) → ew_X 154 80 [(2, 38), (0, (k : Int)), (0, b2), (0, (48 : Int))] [] n M (fun r a b => r = some (0, (i : Int)) ∧ a = n ∧ b = M) := by
          intro b2 hb2 hbi2
          refine xr_go hc rfl rfl ?_
          refine xr_if_eq hc rfl (by omega) (fun c1 => ?_) (fun c1 => ?_)
          · skip
            refine xr_inc_1 hc rfl ?_
            refine xr_go hc rfl rfl ?_
            rw [s_n1]
            refine ih (k + 1) _ _ (by omega) ?_
            rcases Nat.lt_or_eq_of_le hk with h | h
            · exact h
            · exfalso
              subst h
              have g := hbi2.mpr ⟨hbi.mpr ⟨rfl, h1⟩, h2⟩
              omega
          · skip
            refine xr_go hc rfl rfl ?_
            refine xr_ret hc rfl rfl ?_
            have hki : k = i := by
              have g := hbi2.mp (by omega)
              have g2 := hbi.mp g.1
              rcases Nat.lt_or_eq_of_le hk with h | h
              · exact absurd ⟨by omega, g2.2, g.2⟩ (hmin k h)
              · exact h
            subst hki
            exact ⟨rfl, rfl, rfl⟩
        refine m_free_c hn hp u0 hz u4 hr (k := k) (b0 := b) (by omega) 48 0 b (by omega) hb ⟨fun q => ⟨q, fun r hr => by omega⟩, fun q => q.1⟩ (fun b2 hb2 hbi2 => ?_)
        exact hB b2 hb2 hbi2
      refine m_free_w hn hp u0 hz u4 hcnt (k := k) (b0 := 1) (by omega) c 0 1 (by omega) (Or.inr rfl) ⟨fun _ => ⟨rfl, fun r hr => by omega⟩, fun _ => rfl⟩ (fun b hb hbi => ?_)
      exact hA b hb hbi
theorem m_free {n : Nat} {M : ew_Mem} (hn : 59 ≤ n) (hp : ew_Pm M) {z : Int} (u0 : M 38 5 = z) (hz : 0 ≤ z ∧ z ≤ 6) (u4 : ∀ r : Nat, (r : Int) < z → 0 ≤ M 44 r ∧ M 44 r < 64) {c : Nat} (hcnt : (c : Int) = z) (hr : ∀ r : Nat, r < 48 → ew_in (M 56 r)) (hex : ∃ k : Nat, k < 64 ∧ (∀ r : Nat, r < c → ¬ M 44 r = (k : Int)) ∧ ∀ r : Nat, r < 48 → ¬ M 56 r = (k : Int)) :
    ∃ i : Nat, i < 64 ∧ (∀ r : Nat, r < c → ¬ M 44 r = (i : Int)) ∧ (∀ r : Nat, r < 48 → ¬ M 56 r = (i : Int)) ∧ ew_FM 154 [(2, 38)] n M (0, (i : Int)) n M := by
  obtain ⟨i, h0, h1, h2, h3⟩ := m_free_1 hn hp u0 hz u4 hcnt hr hex
  have hc := ew_c_154
  refine ⟨i, h0, h1, h2, ?_⟩
  show ew_X 154 0 [(2, 38), (5, 0), (5, 0), (5, 0)] [] n M _
  refine xr_go hc rfl rfl ?_
  refine xr_s1_1 hc rfl rfl rfl ?_
  exact h3 64 0 _ _ rfl (Nat.zero_le _)

set_option maxRecDepth 20000 in
theorem m_comes {n : Nat} {M : ew_Mem} (hn : 59 ≤ n) (hp : ew_Pm M) {z : Int} (u0 : M 38 5 = z) (hz : 0 ≤ z ∧ z ≤ 6) (u4 : ∀ r : Nat, (r : Int) < z → 0 ≤ M 44 r ∧ M 44 r < 64) {i : Nat} (hi : i < 64) (hf : ew_FM 154 [(2, 38)] n M (0, (i : Int)) n M) (h6 : z < 6) {k p s t d : Int} : ew_VM 153 [(2, 38), (0, k), (0, p), (0, s), (0, t), (0, d)] n M n (s_cm M i k p s t d z) := by
  have hc := ew_c_153
  show ew_X 153 0 [(2, 38), (0, k), (0, p), (0, s), (0, t), (0, d), (5, 0)] [] n M _
  refine xr_go hc rfl rfl ?_
  refine xr_v_1 hc rfl rfl (ew_own_p hn rfl) hf ?_
  refine xr_s1_6 hc rfl rfl rfl ?_
  refine xr_go hc rfl rfl ?_
  refine xr_gf2 (A := 38) rfl hc rfl (ew_own_p hn rfl) (show _ = (39 : Int) by first | exact ew_pm (v := 39) hp rfl | ((repeat first | rw [s_ne_rd (by omega)] | rw [s_clr_ne (by omega)]); exact ew_pm (v := 39) hp rfl)) ?_
  refine xr_go hc rfl rfl ?_
  refine xr_go hc rfl rfl ?_
  refine xr_iast (A := 39) (N := 64) rfl rfl hc rfl (ew_own_p hn rfl) (by omega) (by omega) ?_
  refine xr_go hc rfl rfl ?_
  refine xr_gf2 (A := 38) rfl hc rfl (ew_own_p hn rfl) (show _ = (40 : Int) by first | exact ew_pm (v := 40) hp rfl | ((repeat first | rw [s_ne_rd (by omega)] | rw [s_clr_ne (by omega)]); exact ew_pm (v := 40) hp rfl)) ?_
  refine xr_go hc rfl rfl ?_
  refine xr_go hc rfl rfl ?_
  refine xr_iast (A := 40) (N := 64) rfl rfl hc rfl (ew_own_p hn rfl) (by omega) (by omega) ?_
  refine xr_go hc rfl rfl ?_
  refine xr_gf2 (A := 38) rfl hc rfl (ew_own_p hn rfl) (show _ = (41 : Int) by first | exact ew_pm (v := 41) hp rfl | ((repeat first | rw [s_ne_rd (by omega)] | rw [s_clr_ne (by omega)]); exact ew_pm (v := 41) hp rfl)) ?_
  refine xr_go hc rfl rfl ?_
  refine xr_go hc rfl rfl ?_
  refine xr_iast (A := 41) (N := 64) rfl rfl hc rfl (ew_own_p hn rfl) (by omega) (by omega) ?_
  refine xr_go hc rfl rfl ?_
  refine xr_gf2 (A := 38) rfl hc rfl (ew_own_p hn rfl) (show _ = (42 : Int) by first | exact ew_pm (v := 42) hp rfl | ((repeat first | rw [s_ne_rd (by omega)] | rw [s_clr_ne (by omega)]); exact ew_pm (v := 42) hp rfl)) ?_
  refine xr_go hc rfl rfl ?_
  refine xr_go hc rfl rfl ?_
  refine xr_iast (A := 42) (N := 64) rfl rfl hc rfl (ew_own_p hn rfl) (by omega) (by omega) ?_
  refine xr_go hc rfl rfl ?_
  refine xr_gf2 (A := 38) rfl hc rfl (ew_own_p hn rfl) (show _ = (43 : Int) by first | exact ew_pm (v := 43) hp rfl | ((repeat first | rw [s_ne_rd (by omega)] | rw [s_clr_ne (by omega)]); exact ew_pm (v := 43) hp rfl)) ?_
  refine xr_go hc rfl rfl ?_
  refine xr_go hc rfl rfl ?_
  refine xr_iast (A := 43) (N := 64) rfl rfl hc rfl (ew_own_p hn rfl) (by omega) (by omega) ?_
  refine xr_go hc rfl rfl ?_
  refine xr_gf2 (A := 38) rfl hc rfl (ew_own_p hn rfl) (show _ = (44 : Int) by first | exact ew_pm (v := 44) hp rfl | ((repeat first | rw [s_ne_rd (by omega)] | rw [s_clr_ne (by omega)]); exact ew_pm (v := 44) hp rfl)) ?_
  refine xr_go hc rfl rfl ?_
  refine xr_gf0 (A := 38) rfl hc rfl (ew_own_p hn rfl) (show _ = (_ : Int) by first | exact u0 | ((repeat first | rw [s_ne_rd (by omega)] | rw [s_clr_ne (by omega)]); exact u0)) ?_
  refine xr_go hc rfl rfl ?_
  refine xr_iast (A := 44) (N := 6) rfl rfl hc rfl (ew_own_p hn rfl) (by omega) (by omega) ?_
  refine xr_go hc rfl rfl ?_
  refine xr_go hc rfl rfl ?_
  refine xr_gf0 (A := 38) rfl hc rfl (ew_own_p hn rfl) (show _ = (_ : Int) by first | exact u0 | ((repeat first | rw [s_ne_rd (by omega)] | rw [s_clr_ne (by omega)]); exact u0)) ?_
  refine xr_go hc rfl rfl ?_
  refine xr_go hc rfl rfl ?_
  refine xr_pf (A := 38) rfl hc rfl (ew_own_p hn rfl) ?_
  refine xr_ret hc rfl rfl ?_
  exact ⟨rfl, rfl, rfl⟩

set_option maxRecDepth 20000 in
theorem mx_wheel {V : ew_Mem} {n : Nat} {M : ew_Mem} (hM : s_M V n M) {k p s t : Int} (hk : ew_in k) (hp_ : ew_in p) (hs : ew_in s) (ht : ew_in t) {i : Nat} (hi : i < 64) (hf : ew_FM 154 [(2, 38)] n M (0, (i : Int)) n M) (h : s_okW V k p s t) : ew_FM 149 [(2, 38), (0, k), (0, p), (0, s), (0, t)] n M (0, V 6 0) n (s_cm M i k p s t (s_md k t (if V 6 0 = 0 then 1 else 0)) (V 6 0)) := by
  obtain ⟨hn, hp, hV, u0, u1, u2, u3, u4⟩ := id hM
  obtain ⟨hc6, hVW, hnd, hap, hr0, hr1, hr2, hr3, hr4, hr5⟩ := id hV
  have hc := ew_c_149
  show ew_X 149 0 [(2, 38), (0, k), (0, p), (0, s), (0, t)] [] n M _
  refine xr_go hc rfl rfl ?_
  refine xr_i2l hc rfl (by omega) ?_
  refine xr_go hc rfl rfl ?_
  refine xr_go hc rfl rfl ?_
  refine xr_s_3 hc rfl rfl (c_in (by omega) (by decide) (by decide)) ?_
  refine xr_if_eq hc rfl (by split <;> omega) (fun c1 => ?_) (fun c1 => ?_)
  · skip
    refine xr_go hc rfl rfl ?_
    refine xr_ret hc rfl rfl ?_
    first
      | (exfalso; omega)
      | (refine ⟨by congr 2; omega, rfl, ?_⟩
         first
           | rw [if_pos (by omega)]
           | rw [if_neg (by omega)])
  · skip
    refine xr_go hc rfl rfl ?_
    refine xr_go hc rfl rfl ?_
    refine xr_go hc rfl rfl ?_
    refine xr_s_3 hc rfl rfl (m_areBounds (by omega) (by omega) (by omega)) ?_
    refine xr_if_ne hc rfl (by split <;> omega) (fun c2 => ?_) (fun c2 => ?_)
    · skip
      refine xr_go hc rfl rfl ?_
      refine xr_gf0 (A := 38) rfl hc rfl (ew_own_p hn rfl) (show _ = (_ : Int) by first | exact u0 | exact s_eq_rd) ?_
      refine xr_go hc rfl rfl ?_
      refine xr_icmp_ne hc rfl (by omega) (by decide) (fun c3 => ?_) (fun c3 => ?_)
      · skip
        refine xr_go hc rfl rfl ?_
        refine xr_go hc rfl rfl ?_
        refine xr_go hc rfl rfl ?_
        refine xr_go hc rfl rfl ?_
        refine xr_go hc rfl rfl ?_
        refine xr_go hc rfl rfl ?_
        refine xr_go hc rfl rfl ?_
        refine xr_go hc rfl rfl ?_
        refine xr_gf0 (A := 38) rfl hc rfl (ew_own_p hn rfl) (show _ = (_ : Int) by first | exact u0 | exact s_eq_rd) ?_
        refine xr_if_ne hc rfl (by omega) (fun c4 => ?_) (fun c4 => ?_)
        · skip
          refine xr_go hc rfl rfl ?_
          refine xr_s_3 hc rfl rfl (m_made (by omega) (by omega) (Or.inl rfl)) ?_
          refine xr_vv_6 (v := (0, 0)) hc rfl rfl (ew_own_p hn rfl) (m_comes hn hp u0 (by omega) (fun r hr => (u4 r hr).1) hi hf (by omega)) ?_
          refine xr_go hc rfl rfl ?_
          refine xr_gf0 (A := 38) rfl hc rfl (ew_own_p hn rfl) (show _ = (_ : Int) by first | exact u0 | exact s_eq_rd) ?_
          refine xr_go hc rfl rfl ?_
          refine xr_go hc rfl rfl ?_
          refine xr_ret hc rfl rfl ?_
          first
            | (exfalso; omega)
            | (refine ⟨by congr 2; omega, rfl, ?_⟩
               first
                 | rw [if_pos (by omega)]
                 | rw [if_neg (by omega)])
        · skip
          refine xr_go hc rfl rfl ?_
          refine xr_go hc rfl rfl ?_
          refine xr_s_3 hc rfl rfl (m_made (by omega) (by omega) (Or.inr rfl)) ?_
          refine xr_vv_6 (v := (0, 0)) hc rfl rfl (ew_own_p hn rfl) (m_comes hn hp u0 (by omega) (fun r hr => (u4 r hr).1) hi hf (by omega)) ?_
          refine xr_go hc rfl rfl ?_
          refine xr_gf0 (A := 38) rfl hc rfl (ew_own_p hn rfl) (show _ = (_ : Int) by first | exact u0 | exact s_eq_rd) ?_
          refine xr_go hc rfl rfl ?_
          refine xr_go hc rfl rfl ?_
          refine xr_ret hc rfl rfl ?_
          first
            | (exfalso; omega)
            | (refine ⟨by congr 2; omega, rfl, ?_⟩
               first
                 | rw [if_pos (by omega)]
                 | rw [if_neg (by omega)])
      · skip
        refine xr_go hc rfl rfl ?_
        refine xr_ret hc rfl rfl ?_
        first
          | (exfalso; omega)
          | (refine ⟨by congr 2; omega, rfl, ?_⟩
             first
               | rw [if_pos (by omega)]
               | rw [if_neg (by omega)])
    · skip
      refine xr_go hc rfl rfl ?_
      refine xr_ret hc rfl rfl ?_
      first
        | (exfalso; omega)
        | (refine ⟨by congr 2; omega, rfl, ?_⟩
           first
             | rw [if_pos (by omega)]
             | rw [if_neg (by omega)])

set_option maxRecDepth 20000 in
theorem mx_wheelN {V : ew_Mem} {n : Nat} {M : ew_Mem} (hM : s_M V n M) {k p s t : Int} (hk : ew_in k) (hp_ : ew_in p) (hs : ew_in s) (ht : ew_in t) (h : ¬ s_okW V k p s t) : ew_FM 149 [(2, 38), (0, k), (0, p), (0, s), (0, t)] n M (0, s_n_wheel k p s t) n M := by
  obtain ⟨hn, hp, hV, u0, u1, u2, u3, u4⟩ := id hM
  obtain ⟨hc6, hVW, hnd, hap, hr0, hr1, hr2, hr3, hr4, hr5⟩ := id hV
  have hc := ew_c_149
  show ew_X 149 0 [(2, 38), (0, k), (0, p), (0, s), (0, t)] [] n M _
  refine xr_go hc rfl rfl ?_
  refine xr_i2l hc rfl (by omega) ?_
  refine xr_go hc rfl rfl ?_
  refine xr_go hc rfl rfl ?_
  refine xr_s_3 hc rfl rfl (c_in (by omega) (by decide) (by decide)) ?_
  refine xr_if_eq hc rfl (by split <;> omega) (fun c1 => ?_) (fun c1 => ?_)
  · skip
    refine xr_go hc rfl rfl ?_
    refine xr_ret hc rfl rfl ?_
    first
      | (exfalso; omega)
      | (refine ⟨?_, rfl, rfl⟩
         unfold s_n_wheel
         repeat' split
         all_goals first
           | rfl
           | (exfalso; omega)
           | (congr 2; omega))
  · skip
    refine xr_go hc rfl rfl ?_
    refine xr_go hc rfl rfl ?_
    refine xr_go hc rfl rfl ?_
    refine xr_s_3 hc rfl rfl (m_areBounds (by omega) (by omega) (by omega)) ?_
    refine xr_if_ne hc rfl (by split <;> omega) (fun c2 => ?_) (fun c2 => ?_)
    · skip
      refine xr_go hc rfl rfl ?_
      refine xr_gf0 (A := 38) rfl hc rfl (ew_own_p hn rfl) u0 ?_
      refine xr_go hc rfl rfl ?_
      refine xr_icmp_ne hc rfl (by omega) (by decide) (fun c3 => ?_) (fun c3 => ?_)
      · skip
        exfalso; omega
      · skip
        refine xr_go hc rfl rfl ?_
        refine xr_ret hc rfl rfl ?_
        first
          | (exfalso; omega)
          | (refine ⟨?_, rfl, rfl⟩
             unfold s_n_wheel
             repeat' split
             all_goals first
               | rfl
               | (exfalso; omega)
               | (congr 2; omega))
    · skip
      refine xr_go hc rfl rfl ?_
      refine xr_ret hc rfl rfl ?_
      first
        | (exfalso; omega)
        | (refine ⟨?_, rfl, rfl⟩
           unfold s_n_wheel
           repeat' split
           all_goals first
             | rfl
             | (exfalso; omega)
             | (congr 2; omega))

