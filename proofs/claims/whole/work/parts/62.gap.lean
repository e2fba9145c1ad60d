/-! gaps: both sides -/
set_option maxRecDepth 20000 in
theorem c_gapNumbered {n : Nat} {M : ew_Mem} (hn : 59 ≤ n) (hp : ew_Pm M) {f : Nat → Int} {c : Nat} (hc60 : 1 ≤ c ∧ c ≤ 60) (hfb : ∀ i : Nat, i < c → 1 ≤ f i ∧ f i ≤ 4000) (hf : ∀ i : Nat, i < c → M 32 (i + 1) - M 32 i = f i ∧ ew_in (M 32 i) ∧ ew_in (M 32 (i + 1))) {i : Nat} (hi : i < c) : ew_FM 129 [(2, 4), (0, (i : Int))] n M (0, f i) n M := by
  have hc := ew_c_129
  have hfi := hf i hi
  show ew_X 129 0 [(2, 4), (0, (i : Int))] [] n M _
  refine xr_go hc rfl rfl ?_
  refine xr_if_lt hc rfl (by omega) (fun c1 => ?_) (fun c1 => ?_)
  · exfalso; omega
  · skip
    refine xr_go hc rfl rfl ?_
    refine xr_go hc rfl rfl ?_
    refine xr_go hc rfl rfl ?_
    refine xr_go hc rfl rfl ?_
    refine xr_gf2 (A := 4) rfl hc rfl (ew_own_p hn rfl) (ew_pm (v := 32) hp rfl) ?_
    refine xr_alen (A := 32) (N := 61) (t := 20) rfl rfl hc rfl (ew_ok_p hn rfl) (by decide) ?_
    refine xr_icmp_ge hc rfl (by omega) (by decide) (fun c2 => ?_) (fun c2 => ?_)
    · exfalso; omega
    · skip
      refine xr_go hc rfl rfl ?_
      refine xr_gf2 (A := 4) rfl hc rfl (ew_own_p hn rfl) (ew_pm (v := 32) hp rfl) ?_
      refine xr_go hc rfl rfl ?_
      refine xr_go hc rfl rfl ?_
      refine xr_go hc rfl rfl ?_
      refine xr_iald (A := 32) (N := 61) rfl rfl hc rfl (ew_ok_p hn rfl) (by omega) (by omega) (show M 32 ((i : Int) + 1).toNat = M 32 (i + 1) from congrArg (M 32) (by omega)) ?_
      refine xr_go hc rfl rfl ?_
      refine xr_gf2 (A := 4) rfl hc rfl (ew_own_p hn rfl) (ew_pm (v := 32) hp rfl) ?_
      refine xr_go hc rfl rfl ?_
      refine xr_iald (A := 32) (N := 61) rfl rfl hc rfl (ew_ok_p hn rfl) (by omega) (by omega) (show M 32 (i : Int).toNat = M 32 i from rfl) ?_
      refine xr_go hc rfl rfl ?_
      refine xr_go hc rfl rfl ?_
      refine xr_ret hc rfl rfl ?_
      exact ⟨by rw [hfi.1], rfl, rfl⟩

set_option maxRecDepth 20000 in
theorem c_count_1 {n : Nat} {M : ew_Mem} (hn : 59 ≤ n) (hp : ew_Pm M) {f : Nat → Int} {c : Nat} (hc60 : 1 ≤ c ∧ c ≤ 60) (hfb : ∀ i : Nat, i < c → 1 ≤ f i ∧ f i ≤ 4000) (hf : ∀ i : Nat, i < c → M 32 (i + 1) - M 32 i = f i ∧ ew_in (M 32 i) ∧ ew_in (M 32 (i + 1))) {g : Int} (hg : ew_in g) : ∀ (j i : Nat) (q0 : Int), i + j = c → (0 ≤ q0 ∧ q0 ≤ (i : Int)) →
    ew_X 130 5 [(2, 4), (0, (c : Int)), (0, g), (0, q0), (0, (i : Int))] [] n M (fun r a b => r = some (0, q0 + s_ct f g j i) ∧ a = n ∧ b = M) := by
  have hc := ew_c_130
  intro j
  induction j with
  | zero =>
    intro i q0 hj hq
    refine xr_go hc rfl rfl ?_
    refine xr_go hc rfl rfl ?_
    refine xr_icmp_ge hc rfl (by omega) (by omega) (fun c1 => ?_) (fun c1 => ?_)
    · skip
      refine xr_go hc rfl rfl ?_
      refine xr_ret hc rfl rfl ?_
      exact ⟨by rw [s_ct, Int.add_zero], rfl, rfl⟩
    · exfalso; omega
  | succ j ih =>
    intro i q0 hj hq
    have hfi := hf i (by omega)
    have hfv := hfb i (by omega)
    refine xr_go hc rfl rfl ?_
    refine xr_go hc rfl rfl ?_
    refine xr_icmp_ge hc rfl (by omega) (by omega) (fun c1 => ?_) (fun c1 => ?_)
    · exfalso; omega
    · skip
      refine xr_go hc rfl rfl ?_
      refine xr_go hc rfl rfl ?_
      refine xr_v_2 hc rfl rfl (ew_own_p hn rfl) (c_gapNumbered hn hp hc60 hfb hf (i := i) (by omega)) ?_
      refine xr_go hc rfl rfl ?_
      refine xr_icmp_ne hc rfl (by omega) (by omega) (fun c2 => ?_) (fun c2 => ?_)
      · skip
        refine xr_inc_4 hc rfl ?_
        refine xr_go hc rfl rfl ?_
        rw [s_ct]
        first
          | (rw [if_pos (by omega), ← Int.add_assoc]
             exact ih (i + 1) _ (by omega) (by omega))
          | (rw [if_neg (by omega), Int.zero_add]
             exact ih (i + 1) q0 (by omega) (by omega))
          | (rw [if_neg (by omega), Int.zero_add, Int.add_zero]
             exact ih (i + 1) q0 (by omega) (by omega))
      · skip
        refine xr_inc_3 hc rfl ?_
        refine xr_inc_4 hc rfl ?_
        refine xr_go hc rfl rfl ?_
        rw [s_ct]
        first
          | (rw [if_pos (by omega), ← Int.add_assoc]
             exact ih (i + 1) _ (by omega) (by omega))
          | (rw [if_neg (by omega), Int.zero_add]
             exact ih (i + 1) q0 (by omega) (by omega))
          | (rw [if_neg (by omega), Int.zero_add, Int.add_zero]
             exact ih (i + 1) q0 (by omega) (by omega))

theorem c_countGaps {n : Nat} {M : ew_Mem} (hn : 59 ≤ n) (hp : ew_Pm M) {f : Nat → Int} {c : Nat} (hc60 : 1 ≤ c ∧ c ≤ 60) (hfb : ∀ i : Nat, i < c → 1 ≤ f i ∧ f i ≤ 4000) (hf : ∀ i : Nat, i < c → M 32 (i + 1) - M 32 i = f i ∧ ew_in (M 32 i) ∧ ew_in (M 32 (i + 1))) {g : Int} (hg : ew_in g) : ew_FM 130 [(2, 4), (0, (c : Int)), (0, g)] n M (0, s_ct f g c 0) n M := by
  have hc := ew_c_130
  show ew_X 130 0 [(2, 4), (0, (c : Int)), (0, g), (5, 0), (5, 0)] [] n M _
  refine xr_go hc rfl rfl ?_
  refine xr_s1_3 hc rfl rfl rfl ?_
  refine xr_go hc rfl rfl ?_
  refine xr_s1_4 hc rfl rfl rfl ?_
  have h := c_count_1 hn hp hc60 hfb hf hg c 0 0 (by omega) (by decide)
  rw [Int.zero_add] at h
  exact h

set_option maxRecDepth 20000 in
theorem m_times_1 {n : Nat} {M : ew_Mem} (hn : 59 ≤ n) (hp : ew_Pm M) {f : Nat → Int} {c : Nat} (hc60 : 1 ≤ c ∧ c ≤ 60) (hfb : ∀ i : Nat, i < c → 1 ≤ f i ∧ f i ≤ 4000) (hf : ∀ i : Nat, i < c → M 52 i = f i) {g : Int} (hg : ew_in g) : ∀ (j i : Nat) (q0 : Int), i + j = c → (0 ≤ q0 ∧ q0 ≤ (i : Int)) →
    ew_X 214 5 [(2, 38), (0, g), (0, (c : Int)), (0, q0), (0, (i : Int))] [] n M (fun r a b => r = some (0, q0 + s_ct f g j i) ∧ a = n ∧ b = M) := by
  have hc := ew_c_214
  intro j
  induction j with
  | zero =>
    intro i q0 hj hq
    refine xr_go hc rfl rfl ?_
    refine xr_go hc rfl rfl ?_
    refine xr_icmp_ge hc rfl (by omega) (by omega) (fun c1 => ?_) (fun c1 => ?_)
    · skip
      refine xr_go hc rfl rfl ?_
      refine xr_ret hc rfl rfl ?_
      exact ⟨by rw [s_ct, Int.add_zero], rfl, rfl⟩
    · exfalso; omega
  | succ j ih =>
    intro i q0 hj hq
    have hfi := hf i (by omega)
    have hfv := hfb i (by omega)
    refine xr_go hc rfl rfl ?_
    refine xr_go hc rfl rfl ?_
    refine xr_icmp_ge hc rfl (by omega) (by omega) (fun c1 => ?_) (fun c1 => ?_)
    · exfalso; omega
    · skip
      refine xr_go hc rfl rfl ?_
      refine xr_go hc rfl rfl ?_
      refine xr_gf2 (A := 38) rfl hc rfl (ew_own_p hn rfl) (ew_pm (v := 52) hp rfl) ?_
      refine xr_go hc rfl rfl ?_
      refine xr_iald (A := 52) (N := 60) rfl rfl hc rfl (ew_ok_p hn rfl) (by omega) (by omega) (show M 52 (i : Int).toNat = f i from hfi) ?_
      refine xr_go hc rfl rfl ?_
      refine xr_icmp_ne hc rfl (by omega) (by omega) (fun c2 => ?_) (fun c2 => ?_)
      · skip
        refine xr_go hc rfl rfl ?_
        refine xr_go hc rfl rfl ?_
        refine xr_s1_3 hc rfl rfl rfl ?_
        refine xr_inc_4 hc rfl ?_
        refine xr_go hc rfl rfl ?_
        rw [s_ct]
        first
          | (rw [if_pos (by omega), ← Int.add_assoc]
             exact ih (i + 1) _ (by omega) (by omega))
          | (rw [if_neg (by omega), Int.zero_add]
             exact ih (i + 1) q0 (by omega) (by omega))
          | (rw [if_neg (by omega), Int.zero_add, Int.add_zero]
             exact ih (i + 1) q0 (by omega) (by omega))
      · skip
        refine xr_go hc rfl rfl ?_
        refine xr_go hc rfl rfl ?_
        refine xr_go hc rfl rfl ?_
        refine xr_s1_3 hc rfl rfl rfl ?_
        refine xr_inc_4 hc rfl ?_
        refine xr_go hc rfl rfl ?_
        rw [s_ct]
        first
          | (rw [if_pos (by omega), ← Int.add_assoc]
             exact ih (i + 1) _ (by omega) (by omega))
          | (rw [if_neg (by omega), Int.zero_add]
             exact ih (i + 1) q0 (by omega) (by omega))
          | (rw [if_neg (by omega), Int.zero_add, Int.add_zero]
             exact ih (i + 1) q0 (by omega) (by omega))

theorem m_timesOf {n : Nat} {M : ew_Mem} (hn : 59 ≤ n) (hp : ew_Pm M) {f : Nat → Int} {c : Nat} (hc60 : 1 ≤ c ∧ c ≤ 60) (hfb : ∀ i : Nat, i < c → 1 ≤ f i ∧ f i ≤ 4000) (hf : ∀ i : Nat, i < c → M 52 i = f i) {g : Int} (hg : ew_in g) : ew_FM 214 [(2, 38), (0, g), (0, (c : Int))] n M (0, s_ct f g c 0) n M := by
  have hc := ew_c_214
  show ew_X 214 0 [(2, 38), (0, g), (0, (c : Int)), (5, 0), (5, 0)] [] n M _
  refine xr_go hc rfl rfl ?_
  refine xr_s1_3 hc rfl rfl rfl ?_
  refine xr_go hc rfl rfl ?_
  refine xr_s1_4 hc rfl rfl rfl ?_
  have h := m_times_1 hn hp hc60 hfb hf hg c 0 0 (by omega) (by decide)
  rw [Int.zero_add] at h
  exact h

theorem s_ga_s {f : Nat → Int} {c : Nat} {x : Int} {j i : Nat} {b mx : Int} : s_ga f c x (j + 1) i b mx = s_ga f c x j (i + 1) (if s_ct f b c 0 < s_ct f (f i) c 0 ∨ (s_ct f (f i) c 0 = s_ct f b c 0 ∧ f i < b) then f i else b) (max mx (f i)) := rfl
set_option maxRecDepth 20000 in
theorem cx_gap_1 {n : Nat} {M : ew_Mem} (hn : 59 ≤ n) (hp : ew_Pm M) {f : Nat → Int} {c : Nat} (hc60 : 1 ≤ c ∧ c ≤ 60) (hfb : ∀ i : Nat, i < c → 1 ≤ f i ∧ f i ≤ 4000) (hf : ∀ i : Nat, i < c → M 32 (i + 1) - M 32 i = f i ∧ ew_in (M 32 i) ∧ ew_in (M 32 (i + 1))) {m x : Int} (hx : 0 ≤ x ∧ x ≤ 2) : ∀ (j i : Nat) (b mx : Int) (q8 q9 : ew_AV), i + j = c → (1 ≤ b ∧ b ≤ 4000) → (1 ≤ mx ∧ mx ≤ 4000) →
    ew_X 128 59 [(2, 4), (0, m), (0, (c : Int)), (0, x), (0, b), (0, s_ct f b c 0), (0, mx), (0, (i : Int)), q8, q9] [] n M (fun r a1 b1 => r = some (0, s_ga f c x j i b mx) ∧ a1 = n ∧ b1 = M) := by
  have hc := ew_c_128
  intro j
  induction j with
  | zero =>
    intro i b mx q8 q9 hj hb hmx
    refine xr_go hc rfl rfl ?_
    refine xr_go hc rfl rfl ?_
    refine xr_icmp_ge hc rfl (by omega) (by omega) (fun c1 => ?_) (fun c1 => ?_)
    · skip
      refine xr_go hc rfl rfl ?_
      refine xr_if_ne hc rfl (by omega) (fun c2 => ?_) (fun c2 => ?_)
      · skip
        refine xr_go hc rfl rfl ?_
        refine xr_go hc rfl rfl ?_
        refine xr_icmp_ne hc rfl (by omega) (by decide) (fun c3 => ?_) (fun c3 => ?_)
        · skip
          refine xr_go hc rfl rfl ?_
          refine xr_ret hc rfl rfl ?_
          refine ⟨?_, rfl, rfl⟩
          unfold s_ga
          first
            | (rw [if_pos (by omega)]; rfl)
            | (rw [if_neg (by omega), if_pos (by omega)]; rfl)
            | (rw [if_neg (by omega), if_neg (by omega)]; rfl)
        · skip
          refine xr_go hc rfl rfl ?_
          refine xr_go hc rfl rfl ?_
          refine xr_ret hc rfl rfl ?_
          refine ⟨?_, rfl, rfl⟩
          unfold s_ga
          first
            | (rw [if_pos (by omega)]; rfl)
            | (rw [if_neg (by omega), if_pos (by omega)]; rfl)
            | (rw [if_neg (by omega), if_neg (by omega)]; rfl)
      · skip
        refine xr_go hc rfl rfl ?_
        refine xr_ret hc rfl rfl ?_
        refine ⟨?_, rfl, rfl⟩
        unfold s_ga
        first
          | (rw [if_pos (by omega)]; rfl)
          | (rw [if_neg (by omega), if_pos (by omega)]; rfl)
          | (rw [if_neg (by omega), if_neg (by omega)]; rfl)
    · exfalso; omega
  | succ j ih =>
    intro i b mx q8 q9 hj hb hmx
    have hfv := hfb i (by omega)
    have hct1 := s_ct_bd f b c 0
    have hct2 := s_ct_bd f (f i) c 0
    refine xr_go hc rfl rfl ?_
    refine xr_go hc rfl rfl ?_
    refine xr_icmp_ge hc rfl (by omega) (by omega) (fun c1 => ?_) (fun c1 => ?_)
    · exfalso; omega
    · skip
      refine xr_go hc rfl rfl ?_
      refine xr_go hc rfl rfl ?_
      refine xr_v_2 hc rfl rfl (ew_own_p hn rfl) (c_gapNumbered hn hp hc60 hfb hf (i := i) (by omega)) ?_
      refine xr_s1_8 hc rfl rfl rfl ?_
      refine xr_go hc rfl rfl ?_
      refine xr_go hc rfl rfl ?_
      refine xr_go hc rfl rfl ?_
      refine xr_v_3 hc rfl rfl (ew_own_p hn rfl) (c_countGaps hn hp hc60 hfb hf (by omega)) ?_
      refine xr_s1_9 hc rfl rfl rfl ?_
      refine xr_go hc rfl rfl ?_
      refine xr_go hc rfl rfl ?_
      refine xr_icmp_gt hc rfl (by omega) (by omega) (fun c2 => ?_) (fun c2 => ?_)
      · skip
        refine xr_go hc rfl rfl ?_
        refine xr_s1_4 hc rfl rfl rfl ?_
        refine xr_go hc rfl rfl ?_
        refine xr_s1_5 hc rfl rfl rfl ?_
        refine xr_go hc rfl rfl ?_
        refine xr_go hc rfl rfl ?_
        refine xr_s_2 hc rfl rfl (c_maxI (by omega) (by omega)) ?_
        refine xr_s1_6 hc rfl rfl rfl ?_
        refine xr_inc_7 hc rfl ?_
        refine xr_go hc rfl rfl ?_
        rw [s_ga_s]
        first
          | (rw [if_pos (by omega)]
             exact ih (i + 1) _ _ _ _ (by omega) (by omega) (by omega))
          | (rw [if_neg (by omega)]
             exact ih (i + 1) _ _ _ _ (by omega) (by omega) (by omega))
      · skip
        refine xr_go hc rfl rfl ?_
        refine xr_go hc rfl rfl ?_
        refine xr_icmp_ne hc rfl (by omega) (by omega) (fun c3 => ?_) (fun c3 => ?_)
        · skip
          refine xr_go hc rfl rfl ?_
          refine xr_go hc rfl rfl ?_
          refine xr_s_2 hc rfl rfl (c_maxI (by omega) (by omega)) ?_
          refine xr_s1_6 hc rfl rfl rfl ?_
          refine xr_inc_7 hc rfl ?_
          refine xr_go hc rfl rfl ?_
          rw [s_ga_s]
          first
            | (rw [if_pos (by omega)]
               exact ih (i + 1) _ _ _ _ (by omega) (by omega) (by omega))
            | (rw [if_neg (by omega)]
               exact ih (i + 1) _ _ _ _ (by omega) (by omega) (by omega))
        · skip
          refine xr_go hc rfl rfl ?_
          refine xr_go hc rfl rfl ?_
          refine xr_icmp_ge hc rfl (by omega) (by omega) (fun c4 => ?_) (fun c4 => ?_)
          · skip
            refine xr_go hc rfl rfl ?_
            refine xr_go hc rfl rfl ?_
            refine xr_s_2 hc rfl rfl (c_maxI (by omega) (by omega)) ?_
            refine xr_s1_6 hc rfl rfl rfl ?_
            refine xr_inc_7 hc rfl ?_
            refine xr_go hc rfl rfl ?_
            rw [s_ga_s]
            first
              | (rw [if_pos (by omega)]
                 exact ih (i + 1) _ _ _ _ (by omega) (by omega) (by omega))
              | (rw [if_neg (by omega)]
                 exact ih (i + 1) _ _ _ _ (by omega) (by omega) (by omega))
          · skip
            refine xr_go hc rfl rfl ?_
            refine xr_s1_4 hc rfl rfl rfl ?_
            refine xr_go hc rfl rfl ?_
            refine xr_s1_5 hc rfl rfl rfl ?_
            refine xr_go hc rfl rfl ?_
            refine xr_go hc rfl rfl ?_
            refine xr_s_2 hc rfl rfl (c_maxI (by omega) (by omega)) ?_
            refine xr_s1_6 hc rfl rfl rfl ?_
            refine xr_inc_7 hc rfl ?_
            refine xr_go hc rfl rfl ?_
            rw [s_ga_s]
            first
              | (rw [if_pos (by omega)]
                 exact ih (i + 1) _ _ _ _ (by omega) (by omega) (by omega))
              | (rw [if_neg (by omega)]
                 exact ih (i + 1) _ _ _ _ (by omega) (by omega) (by omega))

set_option maxRecDepth 20000 in
theorem cx_gap_0 {n : Nat} {M : ew_Mem} (hn : 59 ≤ n) (hp : ew_Pm M) {f : Nat → Int} {c : Nat} (hc60 : 1 ≤ c ∧ c ≤ 60) (hfb : ∀ i : Nat, i < c → 1 ≤ f i ∧ f i ≤ 4000) (hf : ∀ i : Nat, i < c → M 32 (i + 1) - M 32 i = f i ∧ ew_in (M 32 i) ∧ ew_in (M 32 (i + 1))) {m x : Int} (hx : 0 ≤ x ∧ x ≤ 2) : ew_X 128 59 [(2, 4), (0, m), (0, (c : Int)), (0, x), (0, 0), (0, 0), (0, 0), (0, 0), (5, 0), (5, 0)] [] n M (fun r a1 b1 => r = some (0, s_ga f c x (c - 1) 1 (f 0) (f 0)) ∧ a1 = n ∧ b1 = M) := by
  have hc := ew_c_128
  have hfv := hfb 0 (by omega)
  have hct2 := s_ct_bd f (f 0) c 0
  have hct3 := s_ct_pos f hc60.1
  have hmax : max 0 (f 0) = f 0 := by omega
  refine xr_go hc rfl rfl ?_
  refine xr_go hc rfl rfl ?_
  refine xr_icmp_ge hc rfl (by omega) (by omega) (fun c1 => ?_) (fun c1 => ?_)
  · exfalso; omega
  · skip
    refine xr_go hc rfl rfl ?_
    refine xr_go hc rfl rfl ?_
    refine xr_v_2 hc rfl rfl (ew_own_p hn rfl) (c_gapNumbered hn hp hc60 hfb hf (i := 0) (by omega)) ?_
    refine xr_s1_8 hc rfl rfl rfl ?_
    refine xr_go hc rfl rfl ?_
    refine xr_go hc rfl rfl ?_
    refine xr_go hc rfl rfl ?_
    refine xr_v_3 hc rfl rfl (ew_own_p hn rfl) (c_countGaps hn hp hc60 hfb hf (by omega)) ?_
    refine xr_s1_9 hc rfl rfl rfl ?_
    refine xr_go hc rfl rfl ?_
    refine xr_go hc rfl rfl ?_
    refine xr_icmp_gt hc rfl (by omega) (by omega) (fun c2 => ?_) (fun c2 => ?_)
    · skip
      refine xr_go hc rfl rfl ?_
      refine xr_s1_4 hc rfl rfl rfl ?_
      refine xr_go hc rfl rfl ?_
      refine xr_s1_5 hc rfl rfl rfl ?_
      refine xr_go hc rfl rfl ?_
      refine xr_go hc rfl rfl ?_
      refine xr_s_2 hc rfl rfl (c_maxI (by omega) (by omega)) ?_
      refine xr_s1_6 hc rfl rfl rfl ?_
      refine xr_inc_7 hc rfl ?_
      refine xr_go hc rfl rfl ?_
      rw [hmax]
      exact cx_gap_1 hn hp hc60 hfb hf hx (c - 1) 1 (f 0) (f 0) _ _ (by omega) (by omega) (by omega)
    · exfalso; omega

theorem s_E_rd {V : ew_Mem} {M : ew_Mem} {m c : Int} (hm : s_isM m) (hl : c + 1 ≤ ((s_E V m (c + 1)).length : Int)) (hc : 1 ≤ c) : ∀ i : Nat, i < c.toNat → s_put M 32 (s_E V m (c + 1)) 32 (i + 1) - s_put M 32 (s_E V m (c + 1)) 32 i = s_gF V m c i ∧ ew_in (s_put M 32 (s_E V m (c + 1)) 32 i) ∧ ew_in (s_put M 32 (s_E V m (c + 1)) 32 (i + 1)) := by
  intro i hi
  have hin : ∀ t : Nat, t < (s_E V m (c + 1)).length → ew_in ((s_E V m (c + 1)).getD t 0) := by
    intro t ht
    have := s_es_bd _ _ _ _ (List.getElem_mem ht)
    rw [List.getD_eq_getElem?_getD, List.getElem?_eq_getElem ht]
    show ew_in (s_E V m (c + 1))[t]
    exact ⟨by omega, by omega⟩
  rw [s_put_rd (by omega), s_put_rd (by omega)]
  refine ⟨?_, hin i (by omega), hin (i + 1) (by omega)⟩
  unfold s_gF
  rw [s_df_get (by omega)]
set_option maxRecDepth 20000 in
theorem cx_gap {V : ew_Mem} {n : Nat} {M : ew_Mem} (hC : s_C V n M) {m c x : Int} (hm : ew_in m) (hc : ew_in c) (hx : ew_in x) : ew_C 128 [(2, 4), (0, m), (0, c), (0, x)] n M (s_QF (0, s_a_gap V m c x) n M) := by
  obtain ⟨hn, hp, hV, v0, v1, v2, v3, v4⟩ := id hC
  obtain ⟨hc6, hVW, hnd, hap, hr0, hr1, hr2, hr3, hr4, hr5⟩ := id hV
  have hc := ew_c_128
  show ew_X 128 0 [(2, 4), (0, m), (0, c), (0, x), (5, 0), (5, 0), (5, 0), (5, 0), (5, 0), (5, 0)] [] n M _
  refine xr_go hc rfl rfl ?_
  refine xr_s_1 hc rfl rfl (c_isMonth hm) ?_
  refine xr_if_eq hc rfl (by split <;> omega) (fun c1 => ?_) (fun c1 => ?_)
  · skip
    refine xr_go hc rfl rfl ?_
    refine xr_ret hc rfl rfl ?_
    refine ⟨?_, rfl, ?_⟩
    focus
      unfold s_a_gap
      first
        | (rw [if_neg (by omega)]; done)
        | (rw [if_pos (by omega), if_pos (by omega)]; done)
    first
      | exact s_Fr_rfl
      | exact s_put_fr s_Fr_rfl (s_scr_c rfl)
  · skip
    refine xr_go hc rfl rfl ?_
    refine xr_go hc rfl rfl ?_
    refine xr_icmp_lt hc rfl (by omega) (by decide) (fun c2 => ?_) (fun c2 => ?_)
    · skip
      refine xr_go hc rfl rfl ?_
      refine xr_ret hc rfl rfl ?_
      refine ⟨?_, rfl, ?_⟩
      focus
        unfold s_a_gap
        first
          | (rw [if_neg (by omega)]; done)
          | (rw [if_pos (by omega), if_pos (by omega)]; done)
      first
        | exact s_Fr_rfl
        | exact s_put_fr s_Fr_rfl (s_scr_c rfl)
    · skip
      refine xr_go hc rfl rfl ?_
      refine xr_go hc rfl rfl ?_
      refine xr_icmp_gt hc rfl (by omega) (by decide) (fun c3 => ?_) (fun c3 => ?_)
      · skip
        refine xr_go hc rfl rfl ?_
        refine xr_ret hc rfl rfl ?_
        refine ⟨?_, rfl, ?_⟩
        focus
          unfold s_a_gap
          first
            | (rw [if_neg (by omega)]; done)
            | (rw [if_pos (by omega), if_pos (by omega)]; done)
        first
          | exact s_Fr_rfl
          | exact s_put_fr s_Fr_rfl (s_scr_c rfl)
      · skip
        refine xr_go hc rfl rfl ?_
        refine xr_if_lt hc rfl (by omega) (fun c4 => ?_) (fun c4 => ?_)
        · skip
          refine xr_go hc rfl rfl ?_
          refine xr_ret hc rfl rfl ?_
          refine ⟨?_, rfl, ?_⟩
          focus
            unfold s_a_gap
            first
              | (rw [if_neg (by omega)]; done)
              | (rw [if_pos (by omega), if_pos (by omega)]; done)
          first
            | exact s_Fr_rfl
            | exact s_put_fr s_Fr_rfl (s_scr_c rfl)
        · skip
          refine xr_go hc rfl rfl ?_
          refine xr_go hc rfl rfl ?_
          refine xr_icmp_le hc rfl (by omega) (by decide) (fun c5 => ?_) (fun c5 => ?_)
          · skip
            refine xr_go hc rfl rfl ?_
            refine xr_go hc rfl rfl ?_
            refine xr_go hc rfl rfl ?_
            refine xr_go hc rfl rfl ?_
            refine xr_go hc rfl rfl ?_
            refine xr_v_3 hc rfl rfl (ew_own_p hn rfl) (c_find hC (by omega) (by omega)) ?_
            refine xr_go hc rfl rfl ?_
            refine xr_go hc rfl rfl ?_
            refine xr_go hc rfl rfl ?_
            have hfr : s_Fr M (s_put M 32 (s_E V m (c + 1))) := s_put_fr s_Fr_rfl (s_scr_c rfl)
            have hp2 : ew_Pm (s_put M 32 (s_E V m (c + 1))) := s_Fr_pm hfr hp
            have hle := s_es_len (V := V) (min (m + 3999) 100000 - m + 1).toNat m (c + 1) (by omega)
            have hlE : ((s_E V m (c + 1)).length : Int) ≤ c + 1 := hle
            refine xr_icmp_ge hc rfl (by omega) (by omega) (fun c6 => ?_) (fun c6 => ?_)
            · skip
              refine xr_go hc rfl rfl ?_
              refine xr_s1_4 hc rfl rfl rfl ?_
              refine xr_go hc rfl rfl ?_
              refine xr_s1_5 hc rfl rfl rfl ?_
              refine xr_go hc rfl rfl ?_
              refine xr_s1_6 hc rfl rfl rfl ?_
              refine xr_go hc rfl rfl ?_
              refine xr_s1_7 hc rfl rfl rfl ?_
              have h := cx_gap_0 (f := s_gF V m c) (c := c.toNat) (m := m) (x := x) hn hp2 (by omega) (s_gF_bd (by omega) (by omega)) (s_E_rd (M := M) (by omega) (by omega) (by omega)) (by omega)
              rw [Int.toNat_of_nonneg (by omega)] at h
              unfold s_a_gap
              rw [if_pos (by omega), if_neg (by omega)]
              exact ew_X.mono h (fun r n' M' q => ⟨q.1, q.2.1, by rw [q.2.2]; exact hfr⟩)
            · skip
              refine xr_go hc rfl rfl ?_
              refine xr_ret hc rfl rfl ?_
              refine ⟨?_, rfl, ?_⟩
              focus
                unfold s_a_gap
                first
                  | (rw [if_neg (by omega)]; done)
                  | (rw [if_pos (by omega), if_pos (by omega)]; done)
              first
                | exact s_Fr_rfl
                | exact s_put_fr s_Fr_rfl (s_scr_c rfl)
          · skip
            refine xr_go hc rfl rfl ?_
            refine xr_ret hc rfl rfl ?_
            refine ⟨?_, rfl, ?_⟩
            focus
              unfold s_a_gap
              first
                | (rw [if_neg (by omega)]; done)
                | (rw [if_pos (by omega), if_pos (by omega)]; done)
            first
              | exact s_Fr_rfl
              | exact s_put_fr s_Fr_rfl (s_scr_c rfl)

set_option maxRecDepth 20000 in
theorem m_gaps_1 {V : ew_Mem} {n : Nat} {M : ew_Mem} (hM : s_M V n M) {m0 c : Int} (hm0 : s_isM m0) (hc0 : 1 ≤ c ∧ c ≤ 60) : ∀ (j : Nat) (m pv : Int) (P : List Int), m + (j : Int) = min (m0 + 3999) 100000 + 1 → -100000 ≤ m → (P.length : Int) ≤ c → ew_in pv →
    ew_X 213 13 [(2, 38), (0, m0), (0, c), (0, (P.length : Int)), (0, pv), (0, 1), (0, m)] [] n (s_put M 52 P) (fun r a b => r = some (0, ((P ++ s_dl pv (s_es V j m (c - (P.length : Int)))).length : Int)) ∧ a = n ∧ b = s_put M 52 (P ++ s_dl pv (s_es V j m (c - (P.length : Int))))) := by
  obtain ⟨hn, hp, -⟩ := id hM
  have hc := ew_c_213
  intro j
  induction j with
  | zero =>
    intro m pv P hj hm hl hpv
    have hfr : s_Fr M (s_put M 52 P) := s_put_fr s_Fr_rfl (s_scr_c rfl)
    have hM2 := s_M_fr hfr hM
    have hp2 : ew_Pm (s_put M 52 P) := hM2.2.1
    have he := s_ecl_bd V m
    refine xr_go hc rfl rfl ?_
    refine xr_go hc rfl rfl ?_
    refine xr_go hc rfl rfl ?_
    refine xr_go hc rfl rfl ?_
    refine xr_icmp_ge hc rfl (by omega) (by omega) (fun c1 => ?_) (fun c1 => ?_)
    · skip
      refine xr_go hc rfl rfl ?_
      refine xr_ret hc rfl rfl ?_
      exact ⟨by rw [s_es, s_dl, List.append_nil], rfl, by rw [s_es, s_dl, List.append_nil]⟩
    · skip
      refine xr_go hc rfl rfl ?_
      refine xr_go hc rfl rfl ?_
      refine xr_icmp_gt hc rfl (by omega) (by decide) (fun c2 => ?_) (fun c2 => ?_)
      · skip
        refine xr_go hc rfl rfl ?_
        refine xr_ret hc rfl rfl ?_
        exact ⟨by rw [s_es, s_dl, List.append_nil], rfl, by rw [s_es, s_dl, List.append_nil]⟩
      · exfalso; omega
  | succ j ih =>
    intro m pv P hj hm hl hpv
    have hfr : s_Fr M (s_put M 52 P) := s_put_fr s_Fr_rfl (s_scr_c rfl)
    have hM2 := s_M_fr hfr hM
    have hp2 : ew_Pm (s_put M 52 P) := hM2.2.1
    have he := s_ecl_bd V m
    refine xr_go hc rfl rfl ?_
    refine xr_go hc rfl rfl ?_
    refine xr_go hc rfl rfl ?_
    refine xr_go hc rfl rfl ?_
    refine xr_icmp_ge hc rfl (by omega) (by omega) (fun c1 => ?_) (fun c1 => ?_)
    · exfalso; omega
    · skip
      refine xr_go hc rfl rfl ?_
      refine xr_go hc rfl rfl ?_
      refine xr_icmp_gt hc rfl (by omega) (by decide) (fun c2 => ?_) (fun c2 => ?_)
      · exfalso; omega
      · skip
        refine xr_go hc rfl rfl ?_
        refine xr_go hc rfl rfl ?_
        refine xr_icmp_ge hc rfl (by omega) (by omega) (fun c3 => ?_) (fun c3 => ?_)
        · skip
          refine xr_go hc rfl rfl ?_
          refine xr_ret hc rfl rfl ?_
          exact ⟨by rw [s_es_0 (by omega), s_dl, List.append_nil], rfl, by rw [s_es_0 (by omega), s_dl, List.append_nil]⟩
        · skip
          refine xr_go hc rfl rfl ?_
          refine xr_go hc rfl rfl ?_
          refine xr_v_2 hc rfl rfl (ew_own_p hn rfl) (m_eclipseAt hM2 (by omega)) ?_
          refine xr_if_le hc rfl (by omega) (fun c4 => ?_) (fun c4 => ?_)
          · skip
            refine xr_inc_6 hc rfl ?_
            refine xr_go hc rfl rfl ?_
            first
              | (rw [s_es, if_pos (by omega), if_pos (by omega)]
                 exact ih (m + 1) pv P (by omega) (by omega) (by omega) hpv)
              | (rw [Int.toNat_natCast, s_put_wr, show ((P.length : Int) + 1) = (((P ++ [m - pv]).length : Nat) : Int) by simp, s_es, if_pos (by omega), if_neg (by omega), s_dl, show P ++ (m - pv) :: s_dl m (s_es V j (m + 1) (c - (P.length : Int) - 1)) = (P ++ [m - pv]) ++ s_dl m (s_es V j (m + 1) (c - ((P ++ [m - pv]).length : Int))) by rw [List.append_assoc, List.length_append, show c - (P.length : Int) - 1 = c - ((P.length + [m - pv].length : Nat) : Int) by simp; omega]; rfl]
                 exact ih (m + 1) m (P ++ [m - pv]) (by omega) (by omega) (by simp; omega) (by omega))
          · skip
            refine xr_go hc rfl rfl ?_
            refine xr_if_eq hc rfl (by decide) (fun c5 => ?_) (fun c5 => ?_)
            · exfalso; omega
            · skip
              refine xr_go hc rfl rfl ?_
              refine xr_gf2 (A := 38) rfl hc rfl (ew_own_p hn rfl) (ew_pm (v := 52) hp2 rfl) ?_
              refine xr_go hc rfl rfl ?_
              refine xr_go hc rfl rfl ?_
              refine xr_go hc rfl rfl ?_
              refine xr_go hc rfl rfl ?_
              refine xr_iast (A := 52) (N := 60) rfl rfl hc rfl (ew_own_p hn rfl) (by omega) (by omega) ?_
              refine xr_inc_3 hc rfl ?_
              refine xr_go hc rfl rfl ?_
              refine xr_s1_5 hc rfl rfl rfl ?_
              refine xr_go hc rfl rfl ?_
              refine xr_s1_4 hc rfl rfl rfl ?_
              refine xr_inc_6 hc rfl ?_
              refine xr_go hc rfl rfl ?_
              first
                | (rw [s_es, if_pos (by omega), if_pos (by omega)]
                   exact ih (m + 1) pv P (by omega) (by omega) (by omega) hpv)
                | (rw [Int.toNat_natCast, s_put_wr, show ((P.length : Int) + 1) = (((P ++ [m - pv]).length : Nat) : Int) by simp, s_es, if_pos (by omega), if_neg (by omega), s_dl, show P ++ (m - pv) :: s_dl m (s_es V j (m + 1) (c - (P.length : Int) - 1)) = (P ++ [m - pv]) ++ s_dl m (s_es V j (m + 1) (c - ((P ++ [m - pv]).length : Int))) by rw [List.append_assoc, List.length_append, show c - (P.length : Int) - 1 = c - ((P.length + [m - pv].length : Nat) : Int) by simp; omega]; rfl]
                   exact ih (m + 1) m (P ++ [m - pv]) (by omega) (by omega) (by simp; omega) (by omega))

set_option maxRecDepth 20000 in
theorem m_gaps_0 {V : ew_Mem} {n : Nat} {M : ew_Mem} (hM : s_M V n M) {m0 c pv : Int} (hm0 : s_isM m0) (hc0 : 1 ≤ c ∧ c ≤ 60) (hpv : ew_in pv) : ∀ (j : Nat) (m : Int), m + (j : Int) = min (m0 + 3999) 100000 + 1 → -100000 ≤ m →
    ew_X 213 13 [(2, 38), (0, m0), (0, c), (0, 0), (0, pv), (0, 0), (0, m)] [] n (s_put M 52 []) (fun r a b => r = some (0, ((s_df (s_es V j m (c + 1))).length : Int)) ∧ a = n ∧ b = s_put M 52 (s_df (s_es V j m (c + 1)))) := by
  obtain ⟨hn, hp, -⟩ := id hM
  have hc := ew_c_213
  intro j
  induction j with
  | zero =>
    intro m hj hm
    have hfr : s_Fr M (s_put M 52 []) := s_put_fr s_Fr_rfl (s_scr_c rfl)
    have hM2 := s_M_fr hfr hM
    have hp2 : ew_Pm (s_put M 52 []) := hM2.2.1
    have he := s_ecl_bd V m
    refine xr_go hc rfl rfl ?_
    refine xr_go hc rfl rfl ?_
    refine xr_go hc rfl rfl ?_
    refine xr_go hc rfl rfl ?_
    refine xr_icmp_ge hc rfl (by omega) (by omega) (fun c1 => ?_) (fun c1 => ?_)
    · skip
      refine xr_go hc rfl rfl ?_
      refine xr_ret hc rfl rfl ?_
      exact ⟨by rw [s_es, s_df]; rfl, rfl, by rw [s_es, s_df]⟩
    · skip
      refine xr_go hc rfl rfl ?_
      refine xr_go hc rfl rfl ?_
      refine xr_icmp_gt hc rfl (by omega) (by decide) (fun c2 => ?_) (fun c2 => ?_)
      · skip
        refine xr_go hc rfl rfl ?_
        refine xr_ret hc rfl rfl ?_
        exact ⟨by rw [s_es, s_df]; rfl, rfl, by rw [s_es, s_df]⟩
      · exfalso; omega
  | succ j ih =>
    intro m hj hm
    have hfr : s_Fr M (s_put M 52 []) := s_put_fr s_Fr_rfl (s_scr_c rfl)
    have hM2 := s_M_fr hfr hM
    have hp2 : ew_Pm (s_put M 52 []) := hM2.2.1
    have he := s_ecl_bd V m
    refine xr_go hc rfl rfl ?_
    refine xr_go hc rfl rfl ?_
    refine xr_go hc rfl rfl ?_
    refine xr_go hc rfl rfl ?_
    refine xr_icmp_ge hc rfl (by omega) (by omega) (fun c1 => ?_) (fun c1 => ?_)
    · exfalso; omega
    · skip
      refine xr_go hc rfl rfl ?_
      refine xr_go hc rfl rfl ?_
      refine xr_icmp_gt hc rfl (by omega) (by decide) (fun c2 => ?_) (fun c2 => ?_)
      · exfalso; omega
      · skip
        refine xr_go hc rfl rfl ?_
        refine xr_go hc rfl rfl ?_
        refine xr_icmp_ge hc rfl (by omega) (by omega) (fun c3 => ?_) (fun c3 => ?_)
        · exfalso; omega
        · skip
          refine xr_go hc rfl rfl ?_
          refine xr_go hc rfl rfl ?_
          refine xr_v_2 hc rfl rfl (ew_own_p hn rfl) (m_eclipseAt hM2 (by omega)) ?_
          refine xr_if_le hc rfl (by omega) (fun c4 => ?_) (fun c4 => ?_)
          · skip
            refine xr_inc_6 hc rfl ?_
            refine xr_go hc rfl rfl ?_
            first
              | (rw [s_es, if_pos (by omega), if_pos (by omega)]
                 exact ih (m + 1) (by omega) (by omega))
              | (rw [s_es, if_pos (by omega), if_neg (by omega), s_df, show c + 1 - 1 = c by omega]
                 have h := m_gaps_1 hM hm0 hc0 j (m + 1) m [] (by omega) (by omega) (by simp; omega) (by omega)
                 rw [List.nil_append, show c - (([] : List Int).length : Int) = c by simp] at h
                 exact h)
          · skip
            refine xr_go hc rfl rfl ?_
            refine xr_if_eq hc rfl (by decide) (fun c5 => ?_) (fun c5 => ?_)
            · skip
              refine xr_go hc rfl rfl ?_
              refine xr_s1_5 hc rfl rfl rfl ?_
              refine xr_go hc rfl rfl ?_
              refine xr_s1_4 hc rfl rfl rfl ?_
              refine xr_inc_6 hc rfl ?_
              refine xr_go hc rfl rfl ?_
              first
                | (rw [s_es, if_pos (by omega), if_pos (by omega)]
                   exact ih (m + 1) (by omega) (by omega))
                | (rw [s_es, if_pos (by omega), if_neg (by omega), s_df, show c + 1 - 1 = c by omega]
                   have h := m_gaps_1 hM hm0 hc0 j (m + 1) m [] (by omega) (by omega) (by simp; omega) (by omega)
                   rw [List.nil_append, show c - (([] : List Int).length : Int) = c by simp] at h
                   exact h)
            · exfalso; omega

set_option maxRecDepth 20000 in
theorem m_gapsFrom {V : ew_Mem} {n : Nat} {M : ew_Mem} (hM : s_M V n M) {m c : Int} (hm : s_isM m) (hc0 : 1 ≤ c ∧ c ≤ 60) : ew_FM 213 [(2, 38), (0, m), (0, c)] n M (0, ((s_df (s_E V m (c + 1))).length : Int)) n (s_put M 52 (s_df (s_E V m (c + 1)))) := by
  obtain ⟨hn, hp, hV, u0, u1, u2, u3, u4⟩ := id hM
  obtain ⟨hc6, hVW, hnd, hap, hr0, hr1, hr2, hr3, hr4, hr5⟩ := id hV
  have hc := ew_c_213
  show ew_X 213 0 [(2, 38), (0, m), (0, c), (5, 0), (5, 0), (5, 0), (5, 0)] [] n M _
  refine xr_go hc rfl rfl ?_
  refine xr_s1_3 hc rfl rfl rfl ?_
  refine xr_go hc rfl rfl ?_
  refine xr_go hc rfl rfl ?_
  refine xr_go hc rfl rfl ?_
  refine xr_s1_4 hc rfl rfl rfl ?_
  refine xr_go hc rfl rfl ?_
  refine xr_s1_5 hc rfl rfl rfl ?_
  refine xr_go hc rfl rfl ?_
  refine xr_s1_6 hc rfl rfl rfl ?_
  have h := m_gaps_0 hM hm hc0 (pv := m - 1) (by omega) (min (m + 3999) 100000 - m + 1).toNat m (by omega) (by omega)
  rw [s_put_nil] at h
  exact h

set_option maxRecDepth 20000 in
theorem mx_gap_1 {n : Nat} {M : ew_Mem} (hn : 59 ≤ n) (hp : ew_Pm M) {f : Nat → Int} {c : Nat} (hc60 : 1 ≤ c ∧ c ≤ 60) (hfb : ∀ i : Nat, i < c → 1 ≤ f i ∧ f i ≤ 4000) (hf : ∀ i : Nat, i < c → M 52 i = f i) {m x : Int} (hx : 0 ≤ x ∧ x ≤ 2) : ∀ (j i : Nat) (b mx : Int) (q : ew_AV), i + j = c → (1 ≤ b ∧ b ≤ 4000) → (1 ≤ mx ∧ mx ≤ 4000) →
    ew_X 212 66 [(2, 38), (0, m), (0, (c : Int)), (0, x), (0, b), (0, mx), (0, (i : Int)), q] [] n M (fun r a1 b1 => r = some (0, s_ga f c x j i b mx) ∧ a1 = n ∧ b1 = M) := by
  have hc := ew_c_212
  intro j
  induction j with
  | zero =>
    intro i b mx q hj hb hmx
    refine xr_go hc rfl rfl ?_
    refine xr_go hc rfl rfl ?_
    refine xr_icmp_ge hc rfl (by omega) (by omega) (fun c1 => ?_) (fun c1 => ?_)
    · skip
      refine xr_go hc rfl rfl ?_
      refine xr_if_ne hc rfl (by omega) (fun c2 => ?_) (fun c2 => ?_)
      · skip
        refine xr_go hc rfl rfl ?_
        refine xr_go hc rfl rfl ?_
        refine xr_icmp_ne hc rfl (by omega) (by decide) (fun c3 => ?_) (fun c3 => ?_)
        · skip
          refine xr_go hc rfl rfl ?_
          refine xr_ret hc rfl rfl ?_
          refine ⟨?_, rfl, rfl⟩
          unfold s_ga
          first
            | (rw [if_pos (by omega)]; rfl)
            | (rw [if_neg (by omega), if_pos (by omega)]; rfl)
            | (rw [if_neg (by omega), if_neg (by omega)]; rfl)
        · skip
          refine xr_go hc rfl rfl ?_
          refine xr_go hc rfl rfl ?_
          refine xr_go hc rfl rfl ?_
          refine xr_v_3 hc rfl rfl (ew_own_p hn rfl) (m_timesOf hn hp hc60 hfb hf (by omega)) ?_
          refine xr_go hc rfl rfl ?_
          refine xr_ret hc rfl rfl ?_
          refine ⟨?_, rfl, rfl⟩
          unfold s_ga
          first
            | (rw [if_pos (by omega)]; rfl)
            | (rw [if_neg (by omega), if_pos (by omega)]; rfl)
            | (rw [if_neg (by omega), if_neg (by omega)]; rfl)
      · skip
        refine xr_go hc rfl rfl ?_
        refine xr_go hc rfl rfl ?_
        refine xr_ret hc rfl rfl ?_
        refine ⟨?_, rfl, rfl⟩
        unfold s_ga
        first
          | (rw [if_pos (by omega)]; rfl)
          | (rw [if_neg (by omega), if_pos (by omega)]; rfl)
          | (rw [if_neg (by omega), if_neg (by omega)]; rfl)
    · exfalso; omega
  | succ j ih =>
    intro i b mx q hj hb hmx
    have hfi := hf i (by omega)
    have hfv := hfb i (by omega)
    have hct1 := s_ct_bd f b c 0
    have hct2 := s_ct_bd f (f i) c 0
    refine xr_go hc rfl rfl ?_
    refine xr_go hc rfl rfl ?_
    refine xr_icmp_ge hc rfl (by omega) (by omega) (fun c1 => ?_) (fun c1 => ?_)
    · exfalso; omega
    · skip
      refine xr_go hc rfl rfl ?_
      refine xr_go hc rfl rfl ?_
      refine xr_gf2 (A := 38) rfl hc rfl (ew_own_p hn rfl) (ew_pm (v := 52) hp rfl) ?_
      refine xr_go hc rfl rfl ?_
      refine xr_iald (A := 52) (N := 60) rfl rfl hc rfl (ew_ok_p hn rfl) (by omega) (by omega) (show M 52 (i : Int).toNat = f i from hfi) ?_
      refine xr_go hc rfl rfl ?_
      refine xr_v_3 hc rfl rfl (ew_own_p hn rfl) (m_timesOf hn hp hc60 hfb hf (by omega)) ?_
      refine xr_go hc rfl rfl ?_
      refine xr_go hc rfl rfl ?_
      refine xr_go hc rfl rfl ?_
      refine xr_v_3 hc rfl rfl (ew_own_p hn rfl) (m_timesOf hn hp hc60 hfb hf (by omega)) ?_
      refine xr_go hc rfl rfl ?_
      refine xr_s1_7 hc rfl rfl rfl ?_
      refine xr_go hc rfl rfl ?_
      refine xr_if_gt hc rfl (by omega) (fun c2 => ?_) (fun c2 => ?_)
      · skip
        refine xr_go hc rfl rfl ?_
        refine xr_gf2 (A := 38) rfl hc rfl (ew_own_p hn rfl) (ew_pm (v := 52) hp rfl) ?_
        refine xr_go hc rfl rfl ?_
        refine xr_iald (A := 52) (N := 60) rfl rfl hc rfl (ew_ok_p hn rfl) (by omega) (by omega) (show M 52 (i : Int).toNat = f i from hfi) ?_
        refine xr_go hc rfl rfl ?_
        refine xr_s1_4 hc rfl rfl rfl ?_
        refine xr_go hc rfl rfl ?_
        refine xr_go hc rfl rfl ?_
        refine xr_gf2 (A := 38) rfl hc rfl (ew_own_p hn rfl) (ew_pm (v := 52) hp rfl) ?_
        refine xr_go hc rfl rfl ?_
        refine xr_iald (A := 52) (N := 60) rfl rfl hc rfl (ew_ok_p hn rfl) (by omega) (by omega) (show M 52 (i : Int).toNat = f i from hfi) ?_
        refine xr_s_2 hc rfl rfl (c_maxI (by omega) (by omega)) ?_
        refine xr_s1_5 hc rfl rfl rfl ?_
        refine xr_inc_6 hc rfl ?_
        refine xr_go hc rfl rfl ?_
        rw [s_ga_s]
        first
          | (rw [if_pos (by omega)]
             exact ih (i + 1) _ _ _ (by omega) (by omega) (by omega))
          | (rw [if_neg (by omega)]
             exact ih (i + 1) _ _ _ (by omega) (by omega) (by omega))
      · skip
        refine xr_go hc rfl rfl ?_
        refine xr_if_ne hc rfl (by omega) (fun c3 => ?_) (fun c3 => ?_)
        · skip
          refine xr_go hc rfl rfl ?_
          refine xr_s1_4 hc rfl rfl rfl ?_
          refine xr_go hc rfl rfl ?_
          refine xr_go hc rfl rfl ?_
          refine xr_gf2 (A := 38) rfl hc rfl (ew_own_p hn rfl) (ew_pm (v := 52) hp rfl) ?_
          refine xr_go hc rfl rfl ?_
          refine xr_iald (A := 52) (N := 60) rfl rfl hc rfl (ew_ok_p hn rfl) (by omega) (by omega) (show M 52 (i : Int).toNat = f i from hfi) ?_
          refine xr_s_2 hc rfl rfl (c_maxI (by omega) (by omega)) ?_
          refine xr_s1_5 hc rfl rfl rfl ?_
          refine xr_inc_6 hc rfl ?_
          refine xr_go hc rfl rfl ?_
          rw [s_ga_s]
          first
            | (rw [if_pos (by omega)]
               exact ih (i + 1) _ _ _ (by omega) (by omega) (by omega))
            | (rw [if_neg (by omega)]
               exact ih (i + 1) _ _ _ (by omega) (by omega) (by omega))
        · skip
          refine xr_go hc rfl rfl ?_
          refine xr_gf2 (A := 38) rfl hc rfl (ew_own_p hn rfl) (ew_pm (v := 52) hp rfl) ?_
          refine xr_go hc rfl rfl ?_
          refine xr_iald (A := 52) (N := 60) rfl rfl hc rfl (ew_ok_p hn rfl) (by omega) (by omega) (show M 52 (i : Int).toNat = f i from hfi) ?_
          refine xr_go hc rfl rfl ?_
          refine xr_icmp_ge hc rfl (by omega) (by omega) (fun c4 => ?_) (fun c4 => ?_)
          · skip
            refine xr_go hc rfl rfl ?_
            refine xr_s1_4 hc rfl rfl rfl ?_
            refine xr_go hc rfl rfl ?_
            refine xr_go hc rfl rfl ?_
            refine xr_gf2 (A := 38) rfl hc rfl (ew_own_p hn rfl) (ew_pm (v := 52) hp rfl) ?_
            refine xr_go hc rfl rfl ?_
            refine xr_iald (A := 52) (N := 60) rfl rfl hc rfl (ew_ok_p hn rfl) (by omega) (by omega) (show M 52 (i : Int).toNat = f i from hfi) ?_
            refine xr_s_2 hc rfl rfl (c_maxI (by omega) (by omega)) ?_
            refine xr_s1_5 hc rfl rfl rfl ?_
            refine xr_inc_6 hc rfl ?_
            refine xr_go hc rfl rfl ?_
            rw [s_ga_s]
            first
              | (rw [if_pos (by omega)]
                 exact ih (i + 1) _ _ _ (by omega) (by omega) (by omega))
              | (rw [if_neg (by omega)]
                 exact ih (i + 1) _ _ _ (by omega) (by omega) (by omega))
          · skip
            refine xr_go hc rfl rfl ?_
            refine xr_gf2 (A := 38) rfl hc rfl (ew_own_p hn rfl) (ew_pm (v := 52) hp rfl) ?_
            refine xr_go hc rfl rfl ?_
            refine xr_iald (A := 52) (N := 60) rfl rfl hc rfl (ew_ok_p hn rfl) (by omega) (by omega) (show M 52 (i : Int).toNat = f i from hfi) ?_
            refine xr_go hc rfl rfl ?_
            refine xr_s1_4 hc rfl rfl rfl ?_
            refine xr_go hc rfl rfl ?_
            refine xr_go hc rfl rfl ?_
            refine xr_gf2 (A := 38) rfl hc rfl (ew_own_p hn rfl) (ew_pm (v := 52) hp rfl) ?_
            refine xr_go hc rfl rfl ?_
            refine xr_iald (A := 52) (N := 60) rfl rfl hc rfl (ew_ok_p hn rfl) (by omega) (by omega) (show M 52 (i : Int).toNat = f i from hfi) ?_
            refine xr_s_2 hc rfl rfl (c_maxI (by omega) (by omega)) ?_
            refine xr_s1_5 hc rfl rfl rfl ?_
            refine xr_inc_6 hc rfl ?_
            refine xr_go hc rfl rfl ?_
            rw [s_ga_s]
            first
              | (rw [if_pos (by omega)]
                 exact ih (i + 1) _ _ _ (by omega) (by omega) (by omega))
              | (rw [if_neg (by omega)]
                 exact ih (i + 1) _ _ _ (by omega) (by omega) (by omega))

theorem s_D_rd {V : ew_Mem} {M : ew_Mem} {m c : Int} (hl : c + 1 ≤ ((s_E V m (c + 1)).length : Int)) (hc : 1 ≤ c) : ∀ i : Nat, i < c.toNat → s_put M 52 (s_df (s_E V m (c + 1))) 52 i = s_gF V m c i := by
  intro i hi
  rw [s_put_rd (by rw [s_df_len]; omega)]
  rfl
set_option maxRecDepth 20000 in
theorem mx_gap {V : ew_Mem} {n : Nat} {M : ew_Mem} (hM : s_M V n M) {m c x : Int} (hm : ew_in m) (hc : ew_in c) (hx : ew_in x) : ew_C 212 [(2, 38), (0, m), (0, c), (0, x)] n M (s_QF (0, s_a_gap V m c x) n M) := by
  obtain ⟨hn, hp, hV, u0, u1, u2, u3, u4⟩ := id hM
  obtain ⟨hc6, hVW, hnd, hap, hr0, hr1, hr2, hr3, hr4, hr5⟩ := id hV
  have hc := ew_c_212
  show ew_X 212 0 [(2, 38), (0, m), (0, c), (0, x), (5, 0), (5, 0), (5, 0), (5, 0)] [] n M _
  refine xr_go hc rfl rfl ?_
  refine xr_s_1 hc rfl rfl (m_isMonth hm) ?_
  refine xr_if_eq hc rfl (by split <;> omega) (fun c1 => ?_) (fun c1 => ?_)
  · skip
    refine xr_go hc rfl rfl ?_
    refine xr_ret hc rfl rfl ?_
    refine ⟨?_, rfl, ?_⟩
    focus
      unfold s_a_gap
      first
        | (rw [if_neg (by omega)]; done)
        | (rw [if_pos (by omega), if_pos (by omega)]; done)
    first
      | exact s_Fr_rfl
      | exact s_put_fr s_Fr_rfl (s_scr_c rfl)
  · skip
    refine xr_go hc rfl rfl ?_
    refine xr_i2l hc rfl (by omega) ?_
    refine xr_go hc rfl rfl ?_
    refine xr_go hc rfl rfl ?_
    refine xr_s_3 hc rfl rfl (c_in (by omega) (by decide) (by decide)) ?_
    refine xr_if_eq hc rfl (by split <;> omega) (fun c2 => ?_) (fun c2 => ?_)
    · skip
      refine xr_go hc rfl rfl ?_
      refine xr_ret hc rfl rfl ?_
      refine ⟨?_, rfl, ?_⟩
      focus
        unfold s_a_gap
        first
          | (rw [if_neg (by omega)]; done)
          | (rw [if_pos (by omega), if_pos (by omega)]; done)
      first
        | exact s_Fr_rfl
        | exact s_put_fr s_Fr_rfl (s_scr_c rfl)
    · skip
      refine xr_go hc rfl rfl ?_
      refine xr_i2l hc rfl (by omega) ?_
      refine xr_go hc rfl rfl ?_
      refine xr_go hc rfl rfl ?_
      refine xr_s_3 hc rfl rfl (c_in (by omega) (by decide) (by decide)) ?_
      refine xr_if_ne hc rfl (by split <;> omega) (fun c3 => ?_) (fun c3 => ?_)
      · skip
        refine xr_go hc rfl rfl ?_
        refine xr_go hc rfl rfl ?_
        refine xr_go hc rfl rfl ?_
        refine xr_v_3 hc rfl rfl (ew_own_p hn rfl) (m_gapsFrom hM (by omega) (by omega)) ?_
        have hfr : s_Fr M (s_put M 52 (s_df (s_E V m (c + 1)))) := s_put_fr s_Fr_rfl (s_scr_c rfl)
        have hp2 : ew_Pm (s_put M 52 (s_df (s_E V m (c + 1)))) := s_Fr_pm hfr hp
        have hle := s_es_len (V := V) (min (m + 3999) 100000 - m + 1).toNat m (c + 1) (by omega)
        have hlE : ((s_E V m (c + 1)).length : Int) ≤ c + 1 := hle
        have hdl := s_df_len (s_E V m (c + 1))
        refine xr_go hc rfl rfl ?_
        refine xr_icmp_ge hc rfl (by omega) (by omega) (fun c4 => ?_) (fun c4 => ?_)
        · skip
          have hD := s_D_rd (V := V) (M := M) (m := m) (c := c) (by omega) (by omega)
          refine xr_go hc rfl rfl ?_
          refine xr_gf2 (A := 38) rfl hc rfl (ew_own_p hn rfl) (ew_pm (v := 52) hp2 rfl) ?_
          refine xr_go hc rfl rfl ?_
          refine xr_iald (A := 52) (N := 60) rfl rfl hc rfl (ew_ok_p hn rfl) (by omega) (by omega) (hD 0 (by omega)) ?_
          refine xr_s1_4 hc rfl rfl rfl ?_
          refine xr_go hc rfl rfl ?_
          refine xr_gf2 (A := 38) rfl hc rfl (ew_own_p hn rfl) (ew_pm (v := 52) hp2 rfl) ?_
          refine xr_go hc rfl rfl ?_
          refine xr_iald (A := 52) (N := 60) rfl rfl hc rfl (ew_ok_p hn rfl) (by omega) (by omega) (hD 0 (by omega)) ?_
          refine xr_s1_5 hc rfl rfl rfl ?_
          refine xr_go hc rfl rfl ?_
          refine xr_s1_6 hc rfl rfl rfl ?_
          have hFb := s_gF_bd (V := V) (m := m) (c := c) (by omega) (by omega)
          have h := mx_gap_1 (f := s_gF V m c) (c := c.toNat) (m := m) (x := x) hn hp2 (by omega) hFb hD (by omega) (c.toNat - 1) 1 (s_gF V m c 0) (s_gF V m c 0) (5, 0) (by omega) (hFb 0 (by omega)) (hFb 0 (by omega))
          rw [Int.toNat_of_nonneg (by omega)] at h
          unfold s_a_gap
          rw [if_pos (by omega), if_neg (by omega)]
          exact ew_X.mono h (fun r n' M' q => ⟨q.1, q.2.1, by rw [q.2.2]; exact hfr⟩)
        · skip
          refine xr_go hc rfl rfl ?_
          refine xr_ret hc rfl rfl ?_
          refine ⟨?_, rfl, ?_⟩
          focus
            unfold s_a_gap
            first
              | (rw [if_neg (by omega)]; done)
              | (rw [if_pos (by omega), if_pos (by omega)]; done)
          first
            | exact s_Fr_rfl
            | exact s_put_fr s_Fr_rfl (s_scr_c rfl)
      · skip
        refine xr_go hc rfl rfl ?_
        refine xr_ret hc rfl rfl ?_
        refine ⟨?_, rfl, ?_⟩
        focus
          unfold s_a_gap
          first
            | (rw [if_neg (by omega)]; done)
            | (rw [if_pos (by omega), if_pos (by omega)]; done)
        first
          | exact s_Fr_rfl
          | exact s_put_fr s_Fr_rfl (s_scr_c rfl)

