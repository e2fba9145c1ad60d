/-! drop, turn and a new wheel keep the whole state's picture -/
def s_dr (X : ew_Mem) : ew_Mem := ew_wr (ew_wr (ew_wr (ew_wr X 6 (X 5 2 - 1).toNat 0) 5 2 (X 5 2 - 1)) 5 3 (if X 5 3 = X 5 2 - 1 then 0 else X 5 3)) 5 4 (if X 5 4 = X 5 2 - 1 then -1 else X 5 4)
def s_drM (X M : ew_Mem) : ew_Mem := ew_wr (ew_wr (ew_wr M 38 5 (X 5 2 - 1)) 38 7 (if X 5 3 = X 5 2 - 1 then 0 else X 5 3)) 38 8 (if X 5 4 = X 5 2 - 1 then -1 else X 5 4)
theorem s_dr_lv {X : ew_Mem} {a : Int} (q : s_lv (s_dr X) a) : s_lv X a := by
  rcases q with ⟨r, h1, h2⟩ | ⟨t, i, ht, hi, h1, h2⟩
  · have h3 : (r : Int) < X 5 2 - 1 := h1
    have h4 : (if r = (X 5 2 - 1).toNat then 0 else X 6 r) = a := h2
    rw [if_neg (by omega)] at h4
    exact Or.inl ⟨r, by omega, h4⟩
  · unfold s_dr at h1
    rw [s_ne_rd (by omega), s_ne_rd (by omega), s_ne_rd (by omega), s_ne_rd (by omega)] at h1
    exact Or.inr ⟨t, i, ht, hi, h1, h2⟩
def s_tn (X : ew_Mem) (o : Nat) (s t : Int) : ew_Mem := ew_wr (ew_wr X o 3 s) o 4 t
theorem s_tn_ob_ne {X : ew_Mem} {o : Nat} {s t a : Int} (h : ¬ a.toNat = o) : s_ob (s_tn X o s t) a = s_ob X a := by
  refine s_ob_ag (fun i => ?_)
  unfold s_tn
  rw [s_ne_rd h, s_ne_rd h]
theorem s_tn_ob {X : ew_Mem} {s t a : Int} : s_ob (s_tn X a.toNat s t) a = fun j => if j = 2 then s else if j = 3 then t else s_ob X a j := by
  funext j
  unfold s_ob s_tn
  by_cases h0 : j = 0
  · subst h0
    simp [ew_wr]
  · by_cases h1 : j = 1
    · subst h1
      simp [ew_wr]
    · by_cases h2 : j = 2
      · subst h2
        simp [ew_wr]
      · by_cases h3 : j = 3
        · subst h3
          simp [ew_wr]
        · simp [ew_wr, h0, h1, h2, h3]
theorem s_tn_OB {n : Nat} {X : ew_Mem} {o : Nat} {s t : Int} (hab : s_AB (X o 1) s t) {a : Int} (h : s_OB n X a) : s_OB n (s_tn X o s t) a := by
  refine ⟨h.1, ?_⟩
  by_cases e : a.toNat = o
  · subst e
    rw [s_tn_ob]
    obtain ⟨k0, k1, k2, k3, k4⟩ := h.2
    have e1 : s_ob X a 1 = X a.toNat 1 := rfl
    exact ⟨k0, k1, hab.2.1, by show 0 ≤ t ∧ t < s_ob X a 1; rw [e1]; exact hab.2.2, k4⟩
  · rw [s_tn_ob_ne e]
    exact h.2
theorem s_li_OB {c n : Nat} {X : ew_Mem} (hK : s_K c n X) {w : Nat} (hw : (w : Int) < X 5 2) : s_OB n X (X 6 w) := s_lv_OB hK (Or.inl ⟨w, hw, rfl⟩)
theorem s_mw_ob {X : ew_Mem} {w : Nat} {k p s t d : Int} : s_ob (s_mw X w k p s t d) (w : Int) = fun j => if j = 0 then k else if j = 1 then p else if j = 2 then s else if j = 3 then t else d := by
  funext j
  unfold s_ob s_mw
  rw [Int.toNat_natCast]
  simp [ew_wr]
theorem s_ad_eo {X : ew_Mem} {n a : Nat} {k p s t d z : Int} (h : 59 ≤ a) (h2 : ¬ a = n) (i : Nat) : s_ad X n k p s t d z a i = X a i := by
  unfold s_ad
  rw [s_ne_rd (by omega), s_ne_rd (by omega), s_mw_ne h2, s_clr_ne h2]
theorem s_ad_ob {X : ew_Mem} {n : Nat} (hn : 59 ≤ n) {k p s t d z : Int} : s_ob (s_ad X n k p s t d z) (n : Int) = fun j => if j = 0 then k else if j = 1 then p else if j = 2 then s else if j = 3 then t else d := by
  rw [← s_mw_ob (X := ew_clr X n)]
  refine s_ob_ag (fun i => ?_)
  unfold s_ad
  rw [s_ne_rd (by omega), s_ne_rd (by omega)]
theorem s_ad_2 {X : ew_Mem} {n : Nat} {k p s t d z : Int} : s_ad X n k p s t d z 5 2 = z + 1 := s_eq_rd
theorem s_ad_6 {X : ew_Mem} {n : Nat} (hn : 59 ≤ n) {k p s t d z : Int} (r : Nat) : s_ad X n k p s t d z 6 r = if r = z.toNat then (n : Int) else X 6 r := by
  unfold s_ad
  rw [s_ne_rd (by omega)]
  by_cases e : r = z.toNat
  · rw [if_pos e, e, s_eq_rd]
  · rw [if_neg e, s_ne_ri e, s_mw_ne (by omega), s_clr_ne (by omega)]
theorem s_ad_n {X : ew_Mem} {n : Nat} {k p s t d z : Int} {a i : Nat} (h : ¬ a = n) (h6 : ¬ a = 6) (h5 : a = 5 → ¬ i = 2) : s_ad X n k p s t d z a i = X a i := by
  unfold s_ad
  by_cases e : a = 5
  · subst e
    rw [s_ne_ri (h5 rfl), s_ne_rd h6, s_mw_ne h, s_clr_ne h]
  · rw [s_ne_rd e, s_ne_rd h6, s_mw_ne h, s_clr_ne h]
theorem s_ad_lv {X : ew_Mem} {n : Nat} (hn : 59 ≤ n) {k p s t d a : Int} (h6 : 0 ≤ X 5 2) (q : s_lv (s_ad X n k p s t d (X 5 2)) a) : a = (n : Int) ∨ s_lv X a := by
  rcases q with ⟨r, h1, h2⟩ | ⟨t, i, ht, hi, h1, h2⟩
  · rw [s_ad_2] at h1
    rw [s_ad_6 hn] at h2
    by_cases e : r = (X 5 2).toNat
    · rw [if_pos e] at h2
      exact Or.inl h2.symm
    · rw [if_neg e] at h2
      exact Or.inr (Or.inl ⟨r, by omega, h2⟩)
  · rw [s_ad_n (by omega) (by omega) (by omega)] at h1
    exact Or.inr (Or.inr ⟨t, i, ht, hi, h1, h2⟩)
def s_up (h : Int → Nat) (z : Int) (i : Nat) : Int → Nat := fun a => if a = z then i else h a
theorem s_up_eq {h : Int → Nat} {z : Int} {i : Nat} : s_up h z i z = i := if_pos rfl
theorem s_up_ne {h : Int → Nat} {z a : Int} {i : Nat} (e : ¬ a = z) : s_up h z i a = h a := if_neg e
theorem s_pig : ∀ (N : Nat) (l : List Int), (∀ k : Nat, k < N → (k : Int) ∈ l) → N ≤ l.length
  | 0, _, _ => Nat.zero_le _
  | N + 1, l, h => by
    have h1 := h N (Nat.lt_succ_self N)
    have h2 := s_pig N (l.erase (N : Int)) (fun k hk => (List.mem_erase_of_ne (by omega)).mpr (h k (by omega)))
    rw [List.length_erase_of_mem h1] at h2
    have h3 := List.length_pos_of_mem h1
    omega
/-- there is a row that no wheel has any more -/
theorem s_row {M : ew_Mem} {c : Nat} (hc : c < 6) : ∃ k : Nat, k < 64 ∧ (∀ r : Nat, r < c → ¬ M 44 r = (k : Int)) ∧ ∀ r : Nat, r < 48 → ¬ M 56 r = (k : Int) := by
  refine Classical.byContradiction (fun hno => ?_)
  have hall : ∀ k : Nat, k < 64 → (k : Int) ∈ ((List.range 6).map (fun r => M 44 r) ++ (List.range 48).map (fun r => M 56 r)) := by
    intro k hk
    refine Classical.byContradiction (fun hk2 => hno ⟨k, hk, fun r hr e => hk2 ?_, fun r hr e => hk2 ?_⟩)
    · exact List.mem_append.mpr (Or.inl (List.mem_map.mpr ⟨r, List.mem_range.mpr (by omega), e⟩))
    · exact List.mem_append.mpr (Or.inr (List.mem_map.mpr ⟨r, List.mem_range.mpr hr, e⟩))
  have := s_pig 64 _ hall
  simp at this
set_option maxHeartbeats 4000000 in
theorem K_drop {c n : Nat} {X : ew_Mem} (hK : s_K c n X) (h0 : 0 < X 5 2) : s_K (c + 1) n (s_dr X) := by
  obtain ⟨k0, k1, k2, k3, k4, k5, k6, k7, k8, k9, k10, k11⟩ := id hK
  unfold s_dr
  refine ⟨by omega, by omega, ?_, ?_, ?_, ?_, ?_, ?_, ?_, ?_, ?_⟩
  · exact ew_Pm_wr (ew_Pm_wr (ew_Pm_wr (ew_Pm_wrA k2 rfl) rfl) rfl) rfl
  · obtain ⟨a1, a2, a3, a4⟩ := id k3
    show (0 ≤ X 5 2 - 1 ∧ X 5 2 - 1 ≤ 6) ∧ (0 ≤ (if X 5 3 = X 5 2 - 1 then 0 else X 5 3) ∧ ((if X 5 3 = X 5 2 - 1 then 0 else X 5 3) < X 5 2 - 1 ∨ (if X 5 3 = X 5 2 - 1 then 0 else X 5 3) = 0)) ∧ (-1 ≤ (if X 5 4 = X 5 2 - 1 then -1 else X 5 4) ∧ (if X 5 4 = X 5 2 - 1 then -1 else X 5 4) < X 5 2 - 1) ∧ _
    refine ⟨by omega, ?_, ?_, a4⟩
    · split <;> omega
    · split <;> omega
  · intro r hr
    show ((r : Int) < X 5 2 - 1 ∧ s_OB n _ (if r = (X 5 2 - 1).toNat then 0 else X 6 r)) ∨ (X 5 2 - 1 ≤ (r : Int) ∧ (if r = (X 5 2 - 1).toNat then 0 else X 6 r) = 0)
    by_cases e : r = (X 5 2 - 1).toNat
    · exact Or.inr ⟨by omega, if_pos e⟩
    · rw [if_neg e]
      rcases k4 r hr with g | g
      · exact Or.inl ⟨by omega, s_OB_eo (fun a h1 h2 i => (by first | rfl | ((repeat first | rw [s_ne_rd (by omega)] | rw [s_ne_ri (by omega)] | rw [s_fn_ne (by omega)] | rw [s_pf_ne (by omega)] | rw [s_put_ne (by omega)] | rw [s_clr_ne (by omega)] | rw [s_mw_ne (by omega)]); done))) (Nat.le_refl _) g.2⟩
      · exact Or.inr ⟨by omega, g.2⟩
  · intro r q hr hq he
    have hr' : (r : Int) < X 5 2 - 1 := hr
    have hq' : (q : Int) < X 5 2 - 1 := hq
    have he' : (if r = (X 5 2 - 1).toNat then 0 else X 6 r) = (if q = (X 5 2 - 1).toNat then 0 else X 6 q) := he
    rw [if_neg (by omega), if_neg (by omega)] at he'
    exact k5 r q (by omega) (by omega) he'
  · exact s_K4_ag (fun t i ht hi => (by first | rfl | ((repeat first | rw [s_ne_rd (by omega)] | rw [s_ne_ri (by omega)] | rw [s_fn_ne (by omega)] | rw [s_pf_ne (by omega)] | rw [s_put_ne (by omega)] | rw [s_clr_ne (by omega)] | rw [s_mw_ne (by omega)]); done))) (fun t i ht hi => (by first | rfl | ((repeat first | rw [s_ne_rd (by omega)] | rw [s_ne_ri (by omega)] | rw [s_fn_ne (by omega)] | rw [s_pf_ne (by omega)] | rw [s_put_ne (by omega)] | rw [s_clr_ne (by omega)] | rw [s_mw_ne (by omega)]); done))) (fun a h1 h2 i => (by first | rfl | ((repeat first | rw [s_ne_rd (by omega)] | rw [s_ne_ri (by omega)] | rw [s_fn_ne (by omega)] | rw [s_pf_ne (by omega)] | rw [s_put_ne (by omega)] | rw [s_clr_ne (by omega)] | rw [s_mw_ne (by omega)]); done))) (by omega) k6
  · exact s_K5_ag (fun l hl => (by first | rfl | ((repeat first | rw [s_ne_rd (by omega)] | rw [s_ne_ri (by omega)] | rw [s_fn_ne (by omega)] | rw [s_pf_ne (by omega)] | rw [s_put_ne (by omega)] | rw [s_clr_ne (by omega)] | rw [s_mw_ne (by omega)]); done))) (fun l i hl hi => (by first | rfl | ((repeat first | rw [s_ne_rd (by omega)] | rw [s_ne_ri (by omega)] | rw [s_fn_ne (by omega)] | rw [s_pf_ne (by omega)] | rw [s_put_ne (by omega)] | rw [s_clr_ne (by omega)] | rw [s_mw_ne (by omega)]); done))) k7
  · exact s_K6_ag (by first | rfl | ((repeat first | rw [s_ne_rd (by omega)] | rw [s_ne_ri (by omega)] | rw [s_fn_ne (by omega)] | rw [s_pf_ne (by omega)] | rw [s_put_ne (by omega)] | rw [s_clr_ne (by omega)] | rw [s_mw_ne (by omega)]); done)) (fun i => (by first | rfl | ((repeat first | rw [s_ne_rd (by omega)] | rw [s_ne_ri (by omega)] | rw [s_fn_ne (by omega)] | rw [s_pf_ne (by omega)] | rw [s_put_ne (by omega)] | rw [s_clr_ne (by omega)] | rw [s_mw_ne (by omega)]); done))) k8
  · exact s_K7_ag (by first | rfl | ((repeat first | rw [s_ne_rd (by omega)] | rw [s_ne_ri (by omega)] | rw [s_fn_ne (by omega)] | rw [s_pf_ne (by omega)] | rw [s_put_ne (by omega)] | rw [s_clr_ne (by omega)] | rw [s_mw_ne (by omega)]); done)) (fun i => (by first | rfl | ((repeat first | rw [s_ne_rd (by omega)] | rw [s_ne_ri (by omega)] | rw [s_fn_ne (by omega)] | rw [s_pf_ne (by omega)] | rw [s_put_ne (by omega)] | rw [s_clr_ne (by omega)] | rw [s_mw_ne (by omega)]); done))) (fun i => (by first | rfl | ((repeat first | rw [s_ne_rd (by omega)] | rw [s_ne_ri (by omega)] | rw [s_fn_ne (by omega)] | rw [s_pf_ne (by omega)] | rw [s_put_ne (by omega)] | rw [s_clr_ne (by omega)] | rw [s_mw_ne (by omega)]); done))) (fun i => (by first | rfl | ((repeat first | rw [s_ne_rd (by omega)] | rw [s_ne_ri (by omega)] | rw [s_fn_ne (by omega)] | rw [s_pf_ne (by omega)] | rw [s_put_ne (by omega)] | rw [s_clr_ne (by omega)] | rw [s_mw_ne (by omega)]); done))) (fun a g hl => by
      have hq := s_OB_w g
      exact s_ob_ag (fun i => (by first | rfl | ((repeat first | rw [s_ne_rd (by omega)] | rw [s_ne_ri (by omega)] | rw [s_fn_ne (by omega)] | rw [s_pf_ne (by omega)] | rw [s_put_ne (by omega)] | rw [s_clr_ne (by omega)] | rw [s_mw_ne (by omega)]); done)))) (by omega) (fun a _ => s_dr_lv) k9
  · exact ⟨Int.le_trans k10 (Int.le_of_eq (Eq.symm (by first | rfl | ((repeat first | rw [s_ne_rd (by omega)] | rw [s_ne_ri (by omega)] | rw [s_fn_ne (by omega)] | rw [s_pf_ne (by omega)] | rw [s_put_ne (by omega)] | rw [s_clr_ne (by omega)] | rw [s_mw_ne (by omega)]); done)))), Int.le_trans (Int.le_of_eq (by first | rfl | ((repeat first | rw [s_ne_rd (by omega)] | rw [s_ne_ri (by omega)] | rw [s_fn_ne (by omega)] | rw [s_pf_ne (by omega)] | rw [s_put_ne (by omega)] | rw [s_clr_ne (by omega)] | rw [s_mw_ne (by omega)]); done))) (show X 4 6 ≤ ((c + 1 : Nat) : Int) by omega)⟩

set_option maxHeartbeats 4000000 in
theorem R_drop {c n : Nat} {h : Int → Nat} {X M : ew_Mem} (hK : s_K c n X) (hR : s_RM h X M) (h0 : 0 < X 5 2) : s_RM h (s_dr X) (s_drM X M) := by
  obtain ⟨k0, k1, k2, k3, k4, k5, k6, k7, k8, k9, k10, k11⟩ := id hK
  obtain ⟨g1, g2, g6, g7, g8, g9⟩ := id hR
  unfold s_dr s_drM
  refine ⟨?_, ?_, ?_, ?_, ?_, ?_⟩
  · exact ⟨rfl, rfl, rfl, g1.2.2.2⟩
  · refine s_R2_sh (fun a q => s_dr_lv q) (fun a ha => by
      have hq := s_OB_w (s_lv_OB hK ha)
      exact s_ob_ag (fun i => (by first | rfl | ((repeat first | rw [s_ne_rd (by omega)] | rw [s_ne_ri (by omega)] | rw [s_fn_ne (by omega)] | rw [s_pf_ne (by omega)] | rw [s_put_ne (by omega)] | rw [s_clr_ne (by omega)] | rw [s_mw_ne (by omega)]); done)))) (fun i => (by first | rfl | ((repeat first | rw [s_ne_rd (by omega)] | rw [s_ne_ri (by omega)] | rw [s_fn_ne (by omega)] | rw [s_pf_ne (by omega)] | rw [s_put_ne (by omega)] | rw [s_clr_ne (by omega)] | rw [s_mw_ne (by omega)]); done))) (fun i => (by first | rfl | ((repeat first | rw [s_ne_rd (by omega)] | rw [s_ne_ri (by omega)] | rw [s_fn_ne (by omega)] | rw [s_pf_ne (by omega)] | rw [s_put_ne (by omega)] | rw [s_clr_ne (by omega)] | rw [s_mw_ne (by omega)]); done))) (fun i => (by first | rfl | ((repeat first | rw [s_ne_rd (by omega)] | rw [s_ne_ri (by omega)] | rw [s_fn_ne (by omega)] | rw [s_pf_ne (by omega)] | rw [s_put_ne (by omega)] | rw [s_clr_ne (by omega)] | rw [s_mw_ne (by omega)]); done))) (fun i => (by first | rfl | ((repeat first | rw [s_ne_rd (by omega)] | rw [s_ne_ri (by omega)] | rw [s_fn_ne (by omega)] | rw [s_pf_ne (by omega)] | rw [s_put_ne (by omega)] | rw [s_clr_ne (by omega)] | rw [s_mw_ne (by omega)]); done))) (fun i => (by first | rfl | ((repeat first | rw [s_ne_rd (by omega)] | rw [s_ne_ri (by omega)] | rw [s_fn_ne (by omega)] | rw [s_pf_ne (by omega)] | rw [s_put_ne (by omega)] | rw [s_clr_ne (by omega)] | rw [s_mw_ne (by omega)]); done))) (fun r hr => ?_) (fun t i ht hi => ?_) g2
    · have hr' : (r : Int) < X 5 2 - 1 := hr
      show M 44 r = (h (if r = (X 5 2 - 1).toNat then 0 else X 6 r) : Int)
      rw [if_neg (by omega)]
      exact g2.1 r (by omega)
    · rw [s_ne_rd (by omega), s_ne_rd (by omega), s_ne_rd (by omega), s_ne_rd (by omega), s_ne_rd (by omega), s_ne_rd (by omega), s_ne_rd (by omega)]
      exact g2.2.1 t i ht hi
  · exact s_R6_ag (fun t i ht hi => (by first | rfl | ((repeat first | rw [s_ne_rd (by omega)] | rw [s_ne_ri (by omega)] | rw [s_fn_ne (by omega)] | rw [s_pf_ne (by omega)] | rw [s_put_ne (by omega)] | rw [s_clr_ne (by omega)] | rw [s_mw_ne (by omega)]); done))) (fun i => (by first | rfl | ((repeat first | rw [s_ne_rd (by omega)] | rw [s_ne_ri (by omega)] | rw [s_fn_ne (by omega)] | rw [s_pf_ne (by omega)] | rw [s_put_ne (by omega)] | rw [s_clr_ne (by omega)] | rw [s_mw_ne (by omega)]); done))) (fun i => (by first | rfl | ((repeat first | rw [s_ne_rd (by omega)] | rw [s_ne_ri (by omega)] | rw [s_fn_ne (by omega)] | rw [s_pf_ne (by omega)] | rw [s_put_ne (by omega)] | rw [s_clr_ne (by omega)] | rw [s_mw_ne (by omega)]); done))) g6
  · exact s_R7_ag (fun l hl => (by first | rfl | ((repeat first | rw [s_ne_rd (by omega)] | rw [s_ne_ri (by omega)] | rw [s_fn_ne (by omega)] | rw [s_pf_ne (by omega)] | rw [s_put_ne (by omega)] | rw [s_clr_ne (by omega)] | rw [s_mw_ne (by omega)]); done))) (fun l i hl hi => (by first | rfl | ((repeat first | rw [s_ne_rd (by omega)] | rw [s_ne_ri (by omega)] | rw [s_fn_ne (by omega)] | rw [s_pf_ne (by omega)] | rw [s_put_ne (by omega)] | rw [s_clr_ne (by omega)] | rw [s_mw_ne (by omega)]); done))) (fun i => (by first | rfl | ((repeat first | rw [s_ne_rd (by omega)] | rw [s_ne_ri (by omega)] | rw [s_fn_ne (by omega)] | rw [s_pf_ne (by omega)] | rw [s_put_ne (by omega)] | rw [s_clr_ne (by omega)] | rw [s_mw_ne (by omega)]); done))) (fun i => (by first | rfl | ((repeat first | rw [s_ne_rd (by omega)] | rw [s_ne_ri (by omega)] | rw [s_fn_ne (by omega)] | rw [s_pf_ne (by omega)] | rw [s_put_ne (by omega)] | rw [s_clr_ne (by omega)] | rw [s_mw_ne (by omega)]); done))) g7
  · exact s_R8_ag (by first | rfl | ((repeat first | rw [s_ne_rd (by omega)] | rw [s_ne_ri (by omega)] | rw [s_fn_ne (by omega)] | rw [s_pf_ne (by omega)] | rw [s_put_ne (by omega)] | rw [s_clr_ne (by omega)] | rw [s_mw_ne (by omega)]); done)) (fun i => (by first | rfl | ((repeat first | rw [s_ne_rd (by omega)] | rw [s_ne_ri (by omega)] | rw [s_fn_ne (by omega)] | rw [s_pf_ne (by omega)] | rw [s_put_ne (by omega)] | rw [s_clr_ne (by omega)] | rw [s_mw_ne (by omega)]); done))) (by first | rfl | ((repeat first | rw [s_ne_rd (by omega)] | rw [s_ne_ri (by omega)] | rw [s_fn_ne (by omega)] | rw [s_pf_ne (by omega)] | rw [s_put_ne (by omega)] | rw [s_clr_ne (by omega)] | rw [s_mw_ne (by omega)]); done)) (by first | rfl | ((repeat first | rw [s_ne_rd (by omega)] | rw [s_ne_ri (by omega)] | rw [s_fn_ne (by omega)] | rw [s_pf_ne (by omega)] | rw [s_put_ne (by omega)] | rw [s_clr_ne (by omega)] | rw [s_mw_ne (by omega)]); done)) (fun i => (by first | rfl | ((repeat first | rw [s_ne_rd (by omega)] | rw [s_ne_ri (by omega)] | rw [s_fn_ne (by omega)] | rw [s_pf_ne (by omega)] | rw [s_put_ne (by omega)] | rw [s_clr_ne (by omega)] | rw [s_mw_ne (by omega)]); done))) (by first | rfl | ((repeat first | rw [s_ne_rd (by omega)] | rw [s_ne_ri (by omega)] | rw [s_fn_ne (by omega)] | rw [s_pf_ne (by omega)] | rw [s_put_ne (by omega)] | rw [s_clr_ne (by omega)] | rw [s_mw_ne (by omega)]); done)) g8
  · exact s_R9_ag (by first | rfl | ((repeat first | rw [s_ne_rd (by omega)] | rw [s_ne_ri (by omega)] | rw [s_fn_ne (by omega)] | rw [s_pf_ne (by omega)] | rw [s_put_ne (by omega)] | rw [s_clr_ne (by omega)] | rw [s_mw_ne (by omega)]); done)) (fun i => (by first | rfl | ((repeat first | rw [s_ne_rd (by omega)] | rw [s_ne_ri (by omega)] | rw [s_fn_ne (by omega)] | rw [s_pf_ne (by omega)] | rw [s_put_ne (by omega)] | rw [s_clr_ne (by omega)] | rw [s_mw_ne (by omega)]); done))) (fun i => (by first | rfl | ((repeat first | rw [s_ne_rd (by omega)] | rw [s_ne_ri (by omega)] | rw [s_fn_ne (by omega)] | rw [s_pf_ne (by omega)] | rw [s_put_ne (by omega)] | rw [s_clr_ne (by omega)] | rw [s_mw_ne (by omega)]); done))) (fun i => (by first | rfl | ((repeat first | rw [s_ne_rd (by omega)] | rw [s_ne_ri (by omega)] | rw [s_fn_ne (by omega)] | rw [s_pf_ne (by omega)] | rw [s_put_ne (by omega)] | rw [s_clr_ne (by omega)] | rw [s_mw_ne (by omega)]); done))) (fun q r hr => by
      have hq := s_OB_w (s_kept hK q hr).1
      exact s_ob_ag (fun i => (by first | rfl | ((repeat first | rw [s_ne_rd (by omega)] | rw [s_ne_ri (by omega)] | rw [s_fn_ne (by omega)] | rw [s_pf_ne (by omega)] | rw [s_put_ne (by omega)] | rw [s_clr_ne (by omega)] | rw [s_mw_ne (by omega)]); done)))) (by first | rfl | ((repeat first | rw [s_ne_rd (by omega)] | rw [s_ne_ri (by omega)] | rw [s_fn_ne (by omega)] | rw [s_pf_ne (by omega)] | rw [s_put_ne (by omega)] | rw [s_clr_ne (by omega)] | rw [s_mw_ne (by omega)]); done)) (fun i => (by first | rfl | ((repeat first | rw [s_ne_rd (by omega)] | rw [s_ne_ri (by omega)] | rw [s_fn_ne (by omega)] | rw [s_pf_ne (by omega)] | rw [s_put_ne (by omega)] | rw [s_clr_ne (by omega)] | rw [s_mw_ne (by omega)]); done))) g9

set_option maxHeartbeats 4000000 in
theorem K_turn {c n : Nat} {X : ew_Mem} (hK : s_K c n X) {w : Nat} {s t : Int} (hw : (w : Int) < X 5 2) (hab : s_AB (X (X 6 w).toNat 1) s t) : s_K (c + 1) n (s_tn X (X 6 w).toNat s t) := by
  obtain ⟨k0, k1, k2, k3, k4, k5, k6, k7, k8, k9, k10, k11⟩ := id hK
  have ho := s_OB_w (s_li_OB hK hw)
  unfold s_tn
  refine ⟨by omega, by omega, ?_, ?_, ?_, ?_, ?_, ?_, ?_, ?_, ?_⟩
  · exact ew_Pm_wrA (ew_Pm_wrA k2 (ew_pa_w (by omega))) (ew_pa_w (by omega))
  · exact s_S1_ag (fun i => (by first | rfl | ((repeat first | rw [s_ne_rd (by omega)] | rw [s_ne_ri (by omega)] | rw [s_fn_ne (by omega)] | rw [s_pf_ne (by omega)] | rw [s_put_ne (by omega)] | rw [s_clr_ne (by omega)] | rw [s_mw_ne (by omega)]); done))) (fun i => (by first | rfl | ((repeat first | rw [s_ne_rd (by omega)] | rw [s_ne_ri (by omega)] | rw [s_fn_ne (by omega)] | rw [s_pf_ne (by omega)] | rw [s_put_ne (by omega)] | rw [s_clr_ne (by omega)] | rw [s_mw_ne (by omega)]); done))) k3
  · exact s_K2_ob (by first | rfl | ((repeat first | rw [s_ne_rd (by omega)] | rw [s_ne_ri (by omega)] | rw [s_fn_ne (by omega)] | rw [s_pf_ne (by omega)] | rw [s_put_ne (by omega)] | rw [s_clr_ne (by omega)] | rw [s_mw_ne (by omega)]); done)) (fun i => (by first | rfl | ((repeat first | rw [s_ne_rd (by omega)] | rw [s_ne_ri (by omega)] | rw [s_fn_ne (by omega)] | rw [s_pf_ne (by omega)] | rw [s_put_ne (by omega)] | rw [s_clr_ne (by omega)] | rw [s_mw_ne (by omega)]); done))) (fun a => s_tn_OB hab) k4
  · exact s_K3_ag (by first | rfl | ((repeat first | rw [s_ne_rd (by omega)] | rw [s_ne_ri (by omega)] | rw [s_fn_ne (by omega)] | rw [s_pf_ne (by omega)] | rw [s_put_ne (by omega)] | rw [s_clr_ne (by omega)] | rw [s_mw_ne (by omega)]); done)) (fun i => (by first | rfl | ((repeat first | rw [s_ne_rd (by omega)] | rw [s_ne_ri (by omega)] | rw [s_fn_ne (by omega)] | rw [s_pf_ne (by omega)] | rw [s_put_ne (by omega)] | rw [s_clr_ne (by omega)] | rw [s_mw_ne (by omega)]); done))) k5
  · exact s_K4_ob (fun t i ht hi => (by first | rfl | ((repeat first | rw [s_ne_rd (by omega)] | rw [s_ne_ri (by omega)] | rw [s_fn_ne (by omega)] | rw [s_pf_ne (by omega)] | rw [s_put_ne (by omega)] | rw [s_clr_ne (by omega)] | rw [s_mw_ne (by omega)]); done))) (fun t i ht hi => (by first | rfl | ((repeat first | rw [s_ne_rd (by omega)] | rw [s_ne_ri (by omega)] | rw [s_fn_ne (by omega)] | rw [s_pf_ne (by omega)] | rw [s_put_ne (by omega)] | rw [s_clr_ne (by omega)] | rw [s_mw_ne (by omega)]); done))) (fun a => s_tn_OB hab) k6
  · exact s_K5_ag (fun l hl => (by first | rfl | ((repeat first | rw [s_ne_rd (by omega)] | rw [s_ne_ri (by omega)] | rw [s_fn_ne (by omega)] | rw [s_pf_ne (by omega)] | rw [s_put_ne (by omega)] | rw [s_clr_ne (by omega)] | rw [s_mw_ne (by omega)]); done))) (fun l i hl hi => (by first | rfl | ((repeat first | rw [s_ne_rd (by omega)] | rw [s_ne_ri (by omega)] | rw [s_fn_ne (by omega)] | rw [s_pf_ne (by omega)] | rw [s_put_ne (by omega)] | rw [s_clr_ne (by omega)] | rw [s_mw_ne (by omega)]); done))) k7
  · exact s_K6_ag (by first | rfl | ((repeat first | rw [s_ne_rd (by omega)] | rw [s_ne_ri (by omega)] | rw [s_fn_ne (by omega)] | rw [s_pf_ne (by omega)] | rw [s_put_ne (by omega)] | rw [s_clr_ne (by omega)] | rw [s_mw_ne (by omega)]); done)) (fun i => (by first | rfl | ((repeat first | rw [s_ne_rd (by omega)] | rw [s_ne_ri (by omega)] | rw [s_fn_ne (by omega)] | rw [s_pf_ne (by omega)] | rw [s_put_ne (by omega)] | rw [s_clr_ne (by omega)] | rw [s_mw_ne (by omega)]); done))) k8
  · exact s_K7_ag (by first | rfl | ((repeat first | rw [s_ne_rd (by omega)] | rw [s_ne_ri (by omega)] | rw [s_fn_ne (by omega)] | rw [s_pf_ne (by omega)] | rw [s_put_ne (by omega)] | rw [s_clr_ne (by omega)] | rw [s_mw_ne (by omega)]); done)) (fun i => (by first | rfl | ((repeat first | rw [s_ne_rd (by omega)] | rw [s_ne_ri (by omega)] | rw [s_fn_ne (by omega)] | rw [s_pf_ne (by omega)] | rw [s_put_ne (by omega)] | rw [s_clr_ne (by omega)] | rw [s_mw_ne (by omega)]); done))) (fun i => (by first | rfl | ((repeat first | rw [s_ne_rd (by omega)] | rw [s_ne_ri (by omega)] | rw [s_fn_ne (by omega)] | rw [s_pf_ne (by omega)] | rw [s_put_ne (by omega)] | rw [s_clr_ne (by omega)] | rw [s_mw_ne (by omega)]); done))) (fun i => (by first | rfl | ((repeat first | rw [s_ne_rd (by omega)] | rw [s_ne_ri (by omega)] | rw [s_fn_ne (by omega)] | rw [s_pf_ne (by omega)] | rw [s_put_ne (by omega)] | rw [s_clr_ne (by omega)] | rw [s_mw_ne (by omega)]); done))) (fun a g hl => s_tn_ob_ne (fun e => hl (Or.inl ⟨w, hw, by have := s_OB_w g; omega⟩))) (by omega) (fun a g => s_lv_ag (by first | rfl | ((repeat first | rw [s_ne_rd (by omega)] | rw [s_ne_ri (by omega)] | rw [s_fn_ne (by omega)] | rw [s_pf_ne (by omega)] | rw [s_put_ne (by omega)] | rw [s_clr_ne (by omega)] | rw [s_mw_ne (by omega)]); done)) (fun i => (by first | rfl | ((repeat first | rw [s_ne_rd (by omega)] | rw [s_ne_ri (by omega)] | rw [s_fn_ne (by omega)] | rw [s_pf_ne (by omega)] | rw [s_put_ne (by omega)] | rw [s_clr_ne (by omega)] | rw [s_mw_ne (by omega)]); done))) (fun t i ht hi => (by first | rfl | ((repeat first | rw [s_ne_rd (by omega)] | rw [s_ne_ri (by omega)] | rw [s_fn_ne (by omega)] | rw [s_pf_ne (by omega)] | rw [s_put_ne (by omega)] | rw [s_clr_ne (by omega)] | rw [s_mw_ne (by omega)]); done)))) k9
  · exact ⟨Int.le_trans k10 (Int.le_of_eq (Eq.symm (by first | rfl | ((repeat first | rw [s_ne_rd (by omega)] | rw [s_ne_ri (by omega)] | rw [s_fn_ne (by omega)] | rw [s_pf_ne (by omega)] | rw [s_put_ne (by omega)] | rw [s_clr_ne (by omega)] | rw [s_mw_ne (by omega)]); done)))), Int.le_trans (Int.le_of_eq (by first | rfl | ((repeat first | rw [s_ne_rd (by omega)] | rw [s_ne_ri (by omega)] | rw [s_fn_ne (by omega)] | rw [s_pf_ne (by omega)] | rw [s_put_ne (by omega)] | rw [s_clr_ne (by omega)] | rw [s_mw_ne (by omega)]); done))) (show X 4 6 ≤ ((c + 1 : Nat) : Int) by omega)⟩

set_option maxHeartbeats 4000000 in
theorem R_turn {c n : Nat} {h : Int → Nat} {X M : ew_Mem} (hK : s_K c n X) (hR : s_RM h X M) {w : Nat} {s t : Int} (hw : (w : Int) < X 5 2) (hab : s_AB (X (X 6 w).toNat 1) s t) : s_RM h (s_tn X (X 6 w).toNat s t) (ew_wr (ew_wr M 41 (h (X 6 w)) s) 42 (h (X 6 w)) t) := by
  obtain ⟨k0, k1, k2, k3, k4, k5, k6, k7, k8, k9, k10, k11⟩ := id hK
  obtain ⟨g1, g2, g6, g7, g8, g9⟩ := id hR
  have ho := s_OB_w (s_li_OB hK hw)
  unfold s_tn
  refine ⟨?_, ?_, ?_, ?_, ?_, ?_⟩
  · exact s_R1_ag (fun i => (by first | rfl | ((repeat first | rw [s_ne_rd (by omega)] | rw [s_ne_ri (by omega)] | rw [s_fn_ne (by omega)] | rw [s_pf_ne (by omega)] | rw [s_put_ne (by omega)] | rw [s_clr_ne (by omega)] | rw [s_mw_ne (by omega)]); done))) (fun i => (by first | rfl | ((repeat first | rw [s_ne_rd (by omega)] | rw [s_ne_ri (by omega)] | rw [s_fn_ne (by omega)] | rw [s_pf_ne (by omega)] | rw [s_put_ne (by omega)] | rw [s_clr_ne (by omega)] | rw [s_mw_ne (by omega)]); done))) (by first | rfl | ((repeat first | rw [s_ne_rd (by omega)] | rw [s_ne_ri (by omega)] | rw [s_fn_ne (by omega)] | rw [s_pf_ne (by omega)] | rw [s_put_ne (by omega)] | rw [s_clr_ne (by omega)] | rw [s_mw_ne (by omega)]); done)) (by first | rfl | ((repeat first | rw [s_ne_rd (by omega)] | rw [s_ne_ri (by omega)] | rw [s_fn_ne (by omega)] | rw [s_pf_ne (by omega)] | rw [s_put_ne (by omega)] | rw [s_clr_ne (by omega)] | rw [s_mw_ne (by omega)]); done)) (by first | rfl | ((repeat first | rw [s_ne_rd (by omega)] | rw [s_ne_ri (by omega)] | rw [s_fn_ne (by omega)] | rw [s_pf_ne (by omega)] | rw [s_put_ne (by omega)] | rw [s_clr_ne (by omega)] | rw [s_mw_ne (by omega)]); done)) (fun i => (by first | rfl | ((repeat first | rw [s_ne_rd (by omega)] | rw [s_ne_ri (by omega)] | rw [s_fn_ne (by omega)] | rw [s_pf_ne (by omega)] | rw [s_put_ne (by omega)] | rw [s_clr_ne (by omega)] | rw [s_mw_ne (by omega)]); done))) g1
  · have hlw : s_lv X (X 6 w) := Or.inl ⟨w, hw, rfl⟩
    have hlv : ∀ a, s_lv (ew_wr (ew_wr X (X 6 w).toNat 3 s) (X 6 w).toNat 4 t) a → s_lv X a := fun a g => s_lv_ag (by first | rfl | ((repeat first | rw [s_ne_rd (by omega)] | rw [s_ne_ri (by omega)] | rw [s_fn_ne (by omega)] | rw [s_pf_ne (by omega)] | rw [s_put_ne (by omega)] | rw [s_clr_ne (by omega)] | rw [s_mw_ne (by omega)]); done)) (fun i => (by first | rfl | ((repeat first | rw [s_ne_rd (by omega)] | rw [s_ne_ri (by omega)] | rw [s_fn_ne (by omega)] | rw [s_pf_ne (by omega)] | rw [s_put_ne (by omega)] | rw [s_clr_ne (by omega)] | rw [s_mw_ne (by omega)]); done))) (fun t i ht hi => (by first | rfl | ((repeat first | rw [s_ne_rd (by omega)] | rw [s_ne_ri (by omega)] | rw [s_fn_ne (by omega)] | rw [s_pf_ne (by omega)] | rw [s_put_ne (by omega)] | rw [s_clr_ne (by omega)] | rw [s_mw_ne (by omega)]); done))) g
    obtain ⟨f1, f2, f3, f4⟩ := id g2
    refine ⟨fun r hr => ?_, fun t i ht hi => ?_, fun a ha => ?_, fun a b ha hb => f4 a b (hlv a ha) (hlv b hb)⟩
    · rw [s_ne_rd (by omega), s_ne_rd (by omega)] at hr
      rw [s_ne_rd (by omega), s_ne_rd (by omega), s_ne_rd (by omega), s_ne_rd (by omega)]
      exact f1 r hr
    · rw [s_ne_rd (by omega), s_ne_rd (by omega), s_ne_rd (by omega), s_ne_rd (by omega)]
      exact f2 t i ht hi
    · have hla := hlv a ha
      obtain ⟨q0, q1, q2, q3, q4, q5⟩ := f3 a hla
      have hq := s_OB_w (s_lv_OB hK hla)
      by_cases e : a = X 6 w
      · subst e
        have hob : s_ob (ew_wr (ew_wr X (X 6 w).toNat 3 s) (X 6 w).toNat 4 t) (X 6 w) = _ := s_tn_ob
        rw [hob]
        refine ⟨q0, ?_, ?_, ?_, ?_, ?_⟩
        · rw [s_ne_rd (by omega), s_ne_rd (by omega)]; exact q1
        · rw [s_ne_rd (by omega), s_ne_rd (by omega)]; exact q2
        · rw [s_ne_rd (by omega), s_eq_rd]; rfl
        · rw [s_eq_rd]; rfl
        · rw [s_ne_rd (by omega), s_ne_rd (by omega)]; exact q5
      · have hne : ¬ h a = h (X 6 w) := fun e2 => e (f4 a _ hla hlw e2)
        have hob : s_ob (ew_wr (ew_wr X (X 6 w).toNat 3 s) (X 6 w).toNat 4 t) a = s_ob X a := s_tn_ob_ne (by omega)
        rw [hob]
        refine ⟨q0, ?_, ?_, ?_, ?_, ?_⟩
        · rw [s_ne_rd (by omega), s_ne_rd (by omega)]; exact q1
        · rw [s_ne_rd (by omega), s_ne_rd (by omega)]; exact q2
        · rw [s_ne_rd (by omega), s_ne_ri hne]; exact q3
        · rw [s_ne_ri hne, s_ne_rd (by omega)]; exact q4
        · rw [s_ne_rd (by omega), s_ne_rd (by omega)]; exact q5
  · exact s_R6_ag (fun t i ht hi => (by first | rfl | ((repeat first | rw [s_ne_rd (by omega)] | rw [s_ne_ri (by omega)] | rw [s_fn_ne (by omega)] | rw [s_pf_ne (by omega)] | rw [s_put_ne (by omega)] | rw [s_clr_ne (by omega)] | rw [s_mw_ne (by omega)]); done))) (fun i => (by first | rfl | ((repeat first | rw [s_ne_rd (by omega)] | rw [s_ne_ri (by omega)] | rw [s_fn_ne (by omega)] | rw [s_pf_ne (by omega)] | rw [s_put_ne (by omega)] | rw [s_clr_ne (by omega)] | rw [s_mw_ne (by omega)]); done))) (fun i => (by first | rfl | ((repeat first | rw [s_ne_rd (by omega)] | rw [s_ne_ri (by omega)] | rw [s_fn_ne (by omega)] | rw [s_pf_ne (by omega)] | rw [s_put_ne (by omega)] | rw [s_clr_ne (by omega)] | rw [s_mw_ne (by omega)]); done))) g6
  · exact s_R7_ag (fun l hl => (by first | rfl | ((repeat first | rw [s_ne_rd (by omega)] | rw [s_ne_ri (by omega)] | rw [s_fn_ne (by omega)] | rw [s_pf_ne (by omega)] | rw [s_put_ne (by omega)] | rw [s_clr_ne (by omega)] | rw [s_mw_ne (by omega)]); done))) (fun l i hl hi => (by first | rfl | ((repeat first | rw [s_ne_rd (by omega)] | rw [s_ne_ri (by omega)] | rw [s_fn_ne (by omega)] | rw [s_pf_ne (by omega)] | rw [s_put_ne (by omega)] | rw [s_clr_ne (by omega)] | rw [s_mw_ne (by omega)]); done))) (fun i => (by first | rfl | ((repeat first | rw [s_ne_rd (by omega)] | rw [s_ne_ri (by omega)] | rw [s_fn_ne (by omega)] | rw [s_pf_ne (by omega)] | rw [s_put_ne (by omega)] | rw [s_clr_ne (by omega)] | rw [s_mw_ne (by omega)]); done))) (fun i => (by first | rfl | ((repeat first | rw [s_ne_rd (by omega)] | rw [s_ne_ri (by omega)] | rw [s_fn_ne (by omega)] | rw [s_pf_ne (by omega)] | rw [s_put_ne (by omega)] | rw [s_clr_ne (by omega)] | rw [s_mw_ne (by omega)]); done))) g7
  · exact s_R8_ag (by first | rfl | ((repeat first | rw [s_ne_rd (by omega)] | rw [s_ne_ri (by omega)] | rw [s_fn_ne (by omega)] | rw [s_pf_ne (by omega)] | rw [s_put_ne (by omega)] | rw [s_clr_ne (by omega)] | rw [s_mw_ne (by omega)]); done)) (fun i => (by first | rfl | ((repeat first | rw [s_ne_rd (by omega)] | rw [s_ne_ri (by omega)] | rw [s_fn_ne (by omega)] | rw [s_pf_ne (by omega)] | rw [s_put_ne (by omega)] | rw [s_clr_ne (by omega)] | rw [s_mw_ne (by omega)]); done))) (by first | rfl | ((repeat first | rw [s_ne_rd (by omega)] | rw [s_ne_ri (by omega)] | rw [s_fn_ne (by omega)] | rw [s_pf_ne (by omega)] | rw [s_put_ne (by omega)] | rw [s_clr_ne (by omega)] | rw [s_mw_ne (by omega)]); done)) (by first | rfl | ((repeat first | rw [s_ne_rd (by omega)] | rw [s_ne_ri (by omega)] | rw [s_fn_ne (by omega)] | rw [s_pf_ne (by omega)] | rw [s_put_ne (by omega)] | rw [s_clr_ne (by omega)] | rw [s_mw_ne (by omega)]); done)) (fun i => (by first | rfl | ((repeat first | rw [s_ne_rd (by omega)] | rw [s_ne_ri (by omega)] | rw [s_fn_ne (by omega)] | rw [s_pf_ne (by omega)] | rw [s_put_ne (by omega)] | rw [s_clr_ne (by omega)] | rw [s_mw_ne (by omega)]); done))) (by first | rfl | ((repeat first | rw [s_ne_rd (by omega)] | rw [s_ne_ri (by omega)] | rw [s_fn_ne (by omega)] | rw [s_pf_ne (by omega)] | rw [s_put_ne (by omega)] | rw [s_clr_ne (by omega)] | rw [s_mw_ne (by omega)]); done)) g8
  · exact s_R9_ag (by first | rfl | ((repeat first | rw [s_ne_rd (by omega)] | rw [s_ne_ri (by omega)] | rw [s_fn_ne (by omega)] | rw [s_pf_ne (by omega)] | rw [s_put_ne (by omega)] | rw [s_clr_ne (by omega)] | rw [s_mw_ne (by omega)]); done)) (fun i => (by first | rfl | ((repeat first | rw [s_ne_rd (by omega)] | rw [s_ne_ri (by omega)] | rw [s_fn_ne (by omega)] | rw [s_pf_ne (by omega)] | rw [s_put_ne (by omega)] | rw [s_clr_ne (by omega)] | rw [s_mw_ne (by omega)]); done))) (fun i => (by first | rfl | ((repeat first | rw [s_ne_rd (by omega)] | rw [s_ne_ri (by omega)] | rw [s_fn_ne (by omega)] | rw [s_pf_ne (by omega)] | rw [s_put_ne (by omega)] | rw [s_clr_ne (by omega)] | rw [s_mw_ne (by omega)]); done))) (fun i => (by first | rfl | ((repeat first | rw [s_ne_rd (by omega)] | rw [s_ne_ri (by omega)] | rw [s_fn_ne (by omega)] | rw [s_pf_ne (by omega)] | rw [s_put_ne (by omega)] | rw [s_clr_ne (by omega)] | rw [s_mw_ne (by omega)]); done))) (fun q r hr => s_tn_ob_ne (fun e => (s_kept hK q hr).2 (Or.inl ⟨w, hw, by have := s_OB_w (s_kept hK q hr).1; omega⟩))) (by first | rfl | ((repeat first | rw [s_ne_rd (by omega)] | rw [s_ne_ri (by omega)] | rw [s_fn_ne (by omega)] | rw [s_pf_ne (by omega)] | rw [s_put_ne (by omega)] | rw [s_clr_ne (by omega)] | rw [s_mw_ne (by omega)]); done)) (fun i => (by first | rfl | ((repeat first | rw [s_ne_rd (by omega)] | rw [s_ne_ri (by omega)] | rw [s_fn_ne (by omega)] | rw [s_pf_ne (by omega)] | rw [s_put_ne (by omega)] | rw [s_clr_ne (by omega)] | rw [s_mw_ne (by omega)]); done))) g9

theorem s_ad_eo2 {n : Nat} {X : ew_Mem} {k p s t d z : Int} : s_eo n X (s_ad X n k p s t d z) := fun a h1 h2 i => s_ad_eo h1 (by omega) i
theorem s_ad_OB {n : Nat} {X : ew_Mem} (hn : 59 ≤ n) {k p s t d z : Int} (hW : (0 ≤ k ∧ k ≤ 4) ∧ s_AB p s t) (hd : 0 ≤ d ∧ d < 2147483648) : s_OB (n + 1) (s_ad X n k p s t d z) (n : Int) := by
  refine ⟨ew_own_w (by omega) (by omega), ?_⟩
  rw [s_ad_ob hn]
  exact ⟨hW.1, hW.2.1, hW.2.2.1, hW.2.2.2, hd⟩
set_option maxHeartbeats 4000000 in
theorem K_add {c n : Nat} {X : ew_Mem} (hK : s_K c n X) {k p s t d : Int} (hW : (0 ≤ k ∧ k ≤ 4) ∧ s_AB p s t) (hd : 0 ≤ d ∧ d < 2147483648) (h6 : X 5 2 < 6) : s_K (c + 1) (n + 1) (s_ad X n k p s t d (X 5 2)) := by
  obtain ⟨k0, k1, k2, k3, k4, k5, k6, k7, k8, k9, k10, k11⟩ := id hK
  refine ⟨by omega, by omega, ?_, ?_, ?_, ?_, ?_, ?_, ?_, ?_, ?_⟩
  · exact ew_Pm_wr (ew_Pm_wrA (ew_Pm_wrA (ew_Pm_wrA (ew_Pm_wrA (ew_Pm_wrA (ew_Pm_wrA (s_clr_pm k2 k0) (ew_pa_w k0)) (ew_pa_w k0)) (ew_pa_w k0)) (ew_pa_w k0)) (ew_pa_w k0)) rfl) rfl
  · obtain ⟨a1, a2, a3, a4⟩ := id k3
    have e2 : (s_ad X n k p s t d (X 5 2)) 5 2 = X 5 2 + 1 := s_ad_2
    have e3 : (s_ad X n k p s t d (X 5 2)) 5 3 = X 5 3 := (s_ad_n (by omega) (by omega) (by omega))
    have e4 : (s_ad X n k p s t d (X 5 2)) 5 4 = X 5 4 := (s_ad_n (by omega) (by omega) (by omega))
    have e7 : ∀ i, (s_ad X n k p s t d (X 5 2)) 7 i = X 7 i := fun i => (s_ad_n (by omega) (by omega) (by omega))
    unfold s_S1
    rw [e2, e3, e4, e7, e7, e7, e7, e7, e7]
    exact ⟨by omega, by omega, by omega, a4⟩
  · intro r hr
    rw [s_ad_2, s_ad_6 k0]
    have hc6 := k3.1
    by_cases e : r = (X 5 2).toNat
    · rw [if_pos e]
      exact Or.inl ⟨by omega, s_ad_OB k0 hW hd⟩
    · rw [if_neg e]
      rcases k4 r hr with g | g
      · exact Or.inl ⟨by omega, s_OB_eo s_ad_eo2 (by omega) g.2⟩
      · exact Or.inr ⟨by omega, g.2⟩
  · intro r q hr hq he
    rw [s_ad_2] at hr hq
    rw [s_ad_6 k0, s_ad_6 k0] at he
    have hc6 := k3.1
    by_cases e1 : r = (X 5 2).toNat
    · by_cases e2 : q = (X 5 2).toNat
      · omega
      · rw [if_pos e1, if_neg e2] at he
        have := s_OB_w (s_li_OB hK (w := q) (by omega))
        omega
    · by_cases e2 : q = (X 5 2).toNat
      · rw [if_neg e1, if_pos e2] at he
        have := s_OB_w (s_li_OB hK (w := r) (by omega))
        omega
      · rw [if_neg e1, if_neg e2] at he
        exact k5 r q (by omega) (by omega) he
  · exact s_K4_ag (fun t i ht hi => (s_ad_n (by omega) (by omega) (by omega))) (fun t i ht hi => (s_ad_n (by omega) (by omega) (by omega))) s_ad_eo2 (by omega) k6
  · exact s_K5_ag (fun l hl => (s_ad_n (by omega) (by omega) (by omega))) (fun l i hl hi => (s_ad_n (by omega) (by omega) (by omega))) k7
  · exact s_K6_ag (s_ad_n (by omega) (by omega) (by omega)) (fun i => (s_ad_n (by omega) (by omega) (by omega))) k8
  · exact s_K7_ag (s_ad_n (by omega) (by omega) (by omega)) (fun i => (s_ad_n (by omega) (by omega) (by omega))) (fun i => (s_ad_n (by omega) (by omega) (by omega))) (fun i => (s_ad_n (by omega) (by omega) (by omega))) (fun a g hl => s_ob_eo s_ad_eo2 g) (by omega) (fun a g q => by
      have hq := s_OB_w g
      rcases s_ad_lv k0 k3.1.1 q with f | f
      · omega
      · exact f) k9
  · exact ⟨Int.le_trans k10 (Int.le_of_eq (Eq.symm (s_ad_n (by omega) (by omega) (by omega)))), Int.le_trans (Int.le_of_eq (s_ad_n (by omega) (by omega) (by omega))) (show X 4 6 ≤ ((c + 1 : Nat) : Int) by omega)⟩

theorem s_cm_n {M : ew_Mem} {i : Nat} {k p s t d z : Int} {a j : Nat} (h : a < 38 ∨ 44 < a ∨ (a = 38 ∧ ¬ j = 5)) : s_cm M i k p s t d z a j = M a j := by
  unfold s_cm
  by_cases e : a = 38
  · subst e
    rw [s_ne_ri (by omega), s_ne_rd (by omega), s_ne_rd (by omega), s_ne_rd (by omega), s_ne_rd (by omega), s_ne_rd (by omega), s_ne_rd (by omega)]
  · rw [s_ne_rd (by omega), s_ne_rd (by omega), s_ne_rd (by omega), s_ne_rd (by omega), s_ne_rd (by omega), s_ne_rd (by omega), s_ne_rd (by omega)]
theorem s_cm_44 {M : ew_Mem} {i : Nat} {k p s t d z : Int} (r : Nat) : s_cm M i k p s t d z 44 r = if r = z.toNat then (i : Int) else M 44 r := by
  unfold s_cm
  rw [s_ne_rd (by omega)]
  by_cases e : r = z.toNat
  · rw [if_pos e, e, s_eq_rd]
  · rw [if_neg e, s_ne_ri e, s_ne_rd (by omega), s_ne_rd (by omega), s_ne_rd (by omega), s_ne_rd (by omega), s_ne_rd (by omega)]
theorem s_cm_row {M : ew_Mem} {i : Nat} {k p s t d z : Int} : s_cm M i k p s t d z 39 i = k ∧ s_cm M i k p s t d z 40 i = p ∧ s_cm M i k p s t d z 41 i = s ∧ s_cm M i k p s t d z 42 i = t ∧ s_cm M i k p s t d z 43 i = d := by
  unfold s_cm
  refine ⟨?_, ?_, ?_, ?_, ?_⟩
  · rw [s_ne_rd (by omega), s_ne_rd (by omega), s_ne_rd (by omega), s_ne_rd (by omega), s_ne_rd (by omega), s_ne_rd (by omega), s_eq_rd]
  · rw [s_ne_rd (by omega), s_ne_rd (by omega), s_ne_rd (by omega), s_ne_rd (by omega), s_ne_rd (by omega), s_eq_rd]
  · rw [s_ne_rd (by omega), s_ne_rd (by omega), s_ne_rd (by omega), s_ne_rd (by omega), s_eq_rd]
  · rw [s_ne_rd (by omega), s_ne_rd (by omega), s_ne_rd (by omega), s_eq_rd]
  · rw [s_ne_rd (by omega), s_ne_rd (by omega), s_eq_rd]
theorem s_cm_ro {M : ew_Mem} {i j a : Nat} {k p s t d z : Int} (h : ¬ j = i) (ha : 39 ≤ a ∧ a ≤ 43) : s_cm M i k p s t d z a j = M a j := by
  unfold s_cm
  rw [s_ne_rd (by omega), s_ne_rd (by omega)]
  obtain rfl | rfl | rfl | rfl | rfl : a = 39 ∨ a = 40 ∨ a = 41 ∨ a = 42 ∨ a = 43 := by omega
  · rw [s_ne_rd (by omega), s_ne_rd (by omega), s_ne_rd (by omega), s_ne_rd (by omega), s_ne_ri h]
  · rw [s_ne_rd (by omega), s_ne_rd (by omega), s_ne_rd (by omega), s_ne_ri h, s_ne_rd (by omega)]
  · rw [s_ne_rd (by omega), s_ne_rd (by omega), s_ne_ri h, s_ne_rd (by omega), s_ne_rd (by omega)]
  · rw [s_ne_rd (by omega), s_ne_ri h, s_ne_rd (by omega), s_ne_rd (by omega), s_ne_rd (by omega)]
  · rw [s_ne_ri h, s_ne_rd (by omega), s_ne_rd (by omega), s_ne_rd (by omega), s_ne_rd (by omega)]
set_option maxHeartbeats 4000000 in
theorem R_add {c n : Nat} {h : Int → Nat} {X M : ew_Mem} (hK : s_K c n X) (hR : s_RM h X M) {i : Nat} (hi : i < 64) (f1 : ∀ r : Nat, (r : Int) < X 5 2 → ¬ M 44 r = (i : Int)) (f2 : ∀ r : Nat, r < 48 → ¬ M 56 r = (i : Int)) {k p s t d : Int} (hW : (0 ≤ k ∧ k ≤ 4) ∧ s_AB p s t) (hd : 0 ≤ d ∧ d < 2147483648) (h6 : X 5 2 < 6) : s_RM (s_up h (n : Int) i) (s_ad X n k p s t d (X 5 2)) (s_cm M i k p s t d (X 5 2)) := by
  obtain ⟨k0, k1, k2, k3, k4, k5, k6, k7, k8, k9, k10, k11⟩ := id hK
  obtain ⟨g1, g2, g6, g7, g8, g9⟩ := id hR
  refine ⟨?_, ?_, ?_, ?_, ?_, ?_⟩
  · refine ⟨?_, ?_, ?_, fun j hj => ?_⟩
    · rw [s_ad_2]
      unfold s_cm
      exact s_eq_rd
    · rw [(s_cm_n (by omega)), (s_ad_n (by omega) (by omega) (by omega))]
      exact g1.2.1
    · rw [(s_cm_n (by omega)), (s_ad_n (by omega) (by omega) (by omega))]
      exact g1.2.2.1
    · rw [(s_cm_n (by omega)), (s_ad_n (by omega) (by omega) (by omega))]
      exact g1.2.2.2 j hj
  · obtain ⟨b1, b2, b3, b4⟩ := id g2
    have hlt : ∀ a, s_lv X a → a < (n : Int) := fun a ha => (s_OB_w (s_lv_OB hK ha)).2
    have hnf : ∀ a, s_lv X a → ¬ h a = i := by
      intro a ha e
      rcases ha with ⟨r, h1, h2⟩ | ⟨t, j, ht, hj, h1, h2⟩
      · apply f1 r h1
        rw [b1 r h1, h2, e]
      · apply f2 (12 * t + j) (by omega)
        rw [b2 t j ht hj, h1, if_neg h2, e]
    have hc6 := k3.1
    refine ⟨fun r hr => ?_, fun t j ht hj => ?_, fun a ha => ?_, fun a b ha hb he => ?_⟩
    · rw [s_ad_2] at hr
      rw [s_cm_44, s_ad_6 k0]
      by_cases e : r = (X 5 2).toNat
      · rw [if_pos e, if_pos e, s_up_eq]
      · have hl := hlt _ (Or.inl ⟨r, by omega, rfl⟩)
        rw [if_neg e, if_neg e, s_up_ne (by omega)]
        exact b1 r (by omega)
    · rw [(s_cm_n (by omega)), (s_ad_n (by omega) (by omega) (by omega)), b2 t j ht hj]
      by_cases e : X (13 + 2 * t) j = 0
      · rw [if_pos e, if_pos e]
      · have hl := hlt _ (Or.inr ⟨t, j, ht, hj, rfl, e⟩)
        rw [if_neg e, if_neg e, s_up_ne (by omega)]
    · rcases s_ad_lv k0 hc6.1 ha with e | ha'
      · subst e
        rw [s_up_eq, s_ad_ob k0]
        exact ⟨hi, s_cm_row⟩
      · have hl := hlt _ ha'
        have hne := hnf a ha'
        obtain ⟨q0, q1, q2, q3, q4, q5⟩ := b3 a ha'
        rw [s_up_ne (by omega), s_ob_eo s_ad_eo2 (s_lv_OB hK ha'), s_cm_ro hne (by omega), s_cm_ro hne (by omega), s_cm_ro hne (by omega), s_cm_ro hne (by omega), s_cm_ro hne (by omega)]
        exact ⟨q0, q1, q2, q3, q4, q5⟩
    · rcases s_ad_lv k0 hc6.1 ha with e1 | ha'
      · rcases s_ad_lv k0 hc6.1 hb with e2 | hb'
        · omega
        · have hl := hlt _ hb'
          rw [e1, s_up_eq, s_up_ne (by omega)] at he
          exact absurd he.symm (hnf b hb')
      · have hl := hlt _ ha'
        rcases s_ad_lv k0 hc6.1 hb with e2 | hb'
        · rw [e2, s_up_eq, s_up_ne (by omega)] at he
          exact absurd he (hnf a ha')
        · have hl2 := hlt _ hb'
          rw [s_up_ne (by omega), s_up_ne (by omega)] at he
          exact b4 a b ha' hb' he
  · exact s_R6_ag (fun t i ht hi => (s_ad_n (by omega) (by omega) (by omega))) (fun i => (s_cm_n (by omega))) (fun i => (s_cm_n (by omega))) g6
  · exact s_R7_ag (fun l hl => (s_ad_n (by omega) (by omega) (by omega))) (fun l i hl hi => (s_ad_n (by omega) (by omega) (by omega))) (fun i => (s_cm_n (by omega))) (fun i => (s_cm_n (by omega))) g7
  · exact s_R8_ag (s_ad_n (by omega) (by omega) (by omega)) (fun i => (s_ad_n (by omega) (by omega) (by omega))) (s_ad_n (by omega) (by omega) (by omega)) (s_cm_n (by omega)) (fun i => (s_cm_n (by omega))) (s_cm_n (by omega)) g8
  · exact s_R9_ag (s_ad_n (by omega) (by omega) (by omega)) (fun i => (s_ad_n (by omega) (by omega) (by omega))) (fun i => (s_ad_n (by omega) (by omega) (by omega))) (fun i => (s_ad_n (by omega) (by omega) (by omega))) (fun q r hr => s_ob_eo s_ad_eo2 (s_kept hK q hr).1) (s_cm_n (by omega)) (fun i => (s_cm_n (by omega))) g9

