/-! memory's tools; wheel, turn, drop, rule, feed: what memory they leave -/
theorem s_ne_ri {M : ew_Mem} {a i f : Nat} {v : Int} (h : ¬ f = i) : ew_wr M a i v a f = M a f := by
  unfold ew_wr
  rw [if_pos rfl, if_neg h]
theorem s_eq_rd {M : ew_Mem} {a i : Nat} {v : Int} : ew_wr M a i v a i = v := by
  unfold ew_wr
  rw [if_pos rfl, if_pos rfl]
theorem s_b_t {b : Bool} (h : ¬ s_b b = 0) : b = true := by
  cases b
  · exact absurd rfl h
  · rfl
/-- k places of c from o on hold f -/
def s_fn (M : ew_Mem) (c o k : Nat) (f : Nat → Int) : ew_Mem := fun a i => if a = c ∧ o ≤ i ∧ i < o + k then f (i - o) else M a i
theorem s_fn_0 {M : ew_Mem} {c o : Nat} {f : Nat → Int} : s_fn M c o 0 f = M := by
  funext a i
  unfold s_fn
  rw [if_neg (by omega)]
theorem s_fn_wr {M : ew_Mem} {c o k : Nat} {f : Nat → Int} {v : Int} (hv : v = f k) : ew_wr (s_fn M c o k f) c (o + k) v = s_fn M c o (k + 1) f := by
  subst hv
  funext a i
  unfold ew_wr s_fn
  by_cases h : a = c
  · by_cases h2 : i = o + k
    · rw [if_pos h, if_pos h2, if_pos (by omega), h2, Nat.add_sub_cancel_left]
    · rw [if_pos h, if_neg h2]
      by_cases h3 : a = c ∧ o ≤ i ∧ i < o + k
      · rw [if_pos h3, if_pos (by omega)]
      · rw [if_neg h3, if_neg (by omega)]
  · rw [if_neg h, if_neg (by omega), if_neg (by omega)]
theorem s_fn_ne {M : ew_Mem} {c o k a i : Nat} {f : Nat → Int} (h : ¬ a = c) : s_fn M c o k f a i = M a i := by
  unfold s_fn
  rw [if_neg (fun q => h q.1)]
theorem s_fn_in {M : ew_Mem} {c o k i : Nat} {f : Nat → Int} (h : o ≤ i ∧ i < o + k) : s_fn M c o k f c i = f (i - o) := by
  unfold s_fn
  rw [if_pos ⟨rfl, h⟩]
theorem s_fn_out {M : ew_Mem} {c o k i : Nat} {f : Nat → Int} (h : i < o ∨ o + k ≤ i) : s_fn M c o k f c i = M c i := by
  unfold s_fn
  rw [if_neg (by omega)]
theorem s_fn_pm {M : ew_Mem} {c o k : Nat} {f : Nat → Int} (h : ew_Pm M) (hq : ew_pa c = false) : ew_Pm (s_fn M c o k f) := by
  intro q hm
  by_cases hc : q.1 = c
  · exfalso
    unfold ew_pa at hq
    rw [List.any_eq_false] at hq
    exact hq q hm (by simp [hc])
  · rw [s_fn_ne hc]
    exact h q hm
theorem s_clr_ne {M : ew_Mem} {a c i : Nat} (h : ¬ c = a) : ew_clr M a c i = M c i := by
  unfold ew_clr
  rw [if_neg h]
theorem s_clr_pm {M : ew_Mem} {a : Nat} (h : ew_Pm M) (ha : 59 ≤ a) : ew_Pm (ew_clr M a) := by
  intro q hm
  have h1 : ∀ q ∈ ew_perm, q.1 < 59 := by decide +kernel
  have := h1 q hm
  rw [s_clr_ne (by omega)]
  exact h q hm
set_option maxRecDepth 20000 in
theorem c_tadd {n : Nat} {M : ew_Mem} (hn : 59 ≤ n) (hp : ew_Pm M) {x : Int} (hx : ew_in x) (h : 0 ≤ M 27 1 ∧ M 27 1 < 80) : ew_FM 49 [(2, 27), (0, x)] n M (0, 1) n (ew_wr (ew_wr M 28 (M 27 1).toNat x) 27 1 (M 27 1 + 1)) := by
  have hc := ew_c_49
  show ew_X 49 0 [(2, 27), (0, x)] [] n M _
  refine xr_go hc rfl rfl ?_
  refine xr_gf0 (A := 27) rfl hc rfl (ew_own_p hn rfl) (show _ = M 27 1 by first | rfl | (rw [s_ne_rd (by omega)])) ?_
  refine xr_if_lt hc rfl (by omega) (fun c1 => ?_) (fun c1 => ?_)
  · skip
    refine xr_go hc rfl rfl ?_
    refine xr_ret hc rfl rfl ?_
    first
      | exact ⟨rfl, rfl, rfl⟩
      | (exfalso; omega)
  · skip
    refine xr_go hc rfl rfl ?_
    refine xr_gf0 (A := 27) rfl hc rfl (ew_own_p hn rfl) (show _ = M 27 1 by first | rfl | (rw [s_ne_rd (by omega)])) ?_
    refine xr_go hc rfl rfl ?_
    refine xr_icmp_lt hc rfl (by omega) (by decide) (fun c2 => ?_) (fun c2 => ?_)
    · skip
      refine xr_go hc rfl rfl ?_
      refine xr_gf2 (A := 27) (w := 28) rfl hc rfl (ew_own_p hn rfl) (ew_pm hp rfl) ?_
      refine xr_go hc rfl rfl ?_
      refine xr_gf0 (A := 27) rfl hc rfl (ew_own_p hn rfl) (show _ = M 27 1 by first | rfl | (rw [s_ne_rd (by omega)])) ?_
      refine xr_go hc rfl rfl ?_
      refine xr_iast (A := 28) (N := 80) rfl rfl hc rfl (ew_own_p hn rfl) (by omega) (by omega) ?_
      refine xr_go hc rfl rfl ?_
      refine xr_go hc rfl rfl ?_
      refine xr_gf0 (A := 27) rfl hc rfl (ew_own_p hn rfl) (show _ = M 27 1 by first | rfl | (rw [s_ne_rd (by omega)])) ?_
      refine xr_go hc rfl rfl ?_
      refine xr_go hc rfl rfl ?_
      refine xr_pf (A := 27) rfl hc rfl (ew_own_p hn rfl) ?_
      refine xr_go hc rfl rfl ?_
      refine xr_ret hc rfl rfl ?_
      first
        | exact ⟨rfl, rfl, rfl⟩
        | (exfalso; omega)
    · skip
      refine xr_go hc rfl rfl ?_
      refine xr_ret hc rfl rfl ?_
      first
        | exact ⟨rfl, rfl, rfl⟩
        | (exfalso; omega)

set_option maxRecDepth 20000 in
theorem c_taddN {n : Nat} {M : ew_Mem} (hn : 59 ≤ n) (hp : ew_Pm M) {x : Int} (hx : ew_in x) (h : M 27 1 = 80) : ew_FM 49 [(2, 27), (0, x)] n M (0, 0) n M := by
  have hc := ew_c_49
  show ew_X 49 0 [(2, 27), (0, x)] [] n M _
  refine xr_go hc rfl rfl ?_
  refine xr_gf0 (A := 27) rfl hc rfl (ew_own_p hn rfl) rfl ?_
  refine xr_if_lt hc rfl (by omega) (fun c1 => ?_) (fun c1 => ?_)
  · skip
    refine xr_go hc rfl rfl ?_
    refine xr_ret hc rfl rfl ?_
    first
      | exact ⟨rfl, rfl, rfl⟩
      | (exfalso; omega)
  · skip
    refine xr_go hc rfl rfl ?_
    refine xr_gf0 (A := 27) rfl hc rfl (ew_own_p hn rfl) rfl ?_
    refine xr_go hc rfl rfl ?_
    refine xr_icmp_lt hc rfl (by omega) (by decide) (fun c2 => ?_) (fun c2 => ?_)
    · skip
      refine xr_go hc rfl rfl ?_
      refine xr_gf2 (A := 27) (w := 28) rfl hc rfl (ew_own_p hn rfl) (ew_pm hp rfl) ?_
      refine xr_go hc rfl rfl ?_
      refine xr_gf0 (A := 27) rfl hc rfl (ew_own_p hn rfl) rfl ?_
      refine xr_go hc rfl rfl ?_
      refine xr_iast (A := 28) (N := 80) rfl rfl hc rfl (ew_own_p hn rfl) (by omega) (by omega) ?_
      refine xr_go hc rfl rfl ?_
      refine xr_go hc rfl rfl ?_
      refine xr_gf0 (A := 27) rfl hc rfl (ew_own_p hn rfl) rfl ?_
      refine xr_go hc rfl rfl ?_
      refine xr_go hc rfl rfl ?_
      refine xr_pf (A := 27) rfl hc rfl (ew_own_p hn rfl) ?_
      refine xr_go hc rfl rfl ?_
      refine xr_ret hc rfl rfl ?_
      first
        | exact ⟨rfl, rfl, rfl⟩
        | (exfalso; omega)
    · skip
      refine xr_go hc rfl rfl ?_
      refine xr_ret hc rfl rfl ?_
      first
        | exact ⟨rfl, rfl, rfl⟩
        | (exfalso; omega)

set_option maxRecDepth 20000 in
theorem cx_feed {n : Nat} {M : ew_Mem} (hn : 59 ≤ n) (hp : ew_Pm M) {x : Int} (h6 : 0 ≤ M 27 1 ∧ M 27 1 ≤ 80) (h : (0 ≤ x ∧ x ≤ 127) ∧ M 27 1 < 80) : ew_FM 131 [(2, 4), (0, x)] n M (0, M 27 1 + 1) n (ew_wr (ew_wr M 28 (M 27 1).toNat x) 27 1 (M 27 1 + 1)) := by
  have hc := ew_c_131
  show ew_X 131 0 [(2, 4), (0, x)] [] n M _
  refine xr_go hc rfl rfl ?_
  refine xr_if_lt hc rfl (by omega) (fun c1 => ?_) (fun c1 => ?_)
  · skip
    refine xr_go hc rfl rfl ?_
    refine xr_ret hc rfl rfl ?_
    first
      | exact ⟨rfl, rfl, rfl⟩
      | (exfalso; omega)
  · skip
    refine xr_go hc rfl rfl ?_
    refine xr_go hc rfl rfl ?_
    refine xr_icmp_le hc rfl (by omega) (by decide) (fun c2 => ?_) (fun c2 => ?_)
    · skip
      refine xr_go hc rfl rfl ?_
      refine xr_gf2 (A := 4) rfl hc rfl (ew_own_p hn rfl) (show _ = (27 : Int) by first | exact ew_pm (v := 27) hp rfl | exact ew_pm (v := 27) (ew_Pm_wr (ew_Pm_wrA hp rfl) rfl) rfl) ?_
      refine xr_go hc rfl rfl ?_
      refine xr_v_2 hc rfl rfl (ew_own_p hn rfl) (c_tadd hn hp (by omega) (by omega)) ?_
      refine xr_if_eq hc rfl (by omega) (fun c3 => ?_) (fun c3 => ?_)
      · skip
        refine xr_go hc rfl rfl ?_
        refine xr_ret hc rfl rfl ?_
        first
          | exact ⟨rfl, rfl, rfl⟩
          | (exfalso; omega)
      · skip
        refine xr_go hc rfl rfl ?_
        refine xr_gf2 (A := 4) rfl hc rfl (ew_own_p hn rfl) (show _ = (27 : Int) by first | exact ew_pm (v := 27) hp rfl | exact ew_pm (v := 27) (ew_Pm_wr (ew_Pm_wrA hp rfl) rfl) rfl) ?_
        refine xr_gf0 (A := 27) rfl hc rfl (ew_own_p hn rfl) (show _ = M 27 1 + 1 from s_eq_rd) ?_
        refine xr_go hc rfl rfl ?_
        refine xr_ret hc rfl rfl ?_
        first
          | exact ⟨rfl, rfl, rfl⟩
          | (exfalso; omega)
    · skip
      refine xr_go hc rfl rfl ?_
      refine xr_ret hc rfl rfl ?_
      first
        | exact ⟨rfl, rfl, rfl⟩
        | (exfalso; omega)

def s_n_feed (x : Int) : Int := if 0 ≤ x ∧ x ≤ 127 then -4 else -2
set_option maxRecDepth 20000 in
theorem cx_feedN {n : Nat} {M : ew_Mem} (hn : 59 ≤ n) (hp : ew_Pm M) {x : Int} (hx : ew_in x) (h6 : 0 ≤ M 27 1 ∧ M 27 1 ≤ 80) (h : ¬ ((0 ≤ x ∧ x ≤ 127) ∧ M 27 1 < 80)) : ew_FM 131 [(2, 4), (0, x)] n M (0, s_n_feed x) n M := by
  have hc := ew_c_131
  show ew_X 131 0 [(2, 4), (0, x)] [] n M _
  refine xr_go hc rfl rfl ?_
  refine xr_if_lt hc rfl (by omega) (fun c1 => ?_) (fun c1 => ?_)
  · skip
    refine xr_go hc rfl rfl ?_
    refine xr_ret hc rfl rfl ?_
    first
      | (exfalso; omega)
      | (refine ⟨?_, rfl, rfl⟩
         unfold s_n_feed
         repeat' split
         all_goals first
           | rfl
           | (exfalso; omega)
           | (congr 2; omega))
  · skip
    refine xr_go hc rfl rfl ?_
    refine xr_go hc rfl rfl ?_
    refine xr_icmp_le hc rfl (by omega) (by decide) (fun c2 => ?_) (fun c2 => ?_)
    · skip
      refine xr_go hc rfl rfl ?_
      refine xr_gf2 (A := 4) (w := 27) rfl hc rfl (ew_own_p hn rfl) (ew_pm hp rfl) ?_
      refine xr_go hc rfl rfl ?_
      refine xr_v_2 hc rfl rfl (ew_own_p hn rfl) (c_taddN hn hp hx (by omega)) ?_
      refine xr_if_eq hc rfl (by decide) (fun c3 => ?_) (fun c3 => ?_)
      · skip
        refine xr_go hc rfl rfl ?_
        refine xr_ret hc rfl rfl ?_
        first
          | (exfalso; omega)
          | (refine ⟨?_, rfl, rfl⟩
             unfold s_n_feed
             repeat' split
             all_goals first
               | rfl
               | (exfalso; omega)
               | (congr 2; omega))
      · exfalso; omega
    · skip
      refine xr_go hc rfl rfl ?_
      refine xr_ret hc rfl rfl ?_
      first
        | (exfalso; omega)
        | (refine ⟨?_, rfl, rfl⟩
           unfold s_n_feed
           repeat' split
           all_goals first
             | rfl
             | (exfalso; omega)
             | (congr 2; omega))

set_option maxRecDepth 20000 in
theorem mx_feed {n : Nat} {M : ew_Mem} (hn : 59 ≤ n) (hp : ew_Pm M) {x : Int} {t : Int} (e : M 38 21 = t) (h6 : 0 ≤ t ∧ t ≤ 80) (h : (0 ≤ x ∧ x ≤ 127) ∧ t < 80) : ew_FM 215 [(2, 38), (0, x)] n M (0, t + 1) n (ew_wr (ew_wr M 53 t.toNat x) 38 21 (t + 1)) := by
  have hc := ew_c_215
  show ew_X 215 0 [(2, 38), (0, x)] [] n M _
  refine xr_go hc rfl rfl ?_
  refine xr_i2l hc rfl (by omega) ?_
  refine xr_go hc rfl rfl ?_
  refine xr_go hc rfl rfl ?_
  refine xr_s_3 hc rfl rfl (c_in (by omega) (by decide) (by decide)) ?_
  refine xr_if_ne hc rfl (by split <;> omega) (fun c1 => ?_) (fun c1 => ?_)
  · skip
    refine xr_go hc rfl rfl ?_
    refine xr_gf0 (A := 38) rfl hc rfl (ew_own_p hn rfl) (show _ = (_ : Int) by first | exact e | exact s_eq_rd | (rw [s_ne_rd (by omega)]; exact e)) ?_
    refine xr_go hc rfl rfl ?_
    refine xr_icmp_ne hc rfl (by omega) (by decide) (fun c2 => ?_) (fun c2 => ?_)
    · skip
      refine xr_go hc rfl rfl ?_
      refine xr_gf2 (A := 38) (w := 53) rfl hc rfl (ew_own_p hn rfl) (ew_pm hp rfl) ?_
      refine xr_go hc rfl rfl ?_
      refine xr_gf0 (A := 38) rfl hc rfl (ew_own_p hn rfl) (show _ = (_ : Int) by first | exact e | exact s_eq_rd | (rw [s_ne_rd (by omega)]; exact e)) ?_
      refine xr_go hc rfl rfl ?_
      refine xr_iast (A := 53) (N := 80) rfl rfl hc rfl (ew_own_p hn rfl) (by omega) (by omega) ?_
      refine xr_go hc rfl rfl ?_
      refine xr_go hc rfl rfl ?_
      refine xr_gf0 (A := 38) rfl hc rfl (ew_own_p hn rfl) (show _ = (_ : Int) by first | exact e | exact s_eq_rd | (rw [s_ne_rd (by omega)]; exact e)) ?_
      refine xr_go hc rfl rfl ?_
      refine xr_go hc rfl rfl ?_
      refine xr_pf (A := 38) rfl hc rfl (ew_own_p hn rfl) ?_
      refine xr_go hc rfl rfl ?_
      refine xr_gf0 (A := 38) rfl hc rfl (ew_own_p hn rfl) (show _ = (_ : Int) by first | exact e | exact s_eq_rd | (rw [s_ne_rd (by omega)]; exact e)) ?_
      refine xr_ret hc rfl rfl ?_
      first
        | exact ⟨rfl, rfl, rfl⟩
        | (exfalso; omega)
    · skip
      refine xr_go hc rfl rfl ?_
      refine xr_ret hc rfl rfl ?_
      first
        | exact ⟨rfl, rfl, rfl⟩
        | (exfalso; omega)
  · skip
    refine xr_go hc rfl rfl ?_
    refine xr_ret hc rfl rfl ?_
    first
      | exact ⟨rfl, rfl, rfl⟩
      | (exfalso; omega)

set_option maxRecDepth 20000 in
theorem mx_feedN {n : Nat} {M : ew_Mem} (hn : 59 ≤ n) (hp : ew_Pm M) {x : Int} (hx : ew_in x) {t : Int} (e : M 38 21 = t) (h6 : 0 ≤ t ∧ t ≤ 80) (h : ¬ ((0 ≤ x ∧ x ≤ 127) ∧ t < 80)) : ew_FM 215 [(2, 38), (0, x)] n M (0, s_n_feed x) n M := by
  have hc := ew_c_215
  show ew_X 215 0 [(2, 38), (0, x)] [] n M _
  refine xr_go hc rfl rfl ?_
  refine xr_i2l hc rfl (by omega) ?_
  refine xr_go hc rfl rfl ?_
  refine xr_go hc rfl rfl ?_
  refine xr_s_3 hc rfl rfl (c_in (by omega) (by decide) (by decide)) ?_
  refine xr_if_ne hc rfl (by split <;> omega) (fun c1 => ?_) (fun c1 => ?_)
  · skip
    refine xr_go hc rfl rfl ?_
    refine xr_gf0 (A := 38) rfl hc rfl (ew_own_p hn rfl) (show _ = (_ : Int) by first | exact e | exact s_eq_rd | (rw [s_ne_rd (by omega)]; exact e)) ?_
    refine xr_go hc rfl rfl ?_
    refine xr_icmp_ne hc rfl (by omega) (by decide) (fun c2 => ?_) (fun c2 => ?_)
    · skip
      refine xr_go hc rfl rfl ?_
      refine xr_gf2 (A := 38) (w := 53) rfl hc rfl (ew_own_p hn rfl) (ew_pm hp rfl) ?_
      refine xr_go hc rfl rfl ?_
      refine xr_gf0 (A := 38) rfl hc rfl (ew_own_p hn rfl) (show _ = (_ : Int) by first | exact e | exact s_eq_rd | (rw [s_ne_rd (by omega)]; exact e)) ?_
      refine xr_go hc rfl rfl ?_
      refine xr_iast (A := 53) (N := 80) rfl rfl hc rfl (ew_own_p hn rfl) (by omega) (by omega) ?_
      refine xr_go hc rfl rfl ?_
      refine xr_go hc rfl rfl ?_
      refine xr_gf0 (A := 38) rfl hc rfl (ew_own_p hn rfl) (show _ = (_ : Int) by first | exact e | exact s_eq_rd | (rw [s_ne_rd (by omega)]; exact e)) ?_
      refine xr_go hc rfl rfl ?_
      refine xr_go hc rfl rfl ?_
      refine xr_pf (A := 38) rfl hc rfl (ew_own_p hn rfl) ?_
      refine xr_go hc rfl rfl ?_
      refine xr_gf0 (A := 38) rfl hc rfl (ew_own_p hn rfl) (show _ = (_ : Int) by first | exact e | exact s_eq_rd | (rw [s_ne_rd (by omega)]; exact e)) ?_
      refine xr_ret hc rfl rfl ?_
      first
        | (exfalso; omega)
        | (refine ⟨?_, rfl, rfl⟩
           unfold s_n_feed
           repeat' split
           all_goals first
             | rfl
             | (exfalso; omega)
             | (congr 2; omega))
    · skip
      refine xr_go hc rfl rfl ?_
      refine xr_ret hc rfl rfl ?_
      first
        | (exfalso; omega)
        | (refine ⟨?_, rfl, rfl⟩
           unfold s_n_feed
           repeat' split
           all_goals first
             | rfl
             | (exfalso; omega)
             | (congr 2; omega))
  · skip
    refine xr_go hc rfl rfl ?_
    refine xr_ret hc rfl rfl ?_
    first
      | (exfalso; omega)
      | (refine ⟨?_, rfl, rfl⟩
         unfold s_n_feed
         repeat' split
         all_goals first
           | rfl
           | (exfalso; omega)
           | (congr 2; omega))

set_option maxRecDepth 20000 in
theorem c_setRule {n : Nat} {M : ew_Mem} (hn : 59 ≤ n) (hp : ew_Pm M) {x v : Int} (hx : 0 ≤ x ∧ x ≤ 5) : ew_VM 74 [(2, 5), (0, x), (0, v)] n M n (ew_wr M 7 x.toNat v) := by
  have hc := ew_c_74
  show ew_X 74 0 [(2, 5), (0, x), (0, v)] [] n M _
  refine xr_go hc rfl rfl ?_
  refine xr_s_1 hc rfl rfl (c_isRule (by omega)) ?_
  refine xr_if_eq hc rfl (by split <;> omega) (fun c1 => ?_) (fun c1 => ?_)
  · skip
    refine xr_ret hc rfl rfl ?_
    first
      | exact ⟨rfl, rfl, rfl⟩
      | (exfalso; omega)
  · skip
    refine xr_go hc rfl rfl ?_
    refine xr_gf2 (A := 5) (w := 7) rfl hc rfl (ew_own_p hn rfl) (ew_pm hp rfl) ?_
    refine xr_go hc rfl rfl ?_
    refine xr_go hc rfl rfl ?_
    refine xr_iast (A := 7) (N := 6) rfl rfl hc rfl (ew_own_p hn rfl) (by omega) (by omega) ?_
    refine xr_ret hc rfl rfl ?_
    first
      | exact ⟨rfl, rfl, rfl⟩
      | (exfalso; omega)

abbrev s_okR (x v : Int) : Prop := (0 ≤ x ∧ x ≤ 5) ∧ s_rok x v = true
def s_n_rule (x v : Int) : Int := if 0 ≤ x ∧ x ≤ 5 then -2 else -1
set_option maxRecDepth 20000 in
theorem cx_rule {V : ew_Mem} {n : Nat} {M : ew_Mem} (hC : s_C V n M) {x v : Int} (hx : ew_in x) (hv : ew_in v) (h0 : 0 ≤ x ∧ x ≤ 5) (h : s_rok x v = true) : ew_FM 97 [(2, 4), (0, x), (0, v)] n M (0, V 7 x.toNat) n (ew_wr M 7 x.toNat v) := by
  obtain ⟨hn, hp, hV, v0, v1, v2, v3, v4⟩ := id hC
  obtain ⟨hc6, hVW, hnd, hap, hr0, hr1, hr2, hr3, hr4, hr5⟩ := id hV
  have hc := ew_c_97
  show ew_X 97 0 [(2, 4), (0, x), (0, v), (5, 0)] [] n M _
  refine xr_go hc rfl rfl ?_
  refine xr_s_1 hc rfl rfl (c_isRule (by omega)) ?_
  refine xr_if_ne hc rfl (by split <;> omega) (fun c1 => ?_) (fun c1 => ?_)
  · skip
    refine xr_go hc rfl rfl ?_
    refine xr_go hc rfl rfl ?_
    refine xr_s_2 hc rfl rfl (c_isWithin hn hp (by omega) (by omega)) ?_
    refine xr_if_ne hc rfl (by rw [h]; decide) (fun c2 => ?_) (fun c2 => ?_)
    · skip
      refine xr_go hc rfl rfl ?_
      refine xr_gf2 (A := 4) (w := 5) rfl hc rfl (ew_own_p hn rfl) (ew_pm hp rfl) ?_
      refine xr_go hc rfl rfl ?_
      refine xr_v_2 hc rfl rfl (ew_own_p hn rfl) (c_ruled hC (by omega)) ?_
      refine xr_s1_3 hc rfl rfl rfl ?_
      refine xr_go hc rfl rfl ?_
      refine xr_gf2 (A := 4) (w := 5) rfl hc rfl (ew_own_p hn rfl) (ew_pm hp rfl) ?_
      refine xr_go hc rfl rfl ?_
      refine xr_go hc rfl rfl ?_
      refine xr_vv_3 (v := (0, 0)) hc rfl rfl (ew_own_p hn rfl) (c_setRule hn hp (by omega)) ?_
      refine xr_go hc rfl rfl ?_
      refine xr_ret hc rfl rfl ?_
      exact ⟨rfl, rfl, rfl⟩
    · skip
      refine xr_go hc rfl rfl ?_
      refine xr_ret hc rfl rfl ?_
      exfalso
      rw [h] at c2
      exact absurd c2 (by decide)
  · skip
    refine xr_go hc rfl rfl ?_
    refine xr_ret hc rfl rfl ?_
    exfalso; omega

set_option maxRecDepth 20000 in
theorem cx_ruleN {V : ew_Mem} {n : Nat} {M : ew_Mem} (hC : s_C V n M) {x v : Int} (hx : ew_in x) (hv : ew_in v) (h : ¬ s_okR x v) : ew_FM 97 [(2, 4), (0, x), (0, v)] n M (0, s_n_rule x v) n M := by
  obtain ⟨hn, hp, hV, v0, v1, v2, v3, v4⟩ := id hC
  obtain ⟨hc6, hVW, hnd, hap, hr0, hr1, hr2, hr3, hr4, hr5⟩ := id hV
  have hc := ew_c_97
  show ew_X 97 0 [(2, 4), (0, x), (0, v), (5, 0)] [] n M _
  refine xr_go hc rfl rfl ?_
  refine xr_s_1 hc rfl rfl (c_isRule (by omega)) ?_
  refine xr_if_ne hc rfl (by split <;> omega) (fun c1 => ?_) (fun c1 => ?_)
  · skip
    refine xr_go hc rfl rfl ?_
    refine xr_go hc rfl rfl ?_
    refine xr_s_2 hc rfl rfl (c_isWithin hn hp (by omega) (by omega)) ?_
    refine xr_if_ne hc rfl (s_b_in _) (fun c2 => ?_) (fun c2 => ?_)
    · exfalso; exact h ⟨by omega, s_b_t c2⟩
    · skip
      refine xr_go hc rfl rfl ?_
      refine xr_ret hc rfl rfl ?_
      first
        | (exfalso; omega)
        | (refine ⟨?_, rfl, rfl⟩
           unfold s_n_rule
           repeat' split
           all_goals first
             | rfl
             | (exfalso; omega)
             | (congr 2; omega))
  · skip
    refine xr_go hc rfl rfl ?_
    refine xr_ret hc rfl rfl ?_
    first
      | (exfalso; omega)
      | (refine ⟨?_, rfl, rfl⟩
         unfold s_n_rule
         repeat' split
         all_goals first
           | rfl
           | (exfalso; omega)
           | (congr 2; omega))

set_option maxRecDepth 20000 in
theorem mx_ruleN {V : ew_Mem} {n : Nat} {M : ew_Mem} (hM : s_M V n M) {x v : Int} (hx : ew_in x) (hv : ew_in v) (h : ¬ s_okR x v) : ew_FM 168 [(2, 38), (0, x), (0, v)] n M (0, s_n_rule x v) n M := by
  obtain ⟨hn, hp, hV, u0, u1, u2, u3, u4⟩ := id hM
  obtain ⟨hc6, hVW, hnd, hap, hr0, hr1, hr2, hr3, hr4, hr5⟩ := id hV
  have hc := ew_c_168
  show ew_X 168 0 [(2, 38), (0, x), (0, v), (5, 0)] [] n M _
  refine xr_go hc rfl rfl ?_
  refine xr_i2l hc rfl (by omega) ?_
  refine xr_go hc rfl rfl ?_
  refine xr_go hc rfl rfl ?_
  refine xr_s_3 hc rfl rfl (c_in (by omega) (by decide) (by decide)) ?_
  refine xr_if_ne hc rfl (by split <;> omega) (fun c1 => ?_) (fun c1 => ?_)
  · skip
    refine xr_go hc rfl rfl ?_
    refine xr_go hc rfl rfl ?_
    refine xr_s_2 hc rfl rfl (m_isRule (by omega) hv) ?_
    refine xr_if_ne hc rfl (s_b_in _) (fun c2 => ?_) (fun c2 => ?_)
    · exfalso; exact h ⟨by omega, s_b_t c2⟩
    · skip
      refine xr_go hc rfl rfl ?_
      refine xr_ret hc rfl rfl ?_
      first
        | (exfalso; omega)
        | (refine ⟨?_, rfl, rfl⟩
           unfold s_n_rule
           repeat' split
           all_goals first
             | rfl
             | (exfalso; omega)
             | (congr 2; omega))
  · skip
    refine xr_go hc rfl rfl ?_
    refine xr_ret hc rfl rfl ?_
    first
      | (exfalso; omega)
      | (refine ⟨?_, rfl, rfl⟩
         unfold s_n_rule
         repeat' split
         all_goals first
           | rfl
           | (exfalso; omega)
           | (congr 2; omega))

set_option maxRecDepth 20000 in
theorem c_drop {V : ew_Mem} {n : Nat} {M : ew_Mem} (hC : s_C V n M) (h : 0 < V 6 0) : ew_FM 68 [(2, 5)] n M (0, V 6 0 - 1) n (ew_wr (ew_wr (ew_wr (ew_wr M 6 (V 6 0 - 1).toNat 0) 5 2 (V 6 0 - 1)) 5 3 (if V 6 1 = V 6 0 - 1 then 0 else V 6 1)) 5 4 (if V 6 2 = V 6 0 - 1 then -1 else V 6 2)) := by
  obtain ⟨hn, hp, hV, v0, v1, v2, v3, v4⟩ := id hC
  obtain ⟨hc6, hVW, hnd, hap, hr0, hr1, hr2, hr3, hr4, hr5⟩ := id hV
  have hc := ew_c_68
  show ew_X 68 0 [(2, 5), (5, 0)] [] n M _
  refine xr_go hc rfl rfl ?_
  refine xr_gf0 (A := 5) rfl hc rfl (ew_own_p hn rfl) (show _ = (_ : Int) by first | exact v0 | exact s_eq_rd | (repeat first | rw [s_ne_rd (by omega)] | rw [s_ne_ri (by omega)] | exact s_eq_rd | exact v0)) ?_
  refine xr_go hc rfl rfl ?_
  refine xr_go hc rfl rfl ?_
  refine xr_s1_1 hc rfl rfl rfl ?_
  refine xr_go hc rfl rfl ?_
  refine xr_if_lt hc rfl (by omega) (fun c1 => ?_) (fun c1 => ?_)
  · skip
    refine xr_go hc rfl rfl ?_
    refine xr_ret hc rfl rfl ?_
    first
      | (exfalso; omega)
      | (refine ⟨rfl, rfl, ?_⟩
         first
           | (rw [if_pos (by omega), if_pos (by omega)]; done)
           | (rw [if_pos (by omega), if_neg (by omega)]; done)
           | (rw [if_neg (by omega), if_pos (by omega)]; done)
           | (rw [if_neg (by omega), if_neg (by omega)]; done))
  · skip
    refine xr_go hc rfl rfl ?_
    refine xr_go hc rfl rfl ?_
    refine xr_icmp_lt hc rfl (by omega) (by decide) (fun c2 => ?_) (fun c2 => ?_)
    · skip
      refine xr_go hc rfl rfl ?_
      refine xr_gf2 (A := 5) (w := 6) rfl hc rfl (ew_own_p hn rfl) (ew_pm hp rfl) ?_
      refine xr_go hc rfl rfl ?_
      refine xr_go hc rfl rfl ?_
      refine xr_aast (A := 6) (N := 6) rfl rfl hc rfl (ew_own_p hn rfl) (Or.inl rfl) (by omega) (by omega) ?_
      refine xr_go hc rfl rfl ?_
      refine xr_go hc rfl rfl ?_
      refine xr_pf (A := 5) rfl hc rfl (ew_own_p hn rfl) ?_
      refine xr_go hc rfl rfl ?_
      refine xr_go hc rfl rfl ?_
      refine xr_gf0 (A := 5) rfl hc rfl (ew_own_p hn rfl) (show _ = (_ : Int) by first | exact v1 | exact s_eq_rd | (repeat first | rw [s_ne_rd (by omega)] | rw [s_ne_ri (by omega)] | exact s_eq_rd | exact v1)) ?_
      refine xr_go hc rfl rfl ?_
      refine xr_icmp_ne hc rfl (by omega) (by omega) (fun c3 => ?_) (fun c3 => ?_)
      · skip
        refine xr_go hc rfl rfl ?_
        refine xr_gf0 (A := 5) rfl hc rfl (ew_own_p hn rfl) (show _ = (_ : Int) by first | exact v1 | exact s_eq_rd | (repeat first | rw [s_ne_rd (by omega)] | rw [s_ne_ri (by omega)] | exact s_eq_rd | exact v1)) ?_
        refine xr_pf (A := 5) rfl hc rfl (ew_own_p hn rfl) ?_
        refine xr_go hc rfl rfl ?_
        refine xr_go hc rfl rfl ?_
        refine xr_gf0 (A := 5) rfl hc rfl (ew_own_p hn rfl) (show _ = (_ : Int) by first | exact v2 | exact s_eq_rd | (repeat first | rw [s_ne_rd (by omega)] | rw [s_ne_ri (by omega)] | exact s_eq_rd | exact v2)) ?_
        refine xr_go hc rfl rfl ?_
        refine xr_icmp_ne hc rfl (by omega) (by omega) (fun c4 => ?_) (fun c4 => ?_)
        · skip
          refine xr_go hc rfl rfl ?_
          refine xr_gf0 (A := 5) rfl hc rfl (ew_own_p hn rfl) (show _ = (_ : Int) by first | exact v2 | exact s_eq_rd | (repeat first | rw [s_ne_rd (by omega)] | rw [s_ne_ri (by omega)] | exact s_eq_rd | exact v2)) ?_
          refine xr_pf (A := 5) rfl hc rfl (ew_own_p hn rfl) ?_
          refine xr_go hc rfl rfl ?_
          refine xr_gf0 (A := 5) rfl hc rfl (ew_own_p hn rfl) (show _ = (_ : Int) by first | exact v0 | exact s_eq_rd | (repeat first | rw [s_ne_rd (by omega)] | rw [s_ne_ri (by omega)] | exact s_eq_rd | exact v0)) ?_
          refine xr_ret hc rfl rfl ?_
          first
            | (exfalso; omega)
            | (refine ⟨rfl, rfl, ?_⟩
               first
                 | (rw [if_pos (by omega), if_pos (by omega)]; done)
                 | (rw [if_pos (by omega), if_neg (by omega)]; done)
                 | (rw [if_neg (by omega), if_pos (by omega)]; done)
                 | (rw [if_neg (by omega), if_neg (by omega)]; done))
        · skip
          refine xr_go hc rfl rfl ?_
          refine xr_go hc rfl rfl ?_
          refine xr_pf (A := 5) rfl hc rfl (ew_own_p hn rfl) ?_
          refine xr_go hc rfl rfl ?_
          refine xr_gf0 (A := 5) rfl hc rfl (ew_own_p hn rfl) (show _ = (_ : Int) by first | exact v0 | exact s_eq_rd | (repeat first | rw [s_ne_rd (by omega)] | rw [s_ne_ri (by omega)] | exact s_eq_rd | exact v0)) ?_
          refine xr_ret hc rfl rfl ?_
          first
            | (exfalso; omega)
            | (refine ⟨rfl, rfl, ?_⟩
               first
                 | (rw [if_pos (by omega), if_pos (by omega)]; done)
                 | (rw [if_pos (by omega), if_neg (by omega)]; done)
                 | (rw [if_neg (by omega), if_pos (by omega)]; done)
                 | (rw [if_neg (by omega), if_neg (by omega)]; done))
      · skip
        refine xr_go hc rfl rfl ?_
        refine xr_go hc rfl rfl ?_
        refine xr_pf (A := 5) rfl hc rfl (ew_own_p hn rfl) ?_
        refine xr_go hc rfl rfl ?_
        refine xr_go hc rfl rfl ?_
        refine xr_gf0 (A := 5) rfl hc rfl (ew_own_p hn rfl) (show _ = (_ : Int) by first | exact v2 | exact s_eq_rd | (repeat first | rw [s_ne_rd (by omega)] | rw [s_ne_ri (by omega)] | exact s_eq_rd | exact v2)) ?_
        refine xr_go hc rfl rfl ?_
        refine xr_icmp_ne hc rfl (by omega) (by omega) (fun c5 => ?_) (fun c5 => ?_)
        · skip
          refine xr_go hc rfl rfl ?_
          refine xr_gf0 (A := 5) rfl hc rfl (ew_own_p hn rfl) (show _ = (_ : Int) by first | exact v2 | exact s_eq_rd | (repeat first | rw [s_ne_rd (by omega)] | rw [s_ne_ri (by omega)] | exact s_eq_rd | exact v2)) ?_
          refine xr_pf (A := 5) rfl hc rfl (ew_own_p hn rfl) ?_
          refine xr_go hc rfl rfl ?_
          refine xr_gf0 (A := 5) rfl hc rfl (ew_own_p hn rfl) (show _ = (_ : Int) by first | exact v0 | exact s_eq_rd | (repeat first | rw [s_ne_rd (by omega)] | rw [s_ne_ri (by omega)] | exact s_eq_rd | exact v0)) ?_
          refine xr_ret hc rfl rfl ?_
          first
            | (exfalso; omega)
            | (refine ⟨rfl, rfl, ?_⟩
               first
                 | (rw [if_pos (by omega), if_pos (by omega)]; done)
                 | (rw [if_pos (by omega), if_neg (by omega)]; done)
                 | (rw [if_neg (by omega), if_pos (by omega)]; done)
                 | (rw [if_neg (by omega), if_neg (by omega)]; done))
        · skip
          refine xr_go hc rfl rfl ?_
          refine xr_go hc rfl rfl ?_
          refine xr_pf (A := 5) rfl hc rfl (ew_own_p hn rfl) ?_
          refine xr_go hc rfl rfl ?_
          refine xr_gf0 (A := 5) rfl hc rfl (ew_own_p hn rfl) (show _ = (_ : Int) by first | exact v0 | exact s_eq_rd | (repeat first | rw [s_ne_rd (by omega)] | rw [s_ne_ri (by omega)] | exact s_eq_rd | exact v0)) ?_
          refine xr_ret hc rfl rfl ?_
          first
            | (exfalso; omega)
            | (refine ⟨rfl, rfl, ?_⟩
               first
                 | (rw [if_pos (by omega), if_pos (by omega)]; done)
                 | (rw [if_pos (by omega), if_neg (by omega)]; done)
                 | (rw [if_neg (by omega), if_pos (by omega)]; done)
                 | (rw [if_neg (by omega), if_neg (by omega)]; done))
    · skip
      refine xr_go hc rfl rfl ?_
      refine xr_ret hc rfl rfl ?_
      first
        | (exfalso; omega)
        | (refine ⟨rfl, rfl, ?_⟩
           first
             | (rw [if_pos (by omega), if_pos (by omega)]; done)
             | (rw [if_pos (by omega), if_neg (by omega)]; done)
             | (rw [if_neg (by omega), if_pos (by omega)]; done)
             | (rw [if_neg (by omega), if_neg (by omega)]; done))

set_option maxRecDepth 20000 in
theorem c_dropN {V : ew_Mem} {n : Nat} {M : ew_Mem} (hC : s_C V n M) (h : V 6 0 = 0) : ew_FM 68 [(2, 5)] n M (0, -3) n M := by
  obtain ⟨hn, hp, hV, v0, v1, v2, v3, v4⟩ := id hC
  obtain ⟨hc6, hVW, hnd, hap, hr0, hr1, hr2, hr3, hr4, hr5⟩ := id hV
  have hc := ew_c_68
  show ew_X 68 0 [(2, 5), (5, 0)] [] n M _
  refine xr_go hc rfl rfl ?_
  refine xr_gf0 (A := 5) rfl hc rfl (ew_own_p hn rfl) v0 ?_
  refine xr_go hc rfl rfl ?_
  refine xr_go hc rfl rfl ?_
  refine xr_s1_1 hc rfl rfl rfl ?_
  refine xr_go hc rfl rfl ?_
  refine xr_if_lt hc rfl (by omega) (fun c1 => ?_) (fun c1 => ?_)
  · skip
    refine xr_go hc rfl rfl ?_
    refine xr_ret hc rfl rfl ?_
    first
      | exact ⟨rfl, rfl, rfl⟩
      | (exfalso; omega)
  · exfalso; omega

set_option maxRecDepth 20000 in
theorem cx_drop {V : ew_Mem} {n : Nat} {M : ew_Mem} (hC : s_C V n M) (h : 0 < V 6 0) : ew_FM 92 [(2, 4)] n M (0, V 6 0 - 1) n (ew_wr (ew_wr (ew_wr (ew_wr M 6 (V 6 0 - 1).toNat 0) 5 2 (V 6 0 - 1)) 5 3 (if V 6 1 = V 6 0 - 1 then 0 else V 6 1)) 5 4 (if V 6 2 = V 6 0 - 1 then -1 else V 6 2)) := by
  obtain ⟨hn, hp, hV, v0, v1, v2, v3, v4⟩ := id hC
  obtain ⟨hc6, hVW, hnd, hap, hr0, hr1, hr2, hr3, hr4, hr5⟩ := id hV
  have hc := ew_c_92
  show ew_X 92 0 [(2, 4)] [] n M _
  refine xr_go hc rfl rfl ?_
  refine xr_gf2 (A := 4) (w := 5) rfl hc rfl (ew_own_p hn rfl) (ew_pm hp rfl) ?_
  refine xr_v_1 hc rfl rfl (ew_own_p hn rfl) (c_drop hC h) ?_
  refine xr_ret hc rfl rfl ?_
  first
    | exact ⟨rfl, rfl, rfl⟩
    | (exfalso; omega)

set_option maxRecDepth 20000 in
theorem cx_dropN {V : ew_Mem} {n : Nat} {M : ew_Mem} (hC : s_C V n M) (h : V 6 0 = 0) : ew_FM 92 [(2, 4)] n M (0, -3) n M := by
  obtain ⟨hn, hp, hV, v0, v1, v2, v3, v4⟩ := id hC
  obtain ⟨hc6, hVW, hnd, hap, hr0, hr1, hr2, hr3, hr4, hr5⟩ := id hV
  have hc := ew_c_92
  show ew_X 92 0 [(2, 4)] [] n M _
  refine xr_go hc rfl rfl ?_
  refine xr_gf2 (A := 4) (w := 5) rfl hc rfl (ew_own_p hn rfl) (ew_pm hp rfl) ?_
  refine xr_v_1 hc rfl rfl (ew_own_p hn rfl) (c_dropN hC h) ?_
  refine xr_ret hc rfl rfl ?_
  first
    | exact ⟨rfl, rfl, rfl⟩
    | (exfalso; omega)

set_option maxRecDepth 20000 in
theorem mx_drop {V : ew_Mem} {n : Nat} {M : ew_Mem} (hM : s_M V n M) (h : 0 < V 6 0) : ew_FM 162 [(2, 38)] n M (0, V 6 0 - 1) n (ew_wr (ew_wr (ew_wr M 38 5 (V 6 0 - 1)) 38 7 (if V 6 1 = V 6 0 - 1 then 0 else V 6 1)) 38 8 (if V 6 2 = V 6 0 - 1 then -1 else V 6 2)) := by
  obtain ⟨hn, hp, hV, u0, u1, u2, u3, u4⟩ := id hM
  obtain ⟨hc6, hVW, hnd, hap, hr0, hr1, hr2, hr3, hr4, hr5⟩ := id hV
  have hc := ew_c_162
  show ew_X 162 0 [(2, 38)] [] n M _
  refine xr_go hc rfl rfl ?_
  refine xr_gf0 (A := 38) rfl hc rfl (ew_own_p hn rfl) u0 ?_
  refine xr_if_ne hc rfl (by omega) (fun c1 => ?_) (fun c1 => ?_)
  · skip
    refine xr_go hc rfl rfl ?_
    refine xr_go hc rfl rfl ?_
    refine xr_gf0 (A := 38) rfl hc rfl (ew_own_p hn rfl) u0 ?_
    refine xr_go hc rfl rfl ?_
    refine xr_go hc rfl rfl ?_
    refine xr_pf (A := 38) rfl hc rfl (ew_own_p hn rfl) ?_
    refine xr_go hc rfl rfl ?_
    refine xr_go hc rfl rfl ?_
    refine xr_gf0 (A := 38) rfl hc rfl (ew_own_p hn rfl) (by first | exact (show _ = V 6 1 by first | exact u1 | (repeat first | rw [s_ne_rd (by omega)] | rw [s_ne_ri (by omega)]) <;> exact u1)) ?_
    refine xr_go hc rfl rfl ?_
    refine xr_gf0 (A := 38) rfl hc rfl (ew_own_p hn rfl) (by first | exact (show _ = V 6 0 - 1 by first | exact s_eq_rd | (repeat first | rw [s_ne_rd (by omega)] | rw [s_ne_ri (by omega)]) <;> exact s_eq_rd)) ?_
    refine xr_icmp_ne hc rfl (by omega) (by omega) (fun c2 => ?_) (fun c2 => ?_)
    · skip
      refine xr_go hc rfl rfl ?_
      refine xr_gf0 (A := 38) rfl hc rfl (ew_own_p hn rfl) (by first | exact (show _ = V 6 1 by first | exact u1 | (repeat first | rw [s_ne_rd (by omega)] | rw [s_ne_ri (by omega)]) <;> exact u1)) ?_
      refine xr_pf (A := 38) rfl hc rfl (ew_own_p hn rfl) ?_
      refine xr_go hc rfl rfl ?_
      refine xr_go hc rfl rfl ?_
      refine xr_gf0 (A := 38) rfl hc rfl (ew_own_p hn rfl) (by first | exact (show _ = V 6 2 by first | exact u2 | (repeat first | rw [s_ne_rd (by omega)] | rw [s_ne_ri (by omega)]) <;> exact u2)) ?_
      refine xr_go hc rfl rfl ?_
      refine xr_gf0 (A := 38) rfl hc rfl (ew_own_p hn rfl) (by first | exact (show _ = V 6 0 - 1 by first | exact s_eq_rd | (repeat first | rw [s_ne_rd (by omega)] | rw [s_ne_ri (by omega)]) <;> exact s_eq_rd)) ?_
      refine xr_icmp_ne hc rfl (by omega) (by omega) (fun c3 => ?_) (fun c3 => ?_)
      · skip
        refine xr_go hc rfl rfl ?_
        refine xr_gf0 (A := 38) rfl hc rfl (ew_own_p hn rfl) (by first | exact (show _ = V 6 2 by first | exact u2 | (repeat first | rw [s_ne_rd (by omega)] | rw [s_ne_ri (by omega)]) <;> exact u2)) ?_
        refine xr_pf (A := 38) rfl hc rfl (ew_own_p hn rfl) ?_
        refine xr_go hc rfl rfl ?_
        refine xr_gf0 (A := 38) rfl hc rfl (ew_own_p hn rfl) (by first | exact (show _ = V 6 0 - 1 by first | exact s_eq_rd | (repeat first | rw [s_ne_rd (by omega)] | rw [s_ne_ri (by omega)]) <;> exact s_eq_rd)) ?_
        refine xr_ret hc rfl rfl ?_
        first
          | (exfalso; omega)
          | (refine ⟨rfl, rfl, ?_⟩
             first
               | (rw [if_pos (by omega), if_pos (by omega)]; done)
               | (rw [if_pos (by omega), if_neg (by omega)]; done)
               | (rw [if_neg (by omega), if_pos (by omega)]; done)
               | (rw [if_neg (by omega), if_neg (by omega)]; done))
      · skip
        refine xr_go hc rfl rfl ?_
        refine xr_go hc rfl rfl ?_
        refine xr_pf (A := 38) rfl hc rfl (ew_own_p hn rfl) ?_
        refine xr_go hc rfl rfl ?_
        refine xr_gf0 (A := 38) rfl hc rfl (ew_own_p hn rfl) (by first | exact (show _ = V 6 0 - 1 by first | exact s_eq_rd | (repeat first | rw [s_ne_rd (by omega)] | rw [s_ne_ri (by omega)]) <;> exact s_eq_rd)) ?_
        refine xr_ret hc rfl rfl ?_
        first
          | (exfalso; omega)
          | (refine ⟨rfl, rfl, ?_⟩
             first
               | (rw [if_pos (by omega), if_pos (by omega)]; done)
               | (rw [if_pos (by omega), if_neg (by omega)]; done)
               | (rw [if_neg (by omega), if_pos (by omega)]; done)
               | (rw [if_neg (by omega), if_neg (by omega)]; done))
    · skip
      refine xr_go hc rfl rfl ?_
      refine xr_go hc rfl rfl ?_
      refine xr_pf (A := 38) rfl hc rfl (ew_own_p hn rfl) ?_
      refine xr_go hc rfl rfl ?_
      refine xr_go hc rfl rfl ?_
      refine xr_gf0 (A := 38) rfl hc rfl (ew_own_p hn rfl) (by first | exact (show _ = V 6 2 by first | exact u2 | (repeat first | rw [s_ne_rd (by omega)] | rw [s_ne_ri (by omega)]) <;> exact u2)) ?_
      refine xr_go hc rfl rfl ?_
      refine xr_gf0 (A := 38) rfl hc rfl (ew_own_p hn rfl) (by first | exact (show _ = V 6 0 - 1 by first | exact s_eq_rd | (repeat first | rw [s_ne_rd (by omega)] | rw [s_ne_ri (by omega)]) <;> exact s_eq_rd)) ?_
      refine xr_icmp_ne hc rfl (by omega) (by omega) (fun c4 => ?_) (fun c4 => ?_)
      · skip
        refine xr_go hc rfl rfl ?_
        refine xr_gf0 (A := 38) rfl hc rfl (ew_own_p hn rfl) (by first | exact (show _ = V 6 2 by first | exact u2 | (repeat first | rw [s_ne_rd (by omega)] | rw [s_ne_ri (by omega)]) <;> exact u2)) ?_
        refine xr_pf (A := 38) rfl hc rfl (ew_own_p hn rfl) ?_
        refine xr_go hc rfl rfl ?_
        refine xr_gf0 (A := 38) rfl hc rfl (ew_own_p hn rfl) (by first | exact (show _ = V 6 0 - 1 by first | exact s_eq_rd | (repeat first | rw [s_ne_rd (by omega)] | rw [s_ne_ri (by omega)]) <;> exact s_eq_rd)) ?_
        refine xr_ret hc rfl rfl ?_
        first
          | (exfalso; omega)
          | (refine ⟨rfl, rfl, ?_⟩
             first
               | (rw [if_pos (by omega), if_pos (by omega)]; done)
               | (rw [if_pos (by omega), if_neg (by omega)]; done)
               | (rw [if_neg (by omega), if_pos (by omega)]; done)
               | (rw [if_neg (by omega), if_neg (by omega)]; done))
      · skip
        refine xr_go hc rfl rfl ?_
        refine xr_go hc rfl rfl ?_
        refine xr_pf (A := 38) rfl hc rfl (ew_own_p hn rfl) ?_
        refine xr_go hc rfl rfl ?_
        refine xr_gf0 (A := 38) rfl hc rfl (ew_own_p hn rfl) (by first | exact (show _ = V 6 0 - 1 by first | exact s_eq_rd | (repeat first | rw [s_ne_rd (by omega)] | rw [s_ne_ri (by omega)]) <;> exact s_eq_rd)) ?_
        refine xr_ret hc rfl rfl ?_
        first
          | (exfalso; omega)
          | (refine ⟨rfl, rfl, ?_⟩
             first
               | (rw [if_pos (by omega), if_pos (by omega)]; done)
               | (rw [if_pos (by omega), if_neg (by omega)]; done)
               | (rw [if_neg (by omega), if_pos (by omega)]; done)
               | (rw [if_neg (by omega), if_neg (by omega)]; done))
  · skip
    refine xr_go hc rfl rfl ?_
    refine xr_ret hc rfl rfl ?_
    first
      | (exfalso; omega)
      | (refine ⟨rfl, rfl, ?_⟩
         first
           | (rw [if_pos (by omega), if_pos (by omega)]; done)
           | (rw [if_pos (by omega), if_neg (by omega)]; done)
           | (rw [if_neg (by omega), if_pos (by omega)]; done)
           | (rw [if_neg (by omega), if_neg (by omega)]; done))

set_option maxRecDepth 20000 in
theorem mx_dropN {V : ew_Mem} {n : Nat} {M : ew_Mem} (hM : s_M V n M) (h : V 6 0 = 0) : ew_FM 162 [(2, 38)] n M (0, -3) n M := by
  obtain ⟨hn, hp, hV, u0, u1, u2, u3, u4⟩ := id hM
  obtain ⟨hc6, hVW, hnd, hap, hr0, hr1, hr2, hr3, hr4, hr5⟩ := id hV
  have hc := ew_c_162
  show ew_X 162 0 [(2, 38)] [] n M _
  refine xr_go hc rfl rfl ?_
  refine xr_gf0 (A := 38) rfl hc rfl (ew_own_p hn rfl) u0 ?_
  refine xr_if_ne hc rfl (by omega) (fun c1 => ?_) (fun c1 => ?_)
  · exfalso; omega
  · skip
    refine xr_go hc rfl rfl ?_
    refine xr_ret hc rfl rfl ?_
    first
      | exact ⟨rfl, rfl, rfl⟩
      | (exfalso; omega)

abbrev s_AB (p s t : Int) : Prop := (2 ≤ p ∧ p ≤ 100000) ∧ (0 ≤ s ∧ s ≤ 99999) ∧ 0 ≤ t ∧ t < p
abbrev s_okT (V : ew_Mem) (w s t : Int) : Prop := s_isW V w ∧ s_AB (V w.toNat 1) s t
def s_n_turn (V : ew_Mem) (w s t : Int) : Int := if s_isW V w then -2 else -1
set_option maxRecDepth 20000 in
theorem cx_turn {V : ew_Mem} {n : Nat} {M : ew_Mem} (hC : s_C V n M) {w s t : Int} (hw : ew_in w) (hs : ew_in s) (ht : ew_in t) (h : s_okT V w s t) : ew_FM 91 [(2, 4), (0, w), (0, s), (0, t)] n M (0, s_at V w.toNat 0) n (ew_wr (ew_wr M (M 6 w.toNat).toNat 3 s) (M 6 w.toNat).toNat 4 t) := by
  obtain ⟨hn, hp, hV, v0, v1, v2, v3, v4⟩ := id hC
  obtain ⟨hc6, hVW, hnd, hap, hr0, hr1, hr2, hr3, hr4, hr5⟩ := id hV
  have hc := ew_c_91
  show ew_X 91 0 [(2, 4), (0, w), (0, s), (0, t), (5, 0), (5, 0)] [] n M _
  refine xr_go hc rfl rfl ?_
  refine xr_gf2 (A := 4) (w := 5) rfl hc rfl (ew_own_p hn rfl) (ew_pm hp rfl) ?_
  refine xr_go hc rfl rfl ?_
  by_cases hwn : 0 ≤ w ∧ w < V 6 0
  · skip
    refine xr_v_2 hc rfl rfl (ew_own_p hn rfl) (c_numbered hC hwn) ?_
    first
      | (have hwf := v4 w.toNat (by omega)
         have hw59 := hwf.1
         simp only [ew_own, Bool.and_eq_true, decide_eq_true_eq] at hw59
         have hWO := hVW w.toNat (by omega)
         obtain ⟨k0, k1, k2, k3, k4⟩ := id hWO)
      | skip
    refine xr_s1_4 hc rfl rfl rfl ?_
    refine xr_go hc rfl rfl ?_
    refine xr_nonnull hc rfl (fun c1 => ?_) (fun c1 => by exfalso; omega)
    refine xr_go hc rfl rfl ?_
    refine xr_gf0 rfl hc rfl hwf.1 hwf.2.1 ?_
    refine xr_go hc rfl rfl ?_
    refine xr_gf0 rfl hc rfl hwf.1 hwf.2.2.1 ?_
    refine xr_go hc rfl rfl ?_
    refine xr_go hc rfl rfl ?_
    refine xr_s_4 hc rfl rfl (c_canBe (by omega) (by omega) (by omega) (by omega)) ?_
    refine xr_if_ne hc rfl (by split <;> omega) (fun c2 => ?_) (fun c2 => ?_)
    · skip
      refine xr_go hc rfl rfl ?_
      refine xr_gf2 (A := 4) (w := 5) rfl hc rfl (ew_own_p hn rfl) (ew_pm hp rfl) ?_
      refine xr_go hc rfl rfl ?_
      refine xr_go hc rfl rfl ?_
      refine xr_v_3 hc rfl rfl (ew_own_p hn rfl) (c_placeAt hC (by omega) (by omega)) ?_
      refine xr_s1_5 hc rfl rfl rfl ?_
      refine xr_go hc rfl rfl ?_
      refine xr_go hc rfl rfl ?_
      refine xr_pf rfl hc rfl hwf.1 ?_
      refine xr_go hc rfl rfl ?_
      refine xr_go hc rfl rfl ?_
      refine xr_pf rfl hc rfl hwf.1 ?_
      refine xr_go hc rfl rfl ?_
      refine xr_ret hc rfl rfl ?_
      first
        | exact ⟨rfl, rfl, rfl⟩
        | (exfalso; omega)
    · skip
      refine xr_go hc rfl rfl ?_
      refine xr_ret hc rfl rfl ?_
      first
        | exact ⟨rfl, rfl, rfl⟩
        | (exfalso; omega)
  · skip
    refine xr_v_2 hc rfl rfl (ew_own_p hn rfl) (c_numberedN hC hw hwn) ?_
    first
      | (have hwf := v4 w.toNat (by omega)
         have hw59 := hwf.1
         simp only [ew_own, Bool.and_eq_true, decide_eq_true_eq] at hw59
         have hWO := hVW w.toNat (by omega)
         obtain ⟨k0, k1, k2, k3, k4⟩ := id hWO)
      | skip
    refine xr_s1_4 hc rfl rfl rfl ?_
    refine xr_go hc rfl rfl ?_
    refine xr_nonnull hc rfl (fun c3 => by exfalso; omega) (fun c3 => ?_)
    refine xr_go hc rfl rfl ?_
    refine xr_ret hc rfl rfl ?_
    first
      | exact ⟨rfl, rfl, rfl⟩
      | (exfalso; omega)

set_option maxRecDepth 20000 in
theorem cx_turnN {V : ew_Mem} {n : Nat} {M : ew_Mem} (hC : s_C V n M) {w s t : Int} (hw : ew_in w) (hs : ew_in s) (ht : ew_in t) (h : ¬ s_okT V w s t) : ew_FM 91 [(2, 4), (0, w), (0, s), (0, t)] n M (0, s_n_turn V w s t) n M := by
  obtain ⟨hn, hp, hV, v0, v1, v2, v3, v4⟩ := id hC
  obtain ⟨hc6, hVW, hnd, hap, hr0, hr1, hr2, hr3, hr4, hr5⟩ := id hV
  have hc := ew_c_91
  show ew_X 91 0 [(2, 4), (0, w), (0, s), (0, t), (5, 0), (5, 0)] [] n M _
  refine xr_go hc rfl rfl ?_
  refine xr_gf2 (A := 4) (w := 5) rfl hc rfl (ew_own_p hn rfl) (ew_pm hp rfl) ?_
  refine xr_go hc rfl rfl ?_
  by_cases hwn : 0 ≤ w ∧ w < V 6 0
  · skip
    refine xr_v_2 hc rfl rfl (ew_own_p hn rfl) (c_numbered hC hwn) ?_
    first
      | (have hwf := v4 w.toNat (by omega)
         have hw59 := hwf.1
         simp only [ew_own, Bool.and_eq_true, decide_eq_true_eq] at hw59
         have hWO := hVW w.toNat (by omega)
         obtain ⟨k0, k1, k2, k3, k4⟩ := id hWO)
      | skip
    refine xr_s1_4 hc rfl rfl rfl ?_
    refine xr_go hc rfl rfl ?_
    refine xr_nonnull hc rfl (fun c1 => ?_) (fun c1 => by exfalso; omega)
    refine xr_go hc rfl rfl ?_
    refine xr_gf0 rfl hc rfl hwf.1 hwf.2.1 ?_
    refine xr_go hc rfl rfl ?_
    refine xr_gf0 rfl hc rfl hwf.1 hwf.2.2.1 ?_
    refine xr_go hc rfl rfl ?_
    refine xr_go hc rfl rfl ?_
    refine xr_s_4 hc rfl rfl (c_canBe (by omega) (by omega) (by omega) (by omega)) ?_
    refine xr_if_ne hc rfl (by split <;> omega) (fun c2 => ?_) (fun c2 => ?_)
    · skip
      refine xr_go hc rfl rfl ?_
      refine xr_gf2 (A := 4) (w := 5) rfl hc rfl (ew_own_p hn rfl) (ew_pm hp rfl) ?_
      refine xr_go hc rfl rfl ?_
      refine xr_go hc rfl rfl ?_
      refine xr_v_3 hc rfl rfl (ew_own_p hn rfl) (c_placeAt hC (by omega) (by omega)) ?_
      refine xr_s1_5 hc rfl rfl rfl ?_
      refine xr_go hc rfl rfl ?_
      refine xr_go hc rfl rfl ?_
      refine xr_pf rfl hc rfl hwf.1 ?_
      refine xr_go hc rfl rfl ?_
      refine xr_go hc rfl rfl ?_
      refine xr_pf rfl hc rfl hwf.1 ?_
      refine xr_go hc rfl rfl ?_
      refine xr_ret hc rfl rfl ?_
      first
        | (exfalso; omega)
        | (refine ⟨?_, rfl, rfl⟩
           unfold s_n_turn
           repeat' split
           all_goals first
             | rfl
             | (exfalso; omega)
             | (congr 2; omega))
    · skip
      refine xr_go hc rfl rfl ?_
      refine xr_ret hc rfl rfl ?_
      first
        | (exfalso; omega)
        | (refine ⟨?_, rfl, rfl⟩
           unfold s_n_turn
           repeat' split
           all_goals first
             | rfl
             | (exfalso; omega)
             | (congr 2; omega))
  · skip
    refine xr_v_2 hc rfl rfl (ew_own_p hn rfl) (c_numberedN hC hw hwn) ?_
    first
      | (have hwf := v4 w.toNat (by omega)
         have hw59 := hwf.1
         simp only [ew_own, Bool.and_eq_true, decide_eq_true_eq] at hw59
         have hWO := hVW w.toNat (by omega)
         obtain ⟨k0, k1, k2, k3, k4⟩ := id hWO)
      | skip
    refine xr_s1_4 hc rfl rfl rfl ?_
    refine xr_go hc rfl rfl ?_
    refine xr_nonnull hc rfl (fun c3 => by exfalso; omega) (fun c3 => ?_)
    refine xr_go hc rfl rfl ?_
    refine xr_ret hc rfl rfl ?_
    first
      | (exfalso; omega)
      | (refine ⟨?_, rfl, rfl⟩
         unfold s_n_turn
         repeat' split
         all_goals first
           | rfl
           | (exfalso; omega)
           | (congr 2; omega))

set_option maxRecDepth 20000 in
theorem mx_turn {V : ew_Mem} {n : Nat} {M : ew_Mem} (hM : s_M V n M) {w s t : Int} (hw : ew_in w) (hs : ew_in s) (ht : ew_in t) (h : s_okT V w s t) : ew_FM 157 [(2, 38), (0, w), (0, s), (0, t)] n M (0, s_at V w.toNat 0) n (ew_wr (ew_wr M 41 (M 44 w.toNat).toNat s) 42 (M 44 w.toNat).toNat t) := by
  obtain ⟨hn, hp, hV, u0, u1, u2, u3, u4⟩ := id hM
  obtain ⟨hc6, hVW, hnd, hap, hr0, hr1, hr2, hr3, hr4, hr5⟩ := id hV
  obtain ⟨q0, q1, q2, q3, q4, q5⟩ := u4 w.toNat (by omega)
  have hc := ew_c_157
  show ew_X 157 0 [(2, 38), (0, w), (0, s), (0, t), (5, 0)] [] n M _
  refine xr_go hc rfl rfl ?_
  refine xr_go hc rfl rfl ?_
  refine xr_v_2 hc rfl rfl (ew_own_p hn rfl) (m_isWheel hM (by omega)) ?_
  refine xr_if_ne hc rfl (by split <;> omega) (fun c1 => ?_) (fun c1 => ?_)
  · skip
    refine xr_go hc rfl rfl ?_
    refine xr_gf2 (A := 38) (w := 40) rfl hc rfl (ew_own_p hn rfl) (ew_pm hp rfl) ?_
    refine xr_go hc rfl rfl ?_
    refine xr_gf2 (A := 38) (w := 44) rfl hc rfl (ew_own_p hn rfl) (ew_pm hp rfl) ?_
    refine xr_go hc rfl rfl ?_
    refine xr_iald (A := 44) (N := 6) rfl rfl hc rfl (ew_ok_p hn rfl) (by omega) (by omega) rfl ?_
    refine xr_iald (A := 40) (N := 64) rfl rfl hc rfl (ew_ok_p hn rfl) (by omega) (by omega) q2 ?_
    refine xr_go hc rfl rfl ?_
    refine xr_go hc rfl rfl ?_
    refine xr_s_3 hc rfl rfl (m_areBounds (by omega) (by omega) (by omega)) ?_
    refine xr_if_ne hc rfl (by split <;> omega) (fun c2 => ?_) (fun c2 => ?_)
    · skip
      refine xr_go hc rfl rfl ?_
      refine xr_go hc rfl rfl ?_
      refine xr_go hc rfl rfl ?_
      refine xr_v_3 hc rfl rfl (ew_own_p hn rfl) (m_place hM (by omega) (by omega)) ?_
      refine xr_s1_4 hc rfl rfl rfl ?_
      refine xr_go hc rfl rfl ?_
      refine xr_gf2 (A := 38) (w := 41) rfl hc rfl (ew_own_p hn rfl) (ew_pm hp rfl) ?_
      refine xr_go hc rfl rfl ?_
      refine xr_gf2 (A := 38) (w := 44) rfl hc rfl (ew_own_p hn rfl) (ew_pm hp rfl) ?_
      refine xr_go hc rfl rfl ?_
      refine xr_iald (A := 44) (N := 6) rfl rfl hc rfl (ew_ok_p hn rfl) (by omega) (by omega) rfl ?_
      refine xr_go hc rfl rfl ?_
      refine xr_iast (A := 41) (N := 64) rfl rfl hc rfl (ew_own_p hn rfl) (by omega) (by omega) ?_
      refine xr_go hc rfl rfl ?_
      refine xr_gf2 (A := 38) (w := 42) rfl hc rfl (ew_own_p hn rfl) (ew_pm hp rfl) ?_
      refine xr_go hc rfl rfl ?_
      refine xr_gf2 (A := 38) (w := 44) rfl hc rfl (ew_own_p hn rfl) (ew_pm hp rfl) ?_
      refine xr_go hc rfl rfl ?_
      refine xr_iald (A := 44) (N := 6) rfl rfl hc rfl (ew_ok_p hn rfl) (by omega) (by omega) (show _ = M 44 w.toNat by rw [s_ne_rd (by omega)]) ?_
      refine xr_go hc rfl rfl ?_
      refine xr_iast (A := 42) (N := 64) rfl rfl hc rfl (ew_own_p hn rfl) (by omega) (by omega) ?_
      refine xr_go hc rfl rfl ?_
      refine xr_ret hc rfl rfl ?_
      first
        | exact ⟨rfl, rfl, rfl⟩
        | (exfalso; omega)
    · skip
      refine xr_go hc rfl rfl ?_
      refine xr_ret hc rfl rfl ?_
      first
        | exact ⟨rfl, rfl, rfl⟩
        | (exfalso; omega)
  · skip
    refine xr_go hc rfl rfl ?_
    refine xr_ret hc rfl rfl ?_
    first
      | exact ⟨rfl, rfl, rfl⟩
      | (exfalso; omega)

set_option maxRecDepth 20000 in
theorem mx_turnN {V : ew_Mem} {n : Nat} {M : ew_Mem} (hM : s_M V n M) {w s t : Int} (hw : ew_in w) (hs : ew_in s) (ht : ew_in t) (h : ¬ s_okT V w s t) : ew_FM 157 [(2, 38), (0, w), (0, s), (0, t)] n M (0, s_n_turn V w s t) n M := by
  obtain ⟨hn, hp, hV, u0, u1, u2, u3, u4⟩ := id hM
  obtain ⟨hc6, hVW, hnd, hap, hr0, hr1, hr2, hr3, hr4, hr5⟩ := id hV
  have hc := ew_c_157
  show ew_X 157 0 [(2, 38), (0, w), (0, s), (0, t), (5, 0)] [] n M _
  refine xr_go hc rfl rfl ?_
  refine xr_go hc rfl rfl ?_
  refine xr_v_2 hc rfl rfl (ew_own_p hn rfl) (m_isWheel hM (by omega)) ?_
  refine xr_if_ne hc rfl (by split <;> omega) (fun c1 => ?_) (fun c1 => ?_)
  · skip
    obtain ⟨q0, q1, q2, q3, q4, q5⟩ := u4 w.toNat (by omega)
    have hWO := hVW w.toNat (by omega)
    obtain ⟨k0, k1, k2, k3, k4⟩ := id hWO
    refine xr_go hc rfl rfl ?_
    refine xr_gf2 (A := 38) (w := 40) rfl hc rfl (ew_own_p hn rfl) (ew_pm hp rfl) ?_
    refine xr_go hc rfl rfl ?_
    refine xr_gf2 (A := 38) (w := 44) rfl hc rfl (ew_own_p hn rfl) (ew_pm hp rfl) ?_
    refine xr_go hc rfl rfl ?_
    refine xr_iald (A := 44) (N := 6) rfl rfl hc rfl (ew_ok_p hn rfl) (by omega) (by omega) rfl ?_
    refine xr_iald (A := 40) (N := 64) rfl rfl hc rfl (ew_ok_p hn rfl) (by omega) (by omega) q2 ?_
    refine xr_go hc rfl rfl ?_
    refine xr_go hc rfl rfl ?_
    refine xr_s_3 hc rfl rfl (m_areBounds (by omega) (by omega) (by omega)) ?_
    refine xr_if_ne hc rfl (by split <;> omega) (fun c2 => ?_) (fun c2 => ?_)
    · skip
      exfalso; omega
    · skip
      refine xr_go hc rfl rfl ?_
      refine xr_ret hc rfl rfl ?_
      first
        | (exfalso; omega)
        | (refine ⟨?_, rfl, rfl⟩
           unfold s_n_turn
           repeat' split
           all_goals first
             | rfl
             | (exfalso; omega)
             | (congr 2; omega))
  · skip
    refine xr_go hc rfl rfl ?_
    refine xr_ret hc rfl rfl ?_
    first
      | (exfalso; omega)
      | (refine ⟨?_, rfl, rfl⟩
         unfold s_n_turn
         repeat' split
         all_goals first
           | rfl
           | (exfalso; omega)
           | (congr 2; omega))

