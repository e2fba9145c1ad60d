/-! trays, the reference: what memory they leave -/
set_option maxRecDepth 20000 in
theorem m_ty_1 {n : Nat} {M : ew_Mem} (hn : 59 ≤ n) (hp : ew_Pm M) {u : Nat} (hu : u < 4) {k m z : Int} : ∀ (j i : Nat), i + j = 12 →
    ew_X 224 72 [(2, 38), (0, (u : Int)), (0, k), (0, m), (0, (i : Int))] [] n (s_fn (ew_wr (ew_wr M 54 u k) 55 u z) 56 (12 * u) i (fun _ => -1)) (fun r a b => r = some (0, 1) ∧ a = n ∧ b = (s_fn (ew_wr (ew_wr M 54 u k) 55 u z) 56 (12 * u) 12 (fun _ => -1))) := by
  have hc := ew_c_224
  intro j
  induction j with
  | zero =>
    intro i hj
    obtain rfl : i = 12 := by omega
    refine xr_go hc rfl rfl ?_
    refine xr_go hc rfl rfl ?_
    refine xr_icmp_ge hc rfl (by omega) (by decide) (fun c1 => ?_) (fun c1 => ?_)
    · skip
      refine xr_go hc rfl rfl ?_
      refine xr_ret hc rfl rfl ?_
      exact ⟨rfl, rfl, rfl⟩
    · exfalso; omega
  | succ j ih =>
    intro i hj
    refine xr_go hc rfl rfl ?_
    refine xr_go hc rfl rfl ?_
    refine xr_icmp_ge hc rfl (by omega) (by decide) (fun c1 => ?_) (fun c1 => ?_)
    · exfalso; omega
    · skip
      refine xr_go hc rfl rfl ?_
      refine xr_gf2 (A := 38) rfl hc rfl (ew_own_p hn rfl) (show _ = (56 : Int) by first | exact ew_pm (v := 56) hp rfl | ((repeat first | rw [s_fn_ne (by omega)] | rw [s_ne_rd (by omega)] | rw [s_ne_ri (by omega)]); exact ew_pm (v := 56) hp rfl)) ?_
      refine xr_go hc rfl rfl ?_
      refine xr_go hc rfl rfl ?_
      refine xr_go hc rfl rfl ?_
      refine xr_go hc rfl rfl ?_
      refine xr_go hc rfl rfl ?_
      refine xr_go hc rfl rfl ?_
      refine xr_iast (A := 56) (N := 48) rfl rfl hc rfl (ew_own_p hn rfl) (by omega) (by omega) ?_
      refine xr_inc_4 hc rfl ?_
      refine xr_go hc rfl rfl ?_
      rw [s_n1, s_fn_w2 (by omega) rfl]
      exact ih (i + 1) (by omega)

set_option maxRecDepth 20000 in
theorem mx_tray {n : Nat} {M : ew_Mem} (hn : 59 ≤ n) (hp : ew_Pm M) {t k m : Int} (ht : ew_in t) (hk : ew_in k) (hm : ew_in m) (h : s_okY t k m) : ew_FM 224 [(2, 38), (0, t), (0, k), (0, m)] n M (0, 1) n (s_tyM M t.toNat k (if k = -1 then 0 else m)) := by
  have hc := ew_c_224
  show ew_X 224 0 [(2, 38), (0, t), (0, k), (0, m), (5, 0)] [] n M _
  refine xr_go hc rfl rfl ?_
  refine xr_s_1 hc rfl rfl (m_isTray (by omega)) ?_
  refine xr_if_ne hc rfl (by split <;> omega) (fun c1 => ?_) (fun c1 => ?_)
  · skip
    refine xr_go hc rfl rfl ?_
    refine xr_i2l hc rfl (by omega) ?_
    refine xr_go hc rfl rfl ?_
    refine xr_go hc rfl rfl ?_
    refine xr_s_3 hc rfl rfl (c_in (by omega) (by first | decide | omega) (by first | decide | omega)) ?_
    refine xr_if_eq hc rfl (by split <;> omega) (fun c2 => ?_) (fun c2 => ?_)
    · skip
      refine xr_go hc rfl rfl ?_
      refine xr_ret hc rfl rfl ?_
      exfalso; omega
    · skip
      refine xr_go hc rfl rfl ?_
      refine xr_if_lt hc rfl (by omega) (fun c3 => ?_) (fun c3 => ?_)
      · skip
        refine xr_go hc rfl rfl ?_
        refine xr_if_lt hc rfl (by omega) (fun c4 => ?_) (fun c4 => ?_)
        · skip
          refine xr_go hc rfl rfl ?_
          refine xr_gf2 (A := 38) rfl hc rfl (ew_own_p hn rfl) (show _ = (54 : Int) by first | exact ew_pm (v := 54) hp rfl | ((repeat first | rw [s_fn_ne (by omega)] | rw [s_ne_rd (by omega)] | rw [s_ne_ri (by omega)]); exact ew_pm (v := 54) hp rfl)) ?_
          refine xr_go hc rfl rfl ?_
          refine xr_go hc rfl rfl ?_
          refine xr_iast (A := 54) (N := 4) rfl rfl hc rfl (ew_own_p hn rfl) (by omega) (by omega) ?_
          refine xr_go hc rfl rfl ?_
          refine xr_gf2 (A := 38) rfl hc rfl (ew_own_p hn rfl) (show _ = (55 : Int) by first | exact ew_pm (v := 55) hp rfl | ((repeat first | rw [s_fn_ne (by omega)] | rw [s_ne_rd (by omega)] | rw [s_ne_ri (by omega)]); exact ew_pm (v := 55) hp rfl)) ?_
          refine xr_go hc rfl rfl ?_
          refine xr_go hc rfl rfl ?_
          refine xr_if_ge hc rfl (by omega) (fun c5 => ?_) (fun c5 => ?_)
          · skip
            refine xr_go hc rfl rfl ?_
            refine xr_iast (A := 55) (N := 4) rfl rfl hc rfl (ew_own_p hn rfl) (by omega) (by omega) ?_
            refine xr_go hc rfl rfl ?_
            refine xr_s1_4 hc rfl rfl rfl ?_
            have h := m_ty_1 hn hp (u := t.toNat) (by omega) (k := k) (m := m) (z := if k = -1 then 0 else m) 12 0 rfl
            rw [s_fn_0, s_toI (show 0 ≤ t by omega)] at h
            first
              | (rw [if_pos (by omega)] at h ⊢; exact h)
              | (rw [if_neg (by omega)] at h ⊢; exact h)
          · skip
            refine xr_go hc rfl rfl ?_
            refine xr_go hc rfl rfl ?_
            refine xr_iast (A := 55) (N := 4) rfl rfl hc rfl (ew_own_p hn rfl) (by omega) (by omega) ?_
            refine xr_go hc rfl rfl ?_
            refine xr_s1_4 hc rfl rfl rfl ?_
            have h := m_ty_1 hn hp (u := t.toNat) (by omega) (k := k) (m := m) (z := if k = -1 then 0 else m) 12 0 rfl
            rw [s_fn_0, s_toI (show 0 ≤ t by omega)] at h
            first
              | (rw [if_pos (by omega)] at h ⊢; exact h)
              | (rw [if_neg (by omega)] at h ⊢; exact h)
        · skip
          refine xr_go hc rfl rfl ?_
          refine xr_if_ge hc rfl (by omega) (fun c6 => ?_) (fun c6 => ?_)
          · skip
            refine xr_go hc rfl rfl ?_
            refine xr_gf2 (A := 38) rfl hc rfl (ew_own_p hn rfl) (show _ = (54 : Int) by first | exact ew_pm (v := 54) hp rfl | ((repeat first | rw [s_fn_ne (by omega)] | rw [s_ne_rd (by omega)] | rw [s_ne_ri (by omega)]); exact ew_pm (v := 54) hp rfl)) ?_
            refine xr_go hc rfl rfl ?_
            refine xr_go hc rfl rfl ?_
            refine xr_iast (A := 54) (N := 4) rfl rfl hc rfl (ew_own_p hn rfl) (by omega) (by omega) ?_
            refine xr_go hc rfl rfl ?_
            refine xr_gf2 (A := 38) rfl hc rfl (ew_own_p hn rfl) (show _ = (55 : Int) by first | exact ew_pm (v := 55) hp rfl | ((repeat first | rw [s_fn_ne (by omega)] | rw [s_ne_rd (by omega)] | rw [s_ne_ri (by omega)]); exact ew_pm (v := 55) hp rfl)) ?_
            refine xr_go hc rfl rfl ?_
            refine xr_go hc rfl rfl ?_
            refine xr_if_ge hc rfl (by omega) (fun c7 => ?_) (fun c7 => ?_)
            · skip
              refine xr_go hc rfl rfl ?_
              refine xr_iast (A := 55) (N := 4) rfl rfl hc rfl (ew_own_p hn rfl) (by omega) (by omega) ?_
              refine xr_go hc rfl rfl ?_
              refine xr_s1_4 hc rfl rfl rfl ?_
              have h := m_ty_1 hn hp (u := t.toNat) (by omega) (k := k) (m := m) (z := if k = -1 then 0 else m) 12 0 rfl
              rw [s_fn_0, s_toI (show 0 ≤ t by omega)] at h
              first
                | (rw [if_pos (by omega)] at h ⊢; exact h)
                | (rw [if_neg (by omega)] at h ⊢; exact h)
            · skip
              refine xr_go hc rfl rfl ?_
              refine xr_go hc rfl rfl ?_
              refine xr_iast (A := 55) (N := 4) rfl rfl hc rfl (ew_own_p hn rfl) (by omega) (by omega) ?_
              refine xr_go hc rfl rfl ?_
              refine xr_s1_4 hc rfl rfl rfl ?_
              have h := m_ty_1 hn hp (u := t.toNat) (by omega) (k := k) (m := m) (z := if k = -1 then 0 else m) 12 0 rfl
              rw [s_fn_0, s_toI (show 0 ≤ t by omega)] at h
              first
                | (rw [if_pos (by omega)] at h ⊢; exact h)
                | (rw [if_neg (by omega)] at h ⊢; exact h)
          · skip
            refine xr_go hc rfl rfl ?_
            refine xr_ret hc rfl rfl ?_
            exfalso; omega
      · skip
        refine xr_go hc rfl rfl ?_
        refine xr_go hc rfl rfl ?_
        refine xr_icmp_le hc rfl (by omega) (by decide) (fun c8 => ?_) (fun c8 => ?_)
        · skip
          refine xr_go hc rfl rfl ?_
          refine xr_if_lt hc rfl (by omega) (fun c9 => ?_) (fun c9 => ?_)
          · skip
            refine xr_go hc rfl rfl ?_
            refine xr_gf2 (A := 38) rfl hc rfl (ew_own_p hn rfl) (show _ = (54 : Int) by first | exact ew_pm (v := 54) hp rfl | ((repeat first | rw [s_fn_ne (by omega)] | rw [s_ne_rd (by omega)] | rw [s_ne_ri (by omega)]); exact ew_pm (v := 54) hp rfl)) ?_
            refine xr_go hc rfl rfl ?_
            refine xr_go hc rfl rfl ?_
            refine xr_iast (A := 54) (N := 4) rfl rfl hc rfl (ew_own_p hn rfl) (by omega) (by omega) ?_
            refine xr_go hc rfl rfl ?_
            refine xr_gf2 (A := 38) rfl hc rfl (ew_own_p hn rfl) (show _ = (55 : Int) by first | exact ew_pm (v := 55) hp rfl | ((repeat first | rw [s_fn_ne (by omega)] | rw [s_ne_rd (by omega)] | rw [s_ne_ri (by omega)]); exact ew_pm (v := 55) hp rfl)) ?_
            refine xr_go hc rfl rfl ?_
            refine xr_go hc rfl rfl ?_
            refine xr_if_ge hc rfl (by omega) (fun c10 => ?_) (fun c10 => ?_)
            · skip
              refine xr_go hc rfl rfl ?_
              refine xr_iast (A := 55) (N := 4) rfl rfl hc rfl (ew_own_p hn rfl) (by omega) (by omega) ?_
              refine xr_go hc rfl rfl ?_
              refine xr_s1_4 hc rfl rfl rfl ?_
              have h := m_ty_1 hn hp (u := t.toNat) (by omega) (k := k) (m := m) (z := if k = -1 then 0 else m) 12 0 rfl
              rw [s_fn_0, s_toI (show 0 ≤ t by omega)] at h
              first
                | (rw [if_pos (by omega)] at h ⊢; exact h)
                | (rw [if_neg (by omega)] at h ⊢; exact h)
            · skip
              refine xr_go hc rfl rfl ?_
              refine xr_go hc rfl rfl ?_
              refine xr_iast (A := 55) (N := 4) rfl rfl hc rfl (ew_own_p hn rfl) (by omega) (by omega) ?_
              refine xr_go hc rfl rfl ?_
              refine xr_s1_4 hc rfl rfl rfl ?_
              have h := m_ty_1 hn hp (u := t.toNat) (by omega) (k := k) (m := m) (z := if k = -1 then 0 else m) 12 0 rfl
              rw [s_fn_0, s_toI (show 0 ≤ t by omega)] at h
              first
                | (rw [if_pos (by omega)] at h ⊢; exact h)
                | (rw [if_neg (by omega)] at h ⊢; exact h)
          · skip
            refine xr_go hc rfl rfl ?_
            refine xr_if_ge hc rfl (by omega) (fun c11 => ?_) (fun c11 => ?_)
            · skip
              refine xr_go hc rfl rfl ?_
              refine xr_gf2 (A := 38) rfl hc rfl (ew_own_p hn rfl) (show _ = (54 : Int) by first | exact ew_pm (v := 54) hp rfl | ((repeat first | rw [s_fn_ne (by omega)] | rw [s_ne_rd (by omega)] | rw [s_ne_ri (by omega)]); exact ew_pm (v := 54) hp rfl)) ?_
              refine xr_go hc rfl rfl ?_
              refine xr_go hc rfl rfl ?_
              refine xr_iast (A := 54) (N := 4) rfl rfl hc rfl (ew_own_p hn rfl) (by omega) (by omega) ?_
              refine xr_go hc rfl rfl ?_
              refine xr_gf2 (A := 38) rfl hc rfl (ew_own_p hn rfl) (show _ = (55 : Int) by first | exact ew_pm (v := 55) hp rfl | ((repeat first | rw [s_fn_ne (by omega)] | rw [s_ne_rd (by omega)] | rw [s_ne_ri (by omega)]); exact ew_pm (v := 55) hp rfl)) ?_
              refine xr_go hc rfl rfl ?_
              refine xr_go hc rfl rfl ?_
              refine xr_if_ge hc rfl (by omega) (fun c12 => ?_) (fun c12 => ?_)
              · skip
                refine xr_go hc rfl rfl ?_
                refine xr_iast (A := 55) (N := 4) rfl rfl hc rfl (ew_own_p hn rfl) (by omega) (by omega) ?_
                refine xr_go hc rfl rfl ?_
                refine xr_s1_4 hc rfl rfl rfl ?_
                have h := m_ty_1 hn hp (u := t.toNat) (by omega) (k := k) (m := m) (z := if k = -1 then 0 else m) 12 0 rfl
                rw [s_fn_0, s_toI (show 0 ≤ t by omega)] at h
                first
                  | (rw [if_pos (by omega)] at h ⊢; exact h)
                  | (rw [if_neg (by omega)] at h ⊢; exact h)
              · skip
                refine xr_go hc rfl rfl ?_
                refine xr_go hc rfl rfl ?_
                refine xr_iast (A := 55) (N := 4) rfl rfl hc rfl (ew_own_p hn rfl) (by omega) (by omega) ?_
                refine xr_go hc rfl rfl ?_
                refine xr_s1_4 hc rfl rfl rfl ?_
                have h := m_ty_1 hn hp (u := t.toNat) (by omega) (k := k) (m := m) (z := if k = -1 then 0 else m) 12 0 rfl
                rw [s_fn_0, s_toI (show 0 ≤ t by omega)] at h
                first
                  | (rw [if_pos (by omega)] at h ⊢; exact h)
                  | (rw [if_neg (by omega)] at h ⊢; exact h)
            · skip
              refine xr_go hc rfl rfl ?_
              refine xr_ret hc rfl rfl ?_
              exfalso; omega
        · skip
          refine xr_go hc rfl rfl ?_
          refine xr_ret hc rfl rfl ?_
          exfalso; omega
  · skip
    refine xr_go hc rfl rfl ?_
    refine xr_ret hc rfl rfl ?_
    exfalso; omega

set_option maxRecDepth 20000 in
theorem mx_trayN {n : Nat} {M : ew_Mem} (hn : 59 ≤ n) (hp : ew_Pm M) {t k m : Int} (ht : ew_in t) (hk : ew_in k) (hm : ew_in m) (h : ¬ s_okY t k m) : ew_FM 224 [(2, 38), (0, t), (0, k), (0, m)] n M (0, s_n_tray t k m) n M := by
  have hc := ew_c_224
  show ew_X 224 0 [(2, 38), (0, t), (0, k), (0, m), (5, 0)] [] n M _
  refine xr_go hc rfl rfl ?_
  refine xr_s_1 hc rfl rfl (m_isTray (by omega)) ?_
  refine xr_if_ne hc rfl (by split <;> omega) (fun c1 => ?_) (fun c1 => ?_)
  · skip
    refine xr_go hc rfl rfl ?_
    refine xr_i2l hc rfl (by omega) ?_
    refine xr_go hc rfl rfl ?_
    refine xr_go hc rfl rfl ?_
    refine xr_s_3 hc rfl rfl (c_in (by omega) (by first | decide | omega) (by first | decide | omega)) ?_
    refine xr_if_eq hc rfl (by split <;> omega) (fun c2 => ?_) (fun c2 => ?_)
    · skip
      refine xr_go hc rfl rfl ?_
      refine xr_ret hc rfl rfl ?_
      first
        | (exfalso; omega)
        | (refine ⟨?_, rfl, rfl⟩
           unfold s_n_tray
           repeat' split
           all_goals first
             | rfl
             | (exfalso; omega)
             | (congr 2; omega))
    · skip
      refine xr_go hc rfl rfl ?_
      refine xr_if_lt hc rfl (by omega) (fun c3 => ?_) (fun c3 => ?_)
      · skip
        refine xr_go hc rfl rfl ?_
        refine xr_if_lt hc rfl (by omega) (fun c4 => ?_) (fun c4 => ?_)
        · skip
          exfalso; omega
        · skip
          refine xr_go hc rfl rfl ?_
          refine xr_if_ge hc rfl (by omega) (fun c5 => ?_) (fun c5 => ?_)
          · skip
            exfalso; omega
          · skip
            refine xr_go hc rfl rfl ?_
            refine xr_ret hc rfl rfl ?_
            first
              | (exfalso; omega)
              | (refine ⟨?_, rfl, rfl⟩
                 unfold s_n_tray
                 repeat' split
                 all_goals first
                   | rfl
                   | (exfalso; omega)
                   | (congr 2; omega))
      · skip
        refine xr_go hc rfl rfl ?_
        refine xr_go hc rfl rfl ?_
        refine xr_icmp_le hc rfl (by omega) (by decide) (fun c6 => ?_) (fun c6 => ?_)
        · skip
          refine xr_go hc rfl rfl ?_
          refine xr_if_lt hc rfl (by omega) (fun c7 => ?_) (fun c7 => ?_)
          · skip
            exfalso; omega
          · skip
            refine xr_go hc rfl rfl ?_
            refine xr_if_ge hc rfl (by omega) (fun c8 => ?_) (fun c8 => ?_)
            · skip
              exfalso; omega
            · skip
              refine xr_go hc rfl rfl ?_
              refine xr_ret hc rfl rfl ?_
              first
                | (exfalso; omega)
                | (refine ⟨?_, rfl, rfl⟩
                   unfold s_n_tray
                   repeat' split
                   all_goals first
                     | rfl
                     | (exfalso; omega)
                     | (congr 2; omega))
        · skip
          refine xr_go hc rfl rfl ?_
          refine xr_ret hc rfl rfl ?_
          first
            | (exfalso; omega)
            | (refine ⟨?_, rfl, rfl⟩
               unfold s_n_tray
               repeat' split
               all_goals first
                 | rfl
                 | (exfalso; omega)
                 | (congr 2; omega))
  · skip
    refine xr_go hc rfl rfl ?_
    refine xr_ret hc rfl rfl ?_
    first
      | (exfalso; omega)
      | (refine ⟨?_, rfl, rfl⟩
         unfold s_n_tray
         repeat' split
         all_goals first
           | rfl
           | (exfalso; omega)
           | (congr 2; omega))

set_option maxRecDepth 20000 in
theorem mx_lay {V : ew_Mem} {n : Nat} {M : ew_Mem} (hM : s_M V n M) {t i w : Int} (ht : ew_in t) (hi : ew_in i) (hw : ew_in w) {kd sz : Int} (e1 : M 54 t.toNat = kd) (e2 : M 55 t.toNat = sz) (hk : -1 ≤ kd ∧ kd ≤ 4) (hs : 0 ≤ sz ∧ sz ≤ 12) (h : s_okL V kd sz t i w) : ew_FM 226 [(2, 38), (0, t), (0, i), (0, w)] n M (0, 1) n (ew_wr M 56 (12 * t + i).toNat (if w = -1 then -1 else M 44 w.toNat)) := by
  obtain ⟨hn, hp, hV, u0, u1, u2, u3, u4⟩ := id hM
  obtain ⟨hc6, hVW, hnd, hap, hr0, hr1, hr2, hr3, hr4, hr5⟩ := id hV
  have hc := ew_c_226
  show ew_X 226 0 [(2, 38), (0, t), (0, i), (0, w)] [] n M _
  refine xr_go hc rfl rfl ?_
  refine xr_s_1 hc rfl rfl (m_isTray (by omega)) ?_
  refine xr_if_eq hc rfl (by split <;> omega) (fun c1 => ?_) (fun c1 => ?_)
  · skip
    refine xr_go hc rfl rfl ?_
    refine xr_ret hc rfl rfl ?_
    first
      | (exfalso; omega)
      | (refine ⟨rfl, rfl, ?_⟩
         first
           | (rw [if_neg (by omega)]; done)
           | (rw [if_pos (by omega)]; done))
  · skip
    refine xr_go hc rfl rfl ?_
    refine xr_go hc rfl rfl ?_
    refine xr_icmp_eq hc rfl (by omega) (by decide) (fun c2 => ?_) (fun c2 => ?_)
    · skip
      first
        | (have hu4 := u4 w.toNat (by omega)
           obtain ⟨q0, q1, q2, q3, q4, q5⟩ := hu4
           have hWO := hVW w.toNat (by omega)
           obtain ⟨k0, k1, k2, k3, k4⟩ := id hWO)
        | skip
      refine xr_go hc rfl rfl ?_
      refine xr_gf2 (A := 38) (w := 54) rfl hc rfl (ew_own_p hn rfl) (ew_pm hp rfl) ?_
      refine xr_go hc rfl rfl ?_
      refine xr_iald (A := 54) (N := 4) rfl rfl hc rfl (ew_ok_p hn rfl) (by omega) (by omega) e1 ?_
      refine xr_if_ge hc rfl (by omega) (fun c3 => ?_) (fun c3 => ?_)
      · skip
        refine xr_go hc rfl rfl ?_
        refine xr_i2l hc rfl (by omega) ?_
        refine xr_go hc rfl rfl ?_
        refine xr_go hc rfl rfl ?_
        refine xr_gf2 (A := 38) (w := 55) rfl hc rfl (ew_own_p hn rfl) (ew_pm hp rfl) ?_
        refine xr_go hc rfl rfl ?_
        refine xr_iald (A := 55) (N := 4) rfl rfl hc rfl (ew_ok_p hn rfl) (by omega) (by omega) e2 ?_
        refine xr_go hc rfl rfl ?_
        refine xr_go hc rfl rfl ?_
        refine xr_i2l hc rfl (by omega) ?_
        refine xr_s_3 hc rfl rfl (c_in (by omega) (by first | decide | omega) (by first | decide | omega)) ?_
        refine xr_if_ne hc rfl (by split <;> omega) (fun c4 => ?_) (fun c4 => ?_)
        · skip
          refine xr_go hc rfl rfl ?_
          refine xr_if_lt hc rfl (by omega) (fun c5 => ?_) (fun c5 => ?_)
          · try (exfalso; omega)
            all_goals
              refine xr_go hc rfl rfl ?_
              refine xr_gf2 (A := 38) (w := 56) rfl hc rfl (ew_own_p hn rfl) (ew_pm hp rfl) ?_
              refine xr_go hc rfl rfl ?_
              refine xr_go hc rfl rfl ?_
              refine xr_go hc rfl rfl ?_
              refine xr_go hc rfl rfl ?_
              refine xr_go hc rfl rfl ?_
              refine xr_go hc rfl rfl ?_
              refine xr_if_ge hc rfl (by omega) (fun c6 => ?_) (fun c6 => ?_)
              · try (exfalso; omega)
                all_goals
                  refine xr_go hc rfl rfl ?_
                  refine xr_gf2 (A := 38) (w := 44) rfl hc rfl (ew_own_p hn rfl) (ew_pm hp rfl) ?_
                  refine xr_go hc rfl rfl ?_
                  refine xr_iald (A := 44) (N := 6) rfl rfl hc rfl (ew_ok_p hn rfl) (by omega) (by omega) rfl ?_
                  refine xr_iast (A := 56) (N := 48) rfl rfl hc rfl (ew_own_p hn rfl) (by omega) (by omega) ?_
                  refine xr_go hc rfl rfl ?_
                  refine xr_ret hc rfl rfl ?_
                  first
                    | (exfalso; omega)
                    | (refine ⟨rfl, rfl, ?_⟩
                       first
                         | (rw [if_neg (by omega)]; done)
                         | (rw [if_pos (by omega)]; done))
              · try (exfalso; omega)
                all_goals
                  refine xr_go hc rfl rfl ?_
                  refine xr_go hc rfl rfl ?_
                  refine xr_iast (A := 56) (N := 48) rfl rfl hc rfl (ew_own_p hn rfl) (by omega) (by omega) ?_
                  refine xr_go hc rfl rfl ?_
                  refine xr_ret hc rfl rfl ?_
                  first
                    | (exfalso; omega)
                    | (refine ⟨rfl, rfl, ?_⟩
                       first
                         | (rw [if_neg (by omega)]; done)
                         | (rw [if_pos (by omega)]; done))
          · try (exfalso; omega)
            all_goals
              refine xr_go hc rfl rfl ?_
              refine xr_gf2 (A := 38) (w := 39) rfl hc rfl (ew_own_p hn rfl) (ew_pm hp rfl) ?_
              refine xr_go hc rfl rfl ?_
              refine xr_gf2 (A := 38) (w := 44) rfl hc rfl (ew_own_p hn rfl) (ew_pm hp rfl) ?_
              refine xr_go hc rfl rfl ?_
              refine xr_iald (A := 44) (N := 6) rfl rfl hc rfl (ew_ok_p hn rfl) (by omega) (by omega) rfl ?_
              refine xr_iald (A := 39) (N := 64) rfl rfl hc rfl (ew_ok_p hn rfl) (by omega) (by omega) q1 ?_
              refine xr_go hc rfl rfl ?_
              refine xr_gf2 (A := 38) (w := 54) rfl hc rfl (ew_own_p hn rfl) (ew_pm hp rfl) ?_
              refine xr_go hc rfl rfl ?_
              refine xr_iald (A := 54) (N := 4) rfl rfl hc rfl (ew_ok_p hn rfl) (by omega) (by omega) e1 ?_
              refine xr_s_2 hc rfl rfl (m_isUnder (by omega) (by omega)) ?_
              refine xr_if_ne hc rfl (by have := s_un_01 (V w.toNat 0) kd; omega) (fun c7 => ?_) (fun c7 => ?_)
              · skip
                refine xr_go hc rfl rfl ?_
                refine xr_gf2 (A := 38) (w := 56) rfl hc rfl (ew_own_p hn rfl) (ew_pm hp rfl) ?_
                refine xr_go hc rfl rfl ?_
                refine xr_go hc rfl rfl ?_
                refine xr_go hc rfl rfl ?_
                refine xr_go hc rfl rfl ?_
                refine xr_go hc rfl rfl ?_
                refine xr_go hc rfl rfl ?_
                refine xr_if_ge hc rfl (by omega) (fun c8 => ?_) (fun c8 => ?_)
                · try (exfalso; omega)
                  all_goals
                    refine xr_go hc rfl rfl ?_
                    refine xr_gf2 (A := 38) (w := 44) rfl hc rfl (ew_own_p hn rfl) (ew_pm hp rfl) ?_
                    refine xr_go hc rfl rfl ?_
                    refine xr_iald (A := 44) (N := 6) rfl rfl hc rfl (ew_ok_p hn rfl) (by omega) (by omega) rfl ?_
                    refine xr_iast (A := 56) (N := 48) rfl rfl hc rfl (ew_own_p hn rfl) (by omega) (by omega) ?_
                    refine xr_go hc rfl rfl ?_
                    refine xr_ret hc rfl rfl ?_
                    first
                      | (exfalso; omega)
                      | (refine ⟨rfl, rfl, ?_⟩
                         first
                           | (rw [if_neg (by omega)]; done)
                           | (rw [if_pos (by omega)]; done))
                · try (exfalso; omega)
                  all_goals
                    refine xr_go hc rfl rfl ?_
                    refine xr_go hc rfl rfl ?_
                    refine xr_iast (A := 56) (N := 48) rfl rfl hc rfl (ew_own_p hn rfl) (by omega) (by omega) ?_
                    refine xr_go hc rfl rfl ?_
                    refine xr_ret hc rfl rfl ?_
                    first
                      | (exfalso; omega)
                      | (refine ⟨rfl, rfl, ?_⟩
                         first
                           | (rw [if_neg (by omega)]; done)
                           | (rw [if_pos (by omega)]; done))
              · skip
                refine xr_go hc rfl rfl ?_
                refine xr_ret hc rfl rfl ?_
                first
                  | (exfalso; omega)
                  | (refine ⟨rfl, rfl, ?_⟩
                     first
                       | (rw [if_neg (by omega)]; done)
                       | (rw [if_pos (by omega)]; done))
        · skip
          refine xr_go hc rfl rfl ?_
          refine xr_ret hc rfl rfl ?_
          first
            | (exfalso; omega)
            | (refine ⟨rfl, rfl, ?_⟩
               first
                 | (rw [if_neg (by omega)]; done)
                 | (rw [if_pos (by omega)]; done))
      · skip
        refine xr_go hc rfl rfl ?_
        refine xr_ret hc rfl rfl ?_
        first
          | (exfalso; omega)
          | (refine ⟨rfl, rfl, ?_⟩
             first
               | (rw [if_neg (by omega)]; done)
               | (rw [if_pos (by omega)]; done))
    · skip
      refine xr_go hc rfl rfl ?_
      refine xr_go hc rfl rfl ?_
      refine xr_v_2 hc rfl rfl (ew_own_p hn rfl) (m_isWheel hM (by omega)) ?_
      refine xr_if_ne hc rfl (by split <;> omega) (fun c9 => ?_) (fun c9 => ?_)
      · skip
        first
          | (have hu4 := u4 w.toNat (by omega)
             obtain ⟨q0, q1, q2, q3, q4, q5⟩ := hu4
             have hWO := hVW w.toNat (by omega)
             obtain ⟨k0, k1, k2, k3, k4⟩ := id hWO)
          | skip
        refine xr_go hc rfl rfl ?_
        refine xr_gf2 (A := 38) (w := 54) rfl hc rfl (ew_own_p hn rfl) (ew_pm hp rfl) ?_
        refine xr_go hc rfl rfl ?_
        refine xr_iald (A := 54) (N := 4) rfl rfl hc rfl (ew_ok_p hn rfl) (by omega) (by omega) e1 ?_
        refine xr_if_ge hc rfl (by omega) (fun c10 => ?_) (fun c10 => ?_)
        · skip
          refine xr_go hc rfl rfl ?_
          refine xr_i2l hc rfl (by omega) ?_
          refine xr_go hc rfl rfl ?_
          refine xr_go hc rfl rfl ?_
          refine xr_gf2 (A := 38) (w := 55) rfl hc rfl (ew_own_p hn rfl) (ew_pm hp rfl) ?_
          refine xr_go hc rfl rfl ?_
          refine xr_iald (A := 55) (N := 4) rfl rfl hc rfl (ew_ok_p hn rfl) (by omega) (by omega) e2 ?_
          refine xr_go hc rfl rfl ?_
          refine xr_go hc rfl rfl ?_
          refine xr_i2l hc rfl (by omega) ?_
          refine xr_s_3 hc rfl rfl (c_in (by omega) (by first | decide | omega) (by first | decide | omega)) ?_
          refine xr_if_ne hc rfl (by split <;> omega) (fun c11 => ?_) (fun c11 => ?_)
          · skip
            refine xr_go hc rfl rfl ?_
            refine xr_if_lt hc rfl (by omega) (fun c12 => ?_) (fun c12 => ?_)
            · try (exfalso; omega)
              all_goals
                refine xr_go hc rfl rfl ?_
                refine xr_gf2 (A := 38) (w := 56) rfl hc rfl (ew_own_p hn rfl) (ew_pm hp rfl) ?_
                refine xr_go hc rfl rfl ?_
                refine xr_go hc rfl rfl ?_
                refine xr_go hc rfl rfl ?_
                refine xr_go hc rfl rfl ?_
                refine xr_go hc rfl rfl ?_
                refine xr_go hc rfl rfl ?_
                refine xr_if_ge hc rfl (by omega) (fun c13 => ?_) (fun c13 => ?_)
                · try (exfalso; omega)
                  all_goals
                    refine xr_go hc rfl rfl ?_
                    refine xr_gf2 (A := 38) (w := 44) rfl hc rfl (ew_own_p hn rfl) (ew_pm hp rfl) ?_
                    refine xr_go hc rfl rfl ?_
                    refine xr_iald (A := 44) (N := 6) rfl rfl hc rfl (ew_ok_p hn rfl) (by omega) (by omega) rfl ?_
                    refine xr_iast (A := 56) (N := 48) rfl rfl hc rfl (ew_own_p hn rfl) (by omega) (by omega) ?_
                    refine xr_go hc rfl rfl ?_
                    refine xr_ret hc rfl rfl ?_
                    first
                      | (exfalso; omega)
                      | (refine ⟨rfl, rfl, ?_⟩
                         first
                           | (rw [if_neg (by omega)]; done)
                           | (rw [if_pos (by omega)]; done))
                · try (exfalso; omega)
                  all_goals
                    refine xr_go hc rfl rfl ?_
                    refine xr_go hc rfl rfl ?_
                    refine xr_iast (A := 56) (N := 48) rfl rfl hc rfl (ew_own_p hn rfl) (by omega) (by omega) ?_
                    refine xr_go hc rfl rfl ?_
                    refine xr_ret hc rfl rfl ?_
                    first
                      | (exfalso; omega)
                      | (refine ⟨rfl, rfl, ?_⟩
                         first
                           | (rw [if_neg (by omega)]; done)
                           | (rw [if_pos (by omega)]; done))
            · try (exfalso; omega)
              all_goals
                refine xr_go hc rfl rfl ?_
                refine xr_gf2 (A := 38) (w := 39) rfl hc rfl (ew_own_p hn rfl) (ew_pm hp rfl) ?_
                refine xr_go hc rfl rfl ?_
                refine xr_gf2 (A := 38) (w := 44) rfl hc rfl (ew_own_p hn rfl) (ew_pm hp rfl) ?_
                refine xr_go hc rfl rfl ?_
                refine xr_iald (A := 44) (N := 6) rfl rfl hc rfl (ew_ok_p hn rfl) (by omega) (by omega) rfl ?_
                refine xr_iald (A := 39) (N := 64) rfl rfl hc rfl (ew_ok_p hn rfl) (by omega) (by omega) q1 ?_
                refine xr_go hc rfl rfl ?_
                refine xr_gf2 (A := 38) (w := 54) rfl hc rfl (ew_own_p hn rfl) (ew_pm hp rfl) ?_
                refine xr_go hc rfl rfl ?_
                refine xr_iald (A := 54) (N := 4) rfl rfl hc rfl (ew_ok_p hn rfl) (by omega) (by omega) e1 ?_
                refine xr_s_2 hc rfl rfl (m_isUnder (by omega) (by omega)) ?_
                refine xr_if_ne hc rfl (by have := s_un_01 (V w.toNat 0) kd; omega) (fun c14 => ?_) (fun c14 => ?_)
                · skip
                  refine xr_go hc rfl rfl ?_
                  refine xr_gf2 (A := 38) (w := 56) rfl hc rfl (ew_own_p hn rfl) (ew_pm hp rfl) ?_
                  refine xr_go hc rfl rfl ?_
                  refine xr_go hc rfl rfl ?_
                  refine xr_go hc rfl rfl ?_
                  refine xr_go hc rfl rfl ?_
                  refine xr_go hc rfl rfl ?_
                  refine xr_go hc rfl rfl ?_
                  refine xr_if_ge hc rfl (by omega) (fun c15 => ?_) (fun c15 => ?_)
                  · try (exfalso; omega)
                    all_goals
                      refine xr_go hc rfl rfl ?_
                      refine xr_gf2 (A := 38) (w := 44) rfl hc rfl (ew_own_p hn rfl) (ew_pm hp rfl) ?_
                      refine xr_go hc rfl rfl ?_
                      refine xr_iald (A := 44) (N := 6) rfl rfl hc rfl (ew_ok_p hn rfl) (by omega) (by omega) rfl ?_
                      refine xr_iast (A := 56) (N := 48) rfl rfl hc rfl (ew_own_p hn rfl) (by omega) (by omega) ?_
                      refine xr_go hc rfl rfl ?_
                      refine xr_ret hc rfl rfl ?_
                      first
                        | (exfalso; omega)
                        | (refine ⟨rfl, rfl, ?_⟩
                           first
                             | (rw [if_neg (by omega)]; done)
                             | (rw [if_pos (by omega)]; done))
                  · try (exfalso; omega)
                    all_goals
                      refine xr_go hc rfl rfl ?_
                      refine xr_go hc rfl rfl ?_
                      refine xr_iast (A := 56) (N := 48) rfl rfl hc rfl (ew_own_p hn rfl) (by omega) (by omega) ?_
                      refine xr_go hc rfl rfl ?_
                      refine xr_ret hc rfl rfl ?_
                      first
                        | (exfalso; omega)
                        | (refine ⟨rfl, rfl, ?_⟩
                           first
                             | (rw [if_neg (by omega)]; done)
                             | (rw [if_pos (by omega)]; done))
                · skip
                  refine xr_go hc rfl rfl ?_
                  refine xr_ret hc rfl rfl ?_
                  first
                    | (exfalso; omega)
                    | (refine ⟨rfl, rfl, ?_⟩
                       first
                         | (rw [if_neg (by omega)]; done)
                         | (rw [if_pos (by omega)]; done))
          · skip
            refine xr_go hc rfl rfl ?_
            refine xr_ret hc rfl rfl ?_
            first
              | (exfalso; omega)
              | (refine ⟨rfl, rfl, ?_⟩
                 first
                   | (rw [if_neg (by omega)]; done)
                   | (rw [if_pos (by omega)]; done))
        · skip
          refine xr_go hc rfl rfl ?_
          refine xr_ret hc rfl rfl ?_
          first
            | (exfalso; omega)
            | (refine ⟨rfl, rfl, ?_⟩
               first
                 | (rw [if_neg (by omega)]; done)
                 | (rw [if_pos (by omega)]; done))
      · skip
        refine xr_go hc rfl rfl ?_
        refine xr_ret hc rfl rfl ?_
        first
          | (exfalso; omega)
          | (refine ⟨rfl, rfl, ?_⟩
             first
               | (rw [if_neg (by omega)]; done)
               | (rw [if_pos (by omega)]; done))

set_option maxRecDepth 20000 in
theorem mx_layN {V : ew_Mem} {n : Nat} {M : ew_Mem} (hM : s_M V n M) {t i w : Int} (ht : ew_in t) (hi : ew_in i) (hw : ew_in w) {kd sz : Int} (e1 : M 54 t.toNat = kd) (e2 : M 55 t.toNat = sz) (hk : -1 ≤ kd ∧ kd ≤ 4) (hs : 0 ≤ sz ∧ sz ≤ 12) (h : ¬ s_okL V kd sz t i w) : ew_FM 226 [(2, 38), (0, t), (0, i), (0, w)] n M (0, s_n_lay V kd sz t i w) n M := by
  obtain ⟨hn, hp, hV, u0, u1, u2, u3, u4⟩ := id hM
  obtain ⟨hc6, hVW, hnd, hap, hr0, hr1, hr2, hr3, hr4, hr5⟩ := id hV
  have hc := ew_c_226
  show ew_X 226 0 [(2, 38), (0, t), (0, i), (0, w)] [] n M _
  refine xr_go hc rfl rfl ?_
  refine xr_s_1 hc rfl rfl (m_isTray (by omega)) ?_
  refine xr_if_eq hc rfl (by split <;> omega) (fun c1 => ?_) (fun c1 => ?_)
  · skip
    refine xr_go hc rfl rfl ?_
    refine xr_ret hc rfl rfl ?_
    first
      | (exfalso; omega)
      | (refine ⟨?_, rfl, rfl⟩
         unfold s_n_lay
         repeat' split
         all_goals first
           | rfl
           | (exfalso; omega)
           | (congr 2; omega))
  · skip
    refine xr_go hc rfl rfl ?_
    refine xr_go hc rfl rfl ?_
    refine xr_icmp_eq hc rfl (by omega) (by decide) (fun c2 => ?_) (fun c2 => ?_)
    · skip
      first
        | (have hu4 := u4 w.toNat (by omega)
           obtain ⟨q0, q1, q2, q3, q4, q5⟩ := hu4
           have hWO := hVW w.toNat (by omega)
           obtain ⟨k0, k1, k2, k3, k4⟩ := id hWO)
        | skip
      refine xr_go hc rfl rfl ?_
      refine xr_gf2 (A := 38) (w := 54) rfl hc rfl (ew_own_p hn rfl) (ew_pm hp rfl) ?_
      refine xr_go hc rfl rfl ?_
      refine xr_iald (A := 54) (N := 4) rfl rfl hc rfl (ew_ok_p hn rfl) (by omega) (by omega) e1 ?_
      refine xr_if_ge hc rfl (by omega) (fun c3 => ?_) (fun c3 => ?_)
      · skip
        refine xr_go hc rfl rfl ?_
        refine xr_i2l hc rfl (by omega) ?_
        refine xr_go hc rfl rfl ?_
        refine xr_go hc rfl rfl ?_
        refine xr_gf2 (A := 38) (w := 55) rfl hc rfl (ew_own_p hn rfl) (ew_pm hp rfl) ?_
        refine xr_go hc rfl rfl ?_
        refine xr_iald (A := 55) (N := 4) rfl rfl hc rfl (ew_ok_p hn rfl) (by omega) (by omega) e2 ?_
        refine xr_go hc rfl rfl ?_
        refine xr_go hc rfl rfl ?_
        refine xr_i2l hc rfl (by omega) ?_
        refine xr_s_3 hc rfl rfl (c_in (by omega) (by first | decide | omega) (by first | decide | omega)) ?_
        refine xr_if_ne hc rfl (by split <;> omega) (fun c4 => ?_) (fun c4 => ?_)
        · skip
          refine xr_go hc rfl rfl ?_
          refine xr_if_lt hc rfl (by omega) (fun c5 => ?_) (fun c5 => ?_)
          · try (exfalso; omega)
            all_goals
              exfalso
              apply h
              first
                | exact ⟨by omega, by omega, by omega, by omega, fun _ => by have := s_un_01 (V w.toNat 0) kd; omega⟩
                | exact ⟨by omega, by omega, by omega, by omega, fun q => absurd q (by omega)⟩
          · try (exfalso; omega)
            all_goals
              refine xr_go hc rfl rfl ?_
              refine xr_gf2 (A := 38) (w := 39) rfl hc rfl (ew_own_p hn rfl) (ew_pm hp rfl) ?_
              refine xr_go hc rfl rfl ?_
              refine xr_gf2 (A := 38) (w := 44) rfl hc rfl (ew_own_p hn rfl) (ew_pm hp rfl) ?_
              refine xr_go hc rfl rfl ?_
              refine xr_iald (A := 44) (N := 6) rfl rfl hc rfl (ew_ok_p hn rfl) (by omega) (by omega) rfl ?_
              refine xr_iald (A := 39) (N := 64) rfl rfl hc rfl (ew_ok_p hn rfl) (by omega) (by omega) q1 ?_
              refine xr_go hc rfl rfl ?_
              refine xr_gf2 (A := 38) (w := 54) rfl hc rfl (ew_own_p hn rfl) (ew_pm hp rfl) ?_
              refine xr_go hc rfl rfl ?_
              refine xr_iald (A := 54) (N := 4) rfl rfl hc rfl (ew_ok_p hn rfl) (by omega) (by omega) e1 ?_
              refine xr_s_2 hc rfl rfl (m_isUnder (by omega) (by omega)) ?_
              refine xr_if_ne hc rfl (by have := s_un_01 (V w.toNat 0) kd; omega) (fun c6 => ?_) (fun c6 => ?_)
              · skip
                exfalso
                apply h
                first
                  | exact ⟨by omega, by omega, by omega, by omega, fun _ => by have := s_un_01 (V w.toNat 0) kd; omega⟩
                  | exact ⟨by omega, by omega, by omega, by omega, fun q => absurd q (by omega)⟩
              · skip
                refine xr_go hc rfl rfl ?_
                refine xr_ret hc rfl rfl ?_
                first
                  | (exfalso; omega)
                  | (refine ⟨?_, rfl, rfl⟩
                     unfold s_n_lay
                     repeat' split
                     all_goals first
                       | rfl
                       | (exfalso; omega)
                       | (congr 2; omega))
        · skip
          refine xr_go hc rfl rfl ?_
          refine xr_ret hc rfl rfl ?_
          first
            | (exfalso; omega)
            | (refine ⟨?_, rfl, rfl⟩
               unfold s_n_lay
               repeat' split
               all_goals first
                 | rfl
                 | (exfalso; omega)
                 | (congr 2; omega))
      · skip
        refine xr_go hc rfl rfl ?_
        refine xr_ret hc rfl rfl ?_
        first
          | (exfalso; omega)
          | (refine ⟨?_, rfl, rfl⟩
             unfold s_n_lay
             repeat' split
             all_goals first
               | rfl
               | (exfalso; omega)
               | (congr 2; omega))
    · skip
      refine xr_go hc rfl rfl ?_
      refine xr_go hc rfl rfl ?_
      refine xr_v_2 hc rfl rfl (ew_own_p hn rfl) (m_isWheel hM (by omega)) ?_
      refine xr_if_ne hc rfl (by split <;> omega) (fun c7 => ?_) (fun c7 => ?_)
      · skip
        first
          | (have hu4 := u4 w.toNat (by omega)
             obtain ⟨q0, q1, q2, q3, q4, q5⟩ := hu4
             have hWO := hVW w.toNat (by omega)
             obtain ⟨k0, k1, k2, k3, k4⟩ := id hWO)
          | skip
        refine xr_go hc rfl rfl ?_
        refine xr_gf2 (A := 38) (w := 54) rfl hc rfl (ew_own_p hn rfl) (ew_pm hp rfl) ?_
        refine xr_go hc rfl rfl ?_
        refine xr_iald (A := 54) (N := 4) rfl rfl hc rfl (ew_ok_p hn rfl) (by omega) (by omega) e1 ?_
        refine xr_if_ge hc rfl (by omega) (fun c8 => ?_) (fun c8 => ?_)
        · skip
          refine xr_go hc rfl rfl ?_
          refine xr_i2l hc rfl (by omega) ?_
          refine xr_go hc rfl rfl ?_
          refine xr_go hc rfl rfl ?_
          refine xr_gf2 (A := 38) (w := 55) rfl hc rfl (ew_own_p hn rfl) (ew_pm hp rfl) ?_
          refine xr_go hc rfl rfl ?_
          refine xr_iald (A := 55) (N := 4) rfl rfl hc rfl (ew_ok_p hn rfl) (by omega) (by omega) e2 ?_
          refine xr_go hc rfl rfl ?_
          refine xr_go hc rfl rfl ?_
          refine xr_i2l hc rfl (by omega) ?_
          refine xr_s_3 hc rfl rfl (c_in (by omega) (by first | decide | omega) (by first | decide | omega)) ?_
          refine xr_if_ne hc rfl (by split <;> omega) (fun c9 => ?_) (fun c9 => ?_)
          · skip
            refine xr_go hc rfl rfl ?_
            refine xr_if_lt hc rfl (by omega) (fun c10 => ?_) (fun c10 => ?_)
            · try (exfalso; omega)
              all_goals
                exfalso
                apply h
                first
                  | exact ⟨by omega, by omega, by omega, by omega, fun _ => by have := s_un_01 (V w.toNat 0) kd; omega⟩
                  | exact ⟨by omega, by omega, by omega, by omega, fun q => absurd q (by omega)⟩
            · try (exfalso; omega)
              all_goals
                refine xr_go hc rfl rfl ?_
                refine xr_gf2 (A := 38) (w := 39) rfl hc rfl (ew_own_p hn rfl) (ew_pm hp rfl) ?_
                refine xr_go hc rfl rfl ?_
                refine xr_gf2 (A := 38) (w := 44) rfl hc rfl (ew_own_p hn rfl) (ew_pm hp rfl) ?_
                refine xr_go hc rfl rfl ?_
                refine xr_iald (A := 44) (N := 6) rfl rfl hc rfl (ew_ok_p hn rfl) (by omega) (by omega) rfl ?_
                refine xr_iald (A := 39) (N := 64) rfl rfl hc rfl (ew_ok_p hn rfl) (by omega) (by omega) q1 ?_
                refine xr_go hc rfl rfl ?_
                refine xr_gf2 (A := 38) (w := 54) rfl hc rfl (ew_own_p hn rfl) (ew_pm hp rfl) ?_
                refine xr_go hc rfl rfl ?_
                refine xr_iald (A := 54) (N := 4) rfl rfl hc rfl (ew_ok_p hn rfl) (by omega) (by omega) e1 ?_
                refine xr_s_2 hc rfl rfl (m_isUnder (by omega) (by omega)) ?_
                refine xr_if_ne hc rfl (by have := s_un_01 (V w.toNat 0) kd; omega) (fun c11 => ?_) (fun c11 => ?_)
                · skip
                  exfalso
                  apply h
                  first
                    | exact ⟨by omega, by omega, by omega, by omega, fun _ => by have := s_un_01 (V w.toNat 0) kd; omega⟩
                    | exact ⟨by omega, by omega, by omega, by omega, fun q => absurd q (by omega)⟩
                · skip
                  refine xr_go hc rfl rfl ?_
                  refine xr_ret hc rfl rfl ?_
                  first
                    | (exfalso; omega)
                    | (refine ⟨?_, rfl, rfl⟩
                       unfold s_n_lay
                       repeat' split
                       all_goals first
                         | rfl
                         | (exfalso; omega)
                         | (congr 2; omega))
          · skip
            refine xr_go hc rfl rfl ?_
            refine xr_ret hc rfl rfl ?_
            first
              | (exfalso; omega)
              | (refine ⟨?_, rfl, rfl⟩
                 unfold s_n_lay
                 repeat' split
                 all_goals first
                   | rfl
                   | (exfalso; omega)
                   | (congr 2; omega))
        · skip
          refine xr_go hc rfl rfl ?_
          refine xr_ret hc rfl rfl ?_
          first
            | (exfalso; omega)
            | (refine ⟨?_, rfl, rfl⟩
               unfold s_n_lay
               repeat' split
               all_goals first
                 | rfl
                 | (exfalso; omega)
                 | (congr 2; omega))
      · skip
        refine xr_go hc rfl rfl ?_
        refine xr_ret hc rfl rfl ?_
        first
          | (exfalso; omega)
          | (refine ⟨?_, rfl, rfl⟩
             unfold s_n_lay
             repeat' split
             all_goals first
               | rfl
               | (exfalso; omega)
               | (congr 2; omega))

set_option maxRecDepth 20000 in
theorem mx_laid {n : Nat} {M : ew_Mem} (hn : 59 ≤ n) (hp : ew_Pm M) {t i x : Int} (ht : ew_in t) (hi : ew_in i) (hx : ew_in x) {kd sz : Int} (e1 : M 54 t.toNat = kd) (e2 : M 55 t.toNat = sz) (hk : -1 ≤ kd ∧ kd ≤ 4) (hs : 0 ≤ sz ∧ sz ≤ 12) {th : Int} {g : Nat} {W : Nat → Int} (e3 : (0 ≤ t ∧ t < 4) → (0 ≤ i ∧ i < sz) → M 56 (12 * t + i).toNat = if th = 0 then -1 else (g : Int)) (hg : ¬ th = 0 → g < 64 ∧ M 39 g = W 0 ∧ M 40 g = W 1 ∧ M 41 g = W 2 ∧ M 42 g = W 3)  : ew_FM 228 [(2, 38), (0, t), (0, i), (0, x)] n M (0, s_a_laid kd sz th W t i x) n M := by
  have hc := ew_c_228
  show ew_X 228 0 [(2, 38), (0, t), (0, i), (0, x), (5, 0)] [] n M _
  refine xr_go hc rfl rfl ?_
  refine xr_s_1 hc rfl rfl (m_isTray (by omega)) ?_
  refine xr_if_eq hc rfl (by split <;> omega) (fun c1 => ?_) (fun c1 => ?_)
  · skip
    refine xr_go hc rfl rfl ?_
    refine xr_ret hc rfl rfl ?_
    first
      | (exfalso; omega)
      | (refine ⟨?_, rfl, rfl⟩
         unfold s_a_laid
         repeat' split
         all_goals first
           | rfl
           | (exfalso; omega)
           | (congr 2; omega))
  · skip
    refine xr_go hc rfl rfl ?_
    refine xr_i2l hc rfl (by omega) ?_
    refine xr_go hc rfl rfl ?_
    refine xr_go hc rfl rfl ?_
    refine xr_s_3 hc rfl rfl (c_in (by omega) (by first | decide | omega) (by first | decide | omega)) ?_
    refine xr_if_ne hc rfl (by split <;> omega) (fun c2 => ?_) (fun c2 => ?_)
    · skip
      refine xr_go hc rfl rfl ?_
      refine xr_gf2 (A := 38) (w := 54) rfl hc rfl (ew_own_p hn rfl) (ew_pm hp rfl) ?_
      refine xr_go hc rfl rfl ?_
      refine xr_iald (A := 54) (N := 4) rfl rfl hc rfl (ew_ok_p hn rfl) (by omega) (by omega) e1 ?_
      refine xr_if_ge hc rfl (by omega) (fun c3 => ?_) (fun c3 => ?_)
      · skip
        refine xr_go hc rfl rfl ?_
        refine xr_i2l hc rfl (by omega) ?_
        refine xr_go hc rfl rfl ?_
        refine xr_go hc rfl rfl ?_
        refine xr_gf2 (A := 38) (w := 55) rfl hc rfl (ew_own_p hn rfl) (ew_pm hp rfl) ?_
        refine xr_go hc rfl rfl ?_
        refine xr_iald (A := 55) (N := 4) rfl rfl hc rfl (ew_ok_p hn rfl) (by omega) (by omega) e2 ?_
        refine xr_go hc rfl rfl ?_
        refine xr_go hc rfl rfl ?_
        refine xr_i2l hc rfl (by omega) ?_
        refine xr_s_3 hc rfl rfl (c_in (by omega) (by first | decide | omega) (by first | decide | omega)) ?_
        refine xr_if_ne hc rfl (by split <;> omega) (fun c4 => ?_) (fun c4 => ?_)
        · skip
          refine xr_go hc rfl rfl ?_
          refine xr_gf2 (A := 38) (w := 56) rfl hc rfl (ew_own_p hn rfl) (ew_pm hp rfl) ?_
          refine xr_go hc rfl rfl ?_
          refine xr_go hc rfl rfl ?_
          refine xr_go hc rfl rfl ?_
          refine xr_go hc rfl rfl ?_
          refine xr_go hc rfl rfl ?_
          refine xr_iald (A := 56) (N := 48) rfl rfl hc rfl (ew_ok_p hn rfl) (by omega) (by omega) (e3 (by omega) (by omega)) ?_
          refine xr_s1_4 hc rfl rfl rfl ?_
          refine xr_go hc rfl rfl ?_
          by_cases hth : th = 0
          · rw [if_pos hth]
            refine xr_if_ge hc rfl (by decide) (fun c9 => ?_) (fun c9 => ?_)
            · exfalso; omega
            · refine xr_go hc rfl rfl ?_
              refine xr_ret hc rfl rfl ?_
              refine ⟨?_, rfl, rfl⟩
              unfold s_a_laid
              rw [if_pos (by omega), if_neg (by omega), if_pos (by omega), if_pos hth]
          · rw [if_neg hth]
            obtain ⟨g0, g1, g2, g3, g4⟩ := hg hth
            refine xr_if_ge hc rfl (by omega) (fun c1 => ?_) (fun c1 => ?_)
            · skip
              refine xr_go hc rfl rfl ?_
              refine xr_if_ne hc rfl (by omega) (fun c2 => ?_) (fun c2 => ?_)
              · skip
                refine xr_go hc rfl rfl ?_
                refine xr_go hc rfl rfl ?_
                refine xr_icmp_ne hc rfl (by omega) (by decide) (fun c3 => ?_) (fun c3 => ?_)
                · skip
                  refine xr_go hc rfl rfl ?_
                  refine xr_go hc rfl rfl ?_
                  refine xr_icmp_ne hc rfl (by omega) (by decide) (fun c4 => ?_) (fun c4 => ?_)
                  · skip
                    refine xr_go hc rfl rfl ?_
                    refine xr_gf2 (A := 38) (w := 42) rfl hc rfl (ew_own_p hn rfl) (ew_pm hp rfl) ?_
                    refine xr_go hc rfl rfl ?_
                    refine xr_iald (A := 42) (N := 64) rfl rfl hc rfl (ew_ok_p hn rfl) (by omega) (by omega) rfl ?_
                    refine xr_ret hc rfl rfl ?_
                    refine ⟨?_, rfl, rfl⟩
                    unfold s_a_laid s_told
                    rw [if_pos (by omega), if_neg (by omega), if_pos (by omega), if_neg hth]
                    first
                      | (obtain rfl : x = 0 := by omega
                         exact congrArg (fun z => some (0, z)) g1)
                      | (obtain rfl : x = 1 := by omega
                         exact congrArg (fun z => some (0, z)) g2)
                      | (obtain rfl : x = 2 := by omega
                         exact congrArg (fun z => some (0, z)) g3)
                      | (obtain rfl : x = 3 := by omega
                         exact congrArg (fun z => some (0, z)) g4)
                  · skip
                    refine xr_go hc rfl rfl ?_
                    refine xr_gf2 (A := 38) (w := 41) rfl hc rfl (ew_own_p hn rfl) (ew_pm hp rfl) ?_
                    refine xr_go hc rfl rfl ?_
                    refine xr_iald (A := 41) (N := 64) rfl rfl hc rfl (ew_ok_p hn rfl) (by omega) (by omega) rfl ?_
                    refine xr_go hc rfl rfl ?_
                    refine xr_ret hc rfl rfl ?_
                    refine ⟨?_, rfl, rfl⟩
                    unfold s_a_laid s_told
                    rw [if_pos (by omega), if_neg (by omega), if_pos (by omega), if_neg hth]
                    first
                      | (obtain rfl : x = 0 := by omega
                         exact congrArg (fun z => some (0, z)) g1)
                      | (obtain rfl : x = 1 := by omega
                         exact congrArg (fun z => some (0, z)) g2)
                      | (obtain rfl : x = 2 := by omega
                         exact congrArg (fun z => some (0, z)) g3)
                      | (obtain rfl : x = 3 := by omega
                         exact congrArg (fun z => some (0, z)) g4)
                · skip
                  refine xr_go hc rfl rfl ?_
                  refine xr_gf2 (A := 38) (w := 40) rfl hc rfl (ew_own_p hn rfl) (ew_pm hp rfl) ?_
                  refine xr_go hc rfl rfl ?_
                  refine xr_iald (A := 40) (N := 64) rfl rfl hc rfl (ew_ok_p hn rfl) (by omega) (by omega) rfl ?_
                  refine xr_go hc rfl rfl ?_
                  refine xr_ret hc rfl rfl ?_
                  refine ⟨?_, rfl, rfl⟩
                  unfold s_a_laid s_told
                  rw [if_pos (by omega), if_neg (by omega), if_pos (by omega), if_neg hth]
                  first
                    | (obtain rfl : x = 0 := by omega
                       exact congrArg (fun z => some (0, z)) g1)
                    | (obtain rfl : x = 1 := by omega
                       exact congrArg (fun z => some (0, z)) g2)
                    | (obtain rfl : x = 2 := by omega
                       exact congrArg (fun z => some (0, z)) g3)
                    | (obtain rfl : x = 3 := by omega
                       exact congrArg (fun z => some (0, z)) g4)
              · skip
                refine xr_go hc rfl rfl ?_
                refine xr_gf2 (A := 38) (w := 39) rfl hc rfl (ew_own_p hn rfl) (ew_pm hp rfl) ?_
                refine xr_go hc rfl rfl ?_
                refine xr_iald (A := 39) (N := 64) rfl rfl hc rfl (ew_ok_p hn rfl) (by omega) (by omega) rfl ?_
                refine xr_go hc rfl rfl ?_
                refine xr_ret hc rfl rfl ?_
                refine ⟨?_, rfl, rfl⟩
                unfold s_a_laid s_told
                rw [if_pos (by omega), if_neg (by omega), if_pos (by omega), if_neg hth]
                first
                  | (obtain rfl : x = 0 := by omega
                     exact congrArg (fun z => some (0, z)) g1)
                  | (obtain rfl : x = 1 := by omega
                     exact congrArg (fun z => some (0, z)) g2)
                  | (obtain rfl : x = 2 := by omega
                     exact congrArg (fun z => some (0, z)) g3)
                  | (obtain rfl : x = 3 := by omega
                     exact congrArg (fun z => some (0, z)) g4)
            · exfalso; omega
        · skip
          refine xr_go hc rfl rfl ?_
          refine xr_ret hc rfl rfl ?_
          first
            | (exfalso; omega)
            | (refine ⟨?_, rfl, rfl⟩
               unfold s_a_laid
               repeat' split
               all_goals first
                 | rfl
                 | (exfalso; omega)
                 | (congr 2; omega))
      · skip
        refine xr_go hc rfl rfl ?_
        refine xr_ret hc rfl rfl ?_
        first
          | (exfalso; omega)
          | (refine ⟨?_, rfl, rfl⟩
             unfold s_a_laid
             repeat' split
             all_goals first
               | rfl
               | (exfalso; omega)
               | (congr 2; omega))
    · skip
      refine xr_go hc rfl rfl ?_
      refine xr_ret hc rfl rfl ?_
      first
        | (exfalso; omega)
        | (refine ⟨?_, rfl, rfl⟩
           unfold s_a_laid
           repeat' split
           all_goals first
             | rfl
             | (exfalso; omega)
             | (congr 2; omega))

theorem s_tbrM {M : ew_Mem} {u v i : Nat} {x y : Int} {f : Nat → Int} (h : i < 12) (hi : ∀ i, i < 12 → f i = M 56 (12 * v + i)) : s_fn (ew_wr (ew_wr M 54 u x) 55 u y) 56 (12 * u) i f 56 (12 * (v : Int) + (i : Int)).toNat = M 56 (12 * v + i) := by
  rw [show (12 * (v : Int) + (i : Int)).toNat = 12 * v + i by omega]
  by_cases e : 12 * u ≤ 12 * v + i ∧ 12 * v + i < 12 * u + i
  · exfalso; omega
  · rw [s_fn_out (by omega), s_ne_rd (by omega), s_ne_rd (by omega)]
set_option maxRecDepth 20000 in
theorem m_tb_1 {n : Nat} {M : ew_Mem} (hn : 59 ≤ n) (hp : ew_Pm M) {u : Nat} (hu : u < 4) {v : Nat} (hv : v < 4) : ∀ (j i : Nat), i + j = 12 →
    ew_X 229 54 [(2, 38), (0, (u : Int)), (0, (v : Int)), (0, (i : Int))] [] n (s_fn (ew_wr (ew_wr M 54 u (M 54 v)) 55 u (M 55 v)) 56 (12 * u) i (fun i => M 56 (12 * v + i))) (fun r a b => r = some (0, M 55 v) ∧ a = n ∧ b = (s_fn (ew_wr (ew_wr M 54 u (M 54 v)) 55 u (M 55 v)) 56 (12 * u) 12 (fun i => M 56 (12 * v + i)))) := by
  have hc := ew_c_229
  intro j
  induction j with
  | zero =>
    intro i hj
    obtain rfl : i = 12 := by omega
    refine xr_go hc rfl rfl ?_
    refine xr_go hc rfl rfl ?_
    refine xr_icmp_ge hc rfl (by omega) (by decide) (fun c1 => ?_) (fun c1 => ?_)
    · skip
      refine xr_go hc rfl rfl ?_
      refine xr_gf2 (A := 38) rfl hc rfl (ew_own_p hn rfl) (show _ = (55 : Int) by first | exact ew_pm (v := 55) hp rfl | ((repeat first | rw [s_fn_ne (by omega)] | rw [s_ne_rd (by omega)] | rw [s_ne_ri (by omega)]); exact ew_pm (v := 55) hp rfl)) ?_
      refine xr_go hc rfl rfl ?_
      refine xr_iald (A := 55) (N := 4) rfl rfl hc rfl (ew_ok_p hn rfl) (by omega) (by omega) (show _ = M 55 v by rw [s_fn_ne (by omega), Int.toNat_natCast, s_eq_rd]) ?_
      refine xr_ret hc rfl rfl ?_
      exact ⟨rfl, rfl, rfl⟩
    · exfalso; omega
  | succ j ih =>
    intro i hj
    refine xr_go hc rfl rfl ?_
    refine xr_go hc rfl rfl ?_
    refine xr_icmp_ge hc rfl (by omega) (by decide) (fun c1 => ?_) (fun c1 => ?_)
    · exfalso; omega
    · skip
      refine xr_go hc rfl rfl ?_
      refine xr_gf2 (A := 38) rfl hc rfl (ew_own_p hn rfl) (show _ = (56 : Int) by first | exact ew_pm (v := 56) hp rfl | ((repeat first | rw [s_fn_ne (by omega)] | rw [s_ne_rd (by omega)] | rw [s_ne_ri (by omega)]); exact ew_pm (v := 56) hp rfl)) ?_
      refine xr_go hc rfl rfl ?_
      refine xr_go hc rfl rfl ?_
      refine xr_go hc rfl rfl ?_
      refine xr_go hc rfl rfl ?_
      refine xr_go hc rfl rfl ?_
      refine xr_go hc rfl rfl ?_
      refine xr_gf2 (A := 38) rfl hc rfl (ew_own_p hn rfl) (show _ = (56 : Int) by first | exact ew_pm (v := 56) hp rfl | ((repeat first | rw [s_fn_ne (by omega)] | rw [s_ne_rd (by omega)] | rw [s_ne_ri (by omega)]); exact ew_pm (v := 56) hp rfl)) ?_
      refine xr_go hc rfl rfl ?_
      refine xr_go hc rfl rfl ?_
      refine xr_go hc rfl rfl ?_
      refine xr_go hc rfl rfl ?_
      refine xr_go hc rfl rfl ?_
      refine xr_iald (A := 56) (N := 48) rfl rfl hc rfl (ew_ok_p hn rfl) (by omega) (by omega) (s_tbrM (by omega) (fun _ _ => rfl)) ?_
      refine xr_iast (A := 56) (N := 48) rfl rfl hc rfl (ew_own_p hn rfl) (by omega) (by omega) ?_
      refine xr_inc_3 hc rfl ?_
      refine xr_go hc rfl rfl ?_
      rw [s_n1, s_fn_w2 (by omega) rfl]
      exact ih (i + 1) (by omega)

set_option maxRecDepth 20000 in
theorem mx_like {n : Nat} {M : ew_Mem} (hn : 59 ≤ n) (hp : ew_Pm M) {t o : Int} (ht : ew_in t) (ho : ew_in o) {kd : Int} (e1 : (0 ≤ o ∧ o < 4) → M 54 o.toNat = kd) (hk : -1 ≤ kd ∧ kd ≤ 4) (h : s_okK kd t o) : ew_FM 229 [(2, 38), (0, t), (0, o)] n M (0, M 55 o.toNat) n (s_tbM M t.toNat o.toNat) := by
  have hc := ew_c_229
  show ew_X 229 0 [(2, 38), (0, t), (0, o), (5, 0)] [] n M _
  refine xr_go hc rfl rfl ?_
  refine xr_s_1 hc rfl rfl (m_isTray (by omega)) ?_
  refine xr_if_eq hc rfl (by split <;> omega) (fun c1 => ?_) (fun c1 => ?_)
  · skip
    refine xr_go hc rfl rfl ?_
    refine xr_ret hc rfl rfl ?_
    exfalso; omega
  · skip
    refine xr_go hc rfl rfl ?_
    refine xr_s_1 hc rfl rfl (m_isTray (by omega)) ?_
    refine xr_if_ne hc rfl (by split <;> omega) (fun c2 => ?_) (fun c2 => ?_)
    · skip
      refine xr_go hc rfl rfl ?_
      refine xr_gf2 (A := 38) rfl hc rfl (ew_own_p hn rfl) (show _ = (54 : Int) by first | exact ew_pm (v := 54) hp rfl | ((repeat first | rw [s_fn_ne (by omega)] | rw [s_ne_rd (by omega)] | rw [s_ne_ri (by omega)]); exact ew_pm (v := 54) hp rfl)) ?_
      refine xr_go hc rfl rfl ?_
      refine xr_iald (A := 54) (N := 4) rfl rfl hc rfl (ew_ok_p hn rfl) (by omega) (by omega) (e1 (by omega)) ?_
      refine xr_if_ge hc rfl (by omega) (fun c3 => ?_) (fun c3 => ?_)
      · skip
        refine xr_go hc rfl rfl ?_
        refine xr_gf2 (A := 38) rfl hc rfl (ew_own_p hn rfl) (show _ = (54 : Int) by first | exact ew_pm (v := 54) hp rfl | ((repeat first | rw [s_fn_ne (by omega)] | rw [s_ne_rd (by omega)] | rw [s_ne_ri (by omega)]); exact ew_pm (v := 54) hp rfl)) ?_
        refine xr_go hc rfl rfl ?_
        refine xr_go hc rfl rfl ?_
        refine xr_gf2 (A := 38) rfl hc rfl (ew_own_p hn rfl) (show _ = (54 : Int) by first | exact ew_pm (v := 54) hp rfl | ((repeat first | rw [s_fn_ne (by omega)] | rw [s_ne_rd (by omega)] | rw [s_ne_ri (by omega)]); exact ew_pm (v := 54) hp rfl)) ?_
        refine xr_go hc rfl rfl ?_
        refine xr_iald (A := 54) (N := 4) rfl rfl hc rfl (ew_ok_p hn rfl) (by omega) (by omega) rfl ?_
        refine xr_iast (A := 54) (N := 4) rfl rfl hc rfl (ew_own_p hn rfl) (by omega) (by omega) ?_
        refine xr_go hc rfl rfl ?_
        refine xr_gf2 (A := 38) rfl hc rfl (ew_own_p hn rfl) (show _ = (55 : Int) by first | exact ew_pm (v := 55) hp rfl | ((repeat first | rw [s_fn_ne (by omega)] | rw [s_ne_rd (by omega)] | rw [s_ne_ri (by omega)]); exact ew_pm (v := 55) hp rfl)) ?_
        refine xr_go hc rfl rfl ?_
        refine xr_go hc rfl rfl ?_
        refine xr_gf2 (A := 38) rfl hc rfl (ew_own_p hn rfl) (show _ = (55 : Int) by first | exact ew_pm (v := 55) hp rfl | ((repeat first | rw [s_fn_ne (by omega)] | rw [s_ne_rd (by omega)] | rw [s_ne_ri (by omega)]); exact ew_pm (v := 55) hp rfl)) ?_
        refine xr_go hc rfl rfl ?_
        refine xr_iald (A := 55) (N := 4) rfl rfl hc rfl (ew_ok_p hn rfl) (by omega) (by omega) (show _ = M 55 o.toNat by rw [s_ne_rd (by omega)]) ?_
        refine xr_iast (A := 55) (N := 4) rfl rfl hc rfl (ew_own_p hn rfl) (by omega) (by omega) ?_
        refine xr_go hc rfl rfl ?_
        refine xr_s1_3 hc rfl rfl rfl ?_
        have h := m_tb_1 hn hp (u := t.toNat) (by omega) (v := o.toNat) (by omega) 12 0 rfl
        rw [s_fn_0, s_toI (show 0 ≤ t by omega), s_toI (show 0 ≤ o by omega)] at h
        exact h
      · skip
        refine xr_go hc rfl rfl ?_
        refine xr_ret hc rfl rfl ?_
        exfalso; omega
    · skip
      refine xr_go hc rfl rfl ?_
      refine xr_ret hc rfl rfl ?_
      exfalso; omega

set_option maxRecDepth 20000 in
theorem mx_likeN {n : Nat} {M : ew_Mem} (hn : 59 ≤ n) (hp : ew_Pm M) {t o : Int} (ht : ew_in t) (ho : ew_in o) {kd : Int} (e1 : (0 ≤ o ∧ o < 4) → M 54 o.toNat = kd) (hk : -1 ≤ kd ∧ kd ≤ 4) (h : ¬ s_okK kd t o) : ew_FM 229 [(2, 38), (0, t), (0, o)] n M (0, s_n_like t o) n M := by
  have hc := ew_c_229
  show ew_X 229 0 [(2, 38), (0, t), (0, o), (5, 0)] [] n M _
  refine xr_go hc rfl rfl ?_
  refine xr_s_1 hc rfl rfl (m_isTray (by omega)) ?_
  refine xr_if_eq hc rfl (by split <;> omega) (fun c1 => ?_) (fun c1 => ?_)
  · skip
    refine xr_go hc rfl rfl ?_
    refine xr_ret hc rfl rfl ?_
    first
      | (exfalso; omega)
      | (refine ⟨?_, rfl, rfl⟩
         unfold s_n_like
         repeat' split
         all_goals first
           | rfl
           | (exfalso; omega)
           | (congr 2; omega))
  · skip
    refine xr_go hc rfl rfl ?_
    refine xr_s_1 hc rfl rfl (m_isTray (by omega)) ?_
    refine xr_if_ne hc rfl (by split <;> omega) (fun c2 => ?_) (fun c2 => ?_)
    · skip
      refine xr_go hc rfl rfl ?_
      refine xr_gf2 (A := 38) rfl hc rfl (ew_own_p hn rfl) (show _ = (54 : Int) by first | exact ew_pm (v := 54) hp rfl | ((repeat first | rw [s_fn_ne (by omega)] | rw [s_ne_rd (by omega)] | rw [s_ne_ri (by omega)]); exact ew_pm (v := 54) hp rfl)) ?_
      refine xr_go hc rfl rfl ?_
      refine xr_iald (A := 54) (N := 4) rfl rfl hc rfl (ew_ok_p hn rfl) (by omega) (by omega) (e1 (by omega)) ?_
      refine xr_if_ge hc rfl (by omega) (fun c3 => ?_) (fun c3 => ?_)
      · skip
        exfalso; omega
      · skip
        refine xr_go hc rfl rfl ?_
        refine xr_ret hc rfl rfl ?_
        first
          | (exfalso; omega)
          | (refine ⟨?_, rfl, rfl⟩
             unfold s_n_like
             repeat' split
             all_goals first
               | rfl
               | (exfalso; omega)
               | (congr 2; omega))
    · skip
      refine xr_go hc rfl rfl ?_
      refine xr_ret hc rfl rfl ?_
      first
        | (exfalso; omega)
        | (refine ⟨?_, rfl, rfl⟩
           unfold s_n_like
           repeat' split
           all_goals first
             | rfl
             | (exfalso; omega)
             | (congr 2; omega))

