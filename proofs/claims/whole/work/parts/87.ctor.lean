/-! the two objects made, and their picture -/
def m_Setup_init_5 (M : ew_Mem) : ew_Mem := (ew_wr (ew_wr (ew_wr (ew_wr (ew_wr (ew_wr (ew_wr (ew_wr (ew_wr (ew_wr (ew_clr (ew_wr (ew_clr M 6) 5 0 6) 7) 7 0 15) 7 1 9) 7 2 20) 7 3 59) 7 4 2) 7 5 4) 5 1 7) 5 2 0) 5 3 0) 5 4 (-1))
set_option maxRecDepth 20000 in
theorem i_Setup_init_5 {M : ew_Mem} : ew_VM 63 [(2, 5)] 6 M 8 (m_Setup_init_5 M) := by
  have hc := ew_c_63
  show ew_X 63 0 [(2, 5)] [] 6 M _
  refine xr_go hc rfl rfl ?_
  refine xr_go hc rfl rfl ?_
  refine xr_go hc rfl rfl ?_
  refine xr_go hc rfl rfl ?_
  refine xr_goM hc rfl rfl ?_
  refine xr_pf2 (A := 5) rfl hc rfl rfl ?_
  refine xr_go hc rfl rfl ?_
  refine xr_go hc rfl rfl ?_
  refine xr_goM hc rfl rfl ?_
  refine xr_go hc rfl rfl ?_
  refine xr_go hc rfl rfl ?_
  refine xr_go hc rfl rfl ?_
  refine xr_goM hc rfl rfl ?_
  refine xr_go hc rfl rfl ?_
  refine xr_go hc rfl rfl ?_
  refine xr_go hc rfl rfl ?_
  refine xr_goM hc rfl rfl ?_
  refine xr_go hc rfl rfl ?_
  refine xr_go hc rfl rfl ?_
  refine xr_go hc rfl rfl ?_
  refine xr_goM hc rfl rfl ?_
  refine xr_go hc rfl rfl ?_
  refine xr_go hc rfl rfl ?_
  refine xr_go hc rfl rfl ?_
  refine xr_goM hc rfl rfl ?_
  refine xr_go hc rfl rfl ?_
  refine xr_go hc rfl rfl ?_
  refine xr_go hc rfl rfl ?_
  refine xr_goM hc rfl rfl ?_
  refine xr_go hc rfl rfl ?_
  refine xr_go hc rfl rfl ?_
  refine xr_go hc rfl rfl ?_
  refine xr_goM hc rfl rfl ?_
  refine xr_pf2 (A := 5) rfl hc rfl rfl ?_
  refine xr_go hc rfl rfl ?_
  refine xr_go hc rfl rfl ?_
  refine xr_pf (A := 5) rfl hc rfl rfl ?_
  refine xr_go hc rfl rfl ?_
  refine xr_go hc rfl rfl ?_
  refine xr_pf (A := 5) rfl hc rfl rfl ?_
  refine xr_go hc rfl rfl ?_
  refine xr_go hc rfl rfl ?_
  refine xr_pf (A := 5) rfl hc rfl rfl ?_
  refine xr_ret hc rfl rfl ?_
  exact ⟨rfl, rfl, rfl⟩

def m_Setup_init_8 (M : ew_Mem) : ew_Mem := (ew_wr (ew_wr (ew_wr (ew_wr (ew_wr (ew_wr (ew_wr (ew_wr (ew_wr (ew_wr (ew_clr (ew_wr (ew_clr M 9) 8 0 9) 10) 10 0 15) 10 1 9) 10 2 20) 10 3 59) 10 4 2) 10 5 4) 8 1 10) 8 2 0) 8 3 0) 8 4 (-1))
set_option maxRecDepth 20000 in
theorem i_Setup_init_8 {M : ew_Mem} : ew_VM 63 [(2, 8)] 9 M 11 (m_Setup_init_8 M) := by
  have hc := ew_c_63
  show ew_X 63 0 [(2, 8)] [] 9 M _
  refine xr_go hc rfl rfl ?_
  refine xr_go hc rfl rfl ?_
  refine xr_go hc rfl rfl ?_
  refine xr_go hc rfl rfl ?_
  refine xr_goM hc rfl rfl ?_
  refine xr_pf2 (A := 8) rfl hc rfl rfl ?_
  refine xr_go hc rfl rfl ?_
  refine xr_go hc rfl rfl ?_
  refine xr_goM hc rfl rfl ?_
  refine xr_go hc rfl rfl ?_
  refine xr_go hc rfl rfl ?_
  refine xr_go hc rfl rfl ?_
  refine xr_goM hc rfl rfl ?_
  refine xr_go hc rfl rfl ?_
  refine xr_go hc rfl rfl ?_
  refine xr_go hc rfl rfl ?_
  refine xr_goM hc rfl rfl ?_
  refine xr_go hc rfl rfl ?_
  refine xr_go hc rfl rfl ?_
  refine xr_go hc rfl rfl ?_
  refine xr_goM hc rfl rfl ?_
  refine xr_go hc rfl rfl ?_
  refine xr_go hc rfl rfl ?_
  refine xr_go hc rfl rfl ?_
  refine xr_goM hc rfl rfl ?_
  refine xr_go hc rfl rfl ?_
  refine xr_go hc rfl rfl ?_
  refine xr_go hc rfl rfl ?_
  refine xr_goM hc rfl rfl ?_
  refine xr_go hc rfl rfl ?_
  refine xr_go hc rfl rfl ?_
  refine xr_go hc rfl rfl ?_
  refine xr_goM hc rfl rfl ?_
  refine xr_pf2 (A := 8) rfl hc rfl rfl ?_
  refine xr_go hc rfl rfl ?_
  refine xr_go hc rfl rfl ?_
  refine xr_pf (A := 8) rfl hc rfl rfl ?_
  refine xr_go hc rfl rfl ?_
  refine xr_go hc rfl rfl ?_
  refine xr_pf (A := 8) rfl hc rfl rfl ?_
  refine xr_go hc rfl rfl ?_
  refine xr_go hc rfl rfl ?_
  refine xr_pf (A := 8) rfl hc rfl rfl ?_
  refine xr_ret hc rfl rfl ?_
  exact ⟨rfl, rfl, rfl⟩

def m_Tray_init_12 (M : ew_Mem) : ew_Mem := (ew_wr (ew_wr (ew_wr (ew_clr M 13) 12 0 13) 12 1 (-1)) 12 2 0)
set_option maxRecDepth 20000 in
theorem i_Tray_init_12 {M : ew_Mem} : ew_VM 26 [(2, 12)] 13 M 14 (m_Tray_init_12 M) := by
  have hc := ew_c_26
  show ew_X 26 0 [(2, 12)] [] 13 M _
  refine xr_go hc rfl rfl ?_
  refine xr_go hc rfl rfl ?_
  refine xr_go hc rfl rfl ?_
  refine xr_go hc rfl rfl ?_
  refine xr_goM hc rfl rfl ?_
  refine xr_pf2 (A := 12) rfl hc rfl rfl ?_
  refine xr_go hc rfl rfl ?_
  refine xr_go hc rfl rfl ?_
  refine xr_pf (A := 12) rfl hc rfl rfl ?_
  refine xr_go hc rfl rfl ?_
  refine xr_go hc rfl rfl ?_
  refine xr_pf (A := 12) rfl hc rfl rfl ?_
  refine xr_ret hc rfl rfl ?_
  exact ⟨rfl, rfl, rfl⟩

def m_Tray_init_14 (M : ew_Mem) : ew_Mem := (ew_wr (ew_wr (ew_wr (ew_clr M 15) 14 0 15) 14 1 (-1)) 14 2 0)
set_option maxRecDepth 20000 in
theorem i_Tray_init_14 {M : ew_Mem} : ew_VM 26 [(2, 14)] 15 M 16 (m_Tray_init_14 M) := by
  have hc := ew_c_26
  show ew_X 26 0 [(2, 14)] [] 15 M _
  refine xr_go hc rfl rfl ?_
  refine xr_go hc rfl rfl ?_
  refine xr_go hc rfl rfl ?_
  refine xr_go hc rfl rfl ?_
  refine xr_goM hc rfl rfl ?_
  refine xr_pf2 (A := 14) rfl hc rfl rfl ?_
  refine xr_go hc rfl rfl ?_
  refine xr_go hc rfl rfl ?_
  refine xr_pf (A := 14) rfl hc rfl rfl ?_
  refine xr_go hc rfl rfl ?_
  refine xr_go hc rfl rfl ?_
  refine xr_pf (A := 14) rfl hc rfl rfl ?_
  refine xr_ret hc rfl rfl ?_
  exact ⟨rfl, rfl, rfl⟩

def m_Tray_init_16 (M : ew_Mem) : ew_Mem := (ew_wr (ew_wr (ew_wr (ew_clr M 17) 16 0 17) 16 1 (-1)) 16 2 0)
set_option maxRecDepth 20000 in
theorem i_Tray_init_16 {M : ew_Mem} : ew_VM 26 [(2, 16)] 17 M 18 (m_Tray_init_16 M) := by
  have hc := ew_c_26
  show ew_X 26 0 [(2, 16)] [] 17 M _
  refine xr_go hc rfl rfl ?_
  refine xr_go hc rfl rfl ?_
  refine xr_go hc rfl rfl ?_
  refine xr_go hc rfl rfl ?_
  refine xr_goM hc rfl rfl ?_
  refine xr_pf2 (A := 16) rfl hc rfl rfl ?_
  refine xr_go hc rfl rfl ?_
  refine xr_go hc rfl rfl ?_
  refine xr_pf (A := 16) rfl hc rfl rfl ?_
  refine xr_go hc rfl rfl ?_
  refine xr_go hc rfl rfl ?_
  refine xr_pf (A := 16) rfl hc rfl rfl ?_
  refine xr_ret hc rfl rfl ?_
  exact ⟨rfl, rfl, rfl⟩

def m_Tray_init_18 (M : ew_Mem) : ew_Mem := (ew_wr (ew_wr (ew_wr (ew_clr M 19) 18 0 19) 18 1 (-1)) 18 2 0)
set_option maxRecDepth 20000 in
theorem i_Tray_init_18 {M : ew_Mem} : ew_VM 26 [(2, 18)] 19 M 20 (m_Tray_init_18 M) := by
  have hc := ew_c_26
  show ew_X 26 0 [(2, 18)] [] 19 M _
  refine xr_go hc rfl rfl ?_
  refine xr_go hc rfl rfl ?_
  refine xr_go hc rfl rfl ?_
  refine xr_go hc rfl rfl ?_
  refine xr_goM hc rfl rfl ?_
  refine xr_pf2 (A := 18) rfl hc rfl rfl ?_
  refine xr_go hc rfl rfl ?_
  refine xr_go hc rfl rfl ?_
  refine xr_pf (A := 18) rfl hc rfl rfl ?_
  refine xr_go hc rfl rfl ?_
  refine xr_go hc rfl rfl ?_
  refine xr_pf (A := 18) rfl hc rfl rfl ?_
  refine xr_ret hc rfl rfl ?_
  exact ⟨rfl, rfl, rfl⟩

def m_Items_init_21 (M : ew_Mem) : ew_Mem := (ew_wr (ew_wr (ew_clr M 22) 21 0 22) 21 1 (-1))
set_option maxRecDepth 20000 in
theorem i_Items_init_21 {M : ew_Mem} : ew_VM 10 [(2, 21)] 22 M 23 (m_Items_init_21 M) := by
  have hc := ew_c_10
  show ew_X 10 0 [(2, 21)] [] 22 M _
  refine xr_go hc rfl rfl ?_
  refine xr_go hc rfl rfl ?_
  refine xr_go hc rfl rfl ?_
  refine xr_go hc rfl rfl ?_
  refine xr_goM hc rfl rfl ?_
  refine xr_pf2 (A := 21) rfl hc rfl rfl ?_
  refine xr_go hc rfl rfl ?_
  refine xr_go hc rfl rfl ?_
  refine xr_pf (A := 21) rfl hc rfl rfl ?_
  refine xr_ret hc rfl rfl ?_
  exact ⟨rfl, rfl, rfl⟩

def m_Items_init_23 (M : ew_Mem) : ew_Mem := (ew_wr (ew_wr (ew_clr M 24) 23 0 24) 23 1 (-1))
set_option maxRecDepth 20000 in
theorem i_Items_init_23 {M : ew_Mem} : ew_VM 10 [(2, 23)] 24 M 25 (m_Items_init_23 M) := by
  have hc := ew_c_10
  show ew_X 10 0 [(2, 23)] [] 24 M _
  refine xr_go hc rfl rfl ?_
  refine xr_go hc rfl rfl ?_
  refine xr_go hc rfl rfl ?_
  refine xr_go hc rfl rfl ?_
  refine xr_goM hc rfl rfl ?_
  refine xr_pf2 (A := 23) rfl hc rfl rfl ?_
  refine xr_go hc rfl rfl ?_
  refine xr_go hc rfl rfl ?_
  refine xr_pf (A := 23) rfl hc rfl rfl ?_
  refine xr_ret hc rfl rfl ?_
  exact ⟨rfl, rfl, rfl⟩

def m_Items_init_25 (M : ew_Mem) : ew_Mem := (ew_wr (ew_wr (ew_clr M 26) 25 0 26) 25 1 (-1))
set_option maxRecDepth 20000 in
theorem i_Items_init_25 {M : ew_Mem} : ew_VM 10 [(2, 25)] 26 M 27 (m_Items_init_25 M) := by
  have hc := ew_c_10
  show ew_X 10 0 [(2, 25)] [] 26 M _
  refine xr_go hc rfl rfl ?_
  refine xr_go hc rfl rfl ?_
  refine xr_go hc rfl rfl ?_
  refine xr_go hc rfl rfl ?_
  refine xr_goM hc rfl rfl ?_
  refine xr_pf2 (A := 25) rfl hc rfl rfl ?_
  refine xr_go hc rfl rfl ?_
  refine xr_go hc rfl rfl ?_
  refine xr_pf (A := 25) rfl hc rfl rfl ?_
  refine xr_ret hc rfl rfl ?_
  exact ⟨rfl, rfl, rfl⟩

def m_Tape_init_27 (M : ew_Mem) : ew_Mem := (ew_wr (ew_wr (ew_wr (ew_wr (ew_clr (ew_wr (ew_clr (ew_wr (ew_clr (ew_wr (ew_wr (ew_clr M 28) 27 0 28) 27 1 0) 29) 27 2 29) 30) 27 3 30) 31) 27 4 31) 27 5 0) 27 6 0) 27 7 0)
set_option maxRecDepth 20000 in
theorem i_Tape_init_27 {M : ew_Mem} : ew_VM 48 [(2, 27)] 28 M 32 (m_Tape_init_27 M) := by
  have hc := ew_c_48
  show ew_X 48 0 [(2, 27)] [] 28 M _
  refine xr_go hc rfl rfl ?_
  refine xr_go hc rfl rfl ?_
  refine xr_go hc rfl rfl ?_
  refine xr_go hc rfl rfl ?_
  refine xr_goM hc rfl rfl ?_
  refine xr_pf2 (A := 27) rfl hc rfl rfl ?_
  refine xr_go hc rfl rfl ?_
  refine xr_go hc rfl rfl ?_
  refine xr_pf (A := 27) rfl hc rfl rfl ?_
  refine xr_go hc rfl rfl ?_
  refine xr_go hc rfl rfl ?_
  refine xr_goM hc rfl rfl ?_
  refine xr_pf2 (A := 27) rfl hc rfl rfl ?_
  refine xr_go hc rfl rfl ?_
  refine xr_go hc rfl rfl ?_
  refine xr_goM hc rfl rfl ?_
  refine xr_pf2 (A := 27) rfl hc rfl rfl ?_
  refine xr_go hc rfl rfl ?_
  refine xr_go hc rfl rfl ?_
  refine xr_goM hc rfl rfl ?_
  refine xr_pf2 (A := 27) rfl hc rfl rfl ?_
  refine xr_go hc rfl rfl ?_
  refine xr_go hc rfl rfl ?_
  refine xr_pf (A := 27) rfl hc rfl rfl ?_
  refine xr_go hc rfl rfl ?_
  refine xr_go hc rfl rfl ?_
  refine xr_pf (A := 27) rfl hc rfl rfl ?_
  refine xr_go hc rfl rfl ?_
  refine xr_go hc rfl rfl ?_
  refine xr_pfB (A := 27) rfl hc rfl rfl (by decide) ?_
  refine xr_ret hc rfl rfl ?_
  exact ⟨rfl, rfl, rfl⟩

def m_Sheet_init_34 (M : ew_Mem) : ew_Mem := (ew_wr (ew_wr (ew_clr M 35) 34 0 35) 34 1 0)
set_option maxRecDepth 20000 in
theorem i_Sheet_init_34 {M : ew_Mem} : ew_VM 22 [(2, 34)] 35 M 36 (m_Sheet_init_34 M) := by
  have hc := ew_c_22
  show ew_X 22 0 [(2, 34)] [] 35 M _
  refine xr_go hc rfl rfl ?_
  refine xr_go hc rfl rfl ?_
  refine xr_go hc rfl rfl ?_
  refine xr_go hc rfl rfl ?_
  refine xr_goM hc rfl rfl ?_
  refine xr_pf2 (A := 34) rfl hc rfl rfl ?_
  refine xr_go hc rfl rfl ?_
  refine xr_go hc rfl rfl ?_
  refine xr_pf (A := 34) rfl hc rfl rfl ?_
  refine xr_ret hc rfl rfl ?_
  exact ⟨rfl, rfl, rfl⟩

def m_X_init_4 (M : ew_Mem) : ew_Mem := (ew_wr (ew_clr (ew_wr (ew_clr (ew_wr (m_Sheet_init_34 (ew_clr (ew_wr (ew_clr (ew_wr (ew_clr (ew_wr (ew_wr (m_Tape_init_27 (ew_clr (ew_wr (ew_wr (m_Items_init_25 (ew_clr (ew_wr (m_Items_init_23 (ew_clr (ew_wr (m_Items_init_21 (ew_clr (ew_clr (ew_wr (ew_wr (m_Tray_init_18 (ew_clr (ew_wr (m_Tray_init_16 (ew_clr (ew_wr (m_Tray_init_14 (ew_clr (ew_wr (m_Tray_init_12 (ew_clr (ew_clr (ew_wr (ew_wr (m_Setup_init_8 (ew_clr (ew_wr (m_Setup_init_5 (ew_clr M 5)) 4 0 5) 8)) 4 1 8) 4 2 0) 11) 12)) 11 0 12) 14)) 11 1 14) 16)) 11 2 16) 18)) 11 3 18) 4 3 11) 20) 21)) 20 0 21) 23)) 20 1 23) 25)) 20 2 25) 4 4 20) 27)) 4 5 27) 4 6 0) 32) 4 7 32) 33) 4 8 33) 34)) 4 9 34) 36) 4 10 36) 37) 4 11 37)
set_option maxRecDepth 20000 in
theorem i_X_init_4 {M : ew_Mem} : ew_VM 88 [(2, 4)] 5 M 38 (m_X_init_4 M) := by
  have hc := ew_c_88
  show ew_X 88 0 [(2, 4)] [] 5 M _
  refine xr_go hc rfl rfl ?_
  refine xr_go hc rfl rfl ?_
  refine xr_go hc rfl rfl ?_
  refine xr_new hc rfl rfl ?_
  refine xr_go hc rfl rfl ?_
  refine xr_jv_1 (v := (0, 0)) hc rfl rfl rfl i_Setup_init_5 ?_
  refine xr_pf2 (A := 4) rfl hc rfl rfl ?_
  refine xr_go hc rfl rfl ?_
  refine xr_new hc rfl rfl ?_
  refine xr_go hc rfl rfl ?_
  refine xr_jv_1 (v := (0, 0)) hc rfl rfl rfl i_Setup_init_8 ?_
  refine xr_pf2 (A := 4) rfl hc rfl rfl ?_
  refine xr_go hc rfl rfl ?_
  refine xr_go hc rfl rfl ?_
  refine xr_pfB (A := 4) rfl hc rfl rfl (by decide) ?_
  refine xr_go hc rfl rfl ?_
  refine xr_go hc rfl rfl ?_
  refine xr_goM hc rfl rfl ?_
  refine xr_go hc rfl rfl ?_
  refine xr_go hc rfl rfl ?_
  refine xr_new hc rfl rfl ?_
  refine xr_go hc rfl rfl ?_
  refine xr_jv_1 (v := (0, 0)) hc rfl rfl rfl i_Tray_init_12 ?_
  refine xr_goM hc rfl rfl ?_
  refine xr_go hc rfl rfl ?_
  refine xr_go hc rfl rfl ?_
  refine xr_new hc rfl rfl ?_
  refine xr_go hc rfl rfl ?_
  refine xr_jv_1 (v := (0, 0)) hc rfl rfl rfl i_Tray_init_14 ?_
  refine xr_goM hc rfl rfl ?_
  refine xr_go hc rfl rfl ?_
  refine xr_go hc rfl rfl ?_
  refine xr_new hc rfl rfl ?_
  refine xr_go hc rfl rfl ?_
  refine xr_jv_1 (v := (0, 0)) hc rfl rfl rfl i_Tray_init_16 ?_
  refine xr_goM hc rfl rfl ?_
  refine xr_go hc rfl rfl ?_
  refine xr_go hc rfl rfl ?_
  refine xr_new hc rfl rfl ?_
  refine xr_go hc rfl rfl ?_
  refine xr_jv_1 (v := (0, 0)) hc rfl rfl rfl i_Tray_init_18 ?_
  refine xr_goM hc rfl rfl ?_
  refine xr_pf2 (A := 4) rfl hc rfl rfl ?_
  refine xr_go hc rfl rfl ?_
  refine xr_go hc rfl rfl ?_
  refine xr_goM hc rfl rfl ?_
  refine xr_go hc rfl rfl ?_
  refine xr_go hc rfl rfl ?_
  refine xr_new hc rfl rfl ?_
  refine xr_go hc rfl rfl ?_
  refine xr_jv_1 (v := (0, 0)) hc rfl rfl rfl i_Items_init_21 ?_
  refine xr_goM hc rfl rfl ?_
  refine xr_go hc rfl rfl ?_
  refine xr_go hc rfl rfl ?_
  refine xr_new hc rfl rfl ?_
  refine xr_go hc rfl rfl ?_
  refine xr_jv_1 (v := (0, 0)) hc rfl rfl rfl i_Items_init_23 ?_
  refine xr_goM hc rfl rfl ?_
  refine xr_go hc rfl rfl ?_
  refine xr_go hc rfl rfl ?_
  refine xr_new hc rfl rfl ?_
  refine xr_go hc rfl rfl ?_
  refine xr_jv_1 (v := (0, 0)) hc rfl rfl rfl i_Items_init_25 ?_
  refine xr_goM hc rfl rfl ?_
  refine xr_pf2 (A := 4) rfl hc rfl rfl ?_
  refine xr_go hc rfl rfl ?_
  refine xr_new hc rfl rfl ?_
  refine xr_go hc rfl rfl ?_
  refine xr_jv_1 (v := (0, 0)) hc rfl rfl rfl i_Tape_init_27 ?_
  refine xr_pf2 (A := 4) rfl hc rfl rfl ?_
  refine xr_go hc rfl rfl ?_
  refine xr_go hc rfl rfl ?_
  refine xr_pf (A := 4) rfl hc rfl rfl ?_
  refine xr_go hc rfl rfl ?_
  refine xr_go hc rfl rfl ?_
  refine xr_goM hc rfl rfl ?_
  refine xr_pf2 (A := 4) rfl hc rfl rfl ?_
  refine xr_go hc rfl rfl ?_
  refine xr_go hc rfl rfl ?_
  refine xr_goM hc rfl rfl ?_
  refine xr_pf2 (A := 4) rfl hc rfl rfl ?_
  refine xr_go hc rfl rfl ?_
  refine xr_new hc rfl rfl ?_
  refine xr_go hc rfl rfl ?_
  refine xr_jv_1 (v := (0, 0)) hc rfl rfl rfl i_Sheet_init_34 ?_
  refine xr_pf2 (A := 4) rfl hc rfl rfl ?_
  refine xr_go hc rfl rfl ?_
  refine xr_go hc rfl rfl ?_
  refine xr_goM hc rfl rfl ?_
  refine xr_pf2 (A := 4) rfl hc rfl rfl ?_
  refine xr_go hc rfl rfl ?_
  refine xr_go hc rfl rfl ?_
  refine xr_goM hc rfl rfl ?_
  refine xr_pf2 (A := 4) rfl hc rfl rfl ?_
  refine xr_ret hc rfl rfl ?_
  exact ⟨rfl, rfl, rfl⟩

def m_M_init_38 (M : ew_Mem) : ew_Mem := (ew_wr (ew_clr (ew_wr (ew_wr (ew_wr (ew_wr (ew_clr (ew_wr (ew_wr (ew_wr (ew_wr (ew_wr (ew_wr (ew_wr (ew_wr (ew_wr (ew_wr (ew_wr (ew_wr (ew_wr (ew_wr (ew_wr (ew_wr (ew_wr (ew_wr (ew_wr (ew_wr (ew_wr (ew_wr (ew_wr (ew_wr (ew_wr (ew_wr (ew_wr (ew_wr (ew_wr (ew_wr (ew_wr (ew_wr (ew_wr (ew_wr (ew_wr (ew_wr (ew_wr (ew_wr (ew_wr (ew_wr (ew_wr (ew_wr (ew_wr (ew_wr (ew_wr (ew_wr (ew_wr (ew_wr (ew_wr (ew_clr (ew_wr (ew_clr (ew_wr (ew_wr (ew_wr (ew_wr (ew_wr (ew_clr (ew_wr (ew_clr (ew_wr (ew_clr (ew_wr (ew_clr (ew_wr (ew_clr (ew_wr (ew_clr (ew_wr (ew_clr (ew_wr (ew_clr (ew_wr (ew_clr (ew_wr (ew_wr (ew_wr (ew_wr (ew_wr (ew_wr (ew_wr (ew_clr (ew_wr (ew_wr (ew_clr (ew_wr (ew_clr (ew_wr (ew_clr (ew_wr (ew_clr (ew_wr (ew_clr (ew_wr (ew_clr M 39) 38 0 39) 40) 38 1 40) 41) 38 2 41) 42) 38 3 42) 43) 38 4 43) 44) 38 6 44) 38 8 (-1)) 45) 45 0 15) 45 1 9) 45 2 20) 45 3 59) 45 4 2) 45 5 4) 38 9 45) 46) 38 10 46) 47) 38 12 47) 48) 38 13 48) 49) 38 15 49) 50) 38 16 50) 51) 38 17 51) 52) 38 19 52) 53) 38 20 53) 54) 54 0 (-1)) 54 1 (-1)) 54 2 (-1)) 54 3 (-1)) 38 28 54) 55) 38 29 55) 56) 56 0 (-1)) 56 1 (-1)) 56 2 (-1)) 56 3 (-1)) 56 4 (-1)) 56 5 (-1)) 56 6 (-1)) 56 7 (-1)) 56 8 (-1)) 56 9 (-1)) 56 10 (-1)) 56 11 (-1)) 56 12 (-1)) 56 13 (-1)) 56 14 (-1)) 56 15 (-1)) 56 16 (-1)) 56 17 (-1)) 56 18 (-1)) 56 19 (-1)) 56 20 (-1)) 56 21 (-1)) 56 22 (-1)) 56 23 (-1)) 56 24 (-1)) 56 25 (-1)) 56 26 (-1)) 56 27 (-1)) 56 28 (-1)) 56 29 (-1)) 56 30 (-1)) 56 31 (-1)) 56 32 (-1)) 56 33 (-1)) 56 34 (-1)) 56 35 (-1)) 56 36 (-1)) 56 37 (-1)) 56 38 (-1)) 56 39 (-1)) 56 40 (-1)) 56 41 (-1)) 56 42 (-1)) 56 43 (-1)) 56 44 (-1)) 56 45 (-1)) 56 46 (-1)) 56 47 (-1)) 38 30 56) 57) 57 0 (-1)) 57 1 (-1)) 57 2 (-1)) 38 31 57) 58) 38 32 58)
set_option maxRecDepth 20000 in
theorem i_M_init_38 {M : ew_Mem} : ew_VM 148 [(2, 38)] 39 M 59 (m_M_init_38 M) := by
  have hc := ew_c_148
  show ew_X 148 0 [(2, 38)] [] 39 M _
  refine xr_go hc rfl rfl ?_
  refine xr_go hc rfl rfl ?_
  refine xr_go hc rfl rfl ?_
  refine xr_go hc rfl rfl ?_
  refine xr_goM hc rfl rfl ?_
  refine xr_pf2 (A := 38) rfl hc rfl rfl ?_
  refine xr_go hc rfl rfl ?_
  refine xr_go hc rfl rfl ?_
  refine xr_goM hc rfl rfl ?_
  refine xr_pf2 (A := 38) rfl hc rfl rfl ?_
  refine xr_go hc rfl rfl ?_
  refine xr_go hc rfl rfl ?_
  refine xr_goM hc rfl rfl ?_
  refine xr_pf2 (A := 38) rfl hc rfl rfl ?_
  refine xr_go hc rfl rfl ?_
  refine xr_go hc rfl rfl ?_
  refine xr_goM hc rfl rfl ?_
  refine xr_pf2 (A := 38) rfl hc rfl rfl ?_
  refine xr_go hc rfl rfl ?_
  refine xr_go hc rfl rfl ?_
  refine xr_goM hc rfl rfl ?_
  refine xr_pf2 (A := 38) rfl hc rfl rfl ?_
  refine xr_go hc rfl rfl ?_
  refine xr_go hc rfl rfl ?_
  refine xr_goM hc rfl rfl ?_
  refine xr_pf2 (A := 38) rfl hc rfl rfl ?_
  refine xr_go hc rfl rfl ?_
  refine xr_go hc rfl rfl ?_
  refine xr_pf (A := 38) rfl hc rfl rfl ?_
  refine xr_go hc rfl rfl ?_
  refine xr_go hc rfl rfl ?_
  refine xr_goM hc rfl rfl ?_
  refine xr_go hc rfl rfl ?_
  refine xr_go hc rfl rfl ?_
  refine xr_go hc rfl rfl ?_
  refine xr_goM hc rfl rfl ?_
  refine xr_go hc rfl rfl ?_
  refine xr_go hc rfl rfl ?_
  refine xr_go hc rfl rfl ?_
  refine xr_goM hc rfl rfl ?_
  refine xr_go hc rfl rfl ?_
  refine xr_go hc rfl rfl ?_
  refine xr_go hc rfl rfl ?_
  refine xr_goM hc rfl rfl ?_
  refine xr_go hc rfl rfl ?_
  refine xr_go hc rfl rfl ?_
  refine xr_go hc rfl rfl ?_
  refine xr_goM hc rfl rfl ?_
  refine xr_go hc rfl rfl ?_
  refine xr_go hc rfl rfl ?_
  refine xr_go hc rfl rfl ?_
  refine xr_goM hc rfl rfl ?_
  refine xr_go hc rfl rfl ?_
  refine xr_go hc rfl rfl ?_
  refine xr_go hc rfl rfl ?_
  refine xr_goM hc rfl rfl ?_
  refine xr_pf2 (A := 38) rfl hc rfl rfl ?_
  refine xr_go hc rfl rfl ?_
  refine xr_go hc rfl rfl ?_
  refine xr_goM hc rfl rfl ?_
  refine xr_pf2 (A := 38) rfl hc rfl rfl ?_
  refine xr_go hc rfl rfl ?_
  refine xr_go hc rfl rfl ?_
  refine xr_goM hc rfl rfl ?_
  refine xr_pf2 (A := 38) rfl hc rfl rfl ?_
  refine xr_go hc rfl rfl ?_
  refine xr_go hc rfl rfl ?_
  refine xr_goM hc rfl rfl ?_
  refine xr_pf2 (A := 38) rfl hc rfl rfl ?_
  refine xr_go hc rfl rfl ?_
  refine xr_go hc rfl rfl ?_
  refine xr_goM hc rfl rfl ?_
  refine xr_pf2 (A := 38) rfl hc rfl rfl ?_
  refine xr_go hc rfl rfl ?_
  refine xr_go hc rfl rfl ?_
  refine xr_goM hc rfl rfl ?_
  refine xr_pf2 (A := 38) rfl hc rfl rfl ?_
  refine xr_go hc rfl rfl ?_
  refine xr_go hc rfl rfl ?_
  refine xr_goM hc rfl rfl ?_
  refine xr_pf2 (A := 38) rfl hc rfl rfl ?_
  refine xr_go hc rfl rfl ?_
  refine xr_go hc rfl rfl ?_
  refine xr_goM hc rfl rfl ?_
  refine xr_pf2 (A := 38) rfl hc rfl rfl ?_
  refine xr_go hc rfl rfl ?_
  refine xr_go hc rfl rfl ?_
  refine xr_goM hc rfl rfl ?_
  refine xr_pf2 (A := 38) rfl hc rfl rfl ?_
  refine xr_go hc rfl rfl ?_
  refine xr_go hc rfl rfl ?_
  refine xr_goM hc rfl rfl ?_
  refine xr_go hc rfl rfl ?_
  refine xr_go hc rfl rfl ?_
  refine xr_go hc rfl rfl ?_
  refine xr_goM hc rfl rfl ?_
  refine xr_go hc rfl rfl ?_
  refine xr_go hc rfl rfl ?_
  refine xr_go hc rfl rfl ?_
  refine xr_goM hc rfl rfl ?_
  refine xr_go hc rfl rfl ?_
  refine xr_go hc rfl rfl ?_
  refine xr_go hc rfl rfl ?_
  refine xr_goM hc rfl rfl ?_
  refine xr_go hc rfl rfl ?_
  refine xr_go hc rfl rfl ?_
  refine xr_go hc rfl rfl ?_
  refine xr_goM hc rfl rfl ?_
  refine xr_pf2 (A := 38) rfl hc rfl rfl ?_
  refine xr_go hc rfl rfl ?_
  refine xr_go hc rfl rfl ?_
  refine xr_goM hc rfl rfl ?_
  refine xr_pf2 (A := 38) rfl hc rfl rfl ?_
  refine xr_go hc rfl rfl ?_
  refine xr_go hc rfl rfl ?_
  refine xr_goM hc rfl rfl ?_
  refine xr_go hc rfl rfl ?_
  refine xr_go hc rfl rfl ?_
  refine xr_go hc rfl rfl ?_
  refine xr_goM hc rfl rfl ?_
  refine xr_go hc rfl rfl ?_
  refine xr_go hc rfl rfl ?_
  refine xr_go hc rfl rfl ?_
  refine xr_goM hc rfl rfl ?_
  refine xr_go hc rfl rfl ?_
  refine xr_go hc rfl rfl ?_
  refine xr_go hc rfl rfl ?_
  refine xr_goM hc rfl rfl ?_
  refine xr_go hc rfl rfl ?_
  refine xr_go hc rfl rfl ?_
  refine xr_go hc rfl rfl ?_
  refine xr_goM hc rfl rfl ?_
  refine xr_go hc rfl rfl ?_
  refine xr_go hc rfl rfl ?_
  refine xr_go hc rfl rfl ?_
  refine xr_goM hc rfl rfl ?_
  refine xr_go hc rfl rfl ?_
  refine xr_go hc rfl rfl ?_
  refine xr_go hc rfl rfl ?_
  refine xr_goM hc rfl rfl ?_
  refine xr_go hc rfl rfl ?_
  refine xr_go hc rfl rfl ?_
  refine xr_go hc rfl rfl ?_
  refine xr_goM hc rfl rfl ?_
  refine xr_go hc rfl rfl ?_
  refine xr_go hc rfl rfl ?_
  refine xr_go hc rfl rfl ?_
  refine xr_goM hc rfl rfl ?_
  refine xr_go hc rfl rfl ?_
  refine xr_go hc rfl rfl ?_
  refine xr_go hc rfl rfl ?_
  refine xr_goM hc rfl rfl ?_
  refine xr_go hc rfl rfl ?_
  refine xr_go hc rfl rfl ?_
  refine xr_go hc rfl rfl ?_
  refine xr_goM hc rfl rfl ?_
  refine xr_go hc rfl rfl ?_
  refine xr_go hc rfl rfl ?_
  refine xr_go hc rfl rfl ?_
  refine xr_goM hc rfl rfl ?_
  refine xr_go hc rfl rfl ?_
  refine xr_go hc rfl rfl ?_
  refine xr_go hc rfl rfl ?_
  refine xr_goM hc rfl rfl ?_
  refine xr_go hc rfl rfl ?_
  refine xr_go hc rfl rfl ?_
  refine xr_go hc rfl rfl ?_
  refine xr_goM hc rfl rfl ?_
  refine xr_go hc rfl rfl ?_
  refine xr_go hc rfl rfl ?_
  refine xr_go hc rfl rfl ?_
  refine xr_goM hc rfl rfl ?_
  refine xr_go hc rfl rfl ?_
  refine xr_go hc rfl rfl ?_
  refine xr_go hc rfl rfl ?_
  refine xr_goM hc rfl rfl ?_
  refine xr_go hc rfl rfl ?_
  refine xr_go hc rfl rfl ?_
  refine xr_go hc rfl rfl ?_
  refine xr_goM hc rfl rfl ?_
  refine xr_go hc rfl rfl ?_
  refine xr_go hc rfl rfl ?_
  refine xr_go hc rfl rfl ?_
  refine xr_goM hc rfl rfl ?_
  refine xr_go hc rfl rfl ?_
  refine xr_go hc rfl rfl ?_
  refine xr_go hc rfl rfl ?_
  refine xr_goM hc rfl rfl ?_
  refine xr_go hc rfl rfl ?_
  refine xr_go hc rfl rfl ?_
  refine xr_go hc rfl rfl ?_
  refine xr_goM hc rfl rfl ?_
  refine xr_go hc rfl rfl ?_
  refine xr_go hc rfl rfl ?_
  refine xr_go hc rfl rfl ?_
  refine xr_goM hc rfl rfl ?_
  refine xr_go hc rfl rfl ?_
  refine xr_go hc rfl rfl ?_
  refine xr_go hc rfl rfl ?_
  refine xr_goM hc rfl rfl ?_
  refine xr_go hc rfl rfl ?_
  refine xr_go hc rfl rfl ?_
  refine xr_go hc rfl rfl ?_
  refine xr_goM hc rfl rfl ?_
  refine xr_go hc rfl rfl ?_
  refine xr_go hc rfl rfl ?_
  refine xr_go hc rfl rfl ?_
  refine xr_goM hc rfl rfl ?_
  refine xr_go hc rfl rfl ?_
  refine xr_go hc rfl rfl ?_
  refine xr_go hc rfl rfl ?_
  refine xr_goM hc rfl rfl ?_
  refine xr_go hc rfl rfl ?_
  refine xr_go hc rfl rfl ?_
  refine xr_go hc rfl rfl ?_
  refine xr_goM hc rfl rfl ?_
  refine xr_go hc rfl rfl ?_
  refine xr_go hc rfl rfl ?_
  refine xr_go hc rfl rfl ?_
  refine xr_goM hc rfl rfl ?_
  refine xr_go hc rfl rfl ?_
  refine xr_go hc rfl rfl ?_
  refine xr_go hc rfl rfl ?_
  refine xr_goM hc rfl rfl ?_
  refine xr_go hc rfl rfl ?_
  refine xr_go hc rfl rfl ?_
  refine xr_go hc rfl rfl ?_
  refine xr_goM hc rfl rfl ?_
  refine xr_go hc rfl rfl ?_
  refine xr_go hc rfl rfl ?_
  refine xr_go hc rfl rfl ?_
  refine xr_goM hc rfl rfl ?_
  refine xr_go hc rfl rfl ?_
  refine xr_go hc rfl rfl ?_
  refine xr_go hc rfl rfl ?_
  refine xr_goM hc rfl rfl ?_
  refine xr_go hc rfl rfl ?_
  refine xr_go hc rfl rfl ?_
  refine xr_go hc rfl rfl ?_
  refine xr_goM hc rfl rfl ?_
  refine xr_go hc rfl rfl ?_
  refine xr_go hc rfl rfl ?_
  refine xr_go hc rfl rfl ?_
  refine xr_goM hc rfl rfl ?_
  refine xr_go hc rfl rfl ?_
  refine xr_go hc rfl rfl ?_
  refine xr_go hc rfl rfl ?_
  refine xr_goM hc rfl rfl ?_
  refine xr_go hc rfl rfl ?_
  refine xr_go hc rfl rfl ?_
  refine xr_go hc rfl rfl ?_
  refine xr_goM hc rfl rfl ?_
  refine xr_go hc rfl rfl ?_
  refine xr_go hc rfl rfl ?_
  refine xr_go hc rfl rfl ?_
  refine xr_goM hc rfl rfl ?_
  refine xr_go hc rfl rfl ?_
  refine xr_go hc rfl rfl ?_
  refine xr_go hc rfl rfl ?_
  refine xr_goM hc rfl rfl ?_
  refine xr_go hc rfl rfl ?_
  refine xr_go hc rfl rfl ?_
  refine xr_go hc rfl rfl ?_
  refine xr_goM hc rfl rfl ?_
  refine xr_go hc rfl rfl ?_
  refine xr_go hc rfl rfl ?_
  refine xr_go hc rfl rfl ?_
  refine xr_goM hc rfl rfl ?_
  refine xr_go hc rfl rfl ?_
  refine xr_go hc rfl rfl ?_
  refine xr_go hc rfl rfl ?_
  refine xr_goM hc rfl rfl ?_
  refine xr_go hc rfl rfl ?_
  refine xr_go hc rfl rfl ?_
  refine xr_go hc rfl rfl ?_
  refine xr_goM hc rfl rfl ?_
  refine xr_go hc rfl rfl ?_
  refine xr_go hc rfl rfl ?_
  refine xr_go hc rfl rfl ?_
  refine xr_goM hc rfl rfl ?_
  refine xr_go hc rfl rfl ?_
  refine xr_go hc rfl rfl ?_
  refine xr_go hc rfl rfl ?_
  refine xr_goM hc rfl rfl ?_
  refine xr_go hc rfl rfl ?_
  refine xr_go hc rfl rfl ?_
  refine xr_go hc rfl rfl ?_
  refine xr_goM hc rfl rfl ?_
  refine xr_go hc rfl rfl ?_
  refine xr_go hc rfl rfl ?_
  refine xr_go hc rfl rfl ?_
  refine xr_goM hc rfl rfl ?_
  refine xr_go hc rfl rfl ?_
  refine xr_go hc rfl rfl ?_
  refine xr_go hc rfl rfl ?_
  refine xr_goM hc rfl rfl ?_
  refine xr_go hc rfl rfl ?_
  refine xr_go hc rfl rfl ?_
  refine xr_go hc rfl rfl ?_
  refine xr_goM hc rfl rfl ?_
  refine xr_go hc rfl rfl ?_
  refine xr_go hc rfl rfl ?_
  refine xr_go hc rfl rfl ?_
  refine xr_goM hc rfl rfl ?_
  refine xr_go hc rfl rfl ?_
  refine xr_go hc rfl rfl ?_
  refine xr_go hc rfl rfl ?_
  refine xr_goM hc rfl rfl ?_
  refine xr_pf2 (A := 38) rfl hc rfl rfl ?_
  refine xr_go hc rfl rfl ?_
  refine xr_go hc rfl rfl ?_
  refine xr_goM hc rfl rfl ?_
  refine xr_go hc rfl rfl ?_
  refine xr_go hc rfl rfl ?_
  refine xr_go hc rfl rfl ?_
  refine xr_goM hc rfl rfl ?_
  refine xr_go hc rfl rfl ?_
  refine xr_go hc rfl rfl ?_
  refine xr_go hc rfl rfl ?_
  refine xr_goM hc rfl rfl ?_
  refine xr_go hc rfl rfl ?_
  refine xr_go hc rfl rfl ?_
  refine xr_go hc rfl rfl ?_
  refine xr_goM hc rfl rfl ?_
  refine xr_pf2 (A := 38) rfl hc rfl rfl ?_
  refine xr_go hc rfl rfl ?_
  refine xr_go hc rfl rfl ?_
  refine xr_goM hc rfl rfl ?_
  refine xr_pf2 (A := 38) rfl hc rfl rfl ?_
  refine xr_ret hc rfl rfl ?_
  exact ⟨rfl, rfl, rfl⟩

/-- the memory with both objects made -/
def s_M0 (M : ew_Mem) : ew_Mem := m_M_init_38 (ew_clr (m_X_init_4 (ew_clr M 4)) 38)
set_option maxRecDepth 100000 in
theorem s_M0_lo {M : ew_Mem} : s_lo M (s_M0 M) := by
  intro a j ha
  have : a = 0 ∨ a = 1 ∨ a = 2 ∨ a = 3 := by omega
  rcases this with rfl | rfl | rfl | rfl <;> rfl
set_option maxRecDepth 100000 in
set_option maxHeartbeats 4000000 in
theorem s_M0_pm {M : ew_Mem} (h1 : ∀ i : Nat, i < 6 → M 1 i = [0, 0, 0, 1, 1, 1].getD i 0) (h2 : ∀ i : Nat, i < 6 → M 2 i = [99999, 99999, 99999, 100000, 1000, 400].getD i 0) : ew_Pm (s_M0 M) := by
  show ∀ q ∈ ew_perm, s_M0 M q.1 q.2.1 = q.2.2
  unfold ew_perm
  exact List.forall_mem_cons.mpr ⟨rfl, List.forall_mem_cons.mpr ⟨rfl, List.forall_mem_cons.mpr ⟨rfl, List.forall_mem_cons.mpr ⟨rfl, List.forall_mem_cons.mpr ⟨rfl, List.forall_mem_cons.mpr ⟨rfl, List.forall_mem_cons.mpr ⟨rfl, List.forall_mem_cons.mpr ⟨rfl, List.forall_mem_cons.mpr ⟨rfl, List.forall_mem_cons.mpr ⟨rfl, List.forall_mem_cons.mpr ⟨rfl, List.forall_mem_cons.mpr ⟨rfl, List.forall_mem_cons.mpr ⟨rfl, List.forall_mem_cons.mpr ⟨rfl, List.forall_mem_cons.mpr ⟨rfl, List.forall_mem_cons.mpr ⟨rfl, List.forall_mem_cons.mpr ⟨rfl, List.forall_mem_cons.mpr ⟨rfl, List.forall_mem_cons.mpr ⟨rfl, List.forall_mem_cons.mpr ⟨rfl, List.forall_mem_cons.mpr ⟨rfl, List.forall_mem_cons.mpr ⟨rfl, List.forall_mem_cons.mpr ⟨rfl, List.forall_mem_cons.mpr ⟨rfl, List.forall_mem_cons.mpr ⟨rfl, List.forall_mem_cons.mpr ⟨rfl, List.forall_mem_cons.mpr ⟨rfl, List.forall_mem_cons.mpr ⟨rfl, List.forall_mem_cons.mpr ⟨rfl, List.forall_mem_cons.mpr ⟨rfl, List.forall_mem_cons.mpr ⟨rfl, List.forall_mem_cons.mpr ⟨rfl, List.forall_mem_cons.mpr ⟨rfl, List.forall_mem_cons.mpr ⟨rfl, List.forall_mem_cons.mpr ⟨rfl, List.forall_mem_cons.mpr ⟨rfl, List.forall_mem_cons.mpr ⟨rfl, List.forall_mem_cons.mpr ⟨rfl, List.forall_mem_cons.mpr ⟨rfl, List.forall_mem_cons.mpr ⟨rfl, List.forall_mem_cons.mpr ⟨rfl, List.forall_mem_cons.mpr ⟨rfl, List.forall_mem_cons.mpr ⟨rfl, List.forall_mem_cons.mpr ⟨rfl, List.forall_mem_cons.mpr ⟨rfl, List.forall_mem_cons.mpr ⟨rfl, List.forall_mem_cons.mpr ⟨rfl, List.forall_mem_cons.mpr ⟨rfl, List.forall_mem_cons.mpr ⟨rfl, List.forall_mem_cons.mpr ⟨rfl, List.forall_mem_cons.mpr ⟨rfl, List.forall_mem_cons.mpr ⟨rfl, List.forall_mem_cons.mpr ⟨rfl, List.forall_mem_cons.mpr ⟨h1 0 (by decide), List.forall_mem_cons.mpr ⟨h1 1 (by decide), List.forall_mem_cons.mpr ⟨h1 2 (by decide), List.forall_mem_cons.mpr ⟨h1 3 (by decide), List.forall_mem_cons.mpr ⟨h1 4 (by decide), List.forall_mem_cons.mpr ⟨h1 5 (by decide), List.forall_mem_cons.mpr ⟨h2 0 (by decide), List.forall_mem_cons.mpr ⟨h2 1 (by decide), List.forall_mem_cons.mpr ⟨h2 2 (by decide), List.forall_mem_cons.mpr ⟨h2 3 (by decide), List.forall_mem_cons.mpr ⟨h2 4 (by decide), List.forall_mem_cons.mpr ⟨h2 5 (by decide), fun _ h => absurd h List.not_mem_nil⟩⟩⟩⟩⟩⟩⟩⟩⟩⟩⟩⟩⟩⟩⟩⟩⟩⟩⟩⟩⟩⟩⟩⟩⟩⟩⟩⟩⟩⟩⟩⟩⟩⟩⟩⟩⟩⟩⟩⟩⟩⟩⟩⟩⟩⟩⟩⟩⟩⟩⟩⟩⟩⟩⟩⟩⟩⟩⟩⟩⟩⟩⟩⟩⟩

set_option maxRecDepth 100000 in
theorem s_M0_56 {M : ew_Mem} {k : Nat} (hk : k < 48) : s_M0 M 56 k = -1 := by
  rcases (show k = 0 ∨ k = 1 ∨ k = 2 ∨ k = 3 ∨ k = 4 ∨ k = 5 ∨ k = 6 ∨ k = 7 ∨ k = 8 ∨ k = 9 ∨ k = 10 ∨ k = 11 ∨ k = 12 ∨ k = 13 ∨ k = 14 ∨ k = 15 ∨ k = 16 ∨ k = 17 ∨ k = 18 ∨ k = 19 ∨ k = 20 ∨ k = 21 ∨ k = 22 ∨ k = 23 ∨ k = 24 ∨ k = 25 ∨ k = 26 ∨ k = 27 ∨ k = 28 ∨ k = 29 ∨ k = 30 ∨ k = 31 ∨ k = 32 ∨ k = 33 ∨ k = 34 ∨ k = 35 ∨ k = 36 ∨ k = 37 ∨ k = 38 ∨ k = 39 ∨ k = 40 ∨ k = 41 ∨ k = 42 ∨ k = 43 ∨ k = 44 ∨ k = 45 ∨ k = 46 ∨ k = 47 by omega) with rfl | rfl | rfl | rfl | rfl | rfl | rfl | rfl | rfl | rfl | rfl | rfl | rfl | rfl | rfl | rfl | rfl | rfl | rfl | rfl | rfl | rfl | rfl | rfl | rfl | rfl | rfl | rfl | rfl | rfl | rfl | rfl | rfl | rfl | rfl | rfl | rfl | rfl | rfl | rfl | rfl | rfl | rfl | rfl | rfl | rfl | rfl | rfl
  all_goals rfl
set_option maxRecDepth 100000 in
theorem s_M0_S1 {M : ew_Mem} : s_S1 (s_M0 M) 5 7 := by
  have e0 : s_M0 M 5 2 = 0 := rfl
  have e1 : s_M0 M 5 3 = 0 := rfl
  have e2 : s_M0 M 5 4 = -1 := rfl
  have f0 : s_M0 M 7 0 = 15 := rfl
  have f1 : s_M0 M 7 1 = 9 := rfl
  have f2 : s_M0 M 7 2 = 20 := rfl
  have f3 : s_M0 M 7 3 = 59 := rfl
  have f4 : s_M0 M 7 4 = 2 := rfl
  have f5 : s_M0 M 7 5 = 4 := rfl
  unfold s_S1
  rw [e0, e1, e2, f0, f1, f2, f3, f4, f5]
  omega
set_option maxRecDepth 100000 in
theorem s_M0_13 {M : ew_Mem} {t : Nat} (ht : t < 4) (i : Nat) : s_M0 M (13 + 2 * t) i = 0 := by
  rcases (show t = 0 ∨ t = 1 ∨ t = 2 ∨ t = 3 by omega) with rfl | rfl | rfl | rfl
  all_goals rfl
set_option maxRecDepth 100000 in
theorem s_M0_12 {M : ew_Mem} {t : Nat} (ht : t < 4) : s_M0 M (12 + 2 * t) 1 = -1 ∧ s_M0 M (12 + 2 * t) 2 = 0 ∧ s_M0 M 54 t = -1 ∧ s_M0 M 55 t = 0 := by
  rcases (show t = 0 ∨ t = 1 ∨ t = 2 ∨ t = 3 by omega) with rfl | rfl | rfl | rfl
  all_goals exact ⟨rfl, rfl, rfl, rfl⟩
set_option maxRecDepth 100000 in
theorem s_M0_21 {M : ew_Mem} {l : Nat} (hl : l < 3) : s_M0 M (21 + 2 * l) 1 = -1 ∧ (∀ i, s_M0 M (22 + 2 * l) i = 0) ∧ s_M0 M 57 l = -1 := by
  rcases (show l = 0 ∨ l = 1 ∨ l = 2 by omega) with rfl | rfl | rfl
  all_goals exact ⟨rfl, fun _ => rfl, rfl⟩
set_option maxRecDepth 100000 in
theorem s_M0_lv {M : ew_Mem} {a : Int} : ¬ s_lv (s_M0 M) a := by
  rintro (⟨r, h1, h2⟩ | ⟨t, i, ht, hi, h1, h2⟩)
  · have e : s_M0 M 5 2 = 0 := rfl
    omega
  · rw [s_M0_13 ht] at h1
    exact h2 h1.symm
set_option maxRecDepth 100000 in
theorem s_M0_K {M : ew_Mem} (h1 : ∀ i : Nat, i < 6 → M 1 i = [0, 0, 0, 1, 1, 1].getD i 0) (h2 : ∀ i : Nat, i < 6 → M 2 i = [99999, 99999, 99999, 100000, 1000, 400].getD i 0) : s_K 0 59 (s_M0 M) := by
  have e0 : s_M0 M 5 2 = 0 := rfl
  have e6 : s_M0 M 4 6 = 0 := rfl
  refine ⟨by decide, by decide, s_M0_pm h1 h2, s_M0_S1, fun r hr => Or.inr ⟨by omega, rfl⟩, fun r q hr => ?_, fun t ht => ?_, fun l hl => ?_, ⟨?_, fun i hi => ?_⟩, Or.inl rfl, by omega, by omega⟩
  · exfalso
    omega
  · obtain ⟨g1, g2, -⟩ := s_M0_12 (M := M) ht
    refine ⟨by omega, fun i hi => Or.inl (s_M0_13 ht i)⟩
  · obtain ⟨g1, g2, -⟩ := s_M0_21 (M := M) hl
    refine ⟨by omega, fun i hi => ?_⟩
    rw [g2]
    decide
  · have e : s_M0 M 27 1 = 0 := rfl
    omega
  · have e : s_M0 M 28 i = 0 := rfl
    omega
set_option maxRecDepth 100000 in
theorem s_M0_R {M : ew_Mem} : s_RM (fun _ => 0) (s_M0 M) (s_M0 M) := by
  have e0 : s_M0 M 5 2 = 0 := rfl
  refine ⟨⟨rfl, rfl, rfl, fun j hj => ?_⟩, ⟨fun r hr => ?_, fun t i ht hi => ?_, fun a ha => absurd ha s_M0_lv, fun a b ha => absurd ha s_M0_lv⟩, fun t ht => ?_, fun l hl => ?_, ⟨rfl, fun i hi => rfl, rfl⟩, ⟨rfl, fun q => ?_⟩⟩
  · rcases (show j = 0 ∨ j = 1 ∨ j = 2 ∨ j = 3 ∨ j = 4 ∨ j = 5 by omega) with rfl | rfl | rfl | rfl | rfl | rfl
    all_goals rfl
  · exfalso
    omega
  · rw [s_M0_13 ht, if_pos rfl]
    exact s_M0_56 (by omega)
  · obtain ⟨g1, g2, g3, g4⟩ := s_M0_12 (M := M) ht
    rw [g1, g2, g3, g4]
    exact ⟨rfl, rfl⟩
  · obtain ⟨g1, g2, g3⟩ := s_M0_21 (M := M) hl
    rw [g1, g3]
    refine ⟨rfl, fun i hi => ?_⟩
    rw [g2]
    rfl
  · have e : s_M0 M 4 2 = 0 := rfl
    omega
theorem s_M0_J {M : ew_Mem} (h1 : ∀ i : Nat, i < 6 → M 1 i = [0, 0, 0, 1, 1, 1].getD i 0) (h2 : ∀ i : Nat, i < 6 → M 2 i = [99999, 99999, 99999, 100000, 1000, 400].getD i 0) : s_J 0 59 (s_M0 M) := ⟨s_M0_K h1 h2, _, s_M0_R⟩
