set_option maxRecDepth 100000 in
set_option maxHeartbeats 4000000 in
theorem t_D_outdate (E : mE) (d : Nat) (hd : 0 ≤ d) (w : mw)  : Tdv E d m_D_outdate [vr 12] w (mU w 12 6 1) := by
  refine ⟨Nat.le_of_ble_eq_true rfl, ?_⟩
  show Wp E d m_D_outdate 0 [lr 12] [] w _
  refine Wp_aload_n d_D_outdate_0 rfl ?_
  refine Wp_iconst (x := 1) d_D_outdate_1 (by decide) ?_
  refine Wp_putz d_D_outdate_2 fp_D_24 rfl rfl rfl rfl rfl ?_
  refine Wp_retv d_D_outdate_5 rfl ?_
  exact rfl
set_option maxRecDepth 100000 in
set_option maxHeartbeats 4000000 in
theorem t_F_fault (E : mE) (d : Nat) (hd : 0 ≤ d) (w : mw) (S : mw) (hC : CC w S) : Td E d m_F_fault [vr 0] w (pF S) w := by
  refine ⟨Nat.le_of_ble_eq_true rfl, ?_⟩
  show Wp E d m_F_fault 0 [lr 0] [] w _
  refine Wp_aload_n d_F_fault_0 rfl ?_
  refine Wp_getr d_F_fault_1 fd_F_10 rfl rfl rfl ?_
  refine Wp_getf d_F_fault_4 fd_F_78 rfl rfl rfl ?_
  refine Wp_eqi (x2 := pF S) hC.2.1.2.1 ?_
  refine Wp_reti (ty := .int) d_F_fault_7 rfl rfl ?_
  exact ⟨rfl, rfl⟩
set_option maxRecDepth 100000 in
set_option maxHeartbeats 4000000 in
theorem t_G_drop (E : mE) (d : Nat) (hd : 0 ≤ d) (w : mw)  : Ti E d m_G_drop [vr 19] w (fun r w1 => r = w 19 3 ∧ w1 = mU w 19 3 0) := by
  refine ⟨Nat.le_of_ble_eq_true rfl, ?_⟩
  show Wp E d m_G_drop 0 [lr 19, lo] [] w _
  refine Wp_aload_n d_G_drop_0 rfl ?_
  refine Wp_getf d_G_drop_1 fd_G_21 rfl rfl rfl ?_
  refine Wp_istore_n (ls2 := [lr 19, li (w 19 3)]) d_G_drop_4 rfl rfl rfl ?_
  refine Wp_aload_n d_G_drop_5 rfl ?_
  refine Wp_iconst (x := 0) d_G_drop_6 (by decide) ?_
  refine Wp_puti d_G_drop_7 fp_G_21 rfl rfl rfl ?_
  refine Wp_iload_n d_G_drop_10 rfl ?_
  refine Wp_reti (ty := .int) d_G_drop_11 rfl rfl ?_
  exact ⟨rfl, rfl⟩
set_option maxRecDepth 100000 in
set_option maxHeartbeats 4000000 in
theorem t_S_isLost (E : mE) (d : Nat) (hd : 0 ≤ d) (w : mw) (s : Nat) (h_s : s < 4) : Tb E d m_S_isLost [vr (24 + s)] w (w (24 + s) 2 = -1) := by
  refine ⟨Nat.le_of_ble_eq_true rfl, ?_⟩
  show Wp E d m_S_isLost 0 [lr (24 + s)] [] w _
  refine Wp_aload_n d_S_isLost_0 rfl ?_
  refine Wp_getf d_S_isLost_1 fd_S_13 (mObj_sh h_s) rfl (mRef_sh2 h_s) ?_
  refine Wp_iconst (x := (-1)) d_S_isLost_4 (by decide) ?_
  refine Wp_icmp_ne d_S_isLost_5 (fun h5 => ?_) (fun h5 => ?_)
  ·
    refine Wp_iconst (x := 0) d_S_isLost_12 (by decide) ?_
    refine Wp_reti (ty := .boolean) d_S_isLost_13 rfl rfl ?_
    exact ⟨Or.inr ⟨rfl, h5⟩, rfl⟩
  ·
    refine Wp_iconst (x := 1) d_S_isLost_8 (by decide) ?_
    refine Wp_goto d_S_isLost_9 ?_
    refine Wp_reti (ty := .boolean) d_S_isLost_13 rfl rfl ?_
    exact ⟨Or.inl ⟨rfl, h5⟩, rfl⟩
