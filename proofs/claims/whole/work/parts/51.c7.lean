theorem wiS_33 {S : mw} {j : Nat} (h : j ≠ 6) : (mU S 33 6 0) 33 j = S 33 j := mU_at_ne h
theorem wiS_len {S : mw} : sLen (mU S 33 6 0) = 0 := by
  show ((mU S 33 6 0) 33 6).toNatClampNeg = 0
  rw [mU_at]; rfl
theorem wiS_k {S : mw} {k : Nat} (h : k ≠ 33) : (mU S 33 6 0) k = S k := mU_ne h
set_option maxRecDepth 100000 in
set_option maxHeartbeats 4000000 in
theorem t_P_erase (E : mE) (d : Nat) (hd : 4 ≤ d) (w : mw) (S : mw) (hP : CPt w S) (hV : VM S) : Ti E d m_P_erase [vr 1] w (fun r w1 => r = nI (sLen S) ∧ CPA w1 w (mU S 33 6 0)) := by
  refine ⟨Nat.le_of_ble_eq_true rfl, ?_⟩
  show Wp E d m_P_erase 0 [lr 1, lo] [] w _
  have hle6 : w 1 6 = nI (sLen S) := hP.2.2.2.2.trans (VM_len hV).1
  have e2 : (mU w 1 6 0) 2 = (mU S 33 6 0) 38 := by rw [mU_ne (by decide), wiS_k (by decide)]; exact hP.1
  have e7 : (mU w 1 6 0) 7 = (mU S 33 6 0) 42 := by rw [mU_ne (by decide), wiS_k (by decide)]; exact hP.2.2.2.1
  have hN : (pres ((mU w 1 6 0) 2) 0).2 ≤ 10 := Nat.zero_le _
  have hL2 : ∀ i, i < 10 → -30 ≤ ((mU w 1 6 0) 7 i).toInt ∧ ((mU w 1 6 0) 7 i).toInt ≤ 30 := by
    intro i hi
    rw [e7, wiS_k (by decide)]; exact VM_li hV i hi
  refine Wp_aload_n d_P_erase_0 rfl ?_
  refine Wp_getf d_P_erase_1 fd_P_34 rfl rfl rfl ?_
  refine Wp_eqi (x2 := nI (sLen S)) hle6 ?_
  refine Wp_istore_n (ls2 := [lr 1, li (nI (sLen S))]) d_P_erase_4 rfl rfl rfl ?_
  refine Wp_aload_n d_P_erase_5 rfl ?_
  refine Wp_iconst (x := 0) d_P_erase_6 (by decide) ?_
  refine Wp_puti d_P_erase_7 fp_P_34 rfl rfl rfl ?_
  refine Wp_aload_n d_P_erase_10 rfl ?_
  refine Wp_ivv_v (o := 1) (As := []) d_P_erase_11 ln_P_37 mk_P_understand rfl rfl rfl rfl rfl (by omega) (t_P_understand E (d - 1) (by omega) (mU w 1 6 0) 0 mU_at (by omega) hN hL2) (fun w11 c11 => ?_)
  obtain ⟨b7, b8, b3, bf, bf2⟩ := c11
  have b6 : w11 1 6 = 0 := (bf2 6 (by decide) (by decide)).trans mU_at
  refine Wp_iload_n d_P_erase_14 rfl ?_
  refine Wp_reti (ty := .int) d_P_erase_15 rfl rfl ?_
  refine ⟨rfl, ⟨(bf 2 (by decide)).trans e2, ?_, ?_, ?_, b6.trans mU_at.symm⟩, CPp_un e2 e7 wiS_len.symm b7 b8 b3, fr_tr (fr_U (by decide)) (fr_sub bf (by decide))⟩
  · rw [bf 5 (by decide), mU_ne (by decide), wiS_k (by decide)]; exact hP.2.1
  · rw [bf 6 (by decide), mU_ne (by decide), wiS_k (by decide)]; exact hP.2.2.1
  · rw [bf 7 (by decide)]; exact e7
set_option maxRecDepth 100000 in
set_option maxHeartbeats 4000000 in
theorem t_F_wipe (E : mE) (d : Nat) (hd : 5 ≤ d) (w : mw) (S : mw) (hC : CC w S) (hV : VM S) : Ti E d m_F_wipe [vr 0] w (fun r w1 => r = (oWipe S).1 ∧ CC w1 (oWipe S).2 ∧ fr cRows w w1) := by
  refine ⟨Nat.le_of_ble_eq_true rfl, ?_⟩
  show Wp E d m_F_wipe 0 [lr 0] [] w _
  have hP2 : CPt (mU w 12 6 1) S := by unfold CPt; rw [mU_ne (by decide), mU_ne (by decide), mU_ne (by decide), mU_ne (by decide), mU_ne (by decide)]; exact hC.1
  refine Wp_aload_n d_F_wipe_0 rfl ?_
  refine Wp_getr d_F_wipe_1 fd_F_28 rfl rfl rfl ?_
  refine Wp_ivv_dv (o := 12) (As := []) d_F_wipe_4 ln_F_67 mk_D_outdate rfl rfl rfl rfl rfl (by omega) (t_D_outdate E (d - 1) (by omega) w) ?_
  refine Wp_aload_n d_F_wipe_7 rfl ?_
  refine Wp_getr d_F_wipe_8 fd_F_10 rfl rfl rfl ?_
  refine Wp_ivv_i (o := 1) (As := []) d_F_wipe_11 ln_F_74 mk_P_erase rfl rfl rfl rfl rfl (by omega) (t_P_erase E (d - 1) (by omega) (mU w 12 6 1) S hP2 hV) (fun r11 w11 c11 => ?_)
  obtain ⟨rA, a1, a2, a3⟩ := c11
  refine Wp_reti (ty := .int) d_F_wipe_14 rfl rfl ?_
  have hf : fr [1, 2, 3, 4, 5, 6, 7, 12] w w11 := fr_tr (fr_U (by decide)) (fr_sub a3 (by decide))
  exact ⟨rA, CC_t hC a1 a2 hf ((congrFun (a3 12 (by decide)) 6).trans mU_at) (fun k _ q2 _ _ _ => wiS_k q2) (wiS_33 (S := S) (j := 4) (by decide)) (wiS_33 (S := S) (j := 28) (by decide)), fr_sub hf (by decide)⟩
