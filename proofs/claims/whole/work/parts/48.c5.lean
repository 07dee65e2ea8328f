def CPA (w1 w S : mw) : Prop := CPt w1 S ∧ CPp w1 S ∧ fr [1, 2, 3, 4] w w1
set_option maxRecDepth 100000 in
set_option maxHeartbeats 4000000 in
theorem t_P_append (E : mE) (d : Nat) (hd : 4 ≤ d) (w : mw) (S : mw) (hP : CPt w S) (hV : VM S) (hl : sLen S < 40) (b : Int32) : Ti E d m_P_append [vr 1, vi b] w (fun r w1 => r = nI (sLen S + 1) ∧ CPA w1 w (tyS S b)) := by
  refine ⟨Nat.le_of_ble_eq_true rfl, ?_⟩
  show Wp E d m_P_append 0 [lr 1, li b] [] w _
  have hle6 : w 1 6 = nI (sLen S) := hP.2.2.2.2.trans (VM_len hV).1
  have e2 : (mU (mU w 2 (sLen S) b) 1 6 (nI (sLen S + 1))) 2 = (tyS S b) 38 := tyS_38 hP.1
  have e7 : (mU (mU w 2 (sLen S) b) 1 6 (nI (sLen S + 1))) 7 = (tyS S b) 42 := by rw [mU_ne (by decide), mU_ne (by decide), tyS_k (by decide) (by decide)]; exact hP.2.2.2.1
  have hN : (pres ((mU (mU w 2 (sLen S) b) 1 6 (nI (sLen S + 1))) 2) (sLen S + 1)).2 ≤ 10 := by
    have h := (pN_ok (tyS S b)).1
    unfold pN at h
    rw [tyS_len (by omega)] at h
    rw [e2]; exact h
  have hL2 : ∀ i, i < 10 → -30 ≤ ((mU (mU w 2 (sLen S) b) 1 6 (nI (sLen S + 1))) 7 i).toInt ∧ ((mU (mU w 2 (sLen S) b) 1 6 (nI (sLen S + 1))) 7 i).toInt ≤ 30 := by
    intro i hi
    rw [e7, tyS_k (by decide) (by decide)]; exact VM_li hV i hi
  refine Wp_aload_n d_P_append_0 rfl ?_
  refine Wp_getf d_P_append_1 fd_P_34 rfl rfl rfl ?_
  refine Wp_eqi (x2 := nI (sLen S)) hle6 ?_
  refine Wp_bipush (x := 40) d_P_append_4 (by decide) ?_
  refine Wp_icmp_ge d_P_append_6 (fun q => absurd (n_le (a := 40) q (by omega) (by omega)) (by omega)) (fun h6 => ?_)
  refine Wp_aload_n d_P_append_9 rfl ?_
  refine Wp_getr d_P_append_10 fd_P_11 rfl rfl rfl ?_
  refine Wp_aload_n d_P_append_13 rfl ?_
  refine Wp_getf d_P_append_14 fd_P_34 rfl rfl rfl ?_
  refine Wp_eqi (x2 := nI (sLen S)) hle6 ?_
  refine Wp_iload_n d_P_append_17 rfl ?_
  refine Wp_iastN (j := (sLen S)) d_P_append_18 rfl rfl rfl rfl (by omega) ?_
  refine Wp_aload_n d_P_append_19 rfl ?_
  refine Wp_dup d_P_append_20 rfl ?_
  refine Wp_getf d_P_append_21 fd_P_34 rfl rfl rfl ?_
  refine Wp_eqi (x2 := w 1 6) (by simp [mU, mUr, upd]) ?_
  refine Wp_eqi (x2 := nI (sLen S)) hle6 ?_
  refine Wp_iconst (x := 1) d_P_append_24 (by decide) ?_
  refine Wp_iadd d_P_append_25 ?_
  refine Wp_eqi (x2 := nI ((sLen S) + 1)) (nI_add (sLen S) 1) ?_
  refine Wp_puti d_P_append_26 fp_P_34 rfl rfl rfl ?_
  refine Wp_aload_n d_P_append_29 rfl ?_
  refine Wp_ivv_v (o := 1) (As := []) d_P_append_30 ln_P_37 mk_P_understand rfl rfl rfl rfl rfl (by omega) (t_P_understand E (d - 1) (by omega) (mU (mU w 2 (sLen S) b) 1 6 (nI (sLen S + 1))) (sLen S + 1) mU_at (by omega) hN hL2) (fun w30 c30 => ?_)
  obtain ⟨b7, b8, b3, bf, bf2⟩ := c30
  have b6 : w30 1 6 = nI (sLen S + 1) := (bf2 6 (by decide) (by decide)).trans mU_at
  refine Wp_aload_n d_P_append_33 rfl ?_
  refine Wp_getf d_P_append_34 fd_P_34 rfl rfl rfl ?_
  refine Wp_eqi (x2 := nI (sLen S + 1)) b6 ?_
  refine Wp_reti (ty := .int) d_P_append_37 rfl rfl ?_
  refine ⟨rfl, ⟨(bf 2 (by decide)).trans e2, ?_, ?_, ?_, b6.trans mU_at.symm⟩, CPp_un e2 e7 (tyS_len (by omega)).symm b7 b8 b3, fr_tr (fr_U2 (fr_U (by decide)) (by decide)) (fr_sub bf (by decide))⟩
  · rw [bf 5 (by decide), mU_ne (by decide), mU_ne (by decide), tyS_k (by decide) (by decide)]; exact hP.2.1
  · rw [bf 6 (by decide), mU_ne (by decide), mU_ne (by decide), tyS_k (by decide) (by decide)]; exact hP.2.2.1
  · rw [bf 7 (by decide)]; exact e7
