set_option maxRecDepth 100000 in
set_option maxHeartbeats 4000000 in
theorem t_P_isTextFull (E : mE) (d : Nat) (hd : 0 ≤ d) (w : mw) (n : Nat) (hn : w 1 6 = nI n) (h40 : n ≤ 40) : Tb E d m_P_isTextFull [vr 1] w (n = 40) := by
  refine ⟨Nat.le_of_ble_eq_true rfl, ?_⟩
  show Wp E d m_P_isTextFull 0 [lr 1] [] w _
  refine Wp_aload_n d_P_isTextFull_0 rfl ?_
  refine Wp_getf d_P_isTextFull_1 fd_P_34 rfl rfl rfl ?_
  refine Wp_eqi (x2 := nI n) hn ?_
  refine Wp_bipush (x := 40) d_P_isTextFull_4 (by decide) ?_
  refine Wp_icmp_lt d_P_isTextFull_6 (fun h6 => ?_) (fun h6 => ?_)
  ·
    have g6 : n < 40 := n_lt h6 (by omega) (by omega)
    refine Wp_iconst (x := 0) d_P_isTextFull_13 (by decide) ?_
    refine Wp_reti (ty := .boolean) d_P_isTextFull_14 rfl rfl ?_
    exact ⟨Or.inr ⟨rfl, fun q => by omega⟩, rfl⟩
  ·
    have g6 : 40 ≤ n := n_nlt h6 (by omega) (by omega)
    refine Wp_iconst (x := 1) d_P_isTextFull_9 (by decide) ?_
    refine Wp_goto d_P_isTextFull_10 ?_
    refine Wp_reti (ty := .boolean) d_P_isTextFull_14 rfl rfl ?_
    exact ⟨Or.inl ⟨rfl, by omega⟩, rfl⟩
set_option maxRecDepth 100000 in
set_option maxHeartbeats 4000000 in
theorem t_F_type (E : mE) (d : Nat) (hd : 5 ≤ d) (w : mw) (S : mw) (hC : CC w S) (hV : VM S) (b : Int32) : Ti E d m_F_type [vr 0, vi b] w (fun r w1 => r = (oType S b).1 ∧ CC w1 (oType S b).2 ∧ fr cRows w w1) := by
  refine ⟨Nat.le_of_ble_eq_true rfl, ?_⟩
  show Wp E d m_F_type 0 [lr 0, li b] [] w _
  have hl40 := (VM_len hV).2
  have hP2 : CPt (mU w 12 6 1) S := by unfold CPt; rw [mU_ne (by decide), mU_ne (by decide), mU_ne (by decide), mU_ne (by decide), mU_ne (by decide)]; exact hC.1
  refine Wp_iload_n d_F_type_0 rfl ?_
  refine Wp_iconst (x := 0) d_F_type_1 (by decide) ?_
  refine Wp_sipush (x := 255) d_F_type_2 (by decide) ?_
  refine Wp_ivs_b (As := [vi b, vi 0, vi 255]) d_F_type_5 ln_F_59 mk_F_isWithin rfl rfl rfl (by omega) (t_F_isWithin E (d - 1) (by omega) w b 0 255) (fun g5 => ?_) (fun g5 => ?_)
  ·
    have k5 : 0 ≤ b.toInt ∧ b.toInt ≤ 255 := g5
    refine Wp_if_ne d_F_type_8 (fun _ => ?_) (fun q => absurd q (by decide))
    refine Wp_aload_n d_F_type_14 rfl ?_
    refine Wp_getr d_F_type_15 fd_F_10 rfl rfl rfl ?_
    refine Wp_ivv_b (o := 1) (As := []) d_F_type_18 ln_F_63 mk_P_isTextFull rfl rfl rfl rfl rfl (by omega) (t_P_isTextFull E (d - 1) (by omega) w (sLen S) (hC.1.2.2.2.2.trans (VM_len hV).1) (VM_len hV).2) (fun g18 => ?_) (fun g18 => ?_)
    ·
      refine Wp_if_eq d_F_type_21 (fun q => absurd q (by decide)) (fun _ => ?_)
      refine Wp_bipush (x := (-4)) d_F_type_24 (by decide) ?_
      refine Wp_reti (ty := .int) d_F_type_26 rfl rfl ?_
      have e9 : oType S b = (-4, S) := by unfold oType; rw [if_neg (fun q => q k5), if_pos g18]
      rw [e9]; exact ⟨rfl, hC, fr_rf⟩
    ·
      refine Wp_if_eq d_F_type_21 (fun _ => ?_) (fun q => absurd (by decide) q)
      refine Wp_aload_n d_F_type_27 rfl ?_
      refine Wp_getr d_F_type_28 fd_F_28 rfl rfl rfl ?_
      refine Wp_ivv_dv (o := 12) (As := []) d_F_type_31 ln_F_67 mk_D_outdate rfl rfl rfl rfl rfl (by omega) (t_D_outdate E (d - 1) (by omega) w) ?_
      refine Wp_aload_n d_F_type_34 rfl ?_
      refine Wp_getr d_F_type_35 fd_F_10 rfl rfl rfl ?_
      refine Wp_iload_n d_F_type_38 rfl ?_
      refine Wp_ivv_i (o := 1) (As := [vi b]) d_F_type_39 ln_F_70 mk_P_append rfl rfl rfl rfl rfl (by omega) (t_P_append E (d - 1) (by omega) (mU w 12 6 1) S hP2 hV (by omega) b) (fun r39 w39 c39 => ?_)
      obtain ⟨rA, a1, a2, a3⟩ := c39
      refine Wp_reti (ty := .int) d_F_type_42 rfl rfl ?_
      have e9 : oType S b = (nI (sLen S + 1), tyS S b) := by unfold oType; rw [if_neg (fun q => q k5), if_neg g18]; rfl
      rw [e9]
      have hf : fr [1, 2, 3, 4, 5, 6, 7, 12] w w39 := fr_tr (fr_U (by decide)) (fr_sub a3 (by decide))
      exact ⟨rA, CC_t hC a1 a2 hf ((congrFun (a3 12 (by decide)) 6).trans mU_at) (fun k q1 q2 _ _ _ => tyS_k q1 q2) (tyS_33 (S := S) (b := b) (j := 4) (by decide)) (tyS_33 (S := S) (b := b) (j := 28) (by decide)), fr_sub hf (by decide)⟩
  ·
    have k5 : ¬ (0 ≤ b.toInt ∧ b.toInt ≤ 255) := g5
    refine Wp_if_ne d_F_type_8 (fun q => absurd q (by decide)) (fun _ => ?_)
    refine Wp_bipush (x := (-2)) d_F_type_11 (by decide) ?_
    refine Wp_reti (ty := .int) d_F_type_13 rfl rfl ?_
    have e9 : oType S b = (-2, S) := by unfold oType; rw [if_pos k5]
    rw [e9]; exact ⟨rfl, hC, fr_rf⟩
