set_option maxRecDepth 100000 in
set_option maxHeartbeats 4000000 in
theorem t_M_type (E : mE) (d : Nat) (hd : 1 ≤ d) (w : mw) (S : mw) (hM : MM w S) (hV : VM S) (b : Int32) : Ti E d m_M_type [vr 33, vi b] w (fun r w1 => r = (oType S b).1 ∧ MM w1 (oType S b).2 ∧ fr mRows w w1) := by
  refine ⟨Nat.le_of_ble_eq_true rfl, ?_⟩
  show Wp E d m_M_type 0 [lr 33, li b] [] w _
  have hlen := (VM_len hV).2
  refine Wp_iload_n d_M_type_0 rfl ?_
  refine Wp_i2l d_M_type_1 ?_
  refine Wp_lconst (x := 0) d_M_type_2 (by decide) ?_
  refine Wp_ldc2 (x := 255) d_M_type_3 kl_M_117 ?_
  refine Wp_ivs_b (As := [vl b.toInt64, vl 0, vl 255]) d_M_type_6 ln_M_88 mk_M_in rfl rfl rfl (by omega) (t_M_inI E (d - 1) w (x := b) (lo := 0) (hi := 255) (by decide) (by decide)) (fun g6 => ?_) (fun g6 => ?_)
  ·
    refine Wp_if_ne d_M_type_9 (fun _ => ?_) (fun q => absurd q (by decide))
    refine Wp_aload_n d_M_type_15 rfl ?_
    refine Wp_getf d_M_type_16 fd_M_119 rfl rfl rfl ?_
    refine Wp_eqi (x2 := S 33 6) hM.2.1 ?_
    refine Wp_eqi (x2 := nI (sLen S)) (VM_len hV).1 ?_
    refine Wp_bipush (x := 40) d_M_type_19 (by decide) ?_
    refine Wp_icmp_ne d_M_type_21 (fun h21 => ?_) (fun h21 => ?_)
    ·
      have g21 : (sLen S) ≠ 40 := n_ne h21 (by omega) (by omega)
      refine Wp_aload_n d_M_type_27 rfl ?_
      refine Wp_getr d_M_type_28 fd_M_22 rfl rfl rfl ?_
      refine Wp_aload_n d_M_type_31 rfl ?_
      refine Wp_getf d_M_type_32 fd_M_119 rfl rfl rfl ?_
      refine Wp_eqi (x2 := S 33 6) hM.2.1 ?_
      refine Wp_eqi (x2 := nI (sLen S)) (VM_len hV).1 ?_
      refine Wp_iload_n d_M_type_35 rfl ?_
      refine Wp_iastN (j := (sLen S)) d_M_type_36 rfl rfl rfl rfl (by omega) ?_
      refine Wp_aload_n d_M_type_37 rfl ?_
      refine Wp_dup d_M_type_38 rfl ?_
      refine Wp_getf d_M_type_39 fd_M_119 rfl rfl rfl ?_
      refine Wp_eqi (x2 := w 33 6) (by simp [mU, mUr, upd]) ?_
      refine Wp_eqi (x2 := S 33 6) hM.2.1 ?_
      refine Wp_eqi (x2 := nI (sLen S)) (VM_len hV).1 ?_
      refine Wp_iconst (x := 1) d_M_type_42 (by decide) ?_
      refine Wp_iadd d_M_type_43 ?_
      refine Wp_eqi (x2 := nI ((sLen S) + 1)) (nI_add (sLen S) 1) ?_
      refine Wp_puti d_M_type_44 fp_M_119 rfl rfl rfl ?_
      refine Wp_aload_n d_M_type_47 rfl ?_
      refine Wp_getf d_M_type_48 fd_M_119 rfl rfl rfl ?_
      refine Wp_eqi (x2 := nI ((sLen S) + 1)) (by simp [mU, mUr, upd]) ?_
      refine Wp_reti (ty := .int) d_M_type_51 rfl rfl ?_
      have e9 : oType S b = (nI (sLen S + 1), mU (mU S 38 (sLen S) b) 33 6 (nI (sLen S + 1))) := by unfold oType; rw [if_neg (by omega), if_neg (by omega)]
      rw [e9]; exact ⟨rfl, MM_f (MM_p hM (by decide)), fr_tr (fr_U (by decide)) (fr_U (by decide))⟩
    ·
      have g21 : (sLen S) = 40 := n_eq h21 (by omega) (by omega)
      refine Wp_bipush (x := (-4)) d_M_type_24 (by decide) ?_
      refine Wp_reti (ty := .int) d_M_type_26 rfl rfl ?_
      have e9 : oType S b = (-4, S) := by unfold oType; rw [if_neg (by omega), if_pos (by omega)]
      rw [e9]; exact ⟨rfl, hM, fr_rf⟩
  ·
    refine Wp_if_ne d_M_type_9 (fun q => absurd q (by decide)) (fun _ => ?_)
    refine Wp_bipush (x := (-2)) d_M_type_12 (by decide) ?_
    refine Wp_reti (ty := .int) d_M_type_14 rfl rfl ?_
    have e9 : oType S b = (-2, S) := by unfold oType; rw [if_pos (by omega)]
    rw [e9]; exact ⟨rfl, hM, fr_rf⟩
theorem t_M_wipe2 (E : mE) (d : Nat) (w S : mw) (hM : MM w S) (hV : VM S) : Ti E d m_M_wipe [vr 33] w (fun r w1 => r = (oWipe S).1 ∧ MM w1 (oWipe S).2 ∧ fr mRows w w1) := by
  have h1 := t_M_wipe E d (Nat.zero_le _) w
  rw [hM.2.1, (VM_len hV).1] at h1
  exact ⟨h1.1, Wp_mono (fun v w1 h => by obtain ⟨r, hr, h2, rfl⟩ := h; exact ⟨r, hr, h2, MM_f hM, fr_U (by decide)⟩) h1.2⟩
theorem t_M_forget2 (E : mE) (d : Nat) (w S : mw) (hM : MM w S) (hV : VM S) : Ti E d m_M_forget [vr 33] w (fun r w1 => r = (oForget S).1 ∧ MM w1 (oForget S).2 ∧ fr mRows w w1) := by
  have h1 := t_M_forget E d (Nat.zero_le _) w
  rw [hM.2.2.1] at h1
  exact ⟨h1.1, Wp_mono (fun v w1 h => by obtain ⟨r, hr, h2, rfl⟩ := h; exact ⟨r, hr, h2, MM_f hM, fr_U (by decide)⟩) h1.2⟩
set_option maxRecDepth 100000 in
set_option maxHeartbeats 4000000 in
theorem t_M_put (E : mE) (d : Nat) (hd : 2 ≤ d) (w : mw) (S : mw) (hM : MM w S) (hV : VM S) (k a v : Int32) : Ti E d m_M_put [vr 33, vi k, vi a, vi v] w (fun r w1 => r = (oPut S k a v).1 ∧ MM w1 (oPut S k a v).2 ∧ fr mRows w w1) := by
  refine ⟨Nat.le_of_ble_eq_true rfl, ?_⟩
  show Wp E d m_M_put 0 [lr 33, li k, li a, li v, lo] [] w _
  refine Wp_iload_n d_M_put_0 rfl ?_
  refine Wp_ivs_b (As := [vi k]) d_M_put_1 ln_M_157 mk_M_isNumber rfl rfl rfl (by omega) (t_M_isNumber E (d - 1) (by omega) w k) (fun g1 => ?_) (fun g1 => ?_)
  ·
    obtain ⟨k1, h_k1, rfl⟩ := nu_of g1
    refine Wp_if_eq d_M_put_4 (fun q => absurd q (by decide)) (fun _ => ?_)
    refine Wp_iload_n d_M_put_7 rfl ?_
    refine Wp_ivs_b (As := [vi a]) d_M_put_8 ln_M_151 mk_M_isTwo rfl rfl rfl (by omega) (t_M_isTwo E (d - 1) (by omega) w a) (fun g8 => ?_) (fun g8 => ?_)
    ·
      refine Wp_if_eq d_M_put_11 (fun q => absurd q (by decide)) (fun _ => ?_)
      refine Wp_iload_n d_M_put_14 rfl ?_
      refine Wp_i2l d_M_put_15 ?_
      refine Wp_lconst (x := 0) d_M_put_16 (by decide) ?_
      refine Wp_ldc2 (x := 99) d_M_put_17 kl_M_160 ?_
      refine Wp_ivs_b (As := [vl v.toInt64, vl 0, vl 99]) d_M_put_20 ln_M_88 mk_M_in rfl rfl rfl (by omega) (t_M_inI E (d - 1) w (x := v) (lo := 0) (hi := 99) (by decide) (by decide)) (fun g20 => ?_) (fun g20 => ?_)
      ·
        refine Wp_if_ne d_M_put_23 (fun _ => ?_) (fun q => absurd q (by decide))
        refine Wp_iload_n d_M_put_29 rfl ?_
        refine Wp_if_ne d_M_put_30 (fun h30 => ?_) (fun h30 => ?_)
        ·
          have g30 : a.toInt ≠ 0 := i_ne h30
          refine Wp_aload_n d_M_put_42 rfl ?_
          refine Wp_getr d_M_put_43 fd_M_31 rfl rfl rfl ?_
          refine Wp_iload_n d_M_put_46 rfl ?_
          refine Wp_ialdN (j := k1) d_M_put_47 rfl rfl rfl rfl (by omega) ?_
          refine Wp_eqi (x2 := S 41 k1) (congrFun (hM.r 41) _) ?_
          refine Wp_istore (ls2 := [lr 33, li (nI k1), li a, li v, li (S 41 k1)]) d_M_put_48 rfl rfl rfl ?_
          refine Wp_iload_n d_M_put_50 rfl ?_
          refine Wp_if_ne d_M_put_51 (fun _ => ?_) (fun q => absurd q h30)
          refine Wp_aload_n d_M_put_64 rfl ?_
          refine Wp_getr d_M_put_65 fd_M_31 rfl rfl rfl ?_
          refine Wp_iload_n d_M_put_68 rfl ?_
          refine Wp_iload_n d_M_put_69 rfl ?_
          refine Wp_iastN (j := k1) d_M_put_70 rfl rfl rfl rfl (by omega) ?_
          refine Wp_iload d_M_put_71 rfl ?_
          refine Wp_reti (ty := .int) d_M_put_73 rfl rfl ?_
          have e9 : oPut S (nI k1) a v = (S 41 k1, mU S 41 k1 v) := by unfold oPut; rw [if_neg (by have := ti (show k1 < 2147483648 by omega); omega), if_neg (by assumption), cl (by omega)]
          rw [e9]; exact ⟨rfl, MM_p hM (by decide), fr_U (by decide)⟩
        ·
          refine Wp_aload_n d_M_put_33 rfl ?_
          refine Wp_getr d_M_put_34 fd_M_28 rfl rfl rfl ?_
          refine Wp_iload_n d_M_put_37 rfl ?_
          refine Wp_ialdN (j := k1) d_M_put_38 rfl rfl rfl rfl (by omega) ?_
          refine Wp_eqi (x2 := S 40 k1) (congrFun (hM.r 40) _) ?_
          refine Wp_goto d_M_put_39 ?_
          refine Wp_istore (ls2 := [lr 33, li (nI k1), li a, li v, li (S 40 k1)]) d_M_put_48 rfl rfl rfl ?_
          refine Wp_iload_n d_M_put_50 rfl ?_
          refine Wp_if_ne d_M_put_51 (fun q => absurd h30 q) (fun _ => ?_)
          refine Wp_aload_n d_M_put_54 rfl ?_
          refine Wp_getr d_M_put_55 fd_M_28 rfl rfl rfl ?_
          refine Wp_iload_n d_M_put_58 rfl ?_
          refine Wp_iload_n d_M_put_59 rfl ?_
          refine Wp_iastN (j := k1) d_M_put_60 rfl rfl rfl rfl (by omega) ?_
          refine Wp_goto d_M_put_61 ?_
          refine Wp_iload d_M_put_71 rfl ?_
          refine Wp_reti (ty := .int) d_M_put_73 rfl rfl ?_
          have e9 : oPut S (nI k1) a v = (S 40 k1, mU S 40 k1 v) := by unfold oPut; rw [if_neg (by have := ti (show k1 < 2147483648 by omega); omega), if_pos (by assumption), cl (by omega)]
          rw [e9]; exact ⟨rfl, MM_p hM (by decide), fr_U (by decide)⟩
      ·
        refine Wp_if_ne d_M_put_23 (fun q => absurd q (by decide)) (fun _ => ?_)
        refine Wp_bipush (x := (-2)) d_M_put_26 (by decide) ?_
        refine Wp_reti (ty := .int) d_M_put_28 rfl rfl ?_
        have e9 : oPut S (nI k1) a v = (-2, S) := by unfold oPut; rw [if_pos (by omega)]
        rw [e9]; exact ⟨rfl, hM, fr_rf⟩
    ·
      refine Wp_if_eq d_M_put_11 (fun _ => ?_) (fun q => absurd (by decide) q)
      refine Wp_bipush (x := (-2)) d_M_put_26 (by decide) ?_
      refine Wp_reti (ty := .int) d_M_put_28 rfl rfl ?_
      have e9 : oPut S (nI k1) a v = (-2, S) := by unfold oPut; rw [if_pos (by omega)]
      rw [e9]; exact ⟨rfl, hM, fr_rf⟩
  ·
    refine Wp_if_eq d_M_put_4 (fun _ => ?_) (fun q => absurd (by decide) q)
    refine Wp_bipush (x := (-2)) d_M_put_26 (by decide) ?_
    refine Wp_reti (ty := .int) d_M_put_28 rfl rfl ?_
    have e9 : oPut S k a v = (-2, S) := by unfold oPut; rw [if_pos (by omega)]
    rw [e9]; exact ⟨rfl, hM, fr_rf⟩
set_option maxRecDepth 100000 in
set_option maxHeartbeats 4000000 in
theorem t_M_lie (E : mE) (d : Nat) (hd : 2 ≤ d) (w : mw) (S : mw) (hM : MM w S) (hV : VM S) (k v : Int32) : Ti E d m_M_lie [vr 33, vi k, vi v] w (fun r w1 => r = (oLie S k v).1 ∧ MM w1 (oLie S k v).2 ∧ fr mRows w w1) := by
  refine ⟨Nat.le_of_ble_eq_true rfl, ?_⟩
  show Wp E d m_M_lie 0 [lr 33, li k, li v, lo] [] w _
  refine Wp_iload_n d_M_lie_0 rfl ?_
  refine Wp_ivs_b (As := [vi k]) d_M_lie_1 ln_M_157 mk_M_isNumber rfl rfl rfl (by omega) (t_M_isNumber E (d - 1) (by omega) w k) (fun g1 => ?_) (fun g1 => ?_)
  ·
    obtain ⟨k1, h_k1, rfl⟩ := nu_of g1
    refine Wp_if_eq d_M_lie_4 (fun q => absurd q (by decide)) (fun _ => ?_)
    refine Wp_iload_n d_M_lie_7 rfl ?_
    refine Wp_i2l d_M_lie_8 ?_
    refine Wp_ldc2 (x := (-30)) d_M_lie_9 kl_M_162 ?_
    refine Wp_ldc2 (x := 30) d_M_lie_12 kl_M_164 ?_
    refine Wp_ivs_b (As := [vl v.toInt64, vl (-30), vl 30]) d_M_lie_15 ln_M_88 mk_M_in rfl rfl rfl (by omega) (t_M_inI E (d - 1) w (x := v) (lo := -30) (hi := 30) (by decide) (by decide)) (fun g15 => ?_) (fun g15 => ?_)
    ·
      refine Wp_if_ne d_M_lie_18 (fun _ => ?_) (fun q => absurd q (by decide))
      refine Wp_aload_n d_M_lie_25 rfl ?_
      refine Wp_getr d_M_lie_26 fd_M_34 rfl rfl rfl ?_
      refine Wp_iload_n d_M_lie_29 rfl ?_
      refine Wp_ialdN (j := k1) d_M_lie_30 rfl rfl rfl rfl (by omega) ?_
      refine Wp_eqi (x2 := S 42 k1) (congrFun (hM.r 42) _) ?_
      refine Wp_istore_n (ls2 := [lr 33, li (nI k1), li v, li (S 42 k1)]) d_M_lie_31 rfl rfl rfl ?_
      refine Wp_aload_n d_M_lie_32 rfl ?_
      refine Wp_getr d_M_lie_33 fd_M_34 rfl rfl rfl ?_
      refine Wp_iload_n d_M_lie_36 rfl ?_
      refine Wp_iload_n d_M_lie_37 rfl ?_
      refine Wp_iastN (j := k1) d_M_lie_38 rfl rfl rfl rfl (by omega) ?_
      refine Wp_iload_n d_M_lie_39 rfl ?_
      refine Wp_reti (ty := .int) d_M_lie_40 rfl rfl ?_
      have e9 : oLie S (nI k1) v = (S 42 k1, mU S 42 k1 v) := by unfold oLie; rw [if_neg (by have := ti (show k1 < 2147483648 by omega); omega), cl (by omega)]
      rw [e9]; exact ⟨rfl, MM_p hM (by decide), fr_U (by decide)⟩
    ·
      refine Wp_if_ne d_M_lie_18 (fun q => absurd q (by decide)) (fun _ => ?_)
      refine Wp_sipush (x := (-1002)) d_M_lie_21 (by decide) ?_
      refine Wp_reti (ty := .int) d_M_lie_24 rfl rfl ?_
      have e9 : oLie S (nI k1) v = (-1002, S) := by unfold oLie; rw [if_pos (by omega)]
      rw [e9]; exact ⟨rfl, hM, fr_rf⟩
  ·
    refine Wp_if_eq d_M_lie_4 (fun _ => ?_) (fun q => absurd (by decide) q)
    refine Wp_sipush (x := (-1002)) d_M_lie_21 (by decide) ?_
    refine Wp_reti (ty := .int) d_M_lie_24 rfl rfl ?_
    have e9 : oLie S k v = (-1002, S) := by unfold oLie; rw [if_pos (by omega)]
    rw [e9]; exact ⟨rfl, hM, fr_rf⟩
