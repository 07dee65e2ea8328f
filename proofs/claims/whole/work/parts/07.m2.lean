set_option maxRecDepth 100000 in
set_option maxHeartbeats 4000000 in
theorem t_M_type (E : mE) (d : Nat) (hd : 1 ≤ d) (w : mw) (S : mw) (hM : MM w S) (hV : VM S) (b : Int32) : Ti E d m_M_type [vr 33, vi b] w (fun r w1 => r = (oType S b).1 ∧ MM w1 (oType S b).2 ∧ fr mRows w w1) := by
  refine ⟨Nat.le_of_ble_eq_true rfl, ?_⟩
  show Wp E d m_M_type 0 [lr 33, li b] [] w _
  have hlen := (VM_len hV).2
  refine Wp_iload_n d_M_type_0 rfl ?_
  refine Wp_i2l d_M_type_1 ?_
  refine Wp_lconst (x := 0) d_M_type_2 (by decide) ?_
  refine Wp_ldc2 (x := 255) d_M_type_3 kl_M_117 ?_
  refine Wp_ivs_b (As := [vl b.toInt64, vl 0, vl 255]) d_M_type_6 ln_M_88 mk_M_in rfl rfl rfl (by omega) (t_M_inI E (d - 1) w (x := b) (lo := 0) (hi := 255) (by decide) (by decide)) (fun g6 => ?_) (fun g6 => ?_)
  ·
    refine Wp_if_ne d_M_type_9 (fun _ => ?_) (fun q => absurd q (by decide))
    refine Wp_aload_n d_M_type_15 rfl ?_
    refine Wp_getf d_M_type_16 fd_M_119 rfl rfl rfl ?_
    refine Wp_eqi (x2 := S 33 6) hM.2.1 ?_
    refine Wp_eqi (x2 := nI (sLen S)) (VM_len hV).1 ?_
    refine Wp_bipush (x := 40) d_M_type_19 (by decide) ?_
    refine Wp_icmp_ne d_M_type_21 (fun h21 => ?_) (fun h21 => ?_)
    ·
      have g21 : (sLen S) ≠ 40 := n_ne h21 (by omega) (by omega)
      refine Wp_aload_n d_M_type_27 rfl ?_
      refine Wp_getr d_M_type_28 fd_M_22 rfl rfl rfl ?_
      refine Wp_aload_n d_M_type_31 rfl ?_
      refine Wp_getf d_M_type_32 fd_M_119 rfl rfl rfl ?_
      refine Wp_eqi (x2 := S 33 6) hM.2.1 ?_
      refine Wp_eqi (x2 := nI (sLen S)) (VM_len hV).1 ?_
      refine Wp_iload_n d_M_type_35 rfl ?_
      refine Wp_iastN (j := (sLen S)) d_M_type_36 rfl rfl rfl rfl (by omega) ?_
      refine Wp_aload_n d_M_type_37 rfl ?_
      refine Wp_dup d_M_type_38 rfl ?_
      refine Wp_getf d_M_type_39 fd_M_119 rfl rfl rfl ?_
      refine Wp_eqi (x2 := w 33 6) (by simp [mU, mUr, upd]) ?_
      refine Wp_eqi (x2 := S 33 6) hM.2.1 ?_
      refine Wp_eqi (x2 := nI (sLen S)) (VM_len hV).1 ?_
      refine Wp_iconst (x := 1) d_M_type_42 (by decide) ?_
      refine Wp_iadd d_M_type_43 ?_
      refine Wp_eqi (x2 := nI ((sLen S) + 1)) (nI_add (sLen S) 1) ?_
      refine Wp_puti d_M_type_44 fp_M_119 rfl rfl rfl ?_
      refine Wp_aload_n d_M_type_47 rfl ?_
      refine Wp_getf d_M_type_48 fd_M_119 rfl rfl rfl ?_
      refine Wp_eqi (x2 := nI ((sLen S) + 1)) (by simp [mU, mUr, upd]) ?_
      refine Wp_reti (ty := .int) d_M_type_51 rfl rfl ?_
      have e9 : oType S b = (nI (sLen S + 1), mU (mU S 38 (sLen S) b) 33 6 (nI (sLen S + 1))) := by unfold oType; rw [if_neg (by omega), if_neg (by omega)]
      rw [e9]; exact ⟨rfl, MM_f (MM_p hM (by decide)), fr_tr (fr_U (by decide)) (fr_U (by decide))⟩
    ·
      have g21 : (sLen S) = 40 := n_eq h21 (by omega) (by omega)
      refine Wp_bipush (x := (-4)) d_M_type_24 (by decide) ?_
      refine Wp_reti (ty := .int) d_M_type_26 rfl rfl ?_
      have e9 : oType S b = (-4, S) := by unfold oType; rw [if_neg (by omega), if_pos (by omega)]
      rw [e9]; exact ⟨rfl, hM, fr_rf⟩
  ·
    refine Wp_if_ne d_M_type_9 (fun q => absurd q (by decide)) (fun _ => ?_)
    refine Wp_bipush (x := (-2)) d_M_type_12 (by decide) ?_
    refine Wp_reti (ty := .int) d_M_type_14 rfl rfl ?_
    have e9 : oType S b = (-2, S) := by unfold oType; rw [if_pos (by omega)]
    rw [e9]; exact ⟨rfl, hM, fr_rf⟩
theorem t_M_wipe2 (E : mE) (d : Nat) (w S : mw) (hM : MM w S) (hV : VM S) : Ti E d m_M_wipe [vr 33] w (fun r w1 => r = (oWipe S).1 ∧ MM w1 (oWipe S).2 ∧ fr mRows w w1) := by
  have h1 := t_M_wipe E d (Nat.zero_le _) w
  rw [hM.2.1, (VM_len hV).1] at h1
  exact ⟨h1.1, Wp_mono (fun v w1 h => by obtain ⟨r, hr, h2, rfl⟩ := h; exact ⟨r, hr, h2, MM_f hM, fr_U (by decide)⟩) h1.2⟩
theorem t_M_forget2 (E : mE) (d : Nat) (w S : mw) (hM : MM w S) (hV : VM S) : Ti E d m_M_forget [vr 33] w (fun r w1 => r = (oForget S).1 ∧ MM w1 (oForget S).2 ∧ fr mRows w w1) := by
  have h1 := t_M_forget E d (Nat.zero_le _) w
  rw [hM.2.2.1] at h1
  exact ⟨h1.1, Wp_mono (fun v w1 h => by obtain ⟨r, hr, h2, rfl⟩ := h; exact ⟨r, hr, h2, MM_f hM, fr_U (by decide)⟩) h1.2⟩
set_option maxRecDepth 100000 in
set_option maxHeartbeats 4000000 in
theorem t_M_put (E : mE) (d : Nat) (hd : 2 ≤ d) (w : mw) (S : mw) (hM : MM w S) (k a v : Int32) : Ti E d m_M_put [vr 33, vi k, vi a, vi v] w (fun r w1 => r = (oPut S k a v).1 ∧ MM w1 (oPut S k a v).2 ∧ fr mRows w w1) := by
  refine ⟨Nat.le_of_ble_eq_true rfl, ?_⟩
  show Wp E d m_M_put 0 [lr 33, li k, li a, li v, lo] [] w _
  refine Wp_iload_n d_M_put_0 rfl ?_
  refine Wp_ivs_b (As := [vi k]) d_M_put_1 ln_M_157 mk_M_isNumber rfl rfl rfl (by omega) (t_M_isNumber E (d - 1) (by omega) w k) (fun g1 => ?_) (fun g1 => ?_)
  ·
    obtain ⟨k1, h_k1, rfl⟩ := nu_of g1
    refine Wp_if_eq d_M_put_4 (fun q => absurd q (by decide)) (fun _ => ?_)
    refine Wp_iload_n d_M_put_7 rfl ?_
    refine Wp_ivs_b (As := [vi a]) d_M_put_8 ln_M_151 mk_M_isTwo rfl rfl rfl (by omega) (t_M_isTwo E (d - 1) (by omega) w a) (fun g8 => ?_) (fun g8 => ?_)
    ·
      refine Wp_if_eq d_M_put_11 (fun q => absurd q (by decide)) (fun _ => ?_)
      refine Wp_iload_n d_M_put_14 rfl ?_
      refine Wp_i2l d_M_put_15 ?_
      refine Wp_lconst (x := 0) d_M_put_16 (by decide) ?_
      refine Wp_ldc2 (x := 99) d_M_put_17 kl_M_160 ?_
      refine Wp_ivs_b (As := [vl v.toInt64, vl 0, vl 99]) d_M_put_20 ln_M_88 mk_M_in rfl rfl rfl (by omega) (t_M_inI E (d - 1) w (x := v) (lo := 0) (hi := 99) (by decide) (by decide)) (fun g20 => ?_) (fun g20 => ?_)
      ·
        refine Wp_if_ne d_M_put_23 (fun _ => ?_) (fun q => absurd q (by decide))
        refine Wp_iload_n d_M_put_29 rfl ?_
        refine Wp_if_ne d_M_put_30 (fun h30 => ?_) (fun h30 => ?_)
        ·
          have g30 : a.toInt ≠ 0 := i_ne h30
          refine Wp_aload_n d_M_put_42 rfl ?_
          refine Wp_getr d_M_put_43 fd_M_31 rfl rfl rfl ?_
          refine Wp_iload_n d_M_put_46 rfl ?_
          refine Wp_ialdN (j := k1) d_M_put_47 rfl rfl rfl rfl (by omega) ?_
          refine Wp_eqi (x2 := S 41 k1) (congrFun (hM.r 41) _) ?_
          refine Wp_istore (ls2 := [lr 33, li (nI k1), li a, li v, li (S 41 k1)]) d_M_put_48 rfl rfl rfl ?_
          refine Wp_iload_n d_M_put_50 rfl ?_
          refine Wp_if_ne d_M_put_51 (fun _ => ?_) (fun q => absurd q h30)
          refine Wp_aload_n d_M_put_64 rfl ?_
          refine Wp_getr d_M_put_65 fd_M_31 rfl rfl rfl ?_
          refine Wp_iload_n d_M_put_68 rfl ?_
          refine Wp_iload_n d_M_put_69 rfl ?_
          refine Wp_iastN (j := k1) d_M_put_70 rfl rfl rfl rfl (by omega) ?_
          refine Wp_iload d_M_put_71 rfl ?_
          refine Wp_reti (ty := .int) d_M_put_73 rfl rfl ?_
          have e9 : oPut S (nI k1) a v = (S 41 k1, mU S 41 k1 v) := by unfold oPut; rw [if_neg (by have := ti (show k1 < 2147483648 by omega); omega), if_neg (by assumption), cl (by omega)]
          rw [e9]; exact ⟨rfl, MM_p hM (by decide), fr_U (by decide)⟩
        ·
          refine Wp_aload_n d_M_put_33 rfl ?_
          refine Wp_getr d_M_put_34 fd_M_28 rfl rfl rfl ?_
          refine Wp_iload_n d_M_put_37 rfl ?_
          refine Wp_ialdN (j := k1) d_M_put_38 rfl rfl rfl rfl (by omega) ?_
          refine Wp_eqi (x2 := S 40 k1) (congrFun (hM.r 40) _) ?_
          refine Wp_goto d_M_put_39 ?_
          refine Wp_istore (ls2 := [lr 33, li (nI k1), li a, li v, li (S 40 k1)]) d_M_put_48 rfl rfl rfl ?_
          refine Wp_iload_n d_M_put_50 rfl ?_
          refine Wp_if_ne d_M_put_51 (fun q => absurd h30 q) (fun _ => ?_)
          refine Wp_aload_n d_M_put_54 rfl ?_
          refine Wp_getr d_M_put_55 fd_M_28 rfl rfl rfl ?_
          refine Wp_iload_n d_M_put_58 rfl ?_
          refine Wp_iload_n d_M_put_59 rfl ?_
          refine Wp_iastN (j := k1) d_M_put_60 rfl rfl rfl rfl (by omega) ?_
          refine Wp_goto d_M_put_61 ?_
          refine Wp_iload d_M_put_71 rfl ?_
          refine Wp_reti (ty := .int) d_M_put_73 rfl rfl ?_
          have e9 : oPut S (nI k1) a v = (S 40 k1, mU S 40 k1 v) := by unfold oPut; rw [if_neg (by have := ti (show k1 < 2147483648 by omega); omega), if_pos (by assumption), cl (by omega)]
          rw [e9]; exact ⟨rfl, MM_p hM (by decide), fr_U (by decide)⟩
      ·
        refine Wp_if_ne d_M_put_23 (fun q => absurd q (by decide)) (fun _ => ?_)
        refine Wp_bipush (x := (-2)) d_M_put_26 (by decide) ?_
        refine Wp_reti (ty := .int) d_M_put_28 rfl rfl ?_
        have e9 : oPut S (nI k1) a v = (-2, S) := by unfold oPut; rw [if_pos (by omega)]
        rw [e9]; exact ⟨rfl, hM, fr_rf⟩
    ·
      refine Wp_if_eq d_M_put_11 (fun _ => ?_) (fun q => absurd (by decide) q)
      refine Wp_bipush (x := (-2)) d_M_put_26 (by decide) ?_
      refine Wp_reti (ty := .int) d_M_put_28 rfl rfl ?_
      have e9 : oPut S (nI k1) a v = (-2, S) := by unfold oPut; rw [if_pos (by omega)]
      rw [e9]; exact ⟨rfl, hM, fr_rf⟩
  ·
    refine Wp_if_eq d_M_put_4 (fun _ => ?_) (fun q => absurd (by decide) q)
    refine Wp_bipush (x := (-2)) d_M_put_26 (by decide) ?_
    refine Wp_reti (ty := .int) d_M_put_28 rfl rfl ?_
    have e9 : oPut S k a v = (-2, S) := by unfold oPut; rw [if_pos (by omega)]
    rw [e9]; exact ⟨rfl, hM, fr_rf⟩
set_option maxRecDepth 100000 in
set_option maxHeartbeats 4000000 in
theorem t_M_lie (E : mE) (d : Nat) (hd : 2 ≤ d) (w : mw) (S : mw) (hM : MM w S) (hV : VM S) (k v : Int32) : Ti E d m_M_lie [vr 33, vi k, vi v] w (fun r w1 => r = (oLie S k v).1 ∧ MM w1 (oLie S k v).2 ∧ fr mRows w w1) := by
  refine ⟨Nat.le_of_ble_eq_true rfl, ?_⟩
  show Wp E d m_M_lie 0 [lr 33, li k, li v, lo] [] w _
  refine Wp_iload_n d_M_lie_0 rfl ?_
  refine Wp_ivs_b (As := [vi k]) d_M_lie_1 ln_M_157 mk_M_isNumber rfl rfl rfl (by omega) (t_M_isNumber E (d - 1) (by omega) w k) (fun g1 => ?_) (fun g1 => ?_)
  ·
    obtain ⟨k1, h_k1, rfl⟩ := nu_of g1
    refine Wp_if_eq d_M_lie_4 (fun q => absurd q (by decide)) (fun _ => ?_)
    refine Wp_iload_n d_M_lie_7 rfl ?_
    refine Wp_i2l d_M_lie_8 ?_
    refine Wp_ldc2 (x := (-30)) d_M_lie_9 kl_M_162 ?_
    refine Wp_ldc2 (x := 30) d_M_lie_12 kl_M_164 ?_
    refine Wp_ivs_b (As := [vl v.toInt64, vl (-30), vl 30]) d_M_lie_15 ln_M_88 mk_M_in rfl rfl rfl (by omega) (t_M_inI E (d - 1) w (x := v) (lo := -30) (hi := 30) (by decide) (by decide)) (fun g15 => ?_) (fun g15 => ?_)
    ·
      refine Wp_if_ne d_M_lie_18 (fun _ => ?_) (fun q => absurd q (by decide))
      refine Wp_aload_n d_M_lie_25 rfl ?_
      refine Wp_getr d_M_lie_26 fd_M_34 rfl rfl rfl ?_
      refine Wp_iload_n d_M_lie_29 rfl ?_
      refine Wp_ialdN (j := k1) d_M_lie_30 rfl rfl rfl rfl (by omega) ?_
      refine Wp_eqi (x2 := S 42 k1) (congrFun (hM.r 42) _) ?_
      refine Wp_istore_n (ls2 := [lr 33, li (nI k1), li v, li (S 42 k1)]) d_M_lie_31 rfl rfl rfl ?_
      refine Wp_aload_n d_M_lie_32 rfl ?_
      refine Wp_getr d_M_lie_33 fd_M_34 rfl rfl rfl ?_
      refine Wp_iload_n d_M_lie_36 rfl ?_
      refine Wp_iload_n d_M_lie_37 rfl ?_
      refine Wp_iastN (j := k1) d_M_lie_38 rfl rfl rfl rfl (by omega) ?_
      refine Wp_iload_n d_M_lie_39 rfl ?_
      refine Wp_reti (ty := .int) d_M_lie_40 rfl rfl ?_
      have e9 : oLie S (nI k1) v = (S 42 k1, mU S 42 k1 v) := by unfold oLie; rw [if_neg (by have := ti (show k1 < 2147483648 by omega); omega), cl (by omega)]
      rw [e9]; exact ⟨rfl, MM_p hM (by decide), fr_U (by decide)⟩
    ·
      refine Wp_if_ne d_M_lie_18 (fun q => absurd q (by decide)) (fun _ => ?_)
      refine Wp_sipush (x := (-1002)) d_M_lie_21 (by decide) ?_
      refine Wp_reti (ty := .int) d_M_lie_24 rfl rfl ?_
      have e9 : oLie S (nI k1) v = (-1002, S) := by unfold oLie; rw [if_pos (by omega)]
      rw [e9]; exact ⟨rfl, hM, fr_rf⟩
  ·
    refine Wp_if_eq d_M_lie_4 (fun _ => ?_) (fun q => absurd (by decide) q)
    refine Wp_sipush (x := (-1002)) d_M_lie_21 (by decide) ?_
    refine Wp_reti (ty := .int) d_M_lie_24 rfl rfl ?_
    have e9 : oLie S k v = (-1002, S) := by unfold oLie; rw [if_pos (by omega)]
    rw [e9]; exact ⟨rfl, hM, fr_rf⟩
set_option maxRecDepth 100000 in
set_option maxHeartbeats 4000000 in
theorem t_M_set (E : mE) (d : Nat) (hd : 1 ≤ d) (w : mw) (S : mw) (hM : MM w S) (hV : VM S) (a v : Int32) : Ti E d m_M_set [vr 33, vi a, vi v] w (fun r w1 => r = (oSet S a v).1 ∧ MM w1 (oSet S a v).2 ∧ fr mRows w w1) := by
  refine ⟨Nat.le_of_ble_eq_true rfl, ?_⟩
  show Wp E d m_M_set 0 [lr 33, li a, li v, lo, lo, lo] [] w _
  by_cases ha : 0 ≤ a.toInt ∧ a.toInt ≤ 3
  · rcases four ha with rfl | rfl | rfl | rfl
    ·
      refine Wp_iload_n d_M_set_0 rfl ?_
      refine Wp_if_ne d_M_set_1 (fun q => absurd q (by decide)) (fun _ => ?_)
      refine Wp_iconst (x := 1) d_M_set_4 (by decide) ?_
      refine Wp_goto d_M_set_5 ?_
      refine Wp_istore_n (ls2 := [lr 33, li 0, li v, li 1, lo, lo]) d_M_set_9 rfl rfl rfl ?_
      refine Wp_iload_n d_M_set_10 rfl ?_
      refine Wp_if_ne d_M_set_11 (fun q => absurd q (by decide)) (fun _ => ?_)
      refine Wp_iconst (x := 4) d_M_set_14 (by decide) ?_
      refine Wp_goto d_M_set_15 ?_
      refine Wp_istore (ls2 := [lr 33, li 0, li v, li 1, li 4, lo]) d_M_set_39 rfl rfl rfl ?_
      refine Wp_iload_n d_M_set_41 rfl ?_
      refine Wp_i2l d_M_set_42 ?_
      refine Wp_eql (x2 := 0) (by decide) ?_
      refine Wp_lconst (x := 0) d_M_set_43 (by decide) ?_
      refine Wp_ldc2 (x := 3) d_M_set_44 kl_M_96 ?_
      refine Wp_ivs_b (As := [vl 0, vl 0, vl 3]) d_M_set_47 ln_M_88 mk_M_in rfl rfl rfl (by omega) (t_M_in E (d - 1) (Nat.zero_le _) w 0 0 3) (fun g47 => ?_) (fun g47 => ?_)
      ·
        refine Wp_if_eq d_M_set_50 (fun q => absurd q (by decide)) (fun _ => ?_)
        refine Wp_iload_n d_M_set_53 rfl ?_
        refine Wp_i2l d_M_set_54 ?_
        refine Wp_iload_n d_M_set_55 rfl ?_
        refine Wp_i2l d_M_set_56 ?_
        refine Wp_eql (x2 := 1) (by decide) ?_
        refine Wp_iload d_M_set_57 rfl ?_
        refine Wp_i2l d_M_set_59 ?_
        refine Wp_eql (x2 := 4) (by decide) ?_
        refine Wp_ivs_b (As := [vl v.toInt64, vl 1, vl 4]) d_M_set_60 ln_M_88 mk_M_in rfl rfl rfl (by omega) (t_M_inI E (d - 1) w (x := v) (lo := 1) (hi := 4) (by decide) (by decide)) (fun g60 => ?_) (fun g60 => ?_)
        ·
          refine Wp_if_ne d_M_set_63 (fun _ => ?_) (fun q => absurd q (by decide))
          refine Wp_aload_n d_M_set_69 rfl ?_
          refine Wp_getr d_M_set_70 fd_M_37 rfl rfl rfl ?_
          refine Wp_iload_n d_M_set_73 rfl ?_
          refine Wp_ialdN (j := 0) d_M_set_74 rfl rfl rfl rfl (by decide) ?_
          refine Wp_eqi (x2 := S 43 0) (congrFun (hM.r 43) _) ?_
          refine Wp_istore (ls2 := [lr 33, li 0, li v, li 1, li 4, li (S 43 0)]) d_M_set_75 rfl rfl rfl ?_
          refine Wp_aload_n d_M_set_77 rfl ?_
          refine Wp_getr d_M_set_78 fd_M_37 rfl rfl rfl ?_
          refine Wp_iload_n d_M_set_81 rfl ?_
          refine Wp_iload_n d_M_set_82 rfl ?_
          refine Wp_iastN (j := 0) d_M_set_83 rfl rfl rfl rfl (by decide) ?_
          refine Wp_iload d_M_set_84 rfl ?_
          refine Wp_reti (ty := .int) d_M_set_86 rfl rfl ?_
          have e9 : oSet S 0 v = (S 43 0, mU S 43 0 v) := if_neg (fun q => q.elim (fun q => q (by decide)) (fun q => q g60))
          rw [e9]; exact ⟨rfl, MM_p hM (by decide), fr_U (by decide)⟩
        ·
          refine Wp_if_ne d_M_set_63 (fun q => absurd q (by decide)) (fun _ => ?_)
          refine Wp_bipush (x := (-2)) d_M_set_66 (by decide) ?_
          refine Wp_reti (ty := .int) d_M_set_68 rfl rfl ?_
          have e9 : oSet S 0 v = (-2, S) := if_pos (Or.inr g60)
          rw [e9]; exact ⟨rfl, hM, fr_rf⟩
      ·
        exact absurd (by decide) g47
    ·
      refine Wp_iload_n d_M_set_0 rfl ?_
      refine Wp_if_ne d_M_set_1 (fun _ => ?_) (fun q => absurd q (by decide))
      refine Wp_iconst (x := 0) d_M_set_8 (by decide) ?_
      refine Wp_istore_n (ls2 := [lr 33, li 1, li v, li 0, lo, lo]) d_M_set_9 rfl rfl rfl ?_
      refine Wp_iload_n d_M_set_10 rfl ?_
      refine Wp_if_ne d_M_set_11 (fun _ => ?_) (fun q => absurd q (by decide))
      refine Wp_iload_n d_M_set_18 rfl ?_
      refine Wp_iconst (x := 1) d_M_set_19 (by decide) ?_
      refine Wp_icmp_ne d_M_set_20 (fun q => absurd q (by decide)) (fun _ => ?_)
      refine Wp_iconst (x := 2) d_M_set_23 (by decide) ?_
      refine Wp_goto d_M_set_24 ?_
      refine Wp_istore (ls2 := [lr 33, li 1, li v, li 0, li 2, lo]) d_M_set_39 rfl rfl rfl ?_
      refine Wp_iload_n d_M_set_41 rfl ?_
      refine Wp_i2l d_M_set_42 ?_
      refine Wp_eql (x2 := 1) (by decide) ?_
      refine Wp_lconst (x := 0) d_M_set_43 (by decide) ?_
      refine Wp_ldc2 (x := 3) d_M_set_44 kl_M_96 ?_
      refine Wp_ivs_b (As := [vl 1, vl 0, vl 3]) d_M_set_47 ln_M_88 mk_M_in rfl rfl rfl (by omega) (t_M_in E (d - 1) (Nat.zero_le _) w 1 0 3) (fun g47 => ?_) (fun g47 => ?_)
      ·
        refine Wp_if_eq d_M_set_50 (fun q => absurd q (by decide)) (fun _ => ?_)
        refine Wp_iload_n d_M_set_53 rfl ?_
        refine Wp_i2l d_M_set_54 ?_
        refine Wp_iload_n d_M_set_55 rfl ?_
        refine Wp_i2l d_M_set_56 ?_
        refine Wp_eql (x2 := 0) (by decide) ?_
        refine Wp_iload d_M_set_57 rfl ?_
        refine Wp_i2l d_M_set_59 ?_
        refine Wp_eql (x2 := 2) (by decide) ?_
        refine Wp_ivs_b (As := [vl v.toInt64, vl 0, vl 2]) d_M_set_60 ln_M_88 mk_M_in rfl rfl rfl (by omega) (t_M_inI E (d - 1) w (x := v) (lo := 0) (hi := 2) (by decide) (by decide)) (fun g60 => ?_) (fun g60 => ?_)
        ·
          refine Wp_if_ne d_M_set_63 (fun _ => ?_) (fun q => absurd q (by decide))
          refine Wp_aload_n d_M_set_69 rfl ?_
          refine Wp_getr d_M_set_70 fd_M_37 rfl rfl rfl ?_
          refine Wp_iload_n d_M_set_73 rfl ?_
          refine Wp_ialdN (j := 1) d_M_set_74 rfl rfl rfl rfl (by decide) ?_
          refine Wp_eqi (x2 := S 43 1) (congrFun (hM.r 43) _) ?_
          refine Wp_istore (ls2 := [lr 33, li 1, li v, li 0, li 2, li (S 43 1)]) d_M_set_75 rfl rfl rfl ?_
          refine Wp_aload_n d_M_set_77 rfl ?_
          refine Wp_getr d_M_set_78 fd_M_37 rfl rfl rfl ?_
          refine Wp_iload_n d_M_set_81 rfl ?_
          refine Wp_iload_n d_M_set_82 rfl ?_
          refine Wp_iastN (j := 1) d_M_set_83 rfl rfl rfl rfl (by decide) ?_
          refine Wp_iload d_M_set_84 rfl ?_
          refine Wp_reti (ty := .int) d_M_set_86 rfl rfl ?_
          have e9 : oSet S 1 v = (S 43 1, mU S 43 1 v) := if_neg (fun q => q.elim (fun q => q (by decide)) (fun q => q g60))
          rw [e9]; exact ⟨rfl, MM_p hM (by decide), fr_U (by decide)⟩
        ·
          refine Wp_if_ne d_M_set_63 (fun q => absurd q (by decide)) (fun _ => ?_)
          refine Wp_bipush (x := (-2)) d_M_set_66 (by decide) ?_
          refine Wp_reti (ty := .int) d_M_set_68 rfl rfl ?_
          have e9 : oSet S 1 v = (-2, S) := if_pos (Or.inr g60)
          rw [e9]; exact ⟨rfl, hM, fr_rf⟩
      ·
        exact absurd (by decide) g47
    ·
      refine Wp_iload_n d_M_set_0 rfl ?_
      refine Wp_if_ne d_M_set_1 (fun _ => ?_) (fun q => absurd q (by decide))
      refine Wp_iconst (x := 0) d_M_set_8 (by decide) ?_
      refine Wp_istore_n (ls2 := [lr 33, li 2, li v, li 0, lo, lo]) d_M_set_9 rfl rfl rfl ?_
      refine Wp_iload_n d_M_set_10 rfl ?_
      refine Wp_if_ne d_M_set_11 (fun _ => ?_) (fun q => absurd q (by decide))
      refine Wp_iload_n d_M_set_18 rfl ?_
      refine Wp_iconst (x := 1) d_M_set_19 (by decide) ?_
      refine Wp_icmp_ne d_M_set_20 (fun _ => ?_) (fun q => absurd q (by decide))
      refine Wp_iload_n d_M_set_27 rfl ?_
      refine Wp_iconst (x := 2) d_M_set_28 (by decide) ?_
      refine Wp_icmp_ne d_M_set_29 (fun q => absurd q (by decide)) (fun _ => ?_)
      refine Wp_bipush (x := 99) d_M_set_32 (by decide) ?_
      refine Wp_goto d_M_set_34 ?_
      refine Wp_istore (ls2 := [lr 33, li 2, li v, li 0, li 99, lo]) d_M_set_39 rfl rfl rfl ?_
      refine Wp_iload_n d_M_set_41 rfl ?_
      refine Wp_i2l d_M_set_42 ?_
      refine Wp_eql (x2 := 2) (by decide) ?_
      refine Wp_lconst (x := 0) d_M_set_43 (by decide) ?_
      refine Wp_ldc2 (x := 3) d_M_set_44 kl_M_96 ?_
      refine Wp_ivs_b (As := [vl 2, vl 0, vl 3]) d_M_set_47 ln_M_88 mk_M_in rfl rfl rfl (by omega) (t_M_in E (d - 1) (Nat.zero_le _) w 2 0 3) (fun g47 => ?_) (fun g47 => ?_)
      ·
        refine Wp_if_eq d_M_set_50 (fun q => absurd q (by decide)) (fun _ => ?_)
        refine Wp_iload_n d_M_set_53 rfl ?_
        refine Wp_i2l d_M_set_54 ?_
        refine Wp_iload_n d_M_set_55 rfl ?_
        refine Wp_i2l d_M_set_56 ?_
        refine Wp_eql (x2 := 0) (by decide) ?_
        refine Wp_iload d_M_set_57 rfl ?_
        refine Wp_i2l d_M_set_59 ?_
        refine Wp_eql (x2 := 99) (by decide) ?_
        refine Wp_ivs_b (As := [vl v.toInt64, vl 0, vl 99]) d_M_set_60 ln_M_88 mk_M_in rfl rfl rfl (by omega) (t_M_inI E (d - 1) w (x := v) (lo := 0) (hi := 99) (by decide) (by decide)) (fun g60 => ?_) (fun g60 => ?_)
        ·
          refine Wp_if_ne d_M_set_63 (fun _ => ?_) (fun q => absurd q (by decide))
          refine Wp_aload_n d_M_set_69 rfl ?_
          refine Wp_getr d_M_set_70 fd_M_37 rfl rfl rfl ?_
          refine Wp_iload_n d_M_set_73 rfl ?_
          refine Wp_ialdN (j := 2) d_M_set_74 rfl rfl rfl rfl (by decide) ?_
          refine Wp_eqi (x2 := S 43 2) (congrFun (hM.r 43) _) ?_
          refine Wp_istore (ls2 := [lr 33, li 2, li v, li 0, li 99, li (S 43 2)]) d_M_set_75 rfl rfl rfl ?_
          refine Wp_aload_n d_M_set_77 rfl ?_
          refine Wp_getr d_M_set_78 fd_M_37 rfl rfl rfl ?_
          refine Wp_iload_n d_M_set_81 rfl ?_
          refine Wp_iload_n d_M_set_82 rfl ?_
          refine Wp_iastN (j := 2) d_M_set_83 rfl rfl rfl rfl (by decide) ?_
          refine Wp_iload d_M_set_84 rfl ?_
          refine Wp_reti (ty := .int) d_M_set_86 rfl rfl ?_
          have e9 : oSet S 2 v = (S 43 2, mU S 43 2 v) := if_neg (fun q => q.elim (fun q => q (by decide)) (fun q => q g60))
          rw [e9]; exact ⟨rfl, MM_p hM (by decide), fr_U (by decide)⟩
        ·
          refine Wp_if_ne d_M_set_63 (fun q => absurd q (by decide)) (fun _ => ?_)
          refine Wp_bipush (x := (-2)) d_M_set_66 (by decide) ?_
          refine Wp_reti (ty := .int) d_M_set_68 rfl rfl ?_
          have e9 : oSet S 2 v = (-2, S) := if_pos (Or.inr g60)
          rw [e9]; exact ⟨rfl, hM, fr_rf⟩
      ·
        exact absurd (by decide) g47
    ·
      refine Wp_iload_n d_M_set_0 rfl ?_
      refine Wp_if_ne d_M_set_1 (fun _ => ?_) (fun q => absurd q (by decide))
      refine Wp_iconst (x := 0) d_M_set_8 (by decide) ?_
      refine Wp_istore_n (ls2 := [lr 33, li 3, li v, li 0, lo, lo]) d_M_set_9 rfl rfl rfl ?_
      refine Wp_iload_n d_M_set_10 rfl ?_
      refine Wp_if_ne d_M_set_11 (fun _ => ?_) (fun q => absurd q (by decide))
      refine Wp_iload_n d_M_set_18 rfl ?_
      refine Wp_iconst (x := 1) d_M_set_19 (by decide) ?_
      refine Wp_icmp_ne d_M_set_20 (fun _ => ?_) (fun q => absurd q (by decide))
      refine Wp_iload_n d_M_set_27 rfl ?_
      refine Wp_iconst (x := 2) d_M_set_28 (by decide) ?_
      refine Wp_icmp_ne d_M_set_29 (fun _ => ?_) (fun q => absurd q (by decide))
      refine Wp_bipush (x := 9) d_M_set_37 (by decide) ?_
      refine Wp_istore (ls2 := [lr 33, li 3, li v, li 0, li 9, lo]) d_M_set_39 rfl rfl rfl ?_
      refine Wp_iload_n d_M_set_41 rfl ?_
      refine Wp_i2l d_M_set_42 ?_
      refine Wp_eql (x2 := 3) (by decide) ?_
      refine Wp_lconst (x := 0) d_M_set_43 (by decide) ?_
      refine Wp_ldc2 (x := 3) d_M_set_44 kl_M_96 ?_
      refine Wp_ivs_b (As := [vl 3, vl 0, vl 3]) d_M_set_47 ln_M_88 mk_M_in rfl rfl rfl (by omega) (t_M_in E (d - 1) (Nat.zero_le _) w 3 0 3) (fun g47 => ?_) (fun g47 => ?_)
      ·
        refine Wp_if_eq d_M_set_50 (fun q => absurd q (by decide)) (fun _ => ?_)
        refine Wp_iload_n d_M_set_53 rfl ?_
        refine Wp_i2l d_M_set_54 ?_
        refine Wp_iload_n d_M_set_55 rfl ?_
        refine Wp_i2l d_M_set_56 ?_
        refine Wp_eql (x2 := 0) (by decide) ?_
        refine Wp_iload d_M_set_57 rfl ?_
        refine Wp_i2l d_M_set_59 ?_
        refine Wp_eql (x2 := 9) (by decide) ?_
        refine Wp_ivs_b (As := [vl v.toInt64, vl 0, vl 9]) d_M_set_60 ln_M_88 mk_M_in rfl rfl rfl (by omega) (t_M_inI E (d - 1) w (x := v) (lo := 0) (hi := 9) (by decide) (by decide)) (fun g60 => ?_) (fun g60 => ?_)
        ·
          refine Wp_if_ne d_M_set_63 (fun _ => ?_) (fun q => absurd q (by decide))
          refine Wp_aload_n d_M_set_69 rfl ?_
          refine Wp_getr d_M_set_70 fd_M_37 rfl rfl rfl ?_
          refine Wp_iload_n d_M_set_73 rfl ?_
          refine Wp_ialdN (j := 3) d_M_set_74 rfl rfl rfl rfl (by decide) ?_
          refine Wp_eqi (x2 := S 43 3) (congrFun (hM.r 43) _) ?_
          refine Wp_istore (ls2 := [lr 33, li 3, li v, li 0, li 9, li (S 43 3)]) d_M_set_75 rfl rfl rfl ?_
          refine Wp_aload_n d_M_set_77 rfl ?_
          refine Wp_getr d_M_set_78 fd_M_37 rfl rfl rfl ?_
          refine Wp_iload_n d_M_set_81 rfl ?_
          refine Wp_iload_n d_M_set_82 rfl ?_
          refine Wp_iastN (j := 3) d_M_set_83 rfl rfl rfl rfl (by decide) ?_
          refine Wp_iload d_M_set_84 rfl ?_
          refine Wp_reti (ty := .int) d_M_set_86 rfl rfl ?_
          have e9 : oSet S 3 v = (S 43 3, mU S 43 3 v) := if_neg (fun q => q.elim (fun q => q (by decide)) (fun q => q g60))
          rw [e9]; exact ⟨rfl, MM_p hM (by decide), fr_U (by decide)⟩
        ·
          refine Wp_if_ne d_M_set_63 (fun q => absurd q (by decide)) (fun _ => ?_)
          refine Wp_bipush (x := (-2)) d_M_set_66 (by decide) ?_
          refine Wp_reti (ty := .int) d_M_set_68 rfl rfl ?_
          have e9 : oSet S 3 v = (-2, S) := if_pos (Or.inr g60)
          rw [e9]; exact ⟨rfl, hM, fr_rf⟩
      ·
        exact absurd (by decide) g47
  ·
    refine Wp_iload_n d_M_set_0 rfl ?_
    refine Wp_if_ne d_M_set_1 (fun h1 => ?_) (fun h1 => ?_)
    ·
      have g1 : a.toInt ≠ 0 := i_ne h1
      refine Wp_iconst (x := 0) d_M_set_8 (by decide) ?_
      refine Wp_istore_n (ls2 := [lr 33, li a, li v, li 0, lo, lo]) d_M_set_9 rfl rfl rfl ?_
      refine Wp_iload_n d_M_set_10 rfl ?_
      refine Wp_if_ne d_M_set_11 (fun _ => ?_) (fun q => absurd q h1)
      refine Wp_iload_n d_M_set_18 rfl ?_
      refine Wp_iconst (x := 1) d_M_set_19 (by decide) ?_
      refine Wp_icmp_ne d_M_set_20 (fun h20 => ?_) (fun h20 => ?_)
      ·
        have g20 : a.toInt ≠ 1 := i_ne h20
        refine Wp_iload_n d_M_set_27 rfl ?_
        refine Wp_iconst (x := 2) d_M_set_28 (by decide) ?_
        refine Wp_icmp_ne d_M_set_29 (fun h29 => ?_) (fun h29 => ?_)
        ·
          have g29 : a.toInt ≠ 2 := i_ne h29
          refine Wp_bipush (x := 9) d_M_set_37 (by decide) ?_
          refine Wp_istore (ls2 := [lr 33, li a, li v, li 0, li 9, lo]) d_M_set_39 rfl rfl rfl ?_
          refine Wp_iload_n d_M_set_41 rfl ?_
          refine Wp_i2l d_M_set_42 ?_
          refine Wp_lconst (x := 0) d_M_set_43 (by decide) ?_
          refine Wp_ldc2 (x := 3) d_M_set_44 kl_M_96 ?_
          refine Wp_ivs_b (As := [vl a.toInt64, vl 0, vl 3]) d_M_set_47 ln_M_88 mk_M_in rfl rfl rfl (by omega) (t_M_inI E (d - 1) w (x := a) (lo := 0) (hi := 3) (by decide) (by decide)) (fun g47 => ?_) (fun g47 => ?_)
          ·
            refine Wp_if_eq d_M_set_50 (fun q => absurd q (by decide)) (fun _ => ?_)
            refine Wp_iload_n d_M_set_53 rfl ?_
            refine Wp_i2l d_M_set_54 ?_
            refine Wp_iload_n d_M_set_55 rfl ?_
            refine Wp_i2l d_M_set_56 ?_
            refine Wp_eql (x2 := 0) (by decide) ?_
            refine Wp_iload d_M_set_57 rfl ?_
            refine Wp_i2l d_M_set_59 ?_
            refine Wp_eql (x2 := 9) (by decide) ?_
            refine Wp_ivs_b (As := [vl v.toInt64, vl 0, vl 9]) d_M_set_60 ln_M_88 mk_M_in rfl rfl rfl (by omega) (t_M_inI E (d - 1) w (x := v) (lo := 0) (hi := 9) (by decide) (by decide)) (fun g60 => ?_) (fun g60 => ?_)
            ·
              refine Wp_if_ne d_M_set_63 (fun _ => ?_) (fun q => absurd q (by decide))
              refine Wp_aload_n d_M_set_69 rfl ?_
              refine Wp_getr d_M_set_70 fd_M_37 rfl rfl rfl ?_
              refine Wp_iload_n d_M_set_73 rfl ?_
              refine Wp_ialdN (j := 0) d_M_set_74 rfl rfl rfl (absurd (by assumption) ha) (absurd (by assumption) ha) ?_
              refine Wp_eqi (x2 := S 43 0) (congrFun (hM.r 43) _) ?_
              refine Wp_istore (ls2 := [lr 33, li a, li v, li 0, li 9, li (S 43 0)]) d_M_set_75 rfl rfl rfl ?_
              refine Wp_aload_n d_M_set_77 rfl ?_
              refine Wp_getr d_M_set_78 fd_M_37 rfl rfl rfl ?_
              refine Wp_iload_n d_M_set_81 rfl ?_
              refine Wp_iload_n d_M_set_82 rfl ?_
              refine Wp_iastN (j := 0) d_M_set_83 rfl rfl rfl (absurd (by assumption) ha) (absurd (by assumption) ha) ?_
              refine Wp_iload d_M_set_84 rfl ?_
              refine Wp_reti (ty := .int) d_M_set_86 rfl rfl ?_
              exact absurd (by assumption) ha
            ·
              refine Wp_if_ne d_M_set_63 (fun q => absurd q (by decide)) (fun _ => ?_)
              refine Wp_bipush (x := (-2)) d_M_set_66 (by decide) ?_
              refine Wp_reti (ty := .int) d_M_set_68 rfl rfl ?_
              have e9 : oSet S a v = (-2, S) := by unfold oSet; rw [if_pos (Or.inl ha)]
              rw [e9]; exact ⟨rfl, hM, fr_rf⟩
          ·
            refine Wp_if_eq d_M_set_50 (fun _ => ?_) (fun q => absurd (by decide) q)
            refine Wp_bipush (x := (-2)) d_M_set_66 (by decide) ?_
            refine Wp_reti (ty := .int) d_M_set_68 rfl rfl ?_
            have e9 : oSet S a v = (-2, S) := by unfold oSet; rw [if_pos (Or.inl ha)]
            rw [e9]; exact ⟨rfl, hM, fr_rf⟩
        ·
          refine Wp_bipush (x := 99) d_M_set_32 (by decide) ?_
          refine Wp_goto d_M_set_34 ?_
          refine Wp_istore (ls2 := [lr 33, li a, li v, li 0, li 99, lo]) d_M_set_39 rfl rfl rfl ?_
          refine Wp_iload_n d_M_set_41 rfl ?_
          refine Wp_i2l d_M_set_42 ?_
          refine Wp_lconst (x := 0) d_M_set_43 (by decide) ?_
          refine Wp_ldc2 (x := 3) d_M_set_44 kl_M_96 ?_
          refine Wp_ivs_b (As := [vl a.toInt64, vl 0, vl 3]) d_M_set_47 ln_M_88 mk_M_in rfl rfl rfl (by omega) (t_M_inI E (d - 1) w (x := a) (lo := 0) (hi := 3) (by decide) (by decide)) (fun g47 => ?_) (fun g47 => ?_)
          ·
            refine Wp_if_eq d_M_set_50 (fun q => absurd q (by decide)) (fun _ => ?_)
            refine Wp_iload_n d_M_set_53 rfl ?_
            refine Wp_i2l d_M_set_54 ?_
            refine Wp_iload_n d_M_set_55 rfl ?_
            refine Wp_i2l d_M_set_56 ?_
            refine Wp_eql (x2 := 0) (by decide) ?_
            refine Wp_iload d_M_set_57 rfl ?_
            refine Wp_i2l d_M_set_59 ?_
            refine Wp_eql (x2 := 99) (by decide) ?_
            refine Wp_ivs_b (As := [vl v.toInt64, vl 0, vl 99]) d_M_set_60 ln_M_88 mk_M_in rfl rfl rfl (by omega) (t_M_inI E (d - 1) w (x := v) (lo := 0) (hi := 99) (by decide) (by decide)) (fun g60 => ?_) (fun g60 => ?_)
            ·
              refine Wp_if_ne d_M_set_63 (fun _ => ?_) (fun q => absurd q (by decide))
              refine Wp_aload_n d_M_set_69 rfl ?_
              refine Wp_getr d_M_set_70 fd_M_37 rfl rfl rfl ?_
              refine Wp_iload_n d_M_set_73 rfl ?_
              refine Wp_ialdN (j := 0) d_M_set_74 rfl rfl rfl (absurd (by assumption) ha) (absurd (by assumption) ha) ?_
              refine Wp_eqi (x2 := S 43 0) (congrFun (hM.r 43) _) ?_
              refine Wp_istore (ls2 := [lr 33, li a, li v, li 0, li 99, li (S 43 0)]) d_M_set_75 rfl rfl rfl ?_
              refine Wp_aload_n d_M_set_77 rfl ?_
              refine Wp_getr d_M_set_78 fd_M_37 rfl rfl rfl ?_
              refine Wp_iload_n d_M_set_81 rfl ?_
              refine Wp_iload_n d_M_set_82 rfl ?_
              refine Wp_iastN (j := 0) d_M_set_83 rfl rfl rfl (absurd (by assumption) ha) (absurd (by assumption) ha) ?_
              refine Wp_iload d_M_set_84 rfl ?_
              refine Wp_reti (ty := .int) d_M_set_86 rfl rfl ?_
              exact absurd (by assumption) ha
            ·
              refine Wp_if_ne d_M_set_63 (fun q => absurd q (by decide)) (fun _ => ?_)
              refine Wp_bipush (x := (-2)) d_M_set_66 (by decide) ?_
              refine Wp_reti (ty := .int) d_M_set_68 rfl rfl ?_
              have e9 : oSet S a v = (-2, S) := by unfold oSet; rw [if_pos (Or.inl ha)]
              rw [e9]; exact ⟨rfl, hM, fr_rf⟩
          ·
            refine Wp_if_eq d_M_set_50 (fun _ => ?_) (fun q => absurd (by decide) q)
            refine Wp_bipush (x := (-2)) d_M_set_66 (by decide) ?_
            refine Wp_reti (ty := .int) d_M_set_68 rfl rfl ?_
            have e9 : oSet S a v = (-2, S) := by unfold oSet; rw [if_pos (Or.inl ha)]
            rw [e9]; exact ⟨rfl, hM, fr_rf⟩
      ·
        refine Wp_iconst (x := 2) d_M_set_23 (by decide) ?_
        refine Wp_goto d_M_set_24 ?_
        refine Wp_istore (ls2 := [lr 33, li a, li v, li 0, li 2, lo]) d_M_set_39 rfl rfl rfl ?_
        refine Wp_iload_n d_M_set_41 rfl ?_
        refine Wp_i2l d_M_set_42 ?_
        refine Wp_lconst (x := 0) d_M_set_43 (by decide) ?_
        refine Wp_ldc2 (x := 3) d_M_set_44 kl_M_96 ?_
        refine Wp_ivs_b (As := [vl a.toInt64, vl 0, vl 3]) d_M_set_47 ln_M_88 mk_M_in rfl rfl rfl (by omega) (t_M_inI E (d - 1) w (x := a) (lo := 0) (hi := 3) (by decide) (by decide)) (fun g47 => ?_) (fun g47 => ?_)
        ·
          refine Wp_if_eq d_M_set_50 (fun q => absurd q (by decide)) (fun _ => ?_)
          refine Wp_iload_n d_M_set_53 rfl ?_
          refine Wp_i2l d_M_set_54 ?_
          refine Wp_iload_n d_M_set_55 rfl ?_
          refine Wp_i2l d_M_set_56 ?_
          refine Wp_eql (x2 := 0) (by decide) ?_
          refine Wp_iload d_M_set_57 rfl ?_
          refine Wp_i2l d_M_set_59 ?_
          refine Wp_eql (x2 := 2) (by decide) ?_
          refine Wp_ivs_b (As := [vl v.toInt64, vl 0, vl 2]) d_M_set_60 ln_M_88 mk_M_in rfl rfl rfl (by omega) (t_M_inI E (d - 1) w (x := v) (lo := 0) (hi := 2) (by decide) (by decide)) (fun g60 => ?_) (fun g60 => ?_)
          ·
            refine Wp_if_ne d_M_set_63 (fun _ => ?_) (fun q => absurd q (by decide))
            refine Wp_aload_n d_M_set_69 rfl ?_
            refine Wp_getr d_M_set_70 fd_M_37 rfl rfl rfl ?_
            refine Wp_iload_n d_M_set_73 rfl ?_
            refine Wp_ialdN (j := 0) d_M_set_74 rfl rfl rfl (absurd (by assumption) ha) (absurd (by assumption) ha) ?_
            refine Wp_eqi (x2 := S 43 0) (congrFun (hM.r 43) _) ?_
            refine Wp_istore (ls2 := [lr 33, li a, li v, li 0, li 2, li (S 43 0)]) d_M_set_75 rfl rfl rfl ?_
            refine Wp_aload_n d_M_set_77 rfl ?_
            refine Wp_getr d_M_set_78 fd_M_37 rfl rfl rfl ?_
            refine Wp_iload_n d_M_set_81 rfl ?_
            refine Wp_iload_n d_M_set_82 rfl ?_
            refine Wp_iastN (j := 0) d_M_set_83 rfl rfl rfl (absurd (by assumption) ha) (absurd (by assumption) ha) ?_
            refine Wp_iload d_M_set_84 rfl ?_
            refine Wp_reti (ty := .int) d_M_set_86 rfl rfl ?_
            exact absurd (by assumption) ha
          ·
            refine Wp_if_ne d_M_set_63 (fun q => absurd q (by decide)) (fun _ => ?_)
            refine Wp_bipush (x := (-2)) d_M_set_66 (by decide) ?_
            refine Wp_reti (ty := .int) d_M_set_68 rfl rfl ?_
            have e9 : oSet S a v = (-2, S) := by unfold oSet; rw [if_pos (Or.inl ha)]
            rw [e9]; exact ⟨rfl, hM, fr_rf⟩
        ·
          refine Wp_if_eq d_M_set_50 (fun _ => ?_) (fun q => absurd (by decide) q)
          refine Wp_bipush (x := (-2)) d_M_set_66 (by decide) ?_
          refine Wp_reti (ty := .int) d_M_set_68 rfl rfl ?_
          have e9 : oSet S a v = (-2, S) := by unfold oSet; rw [if_pos (Or.inl ha)]
          rw [e9]; exact ⟨rfl, hM, fr_rf⟩
    ·
      refine Wp_iconst (x := 1) d_M_set_4 (by decide) ?_
      refine Wp_goto d_M_set_5 ?_
      refine Wp_istore_n (ls2 := [lr 33, li a, li v, li 1, lo, lo]) d_M_set_9 rfl rfl rfl ?_
      refine Wp_iload_n d_M_set_10 rfl ?_
      refine Wp_if_ne d_M_set_11 (fun q => absurd h1 q) (fun _ => ?_)
      refine Wp_iconst (x := 4) d_M_set_14 (by decide) ?_
      refine Wp_goto d_M_set_15 ?_
      refine Wp_istore (ls2 := [lr 33, li a, li v, li 1, li 4, lo]) d_M_set_39 rfl rfl rfl ?_
      refine Wp_iload_n d_M_set_41 rfl ?_
      refine Wp_i2l d_M_set_42 ?_
      refine Wp_lconst (x := 0) d_M_set_43 (by decide) ?_
      refine Wp_ldc2 (x := 3) d_M_set_44 kl_M_96 ?_
      refine Wp_ivs_b (As := [vl a.toInt64, vl 0, vl 3]) d_M_set_47 ln_M_88 mk_M_in rfl rfl rfl (by omega) (t_M_inI E (d - 1) w (x := a) (lo := 0) (hi := 3) (by decide) (by decide)) (fun g47 => ?_) (fun g47 => ?_)
      ·
        refine Wp_if_eq d_M_set_50 (fun q => absurd q (by decide)) (fun _ => ?_)
        refine Wp_iload_n d_M_set_53 rfl ?_
        refine Wp_i2l d_M_set_54 ?_
        refine Wp_iload_n d_M_set_55 rfl ?_
        refine Wp_i2l d_M_set_56 ?_
        refine Wp_eql (x2 := 1) (by decide) ?_
        refine Wp_iload d_M_set_57 rfl ?_
        refine Wp_i2l d_M_set_59 ?_
        refine Wp_eql (x2 := 4) (by decide) ?_
        refine Wp_ivs_b (As := [vl v.toInt64, vl 1, vl 4]) d_M_set_60 ln_M_88 mk_M_in rfl rfl rfl (by omega) (t_M_inI E (d - 1) w (x := v) (lo := 1) (hi := 4) (by decide) (by decide)) (fun g60 => ?_) (fun g60 => ?_)
        ·
          refine Wp_if_ne d_M_set_63 (fun _ => ?_) (fun q => absurd q (by decide))
          refine Wp_aload_n d_M_set_69 rfl ?_
          refine Wp_getr d_M_set_70 fd_M_37 rfl rfl rfl ?_
          refine Wp_iload_n d_M_set_73 rfl ?_
          refine Wp_ialdN (j := 0) d_M_set_74 rfl rfl rfl (absurd (by assumption) ha) (absurd (by assumption) ha) ?_
          refine Wp_eqi (x2 := S 43 0) (congrFun (hM.r 43) _) ?_
          refine Wp_istore (ls2 := [lr 33, li a, li v, li 1, li 4, li (S 43 0)]) d_M_set_75 rfl rfl rfl ?_
          refine Wp_aload_n d_M_set_77 rfl ?_
          refine Wp_getr d_M_set_78 fd_M_37 rfl rfl rfl ?_
          refine Wp_iload_n d_M_set_81 rfl ?_
          refine Wp_iload_n d_M_set_82 rfl ?_
          refine Wp_iastN (j := 0) d_M_set_83 rfl rfl rfl (absurd (by assumption) ha) (absurd (by assumption) ha) ?_
          refine Wp_iload d_M_set_84 rfl ?_
          refine Wp_reti (ty := .int) d_M_set_86 rfl rfl ?_
          exact absurd (by assumption) ha
        ·
          refine Wp_if_ne d_M_set_63 (fun q => absurd q (by decide)) (fun _ => ?_)
          refine Wp_bipush (x := (-2)) d_M_set_66 (by decide) ?_
          refine Wp_reti (ty := .int) d_M_set_68 rfl rfl ?_
          have e9 : oSet S a v = (-2, S) := by unfold oSet; rw [if_pos (Or.inl ha)]
          rw [e9]; exact ⟨rfl, hM, fr_rf⟩
      ·
        refine Wp_if_eq d_M_set_50 (fun _ => ?_) (fun q => absurd (by decide) q)
        refine Wp_bipush (x := (-2)) d_M_set_66 (by decide) ?_
        refine Wp_reti (ty := .int) d_M_set_68 rfl rfl ?_
        have e9 : oSet S a v = (-2, S) := by unfold oSet; rw [if_pos (Or.inl ha)]
        rw [e9]; exact ⟨rfl, hM, fr_rf⟩
set_option maxRecDepth 100000 in
set_option maxHeartbeats 4000000 in
theorem t_M_lays44 (E : mE) (d : Nat) (hd : 0 ≤ d) (w : mw) (a b : Nat) (v : Int32) (ha : a < 10) (hb : b < 10) : Td E d m_M_lays [vr 44, vi (nI a), vi (nI b), vi v] w (tieA (w 44) a b) (mUr w 44 (tieR (w 44) a b v)) := by
  refine ⟨Nat.le_of_ble_eq_true rfl, ?_⟩
  show Wp E d m_M_lays 0 [lr 44, li (nI a), li (nI b), li v, lo] [] w _
  refine Wp_aload_n d_M_lays_0 rfl ?_
  refine Wp_iload_n d_M_lays_1 rfl ?_
  refine Wp_ialdN (j := a) d_M_lays_2 rfl rfl rfl rfl (by omega) ?_
  refine Wp_iload_n d_M_lays_3 rfl ?_
  refine Wp_ishr d_M_lays_4 ?_
  refine Wp_iconst (x := 1) d_M_lays_5 (by decide) ?_
  refine Wp_iand d_M_lays_6 ?_
  refine Wp_istore (ls2 := [lr 44, li (nI a), li (nI b), li v, li (((w 44 a) >>> ((nI b) &&& 31)) &&& 1)]) d_M_lays_7 rfl rfl rfl ?_
  refine Wp_aload_n d_M_lays_9 rfl ?_
  refine Wp_iload_n d_M_lays_10 rfl ?_
  refine Wp_aload_n d_M_lays_11 rfl ?_
  refine Wp_iload_n d_M_lays_12 rfl ?_
  refine Wp_ialdN (j := a) d_M_lays_13 rfl rfl rfl rfl (by omega) ?_
  refine Wp_iconst (x := 1) d_M_lays_14 (by decide) ?_
  refine Wp_iload_n d_M_lays_15 rfl ?_
  refine Wp_ishl d_M_lays_16 ?_
  refine Wp_iconst (x := (-1)) d_M_lays_17 (by decide) ?_
  refine Wp_ixor d_M_lays_18 ?_
  refine Wp_iand d_M_lays_19 ?_
  refine Wp_iload_n d_M_lays_20 rfl ?_
  refine Wp_iload_n d_M_lays_21 rfl ?_
  refine Wp_ishl d_M_lays_22 ?_
  refine Wp_ior d_M_lays_23 ?_
  refine Wp_iastN (j := a) d_M_lays_24 rfl rfl rfl rfl (by omega) ?_
  refine Wp_aload_n d_M_lays_25 rfl ?_
  refine Wp_iload_n d_M_lays_26 rfl ?_
  refine Wp_aload_n d_M_lays_27 rfl ?_
  refine Wp_iload_n d_M_lays_28 rfl ?_
  refine Wp_ialdN (j := b) d_M_lays_29 rfl rfl rfl rfl (by omega) ?_
  refine Wp_iconst (x := 1) d_M_lays_30 (by decide) ?_
  refine Wp_iload_n d_M_lays_31 rfl ?_
  refine Wp_ishl d_M_lays_32 ?_
  refine Wp_iconst (x := (-1)) d_M_lays_33 (by decide) ?_
  refine Wp_ixor d_M_lays_34 ?_
  refine Wp_iand d_M_lays_35 ?_
  refine Wp_iload_n d_M_lays_36 rfl ?_
  refine Wp_iload_n d_M_lays_37 rfl ?_
  refine Wp_ishl d_M_lays_38 ?_
  refine Wp_ior d_M_lays_39 ?_
  refine Wp_iastN (j := b) d_M_lays_40 rfl rfl rfl rfl (by omega) ?_
  refine Wp_iload d_M_lays_41 rfl ?_
  refine Wp_reti (ty := .int) d_M_lays_43 rfl rfl ?_
  exact ⟨rfl, by simp only [mU, mUr_eq, mUr_mUr, tieR]⟩
set_option maxRecDepth 100000 in
set_option maxHeartbeats 4000000 in
theorem t_M_lays45 (E : mE) (d : Nat) (hd : 0 ≤ d) (w : mw) (a b : Nat) (v : Int32) (ha : a < 10) (hb : b < 10) : Td E d m_M_lays [vr 45, vi (nI a), vi (nI b), vi v] w (tieA (w 45) a b) (mUr w 45 (tieR (w 45) a b v)) := by
  refine ⟨Nat.le_of_ble_eq_true rfl, ?_⟩
  show Wp E d m_M_lays 0 [lr 45, li (nI a), li (nI b), li v, lo] [] w _
  refine Wp_aload_n d_M_lays_0 rfl ?_
  refine Wp_iload_n d_M_lays_1 rfl ?_
  refine Wp_ialdN (j := a) d_M_lays_2 rfl rfl rfl rfl (by omega) ?_
  refine Wp_iload_n d_M_lays_3 rfl ?_
  refine Wp_ishr d_M_lays_4 ?_
  refine Wp_iconst (x := 1) d_M_lays_5 (by decide) ?_
  refine Wp_iand d_M_lays_6 ?_
  refine Wp_istore (ls2 := [lr 45, li (nI a), li (nI b), li v, li (((w 45 a) >>> ((nI b) &&& 31)) &&& 1)]) d_M_lays_7 rfl rfl rfl ?_
  refine Wp_aload_n d_M_lays_9 rfl ?_
  refine Wp_iload_n d_M_lays_10 rfl ?_
  refine Wp_aload_n d_M_lays_11 rfl ?_
  refine Wp_iload_n d_M_lays_12 rfl ?_
  refine Wp_ialdN (j := a) d_M_lays_13 rfl rfl rfl rfl (by omega) ?_
  refine Wp_iconst (x := 1) d_M_lays_14 (by decide) ?_
  refine Wp_iload_n d_M_lays_15 rfl ?_
  refine Wp_ishl d_M_lays_16 ?_
  refine Wp_iconst (x := (-1)) d_M_lays_17 (by decide) ?_
  refine Wp_ixor d_M_lays_18 ?_
  refine Wp_iand d_M_lays_19 ?_
  refine Wp_iload_n d_M_lays_20 rfl ?_
  refine Wp_iload_n d_M_lays_21 rfl ?_
  refine Wp_ishl d_M_lays_22 ?_
  refine Wp_ior d_M_lays_23 ?_
  refine Wp_iastN (j := a) d_M_lays_24 rfl rfl rfl rfl (by omega) ?_
  refine Wp_aload_n d_M_lays_25 rfl ?_
  refine Wp_iload_n d_M_lays_26 rfl ?_
  refine Wp_aload_n d_M_lays_27 rfl ?_
  refine Wp_iload_n d_M_lays_28 rfl ?_
  refine Wp_ialdN (j := b) d_M_lays_29 rfl rfl rfl rfl (by omega) ?_
  refine Wp_iconst (x := 1) d_M_lays_30 (by decide) ?_
  refine Wp_iload_n d_M_lays_31 rfl ?_
  refine Wp_ishl d_M_lays_32 ?_
  refine Wp_iconst (x := (-1)) d_M_lays_33 (by decide) ?_
  refine Wp_ixor d_M_lays_34 ?_
  refine Wp_iand d_M_lays_35 ?_
  refine Wp_iload_n d_M_lays_36 rfl ?_
  refine Wp_iload_n d_M_lays_37 rfl ?_
  refine Wp_ishl d_M_lays_38 ?_
  refine Wp_ior d_M_lays_39 ?_
  refine Wp_iastN (j := b) d_M_lays_40 rfl rfl rfl rfl (by omega) ?_
  refine Wp_iload d_M_lays_41 rfl ?_
  refine Wp_reti (ty := .int) d_M_lays_43 rfl rfl ?_
  exact ⟨rfl, by simp only [mU, mUr_eq, mUr_mUr, tieR]⟩
set_option maxRecDepth 100000 in
set_option maxHeartbeats 4000000 in
theorem t_M_pair (E : mE) (d : Nat) (hd : 2 ≤ d) (w : mw) (S : mw) (hM : MM w S) (hV : VM S) (k a b v : Int32) : Ti E d m_M_pair [vr 33, vi k, vi a, vi b, vi v] w (fun r w1 => r = (oPair S k a b v).1 ∧ MM w1 (oPair S k a b v).2 ∧ fr mRows w w1) := by
  refine ⟨Nat.le_of_ble_eq_true rfl, ?_⟩
  show Wp E d m_M_pair 0 [lr 33, li k, li a, li b, li v] [] w _
  refine Wp_iload_n d_M_pair_0 rfl ?_
  refine Wp_ivs_b (As := [vi k]) d_M_pair_1 ln_M_151 mk_M_isTwo rfl rfl rfl (by omega) (t_M_isTwo E (d - 1) (by omega) w k) (fun g1 => ?_) (fun g1 => ?_)
  ·
    refine Wp_if_eq d_M_pair_4 (fun q => absurd q (by decide)) (fun _ => ?_)
    refine Wp_iload_n d_M_pair_7 rfl ?_
    refine Wp_ivs_b (As := [vi a]) d_M_pair_8 ln_M_157 mk_M_isNumber rfl rfl rfl (by omega) (t_M_isNumber E (d - 1) (by omega) w a) (fun g8 => ?_) (fun g8 => ?_)
    ·
      obtain ⟨a1, h_a1, rfl⟩ := nu_of g8
      refine Wp_if_eq d_M_pair_11 (fun q => absurd q (by decide)) (fun _ => ?_)
      refine Wp_iload_n d_M_pair_14 rfl ?_
      refine Wp_ivs_b (As := [vi b]) d_M_pair_15 ln_M_157 mk_M_isNumber rfl rfl rfl (by omega) (t_M_isNumber E (d - 1) (by omega) w b) (fun g15 => ?_) (fun g15 => ?_)
      ·
        obtain ⟨b1, h_b1, rfl⟩ := nu_of g15
        refine Wp_if_eq d_M_pair_18 (fun q => absurd q (by decide)) (fun _ => ?_)
        refine Wp_iload_n d_M_pair_21 rfl ?_
        refine Wp_iload_n d_M_pair_22 rfl ?_
        refine Wp_icmp_eq d_M_pair_23 (fun h23 => ?_) (fun h23 => ?_)
        ·
          have g23 : (nI a1).toInt = (nI b1).toInt := by rw [h23]
          refine Wp_bipush (x := (-2)) d_M_pair_34 (by decide) ?_
          refine Wp_reti (ty := .int) d_M_pair_36 rfl rfl ?_
          have e9 : oPair S k (nI a1) (nI b1) v = (-2, S) := by unfold oPair; rw [if_pos (by omega)]
          rw [e9]; exact ⟨rfl, hM, fr_rf⟩
        ·
          have g23 : (nI a1).toInt ≠ (nI b1).toInt := i_ne h23
          refine Wp_iload d_M_pair_26 rfl ?_
          refine Wp_ivs_b (As := [vi v]) d_M_pair_28 ln_M_151 mk_M_isTwo rfl rfl rfl (by omega) (t_M_isTwo E (d - 1) (by omega) w v) (fun g28 => ?_) (fun g28 => ?_)
          ·
            refine Wp_if_ne d_M_pair_31 (fun _ => ?_) (fun q => absurd q (by decide))
            refine Wp_iload_n d_M_pair_37 rfl ?_
            refine Wp_if_ne d_M_pair_38 (fun h38 => ?_) (fun h38 => ?_)
            ·
              have g38 : k.toInt ≠ 0 := i_ne h38
              refine Wp_aload_n d_M_pair_55 rfl ?_
              refine Wp_getr d_M_pair_56 fd_M_43 rfl rfl rfl ?_
              refine Wp_iload_n d_M_pair_59 rfl ?_
              refine Wp_iload_n d_M_pair_60 rfl ?_
              refine Wp_iload d_M_pair_61 rfl ?_
              refine Wp_ivs_d (As := [vr 45, vi (nI a1), vi (nI b1), vi v]) d_M_pair_63 ln_M_169 mk_M_lays rfl rfl rfl (by omega) (t_M_lays45 E (d - 1) (by omega) w a1 b1 v (by omega) (by omega)) ?_
              refine Wp_reti (ty := .int) d_M_pair_66 rfl rfl ?_
              have e9 : oPair S k (nI a1) (nI b1) v = (tieA (S 45) a1 b1, mUr S 45 (tieR (S 45) a1 b1 v)) := by unfold oPair; rw [if_neg (by have := ti (show a1 < 2147483648 by omega); have := ti (show b1 < 2147483648 by omega); omega), if_neg (by assumption), cl (by omega), cl (by omega)]
              rw [e9, hM.r 45]; exact ⟨rfl, MM_pr hM (by decide), fr_Ur (by decide)⟩
            ·
              refine Wp_aload_n d_M_pair_41 rfl ?_
              refine Wp_getr d_M_pair_42 fd_M_40 rfl rfl rfl ?_
              refine Wp_iload_n d_M_pair_45 rfl ?_
              refine Wp_iload_n d_M_pair_46 rfl ?_
              refine Wp_iload d_M_pair_47 rfl ?_
              refine Wp_ivs_d (As := [vr 44, vi (nI a1), vi (nI b1), vi v]) d_M_pair_49 ln_M_169 mk_M_lays rfl rfl rfl (by omega) (t_M_lays44 E (d - 1) (by omega) w a1 b1 v (by omega) (by omega)) ?_
              refine Wp_goto d_M_pair_52 ?_
              refine Wp_reti (ty := .int) d_M_pair_66 rfl rfl ?_
              have e9 : oPair S k (nI a1) (nI b1) v = (tieA (S 44) a1 b1, mUr S 44 (tieR (S 44) a1 b1 v)) := by unfold oPair; rw [if_neg (by have := ti (show a1 < 2147483648 by omega); have := ti (show b1 < 2147483648 by omega); omega), if_pos (by assumption), cl (by omega), cl (by omega)]
              rw [e9, hM.r 44]; exact ⟨rfl, MM_pr hM (by decide), fr_Ur (by decide)⟩
          ·
            refine Wp_if_ne d_M_pair_31 (fun q => absurd q (by decide)) (fun _ => ?_)
            refine Wp_bipush (x := (-2)) d_M_pair_34 (by decide) ?_
            refine Wp_reti (ty := .int) d_M_pair_36 rfl rfl ?_
            have e9 : oPair S k (nI a1) (nI b1) v = (-2, S) := by unfold oPair; rw [if_pos (by omega)]
            rw [e9]; exact ⟨rfl, hM, fr_rf⟩
      ·
        refine Wp_if_eq d_M_pair_18 (fun _ => ?_) (fun q => absurd (by decide) q)
        refine Wp_bipush (x := (-2)) d_M_pair_34 (by decide) ?_
        refine Wp_reti (ty := .int) d_M_pair_36 rfl rfl ?_
        have e9 : oPair S k (nI a1) b v = (-2, S) := by unfold oPair; rw [if_pos (by omega)]
        rw [e9]; exact ⟨rfl, hM, fr_rf⟩
    ·
      refine Wp_if_eq d_M_pair_11 (fun _ => ?_) (fun q => absurd (by decide) q)
      refine Wp_bipush (x := (-2)) d_M_pair_34 (by decide) ?_
      refine Wp_reti (ty := .int) d_M_pair_36 rfl rfl ?_
      have e9 : oPair S k a b v = (-2, S) := by unfold oPair; rw [if_pos (by omega)]
      rw [e9]; exact ⟨rfl, hM, fr_rf⟩
  ·
    refine Wp_if_eq d_M_pair_4 (fun _ => ?_) (fun q => absurd (by decide) q)
    refine Wp_bipush (x := (-2)) d_M_pair_34 (by decide) ?_
    refine Wp_reti (ty := .int) d_M_pair_36 rfl rfl ?_
    have e9 : oPair S k a b v = (-2, S) := by unfold oPair; rw [if_pos (by omega)]
    rw [e9]; exact ⟨rfl, hM, fr_rf⟩
set_option maxRecDepth 100000 in
set_option maxHeartbeats 4000000 in
theorem t_M_seen (E : mE) (d : Nat) (hd : 2 ≤ d) (w : mw) (S : mw) (hM : MM w S) (hV : VM S) (a b f : Int32) : Ti E d m_M_seen [vr 33, vi a, vi b, vi f] w (fun r w1 => r = (oSeen S a b f).1 ∧ MM w1 (oSeen S a b f).2 ∧ fr mRows w w1) := by
  refine ⟨Nat.le_of_ble_eq_true rfl, ?_⟩
  show Wp E d m_M_seen 0 [lr 33, li a, li b, li f] [] w _
  have hsn := (VM_sn hV).2
  refine Wp_iload_n d_M_seen_0 rfl ?_
  refine Wp_ivs_b (As := [vi a]) d_M_seen_1 ln_M_157 mk_M_isNumber rfl rfl rfl (by omega) (t_M_isNumber E (d - 1) (by omega) w a) (fun g1 => ?_) (fun g1 => ?_)
  ·
    obtain ⟨a1, h_a1, rfl⟩ := nu_of g1
    refine Wp_if_eq d_M_seen_4 (fun q => absurd q (by decide)) (fun _ => ?_)
    refine Wp_iload_n d_M_seen_7 rfl ?_
    refine Wp_ivs_b (As := [vi b]) d_M_seen_8 ln_M_157 mk_M_isNumber rfl rfl rfl (by omega) (t_M_isNumber E (d - 1) (by omega) w b) (fun g8 => ?_) (fun g8 => ?_)
    ·
      obtain ⟨b1, h_b1, rfl⟩ := nu_of g8
      refine Wp_if_eq d_M_seen_11 (fun q => absurd q (by decide)) (fun _ => ?_)
      refine Wp_iload_n d_M_seen_14 rfl ?_
      refine Wp_iload_n d_M_seen_15 rfl ?_
      refine Wp_icmp_eq d_M_seen_16 (fun h16 => ?_) (fun h16 => ?_)
      ·
        have g16 : (nI a1).toInt = (nI b1).toInt := by rw [h16]
        refine Wp_bipush (x := (-2)) d_M_seen_31 (by decide) ?_
        refine Wp_reti (ty := .int) d_M_seen_33 rfl rfl ?_
        have e9 : oSeen S (nI a1) (nI b1) f = (-2, S) := by unfold oSeen; rw [if_pos (by omega)]
        rw [e9]; exact ⟨rfl, hM, fr_rf⟩
      ·
        have g16 : (nI a1).toInt ≠ (nI b1).toInt := i_ne h16
        refine Wp_iload_n d_M_seen_19 rfl ?_
        refine Wp_i2l d_M_seen_20 ?_
        refine Wp_lconst (x := 0) d_M_seen_21 (by decide) ?_
        refine Wp_ldc2 (x := 200) d_M_seen_22 kl_M_261 ?_
        refine Wp_ivs_b (As := [vl f.toInt64, vl 0, vl 200]) d_M_seen_25 ln_M_88 mk_M_in rfl rfl rfl (by omega) (t_M_inI E (d - 1) w (x := f) (lo := 0) (hi := 200) (by decide) (by decide)) (fun g25 => ?_) (fun g25 => ?_)
        ·
          refine Wp_if_ne d_M_seen_28 (fun _ => ?_) (fun q => absurd q (by decide))
          refine Wp_aload_n d_M_seen_34 rfl ?_
          refine Wp_getf d_M_seen_35 fd_M_263 rfl rfl rfl ?_
          refine Wp_eqi (x2 := S 33 28) hM.2.2.1 ?_
          refine Wp_eqi (x2 := nI (sSn S)) (VM_sn hV).1 ?_
          refine Wp_bipush (x := 8) d_M_seen_38 (by decide) ?_
          refine Wp_icmp_ne d_M_seen_40 (fun h40 => ?_) (fun h40 => ?_)
          ·
            have g40 : (sSn S) ≠ 8 := n_ne h40 (by omega) (by omega)
            refine Wp_aload_n d_M_seen_46 rfl ?_
            refine Wp_getr d_M_seen_47 fd_M_80 rfl rfl rfl ?_
            refine Wp_iconst (x := 3) d_M_seen_50 (by decide) ?_
            refine Wp_aload_n d_M_seen_51 rfl ?_
            refine Wp_getf d_M_seen_52 fd_M_263 rfl rfl rfl ?_
            refine Wp_eqi (x2 := S 33 28) hM.2.2.1 ?_
            refine Wp_eqi (x2 := nI (sSn S)) (VM_sn hV).1 ?_
            refine Wp_imul d_M_seen_55 ?_
            refine Wp_eqi (x2 := nI (3 * (sSn S))) (pk_mul 3 (sSn S)) ?_
            refine Wp_iload_n d_M_seen_56 rfl ?_
            refine Wp_iastN (j := (3 * (sSn S))) d_M_seen_57 rfl rfl rfl rfl (by omega) ?_
            refine Wp_aload_n d_M_seen_58 rfl ?_
            refine Wp_getr d_M_seen_59 fd_M_80 rfl rfl rfl ?_
            refine Wp_iconst (x := 3) d_M_seen_62 (by decide) ?_
            refine Wp_aload_n d_M_seen_63 rfl ?_
            refine Wp_getf d_M_seen_64 fd_M_263 rfl rfl rfl ?_
            refine Wp_eqi (x2 := w 33 28) (by simp [mU, mUr, upd]) ?_
            refine Wp_eqi (x2 := S 33 28) hM.2.2.1 ?_
            refine Wp_eqi (x2 := nI (sSn S)) (VM_sn hV).1 ?_
            refine Wp_imul d_M_seen_67 ?_
            refine Wp_eqi (x2 := nI (3 * (sSn S))) (pk_mul 3 (sSn S)) ?_
            refine Wp_iconst (x := 1) d_M_seen_68 (by decide) ?_
            refine Wp_iadd d_M_seen_69 ?_
            refine Wp_eqi (x2 := nI ((3 * (sSn S)) + 1)) (nI_add (3 * (sSn S)) 1) ?_
            refine Wp_iload_n d_M_seen_70 rfl ?_
            refine Wp_iastN (j := ((3 * (sSn S)) + 1)) d_M_seen_71 rfl rfl rfl rfl (by omega) ?_
            refine Wp_aload_n d_M_seen_72 rfl ?_
            refine Wp_getr d_M_seen_73 fd_M_80 rfl rfl rfl ?_
            refine Wp_iconst (x := 3) d_M_seen_76 (by decide) ?_
            refine Wp_aload_n d_M_seen_77 rfl ?_
            refine Wp_getf d_M_seen_78 fd_M_263 rfl rfl rfl ?_
            refine Wp_eqi (x2 := w 33 28) (by simp [mU, mUr, upd]) ?_
            refine Wp_eqi (x2 := S 33 28) hM.2.2.1 ?_
            refine Wp_eqi (x2 := nI (sSn S)) (VM_sn hV).1 ?_
            refine Wp_imul d_M_seen_81 ?_
            refine Wp_eqi (x2 := nI (3 * (sSn S))) (pk_mul 3 (sSn S)) ?_
            refine Wp_iconst (x := 2) d_M_seen_82 (by decide) ?_
            refine Wp_iadd d_M_seen_83 ?_
            refine Wp_eqi (x2 := nI ((3 * (sSn S)) + 2)) (nI_add (3 * (sSn S)) 2) ?_
            refine Wp_iload_n d_M_seen_84 rfl ?_
            refine Wp_iastN (j := ((3 * (sSn S)) + 2)) d_M_seen_85 rfl rfl rfl rfl (by omega) ?_
            refine Wp_aload_n d_M_seen_86 rfl ?_
            refine Wp_dup d_M_seen_87 rfl ?_
            refine Wp_getf d_M_seen_88 fd_M_263 rfl rfl rfl ?_
            refine Wp_eqi (x2 := w 33 28) (by simp [mU, mUr, upd]) ?_
            refine Wp_eqi (x2 := S 33 28) hM.2.2.1 ?_
            refine Wp_eqi (x2 := nI (sSn S)) (VM_sn hV).1 ?_
            refine Wp_iconst (x := 1) d_M_seen_91 (by decide) ?_
            refine Wp_iadd d_M_seen_92 ?_
            refine Wp_eqi (x2 := nI ((sSn S) + 1)) (nI_add (sSn S) 1) ?_
            refine Wp_puti d_M_seen_93 fp_M_263 rfl rfl rfl ?_
            refine Wp_aload_n d_M_seen_96 rfl ?_
            refine Wp_getf d_M_seen_97 fd_M_263 rfl rfl rfl ?_
            refine Wp_eqi (x2 := nI ((sSn S) + 1)) (by simp [mU, mUr, upd]) ?_
            refine Wp_reti (ty := .int) d_M_seen_100 rfl rfl ?_
            have e9 : oSeen S (nI a1) (nI b1) f = (nI (sSn S + 1), mU (mU (mU (mU S 57 (3 * sSn S) (nI a1)) 57 (3 * sSn S + 1) (nI b1)) 57 (3 * sSn S + 2) f) 33 28 (nI (sSn S + 1))) := by unfold oSeen; rw [if_neg (by omega), if_neg (by omega)]
            rw [e9]; exact ⟨rfl, MM_f (MM_p (MM_p (MM_p hM (by decide)) (by decide)) (by decide)), fr_U2 (fr_U2 (fr_U2 (fr_U (by decide)) (by decide)) (by decide)) (by decide)⟩
          ·
            have g40 : (sSn S) = 8 := n_eq h40 (by omega) (by omega)
            refine Wp_bipush (x := (-4)) d_M_seen_43 (by decide) ?_
            refine Wp_reti (ty := .int) d_M_seen_45 rfl rfl ?_
            have e9 : oSeen S (nI a1) (nI b1) f = (-4, S) := by unfold oSeen; rw [if_neg (by omega), if_pos (by omega)]
            rw [e9]; exact ⟨rfl, hM, fr_rf⟩
        ·
          refine Wp_if_ne d_M_seen_28 (fun q => absurd q (by decide)) (fun _ => ?_)
          refine Wp_bipush (x := (-2)) d_M_seen_31 (by decide) ?_
          refine Wp_reti (ty := .int) d_M_seen_33 rfl rfl ?_
          have e9 : oSeen S (nI a1) (nI b1) f = (-2, S) := by unfold oSeen; rw [if_pos (by omega)]
          rw [e9]; exact ⟨rfl, hM, fr_rf⟩
    ·
      refine Wp_if_eq d_M_seen_11 (fun _ => ?_) (fun q => absurd (by decide) q)
      refine Wp_bipush (x := (-2)) d_M_seen_31 (by decide) ?_
      refine Wp_reti (ty := .int) d_M_seen_33 rfl rfl ?_
      have e9 : oSeen S (nI a1) b f = (-2, S) := by unfold oSeen; rw [if_pos (by omega)]
      rw [e9]; exact ⟨rfl, hM, fr_rf⟩
  ·
    refine Wp_if_eq d_M_seen_4 (fun _ => ?_) (fun q => absurd (by decide) q)
    refine Wp_bipush (x := (-2)) d_M_seen_31 (by decide) ?_
    refine Wp_reti (ty := .int) d_M_seen_33 rfl rfl ?_
    have e9 : oSeen S a b f = (-2, S) := by unfold oSeen; rw [if_pos (by omega)]
    rw [e9]; exact ⟨rfl, hM, fr_rf⟩
set_option maxRecDepth 100000 in
set_option maxHeartbeats 4000000 in
theorem t_M_lose (E : mE) (d : Nat) (hd : 2 ≤ d) (w : mw) (S : mw) (hM : MM w S) (hV : VM S) (s : Int32) : Ti E d m_M_lose [vr 33, vi s] w (fun r w1 => r = (oLose S s).1 ∧ MM w1 (oLose S s).2 ∧ fr mRows w w1) := by
  refine ⟨Nat.le_of_ble_eq_true rfl, ?_⟩
  show Wp E d m_M_lose 0 [lr 33, li s] [] w _
  refine Wp_iload_n d_M_lose_0 rfl ?_
  refine Wp_ivs_b (As := [vi s]) d_M_lose_1 ln_M_98 mk_M_isSheet rfl rfl rfl (by omega) (t_M_isSheet E (d - 1) (by omega) w s) (fun g1 => ?_) (fun g1 => ?_)
  ·
    obtain ⟨s1, h_s1, rfl⟩ := sh_of g1
    refine Wp_if_ne d_M_lose_4 (fun _ => ?_) (fun q => absurd q (by decide))
    refine Wp_aload_n d_M_lose_10 rfl ?_
    refine Wp_getr d_M_lose_11 fd_M_7 rfl rfl rfl ?_
    refine Wp_iload_n d_M_lose_14 rfl ?_
    refine Wp_ialdN (j := s1) d_M_lose_15 rfl rfl rfl rfl (by omega) ?_
    refine Wp_eqi (x2 := S 34 s1) (congrFun (hM.r 34) _) ?_
    refine Wp_if_ge d_M_lose_16 (fun h16 => ?_) (fun h16 => ?_)
    ·
      have g16 : 0 ≤ (S 34 s1).toInt := i_le h16
      refine Wp_aload_n d_M_lose_25 rfl ?_
      refine Wp_getr d_M_lose_26 fd_M_7 rfl rfl rfl ?_
      refine Wp_iload_n d_M_lose_29 rfl ?_
      refine Wp_iconst (x := (-1)) d_M_lose_30 (by decide) ?_
      refine Wp_iastN (j := s1) d_M_lose_31 rfl rfl rfl rfl (by omega) ?_
      refine Wp_aload_n d_M_lose_32 rfl ?_
      refine Wp_getr d_M_lose_33 fd_M_13 rfl rfl rfl ?_
      refine Wp_iload_n d_M_lose_36 rfl ?_
      refine Wp_ialdN (j := s1) d_M_lose_37 rfl rfl rfl rfl (by omega) ?_
      refine Wp_eqi (x2 := w 35 s1) (by simp [mU, mUr, upd]) ?_
      refine Wp_eqi (x2 := S 35 s1) (congrFun (hM.r 35) _) ?_
      refine Wp_reti (ty := .int) d_M_lose_38 rfl rfl ?_
      have e9 : oLose S (nI s1) = (S 35 s1, mU S 34 s1 (-1)) := by unfold oLose; rw [if_neg (by have := ti (show s1 < 2147483648 by omega); omega), cl (by omega), if_neg (by omega)]
      rw [e9]; exact ⟨rfl, MM_p hM (by decide), fr_U (by decide)⟩
    ·
      have g16 : (S 34 s1).toInt < 0 := i_nle h16
      refine Wp_aload_n d_M_lose_19 rfl ?_
      refine Wp_iconst (x := 1) d_M_lose_20 (by decide) ?_
      refine Wp_ivv_d (o := 33) (As := [vi 1]) d_M_lose_21 ln_M_104 mk_M_met rfl rfl rfl rfl rfl (by omega) (t_M_met E (d - 1) (by omega) w 1 (-11) (by decide)) ?_
      refine Wp_reti (ty := .int) d_M_lose_24 rfl rfl ?_
      have e9 : oLose S (nI s1) = (-11, mU S 33 4 1) := by unfold oLose; rw [if_neg (by have := ti (show s1 < 2147483648 by omega); omega), cl (by omega), if_pos (by omega)]
      rw [e9]; exact ⟨rfl, MM_f hM, fr_U (by decide)⟩
  ·
    refine Wp_if_ne d_M_lose_4 (fun q => absurd q (by decide)) (fun _ => ?_)
    refine Wp_bipush (x := (-2)) d_M_lose_7 (by decide) ?_
    refine Wp_reti (ty := .int) d_M_lose_9 rfl rfl ?_
    have e9 : oLose S s = (-2, S) := by unfold oLose; rw [if_pos (by omega)]
    rw [e9]; exact ⟨rfl, hM, fr_rf⟩
