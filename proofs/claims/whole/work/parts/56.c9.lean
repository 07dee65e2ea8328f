set_option maxRecDepth 100000 in
set_option maxHeartbeats 4000000 in
theorem t_P_toldAtG (E : mE) (d : Nat) (hd : 2 ≤ d) (w : mw) (j : Nat) (hj : j < 10) (a : Int32) : Td E d m_P_toldAt [vr 1, vi (nI j), vi a] w (pos0 (a + w 7 j)) w := by
  refine ⟨Nat.le_of_ble_eq_true rfl, ?_⟩
  show Wp E d m_P_toldAt 0 [lr 1, li (nI j), li a] [] w _
  refine Wp_iload_n d_P_toldAt_0 rfl ?_
  refine Wp_ivsN_b (As := [vi (nI j)]) d_P_toldAt_1 ln_P_43 mk_F_isNumber rfl rfl rfl (by omega) (t_F_isNumber E (d - 1) (by omega) w (nI j)) (fun g1 => ?_) (fun g1 => ?_)
  ·
    refine Wp_if_eq d_P_toldAt_4 (fun q => absurd q (by decide)) (fun _ => ?_)
    refine Wp_iconst (x := 0) d_P_toldAt_7 (by decide) ?_
    refine Wp_iload_n d_P_toldAt_8 rfl ?_
    refine Wp_aload_n d_P_toldAt_9 rfl ?_
    refine Wp_getr d_P_toldAt_10 fd_P_27 rfl rfl rfl ?_
    refine Wp_iload_n d_P_toldAt_13 rfl ?_
    refine Wp_ialdN (j := j) d_P_toldAt_14 rfl rfl rfl rfl (by omega) ?_
    refine Wp_iadd d_P_toldAt_15 ?_
    refine Wp_max d_P_toldAt_16 ln_P_51 rfl (by omega) ?_
    refine Wp_eqi (x2 := pos0 (a + w 7 j)) rfl ?_
    refine Wp_goto d_P_toldAt_19 ?_
    refine Wp_reti (ty := .int) d_P_toldAt_23 rfl rfl ?_
    exact ⟨rfl, rfl⟩
  ·
    exact absurd (by have := ti (show j < 2147483648 by omega); omega) g1
set_option maxRecDepth 100000 in
set_option maxHeartbeats 4000000 in
theorem t_P_tell (E : mE) (d : Nat) (hd : 3 ≤ d) (w : mw) (j : Nat) (hj : j < 10) (v : Int32) : Tdv E d m_P_tell [vr 1, vi (nI j), vi v] w (mU (mU w 7 j v) 4 j (pos0 (w 3 j + v))) := by
  refine ⟨Nat.le_of_ble_eq_true rfl, ?_⟩
  show Wp E d m_P_tell 0 [lr 1, li (nI j), li v] [] w _
  refine Wp_iload_n d_P_tell_0 rfl ?_
  refine Wp_ivsN_b (As := [vi (nI j)]) d_P_tell_1 ln_P_43 mk_F_isNumber rfl rfl rfl (by omega) (t_F_isNumber E (d - 1) (by omega) w (nI j)) (fun g1 => ?_) (fun g1 => ?_)
  ·
    refine Wp_if_eq d_P_tell_4 (fun q => absurd q (by decide)) (fun _ => ?_)
    refine Wp_aload_n d_P_tell_7 rfl ?_
    refine Wp_getr d_P_tell_8 fd_P_27 rfl rfl rfl ?_
    refine Wp_iload_n d_P_tell_11 rfl ?_
    refine Wp_iload_n d_P_tell_12 rfl ?_
    refine Wp_iastN (j := j) d_P_tell_13 rfl rfl rfl rfl (by omega) ?_
    refine Wp_aload_n d_P_tell_14 rfl ?_
    refine Wp_getr d_P_tell_15 fd_P_18 rfl rfl rfl ?_
    refine Wp_iload_n d_P_tell_18 rfl ?_
    refine Wp_aload_n d_P_tell_19 rfl ?_
    refine Wp_iload_n d_P_tell_20 rfl ?_
    refine Wp_aload_n d_P_tell_21 rfl ?_
    refine Wp_getr d_P_tell_22 fd_P_15 rfl rfl rfl ?_
    refine Wp_iload_n d_P_tell_25 rfl ?_
    refine Wp_ialdN (j := j) d_P_tell_26 rfl rfl rfl rfl (by omega) ?_
    refine Wp_eqi (x2 := w 3 j) (by simp [mU, mUr, upd]) ?_
    refine Wp_ivv_d (o := 1) (As := [vi (nI j), vi (w 3 j)]) d_P_tell_27 ln_P_47 mk_P_toldAt rfl rfl rfl rfl rfl (by omega) (by have h := t_P_toldAtG E (d - 1) (by omega) (mU w 7 j v) j hj (w 3 j); rw [mU_at] at h; exact h) ?_
    refine Wp_iastN (j := j) d_P_tell_30 rfl rfl rfl rfl (by omega) ?_
    refine Wp_retv d_P_tell_31 rfl ?_
    exact rfl
  ·
    exact absurd (by have := ti (show j < 2147483648 by omega); omega) g1
set_option maxRecDepth 100000 in
set_option maxHeartbeats 4000000 in
theorem t_P_everyone (E : mE) (d : Nat) (hd : 0 ≤ d) (w : mw) (n : Nat) (hn : w 1 7 = nI n) (h10 : n ≤ 10) : Td E d m_P_everyone [vr 1] w (nI (2 ^ n - 1)) w := by
  refine ⟨Nat.le_of_ble_eq_true rfl, ?_⟩
  show Wp E d m_P_everyone 0 [lr 1] [] w _
  refine Wp_iconst (x := 1) d_P_everyone_0 (by decide) ?_
  refine Wp_aload_n d_P_everyone_1 rfl ?_
  refine Wp_getf d_P_everyone_2 fd_P_40 rfl rfl rfl ?_
  refine Wp_eqi (x2 := nI n) hn ?_
  refine Wp_ishl d_P_everyone_5 ?_
  refine Wp_eqi (x2 := nI (2 ^ n)) (sh1 (by omega)) ?_
  refine Wp_iconst (x := 1) d_P_everyone_6 (by decide) ?_
  refine Wp_isub d_P_everyone_7 ?_
  refine Wp_eqi (x2 := nI (2 ^ n - 1)) (pk_sub (b := 1) Nat.one_le_two_pow) ?_
  refine Wp_reti (ty := .int) d_P_everyone_8 rfl rfl ?_
  exact ⟨rfl, rfl⟩
set_option maxRecDepth 100000 in
set_option maxHeartbeats 4000000 in
theorem t_F_areThere (E : mE) (d : Nat) (hd : 1 ≤ d) (w : mw) (S : mw) (hP : PR w S) (hV : VM S) (x : Int32) : Tb E d m_F_areThere [vr 0, vi x] w (0 ≤ x.toInt ∧ x.toInt ≤ wh S) := by
  refine ⟨Nat.le_of_ble_eq_true rfl, ?_⟩
  show Wp E d m_F_areThere 0 [lr 0, li x] [] w _
  refine Wp_iload_n d_F_areThere_0 rfl ?_
  refine Wp_aload_n d_F_areThere_1 rfl ?_
  refine Wp_getr d_F_areThere_2 fd_F_10 rfl rfl rfl ?_
  refine Wp_ivv_d (o := 1) (As := []) d_F_areThere_5 ln_F_180 mk_P_everyone rfl rfl rfl rfl rfl (by omega) (t_P_everyone E (d - 1) (by omega) w (pN S) hP.2.1.1 (pN_ok S).1) ?_
  refine Wp_iconst (x := (-1)) d_F_areThere_8 (by decide) ?_
  refine Wp_ixor d_F_areThere_9 ?_
  refine Wp_iand d_F_areThere_10 ?_
  refine Wp_if_ne d_F_areThere_11 (fun h11 => ?_) (fun h11 => ?_)
  ·
    have g11 : (x &&& ((nI (wh S)) ^^^ (-1))).toInt ≠ 0 := i_ne h11
    refine Wp_iconst (x := 0) d_F_areThere_18 (by decide) ?_
    refine Wp_reti (ty := .boolean) d_F_areThere_19 rfl rfl ?_
    exact ⟨Or.inr ⟨rfl, fun q => h11 ((tb2 (pN_ok S).1).mpr q)⟩, rfl⟩
  ·
    refine Wp_iconst (x := 1) d_F_areThere_14 (by decide) ?_
    refine Wp_goto d_F_areThere_15 ?_
    refine Wp_reti (ty := .boolean) d_F_areThere_19 rfl rfl ?_
    exact ⟨Or.inl ⟨rfl, (tb2 (pN_ok S).1).mp h11⟩, rfl⟩
set_option maxRecDepth 100000 in
set_option maxHeartbeats 4000000 in
theorem t_F_person (E : mE) (d : Nat) (hd : 1 ≤ d) (w : mw) (S : mw) (hP : PR w S) (hV : VM S) (p a : Int32) : Td E d m_F_person [vr 0, vi p, vi a] w (rPerson S p a) w := by
  refine ⟨Nat.le_of_ble_eq_true rfl, ?_⟩
  show Wp E d m_F_person 0 [lr 0, li p, li a] [] w _
  refine Wp_aload_n d_F_person_0 rfl ?_
  refine Wp_getr d_F_person_1 fd_F_10 rfl rfl rfl ?_
  refine Wp_iload_n d_F_person_4 rfl ?_
  refine Wp_ivv_b (o := 1) (As := [vi p]) d_F_person_5 ln_F_82 mk_P_isThere rfl rfl rfl rfl rfl (by omega) (t_P_isThere E (d - 1) (by omega) w (pN S) hP.2.1.1 (pN_ok S).1 p) (fun g5 => ?_) (fun g5 => ?_)
  ·
    have gp := g5
    obtain ⟨j, hj, rfl⟩ : ∃ j, j < pN S ∧ p = nI j := i_nIof g5.1 g5.2
    have hp10 := (pN_ok S).1
    have tJ := ti (show j < 2147483648 by omega)
    refine Wp_if_eq d_F_person_8 (fun q => absurd q (by decide)) (fun _ => ?_)
    refine Wp_iload_n d_F_person_11 rfl ?_
    refine Wp_iconst (x := 0) d_F_person_12 (by decide) ?_
    refine Wp_iconst (x := 1) d_F_person_13 (by decide) ?_
    refine Wp_ivs_b (As := [vi a, vi 0, vi 1]) d_F_person_14 ln_F_59 mk_F_isWithin rfl rfl rfl (by omega) (t_F_isWithin E (d - 1) (by omega) w a 0 1) (fun g14 => ?_) (fun g14 => ?_)
    ·
      have k14 : 0 ≤ a.toInt ∧ a.toInt ≤ 1 := g14
      refine Wp_if_ne d_F_person_17 (fun _ => ?_) (fun q => absurd q (by decide))
      refine Wp_iload_n d_F_person_23 rfl ?_
      refine Wp_if_ne d_F_person_24 (fun h24 => ?_) (fun h24 => ?_)
      ·
        have g24 : a.toInt ≠ 0 := i_ne h24
        refine Wp_aload_n d_F_person_39 rfl ?_
        refine Wp_getr d_F_person_40 fd_F_10 rfl rfl rfl ?_
        refine Wp_getr d_F_person_43 fd_F_89 rfl rfl rfl ?_
        refine Wp_iload_n d_F_person_46 rfl ?_
        refine Wp_ialdN (j := j) d_F_person_47 rfl rfl rfl rfl (by omega) ?_
        refine Wp_eqi (x2 := nI (tld S j)) (hP.2.1.2.2 _ (by omega)).2 ?_
        refine Wp_reti (ty := .int) d_F_person_48 rfl rfl ?_
        exact ⟨by unfold rPerson; rw [if_pos (by omega), if_neg h24, cl (by omega)], rfl⟩
      ·
        refine Wp_aload_n d_F_person_27 rfl ?_
        refine Wp_getr d_F_person_28 fd_F_10 rfl rfl rfl ?_
        refine Wp_getr d_F_person_31 fd_F_86 rfl rfl rfl ?_
        refine Wp_iload_n d_F_person_34 rfl ?_
        refine Wp_ialdN (j := j) d_F_person_35 rfl rfl rfl rfl (by omega) ?_
        refine Wp_eqi (x2 := nI (pA S j)) (hP.2.1.2.2 _ (by omega)).1 ?_
        refine Wp_goto d_F_person_36 ?_
        refine Wp_reti (ty := .int) d_F_person_48 rfl rfl ?_
        exact ⟨by unfold rPerson; rw [if_pos (by omega), if_pos h24, cl (by omega)], rfl⟩
    ·
      have k14 : ¬ (0 ≤ a.toInt ∧ a.toInt ≤ 1) := g14
      refine Wp_if_ne d_F_person_17 (fun q => absurd q (by decide)) (fun _ => ?_)
      refine Wp_bipush (x := (-2)) d_F_person_20 (by decide) ?_
      refine Wp_reti (ty := .int) d_F_person_22 rfl rfl ?_
      exact ⟨by unfold rPerson; rw [if_neg (by omega)], rfl⟩
  ·
    refine Wp_if_eq d_F_person_8 (fun _ => ?_) (fun q => absurd (by decide) q)
    refine Wp_bipush (x := (-2)) d_F_person_20 (by decide) ?_
    refine Wp_reti (ty := .int) d_F_person_22 rfl rfl ?_
    exact ⟨by unfold rPerson; rw [if_neg (by omega)], rfl⟩
set_option maxRecDepth 100000 in
set_option maxHeartbeats 4000000 in
theorem t_F_exchange5 (E : mE) (d : Nat) (hd : 0 ≤ d) (w : mw) (j : Nat) (hj : j < 10) (v : Int32) : Td E d m_F_exchange [vr 5, vi (nI j), vi v] w (w 5 j) (mU w 5 j v) := by
  refine ⟨Nat.le_of_ble_eq_true rfl, ?_⟩
  show Wp E d m_F_exchange 0 [lr 5, li (nI j), li v, lo] [] w _
  refine Wp_iload_n d_F_exchange_0 rfl ?_
  refine Wp_if_lt d_F_exchange_1 (fun q => absurd (n_lt (b := 0) q (by omega) (by omega)) (by omega)) (fun h1 => ?_)
  refine Wp_iload_n d_F_exchange_4 rfl ?_
  refine Wp_aload_n d_F_exchange_5 rfl ?_
  refine Wp_alen (x := 10) d_F_exchange_6 rfl rfl rfl ?_
  refine Wp_icmp_lt d_F_exchange_7 (fun h7 => ?_) (fun q => absurd (n_nlt (b := 10) q (by omega) (by omega)) (by omega))
  refine Wp_aload_n d_F_exchange_13 rfl ?_
  refine Wp_iload_n d_F_exchange_14 rfl ?_
  refine Wp_ialdN (j := j) d_F_exchange_15 rfl rfl rfl rfl (by omega) ?_
  refine Wp_istore_n (ls2 := [lr 5, li (nI j), li v, li (w 5 j)]) d_F_exchange_16 rfl rfl rfl ?_
  refine Wp_aload_n d_F_exchange_17 rfl ?_
  refine Wp_iload_n d_F_exchange_18 rfl ?_
  refine Wp_iload_n d_F_exchange_19 rfl ?_
  refine Wp_iastN (j := j) d_F_exchange_20 rfl rfl rfl rfl (by omega) ?_
  refine Wp_iload_n d_F_exchange_21 rfl ?_
  refine Wp_reti (ty := .int) d_F_exchange_22 rfl rfl ?_
  exact ⟨rfl, rfl⟩
set_option maxRecDepth 100000 in
set_option maxHeartbeats 4000000 in
theorem t_F_exchange6 (E : mE) (d : Nat) (hd : 0 ≤ d) (w : mw) (j : Nat) (hj : j < 10) (v : Int32) : Td E d m_F_exchange [vr 6, vi (nI j), vi v] w (w 6 j) (mU w 6 j v) := by
  refine ⟨Nat.le_of_ble_eq_true rfl, ?_⟩
  show Wp E d m_F_exchange 0 [lr 6, li (nI j), li v, lo] [] w _
  refine Wp_iload_n d_F_exchange_0 rfl ?_
  refine Wp_if_lt d_F_exchange_1 (fun q => absurd (n_lt (b := 0) q (by omega) (by omega)) (by omega)) (fun h1 => ?_)
  refine Wp_iload_n d_F_exchange_4 rfl ?_
  refine Wp_aload_n d_F_exchange_5 rfl ?_
  refine Wp_alen (x := 10) d_F_exchange_6 rfl rfl rfl ?_
  refine Wp_icmp_lt d_F_exchange_7 (fun h7 => ?_) (fun q => absurd (n_nlt (b := 10) q (by omega) (by omega)) (by omega))
  refine Wp_aload_n d_F_exchange_13 rfl ?_
  refine Wp_iload_n d_F_exchange_14 rfl ?_
  refine Wp_ialdN (j := j) d_F_exchange_15 rfl rfl rfl rfl (by omega) ?_
  refine Wp_istore_n (ls2 := [lr 6, li (nI j), li v, li (w 6 j)]) d_F_exchange_16 rfl rfl rfl ?_
  refine Wp_aload_n d_F_exchange_17 rfl ?_
  refine Wp_iload_n d_F_exchange_18 rfl ?_
  refine Wp_iload_n d_F_exchange_19 rfl ?_
  refine Wp_iastN (j := j) d_F_exchange_20 rfl rfl rfl rfl (by omega) ?_
  refine Wp_iload_n d_F_exchange_21 rfl ?_
  refine Wp_reti (ty := .int) d_F_exchange_22 rfl rfl ?_
  exact ⟨rfl, rfl⟩
set_option maxRecDepth 100000 in
set_option maxHeartbeats 4000000 in
theorem t_F_exchange9 (E : mE) (d : Nat) (hd : 0 ≤ d) (w : mw) (j : Nat) (hj : j < 4) (v : Int32) : Td E d m_F_exchange [vr 9, vi (nI j), vi v] w (w 9 j) (mU w 9 j v) := by
  refine ⟨Nat.le_of_ble_eq_true rfl, ?_⟩
  show Wp E d m_F_exchange 0 [lr 9, li (nI j), li v, lo] [] w _
  refine Wp_iload_n d_F_exchange_0 rfl ?_
  refine Wp_if_lt d_F_exchange_1 (fun q => absurd (n_lt (b := 0) q (by omega) (by omega)) (by omega)) (fun h1 => ?_)
  refine Wp_iload_n d_F_exchange_4 rfl ?_
  refine Wp_aload_n d_F_exchange_5 rfl ?_
  refine Wp_alen (x := 4) d_F_exchange_6 rfl rfl rfl ?_
  refine Wp_icmp_lt d_F_exchange_7 (fun h7 => ?_) (fun q => absurd (n_nlt (b := 4) q (by omega) (by omega)) (by omega))
  refine Wp_aload_n d_F_exchange_13 rfl ?_
  refine Wp_iload_n d_F_exchange_14 rfl ?_
  refine Wp_ialdN (j := j) d_F_exchange_15 rfl rfl rfl rfl (by omega) ?_
  refine Wp_istore_n (ls2 := [lr 9, li (nI j), li v, li (w 9 j)]) d_F_exchange_16 rfl rfl rfl ?_
  refine Wp_aload_n d_F_exchange_17 rfl ?_
  refine Wp_iload_n d_F_exchange_18 rfl ?_
  refine Wp_iload_n d_F_exchange_19 rfl ?_
  refine Wp_iastN (j := j) d_F_exchange_20 rfl rfl rfl rfl (by omega) ?_
  refine Wp_iload_n d_F_exchange_21 rfl ?_
  refine Wp_reti (ty := .int) d_F_exchange_22 rfl rfl ?_
  exact ⟨rfl, rfl⟩
set_option maxRecDepth 100000 in
set_option maxHeartbeats 4000000 in
theorem t_F_put (E : mE) (d : Nat) (hd : 2 ≤ d) (w : mw) (S : mw) (hC : CC w S) (hV : VM S) (k a v : Int32) : Ti E d m_F_put [vr 0, vi k, vi a, vi v] w (fun r w1 => r = (oPut S k a v).1 ∧ CC w1 (oPut S k a v).2 ∧ fr cRows w w1) := by
  refine ⟨Nat.le_of_ble_eq_true rfl, ?_⟩
  show Wp E d m_F_put 0 [lr 0, li k, li a, li v] [] w _
  refine Wp_iload_n d_F_put_0 rfl ?_
  refine Wp_ivs_b (As := [vi k]) d_F_put_1 ln_F_92 mk_F_isNumber rfl rfl rfl (by omega) (t_F_isNumber E (d - 1) (by omega) w k) (fun g1 => ?_) (fun g1 => ?_)
  ·
    obtain ⟨k1, h_k1, rfl⟩ := nu_of g1
    have tN_k1 := ti (show k1 < 2147483648 by omega)
    refine Wp_if_eq d_F_put_4 (fun q => absurd q (by decide)) (fun _ => ?_)
    refine Wp_iload_n d_F_put_7 rfl ?_
    refine Wp_iconst (x := 0) d_F_put_8 (by decide) ?_
    refine Wp_iconst (x := 1) d_F_put_9 (by decide) ?_
    refine Wp_ivs_b (As := [vi a, vi 0, vi 1]) d_F_put_10 ln_F_59 mk_F_isWithin rfl rfl rfl (by omega) (t_F_isWithin E (d - 1) (by omega) w a 0 1) (fun g10 => ?_) (fun g10 => ?_)
    ·
      have k10 : 0 ≤ a.toInt ∧ a.toInt ≤ 1 := g10
      refine Wp_if_eq d_F_put_13 (fun q => absurd q (by decide)) (fun _ => ?_)
      refine Wp_iload_n d_F_put_16 rfl ?_
      refine Wp_iconst (x := 0) d_F_put_17 (by decide) ?_
      refine Wp_bipush (x := 99) d_F_put_18 (by decide) ?_
      refine Wp_ivs_b (As := [vi v, vi 0, vi 99]) d_F_put_20 ln_F_59 mk_F_isWithin rfl rfl rfl (by omega) (t_F_isWithin E (d - 1) (by omega) w v 0 99) (fun g20 => ?_) (fun g20 => ?_)
      ·
        have k20 : 0 ≤ v.toInt ∧ v.toInt ≤ 99 := g20
        refine Wp_if_ne d_F_put_23 (fun _ => ?_) (fun q => absurd q (by decide))
        refine Wp_aload_n d_F_put_29 rfl ?_
        refine Wp_getr d_F_put_30 fd_F_28 rfl rfl rfl ?_
        refine Wp_ivv_dv (o := 12) (As := []) d_F_put_33 ln_F_67 mk_D_outdate rfl rfl rfl rfl rfl (by omega) (t_D_outdate E (d - 1) (by omega) w) ?_
        refine Wp_iload_n d_F_put_36 rfl ?_
        refine Wp_if_ne d_F_put_37 (fun h37 => ?_) (fun h37 => ?_)
        ·
          have g37 : a.toInt ≠ 0 := i_ne h37
          refine Wp_aload_n d_F_put_50 rfl ?_
          refine Wp_getr d_F_put_51 fd_F_10 rfl rfl rfl ?_
          refine Wp_getr d_F_put_54 fd_F_98 rfl rfl rfl ?_
          refine Wp_iload_n d_F_put_57 rfl ?_
          refine Wp_iload_n d_F_put_58 rfl ?_
          refine Wp_ivs_d (As := [vr 6, vi (nI k1), vi v]) d_F_put_59 ln_F_101 mk_F_exchange rfl rfl rfl (by omega) (t_F_exchange6 E (d - 1) (by omega) (mU w 12 6 1) k1 (by omega) v) ?_
          refine Wp_reti (ty := .int) d_F_put_62 rfl rfl ?_
          have e9 : oPut S (nI k1) a v = (S 41 k1, mU S 41 k1 v) := by unfold oPut; rw [if_neg (by omega), if_neg h37, cl (by omega)]
          rw [e9]
          refine ⟨(congrFun (mU_ne (by decide)) k1).trans (congrFun hC.1.2.2.1 k1), ?_, fr_U2 (fr_U (by decide)) (by decide)⟩
          have h := CC_h hC (upd (S 41) k1 v)
          have e : mU (mU w 12 6 1) 6 k1 v = mUr (mU w 12 6 1) 6 (upd (S 41) k1 v) := by
            show mUr (mU w 12 6 1) 6 (upd (mU w 12 6 1 6) k1 v) = _
            rw [mU_ne (by decide), hC.1.2.2.1]
          rw [e]; exact h
        ·
          refine Wp_aload_n d_F_put_40 rfl ?_
          refine Wp_getr d_F_put_41 fd_F_10 rfl rfl rfl ?_
          refine Wp_getr d_F_put_44 fd_F_95 rfl rfl rfl ?_
          refine Wp_goto d_F_put_47 ?_
          refine Wp_iload_n d_F_put_57 rfl ?_
          refine Wp_iload_n d_F_put_58 rfl ?_
          refine Wp_ivs_d (As := [vr 5, vi (nI k1), vi v]) d_F_put_59 ln_F_101 mk_F_exchange rfl rfl rfl (by omega) (t_F_exchange5 E (d - 1) (by omega) (mU w 12 6 1) k1 (by omega) v) ?_
          refine Wp_reti (ty := .int) d_F_put_62 rfl rfl ?_
          have e9 : oPut S (nI k1) a v = (S 40 k1, mU S 40 k1 v) := by unfold oPut; rw [if_neg (by omega), if_pos h37, cl (by omega)]
          rw [e9]
          refine ⟨(congrFun (mU_ne (by decide)) k1).trans (congrFun hC.1.2.1 k1), ?_, fr_U2 (fr_U (by decide)) (by decide)⟩
          have h := CC_w hC (upd (S 40) k1 v)
          have e : mU (mU w 12 6 1) 5 k1 v = mUr (mU w 12 6 1) 5 (upd (S 40) k1 v) := by
            show mUr (mU w 12 6 1) 5 (upd (mU w 12 6 1 5) k1 v) = _
            rw [mU_ne (by decide), hC.1.2.1]
          rw [e]; exact h
      ·
        have k20 : ¬ (0 ≤ v.toInt ∧ v.toInt ≤ 99) := g20
        refine Wp_if_ne d_F_put_23 (fun q => absurd q (by decide)) (fun _ => ?_)
        refine Wp_bipush (x := (-2)) d_F_put_26 (by decide) ?_
        refine Wp_reti (ty := .int) d_F_put_28 rfl rfl ?_
        have e9 : oPut S (nI k1) a v = (-2, S) := by unfold oPut; rw [if_pos (by omega)]
        rw [e9]; exact ⟨rfl, hC, fr_rf⟩
    ·
      have k10 : ¬ (0 ≤ a.toInt ∧ a.toInt ≤ 1) := g10
      refine Wp_if_eq d_F_put_13 (fun _ => ?_) (fun q => absurd (by decide) q)
      refine Wp_bipush (x := (-2)) d_F_put_26 (by decide) ?_
      refine Wp_reti (ty := .int) d_F_put_28 rfl rfl ?_
      have e9 : oPut S (nI k1) a v = (-2, S) := by unfold oPut; rw [if_pos (by omega)]
      rw [e9]; exact ⟨rfl, hC, fr_rf⟩
  ·
    refine Wp_if_eq d_F_put_4 (fun _ => ?_) (fun q => absurd (by decide) q)
    refine Wp_bipush (x := (-2)) d_F_put_26 (by decide) ?_
    refine Wp_reti (ty := .int) d_F_put_28 rfl rfl ?_
    have e9 : oPut S k a v = (-2, S) := by unfold oPut; rw [if_pos (by omega)]
    rw [e9]; exact ⟨rfl, hC, fr_rf⟩
set_option maxRecDepth 100000 in
set_option maxHeartbeats 4000000 in
theorem t_F_lie (E : mE) (d : Nat) (hd : 4 ≤ d) (w : mw) (S : mw) (hC : CC w S) (hV : VM S) (k v : Int32) : Ti E d m_F_lie [vr 0, vi k, vi v] w (fun r w1 => r = (oLie S k v).1 ∧ CC w1 (oLie S k v).2 ∧ fr cRows w w1) := by
  refine ⟨Nat.le_of_ble_eq_true rfl, ?_⟩
  show Wp E d m_F_lie 0 [lr 0, li k, li v, lo] [] w _
  refine Wp_iload_n d_F_lie_0 rfl ?_
  refine Wp_ivs_b (As := [vi k]) d_F_lie_1 ln_F_92 mk_F_isNumber rfl rfl rfl (by omega) (t_F_isNumber E (d - 1) (by omega) w k) (fun g1 => ?_) (fun g1 => ?_)
  ·
    obtain ⟨k1, h_k1, rfl⟩ := nu_of g1
    have tN_k1 := ti (show k1 < 2147483648 by omega)
    refine Wp_if_eq d_F_lie_4 (fun q => absurd q (by decide)) (fun _ => ?_)
    refine Wp_iload_n d_F_lie_7 rfl ?_
    refine Wp_bipush (x := (-30)) d_F_lie_8 (by decide) ?_
    refine Wp_bipush (x := 30) d_F_lie_10 (by decide) ?_
    refine Wp_ivs_b (As := [vi v, vi (-30), vi 30]) d_F_lie_12 ln_F_59 mk_F_isWithin rfl rfl rfl (by omega) (t_F_isWithin E (d - 1) (by omega) w v (-30) 30) (fun g12 => ?_) (fun g12 => ?_)
    ·
      have k12 : (-30) ≤ v.toInt ∧ v.toInt ≤ 30 := g12
      refine Wp_if_ne d_F_lie_15 (fun _ => ?_) (fun q => absurd q (by decide))
      refine Wp_aload_n d_F_lie_24 rfl ?_
      refine Wp_getr d_F_lie_25 fd_F_28 rfl rfl rfl ?_
      refine Wp_ivv_dv (o := 12) (As := []) d_F_lie_28 ln_F_67 mk_D_outdate rfl rfl rfl rfl rfl (by omega) (t_D_outdate E (d - 1) (by omega) w) ?_
      refine Wp_aload_n d_F_lie_31 rfl ?_
      refine Wp_getr d_F_lie_32 fd_F_10 rfl rfl rfl ?_
      refine Wp_getr d_F_lie_35 fd_F_108 rfl rfl rfl ?_
      refine Wp_iload_n d_F_lie_38 rfl ?_
      refine Wp_ialdN (j := k1) d_F_lie_39 rfl rfl rfl rfl (by omega) ?_
      refine Wp_eqi (x2 := w 7 k1) (by simp [mU, mUr, upd]) ?_
      refine Wp_istore_n (ls2 := [lr 0, li (nI k1), li v, li (w 7 k1)]) d_F_lie_40 rfl rfl rfl ?_
      refine Wp_aload_n d_F_lie_41 rfl ?_
      refine Wp_getr d_F_lie_42 fd_F_10 rfl rfl rfl ?_
      refine Wp_iload_n d_F_lie_45 rfl ?_
      refine Wp_iload_n d_F_lie_46 rfl ?_
      refine Wp_ivv_dv (o := 1) (As := [vi (nI k1), vi v]) d_F_lie_47 ln_F_111 mk_P_tell rfl rfl rfl rfl rfl (by omega) (t_P_tell E (d - 1) (by omega) (mU w 12 6 1) k1 (by omega) v) ?_
      refine Wp_iload_n d_F_lie_50 rfl ?_
      refine Wp_reti (ty := .int) d_F_lie_51 rfl rfl ?_
      have e9 : oLie S (nI k1) v = (S 42 k1, mU S 42 k1 v) := by unfold oLie; rw [if_neg (by omega), cl (by omega)]
      rw [e9]
      refine ⟨congrFun hC.1.2.2.2.1 k1, ?_, fr_U2 (fr_U2 (fr_U (by decide)) (by decide)) (by decide)⟩
      rw [show mU w 12 6 1 3 = w 3 from mU_ne (by decide)]
      exact CC_lie hC (by omega) (by omega) (by omega)
    ·
      have k12 : ¬ ((-30) ≤ v.toInt ∧ v.toInt ≤ 30) := g12
      refine Wp_if_ne d_F_lie_15 (fun q => absurd q (by decide)) (fun _ => ?_)
      refine Wp_bipush (x := (-2)) d_F_lie_18 (by decide) ?_
      refine Wp_ivs_d (As := [vi (-2)]) d_F_lie_20 ln_F_105 mk_F_anyNumberRefusal rfl rfl rfl (by omega) (t_F_anyBad E (d - 1) (by omega) w) ?_
      refine Wp_reti (ty := .int) d_F_lie_23 rfl rfl ?_
      have e9 : oLie S (nI k1) v = (-1002, S) := by unfold oLie; rw [if_pos (by omega)]
      rw [e9]; exact ⟨rfl, hC, fr_rf⟩
  ·
    refine Wp_if_eq d_F_lie_4 (fun _ => ?_) (fun q => absurd (by decide) q)
    refine Wp_bipush (x := (-2)) d_F_lie_18 (by decide) ?_
    refine Wp_ivs_d (As := [vi (-2)]) d_F_lie_20 ln_F_105 mk_F_anyNumberRefusal rfl rfl rfl (by omega) (t_F_anyBad E (d - 1) (by omega) w) ?_
    refine Wp_reti (ty := .int) d_F_lie_23 rfl rfl ?_
    have e9 : oLie S k v = (-1002, S) := by unfold oLie; rw [if_pos (by omega)]
    rw [e9]; exact ⟨rfl, hC, fr_rf⟩
set_option maxRecDepth 100000 in
set_option maxHeartbeats 4000000 in
theorem t_R_isFit0 (E : mE) (d : Nat) (hd : 0 ≤ d) (w : mw) (v : Int32) : Tb E d m_R_isFit [vr 8, vi 0, vi v] w (1 ≤ v.toInt ∧ v.toInt ≤ 4) := by
  refine ⟨Nat.le_of_ble_eq_true rfl, ?_⟩
  show Wp E d m_R_isFit 0 [lr 8, li 0, li v] [] w _
  refine Wp_iload_n d_R_isFit_0 rfl ?_
  refine Wp_if_lt d_R_isFit_1 (fun q => absurd q (by decide)) (fun _ => ?_)
  refine Wp_iload_n d_R_isFit_4 rfl ?_
  refine Wp_aload_n d_R_isFit_5 rfl ?_
  refine Wp_getr d_R_isFit_6 fd_R_9 rfl rfl rfl ?_
  refine Wp_alen (x := 4) d_R_isFit_9 rfl rfl rfl ?_
  refine Wp_icmp_ge d_R_isFit_10 (fun q => absurd q (by decide)) (fun _ => ?_)
  refine Wp_iload_n d_R_isFit_13 rfl ?_
  refine Wp_gets (t := 59) d_R_isFit_14 rfl rfl fs_R_21 ?_
  refine Wp_iload_n d_R_isFit_17 rfl ?_
  refine Wp_saldN (j := 0) d_R_isFit_18 rfl rfl rfl (by decide) ?_
  refine Wp_eqi (x2 := 1) rfl ?_
  refine Wp_icmp_lt d_R_isFit_19 (fun h19 => ?_) (fun h19 => ?_)
  ·
    have g19 : v.toInt < 1 := i_lt h19
    refine Wp_iconst (x := 0) d_R_isFit_35 (by decide) ?_
    refine Wp_reti (ty := .boolean) d_R_isFit_36 rfl rfl ?_
    exact ⟨Or.inr ⟨rfl, fun q => by omega⟩, rfl⟩
  ·
    have g19 : 1 ≤ v.toInt := i_nlt h19
    refine Wp_iload_n d_R_isFit_22 rfl ?_
    refine Wp_gets (t := 60) d_R_isFit_23 rfl rfl fs_R_24 ?_
    refine Wp_iload_n d_R_isFit_26 rfl ?_
    refine Wp_saldN (j := 0) d_R_isFit_27 rfl rfl rfl (by decide) ?_
    refine Wp_eqi (x2 := 4) rfl ?_
    refine Wp_icmp_gt d_R_isFit_28 (fun h28 => ?_) (fun h28 => ?_)
    ·
      have g28 : 4 < v.toInt := i_lt h28
      refine Wp_iconst (x := 0) d_R_isFit_35 (by decide) ?_
      refine Wp_reti (ty := .boolean) d_R_isFit_36 rfl rfl ?_
      exact ⟨Or.inr ⟨rfl, fun q => by omega⟩, rfl⟩
    ·
      have g28 : v.toInt ≤ 4 := i_nlt h28
      refine Wp_iconst (x := 1) d_R_isFit_31 (by decide) ?_
      refine Wp_goto d_R_isFit_32 ?_
      refine Wp_reti (ty := .boolean) d_R_isFit_36 rfl rfl ?_
      exact ⟨Or.inl ⟨rfl, ⟨by omega, by omega⟩⟩, rfl⟩
set_option maxRecDepth 100000 in
set_option maxHeartbeats 4000000 in
theorem t_R_isFit1 (E : mE) (d : Nat) (hd : 0 ≤ d) (w : mw) (v : Int32) : Tb E d m_R_isFit [vr 8, vi 1, vi v] w (0 ≤ v.toInt ∧ v.toInt ≤ 2) := by
  refine ⟨Nat.le_of_ble_eq_true rfl, ?_⟩
  show Wp E d m_R_isFit 0 [lr 8, li 1, li v] [] w _
  refine Wp_iload_n d_R_isFit_0 rfl ?_
  refine Wp_if_lt d_R_isFit_1 (fun q => absurd q (by decide)) (fun _ => ?_)
  refine Wp_iload_n d_R_isFit_4 rfl ?_
  refine Wp_aload_n d_R_isFit_5 rfl ?_
  refine Wp_getr d_R_isFit_6 fd_R_9 rfl rfl rfl ?_
  refine Wp_alen (x := 4) d_R_isFit_9 rfl rfl rfl ?_
  refine Wp_icmp_ge d_R_isFit_10 (fun q => absurd q (by decide)) (fun _ => ?_)
  refine Wp_iload_n d_R_isFit_13 rfl ?_
  refine Wp_gets (t := 59) d_R_isFit_14 rfl rfl fs_R_21 ?_
  refine Wp_iload_n d_R_isFit_17 rfl ?_
  refine Wp_saldN (j := 1) d_R_isFit_18 rfl rfl rfl (by decide) ?_
  refine Wp_eqi (x2 := 0) rfl ?_
  refine Wp_icmp_lt d_R_isFit_19 (fun h19 => ?_) (fun h19 => ?_)
  ·
    have g19 : v.toInt < 0 := i_lt h19
    refine Wp_iconst (x := 0) d_R_isFit_35 (by decide) ?_
    refine Wp_reti (ty := .boolean) d_R_isFit_36 rfl rfl ?_
    exact ⟨Or.inr ⟨rfl, fun q => by omega⟩, rfl⟩
  ·
    have g19 : 0 ≤ v.toInt := i_nlt h19
    refine Wp_iload_n d_R_isFit_22 rfl ?_
    refine Wp_gets (t := 60) d_R_isFit_23 rfl rfl fs_R_24 ?_
    refine Wp_iload_n d_R_isFit_26 rfl ?_
    refine Wp_saldN (j := 1) d_R_isFit_27 rfl rfl rfl (by decide) ?_
    refine Wp_eqi (x2 := 2) rfl ?_
    refine Wp_icmp_gt d_R_isFit_28 (fun h28 => ?_) (fun h28 => ?_)
    ·
      have g28 : 2 < v.toInt := i_lt h28
      refine Wp_iconst (x := 0) d_R_isFit_35 (by decide) ?_
      refine Wp_reti (ty := .boolean) d_R_isFit_36 rfl rfl ?_
      exact ⟨Or.inr ⟨rfl, fun q => by omega⟩, rfl⟩
    ·
      have g28 : v.toInt ≤ 2 := i_nlt h28
      refine Wp_iconst (x := 1) d_R_isFit_31 (by decide) ?_
      refine Wp_goto d_R_isFit_32 ?_
      refine Wp_reti (ty := .boolean) d_R_isFit_36 rfl rfl ?_
      exact ⟨Or.inl ⟨rfl, ⟨by omega, by omega⟩⟩, rfl⟩
set_option maxRecDepth 100000 in
set_option maxHeartbeats 4000000 in
theorem t_R_isFit2 (E : mE) (d : Nat) (hd : 0 ≤ d) (w : mw) (v : Int32) : Tb E d m_R_isFit [vr 8, vi 2, vi v] w (0 ≤ v.toInt ∧ v.toInt ≤ 99) := by
  refine ⟨Nat.le_of_ble_eq_true rfl, ?_⟩
  show Wp E d m_R_isFit 0 [lr 8, li 2, li v] [] w _
  refine Wp_iload_n d_R_isFit_0 rfl ?_
  refine Wp_if_lt d_R_isFit_1 (fun q => absurd q (by decide)) (fun _ => ?_)
  refine Wp_iload_n d_R_isFit_4 rfl ?_
  refine Wp_aload_n d_R_isFit_5 rfl ?_
  refine Wp_getr d_R_isFit_6 fd_R_9 rfl rfl rfl ?_
  refine Wp_alen (x := 4) d_R_isFit_9 rfl rfl rfl ?_
  refine Wp_icmp_ge d_R_isFit_10 (fun q => absurd q (by decide)) (fun _ => ?_)
  refine Wp_iload_n d_R_isFit_13 rfl ?_
  refine Wp_gets (t := 59) d_R_isFit_14 rfl rfl fs_R_21 ?_
  refine Wp_iload_n d_R_isFit_17 rfl ?_
  refine Wp_saldN (j := 2) d_R_isFit_18 rfl rfl rfl (by decide) ?_
  refine Wp_eqi (x2 := 0) rfl ?_
  refine Wp_icmp_lt d_R_isFit_19 (fun h19 => ?_) (fun h19 => ?_)
  ·
    have g19 : v.toInt < 0 := i_lt h19
    refine Wp_iconst (x := 0) d_R_isFit_35 (by decide) ?_
    refine Wp_reti (ty := .boolean) d_R_isFit_36 rfl rfl ?_
    exact ⟨Or.inr ⟨rfl, fun q => by omega⟩, rfl⟩
  ·
    have g19 : 0 ≤ v.toInt := i_nlt h19
    refine Wp_iload_n d_R_isFit_22 rfl ?_
    refine Wp_gets (t := 60) d_R_isFit_23 rfl rfl fs_R_24 ?_
    refine Wp_iload_n d_R_isFit_26 rfl ?_
    refine Wp_saldN (j := 2) d_R_isFit_27 rfl rfl rfl (by decide) ?_
    refine Wp_eqi (x2 := 99) rfl ?_
    refine Wp_icmp_gt d_R_isFit_28 (fun h28 => ?_) (fun h28 => ?_)
    ·
      have g28 : 99 < v.toInt := i_lt h28
      refine Wp_iconst (x := 0) d_R_isFit_35 (by decide) ?_
      refine Wp_reti (ty := .boolean) d_R_isFit_36 rfl rfl ?_
      exact ⟨Or.inr ⟨rfl, fun q => by omega⟩, rfl⟩
    ·
      have g28 : v.toInt ≤ 99 := i_nlt h28
      refine Wp_iconst (x := 1) d_R_isFit_31 (by decide) ?_
      refine Wp_goto d_R_isFit_32 ?_
      refine Wp_reti (ty := .boolean) d_R_isFit_36 rfl rfl ?_
      exact ⟨Or.inl ⟨rfl, ⟨by omega, by omega⟩⟩, rfl⟩
set_option maxRecDepth 100000 in
set_option maxHeartbeats 4000000 in
theorem t_R_isFit3 (E : mE) (d : Nat) (hd : 0 ≤ d) (w : mw) (v : Int32) : Tb E d m_R_isFit [vr 8, vi 3, vi v] w (0 ≤ v.toInt ∧ v.toInt ≤ 9) := by
  refine ⟨Nat.le_of_ble_eq_true rfl, ?_⟩
  show Wp E d m_R_isFit 0 [lr 8, li 3, li v] [] w _
  refine Wp_iload_n d_R_isFit_0 rfl ?_
  refine Wp_if_lt d_R_isFit_1 (fun q => absurd q (by decide)) (fun _ => ?_)
  refine Wp_iload_n d_R_isFit_4 rfl ?_
  refine Wp_aload_n d_R_isFit_5 rfl ?_
  refine Wp_getr d_R_isFit_6 fd_R_9 rfl rfl rfl ?_
  refine Wp_alen (x := 4) d_R_isFit_9 rfl rfl rfl ?_
  refine Wp_icmp_ge d_R_isFit_10 (fun q => absurd q (by decide)) (fun _ => ?_)
  refine Wp_iload_n d_R_isFit_13 rfl ?_
  refine Wp_gets (t := 59) d_R_isFit_14 rfl rfl fs_R_21 ?_
  refine Wp_iload_n d_R_isFit_17 rfl ?_
  refine Wp_saldN (j := 3) d_R_isFit_18 rfl rfl rfl (by decide) ?_
  refine Wp_eqi (x2 := 0) rfl ?_
  refine Wp_icmp_lt d_R_isFit_19 (fun h19 => ?_) (fun h19 => ?_)
  ·
    have g19 : v.toInt < 0 := i_lt h19
    refine Wp_iconst (x := 0) d_R_isFit_35 (by decide) ?_
    refine Wp_reti (ty := .boolean) d_R_isFit_36 rfl rfl ?_
    exact ⟨Or.inr ⟨rfl, fun q => by omega⟩, rfl⟩
  ·
    have g19 : 0 ≤ v.toInt := i_nlt h19
    refine Wp_iload_n d_R_isFit_22 rfl ?_
    refine Wp_gets (t := 60) d_R_isFit_23 rfl rfl fs_R_24 ?_
    refine Wp_iload_n d_R_isFit_26 rfl ?_
    refine Wp_saldN (j := 3) d_R_isFit_27 rfl rfl rfl (by decide) ?_
    refine Wp_eqi (x2 := 9) rfl ?_
    refine Wp_icmp_gt d_R_isFit_28 (fun h28 => ?_) (fun h28 => ?_)
    ·
      have g28 : 9 < v.toInt := i_lt h28
      refine Wp_iconst (x := 0) d_R_isFit_35 (by decide) ?_
      refine Wp_reti (ty := .boolean) d_R_isFit_36 rfl rfl ?_
      exact ⟨Or.inr ⟨rfl, fun q => by omega⟩, rfl⟩
    ·
      have g28 : v.toInt ≤ 9 := i_nlt h28
      refine Wp_iconst (x := 1) d_R_isFit_31 (by decide) ?_
      refine Wp_goto d_R_isFit_32 ?_
      refine Wp_reti (ty := .boolean) d_R_isFit_36 rfl rfl ?_
      exact ⟨Or.inl ⟨rfl, ⟨by omega, by omega⟩⟩, rfl⟩
set_option maxRecDepth 100000 in
set_option maxHeartbeats 4000000 in
theorem t_R_isFitN (E : mE) (d : Nat) (hd : 0 ≤ d) (w : mw) (a v : Int32) (ha : ¬ (0 ≤ a.toInt ∧ a.toInt ≤ 3)) : Tb E d m_R_isFit [vr 8, vi a, vi v] w False := by
  refine ⟨Nat.le_of_ble_eq_true rfl, ?_⟩
  show Wp E d m_R_isFit 0 [lr 8, li a, li v] [] w _
  refine Wp_iload_n d_R_isFit_0 rfl ?_
  refine Wp_if_lt d_R_isFit_1 (fun h1 => ?_) (fun h1 => ?_)
  ·
    have g1 : a.toInt < 0 := i_lt h1
    refine Wp_iconst (x := 0) d_R_isFit_35 (by decide) ?_
    refine Wp_reti (ty := .boolean) d_R_isFit_36 rfl rfl ?_
    exact ⟨Or.inr ⟨rfl, id⟩, rfl⟩
  ·
    have g1 : 0 ≤ a.toInt := i_nlt h1
    refine Wp_iload_n d_R_isFit_4 rfl ?_
    refine Wp_aload_n d_R_isFit_5 rfl ?_
    refine Wp_getr d_R_isFit_6 fd_R_9 rfl rfl rfl ?_
    refine Wp_alen (x := 4) d_R_isFit_9 rfl rfl rfl ?_
    refine Wp_icmp_ge d_R_isFit_10 (fun h10 => ?_) (fun q => absurd (i_nle q) (fun q => ha ⟨g1, by have e : Int32.toInt 4 = 4 := rfl; omega⟩))
    refine Wp_iconst (x := 0) d_R_isFit_35 (by decide) ?_
    refine Wp_reti (ty := .boolean) d_R_isFit_36 rfl rfl ?_
    exact ⟨Or.inr ⟨rfl, id⟩, rfl⟩
set_option maxRecDepth 100000 in
set_option maxHeartbeats 4000000 in
theorem t_F_set (E : mE) (d : Nat) (hd : 1 ≤ d) (w : mw) (S : mw) (hC : CC w S) (hV : VM S) (a v : Int32) : Ti E d m_F_set [vr 0, vi a, vi v] w (fun r w1 => r = (oSet S a v).1 ∧ CC w1 (oSet S a v).2 ∧ fr cRows w w1) := by
  refine ⟨Nat.le_of_ble_eq_true rfl, ?_⟩
  show Wp E d m_F_set 0 [lr 0, li a, li v] [] w _
  by_cases ha : 0 ≤ a.toInt ∧ a.toInt ≤ 3
  · rcases four ha with rfl | rfl | rfl | rfl
    ·
      refine Wp_aload_n d_F_set_0 rfl ?_
      refine Wp_getr d_F_set_1 fd_F_19 rfl rfl rfl ?_
      refine Wp_iload_n d_F_set_4 rfl ?_
      refine Wp_iload_n d_F_set_5 rfl ?_
      refine Wp_ivv_b (o := 8) (As := [vi 0, vi v]) d_F_set_6 ln_F_136 mk_R_isFit rfl rfl rfl rfl rfl (by omega) (t_R_isFit0 E (d - 1) (by omega) w v) (fun g6 => ?_) (fun g6 => ?_)
      ·
        refine Wp_if_ne d_F_set_9 (fun _ => ?_) (fun q => absurd q (by decide))
        refine Wp_aload_n d_F_set_15 rfl ?_
        refine Wp_getr d_F_set_16 fd_F_28 rfl rfl rfl ?_
        refine Wp_ivv_dv (o := 12) (As := []) d_F_set_19 ln_F_67 mk_D_outdate rfl rfl rfl rfl rfl (by omega) (t_D_outdate E (d - 1) (by omega) w) ?_
        refine Wp_aload_n d_F_set_22 rfl ?_
        refine Wp_getr d_F_set_23 fd_F_19 rfl rfl rfl ?_
        refine Wp_getr d_F_set_26 fd_F_140 rfl rfl rfl ?_
        refine Wp_iload_n d_F_set_29 rfl ?_
        refine Wp_iload_n d_F_set_30 rfl ?_
        refine Wp_ivs_d (As := [vr 9, vi 0, vi v]) d_F_set_31 ln_F_101 mk_F_exchange rfl rfl rfl (by omega) (t_F_exchange9 E (d - 1) (by omega) (mU w 12 6 1) 0 (by omega) v) ?_
        refine Wp_reti (ty := .int) d_F_set_34 rfl rfl ?_
        have e9 : oSet S 0 v = (S 43 0, mU S 43 0 v) := if_neg (fun q => q.elim (fun q => q (by decide)) (fun q => q g6))
        rw [e9]; exact ⟨(congrFun (mU_ne (by decide)) _).trans (congrFun hC.2.2.1.1 _), CC_set hC, fr_U2 (fr_U (by decide)) (by decide)⟩
      ·
        refine Wp_if_ne d_F_set_9 (fun q => absurd q (by decide)) (fun _ => ?_)
        refine Wp_bipush (x := (-2)) d_F_set_12 (by decide) ?_
        refine Wp_reti (ty := .int) d_F_set_14 rfl rfl ?_
        have e9 : oSet S 0 v = (-2, S) := if_pos (Or.inr g6)
        rw [e9]; exact ⟨rfl, hC, fr_rf⟩
    ·
      refine Wp_aload_n d_F_set_0 rfl ?_
      refine Wp_getr d_F_set_1 fd_F_19 rfl rfl rfl ?_
      refine Wp_iload_n d_F_set_4 rfl ?_
      refine Wp_iload_n d_F_set_5 rfl ?_
      refine Wp_ivv_b (o := 8) (As := [vi 1, vi v]) d_F_set_6 ln_F_136 mk_R_isFit rfl rfl rfl rfl rfl (by omega) (t_R_isFit1 E (d - 1) (by omega) w v) (fun g6 => ?_) (fun g6 => ?_)
      ·
        refine Wp_if_ne d_F_set_9 (fun _ => ?_) (fun q => absurd q (by decide))
        refine Wp_aload_n d_F_set_15 rfl ?_
        refine Wp_getr d_F_set_16 fd_F_28 rfl rfl rfl ?_
        refine Wp_ivv_dv (o := 12) (As := []) d_F_set_19 ln_F_67 mk_D_outdate rfl rfl rfl rfl rfl (by omega) (t_D_outdate E (d - 1) (by omega) w) ?_
        refine Wp_aload_n d_F_set_22 rfl ?_
        refine Wp_getr d_F_set_23 fd_F_19 rfl rfl rfl ?_
        refine Wp_getr d_F_set_26 fd_F_140 rfl rfl rfl ?_
        refine Wp_iload_n d_F_set_29 rfl ?_
        refine Wp_iload_n d_F_set_30 rfl ?_
        refine Wp_ivs_d (As := [vr 9, vi 1, vi v]) d_F_set_31 ln_F_101 mk_F_exchange rfl rfl rfl (by omega) (t_F_exchange9 E (d - 1) (by omega) (mU w 12 6 1) 1 (by omega) v) ?_
        refine Wp_reti (ty := .int) d_F_set_34 rfl rfl ?_
        have e9 : oSet S 1 v = (S 43 1, mU S 43 1 v) := if_neg (fun q => q.elim (fun q => q (by decide)) (fun q => q g6))
        rw [e9]; exact ⟨(congrFun (mU_ne (by decide)) _).trans (congrFun hC.2.2.1.1 _), CC_set hC, fr_U2 (fr_U (by decide)) (by decide)⟩
      ·
        refine Wp_if_ne d_F_set_9 (fun q => absurd q (by decide)) (fun _ => ?_)
        refine Wp_bipush (x := (-2)) d_F_set_12 (by decide) ?_
        refine Wp_reti (ty := .int) d_F_set_14 rfl rfl ?_
        have e9 : oSet S 1 v = (-2, S) := if_pos (Or.inr g6)
        rw [e9]; exact ⟨rfl, hC, fr_rf⟩
    ·
      refine Wp_aload_n d_F_set_0 rfl ?_
      refine Wp_getr d_F_set_1 fd_F_19 rfl rfl rfl ?_
      refine Wp_iload_n d_F_set_4 rfl ?_
      refine Wp_iload_n d_F_set_5 rfl ?_
      refine Wp_ivv_b (o := 8) (As := [vi 2, vi v]) d_F_set_6 ln_F_136 mk_R_isFit rfl rfl rfl rfl rfl (by omega) (t_R_isFit2 E (d - 1) (by omega) w v) (fun g6 => ?_) (fun g6 => ?_)
      ·
        refine Wp_if_ne d_F_set_9 (fun _ => ?_) (fun q => absurd q (by decide))
        refine Wp_aload_n d_F_set_15 rfl ?_
        refine Wp_getr d_F_set_16 fd_F_28 rfl rfl rfl ?_
        refine Wp_ivv_dv (o := 12) (As := []) d_F_set_19 ln_F_67 mk_D_outdate rfl rfl rfl rfl rfl (by omega) (t_D_outdate E (d - 1) (by omega) w) ?_
        refine Wp_aload_n d_F_set_22 rfl ?_
        refine Wp_getr d_F_set_23 fd_F_19 rfl rfl rfl ?_
        refine Wp_getr d_F_set_26 fd_F_140 rfl rfl rfl ?_
        refine Wp_iload_n d_F_set_29 rfl ?_
        refine Wp_iload_n d_F_set_30 rfl ?_
        refine Wp_ivs_d (As := [vr 9, vi 2, vi v]) d_F_set_31 ln_F_101 mk_F_exchange rfl rfl rfl (by omega) (t_F_exchange9 E (d - 1) (by omega) (mU w 12 6 1) 2 (by omega) v) ?_
        refine Wp_reti (ty := .int) d_F_set_34 rfl rfl ?_
        have e9 : oSet S 2 v = (S 43 2, mU S 43 2 v) := if_neg (fun q => q.elim (fun q => q (by decide)) (fun q => q g6))
        rw [e9]; exact ⟨(congrFun (mU_ne (by decide)) _).trans (congrFun hC.2.2.1.1 _), CC_set hC, fr_U2 (fr_U (by decide)) (by decide)⟩
      ·
        refine Wp_if_ne d_F_set_9 (fun q => absurd q (by decide)) (fun _ => ?_)
        refine Wp_bipush (x := (-2)) d_F_set_12 (by decide) ?_
        refine Wp_reti (ty := .int) d_F_set_14 rfl rfl ?_
        have e9 : oSet S 2 v = (-2, S) := if_pos (Or.inr g6)
        rw [e9]; exact ⟨rfl, hC, fr_rf⟩
    ·
      refine Wp_aload_n d_F_set_0 rfl ?_
      refine Wp_getr d_F_set_1 fd_F_19 rfl rfl rfl ?_
      refine Wp_iload_n d_F_set_4 rfl ?_
      refine Wp_iload_n d_F_set_5 rfl ?_
      refine Wp_ivv_b (o := 8) (As := [vi 3, vi v]) d_F_set_6 ln_F_136 mk_R_isFit rfl rfl rfl rfl rfl (by omega) (t_R_isFit3 E (d - 1) (by omega) w v) (fun g6 => ?_) (fun g6 => ?_)
      ·
        refine Wp_if_ne d_F_set_9 (fun _ => ?_) (fun q => absurd q (by decide))
        refine Wp_aload_n d_F_set_15 rfl ?_
        refine Wp_getr d_F_set_16 fd_F_28 rfl rfl rfl ?_
        refine Wp_ivv_dv (o := 12) (As := []) d_F_set_19 ln_F_67 mk_D_outdate rfl rfl rfl rfl rfl (by omega) (t_D_outdate E (d - 1) (by omega) w) ?_
        refine Wp_aload_n d_F_set_22 rfl ?_
        refine Wp_getr d_F_set_23 fd_F_19 rfl rfl rfl ?_
        refine Wp_getr d_F_set_26 fd_F_140 rfl rfl rfl ?_
        refine Wp_iload_n d_F_set_29 rfl ?_
        refine Wp_iload_n d_F_set_30 rfl ?_
        refine Wp_ivs_d (As := [vr 9, vi 3, vi v]) d_F_set_31 ln_F_101 mk_F_exchange rfl rfl rfl (by omega) (t_F_exchange9 E (d - 1) (by omega) (mU w 12 6 1) 3 (by omega) v) ?_
        refine Wp_reti (ty := .int) d_F_set_34 rfl rfl ?_
        have e9 : oSet S 3 v = (S 43 3, mU S 43 3 v) := if_neg (fun q => q.elim (fun q => q (by decide)) (fun q => q g6))
        rw [e9]; exact ⟨(congrFun (mU_ne (by decide)) _).trans (congrFun hC.2.2.1.1 _), CC_set hC, fr_U2 (fr_U (by decide)) (by decide)⟩
      ·
        refine Wp_if_ne d_F_set_9 (fun q => absurd q (by decide)) (fun _ => ?_)
        refine Wp_bipush (x := (-2)) d_F_set_12 (by decide) ?_
        refine Wp_reti (ty := .int) d_F_set_14 rfl rfl ?_
        have e9 : oSet S 3 v = (-2, S) := if_pos (Or.inr g6)
        rw [e9]; exact ⟨rfl, hC, fr_rf⟩
  ·
    refine Wp_aload_n d_F_set_0 rfl ?_
    refine Wp_getr d_F_set_1 fd_F_19 rfl rfl rfl ?_
    refine Wp_iload_n d_F_set_4 rfl ?_
    refine Wp_iload_n d_F_set_5 rfl ?_
    refine Wp_ivv_b (o := 8) (As := [vi a, vi v]) d_F_set_6 ln_F_136 mk_R_isFit rfl rfl rfl rfl rfl (by omega) (t_R_isFitN E (d - 1) (by omega) w a v ha) (fun g6 => ?_) (fun g6 => ?_)
    ·
      exact g6.elim
    ·
      refine Wp_if_ne d_F_set_9 (fun q => absurd q (by decide)) (fun _ => ?_)
      refine Wp_bipush (x := (-2)) d_F_set_12 (by decide) ?_
      refine Wp_reti (ty := .int) d_F_set_14 rfl rfl ?_
      have e9 : oSet S a v = (-2, S) := by unfold oSet; rw [if_pos (Or.inl ha)]
      rw [e9]; exact ⟨rfl, hC, fr_rf⟩
set_option maxRecDepth 100000 in
set_option maxHeartbeats 4000000 in
theorem t_R_tie10 (E : mE) (d : Nat) (hd : 2 ≤ d) (w : mw) (a b : Nat) (v : Int32) (ha : a < 10) (hb : b < 10) : Td E d m_R_tie [vr 8, vr 10, vi (nI a), vi (nI b), vi v] w (tieA (w 10) a b) (mUr w 10 (tieR (w 10) a b v)) := by
  refine ⟨Nat.le_of_ble_eq_true rfl, ?_⟩
  show Wp E d m_R_tie 0 [lr 8, lr 10, li (nI a), li (nI b), li v, lo] [] w _
  refine Wp_iload_n d_R_tie_0 rfl ?_
  refine Wp_ivsN_b (As := [vi (nI a)]) d_R_tie_1 ln_R_27 mk_F_isNumber rfl rfl rfl (by omega) (t_F_isNumber E (d - 1) (by omega) w (nI a)) (fun g1 => ?_) (fun g1 => ?_)
  ·
    refine Wp_if_eq d_R_tie_4 (fun q => absurd q (by decide)) (fun _ => ?_)
    refine Wp_iload_n d_R_tie_7 rfl ?_
    refine Wp_ivsN_b (As := [vi (nI b)]) d_R_tie_8 ln_R_27 mk_F_isNumber rfl rfl rfl (by omega) (t_F_isNumber E (d - 1) (by omega) w (nI b)) (fun g8 => ?_) (fun g8 => ?_)
    ·
      refine Wp_if_ne d_R_tie_11 (fun _ => ?_) (fun q => absurd q (by decide))
      refine Wp_aload_n d_R_tie_17 rfl ?_
      refine Wp_iload_n d_R_tie_18 rfl ?_
      refine Wp_ialdN (j := a) d_R_tie_19 rfl rfl rfl rfl (by omega) ?_
      refine Wp_iload_n d_R_tie_20 rfl ?_
      refine Wp_ishr d_R_tie_21 ?_
      refine Wp_iconst (x := 1) d_R_tie_22 (by decide) ?_
      refine Wp_iand d_R_tie_23 ?_
      refine Wp_istore (ls2 := [lr 8, lr 10, li (nI a), li (nI b), li v, li (((w 10 a) >>> ((nI b) &&& 31)) &&& 1)]) d_R_tie_24 rfl rfl rfl ?_
      refine Wp_aload_n d_R_tie_26 rfl ?_
      refine Wp_iload_n d_R_tie_27 rfl ?_
      refine Wp_aload_n d_R_tie_28 rfl ?_
      refine Wp_iload_n d_R_tie_29 rfl ?_
      refine Wp_ialdN (j := a) d_R_tie_30 rfl rfl rfl rfl (by omega) ?_
      refine Wp_iconst (x := 1) d_R_tie_31 (by decide) ?_
      refine Wp_iload_n d_R_tie_32 rfl ?_
      refine Wp_ishl d_R_tie_33 ?_
      refine Wp_iconst (x := (-1)) d_R_tie_34 (by decide) ?_
      refine Wp_ixor d_R_tie_35 ?_
      refine Wp_iand d_R_tie_36 ?_
      refine Wp_iload d_R_tie_37 rfl ?_
      refine Wp_iload_n d_R_tie_39 rfl ?_
      refine Wp_ishl d_R_tie_40 ?_
      refine Wp_ior d_R_tie_41 ?_
      refine Wp_iastN (j := a) d_R_tie_42 rfl rfl rfl rfl (by omega) ?_
      refine Wp_aload_n d_R_tie_43 rfl ?_
      refine Wp_iload_n d_R_tie_44 rfl ?_
      refine Wp_aload_n d_R_tie_45 rfl ?_
      refine Wp_iload_n d_R_tie_46 rfl ?_
      refine Wp_ialdN (j := b) d_R_tie_47 rfl rfl rfl rfl (by omega) ?_
      refine Wp_iconst (x := 1) d_R_tie_48 (by decide) ?_
      refine Wp_iload_n d_R_tie_49 rfl ?_
      refine Wp_ishl d_R_tie_50 ?_
      refine Wp_iconst (x := (-1)) d_R_tie_51 (by decide) ?_
      refine Wp_ixor d_R_tie_52 ?_
      refine Wp_iand d_R_tie_53 ?_
      refine Wp_iload d_R_tie_54 rfl ?_
      refine Wp_iload_n d_R_tie_56 rfl ?_
      refine Wp_ishl d_R_tie_57 ?_
      refine Wp_ior d_R_tie_58 ?_
      refine Wp_iastN (j := b) d_R_tie_59 rfl rfl rfl rfl (by omega) ?_
      refine Wp_iload d_R_tie_60 rfl ?_
      refine Wp_reti (ty := .int) d_R_tie_62 rfl rfl ?_
      exact ⟨rfl, by simp only [mU, mUr_eq, mUr_mUr, tieR]⟩
    ·
      exact absurd (by have := ti (show b < 2147483648 by omega); omega) g8
  ·
    exact absurd (by have := ti (show a < 2147483648 by omega); omega) g1
set_option maxRecDepth 100000 in
set_option maxHeartbeats 4000000 in
theorem t_R_tie11 (E : mE) (d : Nat) (hd : 2 ≤ d) (w : mw) (a b : Nat) (v : Int32) (ha : a < 10) (hb : b < 10) : Td E d m_R_tie [vr 8, vr 11, vi (nI a), vi (nI b), vi v] w (tieA (w 11) a b) (mUr w 11 (tieR (w 11) a b v)) := by
  refine ⟨Nat.le_of_ble_eq_true rfl, ?_⟩
  show Wp E d m_R_tie 0 [lr 8, lr 11, li (nI a), li (nI b), li v, lo] [] w _
  refine Wp_iload_n d_R_tie_0 rfl ?_
  refine Wp_ivsN_b (As := [vi (nI a)]) d_R_tie_1 ln_R_27 mk_F_isNumber rfl rfl rfl (by omega) (t_F_isNumber E (d - 1) (by omega) w (nI a)) (fun g1 => ?_) (fun g1 => ?_)
  ·
    refine Wp_if_eq d_R_tie_4 (fun q => absurd q (by decide)) (fun _ => ?_)
    refine Wp_iload_n d_R_tie_7 rfl ?_
    refine Wp_ivsN_b (As := [vi (nI b)]) d_R_tie_8 ln_R_27 mk_F_isNumber rfl rfl rfl (by omega) (t_F_isNumber E (d - 1) (by omega) w (nI b)) (fun g8 => ?_) (fun g8 => ?_)
    ·
      refine Wp_if_ne d_R_tie_11 (fun _ => ?_) (fun q => absurd q (by decide))
      refine Wp_aload_n d_R_tie_17 rfl ?_
      refine Wp_iload_n d_R_tie_18 rfl ?_
      refine Wp_ialdN (j := a) d_R_tie_19 rfl rfl rfl rfl (by omega) ?_
      refine Wp_iload_n d_R_tie_20 rfl ?_
      refine Wp_ishr d_R_tie_21 ?_
      refine Wp_iconst (x := 1) d_R_tie_22 (by decide) ?_
      refine Wp_iand d_R_tie_23 ?_
      refine Wp_istore (ls2 := [lr 8, lr 11, li (nI a), li (nI b), li v, li (((w 11 a) >>> ((nI b) &&& 31)) &&& 1)]) d_R_tie_24 rfl rfl rfl ?_
      refine Wp_aload_n d_R_tie_26 rfl ?_
      refine Wp_iload_n d_R_tie_27 rfl ?_
      refine Wp_aload_n d_R_tie_28 rfl ?_
      refine Wp_iload_n d_R_tie_29 rfl ?_
      refine Wp_ialdN (j := a) d_R_tie_30 rfl rfl rfl rfl (by omega) ?_
      refine Wp_iconst (x := 1) d_R_tie_31 (by decide) ?_
      refine Wp_iload_n d_R_tie_32 rfl ?_
      refine Wp_ishl d_R_tie_33 ?_
      refine Wp_iconst (x := (-1)) d_R_tie_34 (by decide) ?_
      refine Wp_ixor d_R_tie_35 ?_
      refine Wp_iand d_R_tie_36 ?_
      refine Wp_iload d_R_tie_37 rfl ?_
      refine Wp_iload_n d_R_tie_39 rfl ?_
      refine Wp_ishl d_R_tie_40 ?_
      refine Wp_ior d_R_tie_41 ?_
      refine Wp_iastN (j := a) d_R_tie_42 rfl rfl rfl rfl (by omega) ?_
      refine Wp_aload_n d_R_tie_43 rfl ?_
      refine Wp_iload_n d_R_tie_44 rfl ?_
      refine Wp_aload_n d_R_tie_45 rfl ?_
      refine Wp_iload_n d_R_tie_46 rfl ?_
      refine Wp_ialdN (j := b) d_R_tie_47 rfl rfl rfl rfl (by omega) ?_
      refine Wp_iconst (x := 1) d_R_tie_48 (by decide) ?_
      refine Wp_iload_n d_R_tie_49 rfl ?_
      refine Wp_ishl d_R_tie_50 ?_
      refine Wp_iconst (x := (-1)) d_R_tie_51 (by decide) ?_
      refine Wp_ixor d_R_tie_52 ?_
      refine Wp_iand d_R_tie_53 ?_
      refine Wp_iload d_R_tie_54 rfl ?_
      refine Wp_iload_n d_R_tie_56 rfl ?_
      refine Wp_ishl d_R_tie_57 ?_
      refine Wp_ior d_R_tie_58 ?_
      refine Wp_iastN (j := b) d_R_tie_59 rfl rfl rfl rfl (by omega) ?_
      refine Wp_iload d_R_tie_60 rfl ?_
      refine Wp_reti (ty := .int) d_R_tie_62 rfl rfl ?_
      exact ⟨rfl, by simp only [mU, mUr_eq, mUr_mUr, tieR]⟩
    ·
      exact absurd (by have := ti (show b < 2147483648 by omega); omega) g8
  ·
    exact absurd (by have := ti (show a < 2147483648 by omega); omega) g1
set_option maxRecDepth 100000 in
set_option maxHeartbeats 4000000 in
theorem t_F_pair (E : mE) (d : Nat) (hd : 3 ≤ d) (w : mw) (S : mw) (hC : CC w S) (hV : VM S) (k a b v : Int32) : Ti E d m_F_pair [vr 0, vi k, vi a, vi b, vi v] w (fun r w1 => r = (oPair S k a b v).1 ∧ CC w1 (oPair S k a b v).2 ∧ fr cRows w w1) := by
  refine ⟨Nat.le_of_ble_eq_true rfl, ?_⟩
  show Wp E d m_F_pair 0 [lr 0, li k, li a, li b, li v] [] w _
  refine Wp_iload_n d_F_pair_0 rfl ?_
  refine Wp_iconst (x := 0) d_F_pair_1 (by decide) ?_
  refine Wp_iconst (x := 1) d_F_pair_2 (by decide) ?_
  refine Wp_ivs_b (As := [vi k, vi 0, vi 1]) d_F_pair_3 ln_F_59 mk_F_isWithin rfl rfl rfl (by omega) (t_F_isWithin E (d - 1) (by omega) w k 0 1) (fun g3 => ?_) (fun g3 => ?_)
  ·
    have k3 : 0 ≤ k.toInt ∧ k.toInt ≤ 1 := g3
    refine Wp_if_eq d_F_pair_6 (fun q => absurd q (by decide)) (fun _ => ?_)
    refine Wp_iload_n d_F_pair_9 rfl ?_
    refine Wp_ivs_b (As := [vi a]) d_F_pair_10 ln_F_92 mk_F_isNumber rfl rfl rfl (by omega) (t_F_isNumber E (d - 1) (by omega) w a) (fun g10 => ?_) (fun g10 => ?_)
    ·
      obtain ⟨a1, h_a1, rfl⟩ := nu_of g10
      have tN_a1 := ti (show a1 < 2147483648 by omega)
      refine Wp_if_eq d_F_pair_13 (fun q => absurd q (by decide)) (fun _ => ?_)
      refine Wp_iload_n d_F_pair_16 rfl ?_
      refine Wp_ivs_b (As := [vi b]) d_F_pair_17 ln_F_92 mk_F_isNumber rfl rfl rfl (by omega) (t_F_isNumber E (d - 1) (by omega) w b) (fun g17 => ?_) (fun g17 => ?_)
      ·
        obtain ⟨b1, h_b1, rfl⟩ := nu_of g17
        have tN_b1 := ti (show b1 < 2147483648 by omega)
        refine Wp_if_eq d_F_pair_20 (fun q => absurd q (by decide)) (fun _ => ?_)
        refine Wp_iload_n d_F_pair_23 rfl ?_
        refine Wp_iload_n d_F_pair_24 rfl ?_
        refine Wp_icmp_eq d_F_pair_25 (fun h25 => ?_) (fun h25 => ?_)
        ·
          have g25 : (nI a1).toInt = (nI b1).toInt := by rw [h25]
          refine Wp_bipush (x := (-2)) d_F_pair_38 (by decide) ?_
          refine Wp_reti (ty := .int) d_F_pair_40 rfl rfl ?_
          have e9 : oPair S k (nI a1) (nI b1) v = (-2, S) := by unfold oPair; rw [if_pos (by omega)]
          rw [e9]; exact ⟨rfl, hC, fr_rf⟩
        ·
          have g25 : (nI a1).toInt ≠ (nI b1).toInt := i_ne h25
          refine Wp_iload d_F_pair_28 rfl ?_
          refine Wp_iconst (x := 0) d_F_pair_30 (by decide) ?_
          refine Wp_iconst (x := 1) d_F_pair_31 (by decide) ?_
          refine Wp_ivs_b (As := [vi v, vi 0, vi 1]) d_F_pair_32 ln_F_59 mk_F_isWithin rfl rfl rfl (by omega) (t_F_isWithin E (d - 1) (by omega) w v 0 1) (fun g32 => ?_) (fun g32 => ?_)
          ·
            have k32 : 0 ≤ v.toInt ∧ v.toInt ≤ 1 := g32
            refine Wp_if_ne d_F_pair_35 (fun _ => ?_) (fun q => absurd q (by decide))
            refine Wp_aload_n d_F_pair_41 rfl ?_
            refine Wp_getr d_F_pair_42 fd_F_28 rfl rfl rfl ?_
            refine Wp_ivv_dv (o := 12) (As := []) d_F_pair_45 ln_F_67 mk_D_outdate rfl rfl rfl rfl rfl (by omega) (t_D_outdate E (d - 1) (by omega) w) ?_
            refine Wp_aload_n d_F_pair_48 rfl ?_
            refine Wp_getr d_F_pair_49 fd_F_19 rfl rfl rfl ?_
            refine Wp_iload_n d_F_pair_52 rfl ?_
            refine Wp_if_ne d_F_pair_53 (fun h53 => ?_) (fun h53 => ?_)
            ·
              have g53 : k.toInt ≠ 0 := i_ne h53
              refine Wp_aload_n d_F_pair_66 rfl ?_
              refine Wp_getr d_F_pair_67 fd_F_19 rfl rfl rfl ?_
              refine Wp_getr d_F_pair_70 fd_F_146 rfl rfl rfl ?_
              refine Wp_iload_n d_F_pair_73 rfl ?_
              refine Wp_iload_n d_F_pair_74 rfl ?_
              refine Wp_iload d_F_pair_75 rfl ?_
              refine Wp_ivv_d (o := 8) (As := [vr 11, vi (nI a1), vi (nI b1), vi v]) d_F_pair_77 ln_F_149 mk_R_tie rfl rfl rfl rfl rfl (by omega) (t_R_tie11 E (d - 1) (by omega) (mU w 12 6 1) a1 b1 v (by omega) (by omega)) ?_
              refine Wp_reti (ty := .int) d_F_pair_80 rfl rfl ?_
              have e9 : oPair S k (nI a1) (nI b1) v = (tieA (S 45) a1 b1, mUr S 45 (tieR (S 45) a1 b1 v)) := by unfold oPair; rw [if_neg (by omega), if_neg h53, cl (by omega), cl (by omega)]
              rw [e9]
              have e : mU w 12 6 1 11 = S 45 := (mU_ne (by decide)).trans hC.2.2.1.2.2
              rw [e]
              exact ⟨rfl, CC_mu hC, fr_Ur2 (fr_U (by decide)) (by decide)⟩
            ·
              refine Wp_aload_n d_F_pair_56 rfl ?_
              refine Wp_getr d_F_pair_57 fd_F_19 rfl rfl rfl ?_
              refine Wp_getr d_F_pair_60 fd_F_143 rfl rfl rfl ?_
              refine Wp_goto d_F_pair_63 ?_
              refine Wp_iload_n d_F_pair_73 rfl ?_
              refine Wp_iload_n d_F_pair_74 rfl ?_
              refine Wp_iload d_F_pair_75 rfl ?_
              refine Wp_ivv_d (o := 8) (As := [vr 10, vi (nI a1), vi (nI b1), vi v]) d_F_pair_77 ln_F_149 mk_R_tie rfl rfl rfl rfl rfl (by omega) (t_R_tie10 E (d - 1) (by omega) (mU w 12 6 1) a1 b1 v (by omega) (by omega)) ?_
              refine Wp_reti (ty := .int) d_F_pair_80 rfl rfl ?_
              have e9 : oPair S k (nI a1) (nI b1) v = (tieA (S 44) a1 b1, mUr S 44 (tieR (S 44) a1 b1 v)) := by unfold oPair; rw [if_neg (by omega), if_pos h53, cl (by omega), cl (by omega)]
              rw [e9]
              have e : mU w 12 6 1 10 = S 44 := (mU_ne (by decide)).trans hC.2.2.1.2.1
              rw [e]
              exact ⟨rfl, CC_wo hC, fr_Ur2 (fr_U (by decide)) (by decide)⟩
          ·
            have k32 : ¬ (0 ≤ v.toInt ∧ v.toInt ≤ 1) := g32
            refine Wp_if_ne d_F_pair_35 (fun q => absurd q (by decide)) (fun _ => ?_)
            refine Wp_bipush (x := (-2)) d_F_pair_38 (by decide) ?_
            refine Wp_reti (ty := .int) d_F_pair_40 rfl rfl ?_
            have e9 : oPair S k (nI a1) (nI b1) v = (-2, S) := by unfold oPair; rw [if_pos (by omega)]
            rw [e9]; exact ⟨rfl, hC, fr_rf⟩
      ·
        refine Wp_if_eq d_F_pair_20 (fun _ => ?_) (fun q => absurd (by decide) q)
        refine Wp_bipush (x := (-2)) d_F_pair_38 (by decide) ?_
        refine Wp_reti (ty := .int) d_F_pair_40 rfl rfl ?_
        have e9 : oPair S k (nI a1) b v = (-2, S) := by unfold oPair; rw [if_pos (by omega)]
        rw [e9]; exact ⟨rfl, hC, fr_rf⟩
    ·
      refine Wp_if_eq d_F_pair_13 (fun _ => ?_) (fun q => absurd (by decide) q)
      refine Wp_bipush (x := (-2)) d_F_pair_38 (by decide) ?_
      refine Wp_reti (ty := .int) d_F_pair_40 rfl rfl ?_
      have e9 : oPair S k a b v = (-2, S) := by unfold oPair; rw [if_pos (by omega)]
      rw [e9]; exact ⟨rfl, hC, fr_rf⟩
  ·
    have k3 : ¬ (0 ≤ k.toInt ∧ k.toInt ≤ 1) := g3
    refine Wp_if_eq d_F_pair_6 (fun _ => ?_) (fun q => absurd (by decide) q)
    refine Wp_bipush (x := (-2)) d_F_pair_38 (by decide) ?_
    refine Wp_reti (ty := .int) d_F_pair_40 rfl rfl ?_
    have e9 : oPair S k a b v = (-2, S) := by unfold oPair; rw [if_pos (by omega)]
    rw [e9]; exact ⟨rfl, hC, fr_rf⟩
set_option maxRecDepth 100000 in
set_option maxHeartbeats 4000000 in
theorem l_F_read (E : mE) (d : Nat) (hd : 2 ≤ d) (S w : mw) (hV : VM S) (s : Nat) (h_s : s < 4) (cz_s : w (24 + s) 1 = S 34 s ∧ w (24 + s) 2 = nI (sSz S s) ∧ ∀ i, i < sSz S s → w (28 + s) i = S 36 (60 * s + i)) : ∀ (k n : Nat), n + k = 10 → rdn S s n = n → Wp E d m_F_read 50 [lr 0, li (nI s), lr (24 + s), li (nI n), li (nI (min 10 (sSz S s)))] [] (mUr (mU w 12 6 1) 5 (rdr S s n)) (mPi (fun r w1 => r = nI (rdn S s 10) ∧ w1 = (mUr (mU w 12 6 1) 5 (rdr S s (rdn S s 10))))) := by
  intro k
  have hz := (VM_sz hV s h_s).2
  induction k with
  | zero =>
    intro n hk hr
    have hn : n = 10 := by omega
    subst hn
    refine Wp_iload_n d_F_read_50 rfl ?_
    refine Wp_iload d_F_read_51 rfl ?_
    refine Wp_icmp_ge d_F_read_53 (fun h53 => ?_) (fun q => absurd (n_nle (a := min 10 (sSz S s)) q (by omega) (by omega)) (by omega))
    refine Wp_iload_n d_F_read_90 rfl ?_
    refine Wp_reti (ty := .int) d_F_read_91 rfl rfl ?_
    rw [hr]
    exact ⟨rfl, rfl⟩
  | succ k ih =>
    intro n hk hr
    have e24 : (mUr (mU w 12 6 1) 5 (rdr S s n)) (24 + s) 2 = nI (sSz S s) := by rw [mUr_ne (by omega), mU_ne (by omega)]; exact cz_s.2.1
    have e28 : ∀ i, i < sSz S s → (mUr (mU w 12 6 1) 5 (rdr S s n)) (28 + s) i = S 36 (60 * s + i) := fun i hi => by rw [mUr_ne (by omega), mU_ne (by omega)]; exact cz_s.2.2 i hi
    refine Wp_iload_n d_F_read_50 rfl ?_
    refine Wp_iload d_F_read_51 rfl ?_
    refine Wp_icmp_ge d_F_read_53 (fun h53 => ?_) (fun h53 => ?_)
    ·
      have g53 : (min 10 (sSz S s)) ≤ n := n_le h53 (by omega) (by omega)
      refine Wp_iload_n d_F_read_90 rfl ?_
      refine Wp_reti (ty := .int) d_F_read_91 rfl rfl ?_
      have he : rdn S s 10 = n := by have h1 := rdn_stop hr (fun q => by first | (have := q.1; omega) | exact hok q.2) (10 - n); rwa [show n + (10 - n) = 10 by omega] at h1
      rw [he]
      exact ⟨rfl, rfl⟩
    ·
      have g53 : n < (min 10 (sSz S s)) := n_nle h53 (by omega) (by omega)
      refine Wp_aload_n d_F_read_56 rfl ?_
      refine Wp_iload_n d_F_read_57 rfl ?_
      refine Wp_ivv_d (o := (24 + s)) (As := [vi (nI n)]) d_F_read_58 ln_F_133 mk_S_item (mObj_sh h_s) rfl rfl rfl rfl (by omega) (by have h := t_S_item E (d - 1) (by omega) (mUr (mU w 12 6 1) 5 (rdr S s n)) s (sSz S s) n h_s e24 hz (by omega); rw [e28 n (by omega)] at h; exact h) ?_
      refine Wp_iconst (x := 0) d_F_read_61 (by decide) ?_
      refine Wp_bipush (x := 99) d_F_read_62 (by decide) ?_
      refine Wp_ivs_b (As := [vi (S 36 (60 * s + n)), vi 0, vi 99]) d_F_read_64 ln_F_59 mk_F_isWithin rfl rfl rfl (by omega) (t_F_isWithin E (d - 1) (by omega) (mUr (mU w 12 6 1) 5 (rdr S s n)) (S 36 (60 * s + n)) 0 99) (fun g64 => ?_) (fun g64 => ?_)
      ·
        have hok : itOk (S 36 (60 * s + n)) = true := decide_eq_true g64
        refine Wp_if_eq d_F_read_67 (fun q => absurd q (by decide)) (fun _ => ?_)
        refine Wp_aload_n d_F_read_70 rfl ?_
        refine Wp_getr d_F_read_71 fd_F_10 rfl rfl rfl ?_
        refine Wp_getr d_F_read_74 fd_F_95 rfl rfl rfl ?_
        refine Wp_iload_n d_F_read_77 rfl ?_
        refine Wp_aload_n d_F_read_78 rfl ?_
        refine Wp_iload_n d_F_read_79 rfl ?_
        refine Wp_ivv_d (o := (24 + s)) (As := [vi (nI n)]) d_F_read_80 ln_F_133 mk_S_item (mObj_sh h_s) rfl rfl rfl rfl (by omega) (by have h := t_S_item E (d - 1) (by omega) (mUr (mU w 12 6 1) 5 (rdr S s n)) s (sSz S s) n h_s e24 hz (by omega); rw [e28 n (by omega)] at h; exact h) ?_
        refine Wp_iastN (j := n) d_F_read_83 rfl rfl rfl rfl (by omega) ?_
        refine Wp_iinc (z := nI (n + 1)) (ls2 := [lr 0, li (nI s), lr (24 + s), li (nI (n + 1)), li (nI (min 10 (sSz S s)))]) d_F_read_84 rfl (nI_add n 1) rfl rfl rfl ?_
        refine Wp_goto d_F_read_87 ?_
        refine Wp_eqw (w2 := mUr (mU w 12 6 1) 5 (rdr S s (n + 1))) (by unfold mU; rw [mUr_eq, mUr_mUr, rdr_s]) ?_
        exact ih (n + 1) (by omega) (rdn_go hr ⟨by omega, hok⟩)
      ·
        have hok : ¬ itOk (S 36 (60 * s + n)) = true := fun q => g64 (of_decide_eq_true q)
        refine Wp_if_eq d_F_read_67 (fun _ => ?_) (fun q => absurd (by decide) q)
        refine Wp_iload_n d_F_read_90 rfl ?_
        refine Wp_reti (ty := .int) d_F_read_91 rfl rfl ?_
        have he : rdn S s 10 = n := by have h1 := rdn_stop hr (fun q => by first | (have := q.1; omega) | exact hok q.2) (10 - n); rwa [show n + (10 - n) = 10 by omega] at h1
        rw [he]
        exact ⟨rfl, rfl⟩
set_option maxRecDepth 100000 in
set_option maxHeartbeats 4000000 in
theorem t_F_read (E : mE) (d : Nat) (hd : 2 ≤ d) (w : mw) (S : mw) (hC : CC w S) (hV : VM S) (s : Int32) : Ti E d m_F_read [vr 0, vi s] w (fun r w1 => r = (oRead S s).1 ∧ CC w1 (oRead S s).2 ∧ fr cRows w w1) := by
  refine ⟨Nat.le_of_ble_eq_true rfl, ?_⟩
  show Wp E d m_F_read 0 [lr 0, li s, lo, lo, lo] [] w _
  refine Wp_iload_n d_F_read_0 rfl ?_
  refine Wp_ivs_b (As := [vi s]) d_F_read_1 ln_F_115 mk_F_isSheet rfl rfl rfl (by omega) (t_F_isSheet E (d - 1) (by omega) w s) (fun g1 => ?_) (fun g1 => ?_)
  ·
    obtain ⟨s1, h_s1, rfl⟩ := sh_of g1
    have tS_s1 := ti (show s1 < 2147483648 by omega)
    refine Wp_if_ne d_F_read_4 (fun _ => ?_) (fun q => absurd q (by decide))
    refine Wp_aload_n d_F_read_10 rfl ?_
    refine Wp_getr d_F_read_11 fd_F_50 rfl rfl rfl ?_
    refine Wp_iload_n d_F_read_14 rfl ?_
    refine Wp_aaldN (j := s1) d_F_read_15 rfl rfl rfl rfl (by omega) ?_
    refine Wp_astore_n (ls2 := [lr 0, li (nI s1), lr (24 + s1), lo, lo]) d_F_read_16 rfl rfl rfl ?_
    refine Wp_aload_n d_F_read_17 rfl ?_
    refine Wp_ivv_b (o := (24 + s1)) (As := []) d_F_read_18 ln_F_118 mk_S_isLost (mObj_sh h_s1) rfl rfl rfl rfl (by omega) (t_S_isLost2 E (d - 1) w S hC hV s1 h_s1) (fun g18 => ?_) (fun g18 => ?_)
    ·
      refine Wp_if_eq d_F_read_21 (fun q => absurd q (by decide)) (fun _ => ?_)
      refine Wp_aload_n d_F_read_24 rfl ?_
      refine Wp_iconst (x := 1) d_F_read_25 (by decide) ?_
      refine Wp_ivv_d (o := 0) (As := [vi 1]) d_F_read_26 ln_F_121 mk_F_find rfl rfl rfl rfl rfl (by omega) (t_F_find E (d - 1) (by omega) w 1 (-11) (by decide)) ?_
      refine Wp_reti (ty := .int) d_F_read_29 rfl rfl ?_
      have e9 : oRead S (nI s1) = (-11, mU S 33 4 1) := by unfold oRead; rw [if_neg (by omega), cl (by omega), if_pos (by omega)]
      rw [e9]; exact ⟨rfl, CC_fi hC 1, (fr_U (by decide))⟩
    ·
      have cz_s1 := CSh_z (CC_sh hC h_s1) hV h_s1 g18
      refine Wp_if_eq d_F_read_21 (fun _ => ?_) (fun q => absurd (by decide) q)
      refine Wp_aload_n d_F_read_30 rfl ?_
      refine Wp_getr d_F_read_31 fd_F_28 rfl rfl rfl ?_
      refine Wp_ivv_dv (o := 12) (As := []) d_F_read_34 ln_F_67 mk_D_outdate rfl rfl rfl rfl rfl (by omega) (t_D_outdate E (d - 1) (by omega) w) ?_
      refine Wp_iconst (x := 0) d_F_read_37 (by decide) ?_
      refine Wp_istore_n (ls2 := [lr 0, li (nI s1), lr (24 + s1), li 0, lo]) d_F_read_38 rfl rfl rfl ?_
      refine Wp_bipush (x := 10) d_F_read_39 (by decide) ?_
      refine Wp_aload_n d_F_read_41 rfl ?_
      refine Wp_getf d_F_read_42 fd_F_124 (mObj_sh h_s1) rfl (mRef_sh2 h_s1) ?_
      refine Wp_eqi (x2 := w (24 + s1) 2) (congrFun (mU_ne (by omega)) _) ?_
      refine Wp_eqi (x2 := nI (sSz S s1)) cz_s1.2.1 ?_
      refine Wp_min d_F_read_45 ln_F_127 rfl (by omega) ?_
      refine Wp_eqi (x2 := nI (min 10 (sSz S s1))) (mnI (by have := (VM_sz hV s1 h_s1).2; omega)) ?_
      refine Wp_istore (ls2 := [lr 0, li (nI s1), lr (24 + s1), li 0, li (nI (min 10 (sSz S s1)))]) d_F_read_48 rfl rfl rfl ?_
      have e9 : oRead S (nI s1) = (nI (rdn S s1 10), mUr S 40 (rdr S s1 (rdn S s1 10))) := by unfold oRead; rw [if_neg (by omega), cl (by omega), if_neg (by omega)]
      rw [e9]
      refine Wp_eqw (w2 := mUr (mU w 12 6 1) 5 (rdr S s1 0)) ?_ ?_
      · rw [rdr_0, ← hC.1.2.1]; exact (mUr_self (w := mU w 12 6 1) (k := 5)).symm.trans (by rw [mU_ne (k := 12) (a := 5) (by decide)])
      · refine Wp_mi (l_F_read E d (by omega) S w hV s1 h_s1 cz_s1 10 0 rfl rfl) (fun r w1 h => ⟨h.1, ?_, ?_⟩)
        · rw [h.2]; exact CC_w hC _
        · rw [h.2]; exact fr_Ur2 (fr_U (by decide)) (by decide)
  ·
    refine Wp_if_ne d_F_read_4 (fun q => absurd q (by decide)) (fun _ => ?_)
    refine Wp_bipush (x := (-2)) d_F_read_7 (by decide) ?_
    refine Wp_reti (ty := .int) d_F_read_9 rfl rfl ?_
    have e9 : oRead S s = (-2, S) := by unfold oRead; rw [if_pos (by omega)]
    rw [e9]; exact ⟨rfl, hC, fr_rf⟩
set_option maxRecDepth 100000 in
set_option maxHeartbeats 4000000 in
theorem l_P_years (E : mE) (d : Nat) (hd : 0 ≤ d) (w S : mw) (hP : PR w S) (hV : VM S) : ∀ (j i : Nat), i + j = pN S → Wp E d m_P_yearsTogether 4 [lr 1, li (nI (agS S i)), li (nI i)] [] w (mPi (fun r w1 => r = nI (agS S (pN S)) ∧ w1 = w)) := by
  intro j
  have hp10 := (pN_ok S).1
  induction j with
  | zero =>
    intro i hi
    refine Wp_iload_n d_P_yearsTogether_4 rfl ?_
    refine Wp_aload_n d_P_yearsTogether_5 rfl ?_
    refine Wp_getf d_P_yearsTogether_6 fd_P_40 rfl rfl rfl ?_
    refine Wp_eqi (x2 := nI (pN S)) hP.2.1.1 ?_
    refine Wp_icmp_ge d_P_yearsTogether_9 (fun h9 => ?_) (fun q => absurd (n_nle q (by omega) (by omega)) (by omega))
    refine Wp_iload_n d_P_yearsTogether_27 rfl ?_
    refine Wp_reti (ty := .int) d_P_yearsTogether_28 rfl rfl ?_
    have hin : i = pN S := by omega
    subst hin
    exact ⟨rfl, rfl⟩
  | succ j ih =>
    intro i hi
    refine Wp_iload_n d_P_yearsTogether_4 rfl ?_
    refine Wp_aload_n d_P_yearsTogether_5 rfl ?_
    refine Wp_getf d_P_yearsTogether_6 fd_P_40 rfl rfl rfl ?_
    refine Wp_eqi (x2 := nI (pN S)) hP.2.1.1 ?_
    refine Wp_icmp_ge d_P_yearsTogether_9 (fun q => absurd (n_le q (by omega) (by omega)) (by omega)) (fun h9 => ?_)
    refine Wp_iload_n d_P_yearsTogether_12 rfl ?_
    refine Wp_aload_n d_P_yearsTogether_13 rfl ?_
    refine Wp_getr d_P_yearsTogether_14 fd_P_15 rfl rfl rfl ?_
    refine Wp_iload_n d_P_yearsTogether_17 rfl ?_
    refine Wp_ialdN (j := i) d_P_yearsTogether_18 rfl rfl rfl rfl (by omega) ?_
    refine Wp_eqi (x2 := nI (pA S i)) (hP.2.1.2.2 _ (by omega)).1 ?_
    refine Wp_iadd d_P_yearsTogether_19 ?_
    refine Wp_eqi (x2 := nI ((agS S i) + (pA S i))) (nI_add (agS S i) (pA S i)) ?_
    refine Wp_istore_n (ls2 := [lr 1, li (nI ((agS S i) + (pA S i))), li (nI i)]) d_P_yearsTogether_20 rfl rfl rfl ?_
    refine Wp_iinc (z := nI (i + 1)) (ls2 := [lr 1, li (nI ((agS S i) + (pA S i))), li (nI (i + 1))]) d_P_yearsTogether_21 rfl (nI_add i 1) rfl rfl rfl ?_
    refine Wp_goto d_P_yearsTogether_24 ?_
    exact ih (i + 1) (by omega)
set_option maxRecDepth 100000 in
set_option maxHeartbeats 4000000 in
theorem t_P_yearsTogether (E : mE) (d : Nat) (hd : 0 ≤ d) (w : mw) (S : mw) (hP : PR w S) (hV : VM S) : Td E d m_P_yearsTogether [vr 1] w (nI (agS S (pN S))) w := by
  refine ⟨Nat.le_of_ble_eq_true rfl, ?_⟩
  show Wp E d m_P_yearsTogether 0 [lr 1, lo, lo] [] w _
  refine Wp_iconst (x := 0) d_P_yearsTogether_0 (by decide) ?_
  refine Wp_istore_n (ls2 := [lr 1, li 0, lo]) d_P_yearsTogether_1 rfl rfl rfl ?_
  refine Wp_iconst (x := 0) d_P_yearsTogether_2 (by decide) ?_
  refine Wp_istore_n (ls2 := [lr 1, li 0, li 0]) d_P_yearsTogether_3 rfl rfl rfl ?_
  exact l_P_years E d (by omega) w S hP hV (pN S) 0 (Nat.zero_add _)
set_option maxRecDepth 100000 in
set_option maxHeartbeats 4000000 in
theorem l_P_liars (E : mE) (d : Nat) (hd : 0 ≤ d) (w S : mw) (hP : PR w S) (hV : VM S) : ∀ (j i : Nat), i + j = pN S → Wp E d m_P_liars 4 [lr 1, li (nI (liN S i)), li (nI i)] [] w (mPi (fun r w1 => r = nI (liN S (pN S)) ∧ w1 = w)) := by
  intro j
  have hp10 := (pN_ok S).1
  induction j with
  | zero =>
    intro i hi
    refine Wp_iload_n d_P_liars_4 rfl ?_
    refine Wp_aload_n d_P_liars_5 rfl ?_
    refine Wp_getf d_P_liars_6 fd_P_40 rfl rfl rfl ?_
    refine Wp_eqi (x2 := nI (pN S)) hP.2.1.1 ?_
    refine Wp_icmp_ge d_P_liars_9 (fun h9 => ?_) (fun q => absurd (n_nle q (by omega) (by omega)) (by omega))
    refine Wp_iload_n d_P_liars_30 rfl ?_
    refine Wp_reti (ty := .int) d_P_liars_31 rfl rfl ?_
    have hin : i = pN S := by omega
    subst hin
    exact ⟨rfl, rfl⟩
  | succ j ih =>
    intro i hi
    refine Wp_iload_n d_P_liars_4 rfl ?_
    refine Wp_aload_n d_P_liars_5 rfl ?_
    refine Wp_getf d_P_liars_6 fd_P_40 rfl rfl rfl ?_
    refine Wp_eqi (x2 := nI (pN S)) hP.2.1.1 ?_
    refine Wp_icmp_ge d_P_liars_9 (fun q => absurd (n_le q (by omega) (by omega)) (by omega)) (fun h9 => ?_)
    refine Wp_aload_n d_P_liars_12 rfl ?_
    refine Wp_getr d_P_liars_13 fd_P_27 rfl rfl rfl ?_
    refine Wp_iload_n d_P_liars_16 rfl ?_
    refine Wp_ialdN (j := i) d_P_liars_17 rfl rfl rfl rfl (by omega) ?_
    refine Wp_eqi (x2 := S 42 i) (congrFun hP.1.2.2.2.1 _) ?_
    refine Wp_if_eq d_P_liars_18 (fun h18 => ?_) (fun h18 => ?_)
    ·
      refine Wp_iinc (z := nI (i + 1)) (ls2 := [lr 1, li (nI (liN S i)), li (nI (i + 1))]) d_P_liars_24 rfl (nI_add i 1) rfl rfl rfl ?_
      refine Wp_goto d_P_liars_27 ?_
      have e9 : liN S (i + 1) = liN S i := by rw [liN, if_pos h18]
      have h9 := ih (i + 1) (by omega)
      rw [e9] at h9
      exact h9
    ·
      have g18 : (S 42 i).toInt ≠ 0 := i_ne h18
      refine Wp_iinc (z := nI ((liN S i) + 1)) (ls2 := [lr 1, li (nI ((liN S i) + 1)), li (nI i)]) d_P_liars_21 rfl (nI_add (liN S i) 1) rfl rfl rfl ?_
      refine Wp_iinc (z := nI (i + 1)) (ls2 := [lr 1, li (nI ((liN S i) + 1)), li (nI (i + 1))]) d_P_liars_24 rfl (nI_add i 1) rfl rfl rfl ?_
      refine Wp_goto d_P_liars_27 ?_
      have e9 : liN S (i + 1) = liN S i + 1 := by rw [liN, if_neg h18]
      have h9 := ih (i + 1) (by omega)
      rw [e9] at h9
      exact h9
set_option maxRecDepth 100000 in
set_option maxHeartbeats 4000000 in
theorem t_P_liars (E : mE) (d : Nat) (hd : 0 ≤ d) (w : mw) (S : mw) (hP : PR w S) (hV : VM S) : Td E d m_P_liars [vr 1] w (nI (liN S (pN S))) w := by
  refine ⟨Nat.le_of_ble_eq_true rfl, ?_⟩
  show Wp E d m_P_liars 0 [lr 1, lo, lo] [] w _
  refine Wp_iconst (x := 0) d_P_liars_0 (by decide) ?_
  refine Wp_istore_n (ls2 := [lr 1, li 0, lo]) d_P_liars_1 rfl rfl rfl ?_
  refine Wp_iconst (x := 0) d_P_liars_2 (by decide) ?_
  refine Wp_istore_n (ls2 := [lr 1, li 0, li 0]) d_P_liars_3 rfl rfl rfl ?_
  exact l_P_liars E d (by omega) w S hP hV (pN S) 0 (Nat.zero_add _)
set_option maxRecDepth 100000 in
set_option maxHeartbeats 4000000 in
theorem l_R_prs10 (E : mE) (d : Nat) (hd : 1 ≤ d) (w : mw) (f : Nat → Nat) (hf : ∀ i, i < 10 → w 10 i = nI (f i) ∧ f i < 1024) : ∀ (j i : Nat), i + j = 10 → Wp E d m_R_pairsOf 4 [lr 8, lr 10, li (nI (prS f i)), li (nI i)] [] w (mPi (fun r w1 => r = nI (prS f 10 / 2) ∧ w1 = w)) := by
  intro j
  have hle := prS_le (f := f) 10
  induction j with
  | zero =>
    intro i hi
    have hin : i = 10 := by omega
    subst hin
    refine Wp_iload_n d_R_pairsOf_4 rfl ?_
    refine Wp_bipush (x := 10) d_R_pairsOf_5 (by decide) ?_
    refine Wp_icmp_ge d_R_pairsOf_7 (fun h7 => ?_) (fun q => absurd (n_nle (a := 10) q (by omega) (by omega)) (by omega))
    refine Wp_iload_n d_R_pairsOf_25 rfl ?_
    refine Wp_iconst (x := 2) d_R_pairsOf_26 (by decide) ?_
    refine Wp_idiv d_R_pairsOf_27 (by decide) ?_
    refine Wp_eqi (x2 := nI (prS f 10 / 2)) (pk_div (d := 2) (by omega) (by omega) (by omega)) ?_
    refine Wp_reti (ty := .int) d_R_pairsOf_28 rfl rfl ?_
    exact ⟨rfl, rfl⟩
  | succ j ih =>
    intro i hi
    have hfi := hf i (by omega)
    refine Wp_iload_n d_R_pairsOf_4 rfl ?_
    refine Wp_bipush (x := 10) d_R_pairsOf_5 (by decide) ?_
    refine Wp_icmp_ge d_R_pairsOf_7 (fun q => absurd (n_le (a := 10) q (by omega) (by omega)) (by omega)) (fun h7 => ?_)
    refine Wp_iload_n d_R_pairsOf_10 rfl ?_
    refine Wp_aload_n d_R_pairsOf_11 rfl ?_
    refine Wp_iload_n d_R_pairsOf_12 rfl ?_
    refine Wp_ialdN (j := i) d_R_pairsOf_13 rfl rfl rfl rfl (by omega) ?_
    refine Wp_eqi (x2 := nI (f i)) hfi.1 ?_
    refine Wp_ivs_d (As := [vi (nI (f i))]) d_R_pairsOf_14 ln_R_31 mk_J_bitCount rfl rfl rfl (by omega) (t_J_bitCount E (d - 1) (by omega) w (f i) (by omega)) ?_
    refine Wp_iadd d_R_pairsOf_17 ?_
    refine Wp_eqi (x2 := nI ((prS f i) + (popc (f i)))) (nI_add (prS f i) (popc (f i))) ?_
    refine Wp_istore_n (ls2 := [lr 8, lr 10, li (nI ((prS f i) + (popc (f i)))), li (nI i)]) d_R_pairsOf_18 rfl rfl rfl ?_
    refine Wp_iinc (z := nI (i + 1)) (ls2 := [lr 8, lr 10, li (nI ((prS f i) + (popc (f i)))), li (nI (i + 1))]) d_R_pairsOf_19 rfl (nI_add i 1) rfl rfl rfl ?_
    refine Wp_goto d_R_pairsOf_22 ?_
    exact ih (i + 1) (by omega)
set_option maxRecDepth 100000 in
set_option maxHeartbeats 4000000 in
theorem t_R_pairsOf10 (E : mE) (d : Nat) (hd : 1 ≤ d) (w : mw) (f : Nat → Nat) (hf : ∀ i, i < 10 → w 10 i = nI (f i) ∧ f i < 1024) : Td E d m_R_pairsOf [vr 8, vr 10] w (nI (prS f 10 / 2)) w := by
  refine ⟨Nat.le_of_ble_eq_true rfl, ?_⟩
  show Wp E d m_R_pairsOf 0 [lr 8, lr 10, lo, lo] [] w _
  refine Wp_iconst (x := 0) d_R_pairsOf_0 (by decide) ?_
  refine Wp_istore_n (ls2 := [lr 8, lr 10, li 0, lo]) d_R_pairsOf_1 rfl rfl rfl ?_
  refine Wp_iconst (x := 0) d_R_pairsOf_2 (by decide) ?_
  refine Wp_istore_n (ls2 := [lr 8, lr 10, li 0, li 0]) d_R_pairsOf_3 rfl rfl rfl ?_
  exact l_R_prs10 E d (by omega) w f hf 10 0 (by omega)
set_option maxRecDepth 100000 in
set_option maxHeartbeats 4000000 in
theorem l_R_prs11 (E : mE) (d : Nat) (hd : 1 ≤ d) (w : mw) (f : Nat → Nat) (hf : ∀ i, i < 10 → w 11 i = nI (f i) ∧ f i < 1024) : ∀ (j i : Nat), i + j = 10 → Wp E d m_R_pairsOf 4 [lr 8, lr 11, li (nI (prS f i)), li (nI i)] [] w (mPi (fun r w1 => r = nI (prS f 10 / 2) ∧ w1 = w)) := by
  intro j
  have hle := prS_le (f := f) 10
  induction j with
  | zero =>
    intro i hi
    have hin : i = 10 := by omega
    subst hin
    refine Wp_iload_n d_R_pairsOf_4 rfl ?_
    refine Wp_bipush (x := 10) d_R_pairsOf_5 (by decide) ?_
    refine Wp_icmp_ge d_R_pairsOf_7 (fun h7 => ?_) (fun q => absurd (n_nle (a := 10) q (by omega) (by omega)) (by omega))
    refine Wp_iload_n d_R_pairsOf_25 rfl ?_
    refine Wp_iconst (x := 2) d_R_pairsOf_26 (by decide) ?_
    refine Wp_idiv d_R_pairsOf_27 (by decide) ?_
    refine Wp_eqi (x2 := nI (prS f 10 / 2)) (pk_div (d := 2) (by omega) (by omega) (by omega)) ?_
    refine Wp_reti (ty := .int) d_R_pairsOf_28 rfl rfl ?_
    exact ⟨rfl, rfl⟩
  | succ j ih =>
    intro i hi
    have hfi := hf i (by omega)
    refine Wp_iload_n d_R_pairsOf_4 rfl ?_
    refine Wp_bipush (x := 10) d_R_pairsOf_5 (by decide) ?_
    refine Wp_icmp_ge d_R_pairsOf_7 (fun q => absurd (n_le (a := 10) q (by omega) (by omega)) (by omega)) (fun h7 => ?_)
    refine Wp_iload_n d_R_pairsOf_10 rfl ?_
    refine Wp_aload_n d_R_pairsOf_11 rfl ?_
    refine Wp_iload_n d_R_pairsOf_12 rfl ?_
    refine Wp_ialdN (j := i) d_R_pairsOf_13 rfl rfl rfl rfl (by omega) ?_
    refine Wp_eqi (x2 := nI (f i)) hfi.1 ?_
    refine Wp_ivs_d (As := [vi (nI (f i))]) d_R_pairsOf_14 ln_R_31 mk_J_bitCount rfl rfl rfl (by omega) (t_J_bitCount E (d - 1) (by omega) w (f i) (by omega)) ?_
    refine Wp_iadd d_R_pairsOf_17 ?_
    refine Wp_eqi (x2 := nI ((prS f i) + (popc (f i)))) (nI_add (prS f i) (popc (f i))) ?_
    refine Wp_istore_n (ls2 := [lr 8, lr 11, li (nI ((prS f i) + (popc (f i)))), li (nI i)]) d_R_pairsOf_18 rfl rfl rfl ?_
    refine Wp_iinc (z := nI (i + 1)) (ls2 := [lr 8, lr 11, li (nI ((prS f i) + (popc (f i)))), li (nI (i + 1))]) d_R_pairsOf_19 rfl (nI_add i 1) rfl rfl rfl ?_
    refine Wp_goto d_R_pairsOf_22 ?_
    exact ih (i + 1) (by omega)
set_option maxRecDepth 100000 in
set_option maxHeartbeats 4000000 in
theorem t_R_pairsOf11 (E : mE) (d : Nat) (hd : 1 ≤ d) (w : mw) (f : Nat → Nat) (hf : ∀ i, i < 10 → w 11 i = nI (f i) ∧ f i < 1024) : Td E d m_R_pairsOf [vr 8, vr 11] w (nI (prS f 10 / 2)) w := by
  refine ⟨Nat.le_of_ble_eq_true rfl, ?_⟩
  show Wp E d m_R_pairsOf 0 [lr 8, lr 11, lo, lo] [] w _
  refine Wp_iconst (x := 0) d_R_pairsOf_0 (by decide) ?_
  refine Wp_istore_n (ls2 := [lr 8, lr 11, li 0, lo]) d_R_pairsOf_1 rfl rfl rfl ?_
  refine Wp_iconst (x := 0) d_R_pairsOf_2 (by decide) ?_
  refine Wp_istore_n (ls2 := [lr 8, lr 11, li 0, li 0]) d_R_pairsOf_3 rfl rfl rfl ?_
  exact l_R_prs11 E d (by omega) w f hf 10 0 (by omega)
set_option maxRecDepth 100000 in
set_option maxHeartbeats 4000000 in
theorem t_F_count (E : mE) (d : Nat) (hd : 2 ≤ d) (w : mw) (S : mw) (hC : CC w S) (hV : VM S) (x : Int32) : Td E d m_F_count [vr 0, vi x] w (cntS S x) w := by
  refine ⟨Nat.le_of_ble_eq_true rfl, ?_⟩
  show Wp E d m_F_count 0 [lr 0, li x] [] w _
  have hP := CC_PR hC
  refine Wp_iload_n d_F_count_0 rfl ?_
  by_cases t0 : x.toInt = 0
  ·
    refine Wp_tabIn (off := 51) (tgt := 52) d_F_count_1 (by omega) (by omega) (by rw [t0]; rfl) (by decide) ?_
    refine Wp_aload_n d_F_count_52 rfl ?_
    refine Wp_getr d_F_count_53 fd_F_10 rfl rfl rfl ?_
    refine Wp_getf d_F_count_56 fd_F_177 rfl rfl rfl ?_
    refine Wp_eqi (x2 := nI (pN S)) hP.2.1.1 ?_
    refine Wp_reti (ty := .int) d_F_count_59 rfl rfl ?_
    exact ⟨by unfold cntS; rw [if_pos (by omega)], rfl⟩
  by_cases t1 : x.toInt = 1
  ·
    refine Wp_tabIn (off := 59) (tgt := 60) d_F_count_1 (by omega) (by omega) (by rw [t1]; rfl) (by decide) ?_
    refine Wp_aload_n d_F_count_60 rfl ?_
    refine Wp_getr d_F_count_61 fd_F_10 rfl rfl rfl ?_
    refine Wp_getf d_F_count_64 fd_F_286 rfl rfl rfl ?_
    refine Wp_eqi (x2 := nI (sLen S)) (hP.1.2.2.2.2.trans (VM_len hV).1) ?_
    refine Wp_reti (ty := .int) d_F_count_67 rfl rfl ?_
    exact ⟨by unfold cntS; rw [if_neg (by omega), if_pos (by omega)], rfl⟩
  by_cases t2 : x.toInt = 2
  ·
    refine Wp_tabIn (off := 67) (tgt := 68) d_F_count_1 (by omega) (by omega) (by rw [t2]; rfl) (by decide) ?_
    refine Wp_aload_n d_F_count_68 rfl ?_
    refine Wp_getr d_F_count_69 fd_F_10 rfl rfl rfl ?_
    refine Wp_ivv_d (o := 1) (As := []) d_F_count_72 ln_F_287 mk_P_yearsTogether rfl rfl rfl rfl rfl (by omega) (t_P_yearsTogether E (d - 1) (by omega) w S hP hV) ?_
    refine Wp_reti (ty := .int) d_F_count_75 rfl rfl ?_
    exact ⟨by unfold cntS; rw [if_neg (by omega), if_neg (by omega), if_pos (by omega)], rfl⟩
  by_cases t3 : x.toInt = 3
  ·
    refine Wp_tabIn (off := 75) (tgt := 76) d_F_count_1 (by omega) (by omega) (by rw [t3]; rfl) (by decide) ?_
    refine Wp_aload_n d_F_count_76 rfl ?_
    refine Wp_getr d_F_count_77 fd_F_10 rfl rfl rfl ?_
    refine Wp_ivv_d (o := 1) (As := []) d_F_count_80 ln_F_290 mk_P_liars rfl rfl rfl rfl rfl (by omega) (t_P_liars E (d - 1) (by omega) w S hP hV) ?_
    refine Wp_reti (ty := .int) d_F_count_83 rfl rfl ?_
    exact ⟨by unfold cntS; rw [if_neg (by omega), if_neg (by omega), if_neg (by omega), if_pos (by omega)], rfl⟩
  by_cases t4 : x.toInt = 4
  ·
    refine Wp_tabIn (off := 83) (tgt := 84) d_F_count_1 (by omega) (by omega) (by rw [t4]; rfl) (by decide) ?_
    refine Wp_aload_n d_F_count_84 rfl ?_
    refine Wp_getr d_F_count_85 fd_F_19 rfl rfl rfl ?_
    refine Wp_aload_n d_F_count_88 rfl ?_
    refine Wp_getr d_F_count_89 fd_F_19 rfl rfl rfl ?_
    refine Wp_getr d_F_count_92 fd_F_143 rfl rfl rfl ?_
    refine Wp_ivv_d (o := 8) (As := [vr 10]) d_F_count_95 ln_F_293 mk_R_pairsOf rfl rfl rfl rfl rfl (by omega) (t_R_pairsOf10 E (d - 1) (by omega) w (sWo S) (fun i hi => by rw [hP.2.2.2.1]; exact VM_wo hV i hi)) ?_
    refine Wp_reti (ty := .int) d_F_count_98 rfl rfl ?_
    exact ⟨by unfold cntS; rw [if_neg (by omega), if_neg (by omega), if_neg (by omega), if_neg (by omega), if_pos (by omega)], rfl⟩
  by_cases t5 : x.toInt = 5
  ·
    refine Wp_tabIn (off := 98) (tgt := 99) d_F_count_1 (by omega) (by omega) (by rw [t5]; rfl) (by decide) ?_
    refine Wp_aload_n d_F_count_99 rfl ?_
    refine Wp_getr d_F_count_100 fd_F_19 rfl rfl rfl ?_
    refine Wp_aload_n d_F_count_103 rfl ?_
    refine Wp_getr d_F_count_104 fd_F_19 rfl rfl rfl ?_
    refine Wp_getr d_F_count_107 fd_F_146 rfl rfl rfl ?_
    refine Wp_ivv_d (o := 8) (As := [vr 11]) d_F_count_110 ln_F_293 mk_R_pairsOf rfl rfl rfl rfl rfl (by omega) (t_R_pairsOf11 E (d - 1) (by omega) w (sMu S) (fun i hi => by rw [hP.2.2.2.2]; exact VM_mu hV i hi)) ?_
    refine Wp_reti (ty := .int) d_F_count_113 rfl rfl ?_
    exact ⟨by unfold cntS; rw [if_neg (by omega), if_neg (by omega), if_neg (by omega), if_neg (by omega), if_neg (by omega), if_pos (by omega)], rfl⟩
  by_cases t6 : x.toInt = 6
  ·
    refine Wp_tabIn (off := 113) (tgt := 114) d_F_count_1 (by omega) (by omega) (by rw [t6]; rfl) (by decide) ?_
    refine Wp_aload_n d_F_count_114 rfl ?_
    refine Wp_getr d_F_count_115 fd_F_44 rfl rfl rfl ?_
    refine Wp_getf d_F_count_118 fd_F_297 rfl rfl rfl ?_
    refine Wp_eqi (x2 := nI (sSn S)) (hC.2.2.2.1.1.trans (VM_sn hV).1) ?_
    refine Wp_reti (ty := .int) d_F_count_121 rfl rfl ?_
    exact ⟨by unfold cntS; rw [if_neg (by omega), if_neg (by omega), if_neg (by omega), if_neg (by omega), if_neg (by omega), if_neg (by omega), if_pos (by omega)], rfl⟩
  by_cases t7 : x.toInt = 7
  ·
    refine Wp_tabIn (off := 121) (tgt := 122) d_F_count_1 (by omega) (by omega) (by rw [t7]; rfl) (by decide) ?_
    refine Wp_aload_n d_F_count_122 rfl ?_
    refine Wp_getr d_F_count_123 fd_F_19 rfl rfl rfl ?_
    refine Wp_getr d_F_count_126 fd_F_140 rfl rfl rfl ?_
    refine Wp_iconst (x := 0) d_F_count_129 (by decide) ?_
    refine Wp_ialdN (j := 0) d_F_count_130 rfl rfl rfl rfl (by decide) ?_
    refine Wp_eqi (x2 := nI (sSet S 0)) ((congrFun hP.2.2.1 _).trans ((VM_set hV).1 _ (by omega)).1) ?_
    refine Wp_reti (ty := .int) d_F_count_131 rfl rfl ?_
    exact ⟨by unfold cntS; rw [if_neg (by omega), if_neg (by omega), if_neg (by omega), if_neg (by omega), if_neg (by omega), if_neg (by omega), if_neg (by omega), if_pos (by omega)], rfl⟩
  by_cases t8 : x.toInt = 8
  ·
    refine Wp_tabIn (off := 131) (tgt := 132) d_F_count_1 (by omega) (by omega) (by rw [t8]; rfl) (by decide) ?_
    refine Wp_aload_n d_F_count_132 rfl ?_
    refine Wp_getf d_F_count_133 fd_F_264 rfl rfl rfl ?_
    refine Wp_eqi (x2 := S 33 4) hC.2.2.2.2.2.1 ?_
    refine Wp_reti (ty := .int) d_F_count_136 rfl rfl ?_
    exact ⟨by unfold cntS; rw [if_neg (by omega), if_neg (by omega), if_neg (by omega), if_neg (by omega), if_neg (by omega), if_neg (by omega), if_neg (by omega), if_neg (by omega), if_pos (by omega)], rfl⟩
  refine Wp_tabOut (tgt := 137) d_F_count_1 (by omega) (by decide) ?_
  refine Wp_bipush (x := (-2)) d_F_count_137 (by decide) ?_
  refine Wp_reti (ty := .int) d_F_count_139 rfl rfl ?_
  exact ⟨by unfold cntS; rw [if_neg (by omega), if_neg (by omega), if_neg (by omega), if_neg (by omega), if_neg (by omega), if_neg (by omega), if_neg (by omega), if_neg (by omega), if_neg (by omega)], rfl⟩
