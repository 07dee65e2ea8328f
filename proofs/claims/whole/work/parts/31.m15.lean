set_option maxRecDepth 100000 in
set_option maxHeartbeats 4000000 in
theorem l_M_prs44 (E : mE) (d : Nat) (hd : 1 ≤ d) (w : mw) (f : Nat → Nat) (hf : ∀ i, i < 10 → w 44 i = nI (f i) ∧ f i < 1024) : ∀ (j i : Nat), i + j = 10 → Wp E d m_M_pairs 4 [lr 44, li (nI (prS f i)), li (nI i)] [] w (mPi (fun r w1 => r = nI (prS f 10 / 2) ∧ w1 = w)) := by
  intro j
  have hle := prS_le (f := f) 10
  induction j with
  | zero =>
    intro i hi
    have hin : i = 10 := by omega
    subst hin
    refine Wp_iload_n d_M_pairs_4 rfl ?_
    refine Wp_bipush (x := 10) d_M_pairs_5 (by decide) ?_
    refine Wp_icmp_ge d_M_pairs_7 (fun h7 => ?_) (fun q => absurd (n_nle (a := 10) q (by omega) (by omega)) (by omega))
    refine Wp_iload_n d_M_pairs_25 rfl ?_
    refine Wp_iconst (x := 2) d_M_pairs_26 (by decide) ?_
    refine Wp_idiv d_M_pairs_27 (by decide) ?_
    refine Wp_eqi (x2 := nI (prS f 10 / 2)) (pk_div (d := 2) (by omega) (by omega) (by omega)) ?_
    refine Wp_reti (ty := .int) d_M_pairs_28 rfl rfl ?_
    exact ⟨rfl, rfl⟩
  | succ j ih =>
    intro i hi
    have hfi := hf i (by omega)
    refine Wp_iload_n d_M_pairs_4 rfl ?_
    refine Wp_bipush (x := 10) d_M_pairs_5 (by decide) ?_
    refine Wp_icmp_ge d_M_pairs_7 (fun q => absurd (n_le (a := 10) q (by omega) (by omega)) (by omega)) (fun h7 => ?_)
    refine Wp_iload_n d_M_pairs_10 rfl ?_
    refine Wp_aload_n d_M_pairs_11 rfl ?_
    refine Wp_iload_n d_M_pairs_12 rfl ?_
    refine Wp_ialdN (j := i) d_M_pairs_13 rfl rfl rfl rfl (by omega) ?_
    refine Wp_eqi (x2 := nI (f i)) hfi.1 ?_
    refine Wp_ivs_d (As := [vi (nI (f i))]) d_M_pairs_14 ln_M_173 mk_M_ones rfl rfl rfl (by omega) (t_M_ones E (d - 1) (by omega) w (f i) (by omega)) ?_
    refine Wp_iadd d_M_pairs_17 ?_
    refine Wp_eqi (x2 := nI ((prS f i) + (popc (f i)))) (nI_add (prS f i) (popc (f i))) ?_
    refine Wp_istore_n (ls2 := [lr 44, li (nI ((prS f i) + (popc (f i)))), li (nI i)]) d_M_pairs_18 rfl rfl rfl ?_
    refine Wp_iinc (z := nI (i + 1)) (ls2 := [lr 44, li (nI ((prS f i) + (popc (f i)))), li (nI (i + 1))]) d_M_pairs_19 rfl (nI_add i 1) rfl rfl rfl ?_
    refine Wp_goto d_M_pairs_22 ?_
    exact ih (i + 1) (by omega)
set_option maxRecDepth 100000 in
set_option maxHeartbeats 4000000 in
theorem t_M_pairs44 (E : mE) (d : Nat) (hd : 1 ≤ d) (w : mw) (f : Nat → Nat) (hf : ∀ i, i < 10 → w 44 i = nI (f i) ∧ f i < 1024) : Td E d m_M_pairs [vr 44] w (nI (prS f 10 / 2)) w := by
  refine ⟨Nat.le_of_ble_eq_true rfl, ?_⟩
  show Wp E d m_M_pairs 0 [lr 44, lo, lo] [] w _
  refine Wp_iconst (x := 0) d_M_pairs_0 (by decide) ?_
  refine Wp_istore_n (ls2 := [lr 44, li 0, lo]) d_M_pairs_1 rfl rfl rfl ?_
  refine Wp_iconst (x := 0) d_M_pairs_2 (by decide) ?_
  refine Wp_istore_n (ls2 := [lr 44, li 0, li 0]) d_M_pairs_3 rfl rfl rfl ?_
  exact l_M_prs44 E d (by omega) w f hf 10 0 (by omega)
set_option maxRecDepth 100000 in
set_option maxHeartbeats 4000000 in
theorem l_M_prs45 (E : mE) (d : Nat) (hd : 1 ≤ d) (w : mw) (f : Nat → Nat) (hf : ∀ i, i < 10 → w 45 i = nI (f i) ∧ f i < 1024) : ∀ (j i : Nat), i + j = 10 → Wp E d m_M_pairs 4 [lr 45, li (nI (prS f i)), li (nI i)] [] w (mPi (fun r w1 => r = nI (prS f 10 / 2) ∧ w1 = w)) := by
  intro j
  have hle := prS_le (f := f) 10
  induction j with
  | zero =>
    intro i hi
    have hin : i = 10 := by omega
    subst hin
    refine Wp_iload_n d_M_pairs_4 rfl ?_
    refine Wp_bipush (x := 10) d_M_pairs_5 (by decide) ?_
    refine Wp_icmp_ge d_M_pairs_7 (fun h7 => ?_) (fun q => absurd (n_nle (a := 10) q (by omega) (by omega)) (by omega))
    refine Wp_iload_n d_M_pairs_25 rfl ?_
    refine Wp_iconst (x := 2) d_M_pairs_26 (by decide) ?_
    refine Wp_idiv d_M_pairs_27 (by decide) ?_
    refine Wp_eqi (x2 := nI (prS f 10 / 2)) (pk_div (d := 2) (by omega) (by omega) (by omega)) ?_
    refine Wp_reti (ty := .int) d_M_pairs_28 rfl rfl ?_
    exact ⟨rfl, rfl⟩
  | succ j ih =>
    intro i hi
    have hfi := hf i (by omega)
    refine Wp_iload_n d_M_pairs_4 rfl ?_
    refine Wp_bipush (x := 10) d_M_pairs_5 (by decide) ?_
    refine Wp_icmp_ge d_M_pairs_7 (fun q => absurd (n_le (a := 10) q (by omega) (by omega)) (by omega)) (fun h7 => ?_)
    refine Wp_iload_n d_M_pairs_10 rfl ?_
    refine Wp_aload_n d_M_pairs_11 rfl ?_
    refine Wp_iload_n d_M_pairs_12 rfl ?_
    refine Wp_ialdN (j := i) d_M_pairs_13 rfl rfl rfl rfl (by omega) ?_
    refine Wp_eqi (x2 := nI (f i)) hfi.1 ?_
    refine Wp_ivs_d (As := [vi (nI (f i))]) d_M_pairs_14 ln_M_173 mk_M_ones rfl rfl rfl (by omega) (t_M_ones E (d - 1) (by omega) w (f i) (by omega)) ?_
    refine Wp_iadd d_M_pairs_17 ?_
    refine Wp_eqi (x2 := nI ((prS f i) + (popc (f i)))) (nI_add (prS f i) (popc (f i))) ?_
    refine Wp_istore_n (ls2 := [lr 45, li (nI ((prS f i) + (popc (f i)))), li (nI i)]) d_M_pairs_18 rfl rfl rfl ?_
    refine Wp_iinc (z := nI (i + 1)) (ls2 := [lr 45, li (nI ((prS f i) + (popc (f i)))), li (nI (i + 1))]) d_M_pairs_19 rfl (nI_add i 1) rfl rfl rfl ?_
    refine Wp_goto d_M_pairs_22 ?_
    exact ih (i + 1) (by omega)
set_option maxRecDepth 100000 in
set_option maxHeartbeats 4000000 in
theorem t_M_pairs45 (E : mE) (d : Nat) (hd : 1 ≤ d) (w : mw) (f : Nat → Nat) (hf : ∀ i, i < 10 → w 45 i = nI (f i) ∧ f i < 1024) : Td E d m_M_pairs [vr 45] w (nI (prS f 10 / 2)) w := by
  refine ⟨Nat.le_of_ble_eq_true rfl, ?_⟩
  show Wp E d m_M_pairs 0 [lr 45, lo, lo] [] w _
  refine Wp_iconst (x := 0) d_M_pairs_0 (by decide) ?_
  refine Wp_istore_n (ls2 := [lr 45, li 0, lo]) d_M_pairs_1 rfl rfl rfl ?_
  refine Wp_iconst (x := 0) d_M_pairs_2 (by decide) ?_
  refine Wp_istore_n (ls2 := [lr 45, li 0, li 0]) d_M_pairs_3 rfl rfl rfl ?_
  exact l_M_prs45 E d (by omega) w f hf 10 0 (by omega)
set_option maxRecDepth 100000 in
set_option maxHeartbeats 4000000 in
theorem l_M_ct2 (E : mE) (d : Nat) (hd : 3 ≤ d) (w S : mw) (hP : MP w S) (x : Int32) : ∀ (j i : Nat), i + j = pN S → Wp E d m_M_count 72 [lr 33, li x, li (nI (agS S i)), li (nI i)] [] w (mPi (fun r w1 => r = nI (agS S (pN S)) ∧ w1 = w)) := by
  intro j
  have hp10 := (pN_ok S).1
  induction j with
  | zero =>
    intro i hi
    refine Wp_iload_n d_M_count_72 rfl ?_
    refine Wp_aload_n d_M_count_73 rfl ?_
    refine Wp_getf d_M_count_74 fd_M_125 rfl rfl rfl ?_
    refine Wp_eqi (x2 := nI (pN S)) hP.2.1 ?_
    refine Wp_icmp_ge d_M_count_77 (fun h77 => ?_) (fun q => absurd (n_nle q (by omega) (by omega)) (by omega))
    refine Wp_iload_n d_M_count_95 rfl ?_
    refine Wp_reti (ty := .int) d_M_count_96 rfl rfl ?_
    have hin : i = pN S := by omega
    subst hin
    exact ⟨rfl, rfl⟩
  | succ j ih =>
    intro i hi
    refine Wp_iload_n d_M_count_72 rfl ?_
    refine Wp_aload_n d_M_count_73 rfl ?_
    refine Wp_getf d_M_count_74 fd_M_125 rfl rfl rfl ?_
    refine Wp_eqi (x2 := nI (pN S)) hP.2.1 ?_
    refine Wp_icmp_ge d_M_count_77 (fun q => absurd (n_le q (by omega) (by omega)) (by omega)) (fun h77 => ?_)
    refine Wp_iload_n d_M_count_80 rfl ?_
    refine Wp_aload_n d_M_count_81 rfl ?_
    refine Wp_getr d_M_count_82 fd_M_25 rfl rfl rfl ?_
    refine Wp_iload_n d_M_count_85 rfl ?_
    refine Wp_ialdN (j := i) d_M_count_86 rfl rfl rfl rfl (by omega) ?_
    refine Wp_eqi (x2 := nI (pA S i)) (hP.2.2 _ (by omega)) ?_
    refine Wp_iadd d_M_count_87 ?_
    refine Wp_eqi (x2 := nI ((agS S i) + (pA S i))) (nI_add (agS S i) (pA S i)) ?_
    refine Wp_istore_n (ls2 := [lr 33, li x, li (nI ((agS S i) + (pA S i))), li (nI i)]) d_M_count_88 rfl rfl rfl ?_
    refine Wp_iinc (z := nI (i + 1)) (ls2 := [lr 33, li x, li (nI ((agS S i) + (pA S i))), li (nI (i + 1))]) d_M_count_89 rfl (nI_add i 1) rfl rfl rfl ?_
    refine Wp_goto d_M_count_92 ?_
    exact ih (i + 1) (by omega)
set_option maxRecDepth 100000 in
set_option maxHeartbeats 4000000 in
theorem l_M_ct3 (E : mE) (d : Nat) (hd : 3 ≤ d) (w S : mw) (hP : MP w S) (x : Int32) : ∀ (j i : Nat), i + j = pN S → Wp E d m_M_count 99 [lr 33, li x, li (nI (liN S i)), li (nI i)] [] w (mPi (fun r w1 => r = nI (liN S (pN S)) ∧ w1 = w)) := by
  intro j
  have hp10 := (pN_ok S).1
  induction j with
  | zero =>
    intro i hi
    refine Wp_iload_n d_M_count_99 rfl ?_
    refine Wp_aload_n d_M_count_100 rfl ?_
    refine Wp_getf d_M_count_101 fd_M_125 rfl rfl rfl ?_
    refine Wp_eqi (x2 := nI (pN S)) hP.2.1 ?_
    refine Wp_icmp_ge d_M_count_104 (fun h104 => ?_) (fun q => absurd (n_nle q (by omega) (by omega)) (by omega))
    refine Wp_iload_n d_M_count_130 rfl ?_
    refine Wp_reti (ty := .int) d_M_count_131 rfl rfl ?_
    have hin : i = pN S := by omega
    subst hin
    exact ⟨rfl, rfl⟩
  | succ j ih =>
    intro i hi
    refine Wp_iload_n d_M_count_99 rfl ?_
    refine Wp_aload_n d_M_count_100 rfl ?_
    refine Wp_getf d_M_count_101 fd_M_125 rfl rfl rfl ?_
    refine Wp_eqi (x2 := nI (pN S)) hP.2.1 ?_
    refine Wp_icmp_ge d_M_count_104 (fun q => absurd (n_le q (by omega) (by omega)) (by omega)) (fun h104 => ?_)
    refine Wp_iload_n d_M_count_107 rfl ?_
    refine Wp_aload_n d_M_count_108 rfl ?_
    refine Wp_getr d_M_count_109 fd_M_34 rfl rfl rfl ?_
    refine Wp_iload_n d_M_count_112 rfl ?_
    refine Wp_ialdN (j := i) d_M_count_113 rfl rfl rfl rfl (by omega) ?_
    refine Wp_eqi (x2 := S 42 i) (congrFun (hP.1.r 42) _) ?_
    refine Wp_if_ne d_M_count_114 (fun h114 => ?_) (fun h114 => ?_)
    ·
      have g114 : (S 42 i).toInt ≠ 0 := i_ne h114
      refine Wp_iconst (x := 1) d_M_count_121 (by decide) ?_
      refine Wp_iadd d_M_count_122 ?_
      refine Wp_eqi (x2 := nI ((liN S i) + 1)) (nI_add (liN S i) 1) ?_
      refine Wp_istore_n (ls2 := [lr 33, li x, li (nI ((liN S i) + 1)), li (nI i)]) d_M_count_123 rfl rfl rfl ?_
      refine Wp_iinc (z := nI (i + 1)) (ls2 := [lr 33, li x, li (nI ((liN S i) + 1)), li (nI (i + 1))]) d_M_count_124 rfl (nI_add i 1) rfl rfl rfl ?_
      refine Wp_goto d_M_count_127 ?_
      have e9 : liN S (i + 1) = liN S i + 1 := by rw [liN, if_neg h114]
      have h9 := ih (i + 1) (by omega)
      rw [e9] at h9
      exact h9
    ·
      refine Wp_iconst (x := 0) d_M_count_117 (by decide) ?_
      refine Wp_goto d_M_count_118 ?_
      refine Wp_iadd d_M_count_122 ?_
      refine Wp_eqi (x2 := nI ((liN S i) + 0)) (nI_add (liN S i) 0) ?_
      refine Wp_istore_n (ls2 := [lr 33, li x, li (nI ((liN S i) + 0)), li (nI i)]) d_M_count_123 rfl rfl rfl ?_
      refine Wp_iinc (z := nI (i + 1)) (ls2 := [lr 33, li x, li (nI ((liN S i) + 0)), li (nI (i + 1))]) d_M_count_124 rfl (nI_add i 1) rfl rfl rfl ?_
      refine Wp_goto d_M_count_127 ?_
      have e9 : liN S (i + 1) = liN S i := by rw [liN, if_pos h114]
      have h9 := ih (i + 1) (by omega)
      rw [e9] at h9
      exact h9
set_option maxRecDepth 100000 in
set_option maxHeartbeats 4000000 in
theorem t_M_count (E : mE) (d : Nat) (hd : 3 ≤ d) (w : mw) (S : mw) (hM : MM w S) (hV : VM S) (x : Int32) : Ti E d m_M_count [vr 33, vi x] w (fun r w1 => r = cntS S x ∧ MP w1 S ∧ frF w w1) := by
  refine ⟨Nat.le_of_ble_eq_true rfl, ?_⟩
  show Wp E d m_M_count 0 [lr 33, li x, lo, lo] [] w _
  have hp10 := (pN_ok S).1
  have hlt := two10 hp10
  have hwl := wh_lt S
  have hwe := wh_1 S
  refine Wp_iconst (x := 0) d_M_count_0 (by decide) ?_
  refine Wp_istore_n (ls2 := [lr 33, li x, li 0, lo]) d_M_count_1 rfl rfl rfl ?_
  refine Wp_aload_n d_M_count_2 rfl ?_
  refine Wp_ivv_i (o := 33) (As := []) d_M_count_3 ln_M_143 mk_M_reads rfl rfl rfl rfl rfl (by omega) (t_M_reads E (d - 1) (by omega) w S hM hV) (fun r3 w3 c3 => ?_)
  obtain ⟨hF, hP, fP⟩ := c3
  refine Wp_pop d_M_count_6 rfl ?_
  refine Wp_iload_n d_M_count_7 rfl ?_
  by_cases t0 : x.toInt = 0
  ·
    refine Wp_tabIn (off := 52) (tgt := 60) d_M_count_8 (by omega) (by omega) (by rw [t0]; rfl) (by decide) ?_
    refine Wp_aload_n d_M_count_60 rfl ?_
    refine Wp_getf d_M_count_61 fd_M_125 rfl rfl rfl ?_
    refine Wp_eqi (x2 := nI (pN S)) hP.2.1 ?_
    refine Wp_reti (ty := .int) d_M_count_64 rfl rfl ?_
    exact ⟨by unfold cntS; rw [if_pos (by omega)], hP, fP⟩
  by_cases t1 : x.toInt = 1
  ·
    refine Wp_tabIn (off := 57) (tgt := 65) d_M_count_8 (by omega) (by omega) (by rw [t1]; rfl) (by decide) ?_
    refine Wp_aload_n d_M_count_65 rfl ?_
    refine Wp_getf d_M_count_66 fd_M_119 rfl rfl rfl ?_
    refine Wp_eqi (x2 := S 33 6) hP.1.2.1 ?_
    refine Wp_eqi (x2 := nI (sLen S)) (VM_len hV).1 ?_
    refine Wp_reti (ty := .int) d_M_count_69 rfl rfl ?_
    exact ⟨by unfold cntS; rw [if_neg (by omega), if_pos (by omega)], hP, fP⟩
  by_cases t2 : x.toInt = 2
  ·
    refine Wp_tabIn (off := 62) (tgt := 70) d_M_count_8 (by omega) (by omega) (by rw [t2]; rfl) (by decide) ?_
    refine Wp_iconst (x := 0) d_M_count_70 (by decide) ?_
    refine Wp_istore_n (ls2 := [lr 33, li x, li 0, li 0]) d_M_count_71 rfl rfl rfl ?_
    refine Wp_mi (l_M_ct2 E d (by omega) w3 S hP x (pN S) 0 (by omega)) (fun r w4 h => ?_)
    rw [h.2]
    exact ⟨by rw [h.1]; unfold cntS; rw [if_neg (by omega), if_neg (by omega), if_pos (by omega)], hP, fP⟩
  by_cases t3 : x.toInt = 3
  ·
    refine Wp_tabIn (off := 89) (tgt := 97) d_M_count_8 (by omega) (by omega) (by rw [t3]; rfl) (by decide) ?_
    refine Wp_iconst (x := 0) d_M_count_97 (by decide) ?_
    refine Wp_istore_n (ls2 := [lr 33, li x, li 0, li 0]) d_M_count_98 rfl rfl rfl ?_
    refine Wp_mi (l_M_ct3 E d (by omega) w3 S hP x (pN S) 0 (by omega)) (fun r w4 h => ?_)
    rw [h.2]
    exact ⟨by rw [h.1]; unfold cntS; rw [if_neg (by omega), if_neg (by omega), if_neg (by omega), if_pos (by omega)], hP, fP⟩
  by_cases t4 : x.toInt = 4
  ·
    refine Wp_tabIn (off := 124) (tgt := 132) d_M_count_8 (by omega) (by omega) (by rw [t4]; rfl) (by decide) ?_
    refine Wp_aload_n d_M_count_132 rfl ?_
    refine Wp_getr d_M_count_133 fd_M_40 rfl rfl rfl ?_
    refine Wp_ivs_d (As := [vr 44]) d_M_count_136 ln_M_276 mk_M_pairs rfl rfl rfl (by omega) (t_M_pairs44 E (d - 1) (by omega) w3 (sWo S) (fun i hi => by rw [hP.1.r 44]; exact VM_wo hV i hi)) ?_
    refine Wp_reti (ty := .int) d_M_count_139 rfl rfl ?_
    exact ⟨by unfold cntS; rw [if_neg (by omega), if_neg (by omega), if_neg (by omega), if_neg (by omega), if_pos (by omega)], hP, fP⟩
  by_cases t5 : x.toInt = 5
  ·
    refine Wp_tabIn (off := 132) (tgt := 140) d_M_count_8 (by omega) (by omega) (by rw [t5]; rfl) (by decide) ?_
    refine Wp_aload_n d_M_count_140 rfl ?_
    refine Wp_getr d_M_count_141 fd_M_43 rfl rfl rfl ?_
    refine Wp_ivs_d (As := [vr 45]) d_M_count_144 ln_M_276 mk_M_pairs rfl rfl rfl (by omega) (t_M_pairs45 E (d - 1) (by omega) w3 (sMu S) (fun i hi => by rw [hP.1.r 45]; exact VM_mu hV i hi)) ?_
    refine Wp_reti (ty := .int) d_M_count_147 rfl rfl ?_
    exact ⟨by unfold cntS; rw [if_neg (by omega), if_neg (by omega), if_neg (by omega), if_neg (by omega), if_neg (by omega), if_pos (by omega)], hP, fP⟩
  by_cases t6 : x.toInt = 6
  ·
    refine Wp_tabIn (off := 140) (tgt := 148) d_M_count_8 (by omega) (by omega) (by rw [t6]; rfl) (by decide) ?_
    refine Wp_aload_n d_M_count_148 rfl ?_
    refine Wp_getf d_M_count_149 fd_M_263 rfl rfl rfl ?_
    refine Wp_eqi (x2 := S 33 28) hP.1.2.2.1 ?_
    refine Wp_eqi (x2 := nI (sSn S)) (VM_sn hV).1 ?_
    refine Wp_reti (ty := .int) d_M_count_152 rfl rfl ?_
    exact ⟨by unfold cntS; rw [if_neg (by omega), if_neg (by omega), if_neg (by omega), if_neg (by omega), if_neg (by omega), if_neg (by omega), if_pos (by omega)], hP, fP⟩
  by_cases t7 : x.toInt = 7
  ·
    refine Wp_tabIn (off := 145) (tgt := 153) d_M_count_8 (by omega) (by omega) (by rw [t7]; rfl) (by decide) ?_
    refine Wp_aload_n d_M_count_153 rfl ?_
    refine Wp_getr d_M_count_154 fd_M_37 rfl rfl rfl ?_
    refine Wp_iconst (x := 0) d_M_count_157 (by decide) ?_
    refine Wp_ialdN (j := 0) d_M_count_158 rfl rfl rfl rfl (by decide) ?_
    refine Wp_eqi (x2 := S 43 0) (congrFun (hP.1.r 43) _) ?_
    refine Wp_eqi (x2 := nI (sSet S 0)) ((VM_set hV).1 0 (by omega)).1 ?_
    refine Wp_reti (ty := .int) d_M_count_159 rfl rfl ?_
    exact ⟨by unfold cntS; rw [if_neg (by omega), if_neg (by omega), if_neg (by omega), if_neg (by omega), if_neg (by omega), if_neg (by omega), if_neg (by omega), if_pos (by omega)], hP, fP⟩
  by_cases t8 : x.toInt = 8
  ·
    refine Wp_tabIn (off := 152) (tgt := 160) d_M_count_8 (by omega) (by omega) (by rw [t8]; rfl) (by decide) ?_
    refine Wp_aload_n d_M_count_160 rfl ?_
    refine Wp_getf d_M_count_161 fd_M_92 rfl rfl rfl ?_
    refine Wp_eqi (x2 := S 33 4) hP.1.1 ?_
    refine Wp_reti (ty := .int) d_M_count_164 rfl rfl ?_
    exact ⟨by unfold cntS; rw [if_neg (by omega), if_neg (by omega), if_neg (by omega), if_neg (by omega), if_neg (by omega), if_neg (by omega), if_neg (by omega), if_neg (by omega), if_pos (by omega)], hP, fP⟩
  refine Wp_tabOut (tgt := 165) d_M_count_8 (by omega) (by decide) ?_
  refine Wp_bipush (x := (-2)) d_M_count_165 (by decide) ?_
  refine Wp_reti (ty := .int) d_M_count_167 rfl rfl ?_
  exact ⟨by unfold cntS; rw [if_neg (by omega), if_neg (by omega), if_neg (by omega), if_neg (by omega), if_neg (by omega), if_neg (by omega), if_neg (by omega), if_neg (by omega), if_neg (by omega)], hP, fP⟩
