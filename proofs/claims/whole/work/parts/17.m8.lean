set_option maxRecDepth 100000 in
set_option maxHeartbeats 4000000 in
theorem l_M_odd (E : mE) (d : Nat) (hd : 4 ≤ d) (S w0 : mw) (hV : VM S) : ∀ (k p : Nat) (w : mw) (u : Option mv), p + k = pN S → MB w S → fr sRows w0 w → Wp E d m_M_oddNow 10 [lr 33, li (oddN S p).1, li (oddN S p).2, li (nI p), u] [] w (mPi (fun r w1 => r = oddR S ∧ fr sRows w0 w1)) := by
  intro k
  have hp10 := (pN_ok S).1
  have hlt := two10 hp10
  have hwl := wh_lt S
  have hwe := wh_1 S
  induction k with
  | zero =>
    intro p w u hk hB hf
    refine Wp_iload_n d_M_oddNow_10 rfl ?_
    refine Wp_aload_n d_M_oddNow_11 rfl ?_
    refine Wp_getf d_M_oddNow_12 fd_M_125 rfl rfl rfl ?_
    refine Wp_eqi (x2 := nI (pN S)) hB.1.2.1 ?_
    refine Wp_icmp_ge d_M_oddNow_15 (fun h15 => ?_) (fun q => absurd (n_nle q (by omega) (by omega)) (by omega))
    refine Wp_iload_n d_M_oddNow_63 rfl ?_
    refine Wp_reti (ty := .int) d_M_oddNow_64 rfl rfl ?_
    have hin : p = pN S := by omega
    subst hin
    exact ⟨rfl, hf⟩
  | succ k ih =>
    intro p w u hk hB hf
    have han := ann_le (wh S) (2 ^ p)
    refine Wp_iload_n d_M_oddNow_10 rfl ?_
    refine Wp_aload_n d_M_oddNow_11 rfl ?_
    refine Wp_getf d_M_oddNow_12 fd_M_125 rfl rfl rfl ?_
    refine Wp_eqi (x2 := nI (pN S)) hB.1.2.1 ?_
    refine Wp_icmp_ge d_M_oddNow_15 (fun q => absurd (n_le q (by omega) (by omega)) (by omega)) (fun h15 => ?_)
    refine Wp_aload_n d_M_oddNow_18 rfl ?_
    refine Wp_aload_n d_M_oddNow_19 rfl ?_
    refine Wp_ivv_d (o := 33) (As := []) d_M_oddNow_20 ln_M_184 mk_M_whole rfl rfl rfl rfl rfl (by omega) (t_M_whole E (d - 1) (by omega) w S hB.1 hV) ?_
    refine Wp_iconst (x := 1) d_M_oddNow_23 (by decide) ?_
    refine Wp_iload_n d_M_oddNow_24 rfl ?_
    refine Wp_ishl d_M_oddNow_25 ?_
    refine Wp_eqi (x2 := nI (2 ^ p)) (sh1 (by omega)) ?_
    refine Wp_iconst (x := (-1)) d_M_oddNow_26 (by decide) ?_
    refine Wp_ixor d_M_oddNow_27 ?_
    refine Wp_iand d_M_oddNow_28 ?_
    refine Wp_eqi (x2 := nI (ann (wh S) (2 ^ p))) (anI (wh S) (2 ^ p)) ?_
    refine Wp_iconst (x := 0) d_M_oddNow_29 (by decide) ?_
    refine Wp_ivv_i (o := 33) (As := [vi (nI (ann (wh S) (2 ^ p))), vi 0]) d_M_oddNow_30 ln_M_204 mk_M_dayOf rfl rfl rfl rfl rfl (by omega) (t_M_dayOf E (d - 1) (by omega) w S hB hV (ann (wh S) (2 ^ p)) (by omega) 0) (fun r30 w30 c30 => ?_)
    obtain ⟨rD, fD⟩ := c30
    rw [rD]
    refine Wp_istore (ls2 := [lr 33, li ((oddN S p).1), li ((oddN S p).2), li (nI p), li (dayR S (ann (wh S) (2 ^ p)) 0)]) d_M_oddNow_33 rfl rfl rfl ?_
    refine Wp_iload d_M_oddNow_35 rfl ?_
    refine Wp_iconst (x := (-1)) d_M_oddNow_37 (by decide) ?_
    refine Wp_icmp_eq d_M_oddNow_38 (fun h38 => ?_) (fun h38 => ?_)
    ·
      refine Wp_iinc (z := nI (p + 1)) (ls2 := [lr 33, li ((oddN S p).1), li ((oddN S p).2), li (nI (p + 1)), li (dayR S (ann (wh S) (2 ^ p)) 0)]) d_M_oddNow_57 rfl (nI_add p 1) rfl rfl rfl ?_
      refine Wp_goto d_M_oddNow_60 ?_
      have h9 := ih (p + 1) w30 (li (dayR S (ann (wh S) (2 ^ p)) 0)) (by omega) (MB_fr hB fD (by decide)) (fr_tr hf (fr_sub fD (by decide)))
      rw [show oddN S (p + 1) = oddN S p by rw [oddN, if_neg (by first | exact fun q => q.1 h38 | exact fun q => q.2.elim (fun q => h43 q) (fun q => by omega))]] at h9
      exact h9
    ·
      have g38 : (dayR S (ann (wh S) (2 ^ p)) 0).toInt ≠ -1 := i_ne h38
      refine Wp_iload_n d_M_oddNow_41 rfl ?_
      refine Wp_iconst (x := (-1)) d_M_oddNow_42 (by decide) ?_
      refine Wp_icmp_eq d_M_oddNow_43 (fun h43 => ?_) (fun h43 => ?_)
      ·
        refine Wp_iload_n d_M_oddNow_52 rfl ?_
        refine Wp_istore_n (ls2 := [lr 33, li (nI p), li ((oddN S p).2), li (nI p), li (dayR S (ann (wh S) (2 ^ p)) 0)]) d_M_oddNow_53 rfl rfl rfl ?_
        refine Wp_iload d_M_oddNow_54 rfl ?_
        refine Wp_istore_n (ls2 := [lr 33, li (nI p), li (dayR S (ann (wh S) (2 ^ p)) 0), li (nI p), li (dayR S (ann (wh S) (2 ^ p)) 0)]) d_M_oddNow_56 rfl rfl rfl ?_
        refine Wp_iinc (z := nI (p + 1)) (ls2 := [lr 33, li (nI p), li (dayR S (ann (wh S) (2 ^ p)) 0), li (nI (p + 1)), li (dayR S (ann (wh S) (2 ^ p)) 0)]) d_M_oddNow_57 rfl (nI_add p 1) rfl rfl rfl ?_
        refine Wp_goto d_M_oddNow_60 ?_
        have h9 := ih (p + 1) w30 (li (dayR S (ann (wh S) (2 ^ p)) 0)) (by omega) (MB_fr hB fD (by decide)) (fr_tr hf (fr_sub fD (by decide)))
        rw [show oddN S (p + 1) = (nI p, dayR S (ann (wh S) (2 ^ p)) 0) by rw [oddN, if_pos (by first | exact ⟨g38, Or.inl h43⟩ | exact ⟨h38, Or.inl h43⟩ | exact ⟨h38, Or.inr g49⟩)]] at h9
        exact h9
      ·
        have g43 : ((oddN S p).1).toInt ≠ -1 := i_ne h43
        refine Wp_iload d_M_oddNow_46 rfl ?_
        refine Wp_iload_n d_M_oddNow_48 rfl ?_
        refine Wp_icmp_ge d_M_oddNow_49 (fun h49 => ?_) (fun h49 => ?_)
        ·
          have g49 : ((oddN S p).2).toInt ≤ (dayR S (ann (wh S) (2 ^ p)) 0).toInt := i_le h49
          refine Wp_iinc (z := nI (p + 1)) (ls2 := [lr 33, li ((oddN S p).1), li ((oddN S p).2), li (nI (p + 1)), li (dayR S (ann (wh S) (2 ^ p)) 0)]) d_M_oddNow_57 rfl (nI_add p 1) rfl rfl rfl ?_
          refine Wp_goto d_M_oddNow_60 ?_
          have h9 := ih (p + 1) w30 (li (dayR S (ann (wh S) (2 ^ p)) 0)) (by omega) (MB_fr hB fD (by decide)) (fr_tr hf (fr_sub fD (by decide)))
          rw [show oddN S (p + 1) = oddN S p by rw [oddN, if_neg (by first | exact fun q => q.1 h38 | exact fun q => q.2.elim (fun q => h43 q) (fun q => by omega))]] at h9
          exact h9
        ·
          have g49 : (dayR S (ann (wh S) (2 ^ p)) 0).toInt < ((oddN S p).2).toInt := i_nle h49
          refine Wp_iload_n d_M_oddNow_52 rfl ?_
          refine Wp_istore_n (ls2 := [lr 33, li (nI p), li ((oddN S p).2), li (nI p), li (dayR S (ann (wh S) (2 ^ p)) 0)]) d_M_oddNow_53 rfl rfl rfl ?_
          refine Wp_iload d_M_oddNow_54 rfl ?_
          refine Wp_istore_n (ls2 := [lr 33, li (nI p), li (dayR S (ann (wh S) (2 ^ p)) 0), li (nI p), li (dayR S (ann (wh S) (2 ^ p)) 0)]) d_M_oddNow_56 rfl rfl rfl ?_
          refine Wp_iinc (z := nI (p + 1)) (ls2 := [lr 33, li (nI p), li (dayR S (ann (wh S) (2 ^ p)) 0), li (nI (p + 1)), li (dayR S (ann (wh S) (2 ^ p)) 0)]) d_M_oddNow_57 rfl (nI_add p 1) rfl rfl rfl ?_
          refine Wp_goto d_M_oddNow_60 ?_
          have h9 := ih (p + 1) w30 (li (dayR S (ann (wh S) (2 ^ p)) 0)) (by omega) (MB_fr hB fD (by decide)) (fr_tr hf (fr_sub fD (by decide)))
          rw [show oddN S (p + 1) = (nI p, dayR S (ann (wh S) (2 ^ p)) 0) by rw [oddN, if_pos (by first | exact ⟨g38, Or.inl h43⟩ | exact ⟨h38, Or.inl h43⟩ | exact ⟨h38, Or.inr g49⟩)]] at h9
          exact h9
set_option maxRecDepth 100000 in
set_option maxHeartbeats 4000000 in
theorem t_M_oddNow (E : mE) (d : Nat) (hd : 4 ≤ d) (w : mw) (S : mw) (hM : MP w S) (hV : VM S) : Ti E d m_M_oddNow [vr 33] w (fun r w1 => r = oddR S ∧ fr sRows w w1) := by
  refine ⟨Nat.le_of_ble_eq_true rfl, ?_⟩
  show Wp E d m_M_oddNow 0 [lr 33, lo, lo, lo, lo] [] w _
  refine Wp_aload_n d_M_oddNow_0 rfl ?_
  refine Wp_ivv_v (o := 33) (As := []) d_M_oddNow_1 ln_M_201 mk_M_findBoats rfl rfl rfl rfl rfl (by omega) (t_M_findBoats E (d - 1) (by omega) w S hM hV) (fun w1 c1 => ?_)
  obtain ⟨hB, fB⟩ := c1
  refine Wp_iconst (x := (-1)) d_M_oddNow_4 (by decide) ?_
  refine Wp_istore_n (ls2 := [lr 33, li (-1), lo, lo, lo]) d_M_oddNow_5 rfl rfl rfl ?_
  refine Wp_iconst (x := 0) d_M_oddNow_6 (by decide) ?_
  refine Wp_istore_n (ls2 := [lr 33, li (-1), li 0, lo, lo]) d_M_oddNow_7 rfl rfl rfl ?_
  refine Wp_iconst (x := 0) d_M_oddNow_8 (by decide) ?_
  refine Wp_istore_n (ls2 := [lr 33, li (-1), li 0, li 0, lo]) d_M_oddNow_9 rfl rfl rfl ?_
  exact l_M_odd E d (by omega) S w hV (pN S) 0 w1 none (by omega) hB (fr_sub fB (by decide))
set_option maxRecDepth 100000 in
set_option maxHeartbeats 4000000 in
theorem t_M_odd (E : mE) (d : Nat) (hd : 5 ≤ d) (w : mw) (S : mw) (hM : MM w S) (hV : VM S) : Ti E d m_M_odd [vr 33] w (fun r w1 => r = oddR S ∧ MP w1 S ∧ fr mRows w w1) := by
  refine ⟨Nat.le_of_ble_eq_true rfl, ?_⟩
  show Wp E d m_M_odd 0 [lr 33] [] w _
  refine Wp_aload_n d_M_odd_0 rfl ?_
  refine Wp_ivv_i (o := 33) (As := []) d_M_odd_1 ln_M_143 mk_M_reads rfl rfl rfl rfl rfl (by omega) (t_M_reads E (d - 1) (by omega) w S hM hV) (fun r1 w1 c1 => ?_)
  obtain ⟨hF, hP, fP⟩ := c1
  refine Wp_pop d_M_odd_4 rfl ?_
  refine Wp_aload_n d_M_odd_5 rfl ?_
  refine Wp_ivv_i (o := 33) (As := []) d_M_odd_6 ln_M_213 mk_M_oddNow rfl rfl rfl rfl rfl (by omega) (t_M_oddNow E (d - 1) (by omega) w1 S hP hV) (fun r6 w6 c6 => ?_)
  obtain ⟨rO, fO⟩ := c6
  rw [rO]
  refine Wp_reti (ty := .int) d_M_odd_9 rfl rfl ?_
  exact ⟨rfl, MP_s hP fO, fr_tr (frF_m fP) (fr_sub fO (by decide))⟩
set_option maxRecDepth 100000 in
set_option maxHeartbeats 4000000 in
theorem t_M_noDay (E : mE) (d : Nat) (hd : 3 ≤ d) (w : mw) (S : mw) (hM : MM w S) (hV : VM S) (s : Int32) : Ti E d m_M_noDay [vr 33, vi s] w (fun r w1 => (r = -2 ∧ ¬ (0 ≤ s.toInt ∧ s.toInt ≤ 3) ∧ w1 = w) ∨ (r = -11 ∧ (0 ≤ s.toInt ∧ s.toInt ≤ 3) ∧ (S 34 s.toNatClampNeg).toInt < 0 ∧ w1 = mU w 33 4 1) ∨ (r = -3 ∧ (0 ≤ s.toInt ∧ s.toInt ≤ 3) ∧ ¬ (S 34 s.toNatClampNeg).toInt < 0 ∧ sSz S s.toNatClampNeg < pN S ∧ MP w1 S ∧ frF w w1) ∨ (r = 0 ∧ (0 ≤ s.toInt ∧ s.toInt ≤ 3) ∧ ¬ (S 34 s.toNatClampNeg).toInt < 0 ∧ pN S ≤ sSz S s.toNatClampNeg ∧ MP w1 S ∧ frF w w1)) := by
  refine ⟨Nat.le_of_ble_eq_true rfl, ?_⟩
  show Wp E d m_M_noDay 0 [lr 33, li s] [] w _
  have hp10 := (pN_ok S).1
  refine Wp_iload_n d_M_noDay_0 rfl ?_
  refine Wp_ivs_b (As := [vi s]) d_M_noDay_1 ln_M_98 mk_M_isSheet rfl rfl rfl (by omega) (t_M_isSheet E (d - 1) (by omega) w s) (fun g1 => ?_) (fun g1 => ?_)
  ·
    obtain ⟨s1, h_s1, rfl⟩ := sh_of g1
    refine Wp_if_ne d_M_noDay_4 (fun _ => ?_) (fun q => absurd q (by decide))
    refine Wp_aload_n d_M_noDay_10 rfl ?_
    refine Wp_getr d_M_noDay_11 fd_M_7 rfl rfl rfl ?_
    refine Wp_iload_n d_M_noDay_14 rfl ?_
    refine Wp_ialdN (j := s1) d_M_noDay_15 rfl rfl rfl rfl (by omega) ?_
    refine Wp_eqi (x2 := S 34 s1) (congrFun (hM.r 34) _) ?_
    refine Wp_if_ge d_M_noDay_16 (fun h16 => ?_) (fun h16 => ?_)
    ·
      have g16 : 0 ≤ (S 34 s1).toInt := i_le h16
      refine Wp_aload_n d_M_noDay_25 rfl ?_
      refine Wp_ivv_i (o := 33) (As := []) d_M_noDay_26 ln_M_143 mk_M_reads rfl rfl rfl rfl rfl (by omega) (t_M_reads E (d - 1) (by omega) w S hM hV) (fun r26 w26 c26 => ?_)
      obtain ⟨hF, hP, fP⟩ := c26
      refine Wp_pop d_M_noDay_29 rfl ?_
      refine Wp_aload_n d_M_noDay_30 rfl ?_
      refine Wp_getr d_M_noDay_31 fd_M_13 rfl rfl rfl ?_
      refine Wp_iload_n d_M_noDay_34 rfl ?_
      refine Wp_ialdN (j := s1) d_M_noDay_35 rfl rfl rfl rfl (by omega) ?_
      refine Wp_eqi (x2 := S 35 s1) (congrFun (hP.1.r 35) _) ?_
      refine Wp_eqi (x2 := nI (sSz S s1)) (VM_sz hV _ (by omega)).1 ?_
      refine Wp_aload_n d_M_noDay_36 rfl ?_
      refine Wp_getf d_M_noDay_37 fd_M_125 rfl rfl rfl ?_
      refine Wp_eqi (x2 := nI (pN S)) hP.2.1 ?_
      refine Wp_icmp_ge d_M_noDay_40 (fun h40 => ?_) (fun h40 => ?_)
      ·
        have hz2 := (VM_sz hV s1 (by omega)).2
        have g40 : (pN S) ≤ (sSz S s1) := n_le h40 (by omega) (by omega)
        refine Wp_iconst (x := 0) d_M_noDay_48 (by decide) ?_
        refine Wp_reti (ty := .int) d_M_noDay_49 rfl rfl ?_
        exact Or.inr (Or.inr (Or.inr ⟨rfl, g1, by rw [cl (by omega)]; omega, by rw [cl (by omega)]; exact g40, hP, fP⟩))
      ·
        have hz2 := (VM_sz hV s1 (by omega)).2
        have g40 : (sSz S s1) < (pN S) := n_nle h40 (by omega) (by omega)
        refine Wp_bipush (x := (-3)) d_M_noDay_43 (by decide) ?_
        refine Wp_goto d_M_noDay_45 ?_
        refine Wp_reti (ty := .int) d_M_noDay_49 rfl rfl ?_
        exact Or.inr (Or.inr (Or.inl ⟨rfl, g1, by rw [cl (by omega)]; omega, by rw [cl (by omega)]; exact g40, hP, fP⟩))
    ·
      have g16 : (S 34 s1).toInt < 0 := i_nle h16
      refine Wp_aload_n d_M_noDay_19 rfl ?_
      refine Wp_iconst (x := 1) d_M_noDay_20 (by decide) ?_
      refine Wp_ivv_d (o := 33) (As := [vi 1]) d_M_noDay_21 ln_M_104 mk_M_met rfl rfl rfl rfl rfl (by omega) (t_M_met E (d - 1) (by omega) w 1 (-11) (by decide)) ?_
      refine Wp_reti (ty := .int) d_M_noDay_24 rfl rfl ?_
      exact Or.inr (Or.inl ⟨rfl, g1, by rw [cl (by omega)]; exact g16, rfl⟩)
  ·
    refine Wp_if_ne d_M_noDay_4 (fun q => absurd q (by decide)) (fun _ => ?_)
    refine Wp_bipush (x := (-2)) d_M_noDay_7 (by decide) ?_
    refine Wp_reti (ty := .int) d_M_noDay_9 rfl rfl ?_
    exact Or.inl ⟨rfl, g1, rfl⟩
set_option maxRecDepth 100000 in
set_option maxHeartbeats 4000000 in
theorem l_M_tb (E : mE) (d : Nat) (hd : 0 ≤ d) (w S : mw) (hM : MP w S) (s : Nat) (hs : s < 4) (x : Int32) : ∀ (k p : Nat), p + k = pN S → Wp E d m_M_toldBoat 5 [lr 33, li (nI s), li x, li (nI (tbN S s x p)), li (nI p)] [] w (mPi (fun r w1 => r = nI (tbS S s x) ∧ w1 = w)) := by
  intro k
  have hp10 := (pN_ok S).1
  induction k with
  | zero =>
    intro p hk
    refine Wp_iload d_M_toldBoat_5 rfl ?_
    refine Wp_aload_n d_M_toldBoat_7 rfl ?_
    refine Wp_getf d_M_toldBoat_8 fd_M_125 rfl rfl rfl ?_
    refine Wp_eqi (x2 := nI (pN S)) hM.2.1 ?_
    refine Wp_icmp_ge d_M_toldBoat_11 (fun h11 => ?_) (fun q => absurd (n_nle q (by omega) (by omega)) (by omega))
    refine Wp_iload_n d_M_toldBoat_47 rfl ?_
    refine Wp_reti (ty := .int) d_M_toldBoat_48 rfl rfl ?_
    have hin : p = pN S := by omega
    subst hin
    exact ⟨rfl, rfl⟩
  | succ k ih =>
    intro p hk
    refine Wp_iload d_M_toldBoat_5 rfl ?_
    refine Wp_aload_n d_M_toldBoat_7 rfl ?_
    refine Wp_getf d_M_toldBoat_8 fd_M_125 rfl rfl rfl ?_
    refine Wp_eqi (x2 := nI (pN S)) hM.2.1 ?_
    refine Wp_icmp_ge d_M_toldBoat_11 (fun q => absurd (n_le q (by omega) (by omega)) (by omega)) (fun h11 => ?_)
    refine Wp_iload_n d_M_toldBoat_14 rfl ?_
    refine Wp_aload_n d_M_toldBoat_15 rfl ?_
    refine Wp_getr d_M_toldBoat_16 fd_M_16 rfl rfl rfl ?_
    refine Wp_bipush (x := 60) d_M_toldBoat_19 (by decide) ?_
    refine Wp_iload_n d_M_toldBoat_21 rfl ?_
    refine Wp_imul d_M_toldBoat_22 ?_
    refine Wp_eqi (x2 := nI (60 * s)) (pk_mul 60 s) ?_
    refine Wp_iload d_M_toldBoat_23 rfl ?_
    refine Wp_iadd d_M_toldBoat_25 ?_
    refine Wp_eqi (x2 := nI ((60 * s) + p)) (nI_add (60 * s) p) ?_
    refine Wp_ialdN (j := ((60 * s) + p)) d_M_toldBoat_26 rfl rfl rfl rfl (by omega) ?_
    refine Wp_eqi (x2 := S 36 ((60 * s) + p)) (congrFun (hM.1.r 36) _) ?_
    refine Wp_iload_n d_M_toldBoat_27 rfl ?_
    refine Wp_icmp_ne d_M_toldBoat_28 (fun h28 => ?_) (fun h28 => ?_)
    ·
      have g28 : (S 36 ((60 * s) + p)).toInt ≠ x.toInt := i_ne h28
      refine Wp_iconst (x := 0) d_M_toldBoat_38 (by decide) ?_
      refine Wp_ior d_M_toldBoat_39 ?_
      refine Wp_eqi (x2 := nI ((tbN S s x p) ||| 0)) (nI_or (tbN S s x p) 0) ?_
      refine Wp_istore_n (ls2 := [lr 33, li (nI s), li x, li (nI ((tbN S s x p) ||| 0)), li (nI p)]) d_M_toldBoat_40 rfl rfl rfl ?_
      refine Wp_iinc (z := nI (p + 1)) (ls2 := [lr 33, li (nI s), li x, li (nI ((tbN S s x p) ||| 0)), li (nI (p + 1))]) d_M_toldBoat_41 rfl (nI_add p 1) rfl rfl rfl ?_
      refine Wp_goto d_M_toldBoat_44 ?_
      have h9 := ih (p + 1) (by omega)
      rw [show tbN S s x (p + 1) = (if S 36 (60 * s + p) = x then tbN S s x p ||| 2 ^ p else tbN S s x p) from rfl, if_neg h28] at h9
      simpa using h9
    ·
      refine Wp_iconst (x := 1) d_M_toldBoat_31 (by decide) ?_
      refine Wp_iload d_M_toldBoat_32 rfl ?_
      refine Wp_ishl d_M_toldBoat_34 ?_
      refine Wp_eqi (x2 := nI (2 ^ p)) (sh1 (by omega)) ?_
      refine Wp_goto d_M_toldBoat_35 ?_
      refine Wp_ior d_M_toldBoat_39 ?_
      refine Wp_eqi (x2 := nI ((tbN S s x p) ||| (2 ^ p))) (nI_or (tbN S s x p) (2 ^ p)) ?_
      refine Wp_istore_n (ls2 := [lr 33, li (nI s), li x, li (nI ((tbN S s x p) ||| (2 ^ p))), li (nI p)]) d_M_toldBoat_40 rfl rfl rfl ?_
      refine Wp_iinc (z := nI (p + 1)) (ls2 := [lr 33, li (nI s), li x, li (nI ((tbN S s x p) ||| (2 ^ p))), li (nI (p + 1))]) d_M_toldBoat_41 rfl (nI_add p 1) rfl rfl rfl ?_
      refine Wp_goto d_M_toldBoat_44 ?_
      have h9 := ih (p + 1) (by omega)
      rw [show tbN S s x (p + 1) = (if S 36 (60 * s + p) = x then tbN S s x p ||| 2 ^ p else tbN S s x p) from rfl, if_pos h28] at h9
      exact h9
set_option maxRecDepth 100000 in
set_option maxHeartbeats 4000000 in
theorem t_M_toldBoat (E : mE) (d : Nat) (hd : 0 ≤ d) (w : mw) (S : mw) (hM : MP w S) (s : Nat) (hs : s < 4) (x : Int32) : Td E d m_M_toldBoat [vr 33, vi (nI s), vi x] w (nI (tbS S s x)) w := by
  refine ⟨Nat.le_of_ble_eq_true rfl, ?_⟩
  show Wp E d m_M_toldBoat 0 [lr 33, li (nI s), li x, lo, lo] [] w _
  refine Wp_iconst (x := 0) d_M_toldBoat_0 (by decide) ?_
  refine Wp_istore_n (ls2 := [lr 33, li (nI s), li x, li 0, lo]) d_M_toldBoat_1 rfl rfl rfl ?_
  refine Wp_iconst (x := 0) d_M_toldBoat_2 (by decide) ?_
  refine Wp_istore (ls2 := [lr 33, li (nI s), li x, li 0, li 0]) d_M_toldBoat_3 rfl rfl rfl ?_
  exact l_M_tb E d (by omega) w S hM s hs x (pN S) 0 (by omega)
set_option maxRecDepth 100000 in
set_option maxHeartbeats 4000000 in
theorem l_M_jd (E : mE) (d : Nat) (hd : 4 ≤ d) (w S : mw) (hB : MB w S) (hV : VM S) (s : Nat) (hs : s < 4) : ∀ (k p : Nat) (u u2 : Option mv), p + k = pN S → Wp E d m_M_judgedOf 6 [lr 33, li (nI s), li (nI p), u, u2] [] w (mPi (fun r w1 => r = jdF S s k p ∧ w1 = w)) := by
  intro k
  have hp10 := (pN_ok S).1
  have hlt := two10 hp10
  have hwl := wh_lt S
  induction k with
  | zero =>
    intro p u u2 hk
    refine Wp_iload_n d_M_judgedOf_6 rfl ?_
    refine Wp_aload_n d_M_judgedOf_7 rfl ?_
    refine Wp_getf d_M_judgedOf_8 fd_M_125 rfl rfl rfl ?_
    refine Wp_eqi (x2 := nI (pN S)) hB.1.2.1 ?_
    refine Wp_icmp_ge d_M_judgedOf_11 (fun h11 => ?_) (fun q => absurd (n_nle q (by omega) (by omega)) (by omega))
    refine Wp_iconst (x := (-1)) d_M_judgedOf_81 (by decide) ?_
    refine Wp_reti (ty := .int) d_M_judgedOf_82 rfl rfl ?_
    exact ⟨rfl, rfl⟩
  | succ k ih =>
    intro p u u2 hk
    have hl : (tbS S s (S 36 (60 * s + p))) < 2 ^ pN S := tbN_lt _
    have hb0 : 0 < (tbS S s (S 36 (60 * s + p))) := by
      apply Nat.pos_of_ne_zero
      intro q
      have h1 := (tbN_tb (S := S) (s := s) (x := (S 36 (60 * s + p))) (i := p) (pN S)).mpr ⟨by omega, rfl⟩
      have h2 : (tbS S s (S 36 (60 * s + p))).testBit p = true := h1
      rw [q, Nat.zero_testBit] at h2
      exact absurd h2 (by decide)
    have hnd := needS_lt hV (b := (tbS S s (S 36 (60 * s + p))))
    have hna := ann_le (needS S (tbS S s (S 36 (60 * s + p))) &&& wh S) (tbS S s (S 36 (60 * s + p)))
    have hna2 : needS S (tbS S s (S 36 (60 * s + p))) &&& wh S ≤ wh S := Nat.and_le_right
    have hmay := hB.2 (tbS S s (S 36 (60 * s + p))) (by omega) (by omega)
    refine Wp_iload_n d_M_judgedOf_6 rfl ?_
    refine Wp_aload_n d_M_judgedOf_7 rfl ?_
    refine Wp_getf d_M_judgedOf_8 fd_M_125 rfl rfl rfl ?_
    refine Wp_eqi (x2 := nI (pN S)) hB.1.2.1 ?_
    refine Wp_icmp_ge d_M_judgedOf_11 (fun q => absurd (n_le q (by omega) (by omega)) (by omega)) (fun h11 => ?_)
    refine Wp_aload_n d_M_judgedOf_14 rfl ?_
    refine Wp_getr d_M_judgedOf_15 fd_M_16 rfl rfl rfl ?_
    refine Wp_bipush (x := 60) d_M_judgedOf_18 (by decide) ?_
    refine Wp_iload_n d_M_judgedOf_20 rfl ?_
    refine Wp_imul d_M_judgedOf_21 ?_
    refine Wp_eqi (x2 := nI (60 * s)) (pk_mul 60 s) ?_
    refine Wp_iload_n d_M_judgedOf_22 rfl ?_
    refine Wp_iadd d_M_judgedOf_23 ?_
    refine Wp_eqi (x2 := nI ((60 * s) + p)) (nI_add (60 * s) p) ?_
    refine Wp_ialdN (j := ((60 * s) + p)) d_M_judgedOf_24 rfl rfl rfl rfl (by omega) ?_
    refine Wp_eqi (x2 := S 36 ((60 * s) + p)) (congrFun (hB.1.1.r 36) _) ?_
    refine Wp_eqi (x2 := S 36 (60 * s + p)) rfl ?_
    refine Wp_istore_n (ls2 := [lr 33, li (nI s), li (nI p), li (S 36 (60 * s + p)), u2]) d_M_judgedOf_25 rfl rfl rfl ?_
    refine Wp_iload_n d_M_judgedOf_26 rfl ?_
    refine Wp_ivs_b (As := [vi (S 36 (60 * s + p))]) d_M_judgedOf_27 ln_M_157 mk_M_isNumber rfl rfl rfl (by omega) (t_M_isNumber E (d - 1) (by omega) w (S 36 (60 * s + p))) (fun g27 => ?_) (fun g27 => ?_)
    ·
      refine Wp_if_ne d_M_judgedOf_30 (fun _ => ?_) (fun q => absurd q (by decide))
      refine Wp_aload_n d_M_judgedOf_35 rfl ?_
      refine Wp_iload_n d_M_judgedOf_36 rfl ?_
      refine Wp_iload_n d_M_judgedOf_37 rfl ?_
      refine Wp_ivv_d (o := 33) (As := [vi (nI s), vi (S 36 (60 * s + p))]) d_M_judgedOf_38 ln_M_216 mk_M_toldBoat rfl rfl rfl rfl rfl (by omega) (t_M_toldBoat E (d - 1) (by omega) w S hB.1 s (by omega) (S 36 (60 * s + p))) ?_
      refine Wp_istore (ls2 := [lr 33, li (nI s), li (nI p), li (S 36 (60 * s + p)), li (nI (tbS S s (S 36 (60 * s + p))))]) d_M_judgedOf_41 rfl rfl rfl ?_
      refine Wp_aload_n d_M_judgedOf_43 rfl ?_
      refine Wp_getr d_M_judgedOf_44 fd_M_52 rfl rfl rfl ?_
      refine Wp_iload d_M_judgedOf_47 rfl ?_
      refine Wp_zaldN (j := (tbS S s (S 36 (60 * s + p)))) d_M_judgedOf_49 rfl rfl rfl rfl (by omega) ?_
      refine Wp_eqi (x2 := bi (okS S (tbS S s (S 36 (60 * s + p))))) hmay.1 ?_
      refine Wp_if_eq d_M_judgedOf_50 (fun h50 => ?_) (fun h50 => ?_)
      ·
        have hok : ¬ okS S (tbS S s (S 36 (60 * s + p))) = true := fun q => by rw [q] at h50; exact absurd h50 (by decide)
        refine Wp_iload_n d_M_judgedOf_73 rfl ?_
        refine Wp_reti (ty := .int) d_M_judgedOf_74 rfl rfl ?_
        refine ⟨?_, rfl⟩
        rw [jdF_bad (by first | exact Or.inl g27 | exact Or.inr (Or.inl hok) | exact Or.inr (Or.inr g70))]
      ·
        have hok : okS S (tbS S s (S 36 (60 * s + p))) = true := by
          cases hq : okS S (tbS S s (S 36 (60 * s + p)))
          · rw [hq] at h50; exact absurd rfl h50
          · rfl
        refine Wp_aload_n d_M_judgedOf_53 rfl ?_
        refine Wp_getr d_M_judgedOf_54 fd_M_49 rfl rfl rfl ?_
        refine Wp_iload d_M_judgedOf_57 rfl ?_
        refine Wp_ialdN (j := (tbS S s (S 36 (60 * s + p)))) d_M_judgedOf_59 rfl rfl rfl rfl (by omega) ?_
        refine Wp_eqi (x2 := nI (needS S (tbS S s (S 36 (60 * s + p))))) hmay.2.2 ?_
        refine Wp_aload_n d_M_judgedOf_60 rfl ?_
        refine Wp_ivv_d (o := 33) (As := []) d_M_judgedOf_61 ln_M_184 mk_M_whole rfl rfl rfl rfl rfl (by omega) (t_M_whole E (d - 1) (by omega) w S hB.1 hV) ?_
        refine Wp_iand d_M_judgedOf_64 ?_
        refine Wp_eqi (x2 := nI ((needS S (tbS S s (S 36 (60 * s + p)))) &&& (wh S))) (nI_and (needS S (tbS S s (S 36 (60 * s + p)))) (wh S)) ?_
        refine Wp_iload d_M_judgedOf_65 rfl ?_
        refine Wp_iconst (x := (-1)) d_M_judgedOf_67 (by decide) ?_
        refine Wp_ixor d_M_judgedOf_68 ?_
        refine Wp_iand d_M_judgedOf_69 ?_
        refine Wp_eqi (x2 := nI (ann ((needS S (tbS S s (S 36 (60 * s + p)))) &&& (wh S)) (tbS S s (S 36 (60 * s + p))))) (anI ((needS S (tbS S s (S 36 (60 * s + p)))) &&& (wh S)) (tbS S s (S 36 (60 * s + p)))) ?_
        refine Wp_if_eq d_M_judgedOf_70 (fun h70 => ?_) (fun h70 => ?_)
        ·
          have g70 : (ann ((needS S (tbS S s (S 36 (60 * s + p)))) &&& (wh S)) (tbS S s (S 36 (60 * s + p)))) = 0 := n_eq h70 (by omega) (by omega)
          refine Wp_iinc (z := nI (p + 1)) (ls2 := [lr 33, li (nI s), li (nI (p + 1)), li (S 36 (60 * s + p)), li (nI (tbS S s (S 36 (60 * s + p))))]) d_M_judgedOf_75 rfl (nI_add p 1) rfl rfl rfl ?_
          refine Wp_goto d_M_judgedOf_78 ?_
          rw [jdF_ok (fun q => q.elim (fun q => q g27) (fun q => q.elim (fun q => q hok) (fun q => q g70)))]
          exact ih (p + 1) (li (S 36 (60 * s + p))) (li (nI (tbS S s (S 36 (60 * s + p))))) (by omega)
        ·
          have g70 : (ann ((needS S (tbS S s (S 36 (60 * s + p)))) &&& (wh S)) (tbS S s (S 36 (60 * s + p)))) ≠ 0 := n_ne h70 (by omega) (by omega)
          refine Wp_iload_n d_M_judgedOf_73 rfl ?_
          refine Wp_reti (ty := .int) d_M_judgedOf_74 rfl rfl ?_
          refine ⟨?_, rfl⟩
          rw [jdF_bad (by first | exact Or.inl g27 | exact Or.inr (Or.inl hok) | exact Or.inr (Or.inr g70))]
    ·
      refine Wp_if_ne d_M_judgedOf_30 (fun q => absurd q (by decide)) (fun _ => ?_)
      refine Wp_iload_n d_M_judgedOf_33 rfl ?_
      refine Wp_reti (ty := .int) d_M_judgedOf_34 rfl rfl ?_
      refine ⟨?_, rfl⟩
      rw [jdF_bad (by first | exact Or.inl g27 | exact Or.inr (Or.inl hok) | exact Or.inr (Or.inr g70))]
set_option maxRecDepth 100000 in
set_option maxHeartbeats 4000000 in
theorem t_M_judgedOf (E : mE) (d : Nat) (hd : 4 ≤ d) (w : mw) (S : mw) (hM : MP w S) (hV : VM S) (s : Nat) (hs : s < 4) : Ti E d m_M_judgedOf [vr 33, vi (nI s)] w (fun r w1 => r = jdS S s ∧ MB w1 S ∧ fr [46, 47, 48] w w1) := by
  refine ⟨Nat.le_of_ble_eq_true rfl, ?_⟩
  show Wp E d m_M_judgedOf 0 [lr 33, li (nI s), lo, lo, lo] [] w _
  refine Wp_aload_n d_M_judgedOf_0 rfl ?_
  refine Wp_ivv_v (o := 33) (As := []) d_M_judgedOf_1 ln_M_201 mk_M_findBoats rfl rfl rfl rfl rfl (by omega) (t_M_findBoats E (d - 1) (by omega) w S hM hV) (fun w1 c1 => ?_)
  obtain ⟨hB, fB⟩ := c1
  refine Wp_iconst (x := 0) d_M_judgedOf_4 (by decide) ?_
  refine Wp_istore_n (ls2 := [lr 33, li (nI s), li 0, lo, lo]) d_M_judgedOf_5 rfl rfl rfl ?_
  refine Wp_mi (l_M_jd E d (by omega) w1 S hB hV s hs (pN S) 0 none none (by omega)) (fun r w2 h => ?_)
  rw [h.2]; exact ⟨h.1, hB, fB⟩
set_option maxRecDepth 100000 in
set_option maxHeartbeats 4000000 in
theorem t_M_judged (E : mE) (d : Nat) (hd : 5 ≤ d) (w : mw) (S : mw) (hM : MM w S) (hV : VM S) (s : Int32) : Ti E d m_M_judged [vr 33, vi s] w (fun r w1 => r = (oJudged S s).1 ∧ MM w1 (oJudged S s).2 ∧ fr mRows w w1) := by
  refine ⟨Nat.le_of_ble_eq_true rfl, ?_⟩
  show Wp E d m_M_judged 0 [lr 33, li s, lo] [] w _
  refine Wp_aload_n d_M_judged_0 rfl ?_
  refine Wp_iload_n d_M_judged_1 rfl ?_
  refine Wp_ivv_i (o := 33) (As := [vi s]) d_M_judged_2 ln_M_219 mk_M_noDay rfl rfl rfl rfl rfl (by omega) (t_M_noDay E (d - 1) (by omega) w S hM hV s) (fun r2 w2 c2 => ?_)
  rcases c2 with ⟨j2, n1, n2⟩ | ⟨j2, n1, n2, n3⟩ | ⟨j2, n1, n2, n3, hP, fP⟩ | ⟨j2, n1, n2, n3, hP, fP⟩
  ·
    rw [j2, n2]
    refine Wp_istore_n (ls2 := [lr 33, li s, li (-2)]) d_M_judged_5 rfl rfl rfl ?_
    refine Wp_iload_n d_M_judged_6 rfl ?_
    refine Wp_if_eq d_M_judged_7 (fun q => absurd q (by decide)) (fun _ => ?_)
    refine Wp_iload_n d_M_judged_10 rfl ?_
    refine Wp_goto d_M_judged_11 ?_
    refine Wp_reti (ty := .int) d_M_judged_19 rfl rfl ?_
    have e9 : oJudged S s = (-2, S) := by unfold oJudged; rw [if_pos n1]
    rw [e9]; exact ⟨rfl, hM, fr_rf⟩
  ·
    rw [j2, n3]
    refine Wp_istore_n (ls2 := [lr 33, li s, li (-11)]) d_M_judged_5 rfl rfl rfl ?_
    refine Wp_iload_n d_M_judged_6 rfl ?_
    refine Wp_if_eq d_M_judged_7 (fun q => absurd q (by decide)) (fun _ => ?_)
    refine Wp_iload_n d_M_judged_10 rfl ?_
    refine Wp_goto d_M_judged_11 ?_
    refine Wp_reti (ty := .int) d_M_judged_19 rfl rfl ?_
    have e9 : oJudged S s = (-11, mU S 33 4 1) := by unfold oJudged; rw [if_neg (fun q => q n1), if_pos n2]
    rw [e9]; exact ⟨rfl, MM_f hM, fr_U (by decide)⟩
  ·
    rw [j2]
    refine Wp_istore_n (ls2 := [lr 33, li s, li (-3)]) d_M_judged_5 rfl rfl rfl ?_
    refine Wp_iload_n d_M_judged_6 rfl ?_
    refine Wp_if_eq d_M_judged_7 (fun q => absurd q (by decide)) (fun _ => ?_)
    refine Wp_iload_n d_M_judged_10 rfl ?_
    refine Wp_goto d_M_judged_11 ?_
    refine Wp_reti (ty := .int) d_M_judged_19 rfl rfl ?_
    have e9 : oJudged S s = (-3, S) := by unfold oJudged; rw [if_neg (fun q => q n1), if_neg n2, if_pos n3]
    rw [e9]; exact ⟨rfl, hP.1, frF_m fP⟩
  ·
    rw [j2]
    obtain ⟨s1, h_s1, rfl⟩ := sh_of n1
    rw [cl (by omega)] at n2 n3
    refine Wp_istore_n (ls2 := [lr 33, li (nI s1), li 0]) d_M_judged_5 rfl rfl rfl ?_
    refine Wp_iload_n d_M_judged_6 rfl ?_
    refine Wp_if_eq d_M_judged_7 (fun _ => ?_) (fun q => absurd (by decide) q)
    refine Wp_aload_n d_M_judged_14 rfl ?_
    refine Wp_iload_n d_M_judged_15 rfl ?_
    refine Wp_ivv_i (o := 33) (As := [vi (nI s1)]) d_M_judged_16 ln_M_222 mk_M_judgedOf rfl rfl rfl rfl rfl (by omega) (t_M_judgedOf E (d - 1) (by omega) w2 S hP hV s1 (by omega)) (fun r16 w16 c16 => ?_)
    obtain ⟨rJ, hB, fB⟩ := c16
    rw [rJ]
    refine Wp_reti (ty := .int) d_M_judged_19 rfl rfl ?_
    have e9 : oJudged S (nI s1) = (jdS S s1, S) := by unfold oJudged; rw [if_neg (fun q => q n1), cl (by omega), if_neg n2, if_neg (by omega)]
    rw [e9]; exact ⟨rfl, MM_fr hP.1 fB (by decide), fr_tr (frF_m fP) (fr_sub fB (by decide))⟩
set_option maxRecDepth 100000 in
set_option maxHeartbeats 4000000 in
theorem l_M_cs (E : mE) (d : Nat) (hd : 5 ≤ d) (w S : mw) (hB : MB w S) (hV : VM S) (s : Nat) (hs : s < 4) (hj : jdS S s = -1) : ∀ (j k : Nat) (u : Option mv), k + j = 10 → Wp E d m_M_costs 29 [lr 33, li (nI s), li 0, li (nI (cstN S s k)), li (nI k), u] [] w (mPi (fun r w1 => r = nI (cstN S s 10) ∧ w1 = w)) := by
  intro j
  have hp10 := (pN_ok S).1
  have hlt := two10 hp10
  induction j with
  | zero =>
    intro k u hk
    refine Wp_iload d_M_costs_29 rfl ?_
    refine Wp_bipush (x := 10) d_M_costs_31 (by decide) ?_
    refine Wp_icmp_ge d_M_costs_33 (fun h33 => ?_) (fun q => absurd (n_nle (a := 10) q (by omega) (by omega)) (by omega))
    refine Wp_iload_n d_M_costs_70 rfl ?_
    refine Wp_reti (ty := .int) d_M_costs_71 rfl rfl ?_
    have hin : k = 10 := by omega
    subst hin
    exact ⟨rfl, rfl⟩
  | succ j ih =>
    intro k u hk
    have hl : (tbS S s (nI k)) < 2 ^ pN S := tbN_lt _
    refine Wp_iload d_M_costs_29 rfl ?_
    refine Wp_bipush (x := 10) d_M_costs_31 (by decide) ?_
    refine Wp_icmp_ge d_M_costs_33 (fun q => absurd (n_le (a := 10) q (by omega) (by omega)) (by omega)) (fun h33 => ?_)
    refine Wp_aload_n d_M_costs_36 rfl ?_
    refine Wp_iload_n d_M_costs_37 rfl ?_
    refine Wp_iload d_M_costs_38 rfl ?_
    refine Wp_ivv_d (o := 33) (As := [vi (nI s), vi (nI k)]) d_M_costs_40 ln_M_216 mk_M_toldBoat rfl rfl rfl rfl rfl (by omega) (t_M_toldBoat E (d - 1) (by omega) w S hB.1 s (by omega) (nI k)) ?_
    refine Wp_istore (ls2 := [lr 33, li (nI s), li 0, li (nI (cstN S s k)), li (nI k), li (nI (tbS S s (nI k)))]) d_M_costs_43 rfl rfl rfl ?_
    refine Wp_iload_n d_M_costs_45 rfl ?_
    refine Wp_iload d_M_costs_46 rfl ?_
    refine Wp_if_ne d_M_costs_48 (fun h48 => ?_) (fun h48 => ?_)
    ·
      have g48 : (tbS S s (nI k)) ≠ 0 := n_ne h48 (by omega) (by omega)
      refine Wp_aload_n d_M_costs_55 rfl ?_
      refine Wp_getr d_M_costs_56 fd_M_46 rfl rfl rfl ?_
      refine Wp_iload d_M_costs_59 rfl ?_
      refine Wp_ialdN (j := (tbS S s (nI k))) d_M_costs_61 rfl rfl rfl rfl (by omega) ?_
      refine Wp_eqi (x2 := nI (costS S (tbS S s (nI k)))) ((hB.2 (tbS S s (nI k)) (by omega) (by omega)).2.1.trans (if_pos (jd_boat hj g48))) ?_
      refine Wp_iadd d_M_costs_62 ?_
      refine Wp_eqi (x2 := nI ((cstN S s k) + (costS S (tbS S s (nI k))))) (nI_add (cstN S s k) (costS S (tbS S s (nI k)))) ?_
      refine Wp_istore_n (ls2 := [lr 33, li (nI s), li 0, li (nI ((cstN S s k) + (costS S (tbS S s (nI k))))), li (nI k), li (nI (tbS S s (nI k)))]) d_M_costs_63 rfl rfl rfl ?_
      refine Wp_iinc (z := nI (k + 1)) (ls2 := [lr 33, li (nI s), li 0, li (nI ((cstN S s k) + (costS S (tbS S s (nI k))))), li (nI (k + 1)), li (nI (tbS S s (nI k)))]) d_M_costs_64 rfl (nI_add k 1) rfl rfl rfl ?_
      refine Wp_goto d_M_costs_67 ?_
      have h9 := ih (k + 1) (li (nI (tbS S s (nI k)))) (by omega)
      rw [show cstN S s (k + 1) = cstN S s k + (if (tbS S s (nI k)) = 0 then 0 else costS S (tbS S s (nI k))) from rfl, if_neg g48] at h9
      exact h9
    ·
      have g48 : (tbS S s (nI k)) = 0 := n_eq h48 (by omega) (by omega)
      refine Wp_iconst (x := 0) d_M_costs_51 (by decide) ?_
      refine Wp_goto d_M_costs_52 ?_
      refine Wp_iadd d_M_costs_62 ?_
      refine Wp_eqi (x2 := nI ((cstN S s k) + 0)) (nI_add (cstN S s k) 0) ?_
      refine Wp_istore_n (ls2 := [lr 33, li (nI s), li 0, li (nI ((cstN S s k) + 0)), li (nI k), li (nI (tbS S s (nI k)))]) d_M_costs_63 rfl rfl rfl ?_
      refine Wp_iinc (z := nI (k + 1)) (ls2 := [lr 33, li (nI s), li 0, li (nI ((cstN S s k) + 0)), li (nI (k + 1)), li (nI (tbS S s (nI k)))]) d_M_costs_64 rfl (nI_add k 1) rfl rfl rfl ?_
      refine Wp_goto d_M_costs_67 ?_
      have h9 := ih (k + 1) (li (nI (tbS S s (nI k)))) (by omega)
      rw [show cstN S s (k + 1) = cstN S s k + (if (tbS S s (nI k)) = 0 then 0 else costS S (tbS S s (nI k))) from rfl, if_pos g48] at h9
      exact h9
set_option maxRecDepth 100000 in
set_option maxHeartbeats 4000000 in
theorem t_M_costs (E : mE) (d : Nat) (hd : 5 ≤ d) (w : mw) (S : mw) (hM : MM w S) (hV : VM S) (s : Int32) : Ti E d m_M_costs [vr 33, vi s] w (fun r w1 => r = (oCosts S s).1 ∧ MM w1 (oCosts S s).2 ∧ fr mRows w w1) := by
  refine ⟨Nat.le_of_ble_eq_true rfl, ?_⟩
  show Wp E d m_M_costs 0 [lr 33, li s, lo, lo, lo, lo] [] w _
  refine Wp_aload_n d_M_costs_0 rfl ?_
  refine Wp_iload_n d_M_costs_1 rfl ?_
  refine Wp_ivv_i (o := 33) (As := [vi s]) d_M_costs_2 ln_M_219 mk_M_noDay rfl rfl rfl rfl rfl (by omega) (t_M_noDay E (d - 1) (by omega) w S hM hV s) (fun r2 w2 c2 => ?_)
  rcases c2 with ⟨j2, n1, n2⟩ | ⟨j2, n1, n2, n3⟩ | ⟨j2, n1, n2, n3, hP, fP⟩ | ⟨j2, n1, n2, n3, hP, fP⟩
  ·
    rw [j2, n2]
    refine Wp_istore_n (ls2 := [lr 33, li s, li (-2), lo, lo, lo]) d_M_costs_5 rfl rfl rfl ?_
    refine Wp_iload_n d_M_costs_6 rfl ?_
    refine Wp_if_eq d_M_costs_7 (fun q => absurd q (by decide)) (fun _ => ?_)
    refine Wp_iload_n d_M_costs_10 rfl ?_
    refine Wp_reti (ty := .int) d_M_costs_11 rfl rfl ?_
    have e9 : oCosts S s = (-2, S) := by unfold oCosts; rw [if_pos n1]
    rw [e9]; exact ⟨rfl, hM, fr_rf⟩
  ·
    rw [j2, n3]
    refine Wp_istore_n (ls2 := [lr 33, li s, li (-11), lo, lo, lo]) d_M_costs_5 rfl rfl rfl ?_
    refine Wp_iload_n d_M_costs_6 rfl ?_
    refine Wp_if_eq d_M_costs_7 (fun q => absurd q (by decide)) (fun _ => ?_)
    refine Wp_iload_n d_M_costs_10 rfl ?_
    refine Wp_reti (ty := .int) d_M_costs_11 rfl rfl ?_
    have e9 : oCosts S s = (-11, mU S 33 4 1) := by unfold oCosts; rw [if_neg (fun q => q n1), if_pos n2]
    rw [e9]; exact ⟨rfl, MM_f hM, fr_U (by decide)⟩
  ·
    rw [j2]
    refine Wp_istore_n (ls2 := [lr 33, li s, li (-3), lo, lo, lo]) d_M_costs_5 rfl rfl rfl ?_
    refine Wp_iload_n d_M_costs_6 rfl ?_
    refine Wp_if_eq d_M_costs_7 (fun q => absurd q (by decide)) (fun _ => ?_)
    refine Wp_iload_n d_M_costs_10 rfl ?_
    refine Wp_reti (ty := .int) d_M_costs_11 rfl rfl ?_
    have e9 : oCosts S s = (-3, S) := by unfold oCosts; rw [if_neg (fun q => q n1), if_neg n2, if_pos (Or.inl n3)]
    rw [e9]; exact ⟨rfl, hP.1, frF_m fP⟩
  ·
    rw [j2]
    obtain ⟨s1, h_s1, rfl⟩ := sh_of n1
    rw [cl (by omega)] at n2 n3
    refine Wp_istore_n (ls2 := [lr 33, li (nI s1), li 0, lo, lo, lo]) d_M_costs_5 rfl rfl rfl ?_
    refine Wp_iload_n d_M_costs_6 rfl ?_
    refine Wp_if_eq d_M_costs_7 (fun _ => ?_) (fun q => absurd (by decide) q)
    refine Wp_aload_n d_M_costs_12 rfl ?_
    refine Wp_iload_n d_M_costs_13 rfl ?_
    refine Wp_ivv_i (o := 33) (As := [vi (nI s1)]) d_M_costs_14 ln_M_222 mk_M_judgedOf rfl rfl rfl rfl rfl (by omega) (t_M_judgedOf E (d - 1) (by omega) w2 S hP hV s1 (by omega)) (fun r14 w14 c14 => ?_)
    obtain ⟨rJ, hB, fB⟩ := c14
    rw [rJ]
    refine Wp_iconst (x := (-1)) d_M_costs_17 (by decide) ?_
    refine Wp_icmp_eq d_M_costs_18 (fun h18 => ?_) (fun h18 => ?_)
    ·
      refine Wp_iconst (x := 0) d_M_costs_24 (by decide) ?_
      refine Wp_istore_n (ls2 := [lr 33, li (nI s1), li 0, li 0, lo, lo]) d_M_costs_25 rfl rfl rfl ?_
      refine Wp_iconst (x := 0) d_M_costs_26 (by decide) ?_
      refine Wp_istore (ls2 := [lr 33, li (nI s1), li 0, li 0, li 0, lo]) d_M_costs_27 rfl rfl rfl ?_
      refine Wp_mi (l_M_cs E d (by omega) w14 S hB hV s1 (by omega) h18 10 0 none (by omega)) (fun r w2 h => ?_)
      have e9 : oCosts S (nI s1) = (nI (cstN S s1 10), S) := by unfold oCosts; rw [if_neg (fun q => q n1), cl (by omega), if_neg n2, if_neg (fun q => q.elim (fun q => by omega) (fun q => q h18))]
      rw [e9, h.2]; exact ⟨h.1, MM_fr hP.1 fB (by decide), fr_tr (frF_m fP) (fr_sub fB (by decide))⟩
    ·
      have g18 : (jdS S s1).toInt ≠ -1 := i_ne h18
      refine Wp_bipush (x := (-3)) d_M_costs_21 (by decide) ?_
      refine Wp_reti (ty := .int) d_M_costs_23 rfl rfl ?_
      have e9 : oCosts S (nI s1) = (-3, S) := by unfold oCosts; rw [if_neg (fun q => q n1), cl (by omega), if_neg n2, if_pos (Or.inr h18)]
      rw [e9]; exact ⟨rfl, MM_fr hP.1 fB (by decide), fr_tr (frF_m fP) (fr_sub fB (by decide))⟩
