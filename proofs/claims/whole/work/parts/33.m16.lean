set_option maxRecDepth 100000 in
set_option maxHeartbeats 4000000 in
theorem l_M_go1 (E : mE) (d : Nat) (hd : 0 ≤ d) (w : mw) (r : List Nat) (hR : Row w r) (i : Nat) (hi : i < 8) (Q : Option mv → mw → Prop) (hQ : Wp E d m_M_goesOn 59 [lr 33, li (nI (i + 1)), li 0, li (nI (mxR r (i + 1))), li (nI (i + 1))] [] w Q) : ∀ (k j : Nat), j + k = i + 1 → Wp E d m_M_goesOn 22 [lr 33, li (nI (i + 1)), li 0, li (nI (mxR r j)), li (nI j)] [] w Q := by
  intro k
  induction k with
  | zero =>
    intro j hj
    have hin : j = i + 1 := by omega
    subst hin
    refine Wp_iload d_M_goesOn_22 rfl ?_
    refine Wp_iload_n d_M_goesOn_24 rfl ?_
    refine Wp_icmp_ge d_M_goesOn_25 (fun h25 => ?_) (fun q => absurd (n_nle q (by omega) (by omega)) (by omega))
    exact hQ
  | succ k ih =>
    intro j hj
    have hm := mxR_le hR.2.2 j
    have hr := hR.2.2 j
    refine Wp_iload d_M_goesOn_22 rfl ?_
    refine Wp_iload_n d_M_goesOn_24 rfl ?_
    refine Wp_icmp_ge d_M_goesOn_25 (fun q => absurd (n_le q (by omega) (by omega)) (by omega)) (fun h25 => ?_)
    refine Wp_aload_n d_M_goesOn_28 rfl ?_
    refine Wp_getr d_M_goesOn_29 fd_M_71 rfl rfl rfl ?_
    refine Wp_iload d_M_goesOn_32 rfl ?_
    refine Wp_ialdN (j := j) d_M_goesOn_34 rfl rfl rfl rfl (by omega) ?_
    refine Wp_eqi (x2 := nI (r.getD j 0)) (hR.2.1 _ (by omega)) ?_
    refine Wp_iload_n d_M_goesOn_35 rfl ?_
    refine Wp_icmp_lt d_M_goesOn_36 (fun h36 => ?_) (fun h36 => ?_)
    ·
      have g36 : (r.getD j 0) < (mxR r j) := n_lt h36 (by omega) (by omega)
      refine Wp_iload_n d_M_goesOn_51 rfl ?_
      refine Wp_istore_n (ls2 := [lr 33, li (nI (i + 1)), li 0, li (nI (mxR r j)), li (nI j)]) d_M_goesOn_52 rfl rfl rfl ?_
      refine Wp_iinc (z := nI (j + 1)) (ls2 := [lr 33, li (nI (i + 1)), li 0, li (nI (mxR r j)), li (nI (j + 1))]) d_M_goesOn_53 rfl (nI_add j 1) rfl rfl rfl ?_
      refine Wp_goto d_M_goesOn_56 ?_
      have e9 : mxR r (j + 1) = mxR r j := by rw [mxR, if_neg (by omega)]
      have h9 := ih (j + 1) (by omega)
      rw [e9] at h9
      exact h9
    ·
      have g36 : (mxR r j) ≤ (r.getD j 0) := n_nlt h36 (by omega) (by omega)
      refine Wp_aload_n d_M_goesOn_39 rfl ?_
      refine Wp_getr d_M_goesOn_40 fd_M_71 rfl rfl rfl ?_
      refine Wp_iload d_M_goesOn_43 rfl ?_
      refine Wp_ialdN (j := j) d_M_goesOn_45 rfl rfl rfl rfl (by omega) ?_
      refine Wp_eqi (x2 := nI (r.getD j 0)) (hR.2.1 _ (by omega)) ?_
      refine Wp_iconst (x := 1) d_M_goesOn_46 (by decide) ?_
      refine Wp_iadd d_M_goesOn_47 ?_
      refine Wp_eqi (x2 := nI ((r.getD j 0) + 1)) (nI_add (r.getD j 0) 1) ?_
      refine Wp_goto d_M_goesOn_48 ?_
      refine Wp_istore_n (ls2 := [lr 33, li (nI (i + 1)), li 0, li (nI ((r.getD j 0) + 1)), li (nI j)]) d_M_goesOn_52 rfl rfl rfl ?_
      refine Wp_iinc (z := nI (j + 1)) (ls2 := [lr 33, li (nI (i + 1)), li 0, li (nI ((r.getD j 0) + 1)), li (nI (j + 1))]) d_M_goesOn_53 rfl (nI_add j 1) rfl rfl rfl ?_
      refine Wp_goto d_M_goesOn_56 ?_
      have e9 : mxR r (j + 1) = r.getD j 0 + 1 := by rw [mxR, if_pos (by omega)]
      have h9 := ih (j + 1) (by omega)
      rw [e9] at h9
      exact h9
set_option maxRecDepth 100000 in
set_option maxHeartbeats 4000000 in
theorem l_M_go2 (E : mE) (d : Nat) (hd : 0 ≤ d) (w0 : mw) : ∀ (i : Nat) (r : List Nat) (w : mw) (u3 u4 : Option mv), i < 9 → Row w r → fr [54] w0 w → Wp E d m_M_goesOn 9 [lr 33, li (nI i), li 0, u3, u4] [] w (mPi (fun q w1 => q = bi (cyc i r).1 ∧ fr [54] w0 w1 ∧ Row w1 (cyc i r).2)) := by
  intro i
  induction i with
  | zero =>
    intro r w u3 u4 hi hR hf
    refine Wp_iload_n d_M_goesOn_9 rfl ?_
    refine Wp_if_le d_M_goesOn_10 (fun _ => ?_) (fun q => absurd (by decide) q)
    refine Wp_iload_n d_M_goesOn_103 rfl ?_
    refine Wp_reti (ty := .boolean) d_M_goesOn_104 rfl rfl ?_
    exact ⟨rfl, hf, hR⟩
  | succ i ih =>
    intro r w u3 u4 hi hR hf
    have hm := mxR_le hR.2.2 (i + 1)
    have hr := hR.2.2 (i + 1)
    refine Wp_iload_n d_M_goesOn_9 rfl ?_
    refine Wp_if_le d_M_goesOn_10 (fun q => absurd (n_le (b := 0) q (by omega) (by omega)) (by omega)) (fun h10 => ?_)
    refine Wp_iload_n d_M_goesOn_13 rfl ?_
    refine Wp_if_ne d_M_goesOn_14 (fun q => absurd q (by decide)) (fun _ => ?_)
    refine Wp_iconst (x := 0) d_M_goesOn_17 (by decide) ?_
    refine Wp_istore_n (ls2 := [lr 33, li (nI (i + 1)), li 0, li 0, u4]) d_M_goesOn_18 rfl rfl rfl ?_
    refine Wp_iconst (x := 0) d_M_goesOn_19 (by decide) ?_
    refine Wp_istore (ls2 := [lr 33, li (nI (i + 1)), li 0, li 0, li 0]) d_M_goesOn_20 rfl rfl rfl ?_
    refine l_M_go1 E d (by omega) w r hR i (by omega) _ ?_ (i + 1) 0 (by omega)
    refine Wp_aload_n d_M_goesOn_59 rfl ?_
    refine Wp_getr d_M_goesOn_60 fd_M_71 rfl rfl rfl ?_
    refine Wp_iload_n d_M_goesOn_63 rfl ?_
    refine Wp_ialdN (j := (i + 1)) d_M_goesOn_64 rfl rfl rfl rfl (by omega) ?_
    refine Wp_eqi (x2 := nI (r.getD (i + 1) 0)) (hR.2.1 _ (by omega)) ?_
    refine Wp_iload_n d_M_goesOn_65 rfl ?_
    refine Wp_icmp_ge d_M_goesOn_66 (fun h66 => ?_) (fun h66 => ?_)
    ·
      have g66 : (mxR r (i + 1)) ≤ (r.getD (i + 1) 0) := n_le h66 (by omega) (by omega)
      refine Wp_iconst (x := 0) d_M_goesOn_73 (by decide) ?_
      refine Wp_istore_n (ls2 := [lr 33, li (nI (i + 1)), li 0, li (nI (mxR r (i + 1))), li (nI (i + 1))]) d_M_goesOn_74 rfl rfl rfl ?_
      refine Wp_aload_n d_M_goesOn_75 rfl ?_
      refine Wp_getr d_M_goesOn_76 fd_M_71 rfl rfl rfl ?_
      refine Wp_iload_n d_M_goesOn_79 rfl ?_
      refine Wp_iload_n d_M_goesOn_80 rfl ?_
      refine Wp_if_eq d_M_goesOn_81 (fun _ => ?_) (fun q => absurd (by decide) q)
      refine Wp_iconst (x := 0) d_M_goesOn_95 (by decide) ?_
      refine Wp_iastN (j := (i + 1)) d_M_goesOn_96 rfl rfl rfl rfl (by omega) ?_
      refine Wp_iinc (z := nI i) (ls2 := [lr 33, li (nI i), li 0, li (nI (mxR r (i + 1))), li (nI (i + 1))]) d_M_goesOn_97 rfl (nI_dn i) rfl rfl rfl ?_
      refine Wp_goto d_M_goesOn_100 ?_
      rw [show cyc (i + 1) r = cyc i (r.set (i + 1) 0) from by rw [cyc, if_neg (by omega)]]
      exact ih _ _ _ _ (by omega) (Row_set (v := 0) hR (by omega) (by omega)) (fr_U2 hf (by decide))
    ·
      have g66 : (r.getD (i + 1) 0) < (mxR r (i + 1)) := n_nle h66 (by omega) (by omega)
      refine Wp_iconst (x := 1) d_M_goesOn_69 (by decide) ?_
      refine Wp_goto d_M_goesOn_70 ?_
      refine Wp_istore_n (ls2 := [lr 33, li (nI (i + 1)), li 1, li (nI (mxR r (i + 1))), li (nI (i + 1))]) d_M_goesOn_74 rfl rfl rfl ?_
      refine Wp_aload_n d_M_goesOn_75 rfl ?_
      refine Wp_getr d_M_goesOn_76 fd_M_71 rfl rfl rfl ?_
      refine Wp_iload_n d_M_goesOn_79 rfl ?_
      refine Wp_iload_n d_M_goesOn_80 rfl ?_
      refine Wp_if_eq d_M_goesOn_81 (fun q => absurd q (by decide)) (fun _ => ?_)
      refine Wp_aload_n d_M_goesOn_84 rfl ?_
      refine Wp_getr d_M_goesOn_85 fd_M_71 rfl rfl rfl ?_
      refine Wp_iload_n d_M_goesOn_88 rfl ?_
      refine Wp_ialdN (j := (i + 1)) d_M_goesOn_89 rfl rfl rfl rfl (by omega) ?_
      refine Wp_eqi (x2 := nI (r.getD (i + 1) 0)) (hR.2.1 _ (by omega)) ?_
      refine Wp_iconst (x := 1) d_M_goesOn_90 (by decide) ?_
      refine Wp_iadd d_M_goesOn_91 ?_
      refine Wp_eqi (x2 := nI ((r.getD (i + 1) 0) + 1)) (nI_add (r.getD (i + 1) 0) 1) ?_
      refine Wp_goto d_M_goesOn_92 ?_
      refine Wp_iastN (j := (i + 1)) d_M_goesOn_96 rfl rfl rfl rfl (by omega) ?_
      refine Wp_iinc (z := nI i) (ls2 := [lr 33, li (nI i), li 1, li (nI (mxR r (i + 1))), li (nI (i + 1))]) d_M_goesOn_97 rfl (nI_dn i) rfl rfl rfl ?_
      refine Wp_goto d_M_goesOn_100 ?_
      have e9 : cyc (i + 1) r = (true, r.set (i + 1) (r.getD (i + 1) 0 + 1)) := by rw [cyc, if_pos (by omega)]
      rw [e9]
      refine Wp_iload_n d_M_goesOn_9 rfl ?_
      refine Wp_if_le d_M_goesOn_10 (fun h10 => ?_) (fun h10 => ?_)
      ·
        have g10 : i ≤ 0 := n_le h10 (by omega) (by omega)
        refine Wp_iload_n d_M_goesOn_103 rfl ?_
        refine Wp_reti (ty := .boolean) d_M_goesOn_104 rfl rfl ?_
        exact ⟨rfl, fr_U2 hf (by decide), Row_set hR (by omega) (by omega)⟩
      ·
        have g10 : 0 < i := n_nle h10 (by omega) (by omega)
        refine Wp_iload_n d_M_goesOn_13 rfl ?_
        refine Wp_if_ne d_M_goesOn_14 (fun _ => ?_) (fun q => absurd q (by decide))
        refine Wp_iload_n d_M_goesOn_103 rfl ?_
        refine Wp_reti (ty := .boolean) d_M_goesOn_104 rfl rfl ?_
        exact ⟨rfl, fr_U2 hf (by decide), Row_set hR (by omega) (by omega)⟩
set_option maxRecDepth 100000 in
set_option maxHeartbeats 4000000 in
theorem t_M_goesOn (E : mE) (d : Nat) (hd : 0 ≤ d) (w : mw) (m : Nat) (h8 : w 33 8 = nI m) (hm : m ≤ 9) (r : List Nat) (hR : Row w r) : Ti E d m_M_goesOn [vr 33] w (fun q w1 => q = bi (cyc (m - 1) r).1 ∧ fr [54] w w1 ∧ Row w1 (cyc (m - 1) r).2) := by
  refine ⟨Nat.le_of_ble_eq_true rfl, ?_⟩
  show Wp E d m_M_goesOn 0 [lr 33, lo, lo, lo, lo] [] w _
  cases m with
  | zero =>
    refine Wp_aload_n d_M_goesOn_0 rfl ?_
    refine Wp_getf d_M_goesOn_1 fd_M_125 rfl rfl rfl ?_
    refine Wp_eqi (x2 := 0) h8 ?_
    refine Wp_iconst (x := 1) d_M_goesOn_4 (by decide) ?_
    refine Wp_isub d_M_goesOn_5 ?_
    refine Wp_eqi (x2 := (-1)) (by decide) ?_
    refine Wp_istore_n (ls2 := [lr 33, li (-1), lo, lo, lo]) d_M_goesOn_6 rfl rfl rfl ?_
    refine Wp_iconst (x := 0) d_M_goesOn_7 (by decide) ?_
    refine Wp_istore_n (ls2 := [lr 33, li (-1), li 0, lo, lo]) d_M_goesOn_8 rfl rfl rfl ?_
    refine Wp_iload_n d_M_goesOn_9 rfl ?_
    refine Wp_if_le d_M_goesOn_10 (fun _ => ?_) (fun q => absurd (by decide) q)
    refine Wp_iload_n d_M_goesOn_103 rfl ?_
    refine Wp_reti (ty := .boolean) d_M_goesOn_104 rfl rfl ?_
    exact ⟨rfl, fr_rf, hR⟩
  | succ n =>
    show Wp E d m_M_goesOn 0 [lr 33, lo, lo, lo, lo] [] w (mPi (fun q w1 => q = bi (cyc n r).1 ∧ fr [54] w w1 ∧ Row w1 (cyc n r).2))
    refine Wp_aload_n d_M_goesOn_0 rfl ?_
    refine Wp_getf d_M_goesOn_1 fd_M_125 rfl rfl rfl ?_
    refine Wp_eqi (x2 := nI (n + 1)) h8 ?_
    refine Wp_iconst (x := 1) d_M_goesOn_4 (by decide) ?_
    refine Wp_isub d_M_goesOn_5 ?_
    refine Wp_eqi (x2 := nI n) (pk_sub (a := n + 1) (b := 1) (by omega)) ?_
    refine Wp_istore_n (ls2 := [lr 33, li (nI n), lo, lo, lo]) d_M_goesOn_6 rfl rfl rfl ?_
    refine Wp_iconst (x := 0) d_M_goesOn_7 (by decide) ?_
    refine Wp_istore_n (ls2 := [lr 33, li (nI n), li 0, lo, lo]) d_M_goesOn_8 rfl rfl rfl ?_
    exact l_M_go2 E d (by omega) w n r w none none (by omega) hR fr_rf
