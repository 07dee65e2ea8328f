set_option maxRecDepth 100000 in
set_option maxHeartbeats 4000000 in
theorem l_D_bu1 (E : mE) (d : Nat) (hd : 4 ≤ d) (w0 S : mw) (hV : VM S) (Q : Option mv → mw → Prop) (hQ : ∀ (w2 : mw) (u : Option mv), PR w2 S → fr [13, 14] w0 w2 → CD0 w2 → CDb w2 S (2 ^ pN S) → Wp E d m_D_bringUpToDate 87 [lr 12, li (nI (wh S)), li 1, u] [] w2 Q) : ∀ (k b : Nat) (w : mw) (u3 : Option mv), b + k = 2 ^ pN S → 1 ≤ b → PR w S → fr [13, 14] w0 w → CD0 w → CDb w S b → Wp E d m_D_bringUpToDate 23 [lr 12, li (nI (wh S)), li (nI b), u3] [] w Q := by
  intro k
  have hp10 := (pN_ok S).1
  have h1024 := two10 hp10
  have hwl := wh_lt S
  have hwe := wh_1 S
  induction k with
  | zero =>
    intro b w u3 hk h1 hP hf h0 hB
    have hbb : b = 2 ^ pN S := by omega
    subst hbb
    refine Wp_iload_n d_D_bringUpToDate_23 rfl ?_
    refine Wp_iload_n d_D_bringUpToDate_24 rfl ?_
    refine Wp_icmp_gt d_D_bringUpToDate_25 (fun h25 => ?_) (fun q => absurd (n_nlt q (by omega) (by omega)) (by omega))
    refine Wp_iconst (x := 1) d_D_bringUpToDate_85 (by decide) ?_
    refine Wp_istore_n (ls2 := [lr 12, li (nI (wh S)), li 1, u3]) d_D_bringUpToDate_86 rfl rfl rfl ?_
    exact hQ w u3 hP hf h0 hB
  | succ k ih =>
    intro b w u3 hk h1 hP hf h0 hB
    obtain ⟨x1, x2, x3, x4, x5⟩ := xor_lob b (by omega) (by omega)
    have hnr : w 14 (rst b) = nI (needS S (rst b)) := by
      by_cases hr : rst b = 0
      · rw [hr, needS_0]; exact h0.2.1
      · exact (hB (rst b) (by omega) x4).2
    refine Wp_iload_n d_D_bringUpToDate_23 rfl ?_
    refine Wp_iload_n d_D_bringUpToDate_24 rfl ?_
    refine Wp_icmp_gt d_D_bringUpToDate_25 (fun q => absurd (n_lt q (by omega) (by omega)) (by omega)) (fun h25 => ?_)
    refine Wp_iload_n d_D_bringUpToDate_28 rfl ?_
    refine Wp_sipush (x := 1024) d_D_bringUpToDate_29 (by decide) ?_
    refine Wp_icmp_ge d_D_bringUpToDate_32 (fun q => absurd (n_le (a := 1024) q (by omega) (by omega)) (by omega)) (fun h32 => ?_)
    refine Wp_iload_n d_D_bringUpToDate_35 rfl ?_
    refine Wp_ivs_d (As := [vi (nI b)]) d_D_bringUpToDate_36 ln_D_42 mk_D_lowestBit rfl rfl rfl (by omega) (t_D_lowestBit E (d - 1) (by omega) w b (by omega) (by omega)) ?_
    refine Wp_istore_n (ls2 := [lr 12, li (nI (wh S)), li (nI b), li (nI (lob b))]) d_D_bringUpToDate_39 rfl rfl rfl ?_
    refine Wp_aload_n d_D_bringUpToDate_40 rfl ?_
    refine Wp_getr d_D_bringUpToDate_41 fd_D_15 rfl rfl rfl ?_
    refine Wp_iload_n d_D_bringUpToDate_44 rfl ?_
    refine Wp_aload_n d_D_bringUpToDate_45 rfl ?_
    refine Wp_getr d_D_bringUpToDate_46 fd_D_15 rfl rfl rfl ?_
    refine Wp_iload_n d_D_bringUpToDate_49 rfl ?_
    refine Wp_iload_n d_D_bringUpToDate_50 rfl ?_
    refine Wp_ixor d_D_bringUpToDate_51 ?_
    refine Wp_eqi (x2 := nI (rst b)) (by rw [nI_xor, x1]) ?_
    refine Wp_ialdN (j := (rst b)) d_D_bringUpToDate_52 rfl rfl rfl rfl (by omega) ?_
    refine Wp_eqi (x2 := nI (needS S (rst b))) hnr ?_
    refine Wp_aload_n d_D_bringUpToDate_53 rfl ?_
    refine Wp_getr d_D_bringUpToDate_54 fd_D_32 rfl rfl rfl ?_
    refine Wp_iload_n d_D_bringUpToDate_57 rfl ?_
    refine Wp_iconst (x := 1) d_D_bringUpToDate_58 (by decide) ?_
    refine Wp_isub d_D_bringUpToDate_59 ?_
    refine Wp_eqi (x2 := nI (lob b - 1)) (pk_sub (b := 1) x3) ?_
    refine Wp_ivs_d (As := [vi (nI (lob b - 1))]) d_D_bringUpToDate_60 ln_D_46 mk_J_bitCount rfl rfl rfl (by omega) (t_J_bitCount E (d - 1) (by omega) w (lob b - 1) (by omega)) ?_
    refine Wp_ivv_d (o := 8) (As := [vi (nI (popc (lob b - 1)))]) d_D_bringUpToDate_63 ln_D_51 mk_R_mustOf rfl rfl rfl rfl rfl (by omega) (t_R_mustOf E (d - 1) (by omega) w S hP hV (popc (lob b - 1)) x5) ?_
    refine Wp_ior d_D_bringUpToDate_66 ?_
    refine Wp_eqi (x2 := nI (needS S b)) (by rw [nI_or, need_rec (by omega) (by omega)]) ?_
    refine Wp_iastN (j := b) d_D_bringUpToDate_67 rfl rfl rfl rfl (by omega) ?_
    refine Wp_aload_n d_D_bringUpToDate_68 rfl ?_
    refine Wp_getr d_D_bringUpToDate_69 fd_D_11 rfl rfl rfl ?_
    refine Wp_iload_n d_D_bringUpToDate_72 rfl ?_
    refine Wp_aload_n d_D_bringUpToDate_73 rfl ?_
    refine Wp_iload_n d_D_bringUpToDate_74 rfl ?_
    refine Wp_ivv_d (o := 12) (As := [vi (nI b)]) d_D_bringUpToDate_75 ln_D_56 mk_D_priceOf rfl rfl rfl rfl rfl (by omega) (t_D_priceOf E (d - 1) (by omega) (mU w 14 b (nI (needS S b))) S (PR_fr hP (fr_U (L := [14]) (by decide)) (by decide)) hV b (by omega)) ?_
    refine Wp_iastN (j := b) d_D_bringUpToDate_78 rfl rfl rfl rfl (by omega) ?_
    refine Wp_iinc (z := nI (b + 1)) (ls2 := [lr 12, li (nI (wh S)), li (nI (b + 1)), li (nI (lob b))]) d_D_bringUpToDate_79 rfl (nI_add b 1) rfl rfl rfl ?_
    refine Wp_goto d_D_bringUpToDate_82 ?_
    exact ih (b + 1) _ _ (by omega) (by omega) (PR_fr hP (fr_U2 (fr_U (L := [13, 14]) (by decide)) (by decide)) (by decide)) (fr_U2 (fr_U2 hf (by decide)) (by decide)) (CD0_U (CD0_U h0 (by omega)) (by omega)) (CDb_add hB)
set_option maxRecDepth 100000 in
set_option maxHeartbeats 4000000 in
theorem l_D_bu2 (E : mE) (d : Nat) (hd : 4 ≤ d) (w0 S : mw) (hV : VM S) (u3 : Option mv) (hB0 : CDb w0 S (2 ^ pN S)) : ∀ (k s : Nat) (w : mw), s + k = 2 ^ pN S → 1 ≤ s → fr [15, 16] w0 w → CD0 w → CDt w S s → Wp E d m_D_bringUpToDate 87 [lr 12, li (nI (wh S)), li (nI s), u3] [] w (mPv (fun w1 => fr [15, 16] w0 w1 ∧ CD0 w1 ∧ CDt w1 S (2 ^ pN S))) := by
  intro k
  have hp10 := (pN_ok S).1
  have h1024 := two10 hp10
  have hwl := wh_lt S
  have hwe := wh_1 S
  induction k with
  | zero =>
    intro s w hk h1 hf h0 hT
    have hss : s = 2 ^ pN S := by omega
    subst hss
    refine Wp_iload_n d_D_bringUpToDate_87 rfl ?_
    refine Wp_iload_n d_D_bringUpToDate_88 rfl ?_
    refine Wp_icmp_gt d_D_bringUpToDate_89 (fun h89 => ?_) (fun q => absurd (n_nlt q (by omega) (by omega)) (by omega))
    refine Wp_retv d_D_bringUpToDate_110 rfl ?_
    exact ⟨hf, h0, hT⟩
  | succ k ih =>
    intro s w hk h1 hf h0 hT
    refine Wp_iload_n d_D_bringUpToDate_87 rfl ?_
    refine Wp_iload_n d_D_bringUpToDate_88 rfl ?_
    refine Wp_icmp_gt d_D_bringUpToDate_89 (fun q => absurd (n_lt q (by omega) (by omega)) (by omega)) (fun h89 => ?_)
    refine Wp_iload_n d_D_bringUpToDate_92 rfl ?_
    refine Wp_sipush (x := 1024) d_D_bringUpToDate_93 (by decide) ?_
    refine Wp_icmp_ge d_D_bringUpToDate_96 (fun q => absurd (n_le (a := 1024) q (by omega) (by omega)) (by omega)) (fun h96 => ?_)
    refine Wp_aload_n d_D_bringUpToDate_99 rfl ?_
    refine Wp_iload_n d_D_bringUpToDate_100 rfl ?_
    refine Wp_ivv_dv (o := 12) (As := [vi (nI s)]) d_D_bringUpToDate_101 ln_D_59 mk_D_plan rfl rfl rfl rfl rfl (by omega) (t_D_plan E (d - 1) (by omega) w S hV s (by omega) (by omega) (CDb_fr hB0 hf (by decide) (by decide)) (fun j hj => CDt_0 hT h0 _ (sbs_good (by omega) (by omega) hj).2.1)) ?_
    refine Wp_iinc (z := nI (s + 1)) (ls2 := [lr 12, li (nI (wh S)), li (nI (s + 1)), u3]) d_D_bringUpToDate_104 rfl (nI_add s 1) rfl rfl rfl ?_
    refine Wp_goto d_D_bringUpToDate_107 ?_
    exact ih (s + 1) _ (by omega) (by omega) (fr_U2 (fr_U2 hf (by decide)) (by decide)) (CD0_U (CD0_U h0 (by omega)) (by omega)) (CDt_add hT)
set_option maxRecDepth 100000 in
set_option maxHeartbeats 4000000 in
theorem t_D_bringUpToDate (E : mE) (d : Nat) (hd : 4 ≤ d) (w : mw) (S : mw) (hC : CC w S) (hV : VM S) : Tv E d m_D_bringUpToDate [vr 12] w (fun w1 => CC w1 S ∧ w1 12 6 = 0 ∧ fr [12, 13, 14, 15, 16] w w1) := by
  refine ⟨Nat.le_of_ble_eq_true rfl, ?_⟩
  show Wp E d m_D_bringUpToDate 0 [lr 12, lo, lo, lo] [] w _
  have hp10 := (pN_ok S).1
  have h1024 := two10 hp10
  have hwl := wh_lt S
  have hwe := wh_1 S
  refine Wp_aload_n d_D_bringUpToDate_0 rfl ?_
  refine Wp_getf d_D_bringUpToDate_1 fd_D_24 rfl rfl rfl ?_
  refine Wp_if_ne d_D_bringUpToDate_4 (fun h4 => ?_) (fun h4 => ?_)
  ·
    refine Wp_aload_n d_D_bringUpToDate_8 rfl ?_
    refine Wp_iconst (x := 0) d_D_bringUpToDate_9 (by decide) ?_
    refine Wp_putz d_D_bringUpToDate_10 fp_D_24 rfl rfl rfl rfl rfl ?_
    refine Wp_aload_n d_D_bringUpToDate_13 rfl ?_
    refine Wp_getr d_D_bringUpToDate_14 fd_D_28 rfl rfl rfl ?_
    refine Wp_ivv_d (o := 1) (As := []) d_D_bringUpToDate_17 ln_D_36 mk_P_everyone rfl rfl rfl rfl rfl (by omega) (t_P_everyone E (d - 1) (by omega) (mU w 12 6 0) (pN S) ((congrFun (mU_ne (by decide)) 7).trans hC.2.1.1) (pN_ok S).1) ?_
    refine Wp_istore_n (ls2 := [lr 12, li (nI (wh S)), lo, lo]) d_D_bringUpToDate_20 rfl rfl rfl ?_
    refine Wp_iconst (x := 1) d_D_bringUpToDate_21 (by decide) ?_
    refine Wp_istore_n (ls2 := [lr 12, li (nI (wh S)), li 1, lo]) d_D_bringUpToDate_22 rfl rfl rfl ?_
    have f0 : fr [12] w (mU w 12 6 0) := fr_U (by decide)
    refine l_D_bu1 E d (by omega) (mU w 12 6 0) S hV _ (fun w2 u hP2 f2 z2 b2 => ?_) (2 ^ pN S - 1) 1 _ _ (by omega) (by omega) (PR_fr (CC_PR hC) f0 (by decide)) fr_rf (CD0_of hC.2.2.2.2.2.2.1 f0 (by decide)) (fun b h1 h2 => absurd h2 (by omega))
    refine Wp_mv (l_D_bu2 E d (by omega) w2 S hV u b2 (2 ^ pN S - 1) 1 w2 (by omega) (by omega) fr_rf z2 (fun b h1 h2 => absurd h2 (by omega))) (fun w3 h => ?_)
    obtain ⟨f3, z3, t3⟩ := h
    have fA : fr [12, 13, 14, 15, 16] w w3 := fr_tr (fr_sub f0 (by decide)) (fr_tr (fr_sub f2 (by decide)) (fr_sub f3 (by decide)))
    have e12 : w3 12 6 = 0 := by rw [f3 12 (by decide), f2 12 (by decide)]; exact mU_at
    exact ⟨CC_d hC (fr_sub fA (by decide)) ⟨z3, Or.inr ⟨e12, CDb_fr b2 f3 (by decide) (by decide), t3⟩⟩, e12, fA⟩
  ·
    refine Wp_retv d_D_bringUpToDate_7 rfl ?_
    refine ⟨hC, ?_, fr_rf⟩
    rcases hC.2.2.2.2.2.2.2 with q | q
    · exact absurd (q.symm.trans h4) (by decide)
    · exact q.1
set_option maxRecDepth 100000 in
set_option maxHeartbeats 4000000 in
theorem l_D_bw (E : mE) (d : Nat) (hd : 2 ≤ d) (w S : mw) (hV : VM S) (j : Nat) (hj : j < pN S) (hT : ∀ x, x < 2 ^ pN S → (x = wh S ∨ x.testBit 0 = false) → w 15 x = enD (DC S x)) : ∀ (f x t : Nat) (u4 : Option mv), t + f = 10 → x < 2 ^ pN S → (x = wh S ∨ x.testBit 0 = false) → Wp E d m_D_boatWith 10 [lr 12, li (nI (2 ^ j)), li (nI x), li (nI t), u4] [] w (mPi (fun r w1 => r = (if (bwS S j f x).testBit j = true then nI (bwS S j f x) else -1) ∧ w1 = w)) := by
  intro f
  have hp10 := (pN_ok S).1
  have h1024 := two10 hp10
  have hwl := wh_lt S
  have hwe := wh_1 S
  induction f with
  | zero =>
    intro x t u4 ht hx hc
    have htt : t = 10 := by omega
    subst htt
    have e0 : bwS S j 0 x = 0 := rfl
    refine Wp_iload_n d_D_boatWith_10 rfl ?_
    refine Wp_bipush (x := 10) d_D_boatWith_11 (by decide) ?_
    refine Wp_icmp_ge d_D_boatWith_13 (fun h13 => ?_) (fun q => absurd (n_nle (a := 10) q (by omega) (by omega)) (by omega))
    refine Wp_iconst (x := (-1)) d_D_boatWith_46 (by decide) ?_
    refine Wp_reti (ty := .int) d_D_boatWith_47 rfl rfl ?_
    exact ⟨by rw [e0, Nat.zero_testBit]; rfl, rfl⟩
  | succ f ih =>
    intro x t u4 ht hx hc
    have hD := dvB_1 (DC_okk (S := S) hV hx)
    have hal := ann_le x (DC S x).2.2.1
    refine Wp_iload_n d_D_boatWith_10 rfl ?_
    refine Wp_bipush (x := 10) d_D_boatWith_11 (by decide) ?_
    refine Wp_icmp_ge d_D_boatWith_13 (fun q => absurd (n_le (a := 10) q (by omega) (by omega)) (by omega)) (fun h13 => ?_)
    refine Wp_aload_n d_D_boatWith_16 rfl ?_
    refine Wp_iload_n d_D_boatWith_17 rfl ?_
    refine Wp_ivv_d (o := 12) (As := [vi (nI x)]) d_D_boatWith_18 ln_D_92 mk_D_firstBoatOf rfl rfl rfl rfl rfl (by omega) (t_D_firstBoatOf E (d - 1) (by omega) w S hV x hx (hT x hx hc)) ?_
    refine Wp_istore (ls2 := [lr 12, li (nI (2 ^ j)), li (nI x), li (nI t), li (nI (DC S x).2.2.1)]) d_D_boatWith_21 rfl rfl rfl ?_
    refine Wp_iload d_D_boatWith_23 rfl ?_
    refine Wp_iload_n d_D_boatWith_25 rfl ?_
    refine Wp_iand d_D_boatWith_26 ?_
    refine Wp_eqi (x2 := nI ((DC S x).2.2.1 &&& (2 ^ j))) (nI_and (DC S x).2.2.1 (2 ^ j)) ?_
    refine Wp_if_eq d_D_boatWith_27 (fun h27 => ?_) (fun h27 => ?_)
    ·
      have tb : (DC S x).2.2.1.testBit j = false := bit0 (by omega) h27
      refine Wp_iload_n d_D_boatWith_33 rfl ?_
      refine Wp_iload d_D_boatWith_34 rfl ?_
      refine Wp_iconst (x := (-1)) d_D_boatWith_36 (by decide) ?_
      refine Wp_ixor d_D_boatWith_37 ?_
      refine Wp_iand d_D_boatWith_38 ?_
      refine Wp_eqi (x2 := nI (ann x (DC S x).2.2.1)) (anI x (DC S x).2.2.1) ?_
      refine Wp_istore_n (ls2 := [lr 12, li (nI (2 ^ j)), li (nI (ann x (DC S x).2.2.1)), li (nI t), li (nI (DC S x).2.2.1)]) d_D_boatWith_39 rfl rfl rfl ?_
      refine Wp_iinc (z := nI (t + 1)) (ls2 := [lr 12, li (nI (2 ^ j)), li (nI (ann x (DC S x).2.2.1)), li (nI (t + 1)), li (nI (DC S x).2.2.1)]) d_D_boatWith_40 rfl (nI_add t 1) rfl rfl rfl ?_
      refine Wp_goto d_D_boatWith_43 ?_
      have h9 := ih (ann x (DC S x).2.2.1) (t + 1) (li (nI (DC S x).2.2.1)) (by omega) (by omega) (chain_ok hV (by omega) hc)
      have e9 : bwS S j (f + 1) x = bwS S j f (ann x (DC S x).2.2.1) := by rw [bwS, if_neg (by rw [tb]; decide)]
      rw [e9]
      exact h9
    ·
      have tb : (DC S x).2.2.1.testBit j = true := bit1 h27
      refine Wp_iload d_D_boatWith_30 rfl ?_
      refine Wp_reti (ty := .int) d_D_boatWith_32 rfl rfl ?_
      exact ⟨by unfold bwS; rw [if_pos tb, if_pos tb], rfl⟩
set_option maxRecDepth 100000 in
set_option maxHeartbeats 4000000 in
theorem t_D_boatWith (E : mE) (d : Nat) (hd : 2 ≤ d) (w : mw) (S : mw) (hP : PR w S) (hV : VM S) (j : Nat) (hj : j < pN S) (hT : ∀ x, x < 2 ^ pN S → (x = wh S ∨ x.testBit 0 = false) → w 15 x = enD (DC S x)) : Td E d m_D_boatWith [vr 12, vi (nI (2 ^ j))] w (withR S j) w := by
  refine ⟨Nat.le_of_ble_eq_true rfl, ?_⟩
  show Wp E d m_D_boatWith 0 [lr 12, li (nI (2 ^ j)), lo, lo, lo] [] w _
  have hp10 := (pN_ok S).1
  have h1024 := two10 hp10
  have hwl := wh_lt S
  have hwe := wh_1 S
  refine Wp_aload_n d_D_boatWith_0 rfl ?_
  refine Wp_getr d_D_boatWith_1 fd_D_28 rfl rfl rfl ?_
  refine Wp_ivv_d (o := 1) (As := []) d_D_boatWith_4 ln_D_36 mk_P_everyone rfl rfl rfl rfl rfl (by omega) (t_P_everyone E (d - 1) (by omega) w (pN S) hP.2.1.1 (pN_ok S).1) ?_
  refine Wp_istore_n (ls2 := [lr 12, li (nI (2 ^ j)), li (nI (wh S)), lo, lo]) d_D_boatWith_7 rfl rfl rfl ?_
  refine Wp_iconst (x := 0) d_D_boatWith_8 (by decide) ?_
  refine Wp_istore_n (ls2 := [lr 12, li (nI (2 ^ j)), li (nI (wh S)), li 0, lo]) d_D_boatWith_9 rfl rfl rfl ?_
  have h9 := l_D_bw E d (by omega) w S hV j hj hT 10 (wh S) 0 none rfl (wh_lt S) (Or.inl rfl)
  rw [bw_with hV hj] at h9
  exact h9
set_option maxRecDepth 100000 in
set_option maxHeartbeats 4000000 in
theorem t_D_anyMust (E : mE) (d : Nat) (hd : 0 ≤ d) (w : mw) (S : mw) (hV : VM S) (s : Nat) (hs : s < 1024) (h14 : 0 < s → w 14 s = nI (needS S s)) : Tb E d m_D_anyMust [vr 12, vi (nI s)] w (0 < s ∧ needS S s &&& s ≠ 0) := by
  refine ⟨Nat.le_of_ble_eq_true rfl, ?_⟩
  show Wp E d m_D_anyMust 0 [lr 12, li (nI s)] [] w _
  have hal : needS S s &&& s ≤ s := Nat.and_le_right
  refine Wp_iload_n d_D_anyMust_0 rfl ?_
  refine Wp_if_le d_D_anyMust_1 (fun h1 => ?_) (fun h1 => ?_)
  ·
    have g1 : s ≤ 0 := n_le h1 (by omega) (by omega)
    refine Wp_iconst (x := 0) d_D_anyMust_26 (by decide) ?_
    refine Wp_reti (ty := .boolean) d_D_anyMust_27 rfl rfl ?_
    exact ⟨Or.inr ⟨rfl, fun q => by omega⟩, rfl⟩
  ·
    have g1 : 0 < s := n_nle h1 (by omega) (by omega)
    refine Wp_iload_n d_D_anyMust_4 rfl ?_
    refine Wp_sipush (x := 1024) d_D_anyMust_5 (by decide) ?_
    refine Wp_icmp_ge d_D_anyMust_8 (fun q => absurd (n_le (a := 1024) q (by omega) (by omega)) (by omega)) (fun h8 => ?_)
    refine Wp_aload_n d_D_anyMust_11 rfl ?_
    refine Wp_getr d_D_anyMust_12 fd_D_15 rfl rfl rfl ?_
    refine Wp_iload_n d_D_anyMust_15 rfl ?_
    refine Wp_ialdN (j := s) d_D_anyMust_16 rfl rfl rfl rfl (by omega) ?_
    refine Wp_eqi (x2 := nI (needS S s)) (h14 (by omega)) ?_
    refine Wp_iload_n d_D_anyMust_17 rfl ?_
    refine Wp_iand d_D_anyMust_18 ?_
    refine Wp_eqi (x2 := nI ((needS S s) &&& s)) (nI_and (needS S s) s) ?_
    refine Wp_if_eq d_D_anyMust_19 (fun h19 => ?_) (fun h19 => ?_)
    ·
      have g19 : ((needS S s) &&& s) = 0 := n_eq h19 (by omega) (by omega)
      refine Wp_iconst (x := 0) d_D_anyMust_26 (by decide) ?_
      refine Wp_reti (ty := .boolean) d_D_anyMust_27 rfl rfl ?_
      exact ⟨Or.inr ⟨rfl, fun q => by omega⟩, rfl⟩
    ·
      have g19 : ((needS S s) &&& s) ≠ 0 := n_ne h19 (by omega) (by omega)
      refine Wp_iconst (x := 1) d_D_anyMust_22 (by decide) ?_
      refine Wp_goto d_D_anyMust_23 ?_
      refine Wp_reti (ty := .boolean) d_D_anyMust_27 rfl rfl ?_
      exact ⟨Or.inl ⟨rfl, ⟨by omega, by omega⟩⟩, rfl⟩
set_option maxRecDepth 100000 in
set_option maxHeartbeats 4000000 in
theorem t_D_orders (E : mE) (d : Nat) (hd : 0 ≤ d) (w : mw) (n : Nat) (hn : n ≤ 6) : Td E d m_D_orders [vr 12, vi (nI n)] w (nI (facS n)) w := by
  refine ⟨Nat.le_of_ble_eq_true rfl, ?_⟩
  show Wp E d m_D_orders 0 [lr 12, li (nI n)] [] w _
  refine Wp_iload_n d_D_orders_0 rfl ?_
  refine Wp_if_lt d_D_orders_1 (fun q => absurd (n_lt (b := 0) q (by omega) (by omega)) (by omega)) (fun h1 => ?_)
  refine Wp_iload_n d_D_orders_4 rfl ?_
  refine Wp_gets (t := 61) d_D_orders_5 rfl rfl fs_D_95 ?_
  refine Wp_slen (x := 7) d_D_orders_8 rfl rfl rfl ?_
  refine Wp_icmp_ge d_D_orders_9 (fun q => absurd (n_le (a := 7) q (by omega) (by omega)) (by omega)) (fun h9 => ?_)
  refine Wp_gets (t := 61) d_D_orders_12 rfl rfl fs_D_95 ?_
  refine Wp_iload_n d_D_orders_15 rfl ?_
  refine Wp_saldN (j := n) d_D_orders_16 rfl rfl rfl (by show n < 7; omega) ?_
  refine Wp_eqi (x2 := nI (facS n)) (mSF61 n hn) ?_
  refine Wp_goto d_D_orders_17 ?_
  refine Wp_reti (ty := .int) d_D_orders_21 rfl rfl ?_
  exact ⟨rfl, rfl⟩
set_option maxRecDepth 100000 in
set_option maxHeartbeats 4000000 in
theorem l_D_br (E : mE) (d : Nat) (hd : 2 ≤ d) (w S : mw) (hP : PR w S) (hV : VM S) (j : Nat) (hj : j < pN S) (h6 : pN S ≤ 6) (hF : Fe S (wh S)) (h15 : ∀ x, x < 2 ^ pN S → w 15 x = enD (DC S x)) : ∀ (m k : Nat) (u6 u7 u8 : Option mv), k + m = 2 ^ pN S → Wp E d m_D_broughtInAllOrders 10 [lr 12, li (nI j), ll (shL S j k), lo, li (nI (2 ^ j)), li (nI k), u6, u7, u8] [] w (mPl (fun r w1 => r = shL S j (2 ^ pN S) ∧ w1 = w)) := by
  intro m
  have hp10 := (pN_ok S).1
  have h1024 := two10 hp10
  have hwl := wh_lt S
  have hwe := wh_1 S
  induction m with
  | zero =>
    intro k u6 u7 u8 hk
    have hkk : k = 2 ^ pN S := by omega
    subst hkk
    refine Wp_iload d_D_broughtInAllOrders_10 rfl ?_
    refine Wp_aload_n d_D_broughtInAllOrders_12 rfl ?_
    refine Wp_getr d_D_broughtInAllOrders_13 fd_D_28 rfl rfl rfl ?_
    refine Wp_ivv_d (o := 1) (As := []) d_D_broughtInAllOrders_16 ln_D_36 mk_P_everyone rfl rfl rfl rfl rfl (by omega) (t_P_everyone E (d - 1) (by omega) w (pN S) hP.2.1.1 (pN_ok S).1) ?_
    refine Wp_icmp_gt d_D_broughtInAllOrders_19 (fun h19 => ?_) (fun q => absurd (n_nlt q (by omega) (by omega)) (by omega))
    refine Wp_lload_n d_D_broughtInAllOrders_93 rfl ?_
    refine Wp_retl d_D_broughtInAllOrders_94 rfl ?_
    exact ⟨rfl, rfl⟩
  | succ m ih =>
    intro k u6 u7 u8 hk
    have hor := or_lt (show k < 2 ^ pN S by omega) hj
    refine Wp_iload d_D_broughtInAllOrders_10 rfl ?_
    refine Wp_aload_n d_D_broughtInAllOrders_12 rfl ?_
    refine Wp_getr d_D_broughtInAllOrders_13 fd_D_28 rfl rfl rfl ?_
    refine Wp_ivv_d (o := 1) (As := []) d_D_broughtInAllOrders_16 ln_D_36 mk_P_everyone rfl rfl rfl rfl rfl (by omega) (t_P_everyone E (d - 1) (by omega) w (pN S) hP.2.1.1 (pN_ok S).1) ?_
    refine Wp_icmp_gt d_D_broughtInAllOrders_19 (fun q => absurd (n_lt q (by omega) (by omega)) (by omega)) (fun h19 => ?_)
    refine Wp_iload d_D_broughtInAllOrders_22 rfl ?_
    refine Wp_iload d_D_broughtInAllOrders_24 rfl ?_
    refine Wp_iand d_D_broughtInAllOrders_26 ?_
    refine Wp_eqi (x2 := nI (k &&& (2 ^ j))) (nI_and k (2 ^ j)) ?_
    refine Wp_if_ne d_D_broughtInAllOrders_27 (fun h27 => ?_) (fun h27 => ?_)
    ·
      have tb : k.testBit j = true := bit1 h27
      refine Wp_iinc (z := nI (k + 1)) (ls2 := [lr 12, li (nI j), ll (shL S j k), lo, li (nI (2 ^ j)), li (nI (k + 1)), u6, u7, u8]) d_D_broughtInAllOrders_87 rfl (nI_add k 1) rfl rfl rfl ?_
      refine Wp_goto d_D_broughtInAllOrders_90 ?_
      have h9 := ih (k + 1) u6 u7 u8 (by omega)
      rw [shL, if_pos tb] at h9
      exact h9
    ·
      have tb : k.testBit j = false := bit0 (by omega) h27
      have hpn := popc_nj hj (show k < 2 ^ pN S by omega) (by rw [tb]; decide)
      have hpk := popc_le k
      refine Wp_iload d_D_broughtInAllOrders_30 rfl ?_
      refine Wp_ivs_d (As := [vi (nI k)]) d_D_broughtInAllOrders_32 ln_D_46 mk_J_bitCount rfl rfl rfl (by omega) (t_J_bitCount E (d - 1) (by omega) w k (by omega)) ?_
      refine Wp_istore (ls2 := [lr 12, li (nI j), ll (shL S j k), lo, li (nI (2 ^ j)), li (nI k), li (nI (popc k)), u7, u8]) d_D_broughtInAllOrders_35 rfl rfl rfl ?_
      refine Wp_aload_n d_D_broughtInAllOrders_37 rfl ?_
      refine Wp_iload d_D_broughtInAllOrders_38 rfl ?_
      refine Wp_ivv_d (o := 12) (As := [vi (nI (popc k))]) d_D_broughtInAllOrders_40 ln_D_98 mk_D_orders rfl rfl rfl rfl rfl (by omega) (t_D_orders E (d - 1) (by omega) w (popc k) (by omega)) ?_
      refine Wp_i2l d_D_broughtInAllOrders_43 ?_
      refine Wp_eql (x2 := lN (facS (popc k))) (nI_l (by have := facS_le (n := popc k) (by omega); omega)) ?_
      refine Wp_aload_n d_D_broughtInAllOrders_44 rfl ?_
      refine Wp_aload_n d_D_broughtInAllOrders_45 rfl ?_
      refine Wp_getr d_D_broughtInAllOrders_46 fd_D_28 rfl rfl rfl ?_
      refine Wp_getf d_D_broughtInAllOrders_49 fd_D_101 rfl rfl rfl ?_
      refine Wp_eqi (x2 := nI (pN S)) hP.2.1.1 ?_
      refine Wp_iconst (x := 1) d_D_broughtInAllOrders_52 (by decide) ?_
      refine Wp_isub d_D_broughtInAllOrders_53 ?_
      refine Wp_eqi (x2 := nI (pN S - 1)) (pk_sub (b := 1) (by omega)) ?_
      refine Wp_iload d_D_broughtInAllOrders_54 rfl ?_
      refine Wp_isub d_D_broughtInAllOrders_56 ?_
      refine Wp_eqi (x2 := nI (pN S - 1 - popc k)) (pk_sub hpn) ?_
      refine Wp_ivv_d (o := 12) (As := [vi (nI (pN S - 1 - popc k))]) d_D_broughtInAllOrders_57 ln_D_98 mk_D_orders rfl rfl rfl rfl rfl (by omega) (t_D_orders E (d - 1) (by omega) w (pN S - 1 - popc k) (by omega)) ?_
      refine Wp_i2l d_D_broughtInAllOrders_60 ?_
      refine Wp_eql (x2 := lN (facS (pN S - 1 - popc k))) (nI_l (by have := facS_le (n := pN S - 1 - popc k) (by omega); omega)) ?_
      refine Wp_lmul d_D_broughtInAllOrders_61 ?_
      refine Wp_lstore (ls2 := [lr 12, li (nI j), ll (shL S j k), lo, li (nI (2 ^ j)), li (nI k), li (nI (popc k)), ll ((lN (facS (popc k))) * (lN (facS (pN S - 1 - popc k)))), lo]) d_D_broughtInAllOrders_62 rfl rfl rfl ?_
      refine Wp_lload_n d_D_broughtInAllOrders_64 rfl ?_
      refine Wp_lload d_D_broughtInAllOrders_65 rfl ?_
      refine Wp_aload_n d_D_broughtInAllOrders_67 rfl ?_
      refine Wp_iload d_D_broughtInAllOrders_68 rfl ?_
      refine Wp_iload d_D_broughtInAllOrders_70 rfl ?_
      refine Wp_ior d_D_broughtInAllOrders_72 ?_
      refine Wp_eqi (x2 := nI (k ||| (2 ^ j))) (nI_or k (2 ^ j)) ?_
      refine Wp_ivv_d (o := 12) (As := [vi (nI (k ||| (2 ^ j)))]) d_D_broughtInAllOrders_73 ln_D_105 mk_D_leastOf rfl rfl rfl rfl rfl (by omega) (by have h := t_D_leastOf E (d - 1) (by omega) w S hV (k ||| (2 ^ j)) (by omega) (h15 _ (by omega)); rw [dayR_f (Fe_all hV hF (by omega))] at h; exact h) ?_
      refine Wp_aload_n d_D_broughtInAllOrders_76 rfl ?_
      refine Wp_iload d_D_broughtInAllOrders_77 rfl ?_
      refine Wp_ivv_d (o := 12) (As := [vi (nI k)]) d_D_broughtInAllOrders_79 ln_D_105 mk_D_leastOf rfl rfl rfl rfl rfl (by omega) (by have h := t_D_leastOf E (d - 1) (by omega) w S hV k (by omega) (h15 _ (by omega)); rw [dayR_f (Fe_all hV hF (by omega))] at h; exact h) ?_
      refine Wp_isub d_D_broughtInAllOrders_82 ?_
      refine Wp_eqi (x2 := lDiff S j k) rfl ?_
      refine Wp_i2l d_D_broughtInAllOrders_83 ?_
      refine Wp_lmul d_D_broughtInAllOrders_84 ?_
      refine Wp_ladd d_D_broughtInAllOrders_85 ?_
      refine Wp_eql (x2 := shL S j (k + 1)) (by rw [shL, if_neg (by rw [tb]; decide)]) ?_
      refine Wp_lstore_n (ls2 := [lr 12, li (nI j), ll (shL S j (k + 1)), lo, li (nI (2 ^ j)), li (nI k), li (nI (popc k)), ll ((lN (facS (popc k))) * (lN (facS (pN S - 1 - popc k)))), lo]) d_D_broughtInAllOrders_86 rfl rfl rfl ?_
      refine Wp_iinc (z := nI (k + 1)) (ls2 := [lr 12, li (nI j), ll (shL S j (k + 1)), lo, li (nI (2 ^ j)), li (nI (k + 1)), li (nI (popc k)), ll ((lN (facS (popc k))) * (lN (facS (pN S - 1 - popc k)))), lo]) d_D_broughtInAllOrders_87 rfl (nI_add k 1) rfl rfl rfl ?_
      refine Wp_goto d_D_broughtInAllOrders_90 ?_
      exact ih (k + 1) _ _ _ (by omega)
set_option maxRecDepth 100000 in
set_option maxHeartbeats 4000000 in
theorem t_D_broughtInAllOrders (E : mE) (d : Nat) (hd : 2 ≤ d) (w : mw) (S : mw) (hP : PR w S) (hV : VM S) (j : Nat) (hj : j < pN S) (h6 : pN S ≤ 6) (hF : Fe S (wh S)) (h15 : ∀ x, x < 2 ^ pN S → w 15 x = enD (DC S x)) : Tdl E d m_D_broughtInAllOrders [vr 12, vi (nI j)] w (shL S j (2 ^ pN S)) w := by
  refine ⟨Nat.le_of_ble_eq_true rfl, ?_⟩
  show Wp E d m_D_broughtInAllOrders 0 [lr 12, li (nI j), lo, lo, lo, lo, lo, lo, lo] [] w _
  refine Wp_lconst (x := 0) d_D_broughtInAllOrders_0 (by decide) ?_
  refine Wp_lstore_n (ls2 := [lr 12, li (nI j), ll 0, lo, lo, lo, lo, lo, lo]) d_D_broughtInAllOrders_1 rfl rfl rfl ?_
  refine Wp_iconst (x := 1) d_D_broughtInAllOrders_2 (by decide) ?_
  refine Wp_iload_n d_D_broughtInAllOrders_3 rfl ?_
  refine Wp_ishl d_D_broughtInAllOrders_4 ?_
  refine Wp_eqi (x2 := nI (2 ^ j)) (sh1 (by omega)) ?_
  refine Wp_istore (ls2 := [lr 12, li (nI j), ll 0, lo, li (nI (2 ^ j)), lo, lo, lo, lo]) d_D_broughtInAllOrders_5 rfl rfl rfl ?_
  refine Wp_iconst (x := 0) d_D_broughtInAllOrders_7 (by decide) ?_
  refine Wp_istore (ls2 := [lr 12, li (nI j), ll 0, lo, li (nI (2 ^ j)), li 0, lo, lo, lo]) d_D_broughtInAllOrders_8 rfl rfl rfl ?_
  exact l_D_br E d (by omega) w S hP hV j hj h6 hF h15 (2 ^ pN S) 0 _ _ _ (Nat.zero_add _)
