set_option maxRecDepth 100000 in
set_option maxHeartbeats 4000000 in
theorem l_D_fareOf (E : mE) (d : Nat) (hd : 1 ≤ d) (w S : mw) (hP : PR w S) (hV : VM S) (b : Nat) (hb : b < 2 ^ pN S) (h2 : 2 ≤ popc b) : ∀ (k i : Nat), i + k = 10 → Wp E d m_D_fareOf 43 [lr 12, li (nI b), li (mxI (tld S) b i), li (miI (tld S) b i), li (mxI (sWt S) b i), li (miI (sWt S) b i), li (nI i)] [] w (mPi (fun r w1 => r = nI (fareS S b) ∧ w1 = w)) := by
  intro k
  have hp10 := (pN_ok S).1
  have h1024 := two10 hp10
  have hb10 : b < 1024 := by omega
  have hpl := popc_le b
  induction k with
  | zero =>
    intro i hi
    have hin : i = 10 := by omega
    subst hin
    have hpc : pcn b 10 ≠ 0 := by have : popc b = pcn b 10 := rfl; omega
    have hb0 : b ≠ 0 := fun q => by rw [q] at h2; exact absurd h2 (by decide)
    have hs1 := ((VM_set hV).1 1 (by omega)).2
    have hs2 : sHi 1 = 2 := rfl
    refine Wp_iload d_D_fareOf_43 rfl ?_
    refine Wp_bipush (x := 10) d_D_fareOf_45 (by decide) ?_
    refine Wp_icmp_ge d_D_fareOf_47 (fun h47 => ?_) (fun q => absurd (n_nle (a := 10) q (by omega) (by omega)) (by omega))
    refine Wp_aload_n d_D_fareOf_129 rfl ?_
    refine Wp_getr d_D_fareOf_130 fd_D_32 rfl rfl rfl ?_
    refine Wp_getr d_D_fareOf_133 fd_D_63 rfl rfl rfl ?_
    refine Wp_iconst (x := 1) d_D_fareOf_136 (by decide) ?_
    refine Wp_ialdN (j := 1) d_D_fareOf_137 rfl rfl rfl rfl (by decide) ?_
    refine Wp_eqi (x2 := nI (sSet S 1)) ((congrFun hP.2.2.1 _).trans ((VM_set hV).1 _ (by omega)).1) ?_
    refine Wp_istore (ls2 := [lr 12, li (nI b), li (mxI (tld S) b 10), li (miI (tld S) b 10), li (mxI (sWt S) b 10), li (miI (sWt S) b 10), li (nI (sSet S 1))]) d_D_fareOf_138 rfl rfl rfl ?_
    refine Wp_iload d_D_fareOf_140 rfl ?_
    refine Wp_iconst (x := 1) d_D_fareOf_142 (by decide) ?_
    refine Wp_icmp_ne d_D_fareOf_143 (fun h143 => ?_) (fun h143 => ?_)
    ·
      have g143 : (sSet S 1) ≠ 1 := n_ne h143 (by omega) (by omega)
      refine Wp_iload_n d_D_fareOf_150 rfl ?_
      refine Wp_iload_n d_D_fareOf_151 rfl ?_
      refine Wp_isub d_D_fareOf_152 ?_
      refine Wp_eqi (x2 := nI (mxb (tld S) b 10 - mnb (tld S) b 100000000 10)) (mx_mi hpc) ?_
      refine Wp_iload d_D_fareOf_153 rfl ?_
      refine Wp_if_ne d_D_fareOf_155 (fun h155 => ?_) (fun h155 => ?_)
      ·
        have g155 : (sSet S 1) ≠ 0 := n_ne h155 (by omega) (by omega)
        refine Wp_iload d_D_fareOf_162 rfl ?_
        refine Wp_iload d_D_fareOf_164 rfl ?_
        refine Wp_isub d_D_fareOf_166 ?_
        refine Wp_eqi (x2 := nI (mxb (sWt S) b 10 - mnb (sWt S) b 100000000 10)) (mx_mi hpc) ?_
        refine Wp_iadd d_D_fareOf_167 ?_
        refine Wp_eqi (x2 := nI ((mxb (tld S) b 10 - mnb (tld S) b 100000000 10) + (mxb (sWt S) b 10 - mnb (sWt S) b 100000000 10))) (nI_add (mxb (tld S) b 10 - mnb (tld S) b 100000000 10) (mxb (sWt S) b 10 - mnb (sWt S) b 100000000 10)) ?_
        refine Wp_reti (ty := .int) d_D_fareOf_168 rfl rfl ?_
        exact ⟨by unfold fareS; rw [if_neg (by omega), if_neg hb0, if_neg g143, if_neg g155], rfl⟩
      ·
        have g155 : (sSet S 1) = 0 := n_eq h155 (by omega) (by omega)
        refine Wp_iconst (x := 0) d_D_fareOf_158 (by decide) ?_
        refine Wp_goto d_D_fareOf_159 ?_
        refine Wp_iadd d_D_fareOf_167 ?_
        refine Wp_eqi (x2 := nI ((mxb (tld S) b 10 - mnb (tld S) b 100000000 10) + 0)) (nI_add (mxb (tld S) b 10 - mnb (tld S) b 100000000 10) 0) ?_
        refine Wp_reti (ty := .int) d_D_fareOf_168 rfl rfl ?_
        exact ⟨by unfold fareS; rw [if_neg (by omega), if_neg hb0, if_neg g143, if_pos g155], rfl⟩
    ·
      have g143 : (sSet S 1) = 1 := n_eq h143 (by omega) (by omega)
      refine Wp_iconst (x := 0) d_D_fareOf_146 (by decide) ?_
      refine Wp_goto d_D_fareOf_147 ?_
      refine Wp_iload d_D_fareOf_153 rfl ?_
      refine Wp_if_ne d_D_fareOf_155 (fun h155 => ?_) (fun h155 => ?_)
      ·
        have g155 : (sSet S 1) ≠ 0 := n_ne h155 (by omega) (by omega)
        refine Wp_iload d_D_fareOf_162 rfl ?_
        refine Wp_iload d_D_fareOf_164 rfl ?_
        refine Wp_isub d_D_fareOf_166 ?_
        refine Wp_eqi (x2 := nI (mxb (sWt S) b 10 - mnb (sWt S) b 100000000 10)) (mx_mi hpc) ?_
        refine Wp_iadd d_D_fareOf_167 ?_
        refine Wp_eqi (x2 := nI (0 + (mxb (sWt S) b 10 - mnb (sWt S) b 100000000 10))) (nI_add 0 (mxb (sWt S) b 10 - mnb (sWt S) b 100000000 10)) ?_
        refine Wp_reti (ty := .int) d_D_fareOf_168 rfl rfl ?_
        exact ⟨by unfold fareS; rw [if_neg (by omega), if_neg hb0, if_pos g143, if_neg g155], rfl⟩
      ·
        have g155 : (sSet S 1) = 0 := n_eq h155 (by omega) (by omega)
        refine Wp_iconst (x := 0) d_D_fareOf_158 (by decide) ?_
        refine Wp_goto d_D_fareOf_159 ?_
        refine Wp_iadd d_D_fareOf_167 ?_
        refine Wp_eqi (x2 := 0) (by decide) ?_
        refine Wp_reti (ty := .int) d_D_fareOf_168 rfl rfl ?_
        exact absurd (g143.symm.trans g155) (by decide)
  | succ k ih =>
    intro i hi
    refine Wp_iload d_D_fareOf_43 rfl ?_
    refine Wp_bipush (x := 10) d_D_fareOf_45 (by decide) ?_
    refine Wp_icmp_ge d_D_fareOf_47 (fun q => absurd (n_le (a := 10) q (by omega) (by omega)) (by omega)) (fun h47 => ?_)
    refine Wp_iload_n d_D_fareOf_50 rfl ?_
    refine Wp_iconst (x := 1) d_D_fareOf_51 (by decide) ?_
    refine Wp_iload d_D_fareOf_52 rfl ?_
    refine Wp_ishl d_D_fareOf_54 ?_
    refine Wp_eqi (x2 := nI (2 ^ i)) (sh1 (by omega)) ?_
    refine Wp_iand d_D_fareOf_55 ?_
    refine Wp_eqi (x2 := nI (b &&& (2 ^ i))) (nI_and b (2 ^ i)) ?_
    refine Wp_if_eq d_D_fareOf_56 (fun h56 => ?_) (fun h56 => ?_)
    ·
      have tb : b.testBit i = false := bit0 (by omega) h56
      refine Wp_iinc (z := nI (i + 1)) (ls2 := [lr 12, li (nI b), li (mxI (tld S) b i), li (miI (tld S) b i), li (mxI (sWt S) b i), li (miI (sWt S) b i), li (nI (i + 1))]) d_D_fareOf_123 rfl (nI_add i 1) rfl rfl rfl ?_
      refine Wp_goto d_D_fareOf_126 ?_
      have h9 := ih (i + 1) (by omega)
      rw [mxI_n tb, miI_n tb, mxI_n tb, miI_n tb] at h9
      exact h9
    ·
      have tb : b.testBit i = true := bit1 h56
      have hip : i < pN S := by
        apply Nat.lt_of_not_le
        intro q
        rw [tb_lt hb q] at tb
        exact absurd tb (by decide)
      have ht := tld_le hV hip
      have hw := (VM_wt hV i (by omega)).2
      have hm1 : mxb (tld S) b i ≤ 1000000 := Nat.le_trans (mxb_le (B := 150) i (fun j q => tld_le hV (by omega))) (by omega)
      have hm2 : mxb (sWt S) b i ≤ 1000000 := Nat.le_trans (mxb_le (B := 99) i (fun j q => (VM_wt hV j (by omega)).2)) (by omega)
      refine Wp_iload_n d_D_fareOf_59 rfl ?_
      refine Wp_aload_n d_D_fareOf_60 rfl ?_
      refine Wp_getr d_D_fareOf_61 fd_D_28 rfl rfl rfl ?_
      refine Wp_getr d_D_fareOf_64 fd_D_68 rfl rfl rfl ?_
      refine Wp_iload d_D_fareOf_67 rfl ?_
      refine Wp_ialdN (j := i) d_D_fareOf_69 rfl rfl rfl rfl (by omega) ?_
      refine Wp_eqi (x2 := nI (tld S i)) (hP.2.1.2.2 _ (by omega)).2 ?_
      refine Wp_max d_D_fareOf_70 ln_D_71 rfl (by omega) ?_
      refine Wp_eqi (x2 := mxI (tld S) b (i + 1)) (mxI_s tb (by omega) hm1) ?_
      refine Wp_istore_n (ls2 := [lr 12, li (nI b), li (mxI (tld S) b (i + 1)), li (miI (tld S) b i), li (mxI (sWt S) b i), li (miI (sWt S) b i), li (nI i)]) d_D_fareOf_73 rfl rfl rfl ?_
      refine Wp_iload_n d_D_fareOf_74 rfl ?_
      refine Wp_aload_n d_D_fareOf_75 rfl ?_
      refine Wp_getr d_D_fareOf_76 fd_D_28 rfl rfl rfl ?_
      refine Wp_getr d_D_fareOf_79 fd_D_68 rfl rfl rfl ?_
      refine Wp_iload d_D_fareOf_82 rfl ?_
      refine Wp_ialdN (j := i) d_D_fareOf_84 rfl rfl rfl rfl (by omega) ?_
      refine Wp_eqi (x2 := nI (tld S i)) (hP.2.1.2.2 _ (by omega)).2 ?_
      refine Wp_min d_D_fareOf_85 ln_D_77 rfl (by omega) ?_
      refine Wp_eqi (x2 := miI (tld S) b (i + 1)) (miI_s tb (by omega)) ?_
      refine Wp_istore_n (ls2 := [lr 12, li (nI b), li (mxI (tld S) b (i + 1)), li (miI (tld S) b (i + 1)), li (mxI (sWt S) b i), li (miI (sWt S) b i), li (nI i)]) d_D_fareOf_88 rfl rfl rfl ?_
      refine Wp_iload d_D_fareOf_89 rfl ?_
      refine Wp_aload_n d_D_fareOf_91 rfl ?_
      refine Wp_getr d_D_fareOf_92 fd_D_28 rfl rfl rfl ?_
      refine Wp_getr d_D_fareOf_95 fd_D_80 rfl rfl rfl ?_
      refine Wp_iload d_D_fareOf_98 rfl ?_
      refine Wp_ialdN (j := i) d_D_fareOf_100 rfl rfl rfl rfl (by omega) ?_
      refine Wp_eqi (x2 := nI (sWt S i)) ((congrFun hP.1.2.1 _).trans (VM_wt hV _ (by omega)).1) ?_
      refine Wp_max d_D_fareOf_101 ln_D_71 rfl (by omega) ?_
      refine Wp_eqi (x2 := mxI (sWt S) b (i + 1)) (mxI_s tb (by omega) hm2) ?_
      refine Wp_istore (ls2 := [lr 12, li (nI b), li (mxI (tld S) b (i + 1)), li (miI (tld S) b (i + 1)), li (mxI (sWt S) b (i + 1)), li (miI (sWt S) b i), li (nI i)]) d_D_fareOf_104 rfl rfl rfl ?_
      refine Wp_iload d_D_fareOf_106 rfl ?_
      refine Wp_aload_n d_D_fareOf_108 rfl ?_
      refine Wp_getr d_D_fareOf_109 fd_D_28 rfl rfl rfl ?_
      refine Wp_getr d_D_fareOf_112 fd_D_80 rfl rfl rfl ?_
      refine Wp_iload d_D_fareOf_115 rfl ?_
      refine Wp_ialdN (j := i) d_D_fareOf_117 rfl rfl rfl rfl (by omega) ?_
      refine Wp_eqi (x2 := nI (sWt S i)) ((congrFun hP.1.2.1 _).trans (VM_wt hV _ (by omega)).1) ?_
      refine Wp_min d_D_fareOf_118 ln_D_77 rfl (by omega) ?_
      refine Wp_eqi (x2 := miI (sWt S) b (i + 1)) (miI_s tb (by omega)) ?_
      refine Wp_istore (ls2 := [lr 12, li (nI b), li (mxI (tld S) b (i + 1)), li (miI (tld S) b (i + 1)), li (mxI (sWt S) b (i + 1)), li (miI (sWt S) b (i + 1)), li (nI i)]) d_D_fareOf_121 rfl rfl rfl ?_
      refine Wp_iinc (z := nI (i + 1)) (ls2 := [lr 12, li (nI b), li (mxI (tld S) b (i + 1)), li (miI (tld S) b (i + 1)), li (mxI (sWt S) b (i + 1)), li (miI (sWt S) b (i + 1)), li (nI (i + 1))]) d_D_fareOf_123 rfl (nI_add i 1) rfl rfl rfl ?_
      refine Wp_goto d_D_fareOf_126 ?_
      exact ih (i + 1) (by omega)
set_option maxRecDepth 100000 in
set_option maxHeartbeats 4000000 in
theorem t_D_fareOf (E : mE) (d : Nat) (hd : 1 ≤ d) (w : mw) (S : mw) (hP : PR w S) (hV : VM S) (b : Nat) (hb : b < 2 ^ pN S) : Td E d m_D_fareOf [vr 12, vi (nI b)] w (nI (fareS S b)) w := by
  refine ⟨Nat.le_of_ble_eq_true rfl, ?_⟩
  show Wp E d m_D_fareOf 0 [lr 12, li (nI b), lo, lo, lo, lo, lo] [] w _
  have hp10 := (pN_ok S).1
  have h1024 := two10 hp10
  have hb10 : b < 1024 := by omega
  have hpl := popc_le b
  refine Wp_iload_n d_D_fareOf_0 rfl ?_
  refine Wp_ivs_d (As := [vi (nI b)]) d_D_fareOf_1 ln_D_46 mk_J_bitCount rfl rfl rfl (by omega) (t_J_bitCount E (d - 1) (by omega) w b (by omega)) ?_
  refine Wp_iconst (x := 2) d_D_fareOf_4 (by decide) ?_
  refine Wp_icmp_ge d_D_fareOf_5 (fun h5 => ?_) (fun h5 => ?_)
  ·
    have g5 : 2 ≤ (popc b) := n_le h5 (by omega) (by omega)
    refine Wp_ldc (x := (-2147483648)) d_D_fareOf_26 kc_D_66 ?_
    refine Wp_istore_n (ls2 := [lr 12, li (nI b), li (-2147483648), lo, lo, lo, lo]) d_D_fareOf_28 rfl rfl rfl ?_
    refine Wp_ldc (x := 2147483647) d_D_fareOf_29 kc_D_67 ?_
    refine Wp_istore_n (ls2 := [lr 12, li (nI b), li (-2147483648), li 2147483647, lo, lo, lo]) d_D_fareOf_31 rfl rfl rfl ?_
    refine Wp_ldc (x := (-2147483648)) d_D_fareOf_32 kc_D_66 ?_
    refine Wp_istore (ls2 := [lr 12, li (nI b), li (-2147483648), li 2147483647, li (-2147483648), lo, lo]) d_D_fareOf_34 rfl rfl rfl ?_
    refine Wp_ldc (x := 2147483647) d_D_fareOf_36 kc_D_67 ?_
    refine Wp_istore (ls2 := [lr 12, li (nI b), li (-2147483648), li 2147483647, li (-2147483648), li 2147483647, lo]) d_D_fareOf_38 rfl rfl rfl ?_
    refine Wp_iconst (x := 0) d_D_fareOf_40 (by decide) ?_
    refine Wp_istore (ls2 := [lr 12, li (nI b), li (-2147483648), li 2147483647, li (-2147483648), li 2147483647, li 0]) d_D_fareOf_41 rfl rfl rfl ?_
    exact l_D_fareOf E d (by omega) w S hP hV b hb (by omega) 10 0 rfl
  ·
    have g5 : (popc b) < 2 := n_nle h5 (by omega) (by omega)
    refine Wp_iload_n d_D_fareOf_8 rfl ?_
    refine Wp_if_ne d_D_fareOf_9 (fun h9 => ?_) (fun h9 => ?_)
    ·
      have g9 : b ≠ 0 := n_ne h9 (by omega) (by omega)
      refine Wp_aload_n d_D_fareOf_16 rfl ?_
      refine Wp_getr d_D_fareOf_17 fd_D_32 rfl rfl rfl ?_
      refine Wp_getr d_D_fareOf_20 fd_D_63 rfl rfl rfl ?_
      refine Wp_iconst (x := 2) d_D_fareOf_23 (by decide) ?_
      refine Wp_ialdN (j := 2) d_D_fareOf_24 rfl rfl rfl rfl (by decide) ?_
      refine Wp_eqi (x2 := nI (sSet S 2)) ((congrFun hP.2.2.1 _).trans ((VM_set hV).1 _ (by omega)).1) ?_
      refine Wp_reti (ty := .int) d_D_fareOf_25 rfl rfl ?_
      have h1 : popc b = 1 := by have := popc_pos b hb10 (by omega); omega
      exact ⟨by unfold fareS; rw [if_pos h1], rfl⟩
    ·
      have g9 : b = 0 := n_eq h9 (by omega) (by omega)
      refine Wp_iconst (x := 0) d_D_fareOf_12 (by decide) ?_
      refine Wp_goto d_D_fareOf_13 ?_
      refine Wp_reti (ty := .int) d_D_fareOf_25 rfl rfl ?_
      exact ⟨by rw [show b = 0 from g9]; unfold fareS; rw [if_neg (by decide), if_pos rfl]; rfl, rfl⟩
set_option maxRecDepth 100000 in
set_option maxHeartbeats 4000000 in
theorem l_D_costOf (E : mE) (d : Nat) (hd : 2 ≤ d) (w S : mw) (hP : PR w S) (hV : VM S) (b : Nat) (hb : b < 2 ^ pN S) : ∀ (k i : Nat), i + k = 10 → Wp E d m_D_costOf 7 [lr 12, li (nI b), li (nI (mxb (sHr S) b i)), li (nI (smb (sHr S) b i)), li (nI i)] [] w (mPi (fun r w1 => r = nI (costS S b) ∧ w1 = w)) := by
  intro k
  have hp10 := (pN_ok S).1
  have h1024 := two10 hp10
  have hb10 : b < 1024 := by omega
  have hpl := popc_le b
  induction k with
  | zero =>
    intro i hi
    have hin : i = 10 := by omega
    subst hin
    refine Wp_iload d_D_costOf_7 rfl ?_
    refine Wp_bipush (x := 10) d_D_costOf_9 (by decide) ?_
    refine Wp_icmp_ge d_D_costOf_11 (fun h11 => ?_) (fun q => absurd (n_nle (a := 10) q (by omega) (by omega)) (by omega))
    refine Wp_iload_n d_D_costOf_57 rfl ?_
    refine Wp_ivs_d (As := [vi (nI b)]) d_D_costOf_58 ln_D_46 mk_J_bitCount rfl rfl rfl (by omega) (t_J_bitCount E (d - 1) (by omega) w b (by omega)) ?_
    refine Wp_iload_n d_D_costOf_61 rfl ?_
    refine Wp_imul d_D_costOf_62 ?_
    refine Wp_eqi (x2 := nI ((popc b) * (mxb (sHr S) b 10))) (pk_mul (popc b) (mxb (sHr S) b 10)) ?_
    refine Wp_iload_n d_D_costOf_63 rfl ?_
    refine Wp_isub d_D_costOf_64 ?_
    refine Wp_eqi (x2 := nI (popc b * mxb (sHr S) b 10 - smb (sHr S) b 10)) (pk_sub (smb_mx 10)) ?_
    refine Wp_istore (ls2 := [lr 12, li (nI b), li (nI (mxb (sHr S) b 10)), li (nI (smb (sHr S) b 10)), li (nI (popc b * mxb (sHr S) b 10 - smb (sHr S) b 10))]) d_D_costOf_65 rfl rfl rfl ?_
    refine Wp_aload_n d_D_costOf_67 rfl ?_
    refine Wp_iload_n d_D_costOf_68 rfl ?_
    refine Wp_ivv_d (o := 12) (As := [vi (nI b)]) d_D_costOf_69 ln_D_86 mk_D_fareOf rfl rfl rfl rfl rfl (by omega) (t_D_fareOf E (d - 1) (by omega) w S hP hV b (by omega)) ?_
    refine Wp_aload_n d_D_costOf_72 rfl ?_
    refine Wp_getr d_D_costOf_73 fd_D_32 rfl rfl rfl ?_
    refine Wp_getr d_D_costOf_76 fd_D_63 rfl rfl rfl ?_
    refine Wp_iconst (x := 3) d_D_costOf_79 (by decide) ?_
    refine Wp_ialdN (j := 3) d_D_costOf_80 rfl rfl rfl rfl (by decide) ?_
    refine Wp_eqi (x2 := nI (sSet S 3)) ((congrFun hP.2.2.1 _).trans ((VM_set hV).1 _ (by omega)).1) ?_
    refine Wp_iload d_D_costOf_81 rfl ?_
    refine Wp_imul d_D_costOf_83 ?_
    refine Wp_eqi (x2 := nI ((sSet S 3) * (popc b * mxb (sHr S) b 10 - smb (sHr S) b 10))) (pk_mul (sSet S 3) (popc b * mxb (sHr S) b 10 - smb (sHr S) b 10)) ?_
    refine Wp_iadd d_D_costOf_84 ?_
    refine Wp_eqi (x2 := nI ((fareS S b) + ((sSet S 3) * (popc b * mxb (sHr S) b 10 - smb (sHr S) b 10)))) (nI_add (fareS S b) ((sSet S 3) * (popc b * mxb (sHr S) b 10 - smb (sHr S) b 10))) ?_
    refine Wp_reti (ty := .int) d_D_costOf_85 rfl rfl ?_
    exact ⟨rfl, rfl⟩
  | succ k ih =>
    intro i hi
    have hm := mxb_le (f := sHr S) (b := b) (B := 99) i (fun j q => (VM_hr hV j (by omega)).2)
    have hh := (VM_hr hV i (by omega)).2
    refine Wp_iload d_D_costOf_7 rfl ?_
    refine Wp_bipush (x := 10) d_D_costOf_9 (by decide) ?_
    refine Wp_icmp_ge d_D_costOf_11 (fun q => absurd (n_le (a := 10) q (by omega) (by omega)) (by omega)) (fun h11 => ?_)
    refine Wp_iload_n d_D_costOf_14 rfl ?_
    refine Wp_iconst (x := 1) d_D_costOf_15 (by decide) ?_
    refine Wp_iload d_D_costOf_16 rfl ?_
    refine Wp_ishl d_D_costOf_18 ?_
    refine Wp_eqi (x2 := nI (2 ^ i)) (sh1 (by omega)) ?_
    refine Wp_iand d_D_costOf_19 ?_
    refine Wp_eqi (x2 := nI (b &&& (2 ^ i))) (nI_and b (2 ^ i)) ?_
    refine Wp_if_eq d_D_costOf_20 (fun h20 => ?_) (fun h20 => ?_)
    ·
      have tb : b.testBit i = false := bit0 (by omega) h20
      refine Wp_iinc (z := nI (i + 1)) (ls2 := [lr 12, li (nI b), li (nI (mxb (sHr S) b i)), li (nI (smb (sHr S) b i)), li (nI (i + 1))]) d_D_costOf_51 rfl (nI_add i 1) rfl rfl rfl ?_
      refine Wp_goto d_D_costOf_54 ?_
      have h9 := ih (i + 1) (by omega)
      rw [mxb_n tb, smb_n tb] at h9
      exact h9
    ·
      have tb : b.testBit i = true := bit1 h20
      refine Wp_iload_n d_D_costOf_23 rfl ?_
      refine Wp_aload_n d_D_costOf_24 rfl ?_
      refine Wp_getr d_D_costOf_25 fd_D_28 rfl rfl rfl ?_
      refine Wp_getr d_D_costOf_28 fd_D_83 rfl rfl rfl ?_
      refine Wp_iload d_D_costOf_31 rfl ?_
      refine Wp_ialdN (j := i) d_D_costOf_33 rfl rfl rfl rfl (by omega) ?_
      refine Wp_eqi (x2 := nI (sHr S i)) ((congrFun hP.1.2.2.1 _).trans (VM_hr hV _ (by omega)).1) ?_
      refine Wp_max d_D_costOf_34 ln_D_71 rfl (by omega) ?_
      refine Wp_eqi (x2 := nI (mxb (sHr S) b (i + 1))) (by rw [mxb_s tb]; exact nmax (by omega) (by omega)) ?_
      refine Wp_istore_n (ls2 := [lr 12, li (nI b), li (nI (mxb (sHr S) b (i + 1))), li (nI (smb (sHr S) b i)), li (nI i)]) d_D_costOf_37 rfl rfl rfl ?_
      refine Wp_iload_n d_D_costOf_38 rfl ?_
      refine Wp_aload_n d_D_costOf_39 rfl ?_
      refine Wp_getr d_D_costOf_40 fd_D_28 rfl rfl rfl ?_
      refine Wp_getr d_D_costOf_43 fd_D_83 rfl rfl rfl ?_
      refine Wp_iload d_D_costOf_46 rfl ?_
      refine Wp_ialdN (j := i) d_D_costOf_48 rfl rfl rfl rfl (by omega) ?_
      refine Wp_eqi (x2 := nI (sHr S i)) ((congrFun hP.1.2.2.1 _).trans (VM_hr hV _ (by omega)).1) ?_
      refine Wp_iadd d_D_costOf_49 ?_
      refine Wp_eqi (x2 := nI (smb (sHr S) b (i + 1))) (by rw [smb_s tb]; exact nI_add _ _) ?_
      refine Wp_istore_n (ls2 := [lr 12, li (nI b), li (nI (mxb (sHr S) b (i + 1))), li (nI (smb (sHr S) b (i + 1))), li (nI i)]) d_D_costOf_50 rfl rfl rfl ?_
      refine Wp_iinc (z := nI (i + 1)) (ls2 := [lr 12, li (nI b), li (nI (mxb (sHr S) b (i + 1))), li (nI (smb (sHr S) b (i + 1))), li (nI (i + 1))]) d_D_costOf_51 rfl (nI_add i 1) rfl rfl rfl ?_
      refine Wp_goto d_D_costOf_54 ?_
      exact ih (i + 1) (by omega)
set_option maxRecDepth 100000 in
set_option maxHeartbeats 4000000 in
theorem t_D_costOf (E : mE) (d : Nat) (hd : 2 ≤ d) (w : mw) (S : mw) (hP : PR w S) (hV : VM S) (b : Nat) (hb : b < 2 ^ pN S) : Td E d m_D_costOf [vr 12, vi (nI b)] w (nI (costS S b)) w := by
  refine ⟨Nat.le_of_ble_eq_true rfl, ?_⟩
  show Wp E d m_D_costOf 0 [lr 12, li (nI b), lo, lo, lo] [] w _
  refine Wp_iconst (x := 0) d_D_costOf_0 (by decide) ?_
  refine Wp_istore_n (ls2 := [lr 12, li (nI b), li 0, lo, lo]) d_D_costOf_1 rfl rfl rfl ?_
  refine Wp_iconst (x := 0) d_D_costOf_2 (by decide) ?_
  refine Wp_istore_n (ls2 := [lr 12, li (nI b), li 0, li 0, lo]) d_D_costOf_3 rfl rfl rfl ?_
  refine Wp_iconst (x := 0) d_D_costOf_4 (by decide) ?_
  refine Wp_istore (ls2 := [lr 12, li (nI b), li 0, li 0, li 0]) d_D_costOf_5 rfl rfl rfl ?_
  exact l_D_costOf E d (by omega) w S hP hV b hb 10 0 rfl
set_option maxRecDepth 100000 in
set_option maxHeartbeats 4000000 in
theorem l_D_priceOf (E : mE) (d : Nat) (hd : 3 ≤ d) (w S : mw) (hP : PR w S) (hV : VM S) (b : Nat) (hb : b < 2 ^ pN S) (hsz : popc b ≤ sSet S 0) : ∀ (k i : Nat), i + k = 10 → okw S b i = true → Wp E d m_D_priceOf 20 [lr 12, li (nI b), li (nI i)] [] w (mPi (fun r w1 => r = (if okS S b = true then nI (costS S b) else -1) ∧ w1 = w)) := by
  intro k
  have hp10 := (pN_ok S).1
  have h1024 := two10 hp10
  have hb10 : b < 1024 := by omega
  have hpl := popc_le b
  induction k with
  | zero =>
    intro i hi ho
    have hin : i = 10 := by omega
    subst hin
    have hok : okS S b = true := by unfold okS; rw [ho]; simp [hsz]
    refine Wp_iload_n d_D_priceOf_20 rfl ?_
    refine Wp_bipush (x := 10) d_D_priceOf_21 (by decide) ?_
    refine Wp_icmp_ge d_D_priceOf_23 (fun h23 => ?_) (fun q => absurd (n_nle (a := 10) q (by omega) (by omega)) (by omega))
    refine Wp_aload_n d_D_priceOf_56 rfl ?_
    refine Wp_iload_n d_D_priceOf_57 rfl ?_
    refine Wp_ivv_d (o := 12) (As := [vi (nI b)]) d_D_priceOf_58 ln_D_121 mk_D_costOf rfl rfl rfl rfl rfl (by omega) (t_D_costOf E (d - 1) (by omega) w S hP hV b (by omega)) ?_
    refine Wp_reti (ty := .int) d_D_priceOf_61 rfl rfl ?_
    exact ⟨by rw [if_pos hok], rfl⟩
  | succ k ih =>
    intro i hi ho
    have hwo := (VM_wo hV i (by omega)).2
    have hal : sWo S i &&& b ≤ sWo S i := Nat.and_le_left
    refine Wp_iload_n d_D_priceOf_20 rfl ?_
    refine Wp_bipush (x := 10) d_D_priceOf_21 (by decide) ?_
    refine Wp_icmp_ge d_D_priceOf_23 (fun q => absurd (n_le (a := 10) q (by omega) (by omega)) (by omega)) (fun h23 => ?_)
    refine Wp_iload_n d_D_priceOf_26 rfl ?_
    refine Wp_iconst (x := 1) d_D_priceOf_27 (by decide) ?_
    refine Wp_iload_n d_D_priceOf_28 rfl ?_
    refine Wp_ishl d_D_priceOf_29 ?_
    refine Wp_eqi (x2 := nI (2 ^ i)) (sh1 (by omega)) ?_
    refine Wp_iand d_D_priceOf_30 ?_
    refine Wp_eqi (x2 := nI (b &&& (2 ^ i))) (nI_and b (2 ^ i)) ?_
    refine Wp_if_eq d_D_priceOf_31 (fun h31 => ?_) (fun h31 => ?_)
    ·
      have tb : b.testBit i = false := bit0 (by omega) h31
      refine Wp_iinc (z := nI (i + 1)) (ls2 := [lr 12, li (nI b), li (nI (i + 1))]) d_D_priceOf_50 rfl (nI_add i 1) rfl rfl rfl ?_
      refine Wp_goto d_D_priceOf_53 ?_
      exact ih (i + 1) (by omega) (okw_s ho (Or.inl tb))
    ·
      have tb : b.testBit i = true := bit1 h31
      refine Wp_aload_n d_D_priceOf_34 rfl ?_
      refine Wp_getr d_D_priceOf_35 fd_D_32 rfl rfl rfl ?_
      refine Wp_getr d_D_priceOf_38 fd_D_124 rfl rfl rfl ?_
      refine Wp_iload_n d_D_priceOf_41 rfl ?_
      refine Wp_ialdN (j := i) d_D_priceOf_42 rfl rfl rfl rfl (by omega) ?_
      refine Wp_eqi (x2 := nI (sWo S i)) ((congrFun hP.2.2.2.1 _).trans (VM_wo hV _ (by omega)).1) ?_
      refine Wp_iload_n d_D_priceOf_43 rfl ?_
      refine Wp_iand d_D_priceOf_44 ?_
      refine Wp_eqi (x2 := nI ((sWo S i) &&& b)) (nI_and (sWo S i) b) ?_
      refine Wp_if_eq d_D_priceOf_45 (fun h45 => ?_) (fun h45 => ?_)
      ·
        have g45 : ((sWo S i) &&& b) = 0 := n_eq h45 (by omega) (by omega)
        refine Wp_iinc (z := nI (i + 1)) (ls2 := [lr 12, li (nI b), li (nI (i + 1))]) d_D_priceOf_50 rfl (nI_add i 1) rfl rfl rfl ?_
        refine Wp_goto d_D_priceOf_53 ?_
        exact ih (i + 1) (by omega) (okw_s ho (Or.inr g45))
      ·
        have g45 : ((sWo S i) &&& b) ≠ 0 := n_ne h45 (by omega) (by omega)
        refine Wp_iconst (x := (-1)) d_D_priceOf_48 (by decide) ?_
        refine Wp_reti (ty := .int) d_D_priceOf_49 rfl rfl ?_
        exact ⟨by rw [if_neg (fun q => okw_f tb (by omega) (by omega) (Bool.and_eq_true _ _ ▸ q).2)], rfl⟩
set_option maxRecDepth 100000 in
set_option maxHeartbeats 4000000 in
theorem t_D_priceOf (E : mE) (d : Nat) (hd : 3 ≤ d) (w : mw) (S : mw) (hP : PR w S) (hV : VM S) (b : Nat) (hb : b < 2 ^ pN S) : Td E d m_D_priceOf [vr 12, vi (nI b)] w (if okS S b = true then nI (costS S b) else -1) w := by
  refine ⟨Nat.le_of_ble_eq_true rfl, ?_⟩
  show Wp E d m_D_priceOf 0 [lr 12, li (nI b), lo] [] w _
  have hp10 := (pN_ok S).1
  have h1024 := two10 hp10
  have hb10 : b < 1024 := by omega
  have hpl := popc_le b
  have hs0 := ((VM_set hV).1 0 (by omega)).2
  have hs4 : sHi 0 = 4 := rfl
  refine Wp_iload_n d_D_priceOf_0 rfl ?_
  refine Wp_ivs_d (As := [vi (nI b)]) d_D_priceOf_1 ln_D_46 mk_J_bitCount rfl rfl rfl (by omega) (t_J_bitCount E (d - 1) (by omega) w b (by omega)) ?_
  refine Wp_aload_n d_D_priceOf_4 rfl ?_
  refine Wp_getr d_D_priceOf_5 fd_D_32 rfl rfl rfl ?_
  refine Wp_getr d_D_priceOf_8 fd_D_63 rfl rfl rfl ?_
  refine Wp_iconst (x := 0) d_D_priceOf_11 (by decide) ?_
  refine Wp_ialdN (j := 0) d_D_priceOf_12 rfl rfl rfl rfl (by decide) ?_
  refine Wp_eqi (x2 := nI (sSet S 0)) ((congrFun hP.2.2.1 _).trans ((VM_set hV).1 _ (by omega)).1) ?_
  refine Wp_icmp_le d_D_priceOf_13 (fun h13 => ?_) (fun h13 => ?_)
  ·
    have g13 : (popc b) ≤ (sSet S 0) := n_le h13 (by omega) (by omega)
    refine Wp_iconst (x := 0) d_D_priceOf_18 (by decide) ?_
    refine Wp_istore_n (ls2 := [lr 12, li (nI b), li 0]) d_D_priceOf_19 rfl rfl rfl ?_
    exact l_D_priceOf E d (by omega) w S hP hV b hb g13 10 0 rfl rfl
  ·
    have g13 : (sSet S 0) < (popc b) := n_nle h13 (by omega) (by omega)
    refine Wp_iconst (x := (-1)) d_D_priceOf_16 (by decide) ?_
    refine Wp_reti (ty := .int) d_D_priceOf_17 rfl rfl ?_
    exact ⟨by rw [if_neg (fun q => by unfold okS at q; rw [Bool.and_eq_true, decide_eq_true_eq] at q; omega)], rfl⟩
set_option maxRecDepth 100000 in
set_option maxHeartbeats 4000000 in
theorem t_R_mustOf (E : mE) (d : Nat) (hd : 2 ≤ d) (w : mw) (S : mw) (hP : PR w S) (hV : VM S) (i : Nat) (hi : i < 10) : Td E d m_R_mustOf [vr 8, vi (nI i)] w (nI (sMu S i)) w := by
  refine ⟨Nat.le_of_ble_eq_true rfl, ?_⟩
  show Wp E d m_R_mustOf 0 [lr 8, li (nI i)] [] w _
  refine Wp_iload_n d_R_mustOf_0 rfl ?_
  refine Wp_ivsN_b (As := [vi (nI i)]) d_R_mustOf_1 ln_R_27 mk_F_isNumber rfl rfl rfl (by omega) (t_F_isNumber E (d - 1) (by omega) w (nI i)) (fun g1 => ?_) (fun g1 => ?_)
  ·
    refine Wp_if_eq d_R_mustOf_4 (fun q => absurd q (by decide)) (fun _ => ?_)
    refine Wp_aload_n d_R_mustOf_7 rfl ?_
    refine Wp_getr d_R_mustOf_8 fd_R_18 rfl rfl rfl ?_
    refine Wp_iload_n d_R_mustOf_11 rfl ?_
    refine Wp_ialdN (j := i) d_R_mustOf_12 rfl rfl rfl rfl (by omega) ?_
    refine Wp_eqi (x2 := nI (sMu S i)) ((congrFun hP.2.2.2.2 _).trans (VM_mu hV _ (by omega)).1) ?_
    refine Wp_goto d_R_mustOf_13 ?_
    refine Wp_reti (ty := .int) d_R_mustOf_17 rfl rfl ?_
    exact ⟨rfl, rfl⟩
  ·
    exact absurd (by have := ti (show i < 2147483648 by omega); omega) g1
set_option maxRecDepth 100000 in
set_option maxHeartbeats 4000000 in
theorem t_D_priceAt (E : mE) (d : Nat) (hd : 0 ≤ d) (w : mw) (b : Nat) (hb : b < 1024) : Td E d m_D_priceAt [vr 12, vi (nI b)] w (w 13 b) w := by
  refine ⟨Nat.le_of_ble_eq_true rfl, ?_⟩
  show Wp E d m_D_priceAt 0 [lr 12, li (nI b)] [] w _
  refine Wp_iload_n d_D_priceAt_0 rfl ?_
  refine Wp_if_lt d_D_priceAt_1 (fun q => absurd (n_lt (b := 0) q (by omega) (by omega)) (by omega)) (fun h1 => ?_)
  refine Wp_iload_n d_D_priceAt_4 rfl ?_
  refine Wp_sipush (x := 1024) d_D_priceAt_5 (by decide) ?_
  refine Wp_icmp_ge d_D_priceAt_8 (fun q => absurd (n_le (a := 1024) q (by omega) (by omega)) (by omega)) (fun h8 => ?_)
  refine Wp_aload_n d_D_priceAt_11 rfl ?_
  refine Wp_getr d_D_priceAt_12 fd_D_11 rfl rfl rfl ?_
  refine Wp_iload_n d_D_priceAt_15 rfl ?_
  refine Wp_ialdN (j := b) d_D_priceAt_16 rfl rfl rfl rfl (by omega) ?_
  refine Wp_goto d_D_priceAt_17 ?_
  refine Wp_reti (ty := .int) d_D_priceAt_21 rfl rfl ?_
  exact ⟨rfl, rfl⟩
set_option maxRecDepth 100000 in
set_option maxHeartbeats 4000000 in
theorem t_D_planOf (E : mE) (d : Nat) (hd : 0 ≤ d) (w : mw) (s : Nat) (hs : s < 1024) : Td E d m_D_planOf [vr 12, vi (nI s)] w (w 15 s) w := by
  refine ⟨Nat.le_of_ble_eq_true rfl, ?_⟩
  show Wp E d m_D_planOf 0 [lr 12, li (nI s)] [] w _
  refine Wp_iload_n d_D_planOf_0 rfl ?_
  refine Wp_if_lt d_D_planOf_1 (fun q => absurd (n_lt (b := 0) q (by omega) (by omega)) (by omega)) (fun h1 => ?_)
  refine Wp_iload_n d_D_planOf_4 rfl ?_
  refine Wp_sipush (x := 1024) d_D_planOf_5 (by decide) ?_
  refine Wp_icmp_ge d_D_planOf_8 (fun q => absurd (n_le (a := 1024) q (by omega) (by omega)) (by omega)) (fun h8 => ?_)
  refine Wp_aload_n d_D_planOf_11 rfl ?_
  refine Wp_getr d_D_planOf_12 fd_D_18 rfl rfl rfl ?_
  refine Wp_iload_n d_D_planOf_15 rfl ?_
  refine Wp_ialdN (j := s) d_D_planOf_16 rfl rfl rfl rfl (by omega) ?_
  refine Wp_goto d_D_planOf_17 ?_
  refine Wp_reti (ty := .int) d_D_planOf_22 rfl rfl ?_
  exact ⟨rfl, rfl⟩
set_option maxRecDepth 100000 in
set_option maxHeartbeats 4000000 in
theorem t_D_mostOf (E : mE) (d : Nat) (hd : 0 ≤ d) (w : mw) (s : Nat) (hs : s < 1024) : Td E d m_D_mostOf [vr 12, vi (nI s)] w (w 16 s) w := by
  refine ⟨Nat.le_of_ble_eq_true rfl, ?_⟩
  show Wp E d m_D_mostOf 0 [lr 12, li (nI s)] [] w _
  refine Wp_iload_n d_D_mostOf_0 rfl ?_
  refine Wp_if_lt d_D_mostOf_1 (fun q => absurd (n_lt (b := 0) q (by omega) (by omega)) (by omega)) (fun h1 => ?_)
  refine Wp_iload_n d_D_mostOf_4 rfl ?_
  refine Wp_sipush (x := 1024) d_D_mostOf_5 (by decide) ?_
  refine Wp_icmp_ge d_D_mostOf_8 (fun q => absurd (n_le (a := 1024) q (by omega) (by omega)) (by omega)) (fun h8 => ?_)
  refine Wp_aload_n d_D_mostOf_11 rfl ?_
  refine Wp_getr d_D_mostOf_12 fd_D_21 rfl rfl rfl ?_
  refine Wp_iload_n d_D_mostOf_15 rfl ?_
  refine Wp_ialdN (j := s) d_D_mostOf_16 rfl rfl rfl rfl (by omega) ?_
  refine Wp_goto d_D_mostOf_17 ?_
  refine Wp_reti (ty := .int) d_D_mostOf_21 rfl rfl ?_
  exact ⟨rfl, rfl⟩
set_option maxRecDepth 100000 in
set_option maxHeartbeats 4000000 in
theorem t_D_leastOf (E : mE) (d : Nat) (hd : 1 ≤ d) (w : mw) (S : mw) (hV : VM S) (s : Nat) (hs : s < 2 ^ pN S) (h15 : w 15 s = enD (DC S s)) : Td E d m_D_leastOf [vr 12, vi (nI s)] w (dayR S s 0) w := by
  refine ⟨Nat.le_of_ble_eq_true rfl, ?_⟩
  show Wp E d m_D_leastOf 0 [lr 12, li (nI s), lo] [] w _
  have hp10 := (pN_ok S).1
  have h1024 := two10 hp10
  have hs10 : s < 1024 := by omega
  have hB := DC_okk hV hs
  refine Wp_aload_n d_D_leastOf_0 rfl ?_
  refine Wp_iload_n d_D_leastOf_1 rfl ?_
  refine Wp_ivv_d (o := 12) (As := [vi (nI s)]) d_D_leastOf_2 ln_D_89 mk_D_planOf rfl rfl rfl rfl rfl (by omega) (t_D_planOf E (d - 1) (by omega) w s hs10) ?_
  refine Wp_eqi (x2 := enD (DC S s)) h15 ?_
  refine Wp_istore_n (ls2 := [lr 12, li (nI s), li (enD (DC S s))]) d_D_leastOf_5 rfl rfl rfl ?_
  refine Wp_iload_n d_D_leastOf_6 rfl ?_
  refine Wp_ldc (x := 2147483647) d_D_leastOf_7 kc_D_67 ?_
  refine Wp_icmp_ne d_D_leastOf_9 (fun h9 => ?_) (fun h9 => ?_)
  ·
    have g9 : (DC S s).2.2.2 ≠ 0 := fun q => h9 ((enD_q hB).mpr q)
    refine Wp_iload_n d_D_leastOf_16 rfl ?_
    refine Wp_bipush (x := 14) d_D_leastOf_17 (by decide) ?_
    refine Wp_ishr d_D_leastOf_19 ?_
    refine Wp_eqi (x2 := nI (DC S s).1) (enD_14 hB g9) ?_
    refine Wp_reti (ty := .int) d_D_leastOf_20 rfl rfl ?_
    exact ⟨by rw [dayR0, if_neg g9], rfl⟩
  ·
    have g9 : (DC S s).2.2.2 = 0 := (enD_q hB).mp h9
    refine Wp_iconst (x := (-1)) d_D_leastOf_12 (by decide) ?_
    refine Wp_goto d_D_leastOf_13 ?_
    refine Wp_reti (ty := .int) d_D_leastOf_20 rfl rfl ?_
    exact ⟨by rw [dayR0, if_pos g9], rfl⟩
set_option maxRecDepth 100000 in
set_option maxHeartbeats 4000000 in
theorem t_D_boatsOf (E : mE) (d : Nat) (hd : 1 ≤ d) (w : mw) (S : mw) (hV : VM S) (s : Nat) (hs : s < 2 ^ pN S) (h15 : w 15 s = enD (DC S s)) : Td E d m_D_boatsOf [vr 12, vi (nI s)] w (dayR S s 1) w := by
  refine ⟨Nat.le_of_ble_eq_true rfl, ?_⟩
  show Wp E d m_D_boatsOf 0 [lr 12, li (nI s), lo] [] w _
  have hp10 := (pN_ok S).1
  have h1024 := two10 hp10
  have hs10 : s < 1024 := by omega
  have hB := DC_okk hV hs
  refine Wp_aload_n d_D_boatsOf_0 rfl ?_
  refine Wp_iload_n d_D_boatsOf_1 rfl ?_
  refine Wp_ivv_d (o := 12) (As := [vi (nI s)]) d_D_boatsOf_2 ln_D_89 mk_D_planOf rfl rfl rfl rfl rfl (by omega) (t_D_planOf E (d - 1) (by omega) w s hs10) ?_
  refine Wp_eqi (x2 := enD (DC S s)) h15 ?_
  refine Wp_istore_n (ls2 := [lr 12, li (nI s), li (enD (DC S s))]) d_D_boatsOf_5 rfl rfl rfl ?_
  refine Wp_iload_n d_D_boatsOf_6 rfl ?_
  refine Wp_ldc (x := 2147483647) d_D_boatsOf_7 kc_D_67 ?_
  refine Wp_icmp_ne d_D_boatsOf_9 (fun h9 => ?_) (fun h9 => ?_)
  ·
    have g9 : (DC S s).2.2.2 ≠ 0 := fun q => h9 ((enD_q hB).mpr q)
    refine Wp_iload_n d_D_boatsOf_16 rfl ?_
    refine Wp_bipush (x := 10) d_D_boatsOf_17 (by decide) ?_
    refine Wp_ishr d_D_boatsOf_19 ?_
    refine Wp_eqi (x2 := nI ((DC S s).1 * 16 + (DC S s).2.1)) (enD_10 hB g9) ?_
    refine Wp_bipush (x := 15) d_D_boatsOf_20 (by decide) ?_
    refine Wp_iand d_D_boatsOf_22 ?_
    refine Wp_eqi (x2 := nI (DC S s).2.1) (enD_15 hB g9) ?_
    refine Wp_reti (ty := .int) d_D_boatsOf_23 rfl rfl ?_
    exact ⟨by rw [dayR1, if_neg g9], rfl⟩
  ·
    have g9 : (DC S s).2.2.2 = 0 := (enD_q hB).mp h9
    refine Wp_iconst (x := (-1)) d_D_boatsOf_12 (by decide) ?_
    refine Wp_goto d_D_boatsOf_13 ?_
    refine Wp_reti (ty := .int) d_D_boatsOf_23 rfl rfl ?_
    exact ⟨by rw [dayR1, if_pos g9], rfl⟩
set_option maxRecDepth 100000 in
set_option maxHeartbeats 4000000 in
theorem t_D_firstBoatOf (E : mE) (d : Nat) (hd : 1 ≤ d) (w : mw) (S : mw) (hV : VM S) (s : Nat) (hs : s < 2 ^ pN S) (h15 : w 15 s = enD (DC S s)) : Td E d m_D_firstBoatOf [vr 12, vi (nI s)] w (nI (DC S s).2.2.1) w := by
  refine ⟨Nat.le_of_ble_eq_true rfl, ?_⟩
  show Wp E d m_D_firstBoatOf 0 [lr 12, li (nI s), lo] [] w _
  have hp10 := (pN_ok S).1
  have h1024 := two10 hp10
  have hs10 : s < 1024 := by omega
  have hB := DC_okk hV hs
  refine Wp_aload_n d_D_firstBoatOf_0 rfl ?_
  refine Wp_iload_n d_D_firstBoatOf_1 rfl ?_
  refine Wp_ivv_d (o := 12) (As := [vi (nI s)]) d_D_firstBoatOf_2 ln_D_89 mk_D_planOf rfl rfl rfl rfl rfl (by omega) (t_D_planOf E (d - 1) (by omega) w s hs10) ?_
  refine Wp_eqi (x2 := enD (DC S s)) h15 ?_
  refine Wp_istore_n (ls2 := [lr 12, li (nI s), li (enD (DC S s))]) d_D_firstBoatOf_5 rfl rfl rfl ?_
  refine Wp_iload_n d_D_firstBoatOf_6 rfl ?_
  refine Wp_ldc (x := 2147483647) d_D_firstBoatOf_7 kc_D_67 ?_
  refine Wp_icmp_ne d_D_firstBoatOf_9 (fun h9 => ?_) (fun h9 => ?_)
  ·
    have g9 : (DC S s).2.2.2 ≠ 0 := fun q => h9 ((enD_q hB).mpr q)
    refine Wp_iload_n d_D_firstBoatOf_16 rfl ?_
    refine Wp_sipush (x := 1023) d_D_firstBoatOf_17 (by decide) ?_
    refine Wp_iand d_D_firstBoatOf_20 ?_
    refine Wp_eqi (x2 := nI (DC S s).2.2.1) (enD_1023 hB g9) ?_
    refine Wp_reti (ty := .int) d_D_firstBoatOf_21 rfl rfl ?_
    exact ⟨rfl, rfl⟩
  ·
    have g9 : (DC S s).2.2.2 = 0 := (enD_q hB).mp h9
    refine Wp_iconst (x := 0) d_D_firstBoatOf_12 (by decide) ?_
    refine Wp_goto d_D_firstBoatOf_13 ?_
    refine Wp_reti (ty := .int) d_D_firstBoatOf_21 rfl rfl ?_
    exact ⟨by rw [hB.2.2.2.2 g9]; rfl, rfl⟩
set_option maxRecDepth 100000 in
set_option maxHeartbeats 4000000 in
theorem t_D_mayGo (E : mE) (d : Nat) (hd : 0 ≤ d) (w : mw) (S : mw) (hV : VM S) (b s : Nat) (hb0 : 0 < b) (hb : b < 2 ^ pN S) (hs : s < 1024) (h13 : w 13 b = (if okS S b = true then nI (costS S b) else -1)) (h14 : w 14 b = nI (needS S b)) : Tb E d m_D_mayGo [vr 12, vi (nI b), vi (nI s)] w (okB S s b) := by
  refine ⟨Nat.le_of_ble_eq_true rfl, ?_⟩
  show Wp E d m_D_mayGo 0 [lr 12, li (nI b), li (nI s)] [] w _
  have hp10 := (pN_ok S).1
  have h1024 := two10 hp10
  have hnl : needS S b &&& s ≤ s := Nat.and_le_right
  have hal := ann_le (needS S b &&& s) b
  refine Wp_iload_n d_D_mayGo_0 rfl ?_
  refine Wp_if_le d_D_mayGo_1 (fun q => absurd (n_le (b := 0) q (by omega) (by omega)) (by omega)) (fun h1 => ?_)
  refine Wp_iload_n d_D_mayGo_4 rfl ?_
  refine Wp_sipush (x := 1024) d_D_mayGo_5 (by decide) ?_
  refine Wp_icmp_ge d_D_mayGo_8 (fun q => absurd (n_le (a := 1024) q (by omega) (by omega)) (by omega)) (fun h8 => ?_)
  refine Wp_aload_n d_D_mayGo_11 rfl ?_
  refine Wp_getr d_D_mayGo_12 fd_D_11 rfl rfl rfl ?_
  refine Wp_iload_n d_D_mayGo_15 rfl ?_
  refine Wp_ialdN (j := b) d_D_mayGo_16 rfl rfl rfl rfl (by omega) ?_
  refine Wp_eqi (x2 := if okS S b = true then nI (costS S b) else -1) h13 ?_
  refine Wp_iconst (x := (-1)) d_D_mayGo_17 (by decide) ?_
  refine Wp_icmp_eq d_D_mayGo_18 (fun h18 => ?_) (fun h18 => ?_)
  ·
    have g18 : ¬ okS S b = true := fun q => by rw [if_pos q] at h18; exact nI_nm (show costS S b < 2147483648 by have := costS_le hV hb hb0; have := popc_le b; omega) h18
    refine Wp_iconst (x := 0) d_D_mayGo_40 (by decide) ?_
    refine Wp_reti (ty := .boolean) d_D_mayGo_41 rfl rfl ?_
    exact ⟨Or.inr ⟨rfl, fun q => by first | exact g18 q.1 | exact g33 q.2⟩, rfl⟩
  ·
    have g18 : okS S b = true := by
      apply Classical.byContradiction
      intro q
      rw [if_neg q] at h18
      exact h18 rfl
    refine Wp_aload_n d_D_mayGo_21 rfl ?_
    refine Wp_getr d_D_mayGo_22 fd_D_15 rfl rfl rfl ?_
    refine Wp_iload_n d_D_mayGo_25 rfl ?_
    refine Wp_ialdN (j := b) d_D_mayGo_26 rfl rfl rfl rfl (by omega) ?_
    refine Wp_eqi (x2 := nI (needS S b)) h14 ?_
    refine Wp_iload_n d_D_mayGo_27 rfl ?_
    refine Wp_iand d_D_mayGo_28 ?_
    refine Wp_eqi (x2 := nI ((needS S b) &&& s)) (nI_and (needS S b) s) ?_
    refine Wp_iload_n d_D_mayGo_29 rfl ?_
    refine Wp_iconst (x := (-1)) d_D_mayGo_30 (by decide) ?_
    refine Wp_ixor d_D_mayGo_31 ?_
    refine Wp_iand d_D_mayGo_32 ?_
    refine Wp_eqi (x2 := nI (ann ((needS S b) &&& s) b)) (anI ((needS S b) &&& s) b) ?_
    refine Wp_if_ne d_D_mayGo_33 (fun h33 => ?_) (fun h33 => ?_)
    ·
      have g33 : ann (needS S b &&& s) b ≠ 0 := n_ne h33 (by omega) (by omega)
      refine Wp_iconst (x := 0) d_D_mayGo_40 (by decide) ?_
      refine Wp_reti (ty := .boolean) d_D_mayGo_41 rfl rfl ?_
      exact ⟨Or.inr ⟨rfl, fun q => by first | exact g18 q.1 | exact g33 q.2⟩, rfl⟩
    ·
      have g33 : ann (needS S b &&& s) b = 0 := n_eq h33 (by omega) (by omega)
      refine Wp_iconst (x := 1) d_D_mayGo_36 (by decide) ?_
      refine Wp_goto d_D_mayGo_37 ?_
      refine Wp_reti (ty := .boolean) d_D_mayGo_41 rfl rfl ?_
      exact ⟨Or.inl ⟨rfl, ⟨g18, g33⟩⟩, rfl⟩
set_option maxRecDepth 100000 in
set_option maxHeartbeats 4000000 in
theorem t_D_nextPart (E : mE) (d : Nat) (hd : 0 ≤ d) (w : mw) (s k : Nat) (hs : s < 1024) (h0 : 0 < s) (hk : k ≤ lst s) : Td E d m_D_nextPart [vi (nI (prt (rst s) k)), vi (nI (rst s))] w (nI (prt (rst s) (k + 1))) w := by
  refine ⟨Nat.le_of_ble_eq_true rfl, ?_⟩
  show Wp E d m_D_nextPart 0 [li (nI (prt (rst s) k)), li (nI (rst s))] [] w _
  refine Wp_iload_n d_D_nextPart_0 rfl ?_
  refine Wp_iload_n d_D_nextPart_1 rfl ?_
  refine Wp_isub d_D_nextPart_2 ?_
  refine Wp_iload_n d_D_nextPart_3 rfl ?_
  refine Wp_iand d_D_nextPart_4 ?_
  refine Wp_eqi (x2 := nI (prt (rst s) (k + 1))) (sbs_good hs h0 hk).2.2.2.2.2.1 ?_
  refine Wp_reti (ty := .int) d_D_nextPart_5 rfl rfl ?_
  exact ⟨rfl, rfl⟩
set_option maxRecDepth 100000 in
set_option maxHeartbeats 4000000 in
theorem l_D_plan (E : mE) (d : Nat) (hd : 1 ≤ d) (w S : mw) (hV : VM S) (s : Nat) (hs : s < 2 ^ pN S) (h0 : 0 < s) (hB : CDb w S (2 ^ pN S)) (hT : ∀ k, k ≤ lst s → w 15 (ann s (sbs s k)) = enD (DC S (ann s (sbs s k))) ∧ w 16 (ann s (sbs s k)) = m1v (DC S (ann s (sbs s k))).2.2.2) : ∀ (j k : Nat) (u9 u10 u11 u12 : Option mv), k + j = lst s + 1 → Wp E d m_D_plan 42 [lr 12, li (nI s), li (nI (lob s)), li (nI (rst s)), li (nI (2 ^ popc (rst s))), li (enD (cmpn S s (DC S) s k)), li (m1v (cmpn S s (DC S) s k).2.2.2), li (nI (prt (rst s) k)), li (nI k), u9, u10, u11, u12] [] w (mPv (fun w1 => w1 = mU (mU w 15 s (enD (DC S s))) 16 s (m1v (DC S s).2.2.2))) := by
  intro j
  have hp10 := (pN_ok S).1
  have h1024 := two10 hp10
  have hl1 := lst_1 (s := s)
  have hlm : lst s + 1 ≤ 1024 := by rw [hl1]; exact two10 (popc_le _)
  induction j with
  | zero =>
    intro k u9 u10 u11 u12 hk
    have hkk : k = lst s + 1 := by omega
    subst hkk
    rw [hl1, ← hl1, ← DC_cmpn (by omega) h0]
    refine Wp_iload d_D_plan_42 rfl ?_
    refine Wp_iload d_D_plan_44 rfl ?_
    refine Wp_icmp_ge d_D_plan_46 (fun h46 => ?_) (fun q => absurd (n_nle q (by omega) (by omega)) (by omega))
    refine Wp_aload_n d_D_plan_162 rfl ?_
    refine Wp_getr d_D_plan_163 fd_D_18 rfl rfl rfl ?_
    refine Wp_iload_n d_D_plan_166 rfl ?_
    refine Wp_iload d_D_plan_167 rfl ?_
    refine Wp_iastN (j := s) d_D_plan_169 rfl rfl rfl rfl (by omega) ?_
    refine Wp_aload_n d_D_plan_170 rfl ?_
    refine Wp_getr d_D_plan_171 fd_D_21 rfl rfl rfl ?_
    refine Wp_iload_n d_D_plan_174 rfl ?_
    refine Wp_iload d_D_plan_175 rfl ?_
    refine Wp_iastN (j := s) d_D_plan_177 rfl rfl rfl rfl (by omega) ?_
    refine Wp_retv d_D_plan_178 rfl ?_
    exact rfl
  | succ j ih =>
    intro k u9 u10 u11 u12 hk
    obtain ⟨g1, g2, g3, g4, g5, g6, g7⟩ := sbs_good (s := s) (k := k) (by omega) h0 (by omega)
    obtain ⟨hT1, hT2⟩ := hT k (by omega)
    obtain ⟨hB1, hB2⟩ := hB (sbs s k) g4 (by omega)
    have hDk := DC_okk (S := S) hV (show ann s (sbs s k) < 2 ^ pN S by omega)
    have hc := costS_le hV (b := sbs s k) (by omega) g4
    have hpb := popc_le (sbs s k)
    have hxl : s ^^^ sbs s k < 1024 := by rw [← g3]; omega
    refine Wp_iload d_D_plan_42 rfl ?_
    refine Wp_iload d_D_plan_44 rfl ?_
    refine Wp_icmp_ge d_D_plan_46 (fun q => absurd (n_le q (by omega) (by omega)) (by omega)) (fun h46 => ?_)
    refine Wp_iload_n d_D_plan_49 rfl ?_
    refine Wp_iload d_D_plan_50 rfl ?_
    refine Wp_ior d_D_plan_52 ?_
    refine Wp_eqi (x2 := nI (sbs s k)) (nI_or _ _) ?_
    refine Wp_istore (ls2 := [lr 12, li (nI s), li (nI (lob s)), li (nI (rst s)), li (nI (2 ^ popc (rst s))), li (enD (cmpn S s (DC S) s k)), li (m1v (cmpn S s (DC S) s k).2.2.2), li (nI (prt (rst s) k)), li (nI k), li (nI (sbs s k)), u10, u11, u12]) d_D_plan_53 rfl rfl rfl ?_
    refine Wp_iload_n d_D_plan_55 rfl ?_
    refine Wp_iload d_D_plan_56 rfl ?_
    refine Wp_ixor d_D_plan_58 ?_
    refine Wp_eqi (x2 := nI (ann s (sbs s k))) (by rw [nI_xor, g3]) ?_
    refine Wp_istore (ls2 := [lr 12, li (nI s), li (nI (lob s)), li (nI (rst s)), li (nI (2 ^ popc (rst s))), li (enD (cmpn S s (DC S) s k)), li (m1v (cmpn S s (DC S) s k).2.2.2), li (nI (prt (rst s) k)), li (nI k), li (nI (sbs s k)), li (nI (ann s (sbs s k))), u11, u12]) d_D_plan_59 rfl rfl rfl ?_
    refine Wp_aload_n d_D_plan_61 rfl ?_
    refine Wp_iload d_D_plan_62 rfl ?_
    refine Wp_iload_n d_D_plan_64 rfl ?_
    refine Wp_ivv_b (o := 12) (As := [vi (nI (sbs s k)), vi (nI s)]) d_D_plan_65 ln_D_127 mk_D_mayGo rfl rfl rfl rfl rfl (by omega) (t_D_mayGo E (d - 1) (by omega) w S hV (sbs s k) s g4 (by omega) (by omega) hB1 hB2) (fun g65 => ?_) (fun g65 => ?_)
    ·
      refine Wp_if_eq d_D_plan_68 (fun q => absurd q (by decide)) (fun _ => ?_)
      refine Wp_aload_n d_D_plan_71 rfl ?_
      refine Wp_getr d_D_plan_72 fd_D_18 rfl rfl rfl ?_
      refine Wp_iload d_D_plan_75 rfl ?_
      refine Wp_ialdN (j := (ann s (sbs s k))) d_D_plan_77 rfl rfl rfl rfl (by omega) ?_
      refine Wp_eqi (x2 := enD (DC S (ann s (sbs s k)))) hT1 ?_
      refine Wp_ldc (x := 2147483647) d_D_plan_78 kc_D_67 ?_
      refine Wp_icmp_eq d_D_plan_80 (fun h80 => ?_) (fun h80 => ?_)
      ·
        have g80 : (DC S (ann s (sbs s k))).2.2.2 = 0 := (enD_q hDk).mp h80
        refine Wp_iload d_D_plan_148 rfl ?_
        refine Wp_iload_n d_D_plan_150 rfl ?_
        refine Wp_ivs_d (As := [vi (nI (prt (rst s) k)), vi (nI (rst s))]) d_D_plan_151 ln_D_131 mk_D_nextPart rfl rfl rfl (by omega) (t_D_nextPart E (d - 1) (by omega) w s k (by omega) h0 (by omega)) ?_
        refine Wp_istore (ls2 := [lr 12, li (nI s), li (nI (lob s)), li (nI (rst s)), li (nI (2 ^ popc (rst s))), li (enD (cmpn S s (DC S) s k)), li (m1v (cmpn S s (DC S) s k).2.2.2), li (nI (prt (rst s) (k + 1))), li (nI k), li (nI (sbs s k)), li (nI (ann s (sbs s k))), u11, u12]) d_D_plan_154 rfl rfl rfl ?_
        refine Wp_iinc (z := nI (k + 1)) (ls2 := [lr 12, li (nI s), li (nI (lob s)), li (nI (rst s)), li (nI (2 ^ popc (rst s))), li (enD (cmpn S s (DC S) s k)), li (m1v (cmpn S s (DC S) s k).2.2.2), li (nI (prt (rst s) (k + 1))), li (nI (k + 1)), li (nI (sbs s k)), li (nI (ann s (sbs s k))), u11, u12]) d_D_plan_156 rfl (nI_add k 1) rfl rfl rfl ?_
        refine Wp_goto d_D_plan_159 ?_
        have h9 := ih (k + 1) (li (nI (sbs s k))) (li (nI (ann s (sbs s k)))) u11 u12 (by omega)
        rw [pl_no (fun q => by first | exact g65 q.1 | exact q.2 g80)] at h9
        exact h9
      ·
        have g80 : (DC S (ann s (sbs s k))).2.2.2 ≠ 0 := fun q => h80 ((enD_q hDk).mpr q)
        have hy := pl_yes hV hs h0 (show k ≤ lst s by omega) g65 g80
        refine Wp_aload_n d_D_plan_83 rfl ?_
        refine Wp_getr d_D_plan_84 fd_D_18 rfl rfl rfl ?_
        refine Wp_iload d_D_plan_87 rfl ?_
        refine Wp_ialdN (j := (ann s (sbs s k))) d_D_plan_89 rfl rfl rfl rfl (by omega) ?_
        refine Wp_eqi (x2 := enD (DC S (ann s (sbs s k)))) hT1 ?_
        refine Wp_bipush (x := 10) d_D_plan_90 (by decide) ?_
        refine Wp_ishr d_D_plan_92 ?_
        refine Wp_eqi (x2 := nI ((DC S (ann s (sbs s k))).1 * 16 + (DC S (ann s (sbs s k))).2.1)) (enD_10 hDk g80) ?_
        refine Wp_istore (ls2 := [lr 12, li (nI s), li (nI (lob s)), li (nI (rst s)), li (nI (2 ^ popc (rst s))), li (enD (cmpn S s (DC S) s k)), li (m1v (cmpn S s (DC S) s k).2.2.2), li (nI (prt (rst s) k)), li (nI k), li (nI (sbs s k)), li (nI (ann s (sbs s k))), li (nI ((DC S (ann s (sbs s k))).1 * 16 + (DC S (ann s (sbs s k))).2.1)), u12]) d_D_plan_93 rfl rfl rfl ?_
        refine Wp_aload_n d_D_plan_95 rfl ?_
        refine Wp_getr d_D_plan_96 fd_D_11 rfl rfl rfl ?_
        refine Wp_iload d_D_plan_99 rfl ?_
        refine Wp_ialdN (j := (sbs s k)) d_D_plan_101 rfl rfl rfl rfl (by omega) ?_
        refine Wp_eqi (x2 := nI (costS S (sbs s k))) (hB1.trans (if_pos g65.1)) ?_
        refine Wp_iconst (x := 4) d_D_plan_102 (by decide) ?_
        refine Wp_ishl d_D_plan_103 ?_
        refine Wp_eqi (x2 := nI (costS S (sbs s k) * 16)) (shl4 (by omega)) ?_
        refine Wp_istore (ls2 := [lr 12, li (nI s), li (nI (lob s)), li (nI (rst s)), li (nI (2 ^ popc (rst s))), li (enD (cmpn S s (DC S) s k)), li (m1v (cmpn S s (DC S) s k).2.2.2), li (nI (prt (rst s) k)), li (nI k), li (nI (sbs s k)), li (nI (ann s (sbs s k))), li (nI ((DC S (ann s (sbs s k))).1 * 16 + (DC S (ann s (sbs s k))).2.1)), li (nI (costS S (sbs s k) * 16))]) d_D_plan_104 rfl rfl rfl ?_
        refine Wp_iload d_D_plan_106 rfl ?_
        refine Wp_iload d_D_plan_108 rfl ?_
        refine Wp_iload d_D_plan_110 rfl ?_
        refine Wp_iadd d_D_plan_112 ?_
        refine Wp_eqi (x2 := nI (((DC S (ann s (sbs s k))).1 * 16 + (DC S (ann s (sbs s k))).2.1) + (costS S (sbs s k) * 16))) (nI_add ((DC S (ann s (sbs s k))).1 * 16 + (DC S (ann s (sbs s k))).2.1) (costS S (sbs s k) * 16)) ?_
        refine Wp_iconst (x := 1) d_D_plan_113 (by decide) ?_
        refine Wp_iadd d_D_plan_114 ?_
        refine Wp_eqi (x2 := nI ((((DC S (ann s (sbs s k))).1 * 16 + (DC S (ann s (sbs s k))).2.1) + (costS S (sbs s k) * 16)) + 1)) (nI_add (((DC S (ann s (sbs s k))).1 * 16 + (DC S (ann s (sbs s k))).2.1) + (costS S (sbs s k) * 16)) 1) ?_
        refine Wp_bipush (x := 10) d_D_plan_115 (by decide) ?_
        refine Wp_ishl d_D_plan_117 ?_
        refine Wp_eqi (x2 := nI (((DC S (ann s (sbs s k))).1 * 16 + (DC S (ann s (sbs s k))).2.1 + costS S (sbs s k) * 16 + 1) * 1024)) (shl10 (by have := enc_lt hDk g80; omega)) ?_
        refine Wp_iload d_D_plan_118 rfl ?_
        refine Wp_ior d_D_plan_120 ?_
        refine Wp_eqi (x2 := nI ((((DC S (ann s (sbs s k))).1 * 16 + (DC S (ann s (sbs s k))).2.1 + costS S (sbs s k) * 16 + 1) * 1024) ||| (sbs s k))) (nI_or (((DC S (ann s (sbs s k))).1 * 16 + (DC S (ann s (sbs s k))).2.1 + costS S (sbs s k) * 16 + 1) * 1024) (sbs s k)) ?_
        refine Wp_min d_D_plan_121 ln_D_77 rfl (by omega) ?_
        refine Wp_eqi (x2 := enD (cmpn S s (DC S) s (k + 1))) hy.1 ?_
        refine Wp_istore (ls2 := [lr 12, li (nI s), li (nI (lob s)), li (nI (rst s)), li (nI (2 ^ popc (rst s))), li (enD (cmpn S s (DC S) s (k + 1))), li (m1v (cmpn S s (DC S) s k).2.2.2), li (nI (prt (rst s) k)), li (nI k), li (nI (sbs s k)), li (nI (ann s (sbs s k))), li (nI ((DC S (ann s (sbs s k))).1 * 16 + (DC S (ann s (sbs s k))).2.1)), li (nI (costS S (sbs s k) * 16))]) d_D_plan_124 rfl rfl rfl ?_
        refine Wp_iload d_D_plan_126 rfl ?_
        refine Wp_aload_n d_D_plan_128 rfl ?_
        refine Wp_getr d_D_plan_129 fd_D_11 rfl rfl rfl ?_
        refine Wp_iload d_D_plan_132 rfl ?_
        refine Wp_ialdN (j := (sbs s k)) d_D_plan_134 rfl rfl rfl rfl (by omega) ?_
        refine Wp_eqi (x2 := nI (costS S (sbs s k))) (hB1.trans (if_pos g65.1)) ?_
        refine Wp_aload_n d_D_plan_135 rfl ?_
        refine Wp_getr d_D_plan_136 fd_D_21 rfl rfl rfl ?_
        refine Wp_iload d_D_plan_139 rfl ?_
        refine Wp_ialdN (j := (ann s (sbs s k))) d_D_plan_141 rfl rfl rfl rfl (by omega) ?_
        refine Wp_eqi (x2 := nI ((DC S (ann s (sbs s k))).2.2.2 - 1)) (hT2.trans (m1v_s g80)) ?_
        refine Wp_iadd d_D_plan_142 ?_
        refine Wp_eqi (x2 := nI (costS S (sbs s k) + ((DC S (ann s (sbs s k))).2.2.2 - 1))) (nI_add _ _) ?_
        refine Wp_max d_D_plan_143 ln_D_71 rfl (by omega) ?_
        refine Wp_eqi (x2 := m1v (cmpn S s (DC S) s (k + 1)).2.2.2) hy.2 ?_
        refine Wp_istore (ls2 := [lr 12, li (nI s), li (nI (lob s)), li (nI (rst s)), li (nI (2 ^ popc (rst s))), li (enD (cmpn S s (DC S) s (k + 1))), li (m1v (cmpn S s (DC S) s (k + 1)).2.2.2), li (nI (prt (rst s) k)), li (nI k), li (nI (sbs s k)), li (nI (ann s (sbs s k))), li (nI ((DC S (ann s (sbs s k))).1 * 16 + (DC S (ann s (sbs s k))).2.1)), li (nI (costS S (sbs s k) * 16))]) d_D_plan_146 rfl rfl rfl ?_
        refine Wp_iload d_D_plan_148 rfl ?_
        refine Wp_iload_n d_D_plan_150 rfl ?_
        refine Wp_ivs_d (As := [vi (nI (prt (rst s) k)), vi (nI (rst s))]) d_D_plan_151 ln_D_131 mk_D_nextPart rfl rfl rfl (by omega) (t_D_nextPart E (d - 1) (by omega) w s k (by omega) h0 (by omega)) ?_
        refine Wp_istore (ls2 := [lr 12, li (nI s), li (nI (lob s)), li (nI (rst s)), li (nI (2 ^ popc (rst s))), li (enD (cmpn S s (DC S) s (k + 1))), li (m1v (cmpn S s (DC S) s (k + 1)).2.2.2), li (nI (prt (rst s) (k + 1))), li (nI k), li (nI (sbs s k)), li (nI (ann s (sbs s k))), li (nI ((DC S (ann s (sbs s k))).1 * 16 + (DC S (ann s (sbs s k))).2.1)), li (nI (costS S (sbs s k) * 16))]) d_D_plan_154 rfl rfl rfl ?_
        refine Wp_iinc (z := nI (k + 1)) (ls2 := [lr 12, li (nI s), li (nI (lob s)), li (nI (rst s)), li (nI (2 ^ popc (rst s))), li (enD (cmpn S s (DC S) s (k + 1))), li (m1v (cmpn S s (DC S) s (k + 1)).2.2.2), li (nI (prt (rst s) (k + 1))), li (nI (k + 1)), li (nI (sbs s k)), li (nI (ann s (sbs s k))), li (nI ((DC S (ann s (sbs s k))).1 * 16 + (DC S (ann s (sbs s k))).2.1)), li (nI (costS S (sbs s k) * 16))]) d_D_plan_156 rfl (nI_add k 1) rfl rfl rfl ?_
        refine Wp_goto d_D_plan_159 ?_
        exact ih (k + 1) _ _ _ _ (by omega)
    ·
      refine Wp_if_eq d_D_plan_68 (fun _ => ?_) (fun q => absurd (by decide) q)
      refine Wp_iload d_D_plan_148 rfl ?_
      refine Wp_iload_n d_D_plan_150 rfl ?_
      refine Wp_ivs_d (As := [vi (nI (prt (rst s) k)), vi (nI (rst s))]) d_D_plan_151 ln_D_131 mk_D_nextPart rfl rfl rfl (by omega) (t_D_nextPart E (d - 1) (by omega) w s k (by omega) h0 (by omega)) ?_
      refine Wp_istore (ls2 := [lr 12, li (nI s), li (nI (lob s)), li (nI (rst s)), li (nI (2 ^ popc (rst s))), li (enD (cmpn S s (DC S) s k)), li (m1v (cmpn S s (DC S) s k).2.2.2), li (nI (prt (rst s) (k + 1))), li (nI k), li (nI (sbs s k)), li (nI (ann s (sbs s k))), u11, u12]) d_D_plan_154 rfl rfl rfl ?_
      refine Wp_iinc (z := nI (k + 1)) (ls2 := [lr 12, li (nI s), li (nI (lob s)), li (nI (rst s)), li (nI (2 ^ popc (rst s))), li (enD (cmpn S s (DC S) s k)), li (m1v (cmpn S s (DC S) s k).2.2.2), li (nI (prt (rst s) (k + 1))), li (nI (k + 1)), li (nI (sbs s k)), li (nI (ann s (sbs s k))), u11, u12]) d_D_plan_156 rfl (nI_add k 1) rfl rfl rfl ?_
      refine Wp_goto d_D_plan_159 ?_
      have h9 := ih (k + 1) (li (nI (sbs s k))) (li (nI (ann s (sbs s k)))) u11 u12 (by omega)
      rw [pl_no (fun q => by first | exact g65 q.1 | exact q.2 g80)] at h9
      exact h9
set_option maxRecDepth 100000 in
set_option maxHeartbeats 4000000 in
theorem t_D_plan (E : mE) (d : Nat) (hd : 1 ≤ d) (w : mw) (S : mw) (hV : VM S) (s : Nat) (hs : s < 2 ^ pN S) (h0 : 0 < s) (hB : CDb w S (2 ^ pN S)) (hT : ∀ k, k ≤ lst s → w 15 (ann s (sbs s k)) = enD (DC S (ann s (sbs s k))) ∧ w 16 (ann s (sbs s k)) = m1v (DC S (ann s (sbs s k))).2.2.2) : Tdv E d m_D_plan [vr 12, vi (nI s)] w (mU (mU w 15 s (enD (DC S s))) 16 s (m1v (DC S s).2.2.2)) := by
  refine ⟨Nat.le_of_ble_eq_true rfl, ?_⟩
  show Wp E d m_D_plan 0 [lr 12, li (nI s), lo, lo, lo, lo, lo, lo, lo, lo, lo, lo, lo] [] w _
  have hp10 := (pN_ok S).1
  have h1024 := two10 hp10
  have hr := (xor_lob s (by omega) h0).2.2.2.1
  have hpl := popc_le (rst s)
  refine Wp_iload_n d_D_plan_0 rfl ?_
  refine Wp_if_le d_D_plan_1 (fun q => absurd (n_le (b := 0) q (by omega) (by omega)) (by omega)) (fun h1 => ?_)
  refine Wp_iload_n d_D_plan_4 rfl ?_
  refine Wp_sipush (x := 1024) d_D_plan_5 (by decide) ?_
  refine Wp_icmp_lt d_D_plan_8 (fun h8 => ?_) (fun q => absurd (n_nlt (b := 1024) q (by omega) (by omega)) (by omega))
  refine Wp_iload_n d_D_plan_12 rfl ?_
  refine Wp_ivs_d (As := [vi (nI s)]) d_D_plan_13 ln_D_42 mk_D_lowestBit rfl rfl rfl (by omega) (t_D_lowestBit E (d - 1) (by omega) w s (by omega) (by omega)) ?_
  refine Wp_istore_n (ls2 := [lr 12, li (nI s), li (nI (lob s)), lo, lo, lo, lo, lo, lo, lo, lo, lo, lo]) d_D_plan_16 rfl rfl rfl ?_
  refine Wp_iload_n d_D_plan_17 rfl ?_
  refine Wp_iload_n d_D_plan_18 rfl ?_
  refine Wp_ixor d_D_plan_19 ?_
  refine Wp_eqi (x2 := nI (rst s)) (by rw [nI_xor, (xor_lob s (by omega) h0).1]) ?_
  refine Wp_istore_n (ls2 := [lr 12, li (nI s), li (nI (lob s)), li (nI (rst s)), lo, lo, lo, lo, lo, lo, lo, lo, lo]) d_D_plan_20 rfl rfl rfl ?_
  refine Wp_iconst (x := 1) d_D_plan_21 (by decide) ?_
  refine Wp_iload_n d_D_plan_22 rfl ?_
  refine Wp_ivs_d (As := [vi (nI (rst s))]) d_D_plan_23 ln_D_46 mk_J_bitCount rfl rfl rfl (by omega) (t_J_bitCount E (d - 1) (by omega) w (rst s) (by omega)) ?_
  refine Wp_ishl d_D_plan_26 ?_
  refine Wp_eqi (x2 := nI (2 ^ (popc (rst s)))) (sh1 (by omega)) ?_
  refine Wp_istore (ls2 := [lr 12, li (nI s), li (nI (lob s)), li (nI (rst s)), li (nI (2 ^ (popc (rst s)))), lo, lo, lo, lo, lo, lo, lo, lo]) d_D_plan_27 rfl rfl rfl ?_
  refine Wp_ldc (x := 2147483647) d_D_plan_29 kc_D_67 ?_
  refine Wp_istore (ls2 := [lr 12, li (nI s), li (nI (lob s)), li (nI (rst s)), li (nI (2 ^ (popc (rst s)))), li 2147483647, lo, lo, lo, lo, lo, lo, lo]) d_D_plan_31 rfl rfl rfl ?_
  refine Wp_iconst (x := (-1)) d_D_plan_33 (by decide) ?_
  refine Wp_istore (ls2 := [lr 12, li (nI s), li (nI (lob s)), li (nI (rst s)), li (nI (2 ^ (popc (rst s)))), li 2147483647, li (-1), lo, lo, lo, lo, lo, lo]) d_D_plan_34 rfl rfl rfl ?_
  refine Wp_iconst (x := 0) d_D_plan_36 (by decide) ?_
  refine Wp_istore (ls2 := [lr 12, li (nI s), li (nI (lob s)), li (nI (rst s)), li (nI (2 ^ (popc (rst s)))), li 2147483647, li (-1), li 0, lo, lo, lo, lo, lo]) d_D_plan_37 rfl rfl rfl ?_
  refine Wp_iconst (x := 0) d_D_plan_39 (by decide) ?_
  refine Wp_istore (ls2 := [lr 12, li (nI s), li (nI (lob s)), li (nI (rst s)), li (nI (2 ^ (popc (rst s)))), li 2147483647, li (-1), li 0, li 0, lo, lo, lo, lo]) d_D_plan_40 rfl rfl rfl ?_
  exact l_D_plan E d (by omega) w S hV s hs h0 hB hT (lst s + 1) 0 _ _ _ _ (Nat.zero_add _)
