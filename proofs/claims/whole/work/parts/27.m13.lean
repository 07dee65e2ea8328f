set_option maxRecDepth 100000 in
set_option maxHeartbeats 4000000 in
theorem l_M_lo1 (E : mE) (d : Nat) (hd : 3 ≤ d) (w0 S : mw) (x : Int32) (Q : Option mv → mw → Prop) (hQ : ∀ w, fr [58] w0 w → (∀ i, i < 10 → w 58 i = 0) → Wp E d m_M_lotOf 31 [lr 33, li x, li x, li (nI (wh S)), li (nI 10), lo, lo] [] w Q) : ∀ (i k : Nat) (w : mw), k + i = 10 → fr [58] w0 w → (∀ j, j < k → w 58 j = 0) → Wp E d m_M_lotOf 10 [lr 33, li x, li x, li (nI (wh S)), li (nI k), lo, lo] [] w Q := by
  intro i
  induction i with
  | zero =>
    intro k w hk hf hz
    have hin : k = 10 := by omega
    subst hin
    refine Wp_iload d_M_lotOf_10 rfl ?_
    refine Wp_bipush (x := 10) d_M_lotOf_12 (by decide) ?_
    refine Wp_icmp_ge d_M_lotOf_14 (fun h14 => ?_) (fun q => absurd (n_nle (a := 10) q (by omega) (by omega)) (by omega))
    exact hQ w hf hz
  | succ i ih =>
    intro k w hk hf hz
    refine Wp_iload d_M_lotOf_10 rfl ?_
    refine Wp_bipush (x := 10) d_M_lotOf_12 (by decide) ?_
    refine Wp_icmp_ge d_M_lotOf_14 (fun q => absurd (n_le (a := 10) q (by omega) (by omega)) (by omega)) (fun h14 => ?_)
    refine Wp_aload_n d_M_lotOf_17 rfl ?_
    refine Wp_getr d_M_lotOf_18 fd_M_83 rfl rfl rfl ?_
    refine Wp_iload d_M_lotOf_21 rfl ?_
    refine Wp_iconst (x := 0) d_M_lotOf_23 (by decide) ?_
    refine Wp_iastN (j := k) d_M_lotOf_24 rfl rfl rfl rfl (by omega) ?_
    refine Wp_iinc (z := nI (k + 1)) (ls2 := [lr 33, li x, li x, li (nI (wh S)), li (nI (k + 1)), lo, lo]) d_M_lotOf_25 rfl (nI_add k 1) rfl rfl rfl ?_
    refine Wp_goto d_M_lotOf_28 ?_
    refine ih (k + 1) _ (by omega) (fr_U2 hf (by decide)) (fun j hj => ?_)
    rw [mU_k]
    split
    · rfl
    · exact hz j (by omega)
set_option maxRecDepth 100000 in
set_option maxHeartbeats 4000000 in
theorem l_M_lo2 (E : mE) (d : Nat) (hd : 3 ≤ d) (w : mw) (x y : Int32) (L k : Nat) (hL : L < 1024) (Q : Option mv → mw → Prop) : ∀ (f j r : Nat), j + f = 10 → r < 10 → nthB L f j r < 10 → (∀ r2 : Int32, Wp E d m_M_lotOf 109 [lr 33, li x, li y, li (nI L), li (nI k), li r2, li (nI (nthB L f j r))] [] w Q) → Wp E d m_M_lotOf 70 [lr 33, li x, li y, li (nI L), li (nI k), li (nI r), li (nI j)] [] w Q := by
  intro f
  induction f with
  | zero =>
    intro j r hj hr hn
    have hn2 : j < 10 := hn
    omega
  | succ f ih =>
    intro j r hj hr hn hQ
    refine Wp_iload_n d_M_lotOf_70 rfl ?_
    refine Wp_iload d_M_lotOf_71 rfl ?_
    refine Wp_ivs_b (As := [vi (nI L), vi (nI j)]) d_M_lotOf_73 ln_M_177 mk_M_isIn rfl rfl rfl (by omega) (t_M_isIn E (d - 1) (by omega) w L j (by omega) (by omega)) (fun g73 => ?_) (fun g73 => ?_)
    ·
      refine Wp_if_eq d_M_lotOf_76 (fun q => absurd q (by decide)) (fun _ => ?_)
      refine Wp_iload d_M_lotOf_79 rfl ?_
      refine Wp_if_le d_M_lotOf_81 (fun h81 => ?_) (fun h81 => ?_)
      ·
        have g81 : r ≤ 0 := n_le h81 (by omega) (by omega)
        have e9 : nthB L (f + 1) j r = j := by rw [nthB, if_pos g73, if_pos (by omega)]
        have h9 := hQ (nI r)
        rw [e9] at h9
        exact h9
      ·
        have g81 : 0 < r := n_nle h81 (by omega) (by omega)
        refine Wp_iload d_M_lotOf_84 rfl ?_
        refine Wp_iload_n d_M_lotOf_86 rfl ?_
        refine Wp_iload d_M_lotOf_87 rfl ?_
        refine Wp_ivs_b (As := [vi (nI L), vi (nI j)]) d_M_lotOf_89 ln_M_177 mk_M_isIn rfl rfl rfl (by omega) (t_M_isIn E (d - 1) (by omega) w L j (by omega) (by omega)) (fun g89 => ?_) (fun g89 => ?_)
        ·
          refine Wp_if_eq d_M_lotOf_92 (fun q => absurd q (by decide)) (fun _ => ?_)
          refine Wp_iconst (x := 1) d_M_lotOf_95 (by decide) ?_
          refine Wp_goto d_M_lotOf_96 ?_
          refine Wp_isub d_M_lotOf_100 ?_
          refine Wp_eqi (x2 := nI (r - 1)) (pk_sub (a := r) (b := 1) (by omega)) ?_
          refine Wp_istore (ls2 := [lr 33, li x, li y, li (nI L), li (nI k), li (nI (r - 1)), li (nI j)]) d_M_lotOf_101 rfl rfl rfl ?_
          refine Wp_iinc (z := nI (j + 1)) (ls2 := [lr 33, li x, li y, li (nI L), li (nI k), li (nI (r - 1)), li (nI (j + 1))]) d_M_lotOf_103 rfl (nI_add j 1) rfl rfl rfl ?_
          refine Wp_goto d_M_lotOf_106 ?_
          have e9 : nthB L (f + 1) j r = nthB L f (j + 1) (r - 1) := by rw [nthB, if_pos g73, if_neg (by omega)]
          rw [e9] at hn hQ
          exact ih (j + 1) (r - 1) (by omega) (by omega) hn hQ
        ·
          exact absurd g73 g89
    ·
      refine Wp_if_eq d_M_lotOf_76 (fun _ => ?_) (fun q => absurd (by decide) q)
      refine Wp_iload d_M_lotOf_84 rfl ?_
      refine Wp_iload_n d_M_lotOf_86 rfl ?_
      refine Wp_iload d_M_lotOf_87 rfl ?_
      refine Wp_ivs_b (As := [vi (nI L), vi (nI j)]) d_M_lotOf_89 ln_M_177 mk_M_isIn rfl rfl rfl (by omega) (t_M_isIn E (d - 1) (by omega) w L j (by omega) (by omega)) (fun g89 => ?_) (fun g89 => ?_)
      ·
        exact absurd g89 g73
      ·
        refine Wp_if_eq d_M_lotOf_92 (fun _ => ?_) (fun q => absurd (by decide) q)
        refine Wp_iconst (x := 0) d_M_lotOf_99 (by decide) ?_
        refine Wp_isub d_M_lotOf_100 ?_
        refine Wp_eqi (x2 := nI r) (pk_sub (a := r) (b := 0) (by omega)) ?_
        refine Wp_istore (ls2 := [lr 33, li x, li y, li (nI L), li (nI k), li (nI r), li (nI j)]) d_M_lotOf_101 rfl rfl rfl ?_
        refine Wp_iinc (z := nI (j + 1)) (ls2 := [lr 33, li x, li y, li (nI L), li (nI k), li (nI r), li (nI (j + 1))]) d_M_lotOf_103 rfl (nI_add j 1) rfl rfl rfl ?_
        refine Wp_goto d_M_lotOf_106 ?_
        have e9 : nthB L (f + 1) j r = nthB L f (j + 1) r := by rw [nthB, if_neg g73]
        rw [e9] at hn hQ
        exact ih (j + 1) r (by omega) hr hn hQ
set_option maxRecDepth 100000 in
set_option maxHeartbeats 4000000 in
theorem l_M_lo3 (E : mE) (d : Nat) (hd : 3 ≤ d) (w0 S : mw) (hM0 : MP w0 S) (hV : VM S) (x : Int32) (Q : Option mv → mw → Prop) (hQ : ∀ w u1 u2 l3 u5 u6, fr [58] w0 w → (∀ i, i < 10 → w 58 i = nI ((lotS S x (pN S)).2 i)) → Wp E d m_M_lotOf 145 [lr 33, u1, u2, li l3, li (nI (pN S)), u5, u6] [] w Q) : ∀ (i k : Nat) (w : mw) (u5 u6 : Option mv), k + i = pN S → fr [58] w0 w → (∀ i, i < 10 → w 58 i = nI ((lotS S x k).2 i)) → Wp E d m_M_lotOf 34 [lr 33, li x, li (lotX x k), li (nI (lotS S x k).1), li (nI k), u5, u6] [] w Q := by
  intro i
  have hp10 := (pN_ok S).1
  induction i with
  | zero =>
    intro k w u5 u6 hk hf hd2
    have hin : k = pN S := by omega
    have hM : MP w S := MP_fr hM0 hf (by decide)
    refine Wp_iload d_M_lotOf_34 rfl ?_
    refine Wp_aload_n d_M_lotOf_36 rfl ?_
    refine Wp_getf d_M_lotOf_37 fd_M_125 rfl rfl rfl ?_
    refine Wp_eqi (x2 := nI (pN S)) hM.2.1 ?_
    refine Wp_icmp_ge d_M_lotOf_40 (fun h40 => ?_) (fun q => absurd (n_nle q (by omega) (by omega)) (by omega))
    rw [hin]
    exact hQ w _ _ _ u5 u6 hf (by rw [← hin]; exact hd2)
  | succ i ih =>
    intro k w u5 u6 hk hf hd2
    have hM : MP w S := MP_fr hM0 hf (by decide)
    obtain ⟨hs0, hs0b⟩ := (VM_set hV).1 0 (by omega)
    have hs1 := (VM_set hV).2
    have hs4 : sSet S 0 ≤ 4 := hs0b
    have hH := lotH_lt x k
    obtain ⟨l1, l2, l3⟩ := lotS_ok (S := S) (x := x) k (by omega)
    have hr := Nat.mod_lt (lotH x k) (show 0 < pN S - k by omega)
    have hJ : nthB (lotS S x k).1 10 0 (lotH x k % (pN S - k)) < 10 := lotJ_ok (by omega)
    have hJ2 : lotJ S x k < 10 := hJ
    have hjs : lotJ S x k / sSet S 0 < 10 := Nat.lt_of_le_of_lt (Nat.div_le_self _ _) hJ2
    refine Wp_iload d_M_lotOf_34 rfl ?_
    refine Wp_aload_n d_M_lotOf_36 rfl ?_
    refine Wp_getf d_M_lotOf_37 fd_M_125 rfl rfl rfl ?_
    refine Wp_eqi (x2 := nI (pN S)) hM.2.1 ?_
    refine Wp_icmp_ge d_M_lotOf_40 (fun q => absurd (n_le q (by omega) (by omega)) (by omega)) (fun h40 => ?_)
    refine Wp_ldcw (x := 1103515245) d_M_lotOf_43 kc_M_272 ?_
    refine Wp_iload_n d_M_lotOf_46 rfl ?_
    refine Wp_imul d_M_lotOf_47 ?_
    refine Wp_sipush (x := 12345) d_M_lotOf_48 (by decide) ?_
    refine Wp_iadd d_M_lotOf_51 ?_
    refine Wp_eqi (x2 := lotX x (k + 1)) rfl ?_
    refine Wp_istore_n (ls2 := [lr 33, li x, li (lotX x (k + 1)), li (nI (lotS S x k).1), li (nI k), u5, u6]) d_M_lotOf_52 rfl rfl rfl ?_
    refine Wp_iload_n d_M_lotOf_53 rfl ?_
    refine Wp_bipush (x := 16) d_M_lotOf_54 (by decide) ?_
    refine Wp_iushr d_M_lotOf_56 ?_
    refine Wp_eqi (x2 := nI (lotH x k)) (ushr16 (lotX x (k + 1))) ?_
    refine Wp_aload_n d_M_lotOf_57 rfl ?_
    refine Wp_getf d_M_lotOf_58 fd_M_125 rfl rfl rfl ?_
    refine Wp_eqi (x2 := nI (pN S)) hM.2.1 ?_
    refine Wp_iload d_M_lotOf_61 rfl ?_
    refine Wp_isub d_M_lotOf_63 ?_
    refine Wp_eqi (x2 := nI (pN S - k)) (pk_sub (by omega)) ?_
    refine Wp_irem d_M_lotOf_64 (fun q => absurd (n_eq (b := 0) q (by omega) (by omega)) (by omega)) ?_
    refine Wp_eqi (x2 := nI (lotH x k % (pN S - k))) (pk_rem (by omega) (by omega) (by omega)) ?_
    refine Wp_istore (ls2 := [lr 33, li x, li (lotX x (k + 1)), li (nI (lotS S x k).1), li (nI k), li (nI (lotH x k % (pN S - k))), u6]) d_M_lotOf_65 rfl rfl rfl ?_
    refine Wp_iconst (x := 0) d_M_lotOf_67 (by decide) ?_
    refine Wp_istore (ls2 := [lr 33, li x, li (lotX x (k + 1)), li (nI (lotS S x k).1), li (nI k), li (nI (lotH x k % (pN S - k))), li 0]) d_M_lotOf_68 rfl rfl rfl ?_
    refine l_M_lo2 E d (by omega) w x (lotX x (k + 1)) (lotS S x k).1 k l2 _ 10 0 (lotH x k % (pN S - k)) rfl (by omega) hJ (fun r2 => ?_)
    show Wp E d m_M_lotOf 109 [lr 33, li x, li (lotX x (k + 1)), li (nI (lotS S x k).1), li (nI k), li r2, li (nI (lotJ S x k))] [] w _
    refine Wp_iload_n d_M_lotOf_109 rfl ?_
    refine Wp_iconst (x := 1) d_M_lotOf_110 (by decide) ?_
    refine Wp_iload d_M_lotOf_111 rfl ?_
    refine Wp_ishl d_M_lotOf_113 ?_
    refine Wp_eqi (x2 := nI (2 ^ (lotJ S x k))) (sh1 (by omega)) ?_
    refine Wp_iconst (x := (-1)) d_M_lotOf_114 (by decide) ?_
    refine Wp_ixor d_M_lotOf_115 ?_
    refine Wp_iand d_M_lotOf_116 ?_
    refine Wp_eqi (x2 := nI (ann (lotS S x k).1 (2 ^ (lotJ S x k)))) (anI (lotS S x k).1 (2 ^ (lotJ S x k))) ?_
    refine Wp_istore_n (ls2 := [lr 33, li x, li (lotX x (k + 1)), li (nI (ann (lotS S x k).1 (2 ^ (lotJ S x k)))), li (nI k), li r2, li (nI (lotJ S x k))]) d_M_lotOf_117 rfl rfl rfl ?_
    refine Wp_aload_n d_M_lotOf_118 rfl ?_
    refine Wp_getr d_M_lotOf_119 fd_M_83 rfl rfl rfl ?_
    refine Wp_iload d_M_lotOf_122 rfl ?_
    refine Wp_aload_n d_M_lotOf_124 rfl ?_
    refine Wp_getr d_M_lotOf_125 fd_M_37 rfl rfl rfl ?_
    refine Wp_iconst (x := 0) d_M_lotOf_128 (by decide) ?_
    refine Wp_ialdN (j := 0) d_M_lotOf_129 rfl rfl rfl rfl (by decide) ?_
    refine Wp_eqi (x2 := S 43 0) (congrFun (hM.1.r 43) _) ?_
    refine Wp_eqi (x2 := nI (sSet S 0)) ((VM_set hV).1 _ (by omega)).1 ?_
    refine Wp_idiv d_M_lotOf_130 (fun q => absurd (n_eq (b := 0) q (by omega) (by omega)) (by omega)) ?_
    refine Wp_eqi (x2 := nI (lotJ S x k / sSet S 0)) (pk_div (by omega) (by omega) (by omega)) ?_
    refine Wp_dup2 d_M_lotOf_131 rfl rfl ?_
    refine Wp_ialdN (j := (lotJ S x k / sSet S 0)) d_M_lotOf_132 rfl rfl rfl rfl (by omega) ?_
    refine Wp_eqi (x2 := nI ((lotS S x k).2 (lotJ S x k / sSet S 0))) (hd2 _ hjs) ?_
    refine Wp_iconst (x := 1) d_M_lotOf_133 (by decide) ?_
    refine Wp_iload d_M_lotOf_134 rfl ?_
    refine Wp_ishl d_M_lotOf_136 ?_
    refine Wp_eqi (x2 := nI (2 ^ k)) (sh1 (by omega)) ?_
    refine Wp_ior d_M_lotOf_137 ?_
    refine Wp_eqi (x2 := nI (((lotS S x k).2 (lotJ S x k / sSet S 0)) ||| (2 ^ k))) (nI_or ((lotS S x k).2 (lotJ S x k / sSet S 0)) (2 ^ k)) ?_
    refine Wp_iastN (j := (lotJ S x k / sSet S 0)) d_M_lotOf_138 rfl rfl rfl rfl (by omega) ?_
    refine Wp_iinc (z := nI (k + 1)) (ls2 := [lr 33, li x, li (lotX x (k + 1)), li (nI (ann (lotS S x k).1 (2 ^ (lotJ S x k)))), li (nI (k + 1)), li r2, li (nI (lotJ S x k))]) d_M_lotOf_139 rfl (nI_add k 1) rfl rfl rfl ?_
    refine Wp_goto d_M_lotOf_142 ?_
    refine ih (k + 1) _ _ _ (by omega) (fr_U2 hf (by decide)) (fun i hi => ?_)
    rw [mU_k]
    show _ = nI (if i = lotJ S x k / sSet S 0 then (lotS S x k).2 i ||| 2 ^ k else (lotS S x k).2 i)
    split
    · next e => rw [e]
    · exact hd2 i hi
set_option maxRecDepth 100000 in
set_option maxHeartbeats 4000000 in
theorem l_M_lo4 (E : mE) (d : Nat) (hd : 3 ≤ d) (w S : mw) (hM : MP w S) (hV : VM S) (x : Int32) (hd2 : ∀ i, i < 10 → w 58 i = nI ((lotS S x (pN S)).2 i)) (u1 u2 u6 : Option mv) (l3 : Int32) : ∀ (j i : Nat), i + j = 10 → Wp E d m_M_lotOf 151 [lr 33, u1, u2, li l3, li (nI (lotC S x i)), li (nI i), u6] [] w (mPi (fun r w1 => r = lotV S x ∧ w1 = w)) := by
  intro j
  have hp10 := (pN_ok S).1
  have hlt := two10 hp10
  induction j with
  | zero =>
    intro i hi
    have hin : i = 10 := by omega
    subst hin
    refine Wp_iload d_M_lotOf_151 rfl ?_
    refine Wp_bipush (x := 10) d_M_lotOf_153 (by decide) ?_
    refine Wp_icmp_ge d_M_lotOf_155 (fun h155 => ?_) (fun q => absurd (n_nle (a := 10) q (by omega) (by omega)) (by omega))
    refine Wp_iload d_M_lotOf_194 rfl ?_
    refine Wp_reti (ty := .int) d_M_lotOf_196 rfl rfl ?_
    exact ⟨rfl, rfl⟩
  | succ j ih =>
    intro i hi
    have hb := (lotS_ok (S := S) (x := x) (pN S) (Nat.le_refl _)).2.2 i
    have hc := lotC_le hV x i (by omega)
    refine Wp_iload d_M_lotOf_151 rfl ?_
    refine Wp_bipush (x := 10) d_M_lotOf_153 (by decide) ?_
    refine Wp_icmp_ge d_M_lotOf_155 (fun q => absurd (n_le (a := 10) q (by omega) (by omega)) (by omega)) (fun h155 => ?_)
    refine Wp_iload d_M_lotOf_158 rfl ?_
    refine Wp_aload_n d_M_lotOf_160 rfl ?_
    refine Wp_getr d_M_lotOf_161 fd_M_83 rfl rfl rfl ?_
    refine Wp_iload d_M_lotOf_164 rfl ?_
    refine Wp_ialdN (j := i) d_M_lotOf_166 rfl rfl rfl rfl (by omega) ?_
    refine Wp_eqi (x2 := nI ((lotS S x (pN S)).2 i)) (hd2 i (by omega)) ?_
    refine Wp_if_ne d_M_lotOf_167 (fun h167 => ?_) (fun h167 => ?_)
    ·
      have g167 : ((lotS S x (pN S)).2 i) ≠ 0 := n_ne h167 (by omega) (by omega)
      refine Wp_aload_n d_M_lotOf_174 rfl ?_
      refine Wp_aload_n d_M_lotOf_175 rfl ?_
      refine Wp_getr d_M_lotOf_176 fd_M_83 rfl rfl rfl ?_
      refine Wp_iload d_M_lotOf_179 rfl ?_
      refine Wp_ialdN (j := i) d_M_lotOf_181 rfl rfl rfl rfl (by omega) ?_
      refine Wp_eqi (x2 := nI ((lotS S x (pN S)).2 i)) (hd2 i (by omega)) ?_
      refine Wp_ivv_d (o := 33) (As := [vi (nI ((lotS S x (pN S)).2 i))]) d_M_lotOf_182 ln_M_190 mk_M_costOf rfl rfl rfl rfl rfl (by omega) (t_M_costOf E (d - 1) (by omega) w S hM hV ((lotS S x (pN S)).2 i) (by omega) (by omega)) ?_
      refine Wp_iadd d_M_lotOf_185 ?_
      refine Wp_eqi (x2 := nI ((lotC S x i) + (costS S ((lotS S x (pN S)).2 i)))) (nI_add (lotC S x i) (costS S ((lotS S x (pN S)).2 i))) ?_
      refine Wp_istore (ls2 := [lr 33, u1, u2, li l3, li (nI ((lotC S x i) + (costS S ((lotS S x (pN S)).2 i)))), li (nI i), u6]) d_M_lotOf_186 rfl rfl rfl ?_
      refine Wp_iinc (z := nI (i + 1)) (ls2 := [lr 33, u1, u2, li l3, li (nI ((lotC S x i) + (costS S ((lotS S x (pN S)).2 i)))), li (nI (i + 1)), u6]) d_M_lotOf_188 rfl (nI_add i 1) rfl rfl rfl ?_
      refine Wp_goto d_M_lotOf_191 ?_
      have e9 : lotC S x (i + 1) = lotC S x i + costS S ((lotS S x (pN S)).2 i) := by rw [lotC, if_neg g167]
      have h9 := ih (i + 1) (by omega)
      rw [e9] at h9
      exact h9
    ·
      have g167 : ((lotS S x (pN S)).2 i) = 0 := n_eq h167 (by omega) (by omega)
      refine Wp_iconst (x := 0) d_M_lotOf_170 (by decide) ?_
      refine Wp_goto d_M_lotOf_171 ?_
      refine Wp_iadd d_M_lotOf_185 ?_
      refine Wp_eqi (x2 := nI ((lotC S x i) + 0)) (nI_add (lotC S x i) 0) ?_
      refine Wp_istore (ls2 := [lr 33, u1, u2, li l3, li (nI ((lotC S x i) + 0)), li (nI i), u6]) d_M_lotOf_186 rfl rfl rfl ?_
      refine Wp_iinc (z := nI (i + 1)) (ls2 := [lr 33, u1, u2, li l3, li (nI ((lotC S x i) + 0)), li (nI (i + 1)), u6]) d_M_lotOf_188 rfl (nI_add i 1) rfl rfl rfl ?_
      refine Wp_goto d_M_lotOf_191 ?_
      have e9 : lotC S x (i + 1) = lotC S x i := by rw [lotC, if_pos g167]
      have h9 := ih (i + 1) (by omega)
      rw [e9] at h9
      exact h9
set_option maxRecDepth 100000 in
set_option maxHeartbeats 4000000 in
theorem t_M_lotOf (E : mE) (d : Nat) (hd : 3 ≤ d) (w : mw) (S : mw) (hM : MP w S) (hV : VM S) (x : Int32) : Ti E d m_M_lotOf [vr 33, vi x] w (fun r w1 => r = lotV S x ∧ fr [58] w w1) := by
  refine ⟨Nat.le_of_ble_eq_true rfl, ?_⟩
  show Wp E d m_M_lotOf 0 [lr 33, li x, lo, lo, lo, lo, lo] [] w _
  have hp10 := (pN_ok S).1
  have hlt := two10 hp10
  have hwl := wh_lt S
  have hwe := wh_1 S
  refine Wp_iload_n d_M_lotOf_0 rfl ?_
  refine Wp_istore_n (ls2 := [lr 33, li x, li x, lo, lo, lo, lo]) d_M_lotOf_1 rfl rfl rfl ?_
  refine Wp_aload_n d_M_lotOf_2 rfl ?_
  refine Wp_ivv_d (o := 33) (As := []) d_M_lotOf_3 ln_M_184 mk_M_whole rfl rfl rfl rfl rfl (by omega) (t_M_whole E (d - 1) (by omega) w S hM hV) ?_
  refine Wp_istore_n (ls2 := [lr 33, li x, li x, li (nI (wh S)), lo, lo, lo]) d_M_lotOf_6 rfl rfl rfl ?_
  refine Wp_iconst (x := 0) d_M_lotOf_7 (by decide) ?_
  refine Wp_istore (ls2 := [lr 33, li x, li x, li (nI (wh S)), li 0, lo, lo]) d_M_lotOf_8 rfl rfl rfl ?_
  refine l_M_lo1 E d (by omega) w S x _ (fun w2 f2 z2 => ?_) 10 0 w rfl fr_rf (fun j hj => absurd hj (Nat.not_lt_zero _))
  have hM2 : MP w2 S := MP_fr hM f2 (by decide)
  refine Wp_iconst (x := 0) d_M_lotOf_31 (by decide) ?_
  refine Wp_istore (ls2 := [lr 33, li x, li x, li (nI (wh S)), li 0, lo, lo]) d_M_lotOf_32 rfl rfl rfl ?_
  refine l_M_lo3 E d (by omega) w S hM hV x _ (fun w3 u1 u2 l3 u5 u6 f3 d3 => ?_) (pN S) 0 w2 none none (Nat.zero_add _) f2 z2
  have hM3 : MP w3 S := MP_fr hM f3 (by decide)
  refine Wp_iconst (x := 0) d_M_lotOf_145 (by decide) ?_
  refine Wp_istore (ls2 := [lr 33, u1, u2, li l3, li 0, u5, u6]) d_M_lotOf_146 rfl rfl rfl ?_
  refine Wp_iconst (x := 0) d_M_lotOf_148 (by decide) ?_
  refine Wp_istore (ls2 := [lr 33, u1, u2, li l3, li 0, li 0, u6]) d_M_lotOf_149 rfl rfl rfl ?_
  refine Wp_mi (l_M_lo4 E d (by omega) w3 S hM3 hV x d3 u1 u2 u6 l3 10 0 rfl) (fun r w1 h => ⟨h.1, by rw [h.2]; exact f3⟩)
set_option maxRecDepth 100000 in
set_option maxHeartbeats 4000000 in
theorem t_M_lot (E : mE) (d : Nat) (hd : 4 ≤ d) (w : mw) (S : mw) (hM : MM w S) (hV : VM S) (x : Int32) : Ti E d m_M_lot [vr 33, vi x] w (fun r w1 => r = lotV S x ∧ MP w1 S ∧ fr mRows w w1) := by
  refine ⟨Nat.le_of_ble_eq_true rfl, ?_⟩
  show Wp E d m_M_lot 0 [lr 33, li x] [] w _
  have hp10 := (pN_ok S).1
  have hlt := two10 hp10
  have hwl := wh_lt S
  have hwe := wh_1 S
  refine Wp_aload_n d_M_lot_0 rfl ?_
  refine Wp_ivv_i (o := 33) (As := []) d_M_lot_1 ln_M_143 mk_M_reads rfl rfl rfl rfl rfl (by omega) (t_M_reads E (d - 1) (by omega) w S hM hV) (fun r1 w1 c1 => ?_)
  obtain ⟨hF, hP, fP⟩ := c1
  refine Wp_pop d_M_lot_4 rfl ?_
  refine Wp_aload_n d_M_lot_5 rfl ?_
  refine Wp_iload_n d_M_lot_6 rfl ?_
  refine Wp_ivv_i (o := 33) (As := [vi x]) d_M_lot_7 ln_M_273 mk_M_lotOf rfl rfl rfl rfl rfl (by omega) (t_M_lotOf E (d - 1) (by omega) w1 S hP hV x) (fun r7 w7 c7 => ?_)
  obtain ⟨rR, fR⟩ := c7
  refine Wp_reti (ty := .int) d_M_lot_10 rfl rfl ?_
  exact ⟨rR, MP_fr hP fR (by decide), fr_tr (frF_m fP) (fr_sub fR (by decide))⟩
