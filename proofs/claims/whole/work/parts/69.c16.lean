set_option maxRecDepth 100000 in
set_option maxHeartbeats 4000000 in
theorem l_D_bl (E : mE) (d : Nat) (hd : 5 ≤ d) (w0 S : mw) (hV : VM S) (j : Nat) (hj : j < pN S) (m : Nat) (hm : m ≤ 30) (hF : Fe S (wh S)) : ∀ (i k : Nat) (w : mw) (v : Int32) (u8 u9 u10 u11 : Option mv), k + i = 2 * m + 1 → -30 ≤ v.toInt ∧ v.toInt ≤ 30 → LI w0 w S j v → Wp E d m_D_bestLie 22 [lr 12, li (nI j), li (nI m), li (S 42 j), li (lsN S j k).1, li (nI (lsN S j k).2.1), li (nI (lsN S j k).2.2), li (nI k), u8, u9, u10, u11] [] w (mPi (fun r w1 => r = liesR S j m ∧ LI w0 w1 S j (S 42 j))) := by
  intro i
  have hp10 := (pN_ok S).1
  have h1024 := two10 hp10
  induction i with
  | zero =>
    intro k w v u8 u9 u10 u11 hk hv hL
    have hkk : k = 2 * m + 1 := by omega
    subst hkk
    have hli := VM_li hV j (by omega)
    have hls := ls_pos hV hj hF (2 * m) (by omega)
    refine Wp_iload d_D_bestLie_22 rfl ?_
    refine Wp_iconst (x := 2) d_D_bestLie_24 (by decide) ?_
    refine Wp_iload_n d_D_bestLie_25 rfl ?_
    refine Wp_imul d_D_bestLie_26 ?_
    refine Wp_eqi (x2 := nI (2 * m)) (pk_mul 2 m) ?_
    refine Wp_icmp_gt d_D_bestLie_27 (fun h27 => ?_) (fun q => absurd (n_nlt (a := 2 * m) (b := 2 * m + 1) q (by omega) (by omega)) (by omega))
    refine Wp_aload_n d_D_bestLie_130 rfl ?_
    refine Wp_getr d_D_bestLie_131 fd_D_28 rfl rfl rfl ?_
    refine Wp_iload_n d_D_bestLie_134 rfl ?_
    refine Wp_iload_n d_D_bestLie_135 rfl ?_
    refine Wp_ivv_dv (o := 1) (As := [vi (nI j), vi (S 42 j)]) d_D_bestLie_136 ln_D_111 mk_P_tell rfl rfl rfl rfl rfl (by omega) (t_P_tell E (d - 1) (by omega) w j (by omega) (S 42 j)) ?_
    refine Wp_aload_n d_D_bestLie_139 rfl ?_
    refine Wp_iconst (x := 1) d_D_bestLie_140 (by decide) ?_
    refine Wp_iload_n d_D_bestLie_141 rfl ?_
    refine Wp_ishl d_D_bestLie_142 ?_
    refine Wp_eqi (x2 := nI (2 ^ j)) (sh1 (by omega)) ?_
    refine Wp_ivv_v (o := 12) (As := [vi (nI (2 ^ j))]) d_D_bestLie_143 ln_D_115 mk_D_replanAround rfl rfl rfl rfl rfl (by omega) (t_D_replanAround E (d - 1) (by omega) (tlW w j (S 42 j)) (mU S 42 j v) (mU S 42 j (S 42 j)) (PR_lie hL.1 (by omega) hli.1 hli.2) j (S 42 j) (VM_42 hV hv.1 hv.2) (VM_42 hV hli.1 hli.2) (by rw [pN_42]; exact hj) mU_mU.symm (LI_B hL) (LI_T hL)) (fun w143 c143 => ?_)
    obtain ⟨q1, q2, q3, q4, q5⟩ := c143
    have L2 : LI w0 w143 S j (S 42 j) := LI_step hL (by omega) hli.1 hli.2 q1 q2 q3 q4 q5
    refine Wp_iload d_D_bestLie_146 rfl ?_
    refine Wp_reti (ty := .int) d_D_bestLie_148 rfl rfl ?_
    exact ⟨by unfold liesR; rw [if_neg hls], L2⟩
  | succ i ih =>
    intro k w v u8 u9 u10 u11 hk hv hL
    have hli := lieV_ok k (by omega)
    have hV2 : VM (lieS S j k) := VM_42 hV hli.1 hli.2
    have hp2 : pN (lieS S j k) = pN S := pN_42
    have hb := ls_bw hV hj (show k < 61 by omega) hF
    have hbo := bwR_ok hV2 (p := j) (by rw [hp2]; exact hj) hb
    have hbl : (bwR (lieS S j k) j) < 1024 := by have := hbo.2.1; rw [hp2] at this; omega
    have hcl := costS_le hV2 hbo.2.1 hbo.2.2.2.1
    have hpb := popc_le (bwR (lieS S j k) j)
    have hlo := lsN_ok hV hj k (by omega)
    have hm1 : costS (lieS S j k) (bwR (lieS S j k) j) * (lsN S j k).2.2 ≤ 9200 * 10 := Nat.mul_le_mul (by omega) hlo.2
    have hm2 : (lsN S j k).2.1 * popc (bwR (lieS S j k) j) ≤ 9200 * 10 := Nat.mul_le_mul hlo.1 hpb
    refine Wp_iload d_D_bestLie_22 rfl ?_
    refine Wp_iconst (x := 2) d_D_bestLie_24 (by decide) ?_
    refine Wp_iload_n d_D_bestLie_25 rfl ?_
    refine Wp_imul d_D_bestLie_26 ?_
    refine Wp_eqi (x2 := nI (2 * m)) (pk_mul 2 m) ?_
    refine Wp_icmp_gt d_D_bestLie_27 (fun q => absurd (n_lt (a := 2 * m) (b := k) q (by omega) (by omega)) (by omega)) (fun h27 => ?_)
    refine Wp_iload d_D_bestLie_30 rfl ?_
    refine Wp_iconst (x := 2) d_D_bestLie_32 (by decide) ?_
    refine Wp_irem d_D_bestLie_33 (by decide) ?_
    refine Wp_eqi (x2 := nI (k % 2)) (pk_rem (d := 2) (by omega) (by omega) (by omega)) ?_
    refine Wp_if_ne d_D_bestLie_34 (fun h34 => ?_) (fun h34 => ?_)
    ·
      have g34 : (k % 2) ≠ 0 := n_ne h34 (by omega) (by omega)
      refine Wp_iload d_D_bestLie_44 rfl ?_
      refine Wp_iconst (x := 1) d_D_bestLie_46 (by decide) ?_
      refine Wp_iadd d_D_bestLie_47 ?_
      refine Wp_eqi (x2 := nI (k + 1)) (nI_add k 1) ?_
      refine Wp_ineg d_D_bestLie_48 ?_
      refine Wp_iconst (x := 2) d_D_bestLie_49 (by decide) ?_
      refine Wp_idiv d_D_bestLie_50 (by decide) ?_
      refine Wp_eqi (x2 := lieV k) (lieV_1 k (by omega) (by omega)).symm ?_
      refine Wp_istore (ls2 := [lr 12, li (nI j), li (nI m), li (S 42 j), li (lsN S j k).1, li (nI (lsN S j k).2.1), li (nI (lsN S j k).2.2), li (nI k), li (lieV k), u9, u10, u11]) d_D_bestLie_51 rfl rfl rfl ?_
      refine Wp_aload_n d_D_bestLie_53 rfl ?_
      refine Wp_getr d_D_bestLie_54 fd_D_28 rfl rfl rfl ?_
      refine Wp_iload_n d_D_bestLie_57 rfl ?_
      refine Wp_iload d_D_bestLie_58 rfl ?_
      refine Wp_ivv_dv (o := 1) (As := [vi (nI j), vi (lieV k)]) d_D_bestLie_60 ln_D_111 mk_P_tell rfl rfl rfl rfl rfl (by omega) (t_P_tell E (d - 1) (by omega) w j (by omega) (lieV k)) ?_
      refine Wp_aload_n d_D_bestLie_63 rfl ?_
      refine Wp_iconst (x := 1) d_D_bestLie_64 (by decide) ?_
      refine Wp_iload_n d_D_bestLie_65 rfl ?_
      refine Wp_ishl d_D_bestLie_66 ?_
      refine Wp_eqi (x2 := nI (2 ^ j)) (sh1 (by omega)) ?_
      refine Wp_ivv_v (o := 12) (As := [vi (nI (2 ^ j))]) d_D_bestLie_67 ln_D_115 mk_D_replanAround rfl rfl rfl rfl rfl (by omega) (t_D_replanAround E (d - 1) (by omega) (tlW w j (lieV k)) (mU S 42 j v) (mU S 42 j (lieV k)) (PR_lie hL.1 (by omega) hli.1 hli.2) j (lieV k) (VM_42 hV hv.1 hv.2) (VM_42 hV hli.1 hli.2) (by rw [pN_42]; exact hj) mU_mU.symm (LI_B hL) (LI_T hL)) (fun w67 c67 => ?_)
      obtain ⟨q1, q2, q3, q4, q5⟩ := c67
      have L2 : LI w0 w67 S j (lieV k) := LI_step hL (by omega) hli.1 hli.2 q1 q2 q3 q4 q5
      refine Wp_aload_n d_D_bestLie_70 rfl ?_
      refine Wp_iconst (x := 1) d_D_bestLie_71 (by decide) ?_
      refine Wp_iload_n d_D_bestLie_72 rfl ?_
      refine Wp_ishl d_D_bestLie_73 ?_
      refine Wp_eqi (x2 := nI (2 ^ j)) (sh1 (by omega)) ?_
      refine Wp_ivv_d (o := 12) (As := [vi (nI (2 ^ j))]) d_D_bestLie_74 ln_D_118 mk_D_boatWith rfl rfl rfl rfl rfl (by omega) (by have h := t_D_boatWith E (d - 1) (by omega) w67 (lieS S j k) L2.1 hV2 j (by rw [hp2]; exact hj) (fun x hx hh => (L2.2.2.1 x (by rw [hp2] at hx; exact hx) (by rw [show wh (lieS S j k) = wh S from wh_42] at hh; exact hh)).1); rw [withR_e hb] at h; exact h) ?_
      refine Wp_istore (ls2 := [lr 12, li (nI j), li (nI m), li (S 42 j), li (lsN S j k).1, li (nI (lsN S j k).2.1), li (nI (lsN S j k).2.2), li (nI k), li (lieV k), li (nI (bwR (lieS S j k) j)), u10, u11]) d_D_bestLie_77 rfl rfl rfl ?_
      refine Wp_iload d_D_bestLie_79 rfl ?_
      refine Wp_ivs_d (As := [vi (nI (bwR (lieS S j k) j))]) d_D_bestLie_81 ln_D_46 mk_J_bitCount rfl rfl rfl (by omega) (t_J_bitCount E (d - 1) (by omega) w67 (bwR (lieS S j k) j) (by omega)) ?_
      refine Wp_istore (ls2 := [lr 12, li (nI j), li (nI m), li (S 42 j), li (lsN S j k).1, li (nI (lsN S j k).2.1), li (nI (lsN S j k).2.2), li (nI k), li (lieV k), li (nI (bwR (lieS S j k) j)), li (nI (popc (bwR (lieS S j k) j))), u11]) d_D_bestLie_84 rfl rfl rfl ?_
      refine Wp_aload_n d_D_bestLie_86 rfl ?_
      refine Wp_iload d_D_bestLie_87 rfl ?_
      refine Wp_ivv_d (o := 12) (As := [vi (nI (bwR (lieS S j k) j))]) d_D_bestLie_89 ln_D_121 mk_D_costOf rfl rfl rfl rfl rfl (by omega) (t_D_costOf E (d - 1) (by omega) w67 (lieS S j k) L2.1 hV2 (bwR (lieS S j k) j) hbo.2.1) ?_
      refine Wp_istore (ls2 := [lr 12, li (nI j), li (nI m), li (S 42 j), li (lsN S j k).1, li (nI (lsN S j k).2.1), li (nI (lsN S j k).2.2), li (nI k), li (lieV k), li (nI (bwR (lieS S j k) j)), li (nI (popc (bwR (lieS S j k) j))), li (nI (costS (lieS S j k) (bwR (lieS S j k) j)))]) d_D_bestLie_92 rfl rfl rfl ?_
      refine Wp_iload d_D_bestLie_94 rfl ?_
      refine Wp_if_eq d_D_bestLie_96 (fun h96 => ?_) (fun h96 => ?_)
      ·
        have g96 : k = 0 := n_eq h96 (by omega) (by omega)
        refine Wp_iload d_D_bestLie_112 rfl ?_
        refine Wp_istore (ls2 := [lr 12, li (nI j), li (nI m), li (S 42 j), li (lieV k), li (nI (lsN S j k).2.1), li (nI (lsN S j k).2.2), li (nI k), li (lieV k), li (nI (bwR (lieS S j k) j)), li (nI (popc (bwR (lieS S j k) j))), li (nI (costS (lieS S j k) (bwR (lieS S j k) j)))]) d_D_bestLie_114 rfl rfl rfl ?_
        refine Wp_iload d_D_bestLie_116 rfl ?_
        refine Wp_istore (ls2 := [lr 12, li (nI j), li (nI m), li (S 42 j), li (lieV k), li (nI (costS (lieS S j k) (bwR (lieS S j k) j))), li (nI (lsN S j k).2.2), li (nI k), li (lieV k), li (nI (bwR (lieS S j k) j)), li (nI (popc (bwR (lieS S j k) j))), li (nI (costS (lieS S j k) (bwR (lieS S j k) j)))]) d_D_bestLie_118 rfl rfl rfl ?_
        refine Wp_iload d_D_bestLie_120 rfl ?_
        refine Wp_istore (ls2 := [lr 12, li (nI j), li (nI m), li (S 42 j), li (lieV k), li (nI (costS (lieS S j k) (bwR (lieS S j k) j))), li (nI (popc (bwR (lieS S j k) j))), li (nI k), li (lieV k), li (nI (bwR (lieS S j k) j)), li (nI (popc (bwR (lieS S j k) j))), li (nI (costS (lieS S j k) (bwR (lieS S j k) j)))]) d_D_bestLie_122 rfl rfl rfl ?_
        refine Wp_iinc (z := nI (k + 1)) (ls2 := [lr 12, li (nI j), li (nI m), li (S 42 j), li (lieV k), li (nI (costS (lieS S j k) (bwR (lieS S j k) j))), li (nI (popc (bwR (lieS S j k) j))), li (nI (k + 1)), li (lieV k), li (nI (bwR (lieS S j k) j)), li (nI (popc (bwR (lieS S j k) j))), li (nI (costS (lieS S j k) (bwR (lieS S j k) j)))]) d_D_bestLie_124 rfl (nI_add k 1) rfl rfl rfl ?_
        refine Wp_goto d_D_bestLie_127 ?_
        have e9 := ls_1 hb (Or.inl g96)
        have h9 := ih (k + 1) w67 (lieV k) (li (lieV k)) (li (nI (bwR (lieS S j k) j))) (li (nI (popc (bwR (lieS S j k) j)))) (li (nI (costS (lieS S j k) (bwR (lieS S j k) j)))) (by omega) hli L2
        rw [e9] at h9
        exact h9
      ·
        have g96 : k ≠ 0 := n_ne h96 (by omega) (by omega)
        refine Wp_iload d_D_bestLie_99 rfl ?_
        refine Wp_iload d_D_bestLie_101 rfl ?_
        refine Wp_imul d_D_bestLie_103 ?_
        refine Wp_eqi (x2 := nI ((costS (lieS S j k) (bwR (lieS S j k) j)) * (lsN S j k).2.2)) (pk_mul (costS (lieS S j k) (bwR (lieS S j k) j)) (lsN S j k).2.2) ?_
        refine Wp_iload d_D_bestLie_104 rfl ?_
        refine Wp_iload d_D_bestLie_106 rfl ?_
        refine Wp_imul d_D_bestLie_108 ?_
        refine Wp_eqi (x2 := nI ((lsN S j k).2.1 * (popc (bwR (lieS S j k) j)))) (pk_mul (lsN S j k).2.1 (popc (bwR (lieS S j k) j))) ?_
        refine Wp_icmp_ge d_D_bestLie_109 (fun h109 => ?_) (fun h109 => ?_)
        ·
          have g109 : ((lsN S j k).2.1 * (popc (bwR (lieS S j k) j))) ≤ ((costS (lieS S j k) (bwR (lieS S j k) j)) * (lsN S j k).2.2) := n_le h109 (by omega) (by omega)
          refine Wp_iinc (z := nI (k + 1)) (ls2 := [lr 12, li (nI j), li (nI m), li (S 42 j), li (lsN S j k).1, li (nI (lsN S j k).2.1), li (nI (lsN S j k).2.2), li (nI (k + 1)), li (lieV k), li (nI (bwR (lieS S j k) j)), li (nI (popc (bwR (lieS S j k) j))), li (nI (costS (lieS S j k) (bwR (lieS S j k) j)))]) d_D_bestLie_124 rfl (nI_add k 1) rfl rfl rfl ?_
          refine Wp_goto d_D_bestLie_127 ?_
          have hk0 : (lsN S j k).2.2 ≠ 0 := by have h := ls_pos hV hj hF (k - 1) (by omega); rwa [show k - 1 + 1 = k by omega] at h
          have e9 := ls_0 hk0 g109
          have h9 := ih (k + 1) w67 (lieV k) (li (lieV k)) (li (nI (bwR (lieS S j k) j))) (li (nI (popc (bwR (lieS S j k) j)))) (li (nI (costS (lieS S j k) (bwR (lieS S j k) j)))) (by omega) hli L2
          rw [e9] at h9
          exact h9
        ·
          have g109 : ((costS (lieS S j k) (bwR (lieS S j k) j)) * (lsN S j k).2.2) < ((lsN S j k).2.1 * (popc (bwR (lieS S j k) j))) := n_nle h109 (by omega) (by omega)
          refine Wp_iload d_D_bestLie_112 rfl ?_
          refine Wp_istore (ls2 := [lr 12, li (nI j), li (nI m), li (S 42 j), li (lieV k), li (nI (lsN S j k).2.1), li (nI (lsN S j k).2.2), li (nI k), li (lieV k), li (nI (bwR (lieS S j k) j)), li (nI (popc (bwR (lieS S j k) j))), li (nI (costS (lieS S j k) (bwR (lieS S j k) j)))]) d_D_bestLie_114 rfl rfl rfl ?_
          refine Wp_iload d_D_bestLie_116 rfl ?_
          refine Wp_istore (ls2 := [lr 12, li (nI j), li (nI m), li (S 42 j), li (lieV k), li (nI (costS (lieS S j k) (bwR (lieS S j k) j))), li (nI (lsN S j k).2.2), li (nI k), li (lieV k), li (nI (bwR (lieS S j k) j)), li (nI (popc (bwR (lieS S j k) j))), li (nI (costS (lieS S j k) (bwR (lieS S j k) j)))]) d_D_bestLie_118 rfl rfl rfl ?_
          refine Wp_iload d_D_bestLie_120 rfl ?_
          refine Wp_istore (ls2 := [lr 12, li (nI j), li (nI m), li (S 42 j), li (lieV k), li (nI (costS (lieS S j k) (bwR (lieS S j k) j))), li (nI (popc (bwR (lieS S j k) j))), li (nI k), li (lieV k), li (nI (bwR (lieS S j k) j)), li (nI (popc (bwR (lieS S j k) j))), li (nI (costS (lieS S j k) (bwR (lieS S j k) j)))]) d_D_bestLie_122 rfl rfl rfl ?_
          refine Wp_iinc (z := nI (k + 1)) (ls2 := [lr 12, li (nI j), li (nI m), li (S 42 j), li (lieV k), li (nI (costS (lieS S j k) (bwR (lieS S j k) j))), li (nI (popc (bwR (lieS S j k) j))), li (nI (k + 1)), li (lieV k), li (nI (bwR (lieS S j k) j)), li (nI (popc (bwR (lieS S j k) j))), li (nI (costS (lieS S j k) (bwR (lieS S j k) j)))]) d_D_bestLie_124 rfl (nI_add k 1) rfl rfl rfl ?_
          refine Wp_goto d_D_bestLie_127 ?_
          have e9 := ls_1 hb (Or.inr g109)
          have h9 := ih (k + 1) w67 (lieV k) (li (lieV k)) (li (nI (bwR (lieS S j k) j))) (li (nI (popc (bwR (lieS S j k) j)))) (li (nI (costS (lieS S j k) (bwR (lieS S j k) j)))) (by omega) hli L2
          rw [e9] at h9
          exact h9
    ·
      have g34 : (k % 2) = 0 := n_eq h34 (by omega) (by omega)
      refine Wp_iload d_D_bestLie_37 rfl ?_
      refine Wp_iconst (x := 2) d_D_bestLie_39 (by decide) ?_
      refine Wp_idiv d_D_bestLie_40 (by decide) ?_
      refine Wp_eqi (x2 := lieV k) (by rw [lieV_0 k (by omega) (by omega)]; exact pk_div (d := 2) (by omega) (by omega) (by omega)) ?_
      refine Wp_goto d_D_bestLie_41 ?_
      refine Wp_istore (ls2 := [lr 12, li (nI j), li (nI m), li (S 42 j), li (lsN S j k).1, li (nI (lsN S j k).2.1), li (nI (lsN S j k).2.2), li (nI k), li (lieV k), u9, u10, u11]) d_D_bestLie_51 rfl rfl rfl ?_
      refine Wp_aload_n d_D_bestLie_53 rfl ?_
      refine Wp_getr d_D_bestLie_54 fd_D_28 rfl rfl rfl ?_
      refine Wp_iload_n d_D_bestLie_57 rfl ?_
      refine Wp_iload d_D_bestLie_58 rfl ?_
      refine Wp_ivv_dv (o := 1) (As := [vi (nI j), vi (lieV k)]) d_D_bestLie_60 ln_D_111 mk_P_tell rfl rfl rfl rfl rfl (by omega) (t_P_tell E (d - 1) (by omega) w j (by omega) (lieV k)) ?_
      refine Wp_aload_n d_D_bestLie_63 rfl ?_
      refine Wp_iconst (x := 1) d_D_bestLie_64 (by decide) ?_
      refine Wp_iload_n d_D_bestLie_65 rfl ?_
      refine Wp_ishl d_D_bestLie_66 ?_
      refine Wp_eqi (x2 := nI (2 ^ j)) (sh1 (by omega)) ?_
      refine Wp_ivv_v (o := 12) (As := [vi (nI (2 ^ j))]) d_D_bestLie_67 ln_D_115 mk_D_replanAround rfl rfl rfl rfl rfl (by omega) (t_D_replanAround E (d - 1) (by omega) (tlW w j (lieV k)) (mU S 42 j v) (mU S 42 j (lieV k)) (PR_lie hL.1 (by omega) hli.1 hli.2) j (lieV k) (VM_42 hV hv.1 hv.2) (VM_42 hV hli.1 hli.2) (by rw [pN_42]; exact hj) mU_mU.symm (LI_B hL) (LI_T hL)) (fun w67 c67 => ?_)
      obtain ⟨q1, q2, q3, q4, q5⟩ := c67
      have L2 : LI w0 w67 S j (lieV k) := LI_step hL (by omega) hli.1 hli.2 q1 q2 q3 q4 q5
      refine Wp_aload_n d_D_bestLie_70 rfl ?_
      refine Wp_iconst (x := 1) d_D_bestLie_71 (by decide) ?_
      refine Wp_iload_n d_D_bestLie_72 rfl ?_
      refine Wp_ishl d_D_bestLie_73 ?_
      refine Wp_eqi (x2 := nI (2 ^ j)) (sh1 (by omega)) ?_
      refine Wp_ivv_d (o := 12) (As := [vi (nI (2 ^ j))]) d_D_bestLie_74 ln_D_118 mk_D_boatWith rfl rfl rfl rfl rfl (by omega) (by have h := t_D_boatWith E (d - 1) (by omega) w67 (lieS S j k) L2.1 hV2 j (by rw [hp2]; exact hj) (fun x hx hh => (L2.2.2.1 x (by rw [hp2] at hx; exact hx) (by rw [show wh (lieS S j k) = wh S from wh_42] at hh; exact hh)).1); rw [withR_e hb] at h; exact h) ?_
      refine Wp_istore (ls2 := [lr 12, li (nI j), li (nI m), li (S 42 j), li (lsN S j k).1, li (nI (lsN S j k).2.1), li (nI (lsN S j k).2.2), li (nI k), li (lieV k), li (nI (bwR (lieS S j k) j)), u10, u11]) d_D_bestLie_77 rfl rfl rfl ?_
      refine Wp_iload d_D_bestLie_79 rfl ?_
      refine Wp_ivs_d (As := [vi (nI (bwR (lieS S j k) j))]) d_D_bestLie_81 ln_D_46 mk_J_bitCount rfl rfl rfl (by omega) (t_J_bitCount E (d - 1) (by omega) w67 (bwR (lieS S j k) j) (by omega)) ?_
      refine Wp_istore (ls2 := [lr 12, li (nI j), li (nI m), li (S 42 j), li (lsN S j k).1, li (nI (lsN S j k).2.1), li (nI (lsN S j k).2.2), li (nI k), li (lieV k), li (nI (bwR (lieS S j k) j)), li (nI (popc (bwR (lieS S j k) j))), u11]) d_D_bestLie_84 rfl rfl rfl ?_
      refine Wp_aload_n d_D_bestLie_86 rfl ?_
      refine Wp_iload d_D_bestLie_87 rfl ?_
      refine Wp_ivv_d (o := 12) (As := [vi (nI (bwR (lieS S j k) j))]) d_D_bestLie_89 ln_D_121 mk_D_costOf rfl rfl rfl rfl rfl (by omega) (t_D_costOf E (d - 1) (by omega) w67 (lieS S j k) L2.1 hV2 (bwR (lieS S j k) j) hbo.2.1) ?_
      refine Wp_istore (ls2 := [lr 12, li (nI j), li (nI m), li (S 42 j), li (lsN S j k).1, li (nI (lsN S j k).2.1), li (nI (lsN S j k).2.2), li (nI k), li (lieV k), li (nI (bwR (lieS S j k) j)), li (nI (popc (bwR (lieS S j k) j))), li (nI (costS (lieS S j k) (bwR (lieS S j k) j)))]) d_D_bestLie_92 rfl rfl rfl ?_
      refine Wp_iload d_D_bestLie_94 rfl ?_
      refine Wp_if_eq d_D_bestLie_96 (fun h96 => ?_) (fun h96 => ?_)
      ·
        have g96 : k = 0 := n_eq h96 (by omega) (by omega)
        refine Wp_iload d_D_bestLie_112 rfl ?_
        refine Wp_istore (ls2 := [lr 12, li (nI j), li (nI m), li (S 42 j), li (lieV k), li (nI (lsN S j k).2.1), li (nI (lsN S j k).2.2), li (nI k), li (lieV k), li (nI (bwR (lieS S j k) j)), li (nI (popc (bwR (lieS S j k) j))), li (nI (costS (lieS S j k) (bwR (lieS S j k) j)))]) d_D_bestLie_114 rfl rfl rfl ?_
        refine Wp_iload d_D_bestLie_116 rfl ?_
        refine Wp_istore (ls2 := [lr 12, li (nI j), li (nI m), li (S 42 j), li (lieV k), li (nI (costS (lieS S j k) (bwR (lieS S j k) j))), li (nI (lsN S j k).2.2), li (nI k), li (lieV k), li (nI (bwR (lieS S j k) j)), li (nI (popc (bwR (lieS S j k) j))), li (nI (costS (lieS S j k) (bwR (lieS S j k) j)))]) d_D_bestLie_118 rfl rfl rfl ?_
        refine Wp_iload d_D_bestLie_120 rfl ?_
        refine Wp_istore (ls2 := [lr 12, li (nI j), li (nI m), li (S 42 j), li (lieV k), li (nI (costS (lieS S j k) (bwR (lieS S j k) j))), li (nI (popc (bwR (lieS S j k) j))), li (nI k), li (lieV k), li (nI (bwR (lieS S j k) j)), li (nI (popc (bwR (lieS S j k) j))), li (nI (costS (lieS S j k) (bwR (lieS S j k) j)))]) d_D_bestLie_122 rfl rfl rfl ?_
        refine Wp_iinc (z := nI (k + 1)) (ls2 := [lr 12, li (nI j), li (nI m), li (S 42 j), li (lieV k), li (nI (costS (lieS S j k) (bwR (lieS S j k) j))), li (nI (popc (bwR (lieS S j k) j))), li (nI (k + 1)), li (lieV k), li (nI (bwR (lieS S j k) j)), li (nI (popc (bwR (lieS S j k) j))), li (nI (costS (lieS S j k) (bwR (lieS S j k) j)))]) d_D_bestLie_124 rfl (nI_add k 1) rfl rfl rfl ?_
        refine Wp_goto d_D_bestLie_127 ?_
        have e9 := ls_1 hb (Or.inl g96)
        have h9 := ih (k + 1) w67 (lieV k) (li (lieV k)) (li (nI (bwR (lieS S j k) j))) (li (nI (popc (bwR (lieS S j k) j)))) (li (nI (costS (lieS S j k) (bwR (lieS S j k) j)))) (by omega) hli L2
        rw [e9] at h9
        exact h9
      ·
        have g96 : k ≠ 0 := n_ne h96 (by omega) (by omega)
        refine Wp_iload d_D_bestLie_99 rfl ?_
        refine Wp_iload d_D_bestLie_101 rfl ?_
        refine Wp_imul d_D_bestLie_103 ?_
        refine Wp_eqi (x2 := nI ((costS (lieS S j k) (bwR (lieS S j k) j)) * (lsN S j k).2.2)) (pk_mul (costS (lieS S j k) (bwR (lieS S j k) j)) (lsN S j k).2.2) ?_
        refine Wp_iload d_D_bestLie_104 rfl ?_
        refine Wp_iload d_D_bestLie_106 rfl ?_
        refine Wp_imul d_D_bestLie_108 ?_
        refine Wp_eqi (x2 := nI ((lsN S j k).2.1 * (popc (bwR (lieS S j k) j)))) (pk_mul (lsN S j k).2.1 (popc (bwR (lieS S j k) j))) ?_
        refine Wp_icmp_ge d_D_bestLie_109 (fun h109 => ?_) (fun h109 => ?_)
        ·
          have g109 : ((lsN S j k).2.1 * (popc (bwR (lieS S j k) j))) ≤ ((costS (lieS S j k) (bwR (lieS S j k) j)) * (lsN S j k).2.2) := n_le h109 (by omega) (by omega)
          refine Wp_iinc (z := nI (k + 1)) (ls2 := [lr 12, li (nI j), li (nI m), li (S 42 j), li (lsN S j k).1, li (nI (lsN S j k).2.1), li (nI (lsN S j k).2.2), li (nI (k + 1)), li (lieV k), li (nI (bwR (lieS S j k) j)), li (nI (popc (bwR (lieS S j k) j))), li (nI (costS (lieS S j k) (bwR (lieS S j k) j)))]) d_D_bestLie_124 rfl (nI_add k 1) rfl rfl rfl ?_
          refine Wp_goto d_D_bestLie_127 ?_
          have hk0 : (lsN S j k).2.2 ≠ 0 := by have h := ls_pos hV hj hF (k - 1) (by omega); rwa [show k - 1 + 1 = k by omega] at h
          have e9 := ls_0 hk0 g109
          have h9 := ih (k + 1) w67 (lieV k) (li (lieV k)) (li (nI (bwR (lieS S j k) j))) (li (nI (popc (bwR (lieS S j k) j)))) (li (nI (costS (lieS S j k) (bwR (lieS S j k) j)))) (by omega) hli L2
          rw [e9] at h9
          exact h9
        ·
          have g109 : ((costS (lieS S j k) (bwR (lieS S j k) j)) * (lsN S j k).2.2) < ((lsN S j k).2.1 * (popc (bwR (lieS S j k) j))) := n_nle h109 (by omega) (by omega)
          refine Wp_iload d_D_bestLie_112 rfl ?_
          refine Wp_istore (ls2 := [lr 12, li (nI j), li (nI m), li (S 42 j), li (lieV k), li (nI (lsN S j k).2.1), li (nI (lsN S j k).2.2), li (nI k), li (lieV k), li (nI (bwR (lieS S j k) j)), li (nI (popc (bwR (lieS S j k) j))), li (nI (costS (lieS S j k) (bwR (lieS S j k) j)))]) d_D_bestLie_114 rfl rfl rfl ?_
          refine Wp_iload d_D_bestLie_116 rfl ?_
          refine Wp_istore (ls2 := [lr 12, li (nI j), li (nI m), li (S 42 j), li (lieV k), li (nI (costS (lieS S j k) (bwR (lieS S j k) j))), li (nI (lsN S j k).2.2), li (nI k), li (lieV k), li (nI (bwR (lieS S j k) j)), li (nI (popc (bwR (lieS S j k) j))), li (nI (costS (lieS S j k) (bwR (lieS S j k) j)))]) d_D_bestLie_118 rfl rfl rfl ?_
          refine Wp_iload d_D_bestLie_120 rfl ?_
          refine Wp_istore (ls2 := [lr 12, li (nI j), li (nI m), li (S 42 j), li (lieV k), li (nI (costS (lieS S j k) (bwR (lieS S j k) j))), li (nI (popc (bwR (lieS S j k) j))), li (nI k), li (lieV k), li (nI (bwR (lieS S j k) j)), li (nI (popc (bwR (lieS S j k) j))), li (nI (costS (lieS S j k) (bwR (lieS S j k) j)))]) d_D_bestLie_122 rfl rfl rfl ?_
          refine Wp_iinc (z := nI (k + 1)) (ls2 := [lr 12, li (nI j), li (nI m), li (S 42 j), li (lieV k), li (nI (costS (lieS S j k) (bwR (lieS S j k) j))), li (nI (popc (bwR (lieS S j k) j))), li (nI (k + 1)), li (lieV k), li (nI (bwR (lieS S j k) j)), li (nI (popc (bwR (lieS S j k) j))), li (nI (costS (lieS S j k) (bwR (lieS S j k) j)))]) d_D_bestLie_124 rfl (nI_add k 1) rfl rfl rfl ?_
          refine Wp_goto d_D_bestLie_127 ?_
          have e9 := ls_1 hb (Or.inr g109)
          have h9 := ih (k + 1) w67 (lieV k) (li (lieV k)) (li (nI (bwR (lieS S j k) j))) (li (nI (popc (bwR (lieS S j k) j)))) (li (nI (costS (lieS S j k) (bwR (lieS S j k) j)))) (by omega) hli L2
          rw [e9] at h9
          exact h9
set_option maxRecDepth 100000 in
set_option maxHeartbeats 4000000 in
theorem t_D_bestLie (E : mE) (d : Nat) (hd : 5 ≤ d) (w : mw) (S : mw) (hC : CC w S) (hV : VM S) (z2 : w 12 6 = 0) (j : Nat) (hj : j < pN S) (m : Nat) (hm : m ≤ 30) (hF : Fe S (wh S)) : Ti E d m_D_bestLie [vr 12, vi (nI j), vi (nI m)] w (fun r w1 => r = liesR S j m ∧ CC w1 S ∧ w1 12 6 = 0 ∧ fr [4, 7, 13, 15, 16] w w1) := by
  refine ⟨Nat.le_of_ble_eq_true rfl, ?_⟩
  show Wp E d m_D_bestLie 0 [lr 12, li (nI j), li (nI m), lo, lo, lo, lo, lo, lo, lo, lo, lo] [] w _
  have hp10 := (pN_ok S).1
  refine Wp_aload_n d_D_bestLie_0 rfl ?_
  refine Wp_getr d_D_bestLie_1 fd_D_28 rfl rfl rfl ?_
  refine Wp_getr d_D_bestLie_4 fd_D_108 rfl rfl rfl ?_
  refine Wp_iload_n d_D_bestLie_7 rfl ?_
  refine Wp_ialdN (j := j) d_D_bestLie_8 rfl rfl rfl rfl (by omega) ?_
  refine Wp_eqi (x2 := S 42 j) (congrFun hC.1.2.2.2.1 _) ?_
  refine Wp_istore_n (ls2 := [lr 12, li (nI j), li (nI m), li (S 42 j), lo, lo, lo, lo, lo, lo, lo, lo]) d_D_bestLie_9 rfl rfl rfl ?_
  refine Wp_iconst (x := 0) d_D_bestLie_10 (by decide) ?_
  refine Wp_istore (ls2 := [lr 12, li (nI j), li (nI m), li (S 42 j), li 0, lo, lo, lo, lo, lo, lo, lo]) d_D_bestLie_11 rfl rfl rfl ?_
  refine Wp_iconst (x := 0) d_D_bestLie_13 (by decide) ?_
  refine Wp_istore (ls2 := [lr 12, li (nI j), li (nI m), li (S 42 j), li 0, li 0, lo, lo, lo, lo, lo, lo]) d_D_bestLie_14 rfl rfl rfl ?_
  refine Wp_iconst (x := 0) d_D_bestLie_16 (by decide) ?_
  refine Wp_istore (ls2 := [lr 12, li (nI j), li (nI m), li (S 42 j), li 0, li 0, li 0, lo, lo, lo, lo, lo]) d_D_bestLie_17 rfl rfl rfl ?_
  refine Wp_iconst (x := 0) d_D_bestLie_19 (by decide) ?_
  refine Wp_istore (ls2 := [lr 12, li (nI j), li (nI m), li (S 42 j), li 0, li 0, li 0, li 0, lo, lo, lo, lo]) d_D_bestLie_20 rfl rfl rfl ?_
  refine Wp_mi (l_D_bl E d (by omega) w S hV j hj m hm hF (2 * m + 1) 0 w (S 42 j) _ _ _ _ (by omega) (VM_li hV j (by omega)) (LI_0 hC z2)) (fun r w1 h => ?_)
  have hb := LI_back hC z2 h.2
  exact ⟨h.1, hb.1, hb.2, h.2.2.2.2.2.2⟩
theorem lsN_inf {S : mw} (hV : VM S) {j : Nat} (hj : j < pN S) (h : (DC S (wh S)).2.2.2 = 0) (k : Nat) (hk : k ≤ 61) : (lsN S j k).2.2 = 0 := by
  induction k with
  | zero => rfl
  | succ k ih =>
    have ih := ih (by omega)
    have hl := lieV_ok k (by omega)
    have hV2 : VM (lieS S j k) := VM_42 hV hl.1 hl.2
    have hp : pN (lieS S j k) = pN S := pN_42
    have hb : bwR (lieS S j k) j = 0 := by
      refine (bwR_0 hV2 (by rw [hp]; exact hj)).mpr ?_
      apply Classical.byContradiction
      intro q
      have h2 : Fe (mU (lieS S j k) 42 j (S 42 j)) (wh (lieS S j k)) := Fe_42 hV2 _ _ (Nat.lt_succ_self _) (wh_lt _) q
      have e : mU (lieS S j k) 42 j (S 42 j) = S := back_42
      rw [e, show wh (lieS S j k) = wh S from wh_42] at h2
      exact h2 h
    rw [lsN, if_neg (fun q => q.1 hb)]
    exact ih
set_option maxRecDepth 100000 in
set_option maxHeartbeats 4000000 in
theorem t_F_lies (E : mE) (d : Nat) (hd : 6 ≤ d) (w : mw) (S : mw) (hC : CC w S) (hV : VM S) (p x : Int32) : Ti E d m_F_lies [vr 0, vi p, vi x] w (fun r w1 => r = rLies S p x ∧ CC w1 S ∧ fr cRows w w1) := by
  refine ⟨Nat.le_of_ble_eq_true rfl, ?_⟩
  show Wp E d m_F_lies 0 [lr 0, li p, li x] [] w _
  have hP := CC_PR hC
  have hp10 := (pN_ok S).1
  have h1024 := two10 hp10
  have hwl := wh_lt S
  have hwe := wh_1 S
  refine Wp_aload_n d_F_lies_0 rfl ?_
  refine Wp_getr d_F_lies_1 fd_F_10 rfl rfl rfl ?_
  refine Wp_iload_n d_F_lies_4 rfl ?_
  refine Wp_ivv_b (o := 1) (As := [vi p]) d_F_lies_5 ln_F_82 mk_P_isThere rfl rfl rfl rfl rfl (by omega) (t_P_isThere E (d - 1) (by omega) w (pN S) hP.2.1.1 (pN_ok S).1 p) (fun g5 => ?_) (fun g5 => ?_)
  ·
    have gp := g5
    obtain ⟨j, hj, rfl⟩ : ∃ j, j < pN S ∧ p = nI j := i_nIof g5.1 g5.2
    have hp10 := (pN_ok S).1
    have tJ := ti (show j < 2147483648 by omega)
    refine Wp_if_eq d_F_lies_8 (fun q => absurd q (by decide)) (fun _ => ?_)
    refine Wp_iload_n d_F_lies_11 rfl ?_
    refine Wp_iconst (x := 0) d_F_lies_12 (by decide) ?_
    refine Wp_bipush (x := 30) d_F_lies_13 (by decide) ?_
    refine Wp_ivs_b (As := [vi x, vi 0, vi 30]) d_F_lies_15 ln_F_59 mk_F_isWithin rfl rfl rfl (by omega) (t_F_isWithin E (d - 1) (by omega) w x 0 30) (fun g15 => ?_) (fun g15 => ?_)
    ·
      have k15 : 0 ≤ x.toInt ∧ x.toInt ≤ 30 := g15
      obtain ⟨m1, hm1, rfl⟩ : ∃ q, q < 31 ∧ x = nI q := i_nIof g15.1 (by omega)
      have tM := ti (show m1 < 2147483648 by omega)
      refine Wp_if_ne d_F_lies_18 (fun _ => ?_) (fun q => absurd q (by decide))
      refine Wp_aload_n d_F_lies_27 rfl ?_
      refine Wp_getr d_F_lies_28 fd_F_28 rfl rfl rfl ?_
      refine Wp_ivv_v (o := 12) (As := []) d_F_lies_31 ln_F_162 mk_D_bringUpToDate rfl rfl rfl rfl rfl (by omega) (t_D_bringUpToDate E (d - 1) (by omega) w S hC hV) (fun w31 c31 => ?_)
      obtain ⟨hC2, z2, fB⟩ := c31
      have hP2 := CC_PR hC2
      have h15 := FT_15 hC2 z2
      have h16 := FT_16 hC2 z2
      have fBc : fr cRows w w31 := fr_sub fB (by decide)
      refine Wp_aload_n d_F_lies_34 rfl ?_
      refine Wp_getr d_F_lies_35 fd_F_28 rfl rfl rfl ?_
      refine Wp_aload_n d_F_lies_38 rfl ?_
      refine Wp_getr d_F_lies_39 fd_F_10 rfl rfl rfl ?_
      refine Wp_ivv_d (o := 1) (As := []) d_F_lies_42 ln_F_180 mk_P_everyone rfl rfl rfl rfl rfl (by omega) (t_P_everyone E (d - 1) (by omega) w31 (pN S) hP2.2.1.1 (pN_ok S).1) ?_
      refine Wp_ivv_d (o := 12) (As := [vi (nI (wh S))]) d_F_lies_45 ln_F_165 mk_D_leastOf rfl rfl rfl rfl rfl (by omega) (t_D_leastOf E (d - 1) (by omega) w31 S hV (wh S) (by omega) (h15 _ (by omega))) ?_
      refine Wp_iconst (x := (-1)) d_F_lies_48 (by decide) ?_
      refine Wp_icmp_ne d_F_lies_49 (fun h49 => ?_) (fun h49 => ?_)
      ·
        have g49 : Fe S (wh S) := fun q => h49 ((dayR_n hV (wh_lt S)).mpr q)
        refine Wp_aload_n d_F_lies_58 rfl ?_
        refine Wp_getr d_F_lies_59 fd_F_28 rfl rfl rfl ?_
        refine Wp_iload_n d_F_lies_62 rfl ?_
        refine Wp_iload_n d_F_lies_63 rfl ?_
        refine Wp_ivv_i (o := 12) (As := [vi (nI j), vi (nI m1)]) d_F_lies_64 ln_F_220 mk_D_bestLie rfl rfl rfl rfl rfl (by omega) (t_D_bestLie E (d - 1) (by omega) w31 S hC2 hV z2 j hj m1 (by omega) g49) (fun r64 w64 c64 => ?_)
        obtain ⟨eL, hC4, z4, fL⟩ := c64
        refine Wp_reti (ty := .int) d_F_lies_67 rfl rfl ?_
        exact ⟨by unfold rLies; rw [if_pos (by omega), cl (by omega), cl (by omega)]; exact eL, hC4, fr_tr fBc (fr_sub fL (by decide))⟩
      ·
        have g49 : (DC S (wh S)).2.2.2 = 0 := (dayR_n hV (wh_lt S)).mp h49
        refine Wp_bipush (x := (-3)) d_F_lies_52 (by decide) ?_
        refine Wp_ivs_d (As := [vi (-3)]) d_F_lies_54 ln_F_105 mk_F_anyNumberRefusal rfl rfl rfl (by omega) (t_F_anyNot E (d - 1) (by omega) w31) ?_
        refine Wp_reti (ty := .int) d_F_lies_57 rfl rfl ?_
        have hz := lsN_inf hV hj g49 (2 * m1 + 1) (by omega)
        exact ⟨by unfold rLies; rw [if_pos (by omega), cl (by omega), cl (by omega)]; unfold liesR; rw [if_pos hz], hC2, fBc⟩
    ·
      have k15 : ¬ (0 ≤ x.toInt ∧ x.toInt ≤ 30) := g15
      refine Wp_if_ne d_F_lies_18 (fun q => absurd q (by decide)) (fun _ => ?_)
      refine Wp_bipush (x := (-2)) d_F_lies_21 (by decide) ?_
      refine Wp_ivs_d (As := [vi (-2)]) d_F_lies_23 ln_F_105 mk_F_anyNumberRefusal rfl rfl rfl (by omega) (t_F_anyBad E (d - 1) (by omega) w) ?_
      refine Wp_reti (ty := .int) d_F_lies_26 rfl rfl ?_
      exact ⟨by unfold rLies; rw [if_neg (by omega)], hC, fr_rf⟩
  ·
    refine Wp_if_eq d_F_lies_8 (fun _ => ?_) (fun q => absurd (by decide) q)
    refine Wp_bipush (x := (-2)) d_F_lies_21 (by decide) ?_
    refine Wp_ivs_d (As := [vi (-2)]) d_F_lies_23 ln_F_105 mk_F_anyNumberRefusal rfl rfl rfl (by omega) (t_F_anyBad E (d - 1) (by omega) w) ?_
    refine Wp_reti (ty := .int) d_F_lies_26 rfl rfl ?_
    exact ⟨by unfold rLies; rw [if_neg (by omega)], hC, fr_rf⟩
