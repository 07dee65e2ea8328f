set_option maxRecDepth 100000 in
set_option maxHeartbeats 4000000 in
theorem l_M_li (E : mE) (d : Nat) (hd : 4 ≤ d) (S w0 : mw) (hV : VM S) (j m : Nat) (hj : j < pN S) (hm : m ≤ 30) : ∀ (i k : Nat) (x : Int32) (w : mw) (u : Option mv), k + i = 2 * m + 1 → MP w (mU S 42 j x) → fr (42 :: sRows) w0 w → Wp E d m_M_liesOf 19 [lr 33, li (nI j), li (nI m), li (S 42 j), li (lsN S j k).1, li (nI (lsN S j k).2.1), li (nI (lsN S j k).2.2), li (nI k), u] [] w (mPi (fun r w1 => r = liesR S j m ∧ MP w1 S ∧ fr (42 :: sRows) w0 w1)) := by
  intro i
  have hp10 := (pN_ok S).1
  have hlt := two10 hp10
  have hwl := wh_lt S
  have hwe := wh_1 S
  induction i with
  | zero =>
    intro k x w u hk hM hf
    have hin : k = 2 * m + 1 := by omega
    subst hin
    have hls := lsN_ok hV hj (2 * m + 1) (by omega)
    have hM9 : MP (mU w 42 j (S 42 j)) S := by
      have h1 := MP_42 (j := j) (x := S 42 j) hM
      rw [mU_mU, mU_same rfl] at h1
      exact h1
    have hf9 : fr (42 :: sRows) w0 (mU w 42 j (S 42 j)) := fr_U2 hf (by decide)
    refine Wp_iload d_M_liesOf_19 rfl ?_
    refine Wp_iconst (x := 2) d_M_liesOf_21 (by decide) ?_
    refine Wp_iload_n d_M_liesOf_22 rfl ?_
    refine Wp_imul d_M_liesOf_23 ?_
    refine Wp_eqi (x2 := nI (2 * m)) (pk_mul 2 m) ?_
    refine Wp_icmp_gt d_M_liesOf_24 (fun h24 => ?_) (fun q => absurd (n_nlt q (by omega) (by omega)) (by omega))
    refine Wp_aload_n d_M_liesOf_135 rfl ?_
    refine Wp_getr d_M_liesOf_136 fd_M_34 rfl rfl rfl ?_
    refine Wp_iload_n d_M_liesOf_139 rfl ?_
    refine Wp_iload_n d_M_liesOf_140 rfl ?_
    refine Wp_iastN (j := j) d_M_liesOf_141 rfl rfl rfl rfl (by omega) ?_
    refine Wp_iload d_M_liesOf_142 rfl ?_
    refine Wp_if_ne d_M_liesOf_144 (fun h144 => ?_) (fun h144 => ?_)
    ·
      have g144 : (lsN S j (2 * m + 1)).2.2 ≠ 0 := n_ne h144 (by omega) (by omega)
      refine Wp_iload d_M_liesOf_153 rfl ?_
      refine Wp_reti (ty := .int) d_M_liesOf_155 rfl rfl ?_
      exact ⟨by unfold liesR; rw [if_neg g144], hM9, hf9⟩
    ·
      have g144 : (lsN S j (2 * m + 1)).2.2 = 0 := n_eq h144 (by omega) (by omega)
      refine Wp_sipush (x := (-1003)) d_M_liesOf_147 (by decide) ?_
      refine Wp_goto d_M_liesOf_150 ?_
      refine Wp_reti (ty := .int) d_M_liesOf_155 rfl rfl ?_
      exact ⟨by unfold liesR; rw [if_pos g144], hM9, hf9⟩
  | succ i ih =>
    intro k x w u hk hM hf
    have hls := lsN_ok hV hj k (by omega)
    have hlv := lieV_ok k (by omega)
    have hV2 : VM (lieS S j k) := VM_42 hV hlv.1 hlv.2
    have hpn : pN (lieS S j k) = pN S := pN_42
    have hw2 : wh (lieS S j k) = wh S := wh_42
    have hj2 : j < pN (lieS S j k) := by rw [hpn]; exact hj
    have hM2 : MP (mU w 42 j (lieV k)) (lieS S j k) := by
      have h1 := MP_42 (j := j) (x := lieV k) hM
      rw [mU_mU] at h1
      exact h1
    refine Wp_iload d_M_liesOf_19 rfl ?_
    refine Wp_iconst (x := 2) d_M_liesOf_21 (by decide) ?_
    refine Wp_iload_n d_M_liesOf_22 rfl ?_
    refine Wp_imul d_M_liesOf_23 ?_
    refine Wp_eqi (x2 := nI (2 * m)) (pk_mul 2 m) ?_
    refine Wp_icmp_gt d_M_liesOf_24 (fun q => absurd (n_lt q (by omega) (by omega)) (by omega)) (fun h24 => ?_)
    refine Wp_aload_n d_M_liesOf_27 rfl ?_
    refine Wp_getr d_M_liesOf_28 fd_M_34 rfl rfl rfl ?_
    refine Wp_iload_n d_M_liesOf_31 rfl ?_
    refine Wp_iload d_M_liesOf_32 rfl ?_
    refine Wp_iconst (x := 2) d_M_liesOf_34 (by decide) ?_
    refine Wp_irem d_M_liesOf_35 (by decide) ?_
    refine Wp_eqi (x2 := nI (k % 2)) (pk_rem (d := 2) (by omega) (by omega) (by omega)) ?_
    refine Wp_iconst (x := 1) d_M_liesOf_36 (by decide) ?_
    refine Wp_icmp_ne d_M_liesOf_37 (fun h37 => ?_) (fun h37 => ?_)
    ·
      have g37 : (k % 2) ≠ 1 := n_ne h37 (by omega) (by omega)
      refine Wp_iload d_M_liesOf_50 rfl ?_
      refine Wp_iconst (x := 2) d_M_liesOf_52 (by decide) ?_
      refine Wp_idiv d_M_liesOf_53 (by decide) ?_
      refine Wp_eqi (x2 := lieV k) ((pk_div (d := 2) (by omega) (by omega) (by omega)).trans (lieV_0 k (by omega) g37).symm) ?_
      refine Wp_iastN (j := j) d_M_liesOf_54 rfl rfl rfl rfl (by omega) ?_
      refine Wp_aload_n d_M_liesOf_55 rfl ?_
      refine Wp_ivv_v (o := 33) (As := []) d_M_liesOf_56 ln_M_201 mk_M_findBoats rfl rfl rfl rfl rfl (by omega) (t_M_findBoats E (d - 1) (by omega) (mU w 42 j (lieV k)) (lieS S j k) hM2 hV2) (fun w56 c56 => ?_)
      obtain ⟨hB, fB⟩ := c56
      refine Wp_aload_n d_M_liesOf_59 rfl ?_
      refine Wp_aload_n d_M_liesOf_60 rfl ?_
      refine Wp_ivv_d (o := 33) (As := []) d_M_liesOf_61 ln_M_184 mk_M_whole rfl rfl rfl rfl rfl (by omega) (t_M_whole E (d - 1) (by omega) w56 (lieS S j k) hB.1 hV2) ?_
      refine Wp_ivv_v (o := 33) (As := [vi (nI (wh (lieS S j k)))]) d_M_liesOf_64 ln_M_197 mk_M_findDay rfl rfl rfl rfl rfl (by omega) (t_M_findDay E (d - 1) (by omega) w56 (lieS S j k) hB hV2 (wh (lieS S j k)) (wh_lt _)) (fun w2 c64 => ?_)
      obtain ⟨hD, fD⟩ := c64
      have hM3 : MP w2 (lieS S j k) := MP_s hB.1 (fr_sub fD (by decide))
      have hf3 : fr (42 :: sRows) w0 w2 := fr_tr (fr_tr (fr_U2 hf (by decide)) (fr_sub fB (by decide))) (fr_sub fD (by decide))
      have h42 : w2 42 j = lieV k := by rw [fD 42 (by decide), fB 42 (by decide)]; exact mU_at
      have hbw : (bwR (lieS S j k) j) < 2147483648 := by
        by_cases h : (bwR (lieS S j k) j) = 0
        · omega
        · have := (bwR_ok hV2 hj2 h).2.1; rw [hpn] at this; omega
      refine Wp_aload_n d_M_liesOf_67 rfl ?_
      refine Wp_iload_n d_M_liesOf_68 rfl ?_
      refine Wp_ivv_d (o := 33) (As := [vi (nI j)]) d_M_liesOf_69 ln_M_207 mk_M_boatWith rfl rfl rfl rfl rfl (by omega) (t_M_boatWith E (d - 1) (by omega) w2 (lieS S j k) hM3 hV2 hD j hj2) ?_
      refine Wp_istore (ls2 := [lr 33, li (nI j), li (nI m), li (S 42 j), li (lsN S j k).1, li (nI (lsN S j k).2.1), li (nI (lsN S j k).2.2), li (nI k), li (nI (bwR (lieS S j k) j))]) d_M_liesOf_72 rfl rfl rfl ?_
      refine Wp_iload d_M_liesOf_74 rfl ?_
      refine Wp_if_eq d_M_liesOf_76 (fun h76 => ?_) (fun h76 => ?_)
      ·
        have g76 : (bwR (lieS S j k) j) = 0 := n_eq h76 (by omega) (by omega)
        refine Wp_iinc (z := nI (k + 1)) (ls2 := [lr 33, li (nI j), li (nI m), li (S 42 j), li (lsN S j k).1, li (nI (lsN S j k).2.1), li (nI (lsN S j k).2.2), li (nI (k + 1)), li (nI (bwR (lieS S j k) j))]) d_M_liesOf_129 rfl (nI_add k 1) rfl rfl rfl ?_
        refine Wp_goto d_M_liesOf_132 ?_
        have e9 : lsN S j (k + 1) = lsN S j k := by rw [lsN, if_neg (by first | exact fun q => q.1 g76 | exact fun q => q.2.elim (fun q => g81 q) (fun q => by omega))]
        have h9 := ih (k + 1) (lieV k) w2 (li (nI (bwR (lieS S j k) j))) (by omega) hM3 hf3
        rw [e9] at h9
        exact h9
      ·
        have g76 : (bwR (lieS S j k) j) ≠ 0 := n_ne h76 (by omega) (by omega)
        have hk2 := bwR_ok hV2 hj2 g76
        have hcl := costS_le hV2 hk2.2.1 hk2.2.2.2.1
        have hpb := popc_le (bwR (lieS S j k) j)
        have hb3 : (bwR (lieS S j k) j) < 1024 := by have := hk2.2.1; rw [hpn] at this; omega
        have hm1 : costS (lieS S j k) (bwR (lieS S j k) j) * (lsN S j k).2.2 ≤ 9200 * 10 := Nat.mul_le_mul (by omega) hls.2
        have hm2 : (lsN S j k).2.1 * popc (bwR (lieS S j k) j) ≤ 9200 * 10 := Nat.mul_le_mul hls.1 hpb
        refine Wp_iload d_M_liesOf_79 rfl ?_
        refine Wp_if_eq d_M_liesOf_81 (fun h81 => ?_) (fun h81 => ?_)
        ·
          have g81 : (lsN S j k).2.2 = 0 := n_eq h81 (by omega) (by omega)
          refine Wp_aload_n d_M_liesOf_105 rfl ?_
          refine Wp_getr d_M_liesOf_106 fd_M_34 rfl rfl rfl ?_
          refine Wp_iload_n d_M_liesOf_109 rfl ?_
          refine Wp_ialdN (j := j) d_M_liesOf_110 rfl rfl rfl rfl (by omega) ?_
          refine Wp_eqi (x2 := lieV k) h42 ?_
          refine Wp_istore (ls2 := [lr 33, li (nI j), li (nI m), li (S 42 j), li (lieV k), li (nI (lsN S j k).2.1), li (nI (lsN S j k).2.2), li (nI k), li (nI (bwR (lieS S j k) j))]) d_M_liesOf_111 rfl rfl rfl ?_
          refine Wp_aload_n d_M_liesOf_113 rfl ?_
          refine Wp_getr d_M_liesOf_114 fd_M_46 rfl rfl rfl ?_
          refine Wp_iload d_M_liesOf_117 rfl ?_
          refine Wp_ialdN (j := (bwR (lieS S j k) j)) d_M_liesOf_119 rfl rfl rfl rfl (by omega) ?_
          refine Wp_eqi (x2 := nI (costS (lieS S j k) (bwR (lieS S j k) j))) ((congrFun (fD 46 (by decide)) _).trans ((hB.2 _ hk2.2.2.2.1 hk2.2.1).2.1.trans (if_pos hk2.2.2.1))) ?_
          refine Wp_istore (ls2 := [lr 33, li (nI j), li (nI m), li (S 42 j), li (lieV k), li (nI (costS (lieS S j k) (bwR (lieS S j k) j))), li (nI (lsN S j k).2.2), li (nI k), li (nI (bwR (lieS S j k) j))]) d_M_liesOf_120 rfl rfl rfl ?_
          refine Wp_iload d_M_liesOf_122 rfl ?_
          refine Wp_ivs_d (As := [vi (nI (bwR (lieS S j k) j))]) d_M_liesOf_124 ln_M_173 mk_M_ones rfl rfl rfl (by omega) (t_M_ones E (d - 1) (by omega) w2 (bwR (lieS S j k) j) hb3) ?_
          refine Wp_istore (ls2 := [lr 33, li (nI j), li (nI m), li (S 42 j), li (lieV k), li (nI (costS (lieS S j k) (bwR (lieS S j k) j))), li (nI (popc (bwR (lieS S j k) j))), li (nI k), li (nI (bwR (lieS S j k) j))]) d_M_liesOf_127 rfl rfl rfl ?_
          refine Wp_iinc (z := nI (k + 1)) (ls2 := [lr 33, li (nI j), li (nI m), li (S 42 j), li (lieV k), li (nI (costS (lieS S j k) (bwR (lieS S j k) j))), li (nI (popc (bwR (lieS S j k) j))), li (nI (k + 1)), li (nI (bwR (lieS S j k) j))]) d_M_liesOf_129 rfl (nI_add k 1) rfl rfl rfl ?_
          refine Wp_goto d_M_liesOf_132 ?_
          have e9 : lsN S j (k + 1) = (lieV k, costS (lieS S j k) (bwR (lieS S j k) j), popc (bwR (lieS S j k) j)) := by rw [lsN, if_pos (by first | exact ⟨g76, Or.inl g81⟩ | exact ⟨g76, Or.inr g102⟩)]
          have h9 := ih (k + 1) (lieV k) w2 (li (nI (bwR (lieS S j k) j))) (by omega) hM3 hf3
          rw [e9] at h9
          exact h9
        ·
          have g81 : (lsN S j k).2.2 ≠ 0 := n_ne h81 (by omega) (by omega)
          refine Wp_aload_n d_M_liesOf_84 rfl ?_
          refine Wp_getr d_M_liesOf_85 fd_M_46 rfl rfl rfl ?_
          refine Wp_iload d_M_liesOf_88 rfl ?_
          refine Wp_ialdN (j := (bwR (lieS S j k) j)) d_M_liesOf_90 rfl rfl rfl rfl (by omega) ?_
          refine Wp_eqi (x2 := nI (costS (lieS S j k) (bwR (lieS S j k) j))) ((congrFun (fD 46 (by decide)) _).trans ((hB.2 _ hk2.2.2.2.1 hk2.2.1).2.1.trans (if_pos hk2.2.2.1))) ?_
          refine Wp_iload d_M_liesOf_91 rfl ?_
          refine Wp_imul d_M_liesOf_93 ?_
          refine Wp_eqi (x2 := nI ((costS (lieS S j k) (bwR (lieS S j k) j)) * (lsN S j k).2.2)) (pk_mul (costS (lieS S j k) (bwR (lieS S j k) j)) (lsN S j k).2.2) ?_
          refine Wp_iload d_M_liesOf_94 rfl ?_
          refine Wp_iload d_M_liesOf_96 rfl ?_
          refine Wp_ivs_d (As := [vi (nI (bwR (lieS S j k) j))]) d_M_liesOf_98 ln_M_173 mk_M_ones rfl rfl rfl (by omega) (t_M_ones E (d - 1) (by omega) w2 (bwR (lieS S j k) j) hb3) ?_
          refine Wp_imul d_M_liesOf_101 ?_
          refine Wp_eqi (x2 := nI ((lsN S j k).2.1 * (popc (bwR (lieS S j k) j)))) (pk_mul (lsN S j k).2.1 (popc (bwR (lieS S j k) j))) ?_
          refine Wp_icmp_ge d_M_liesOf_102 (fun h102 => ?_) (fun h102 => ?_)
          ·
            have g102 : ((lsN S j k).2.1 * (popc (bwR (lieS S j k) j))) ≤ ((costS (lieS S j k) (bwR (lieS S j k) j)) * (lsN S j k).2.2) := n_le h102 (by omega) (by omega)
            refine Wp_iinc (z := nI (k + 1)) (ls2 := [lr 33, li (nI j), li (nI m), li (S 42 j), li (lsN S j k).1, li (nI (lsN S j k).2.1), li (nI (lsN S j k).2.2), li (nI (k + 1)), li (nI (bwR (lieS S j k) j))]) d_M_liesOf_129 rfl (nI_add k 1) rfl rfl rfl ?_
            refine Wp_goto d_M_liesOf_132 ?_
            have e9 : lsN S j (k + 1) = lsN S j k := by rw [lsN, if_neg (by first | exact fun q => q.1 g76 | exact fun q => q.2.elim (fun q => g81 q) (fun q => by omega))]
            have h9 := ih (k + 1) (lieV k) w2 (li (nI (bwR (lieS S j k) j))) (by omega) hM3 hf3
            rw [e9] at h9
            exact h9
          ·
            have g102 : ((costS (lieS S j k) (bwR (lieS S j k) j)) * (lsN S j k).2.2) < ((lsN S j k).2.1 * (popc (bwR (lieS S j k) j))) := n_nle h102 (by omega) (by omega)
            refine Wp_aload_n d_M_liesOf_105 rfl ?_
            refine Wp_getr d_M_liesOf_106 fd_M_34 rfl rfl rfl ?_
            refine Wp_iload_n d_M_liesOf_109 rfl ?_
            refine Wp_ialdN (j := j) d_M_liesOf_110 rfl rfl rfl rfl (by omega) ?_
            refine Wp_eqi (x2 := lieV k) h42 ?_
            refine Wp_istore (ls2 := [lr 33, li (nI j), li (nI m), li (S 42 j), li (lieV k), li (nI (lsN S j k).2.1), li (nI (lsN S j k).2.2), li (nI k), li (nI (bwR (lieS S j k) j))]) d_M_liesOf_111 rfl rfl rfl ?_
            refine Wp_aload_n d_M_liesOf_113 rfl ?_
            refine Wp_getr d_M_liesOf_114 fd_M_46 rfl rfl rfl ?_
            refine Wp_iload d_M_liesOf_117 rfl ?_
            refine Wp_ialdN (j := (bwR (lieS S j k) j)) d_M_liesOf_119 rfl rfl rfl rfl (by omega) ?_
            refine Wp_eqi (x2 := nI (costS (lieS S j k) (bwR (lieS S j k) j))) ((congrFun (fD 46 (by decide)) _).trans ((hB.2 _ hk2.2.2.2.1 hk2.2.1).2.1.trans (if_pos hk2.2.2.1))) ?_
            refine Wp_istore (ls2 := [lr 33, li (nI j), li (nI m), li (S 42 j), li (lieV k), li (nI (costS (lieS S j k) (bwR (lieS S j k) j))), li (nI (lsN S j k).2.2), li (nI k), li (nI (bwR (lieS S j k) j))]) d_M_liesOf_120 rfl rfl rfl ?_
            refine Wp_iload d_M_liesOf_122 rfl ?_
            refine Wp_ivs_d (As := [vi (nI (bwR (lieS S j k) j))]) d_M_liesOf_124 ln_M_173 mk_M_ones rfl rfl rfl (by omega) (t_M_ones E (d - 1) (by omega) w2 (bwR (lieS S j k) j) hb3) ?_
            refine Wp_istore (ls2 := [lr 33, li (nI j), li (nI m), li (S 42 j), li (lieV k), li (nI (costS (lieS S j k) (bwR (lieS S j k) j))), li (nI (popc (bwR (lieS S j k) j))), li (nI k), li (nI (bwR (lieS S j k) j))]) d_M_liesOf_127 rfl rfl rfl ?_
            refine Wp_iinc (z := nI (k + 1)) (ls2 := [lr 33, li (nI j), li (nI m), li (S 42 j), li (lieV k), li (nI (costS (lieS S j k) (bwR (lieS S j k) j))), li (nI (popc (bwR (lieS S j k) j))), li (nI (k + 1)), li (nI (bwR (lieS S j k) j))]) d_M_liesOf_129 rfl (nI_add k 1) rfl rfl rfl ?_
            refine Wp_goto d_M_liesOf_132 ?_
            have e9 : lsN S j (k + 1) = (lieV k, costS (lieS S j k) (bwR (lieS S j k) j), popc (bwR (lieS S j k) j)) := by rw [lsN, if_pos (by first | exact ⟨g76, Or.inl g81⟩ | exact ⟨g76, Or.inr g102⟩)]
            have h9 := ih (k + 1) (lieV k) w2 (li (nI (bwR (lieS S j k) j))) (by omega) hM3 hf3
            rw [e9] at h9
            exact h9
    ·
      have g37 : (k % 2) = 1 := n_eq h37 (by omega) (by omega)
      refine Wp_iload d_M_liesOf_40 rfl ?_
      refine Wp_iconst (x := 1) d_M_liesOf_42 (by decide) ?_
      refine Wp_iadd d_M_liesOf_43 ?_
      refine Wp_eqi (x2 := nI (k + 1)) (nI_add k 1) ?_
      refine Wp_ineg d_M_liesOf_44 ?_
      refine Wp_iconst (x := 2) d_M_liesOf_45 (by decide) ?_
      refine Wp_idiv d_M_liesOf_46 (by decide) ?_
      refine Wp_eqi (x2 := lieV k) (lieV_1 k (by omega) g37).symm ?_
      refine Wp_goto d_M_liesOf_47 ?_
      refine Wp_iastN (j := j) d_M_liesOf_54 rfl rfl rfl rfl (by omega) ?_
      refine Wp_aload_n d_M_liesOf_55 rfl ?_
      refine Wp_ivv_v (o := 33) (As := []) d_M_liesOf_56 ln_M_201 mk_M_findBoats rfl rfl rfl rfl rfl (by omega) (t_M_findBoats E (d - 1) (by omega) (mU w 42 j (lieV k)) (lieS S j k) hM2 hV2) (fun w56 c56 => ?_)
      obtain ⟨hB, fB⟩ := c56
      refine Wp_aload_n d_M_liesOf_59 rfl ?_
      refine Wp_aload_n d_M_liesOf_60 rfl ?_
      refine Wp_ivv_d (o := 33) (As := []) d_M_liesOf_61 ln_M_184 mk_M_whole rfl rfl rfl rfl rfl (by omega) (t_M_whole E (d - 1) (by omega) w56 (lieS S j k) hB.1 hV2) ?_
      refine Wp_ivv_v (o := 33) (As := [vi (nI (wh (lieS S j k)))]) d_M_liesOf_64 ln_M_197 mk_M_findDay rfl rfl rfl rfl rfl (by omega) (t_M_findDay E (d - 1) (by omega) w56 (lieS S j k) hB hV2 (wh (lieS S j k)) (wh_lt _)) (fun w2 c64 => ?_)
      obtain ⟨hD, fD⟩ := c64
      have hM3 : MP w2 (lieS S j k) := MP_s hB.1 (fr_sub fD (by decide))
      have hf3 : fr (42 :: sRows) w0 w2 := fr_tr (fr_tr (fr_U2 hf (by decide)) (fr_sub fB (by decide))) (fr_sub fD (by decide))
      have h42 : w2 42 j = lieV k := by rw [fD 42 (by decide), fB 42 (by decide)]; exact mU_at
      have hbw : (bwR (lieS S j k) j) < 2147483648 := by
        by_cases h : (bwR (lieS S j k) j) = 0
        · omega
        · have := (bwR_ok hV2 hj2 h).2.1; rw [hpn] at this; omega
      refine Wp_aload_n d_M_liesOf_67 rfl ?_
      refine Wp_iload_n d_M_liesOf_68 rfl ?_
      refine Wp_ivv_d (o := 33) (As := [vi (nI j)]) d_M_liesOf_69 ln_M_207 mk_M_boatWith rfl rfl rfl rfl rfl (by omega) (t_M_boatWith E (d - 1) (by omega) w2 (lieS S j k) hM3 hV2 hD j hj2) ?_
      refine Wp_istore (ls2 := [lr 33, li (nI j), li (nI m), li (S 42 j), li (lsN S j k).1, li (nI (lsN S j k).2.1), li (nI (lsN S j k).2.2), li (nI k), li (nI (bwR (lieS S j k) j))]) d_M_liesOf_72 rfl rfl rfl ?_
      refine Wp_iload d_M_liesOf_74 rfl ?_
      refine Wp_if_eq d_M_liesOf_76 (fun h76 => ?_) (fun h76 => ?_)
      ·
        have g76 : (bwR (lieS S j k) j) = 0 := n_eq h76 (by omega) (by omega)
        refine Wp_iinc (z := nI (k + 1)) (ls2 := [lr 33, li (nI j), li (nI m), li (S 42 j), li (lsN S j k).1, li (nI (lsN S j k).2.1), li (nI (lsN S j k).2.2), li (nI (k + 1)), li (nI (bwR (lieS S j k) j))]) d_M_liesOf_129 rfl (nI_add k 1) rfl rfl rfl ?_
        refine Wp_goto d_M_liesOf_132 ?_
        have e9 : lsN S j (k + 1) = lsN S j k := by rw [lsN, if_neg (by first | exact fun q => q.1 g76 | exact fun q => q.2.elim (fun q => g81 q) (fun q => by omega))]
        have h9 := ih (k + 1) (lieV k) w2 (li (nI (bwR (lieS S j k) j))) (by omega) hM3 hf3
        rw [e9] at h9
        exact h9
      ·
        have g76 : (bwR (lieS S j k) j) ≠ 0 := n_ne h76 (by omega) (by omega)
        have hk2 := bwR_ok hV2 hj2 g76
        have hcl := costS_le hV2 hk2.2.1 hk2.2.2.2.1
        have hpb := popc_le (bwR (lieS S j k) j)
        have hb3 : (bwR (lieS S j k) j) < 1024 := by have := hk2.2.1; rw [hpn] at this; omega
        have hm1 : costS (lieS S j k) (bwR (lieS S j k) j) * (lsN S j k).2.2 ≤ 9200 * 10 := Nat.mul_le_mul (by omega) hls.2
        have hm2 : (lsN S j k).2.1 * popc (bwR (lieS S j k) j) ≤ 9200 * 10 := Nat.mul_le_mul hls.1 hpb
        refine Wp_iload d_M_liesOf_79 rfl ?_
        refine Wp_if_eq d_M_liesOf_81 (fun h81 => ?_) (fun h81 => ?_)
        ·
          have g81 : (lsN S j k).2.2 = 0 := n_eq h81 (by omega) (by omega)
          refine Wp_aload_n d_M_liesOf_105 rfl ?_
          refine Wp_getr d_M_liesOf_106 fd_M_34 rfl rfl rfl ?_
          refine Wp_iload_n d_M_liesOf_109 rfl ?_
          refine Wp_ialdN (j := j) d_M_liesOf_110 rfl rfl rfl rfl (by omega) ?_
          refine Wp_eqi (x2 := lieV k) h42 ?_
          refine Wp_istore (ls2 := [lr 33, li (nI j), li (nI m), li (S 42 j), li (lieV k), li (nI (lsN S j k).2.1), li (nI (lsN S j k).2.2), li (nI k), li (nI (bwR (lieS S j k) j))]) d_M_liesOf_111 rfl rfl rfl ?_
          refine Wp_aload_n d_M_liesOf_113 rfl ?_
          refine Wp_getr d_M_liesOf_114 fd_M_46 rfl rfl rfl ?_
          refine Wp_iload d_M_liesOf_117 rfl ?_
          refine Wp_ialdN (j := (bwR (lieS S j k) j)) d_M_liesOf_119 rfl rfl rfl rfl (by omega) ?_
          refine Wp_eqi (x2 := nI (costS (lieS S j k) (bwR (lieS S j k) j))) ((congrFun (fD 46 (by decide)) _).trans ((hB.2 _ hk2.2.2.2.1 hk2.2.1).2.1.trans (if_pos hk2.2.2.1))) ?_
          refine Wp_istore (ls2 := [lr 33, li (nI j), li (nI m), li (S 42 j), li (lieV k), li (nI (costS (lieS S j k) (bwR (lieS S j k) j))), li (nI (lsN S j k).2.2), li (nI k), li (nI (bwR (lieS S j k) j))]) d_M_liesOf_120 rfl rfl rfl ?_
          refine Wp_iload d_M_liesOf_122 rfl ?_
          refine Wp_ivs_d (As := [vi (nI (bwR (lieS S j k) j))]) d_M_liesOf_124 ln_M_173 mk_M_ones rfl rfl rfl (by omega) (t_M_ones E (d - 1) (by omega) w2 (bwR (lieS S j k) j) hb3) ?_
          refine Wp_istore (ls2 := [lr 33, li (nI j), li (nI m), li (S 42 j), li (lieV k), li (nI (costS (lieS S j k) (bwR (lieS S j k) j))), li (nI (popc (bwR (lieS S j k) j))), li (nI k), li (nI (bwR (lieS S j k) j))]) d_M_liesOf_127 rfl rfl rfl ?_
          refine Wp_iinc (z := nI (k + 1)) (ls2 := [lr 33, li (nI j), li (nI m), li (S 42 j), li (lieV k), li (nI (costS (lieS S j k) (bwR (lieS S j k) j))), li (nI (popc (bwR (lieS S j k) j))), li (nI (k + 1)), li (nI (bwR (lieS S j k) j))]) d_M_liesOf_129 rfl (nI_add k 1) rfl rfl rfl ?_
          refine Wp_goto d_M_liesOf_132 ?_
          have e9 : lsN S j (k + 1) = (lieV k, costS (lieS S j k) (bwR (lieS S j k) j), popc (bwR (lieS S j k) j)) := by rw [lsN, if_pos (by first | exact ⟨g76, Or.inl g81⟩ | exact ⟨g76, Or.inr g102⟩)]
          have h9 := ih (k + 1) (lieV k) w2 (li (nI (bwR (lieS S j k) j))) (by omega) hM3 hf3
          rw [e9] at h9
          exact h9
        ·
          have g81 : (lsN S j k).2.2 ≠ 0 := n_ne h81 (by omega) (by omega)
          refine Wp_aload_n d_M_liesOf_84 rfl ?_
          refine Wp_getr d_M_liesOf_85 fd_M_46 rfl rfl rfl ?_
          refine Wp_iload d_M_liesOf_88 rfl ?_
          refine Wp_ialdN (j := (bwR (lieS S j k) j)) d_M_liesOf_90 rfl rfl rfl rfl (by omega) ?_
          refine Wp_eqi (x2 := nI (costS (lieS S j k) (bwR (lieS S j k) j))) ((congrFun (fD 46 (by decide)) _).trans ((hB.2 _ hk2.2.2.2.1 hk2.2.1).2.1.trans (if_pos hk2.2.2.1))) ?_
          refine Wp_iload d_M_liesOf_91 rfl ?_
          refine Wp_imul d_M_liesOf_93 ?_
          refine Wp_eqi (x2 := nI ((costS (lieS S j k) (bwR (lieS S j k) j)) * (lsN S j k).2.2)) (pk_mul (costS (lieS S j k) (bwR (lieS S j k) j)) (lsN S j k).2.2) ?_
          refine Wp_iload d_M_liesOf_94 rfl ?_
          refine Wp_iload d_M_liesOf_96 rfl ?_
          refine Wp_ivs_d (As := [vi (nI (bwR (lieS S j k) j))]) d_M_liesOf_98 ln_M_173 mk_M_ones rfl rfl rfl (by omega) (t_M_ones E (d - 1) (by omega) w2 (bwR (lieS S j k) j) hb3) ?_
          refine Wp_imul d_M_liesOf_101 ?_
          refine Wp_eqi (x2 := nI ((lsN S j k).2.1 * (popc (bwR (lieS S j k) j)))) (pk_mul (lsN S j k).2.1 (popc (bwR (lieS S j k) j))) ?_
          refine Wp_icmp_ge d_M_liesOf_102 (fun h102 => ?_) (fun h102 => ?_)
          ·
            have g102 : ((lsN S j k).2.1 * (popc (bwR (lieS S j k) j))) ≤ ((costS (lieS S j k) (bwR (lieS S j k) j)) * (lsN S j k).2.2) := n_le h102 (by omega) (by omega)
            refine Wp_iinc (z := nI (k + 1)) (ls2 := [lr 33, li (nI j), li (nI m), li (S 42 j), li (lsN S j k).1, li (nI (lsN S j k).2.1), li (nI (lsN S j k).2.2), li (nI (k + 1)), li (nI (bwR (lieS S j k) j))]) d_M_liesOf_129 rfl (nI_add k 1) rfl rfl rfl ?_
            refine Wp_goto d_M_liesOf_132 ?_
            have e9 : lsN S j (k + 1) = lsN S j k := by rw [lsN, if_neg (by first | exact fun q => q.1 g76 | exact fun q => q.2.elim (fun q => g81 q) (fun q => by omega))]
            have h9 := ih (k + 1) (lieV k) w2 (li (nI (bwR (lieS S j k) j))) (by omega) hM3 hf3
            rw [e9] at h9
            exact h9
          ·
            have g102 : ((costS (lieS S j k) (bwR (lieS S j k) j)) * (lsN S j k).2.2) < ((lsN S j k).2.1 * (popc (bwR (lieS S j k) j))) := n_nle h102 (by omega) (by omega)
            refine Wp_aload_n d_M_liesOf_105 rfl ?_
            refine Wp_getr d_M_liesOf_106 fd_M_34 rfl rfl rfl ?_
            refine Wp_iload_n d_M_liesOf_109 rfl ?_
            refine Wp_ialdN (j := j) d_M_liesOf_110 rfl rfl rfl rfl (by omega) ?_
            refine Wp_eqi (x2 := lieV k) h42 ?_
            refine Wp_istore (ls2 := [lr 33, li (nI j), li (nI m), li (S 42 j), li (lieV k), li (nI (lsN S j k).2.1), li (nI (lsN S j k).2.2), li (nI k), li (nI (bwR (lieS S j k) j))]) d_M_liesOf_111 rfl rfl rfl ?_
            refine Wp_aload_n d_M_liesOf_113 rfl ?_
            refine Wp_getr d_M_liesOf_114 fd_M_46 rfl rfl rfl ?_
            refine Wp_iload d_M_liesOf_117 rfl ?_
            refine Wp_ialdN (j := (bwR (lieS S j k) j)) d_M_liesOf_119 rfl rfl rfl rfl (by omega) ?_
            refine Wp_eqi (x2 := nI (costS (lieS S j k) (bwR (lieS S j k) j))) ((congrFun (fD 46 (by decide)) _).trans ((hB.2 _ hk2.2.2.2.1 hk2.2.1).2.1.trans (if_pos hk2.2.2.1))) ?_
            refine Wp_istore (ls2 := [lr 33, li (nI j), li (nI m), li (S 42 j), li (lieV k), li (nI (costS (lieS S j k) (bwR (lieS S j k) j))), li (nI (lsN S j k).2.2), li (nI k), li (nI (bwR (lieS S j k) j))]) d_M_liesOf_120 rfl rfl rfl ?_
            refine Wp_iload d_M_liesOf_122 rfl ?_
            refine Wp_ivs_d (As := [vi (nI (bwR (lieS S j k) j))]) d_M_liesOf_124 ln_M_173 mk_M_ones rfl rfl rfl (by omega) (t_M_ones E (d - 1) (by omega) w2 (bwR (lieS S j k) j) hb3) ?_
            refine Wp_istore (ls2 := [lr 33, li (nI j), li (nI m), li (S 42 j), li (lieV k), li (nI (costS (lieS S j k) (bwR (lieS S j k) j))), li (nI (popc (bwR (lieS S j k) j))), li (nI k), li (nI (bwR (lieS S j k) j))]) d_M_liesOf_127 rfl rfl rfl ?_
            refine Wp_iinc (z := nI (k + 1)) (ls2 := [lr 33, li (nI j), li (nI m), li (S 42 j), li (lieV k), li (nI (costS (lieS S j k) (bwR (lieS S j k) j))), li (nI (popc (bwR (lieS S j k) j))), li (nI (k + 1)), li (nI (bwR (lieS S j k) j))]) d_M_liesOf_129 rfl (nI_add k 1) rfl rfl rfl ?_
            refine Wp_goto d_M_liesOf_132 ?_
            have e9 : lsN S j (k + 1) = (lieV k, costS (lieS S j k) (bwR (lieS S j k) j), popc (bwR (lieS S j k) j)) := by rw [lsN, if_pos (by first | exact ⟨g76, Or.inl g81⟩ | exact ⟨g76, Or.inr g102⟩)]
            have h9 := ih (k + 1) (lieV k) w2 (li (nI (bwR (lieS S j k) j))) (by omega) hM3 hf3
            rw [e9] at h9
            exact h9
set_option maxRecDepth 100000 in
set_option maxHeartbeats 4000000 in
theorem t_M_liesOf (E : mE) (d : Nat) (hd : 4 ≤ d) (w : mw) (S : mw) (hM : MP w S) (hV : VM S) (j m : Nat) (hj : j < pN S) (hm : m ≤ 30) : Ti E d m_M_liesOf [vr 33, vi (nI j), vi (nI m)] w (fun r w1 => r = liesR S j m ∧ MP w1 S ∧ fr (42 :: sRows) w w1) := by
  refine ⟨Nat.le_of_ble_eq_true rfl, ?_⟩
  show Wp E d m_M_liesOf 0 [lr 33, li (nI j), li (nI m), lo, lo, lo, lo, lo, lo] [] w _
  have hp10 := (pN_ok S).1
  have hlt := two10 hp10
  have hwl := wh_lt S
  have hwe := wh_1 S
  refine Wp_aload_n d_M_liesOf_0 rfl ?_
  refine Wp_getr d_M_liesOf_1 fd_M_34 rfl rfl rfl ?_
  refine Wp_iload_n d_M_liesOf_4 rfl ?_
  refine Wp_ialdN (j := j) d_M_liesOf_5 rfl rfl rfl rfl (by omega) ?_
  refine Wp_eqi (x2 := S 42 j) (congrFun (hM.1.r 42) _) ?_
  refine Wp_istore_n (ls2 := [lr 33, li (nI j), li (nI m), li (S 42 j), lo, lo, lo, lo, lo]) d_M_liesOf_6 rfl rfl rfl ?_
  refine Wp_iconst (x := 0) d_M_liesOf_7 (by decide) ?_
  refine Wp_istore (ls2 := [lr 33, li (nI j), li (nI m), li (S 42 j), li 0, lo, lo, lo, lo]) d_M_liesOf_8 rfl rfl rfl ?_
  refine Wp_iconst (x := 0) d_M_liesOf_10 (by decide) ?_
  refine Wp_istore (ls2 := [lr 33, li (nI j), li (nI m), li (S 42 j), li 0, li 0, lo, lo, lo]) d_M_liesOf_11 rfl rfl rfl ?_
  refine Wp_iconst (x := 0) d_M_liesOf_13 (by decide) ?_
  refine Wp_istore (ls2 := [lr 33, li (nI j), li (nI m), li (S 42 j), li 0, li 0, li 0, lo, lo]) d_M_liesOf_14 rfl rfl rfl ?_
  refine Wp_iconst (x := 0) d_M_liesOf_16 (by decide) ?_
  refine Wp_istore (ls2 := [lr 33, li (nI j), li (nI m), li (S 42 j), li 0, li 0, li 0, li 0, lo]) d_M_liesOf_17 rfl rfl rfl ?_
  exact l_M_li E d (by omega) S w hV j m hj hm (2 * m + 1) 0 (S 42 j) w none (by omega) (by rw [mU_same rfl]; exact hM) fr_rf
set_option maxRecDepth 100000 in
set_option maxHeartbeats 4000000 in
theorem t_M_lies (E : mE) (d : Nat) (hd : 5 ≤ d) (w : mw) (S : mw) (hM : MM w S) (hV : VM S) (p m : Int32) : Ti E d m_M_lies [vr 33, vi p, vi m] w (fun r w1 => r = rLies S p m ∧ MP w1 S ∧ fr mRows w w1) := by
  refine ⟨Nat.le_of_ble_eq_true rfl, ?_⟩
  show Wp E d m_M_lies 0 [lr 33, li p, li m] [] w _
  have hp10 := (pN_ok S).1
  have hlt := two10 hp10
  have hwl := wh_lt S
  have hwe := wh_1 S
  refine Wp_aload_n d_M_lies_0 rfl ?_
  refine Wp_iload_n d_M_lies_1 rfl ?_
  refine Wp_ivv_i (o := 33) (As := [vi p]) d_M_lies_2 ln_M_148 mk_M_isPerson rfl rfl rfl rfl rfl (by omega) (t_M_isPerson E (d - 1) (by omega) w S hM hV p) (fun r2 w2 c2 => ?_)
  obtain ⟨gP, hP, fP⟩ := c2
  rcases gP with ⟨j2, gP⟩ | ⟨j2, gP⟩
  ·
    rw [j2]
    obtain ⟨j, hj, rfl⟩ : ∃ j, j < pN S ∧ p = nI j := i_nIof gP.1 gP.2
    refine Wp_if_eq d_M_lies_5 (fun q => absurd q (by decide)) (fun _ => ?_)
    refine Wp_iload_n d_M_lies_8 rfl ?_
    refine Wp_i2l d_M_lies_9 ?_
    refine Wp_lconst (x := 0) d_M_lies_10 (by decide) ?_
    refine Wp_ldc2 (x := 30) d_M_lies_11 kl_M_164 ?_
    refine Wp_ivs_b (As := [vl m.toInt64, vl 0, vl 30]) d_M_lies_14 ln_M_88 mk_M_in rfl rfl rfl (by omega) (t_M_inI E (d - 1) w2 (x := m) (lo := 0) (hi := 30) (by decide) (by decide)) (fun g14 => ?_) (fun g14 => ?_)
    ·
      obtain ⟨m1, hm1, rfl⟩ : ∃ q, q < 31 ∧ m = nI q := i_nIof (by omega) (by omega)
      refine Wp_if_eq d_M_lies_17 (fun q => absurd q (by decide)) (fun _ => ?_)
      refine Wp_aload_n d_M_lies_20 rfl ?_
      refine Wp_iload_n d_M_lies_21 rfl ?_
      refine Wp_iload_n d_M_lies_22 rfl ?_
      refine Wp_ivv_i (o := 33) (As := [vi (nI j), vi (nI m1)]) d_M_lies_23 ln_M_246 mk_M_liesOf rfl rfl rfl rfl rfl (by omega) (t_M_liesOf E (d - 1) (by omega) w2 S hP hV j m1 hj (by omega)) (fun r23 w23 c23 => ?_)
      obtain ⟨rL, hP2, fL⟩ := c23
      rw [rL]
      refine Wp_goto d_M_lies_26 ?_
      refine Wp_reti (ty := .int) d_M_lies_32 rfl rfl ?_
      exact ⟨by unfold rLies; rw [if_pos ⟨gP, g14⟩, cl (by omega), cl (by omega)], hP2, fr_tr (frF_m fP) (fr_sub fL (by decide))⟩
    ·
      refine Wp_if_eq d_M_lies_17 (fun _ => ?_) (fun q => absurd (by decide) q)
      refine Wp_sipush (x := (-1002)) d_M_lies_29 (by decide) ?_
      refine Wp_reti (ty := .int) d_M_lies_32 rfl rfl ?_
      exact ⟨by unfold rLies; rw [if_neg (by first | exact fun q => gP q.1 | exact fun q => g14 q.2)], hP, frF_m fP⟩
  ·
    rw [j2]
    refine Wp_if_eq d_M_lies_5 (fun _ => ?_) (fun q => absurd (by decide) q)
    refine Wp_sipush (x := (-1002)) d_M_lies_29 (by decide) ?_
    refine Wp_reti (ty := .int) d_M_lies_32 rfl rfl ?_
    exact ⟨by unfold rLies; rw [if_neg (by first | exact fun q => gP q.1 | exact fun q => g14 q.2)], hP, frF_m fP⟩
