theorem nI_nm {a : Nat} (h : a < 2147483648) : ¬ nI a = -1 := by
  intro q
  have h1 := congrArg Int32.toInt q
  rw [ti h] at h1
  have e : Int32.toInt (-1) = -1 := rfl
  omega
set_option maxRecDepth 100000 in
set_option maxHeartbeats 4000000 in
theorem l_P_un (E : mE) (d : Nat) (hd : 3 ≤ d) (w0 : mw) (n : Nat) (hn : w0 1 6 = nI n) (hn2 : n ≤ 40) (Q : Option mv → mw → Prop) (hQ : ∀ (w : mw) (many m3 : Int32) (u2 u4 u5 u6 : Option mv), frP w0 w → ((w 1 8 = -1 ∧ many = nI (pres (w0 2) n).2 ∧ (pres (w0 2) n).1 = -1) ∨ (∃ e, e ≤ 40 ∧ w 1 8 = nI e ∧ (pres (w0 2) n).1 = nI e ∧ (pres (w0 2) n).2 = 0)) → (∀ i, i < (pres (w0 2) n).2 → w 3 i = nI (pAge (w0 2) n i)) → Wp E d m_P_understand 166 [lr 1, li many, u2, li m3, u4, u5, u6] [] w Q) : ∀ (f r : Nat) (w : mw) (u5 u6 : Option mv), r + f = 10 → pres (w0 2) n = pgo (w0 2) n f r → (pos (w0 2) n r) ≤ n → frP w0 w → w 1 8 = -1 → (∀ i, i < r → w 3 i = nI (pAge (w0 2) n i)) → Wp E d m_P_understand 25 [lr 1, li (nI r), li (nI (pos (w0 2) n r)), li 1, li (nI r), u5, u6] [] w Q := by
  intro f
  induction f with
  | zero =>
    intro r w u5 u6 hr hg hp hf h8 hi
    have h2 : w 2 = w0 2 := hf.1 2 (by decide)
    have h6 : w 1 6 = nI n := (hf.2 6 (by decide)).trans hn
    have hb := efr_ge (t := (w0 2)) (n := n) 3 (pos (w0 2) n r)
    have hb3 : (pEnd (w0 2) n r) ≤ n := hb.2.2 hp
    have hb1 : (pos (w0 2) n r) ≤ (pEnd (w0 2) n r) := hb.1
    have hpe : (pos (w0 2) n r) + ((pEnd (w0 2) n r) - (pos (w0 2) n r)) = (pEnd (w0 2) n r) := by omega
    have hal : (pAge (w0 2) n r) < 1000 := pAge_lt
    have hD : ∀ j, (pos (w0 2) n r) ≤ j → j < (pos (w0 2) n r) + ((pEnd (w0 2) n r) - (pos (w0 2) n r)) → dig (w 2 j) = true := by
      intro j h3 h4
      rw [h2]; exact efr_dig (n := n) 3 (pos (w0 2) n r) j h3 (by rw [hpe] at h4; exact h4)
    have cE : Td E (d - 1) m_P_endOfFigures [vr 1, vi (nI (pos (w0 2) n r))] w (nI (pEnd (w0 2) n r)) w := by
      have h := t_P_endOfFigures E (d - 1) (by omega) w n (pos (w0 2) n r) h6 hn2 hp
      rw [h2] at h; exact h
    have cA : Td E (d - 1) m_P_ageAt [vr 1, vi (nI (pos (w0 2) n r)), vi (nI (pEnd (w0 2) n r))] w (nI (pAge (w0 2) n r)) w := by
      have h := t_P_ageAt E (d - 1) (by omega) w (pos (w0 2) n r) ((pEnd (w0 2) n r) - (pos (w0 2) n r)) (by omega) hD
      rw [h2, hpe] at h; exact h
    refine Wp_iload_n d_P_understand_25 rfl ?_
    refine Wp_if_eq d_P_understand_26 (fun q => absurd q (by decide)) (fun _ => ?_)
    refine Wp_iload d_P_understand_29 rfl ?_
    refine Wp_bipush (x := 10) d_P_understand_31 (by decide) ?_
    refine Wp_icmp_gt d_P_understand_33 (fun q => absurd (n_lt (a := 10) q (by omega) (by omega)) (by omega)) (fun h33 => ?_)
    refine Wp_aload_n d_P_understand_36 rfl ?_
    refine Wp_iload_n d_P_understand_37 rfl ?_
    refine Wp_ivv_d (o := 1) (As := [vi (nI (pos (w0 2) n r))]) d_P_understand_38 ln_P_56 mk_P_endOfFigures rfl rfl rfl rfl rfl (by omega) cE ?_
    refine Wp_istore (ls2 := [lr 1, li (nI r), li (nI (pos (w0 2) n r)), li 1, li (nI r), li (nI (pEnd (w0 2) n r)), u6]) d_P_understand_41 rfl rfl rfl ?_
    refine Wp_aload_n d_P_understand_43 rfl ?_
    refine Wp_iload_n d_P_understand_44 rfl ?_
    refine Wp_iload d_P_understand_45 rfl ?_
    refine Wp_ivv_d (o := 1) (As := [vi (nI (pos (w0 2) n r)), vi (nI (pEnd (w0 2) n r))]) d_P_understand_47 ln_P_60 mk_P_ageAt rfl rfl rfl rfl rfl (by omega) cA ?_
    refine Wp_istore (ls2 := [lr 1, li (nI r), li (nI (pos (w0 2) n r)), li 1, li (nI r), li (nI (pEnd (w0 2) n r)), li (nI (pAge (w0 2) n r))]) d_P_understand_50 rfl rfl rfl ?_
    refine Wp_iload d_P_understand_52 rfl ?_
    refine Wp_iload_n d_P_understand_54 rfl ?_
    refine Wp_icmp_eq d_P_understand_55 (fun h55 => ?_) (fun h55 => ?_)
    ·
      have g55 : (pEnd (w0 2) n r) = (pos (w0 2) n r) := n_eq h55 (by omega) (by omega)
      refine Wp_aload_n d_P_understand_72 rfl ?_
      refine Wp_iload_n d_P_understand_73 rfl ?_
      refine Wp_puti d_P_understand_74 fp_P_30 rfl rfl rfl ?_
      refine Wp_iconst (x := 0) d_P_understand_77 (by decide) ?_
      refine Wp_istore_n (ls2 := [lr 1, li (nI r), li (nI (pos (w0 2) n r)), li 0, li (nI r), li (nI (pEnd (w0 2) n r)), li (nI (pAge (w0 2) n r))]) d_P_understand_78 rfl rfl rfl ?_
      refine Wp_goto d_P_understand_79 ?_
      refine Wp_iinc (z := nI (r + 1)) (ls2 := [lr 1, li (nI r), li (nI (pos (w0 2) n r)), li 0, li (nI (r + 1)), li (nI (pEnd (w0 2) n r)), li (nI (pAge (w0 2) n r))]) d_P_understand_160 rfl (nI_add r 1) rfl rfl rfl ?_
      refine Wp_goto d_P_understand_163 ?_
      refine Wp_iload_n d_P_understand_25 rfl ?_
      refine Wp_if_eq d_P_understand_26 (fun _ => ?_) (fun q => absurd (by decide) q)
      have hg2 : pres (w0 2) n = (nI (pos (w0 2) n r), 0) := hg.trans (rfl)
      exact hQ _ _ _ _ _ _ _ (frP_tr hf frP_8) (Or.inr ⟨(pos (w0 2) n r), by omega, mU_at, by rw [hg2], by rw [hg2]⟩) (fun i h => by rw [hg2] at h; exact absurd h (Nat.not_lt_zero _))
    ·
      have g55 : (pEnd (w0 2) n r) ≠ (pos (w0 2) n r) := n_ne h55 (by omega) (by omega)
      refine Wp_iload d_P_understand_58 rfl ?_
      refine Wp_bipush (x := 120) d_P_understand_60 (by decide) ?_
      refine Wp_icmp_gt d_P_understand_62 (fun h62 => ?_) (fun h62 => ?_)
      ·
        have g62 : 120 < (pAge (w0 2) n r) := n_lt h62 (by omega) (by omega)
        refine Wp_aload_n d_P_understand_72 rfl ?_
        refine Wp_iload_n d_P_understand_73 rfl ?_
        refine Wp_puti d_P_understand_74 fp_P_30 rfl rfl rfl ?_
        refine Wp_iconst (x := 0) d_P_understand_77 (by decide) ?_
        refine Wp_istore_n (ls2 := [lr 1, li (nI r), li (nI (pos (w0 2) n r)), li 0, li (nI r), li (nI (pEnd (w0 2) n r)), li (nI (pAge (w0 2) n r))]) d_P_understand_78 rfl rfl rfl ?_
        refine Wp_goto d_P_understand_79 ?_
        refine Wp_iinc (z := nI (r + 1)) (ls2 := [lr 1, li (nI r), li (nI (pos (w0 2) n r)), li 0, li (nI (r + 1)), li (nI (pEnd (w0 2) n r)), li (nI (pAge (w0 2) n r))]) d_P_understand_160 rfl (nI_add r 1) rfl rfl rfl ?_
        refine Wp_goto d_P_understand_163 ?_
        refine Wp_iload_n d_P_understand_25 rfl ?_
        refine Wp_if_eq d_P_understand_26 (fun _ => ?_) (fun q => absurd (by decide) q)
        have hg2 : pres (w0 2) n = (nI (pos (w0 2) n r), 0) := hg.trans (rfl)
        exact hQ _ _ _ _ _ _ _ (frP_tr hf frP_8) (Or.inr ⟨(pos (w0 2) n r), by omega, mU_at, by rw [hg2], by rw [hg2]⟩) (fun i h => by rw [hg2] at h; exact absurd h (Nat.not_lt_zero _))
      ·
        have g62 : (pAge (w0 2) n r) ≤ 120 := n_nlt h62 (by omega) (by omega)
        refine Wp_iload d_P_understand_65 rfl ?_
        refine Wp_bipush (x := 10) d_P_understand_67 (by decide) ?_
        refine Wp_icmp_ne d_P_understand_69 (fun q => absurd (by rw [show r = 10 by omega]; rfl) q) (fun h69 => ?_)
        refine Wp_aload_n d_P_understand_72 rfl ?_
        refine Wp_iload_n d_P_understand_73 rfl ?_
        refine Wp_puti d_P_understand_74 fp_P_30 rfl rfl rfl ?_
        refine Wp_iconst (x := 0) d_P_understand_77 (by decide) ?_
        refine Wp_istore_n (ls2 := [lr 1, li (nI r), li (nI (pos (w0 2) n r)), li 0, li (nI r), li (nI (pEnd (w0 2) n r)), li (nI (pAge (w0 2) n r))]) d_P_understand_78 rfl rfl rfl ?_
        refine Wp_goto d_P_understand_79 ?_
        refine Wp_iinc (z := nI (r + 1)) (ls2 := [lr 1, li (nI r), li (nI (pos (w0 2) n r)), li 0, li (nI (r + 1)), li (nI (pEnd (w0 2) n r)), li (nI (pAge (w0 2) n r))]) d_P_understand_160 rfl (nI_add r 1) rfl rfl rfl ?_
        refine Wp_goto d_P_understand_163 ?_
        refine Wp_iload_n d_P_understand_25 rfl ?_
        refine Wp_if_eq d_P_understand_26 (fun _ => ?_) (fun q => absurd (by decide) q)
        have hg2 : pres (w0 2) n = (nI (pos (w0 2) n r), 0) := hg.trans (rfl)
        exact hQ _ _ _ _ _ _ _ (frP_tr hf frP_8) (Or.inr ⟨(pos (w0 2) n r), by omega, mU_at, by rw [hg2], by rw [hg2]⟩) (fun i h => by rw [hg2] at h; exact absurd h (Nat.not_lt_zero _))
  | succ f ih =>
    intro r w u5 u6 hr hg hp hf h8 hi
    have h2 : w 2 = w0 2 := hf.1 2 (by decide)
    have h6 : w 1 6 = nI n := (hf.2 6 (by decide)).trans hn
    have hb := efr_ge (t := (w0 2)) (n := n) 3 (pos (w0 2) n r)
    have hb3 : (pEnd (w0 2) n r) ≤ n := hb.2.2 hp
    have hb1 : (pos (w0 2) n r) ≤ (pEnd (w0 2) n r) := hb.1
    have hpe : (pos (w0 2) n r) + ((pEnd (w0 2) n r) - (pos (w0 2) n r)) = (pEnd (w0 2) n r) := by omega
    have hal : (pAge (w0 2) n r) < 1000 := pAge_lt
    have hD : ∀ j, (pos (w0 2) n r) ≤ j → j < (pos (w0 2) n r) + ((pEnd (w0 2) n r) - (pos (w0 2) n r)) → dig (w 2 j) = true := by
      intro j h3 h4
      rw [h2]; exact efr_dig (n := n) 3 (pos (w0 2) n r) j h3 (by rw [hpe] at h4; exact h4)
    have cE : Td E (d - 1) m_P_endOfFigures [vr 1, vi (nI (pos (w0 2) n r))] w (nI (pEnd (w0 2) n r)) w := by
      have h := t_P_endOfFigures E (d - 1) (by omega) w n (pos (w0 2) n r) h6 hn2 hp
      rw [h2] at h; exact h
    have cA : Td E (d - 1) m_P_ageAt [vr 1, vi (nI (pos (w0 2) n r)), vi (nI (pEnd (w0 2) n r))] w (nI (pAge (w0 2) n r)) w := by
      have h := t_P_ageAt E (d - 1) (by omega) w (pos (w0 2) n r) ((pEnd (w0 2) n r) - (pos (w0 2) n r)) (by omega) hD
      rw [h2, hpe] at h; exact h
    refine Wp_iload_n d_P_understand_25 rfl ?_
    refine Wp_if_eq d_P_understand_26 (fun q => absurd q (by decide)) (fun _ => ?_)
    refine Wp_iload d_P_understand_29 rfl ?_
    refine Wp_bipush (x := 10) d_P_understand_31 (by decide) ?_
    refine Wp_icmp_gt d_P_understand_33 (fun q => absurd (n_lt (a := 10) q (by omega) (by omega)) (by omega)) (fun h33 => ?_)
    refine Wp_aload_n d_P_understand_36 rfl ?_
    refine Wp_iload_n d_P_understand_37 rfl ?_
    refine Wp_ivv_d (o := 1) (As := [vi (nI (pos (w0 2) n r))]) d_P_understand_38 ln_P_56 mk_P_endOfFigures rfl rfl rfl rfl rfl (by omega) cE ?_
    refine Wp_istore (ls2 := [lr 1, li (nI r), li (nI (pos (w0 2) n r)), li 1, li (nI r), li (nI (pEnd (w0 2) n r)), u6]) d_P_understand_41 rfl rfl rfl ?_
    refine Wp_aload_n d_P_understand_43 rfl ?_
    refine Wp_iload_n d_P_understand_44 rfl ?_
    refine Wp_iload d_P_understand_45 rfl ?_
    refine Wp_ivv_d (o := 1) (As := [vi (nI (pos (w0 2) n r)), vi (nI (pEnd (w0 2) n r))]) d_P_understand_47 ln_P_60 mk_P_ageAt rfl rfl rfl rfl rfl (by omega) cA ?_
    refine Wp_istore (ls2 := [lr 1, li (nI r), li (nI (pos (w0 2) n r)), li 1, li (nI r), li (nI (pEnd (w0 2) n r)), li (nI (pAge (w0 2) n r))]) d_P_understand_50 rfl rfl rfl ?_
    refine Wp_iload d_P_understand_52 rfl ?_
    refine Wp_iload_n d_P_understand_54 rfl ?_
    refine Wp_icmp_eq d_P_understand_55 (fun h55 => ?_) (fun h55 => ?_)
    ·
      have g55 : (pEnd (w0 2) n r) = (pos (w0 2) n r) := n_eq h55 (by omega) (by omega)
      refine Wp_aload_n d_P_understand_72 rfl ?_
      refine Wp_iload_n d_P_understand_73 rfl ?_
      refine Wp_puti d_P_understand_74 fp_P_30 rfl rfl rfl ?_
      refine Wp_iconst (x := 0) d_P_understand_77 (by decide) ?_
      refine Wp_istore_n (ls2 := [lr 1, li (nI r), li (nI (pos (w0 2) n r)), li 0, li (nI r), li (nI (pEnd (w0 2) n r)), li (nI (pAge (w0 2) n r))]) d_P_understand_78 rfl rfl rfl ?_
      refine Wp_goto d_P_understand_79 ?_
      refine Wp_iinc (z := nI (r + 1)) (ls2 := [lr 1, li (nI r), li (nI (pos (w0 2) n r)), li 0, li (nI (r + 1)), li (nI (pEnd (w0 2) n r)), li (nI (pAge (w0 2) n r))]) d_P_understand_160 rfl (nI_add r 1) rfl rfl rfl ?_
      refine Wp_goto d_P_understand_163 ?_
      refine Wp_iload_n d_P_understand_25 rfl ?_
      refine Wp_if_eq d_P_understand_26 (fun _ => ?_) (fun q => absurd (by decide) q)
      have hg2 : pres (w0 2) n = (nI (pos (w0 2) n r), 0) := hg.trans (by rw [pgo, if_pos (by omega)])
      exact hQ _ _ _ _ _ _ _ (frP_tr hf frP_8) (Or.inr ⟨(pos (w0 2) n r), by omega, mU_at, by rw [hg2], by rw [hg2]⟩) (fun i h => by rw [hg2] at h; exact absurd h (Nat.not_lt_zero _))
    ·
      have g55 : (pEnd (w0 2) n r) ≠ (pos (w0 2) n r) := n_ne h55 (by omega) (by omega)
      refine Wp_iload d_P_understand_58 rfl ?_
      refine Wp_bipush (x := 120) d_P_understand_60 (by decide) ?_
      refine Wp_icmp_gt d_P_understand_62 (fun h62 => ?_) (fun h62 => ?_)
      ·
        have g62 : 120 < (pAge (w0 2) n r) := n_lt h62 (by omega) (by omega)
        refine Wp_aload_n d_P_understand_72 rfl ?_
        refine Wp_iload_n d_P_understand_73 rfl ?_
        refine Wp_puti d_P_understand_74 fp_P_30 rfl rfl rfl ?_
        refine Wp_iconst (x := 0) d_P_understand_77 (by decide) ?_
        refine Wp_istore_n (ls2 := [lr 1, li (nI r), li (nI (pos (w0 2) n r)), li 0, li (nI r), li (nI (pEnd (w0 2) n r)), li (nI (pAge (w0 2) n r))]) d_P_understand_78 rfl rfl rfl ?_
        refine Wp_goto d_P_understand_79 ?_
        refine Wp_iinc (z := nI (r + 1)) (ls2 := [lr 1, li (nI r), li (nI (pos (w0 2) n r)), li 0, li (nI (r + 1)), li (nI (pEnd (w0 2) n r)), li (nI (pAge (w0 2) n r))]) d_P_understand_160 rfl (nI_add r 1) rfl rfl rfl ?_
        refine Wp_goto d_P_understand_163 ?_
        refine Wp_iload_n d_P_understand_25 rfl ?_
        refine Wp_if_eq d_P_understand_26 (fun _ => ?_) (fun q => absurd (by decide) q)
        have hg2 : pres (w0 2) n = (nI (pos (w0 2) n r), 0) := hg.trans (by rw [pgo, if_pos (by omega)])
        exact hQ _ _ _ _ _ _ _ (frP_tr hf frP_8) (Or.inr ⟨(pos (w0 2) n r), by omega, mU_at, by rw [hg2], by rw [hg2]⟩) (fun i h => by rw [hg2] at h; exact absurd h (Nat.not_lt_zero _))
      ·
        have g62 : (pAge (w0 2) n r) ≤ 120 := n_nlt h62 (by omega) (by omega)
        refine Wp_iload d_P_understand_65 rfl ?_
        refine Wp_bipush (x := 10) d_P_understand_67 (by decide) ?_
        refine Wp_icmp_ne d_P_understand_69 (fun h69 => ?_) (fun q => absurd (n_eq (b := 10) q (by omega) (by omega)) (by omega))
        refine Wp_aload_n d_P_understand_82 rfl ?_
        refine Wp_getr d_P_understand_83 fd_P_15 rfl rfl rfl ?_
        refine Wp_iload d_P_understand_86 rfl ?_
        refine Wp_iload d_P_understand_88 rfl ?_
        refine Wp_iastN (j := r) d_P_understand_90 rfl rfl rfl rfl (by omega) ?_
        refine Wp_iload d_P_understand_91 rfl ?_
        refine Wp_iconst (x := 1) d_P_understand_93 (by decide) ?_
        refine Wp_iadd d_P_understand_94 ?_
        refine Wp_eqi (x2 := nI (r + 1)) (nI_add r 1) ?_
        refine Wp_istore_n (ls2 := [lr 1, li (nI (r + 1)), li (nI (pos (w0 2) n r)), li 1, li (nI r), li (nI (pEnd (w0 2) n r)), li (nI (pAge (w0 2) n r))]) d_P_understand_95 rfl rfl rfl ?_
        refine Wp_iload d_P_understand_96 rfl ?_
        refine Wp_aload_n d_P_understand_98 rfl ?_
        refine Wp_getf d_P_understand_99 fd_P_34 rfl rfl rfl ?_
        refine Wp_eqi (x2 := w 1 6) (by simp [mU, mUr, upd]) ?_
        refine Wp_eqi (x2 := nI n) h6 ?_
        refine Wp_icmp_ge d_P_understand_102 (fun h102 => ?_) (fun h102 => ?_)
        ·
          have g102 : n ≤ (pEnd (w0 2) n r) := n_le h102 (by omega) (by omega)
          refine Wp_iconst (x := 0) d_P_understand_109 (by decide) ?_
          refine Wp_istore_n (ls2 := [lr 1, li (nI (r + 1)), li (nI (pos (w0 2) n r)), li 0, li (nI r), li (nI (pEnd (w0 2) n r)), li (nI (pAge (w0 2) n r))]) d_P_understand_110 rfl rfl rfl ?_
          refine Wp_aload_n d_P_understand_111 rfl ?_
          refine Wp_iload_n d_P_understand_112 rfl ?_
          refine Wp_if_eq d_P_understand_113 (fun _ => ?_) (fun q => absurd (by decide) q)
          refine Wp_iconst (x := (-1)) d_P_understand_133 (by decide) ?_
          refine Wp_puti d_P_understand_134 fp_P_30 rfl rfl rfl ?_
          refine Wp_iload_n d_P_understand_137 rfl ?_
          refine Wp_if_eq d_P_understand_138 (fun _ => ?_) (fun q => absurd (by decide) q)
          refine Wp_iconst (x := 0) d_P_understand_153 (by decide) ?_
          refine Wp_istore_n (ls2 := [lr 1, li (nI (r + 1)), li (nI (pos (w0 2) n r)), li 0, li (nI r), li (nI (pEnd (w0 2) n r)), li (nI (pAge (w0 2) n r))]) d_P_understand_154 rfl rfl rfl ?_
          refine Wp_iload d_P_understand_155 rfl ?_
          refine Wp_iconst (x := 1) d_P_understand_157 (by decide) ?_
          refine Wp_iadd d_P_understand_158 ?_
          refine Wp_eqi (x2 := nI ((pEnd (w0 2) n r) + 1)) (nI_add (pEnd (w0 2) n r) 1) ?_
          refine Wp_istore_n (ls2 := [lr 1, li (nI (r + 1)), li (nI ((pEnd (w0 2) n r) + 1)), li 0, li (nI r), li (nI (pEnd (w0 2) n r)), li (nI (pAge (w0 2) n r))]) d_P_understand_159 rfl rfl rfl ?_
          refine Wp_iinc (z := nI (r + 1)) (ls2 := [lr 1, li (nI (r + 1)), li (nI ((pEnd (w0 2) n r) + 1)), li 0, li (nI (r + 1)), li (nI (pEnd (w0 2) n r)), li (nI (pAge (w0 2) n r))]) d_P_understand_160 rfl (nI_add r 1) rfl rfl rfl ?_
          refine Wp_goto d_P_understand_163 ?_
          refine Wp_iload_n d_P_understand_25 rfl ?_
          refine Wp_if_eq d_P_understand_26 (fun _ => ?_) (fun q => absurd (by decide) q)
          have hg2 : pres (w0 2) n = (-1, r + 1) := hg.trans (by rw [pgo, if_neg (by omega), if_pos (by omega)])
          refine hQ _ _ _ _ _ _ _ (frP_tr (frP_tr hf frP_a) frP_8) (Or.inl ⟨mU_at, by rw [hg2], by rw [hg2]⟩) (fun i h => ?_)
          rw [hg2] at h
          have h7 : i < r + 1 := h
          rw [mU_ne (by decide)]
          by_cases h1 : i = r
          · subst h1; exact mU_at
          · rw [mU_at_ne h1]; exact hi i (by omega)
        ·
          have g102 : (pEnd (w0 2) n r) < n := n_nle h102 (by omega) (by omega)
          refine Wp_iconst (x := 1) d_P_understand_105 (by decide) ?_
          refine Wp_goto d_P_understand_106 ?_
          refine Wp_istore_n (ls2 := [lr 1, li (nI (r + 1)), li (nI (pos (w0 2) n r)), li 1, li (nI r), li (nI (pEnd (w0 2) n r)), li (nI (pAge (w0 2) n r))]) d_P_understand_110 rfl rfl rfl ?_
          refine Wp_aload_n d_P_understand_111 rfl ?_
          refine Wp_iload_n d_P_understand_112 rfl ?_
          refine Wp_if_eq d_P_understand_113 (fun q => absurd q (by decide)) (fun _ => ?_)
          refine Wp_aload_n d_P_understand_116 rfl ?_
          refine Wp_getr d_P_understand_117 fd_P_11 rfl rfl rfl ?_
          refine Wp_iload d_P_understand_120 rfl ?_
          refine Wp_ialdN (j := (pEnd (w0 2) n r)) d_P_understand_122 rfl rfl rfl rfl (by omega) ?_
          refine Wp_eqi (x2 := w 2 (pEnd (w0 2) n r)) (by simp [mU, mUr, upd]) ?_
          refine Wp_bipush (x := 59) d_P_understand_123 (by decide) ?_
          refine Wp_icmp_eq d_P_understand_125 (fun h125 => ?_) (fun h125 => ?_)
          ·
            refine Wp_iconst (x := (-1)) d_P_understand_133 (by decide) ?_
            refine Wp_puti d_P_understand_134 fp_P_30 rfl rfl rfl ?_
            refine Wp_iload_n d_P_understand_137 rfl ?_
            refine Wp_if_eq d_P_understand_138 (fun q => absurd q (by decide)) (fun _ => ?_)
            refine Wp_aload_n d_P_understand_141 rfl ?_
            refine Wp_getf d_P_understand_142 fd_P_30 rfl rfl rfl ?_
            refine Wp_eqi (x2 := (-1)) (by simp [mU, mUr, upd]) ?_
            refine Wp_iconst (x := (-1)) d_P_understand_145 (by decide) ?_
            refine Wp_icmp_ne d_P_understand_146 (fun q => absurd q (by decide)) (fun _ => ?_)
            refine Wp_iconst (x := 1) d_P_understand_149 (by decide) ?_
            refine Wp_goto d_P_understand_150 ?_
            refine Wp_istore_n (ls2 := [lr 1, li (nI (r + 1)), li (nI (pos (w0 2) n r)), li 1, li (nI r), li (nI (pEnd (w0 2) n r)), li (nI (pAge (w0 2) n r))]) d_P_understand_154 rfl rfl rfl ?_
            refine Wp_iload d_P_understand_155 rfl ?_
            refine Wp_iconst (x := 1) d_P_understand_157 (by decide) ?_
            refine Wp_iadd d_P_understand_158 ?_
            refine Wp_eqi (x2 := nI ((pEnd (w0 2) n r) + 1)) (nI_add (pEnd (w0 2) n r) 1) ?_
            refine Wp_istore_n (ls2 := [lr 1, li (nI (r + 1)), li (nI ((pEnd (w0 2) n r) + 1)), li 1, li (nI r), li (nI (pEnd (w0 2) n r)), li (nI (pAge (w0 2) n r))]) d_P_understand_159 rfl rfl rfl ?_
            refine Wp_iinc (z := nI (r + 1)) (ls2 := [lr 1, li (nI (r + 1)), li (nI ((pEnd (w0 2) n r) + 1)), li 1, li (nI (r + 1)), li (nI (pEnd (w0 2) n r)), li (nI (pAge (w0 2) n r))]) d_P_understand_160 rfl (nI_add r 1) rfl rfl rfl ?_
            refine Wp_goto d_P_understand_163 ?_
            rw [h2] at h125
            have hg2 : pgo (w0 2) n (f + 1) r = pgo (w0 2) n f (r + 1) := by rw [pgo, if_neg (by omega), if_neg (by omega), if_pos h125]
            refine ih (r + 1) _ _ _ (by omega) (hg.trans hg2) ?_ (frP_tr (frP_tr hf frP_a) frP_8) mU_at (fun i h => ?_)
            · show (pEnd (w0 2) n r) + 1 ≤ n; omega
            · rw [mU_ne (by decide)]
              by_cases h1 : i = r
              · subst h1; exact mU_at
              · rw [mU_at_ne h1]; exact hi i (by omega)
          ·
            have g125 : (w 2 (pEnd (w0 2) n r)).toInt ≠ 59 := i_ne h125
            refine Wp_iload d_P_understand_128 rfl ?_
            refine Wp_goto d_P_understand_130 ?_
            refine Wp_puti d_P_understand_134 fp_P_30 rfl rfl rfl ?_
            refine Wp_iload_n d_P_understand_137 rfl ?_
            refine Wp_if_eq d_P_understand_138 (fun q => absurd q (by decide)) (fun _ => ?_)
            refine Wp_aload_n d_P_understand_141 rfl ?_
            refine Wp_getf d_P_understand_142 fd_P_30 rfl rfl rfl ?_
            refine Wp_eqi (x2 := nI (pEnd (w0 2) n r)) (by simp [mU, mUr, upd]) ?_
            refine Wp_iconst (x := (-1)) d_P_understand_145 (by decide) ?_
            refine Wp_icmp_ne d_P_understand_146 (fun h146 => ?_) (fun q => absurd q (nI_nm (by omega)))
            refine Wp_iconst (x := 0) d_P_understand_153 (by decide) ?_
            refine Wp_istore_n (ls2 := [lr 1, li (nI (r + 1)), li (nI (pos (w0 2) n r)), li 0, li (nI r), li (nI (pEnd (w0 2) n r)), li (nI (pAge (w0 2) n r))]) d_P_understand_154 rfl rfl rfl ?_
            refine Wp_iload d_P_understand_155 rfl ?_
            refine Wp_iconst (x := 1) d_P_understand_157 (by decide) ?_
            refine Wp_iadd d_P_understand_158 ?_
            refine Wp_eqi (x2 := nI ((pEnd (w0 2) n r) + 1)) (nI_add (pEnd (w0 2) n r) 1) ?_
            refine Wp_istore_n (ls2 := [lr 1, li (nI (r + 1)), li (nI ((pEnd (w0 2) n r) + 1)), li 0, li (nI r), li (nI (pEnd (w0 2) n r)), li (nI (pAge (w0 2) n r))]) d_P_understand_159 rfl rfl rfl ?_
            refine Wp_iinc (z := nI (r + 1)) (ls2 := [lr 1, li (nI (r + 1)), li (nI ((pEnd (w0 2) n r) + 1)), li 0, li (nI (r + 1)), li (nI (pEnd (w0 2) n r)), li (nI (pAge (w0 2) n r))]) d_P_understand_160 rfl (nI_add r 1) rfl rfl rfl ?_
            refine Wp_goto d_P_understand_163 ?_
            refine Wp_iload_n d_P_understand_25 rfl ?_
            refine Wp_if_eq d_P_understand_26 (fun _ => ?_) (fun q => absurd (by decide) q)
            rw [h2] at h125
            have hg2 : pres (w0 2) n = (nI (pEnd (w0 2) n r), 0) := hg.trans (by rw [pgo, if_neg (by omega), if_neg (by omega), if_neg h125])
            exact hQ _ _ _ _ _ _ _ (frP_tr (frP_tr hf frP_a) frP_8) (Or.inr ⟨(pEnd (w0 2) n r), by omega, mU_at, by rw [hg2], by rw [hg2]⟩) (fun i h => by rw [hg2] at h; exact absurd h (Nat.not_lt_zero _))
set_option maxRecDepth 100000 in
set_option maxHeartbeats 4000000 in
theorem l_P_un2 (E : mE) (d : Nat) (hd : 3 ≤ d) (w0 : mw) (n : Nat) (hN : (pres (w0 2) n).2 ≤ 10) (hL : ∀ i, i < 10 → -30 ≤ (w0 7 i).toInt ∧ (w0 7 i).toInt ≤ 30) (u1 u2 u5 u6 : Option mv) (m3 : Int32) : ∀ (k i : Nat) (w : mw), i + k = (pres (w0 2) n).2 → w 1 7 = nI (pres (w0 2) n).2 → w 1 8 = (pres (w0 2) n).1 → (∀ j, j < (pres (w0 2) n).2 → w 3 j = nI (pAge (w0 2) n j)) → (∀ j, j < i → w 4 j = nI (((pAge (w0 2) n j : Nat) + (w0 7 j).toInt).toNat)) → fr [1, 3, 4] w0 w → (∀ j, j ≠ 7 → j ≠ 8 → w 1 j = w0 1 j) → Wp E d m_P_understand 186 [lr 1, u1, u2, li m3, li (nI i), u5, u6] [] w (mPv (fun w1 => w1 1 7 = nI (pres (w0 2) n).2 ∧ w1 1 8 = (pres (w0 2) n).1 ∧ (∀ i, i < (pres (w0 2) n).2 → w1 3 i = nI (pAge (w0 2) n i) ∧ w1 4 i = nI (((pAge (w0 2) n i : Nat) + (w0 7 i).toInt).toNat)) ∧ (fr [1, 3, 4] w0 w1 ∧ ∀ j, j ≠ 7 → j ≠ 8 → w1 1 j = w0 1 j))) := by
  intro k
  induction k with
  | zero =>
    intro i w hk h7 h8 h3 h4 hf hf2
    have hin : i = (pres (w0 2) n).2 := by omega
    refine Wp_iload d_P_understand_186 rfl ?_
    refine Wp_aload_n d_P_understand_188 rfl ?_
    refine Wp_getf d_P_understand_189 fd_P_40 rfl rfl rfl ?_
    refine Wp_eqi (x2 := nI (pres (w0 2) n).2) h7 ?_
    refine Wp_icmp_ge d_P_understand_192 (fun h192 => ?_) (fun q => absurd (n_nle q (by omega) (by omega)) (by omega))
    refine Wp_retv d_P_understand_221 rfl ?_
    exact ⟨h7, h8, fun j hj => ⟨h3 j hj, h4 j (by omega)⟩, hf, hf2⟩
  | succ k ih =>
    intro i w hk h7 h8 h3 h4 hf hf2
    have hl := hL i (by omega)
    have e7 : w 7 = w0 7 := hf 7 (by decide)
    have hal : pAge (w0 2) n i < 1000 := pAge_lt
    refine Wp_iload d_P_understand_186 rfl ?_
    refine Wp_aload_n d_P_understand_188 rfl ?_
    refine Wp_getf d_P_understand_189 fd_P_40 rfl rfl rfl ?_
    refine Wp_eqi (x2 := nI (pres (w0 2) n).2) h7 ?_
    refine Wp_icmp_ge d_P_understand_192 (fun q => absurd (n_le q (by omega) (by omega)) (by omega)) (fun h192 => ?_)
    refine Wp_aload_n d_P_understand_195 rfl ?_
    refine Wp_getr d_P_understand_196 fd_P_18 rfl rfl rfl ?_
    refine Wp_iload d_P_understand_199 rfl ?_
    refine Wp_aload_n d_P_understand_201 rfl ?_
    refine Wp_iload d_P_understand_202 rfl ?_
    refine Wp_aload_n d_P_understand_204 rfl ?_
    refine Wp_getr d_P_understand_205 fd_P_15 rfl rfl rfl ?_
    refine Wp_iload d_P_understand_208 rfl ?_
    refine Wp_ialdN (j := i) d_P_understand_210 rfl rfl rfl rfl (by omega) ?_
    refine Wp_eqi (x2 := nI (pAge (w0 2) n i)) (h3 i (by omega)) ?_
    refine Wp_ivv_d (o := 1) (As := [vi (nI i), vi (nI (pAge (w0 2) n i))]) d_P_understand_211 ln_P_47 mk_P_toldAt rfl rfl rfl rfl rfl (by omega) (by have h := t_P_toldAt E (d - 1) (by omega) w i (pAge (w0 2) n i) (by omega) (by omega) (by rw [e7]; exact hl.1) (by rw [e7]; exact hl.2); rw [e7] at h; exact h) ?_
    refine Wp_iastN (j := i) d_P_understand_214 rfl rfl rfl rfl (by omega) ?_
    refine Wp_iinc (z := nI (i + 1)) (ls2 := [lr 1, u1, u2, li m3, li (nI (i + 1)), u5, u6]) d_P_understand_215 rfl (nI_add i 1) rfl rfl rfl ?_
    refine Wp_goto d_P_understand_218 ?_
    refine ih (i + 1) _ (by omega) (by rw [mU_ne (by decide)]; exact h7) (by rw [mU_ne (by decide)]; exact h8) (fun j hj => by rw [mU_ne (by decide)]; exact h3 j hj) (fun j hj => ?_) (fr_U2 hf (by decide)) (fun j h9 h10 => by rw [mU_ne (by decide)]; exact hf2 j h9 h10)
    by_cases h1 : j = i
    · subst h1; exact mU_at
    · rw [mU_at_ne h1]; exact h4 j (by omega)
set_option maxRecDepth 100000 in
set_option maxHeartbeats 4000000 in
theorem t_P_understand (E : mE) (d : Nat) (hd : 3 ≤ d) (w : mw) (n : Nat) (hn : w 1 6 = nI n) (hn2 : n ≤ 40) (hN : (pres (w 2) n).2 ≤ 10) (hL : ∀ i, i < 10 → -30 ≤ (w 7 i).toInt ∧ (w 7 i).toInt ≤ 30) : Tv E d m_P_understand [vr 1] w (fun w1 => w1 1 7 = nI (pres (w 2) n).2 ∧ w1 1 8 = (pres (w 2) n).1 ∧ (∀ i, i < (pres (w 2) n).2 → w1 3 i = nI (pAge (w 2) n i) ∧ w1 4 i = nI (((pAge (w 2) n i : Nat) + (w 7 i).toInt).toNat)) ∧ (fr [1, 3, 4] w w1 ∧ ∀ j, j ≠ 7 → j ≠ 8 → w1 1 j = w 1 j)) := by
  refine ⟨Nat.le_of_ble_eq_true rfl, ?_⟩
  show Wp E d m_P_understand 0 [lr 1, lo, lo, lo, lo, lo, lo] [] w _
  refine Wp_aload_n d_P_understand_0 rfl ?_
  refine Wp_iconst (x := (-1)) d_P_understand_1 (by decide) ?_
  refine Wp_puti d_P_understand_2 fp_P_30 rfl rfl rfl ?_
  refine Wp_iconst (x := 0) d_P_understand_5 (by decide) ?_
  refine Wp_istore_n (ls2 := [lr 1, li 0, lo, lo, lo, lo, lo]) d_P_understand_6 rfl rfl rfl ?_
  refine Wp_iconst (x := 0) d_P_understand_7 (by decide) ?_
  refine Wp_istore_n (ls2 := [lr 1, li 0, li 0, lo, lo, lo, lo]) d_P_understand_8 rfl rfl rfl ?_
  refine Wp_aload_n d_P_understand_9 rfl ?_
  refine Wp_getf d_P_understand_10 fd_P_34 rfl rfl rfl ?_
  refine Wp_eqi (x2 := w 1 6) (by simp [mU, mUr, upd]) ?_
  refine Wp_eqi (x2 := nI n) hn ?_
  refine Wp_if_le d_P_understand_13 (fun h13 => ?_) (fun h13 => ?_)
  ·
    have g13 : n ≤ 0 := n_le h13 (by omega) (by omega)
    refine Wp_iconst (x := 0) d_P_understand_20 (by decide) ?_
    refine Wp_istore_n (ls2 := [lr 1, li 0, li 0, li 0, lo, lo, lo]) d_P_understand_21 rfl rfl rfl ?_
    refine Wp_iconst (x := 0) d_P_understand_22 (by decide) ?_
    refine Wp_istore (ls2 := [lr 1, li 0, li 0, li 0, li 0, lo, lo]) d_P_understand_23 rfl rfl rfl ?_
    have hp0 : pres (w 2) n = (-1, 0) := if_pos (by omega)
    have f2 : frP w (mU w 1 8 (-1)) := frP_8
    have a8 : (mU w 1 8 (-1)) 1 8 = -1 := mU_at
    have ap : (pres (w 2) n).1 = -1 := by rw [hp0]
    have aN : (pres (w 2) n).2 = 0 := by rw [hp0]
    have a2 : ∀ i, i < (pres (w 2) n).2 → (mU w 1 8 (-1)) 3 i = nI (pAge (w 2) n i) := fun i h => by rw [aN] at h; exact absurd h (Nat.not_lt_zero _)
    refine Wp_iload_n d_P_understand_25 rfl ?_
    refine Wp_if_eq d_P_understand_26 (fun _ => ?_) (fun q => absurd (by decide) q)
    refine Wp_aload_n d_P_understand_166 rfl ?_
    refine Wp_aload_n d_P_understand_167 rfl ?_
    refine Wp_getf d_P_understand_168 fd_P_30 rfl rfl rfl ?_
    refine Wp_eqi (x2 := (-1)) (by simp [mU, mUr, upd]) ?_
    refine Wp_iconst (x := (-1)) d_P_understand_171 (by decide) ?_
    refine Wp_icmp_ne d_P_understand_172 (fun q => absurd q (by decide)) (fun _ => ?_)
    refine Wp_iload_n d_P_understand_175 rfl ?_
    refine Wp_goto d_P_understand_176 ?_
    refine Wp_puti d_P_understand_180 fp_P_40 rfl rfl rfl ?_
    refine Wp_iconst (x := 0) d_P_understand_183 (by decide) ?_
    refine Wp_istore (ls2 := [lr 1, li 0, li 0, li 0, li 0, lo, lo]) d_P_understand_184 rfl rfl rfl ?_
    refine l_P_un2 E d (by omega) w n hN hL _ _ _ _ _ (pres (w 2) n).2 0 (mU (mU w 1 8 (-1)) 1 7 0) (Nat.zero_add _) ?_ ?_ (fun j hj => ?_) (fun j hj => absurd hj (Nat.not_lt_zero _)) (fr_U2 (fr_sub f2.1 (by decide)) (by decide)) (fun j h9 h10 => (mU_at_ne h9).trans (f2.2 j h10))
    · rw [mU_at, aN]; rfl
    · rw [mU_at_ne (by decide), a8, ap]
    · rw [mU_ne (by decide)]; exact a2 j hj
  ·
    have g13 : 0 < n := n_nle h13 (by omega) (by omega)
    refine Wp_iconst (x := 1) d_P_understand_16 (by decide) ?_
    refine Wp_goto d_P_understand_17 ?_
    refine Wp_istore_n (ls2 := [lr 1, li 0, li 0, li 1, lo, lo, lo]) d_P_understand_21 rfl rfl rfl ?_
    refine Wp_iconst (x := 0) d_P_understand_22 (by decide) ?_
    refine Wp_istore (ls2 := [lr 1, li 0, li 0, li 1, li 0, lo, lo]) d_P_understand_23 rfl rfl rfl ?_
    refine l_P_un E d (by omega) w n hn hn2 _ (fun w2 many m3 u2 u4 u5 u6 f2 q2 a2 => ?_) 10 0 _ none none rfl (if_neg (by omega)) (Nat.zero_le _) frP_8 mU_at (fun i h => absurd h (Nat.not_lt_zero _))
    rcases q2 with ⟨a8, am, ap⟩ | ⟨e, he, a8, ap, aN⟩
    · rw [am]
      refine Wp_aload_n d_P_understand_166 rfl ?_
      refine Wp_aload_n d_P_understand_167 rfl ?_
      refine Wp_getf d_P_understand_168 fd_P_30 rfl rfl rfl ?_
      refine Wp_eqi (x2 := (-1)) a8 ?_
      refine Wp_iconst (x := (-1)) d_P_understand_171 (by decide) ?_
      refine Wp_icmp_ne d_P_understand_172 (fun q => absurd q (by decide)) (fun _ => ?_)
      refine Wp_iload_n d_P_understand_175 rfl ?_
      refine Wp_goto d_P_understand_176 ?_
      refine Wp_puti d_P_understand_180 fp_P_40 rfl rfl rfl ?_
      refine Wp_iconst (x := 0) d_P_understand_183 (by decide) ?_
      refine Wp_istore (ls2 := [lr 1, li (nI (pres (w 2) n).2), u2, li m3, li 0, u5, u6]) d_P_understand_184 rfl rfl rfl ?_
      refine l_P_un2 E d (by omega) w n hN hL _ _ _ _ _ (pres (w 2) n).2 0 (mU w2 1 7 (nI (pres (w 2) n).2)) (Nat.zero_add _) ?_ ?_ (fun j hj => ?_) (fun j hj => absurd hj (Nat.not_lt_zero _)) (fr_U2 (fr_sub f2.1 (by decide)) (by decide)) (fun j h9 h10 => (mU_at_ne h9).trans (f2.2 j h10))
      · exact mU_at
      · rw [mU_at_ne (by decide), a8, ap]
      · rw [mU_ne (by decide)]; exact a2 j hj
    ·
      refine Wp_aload_n d_P_understand_166 rfl ?_
      refine Wp_aload_n d_P_understand_167 rfl ?_
      refine Wp_getf d_P_understand_168 fd_P_30 rfl rfl rfl ?_
      refine Wp_eqi (x2 := nI e) a8 ?_
      refine Wp_iconst (x := (-1)) d_P_understand_171 (by decide) ?_
      refine Wp_icmp_ne d_P_understand_172 (fun h172 => ?_) (fun q => absurd q (nI_nm (by omega)))
      refine Wp_iconst (x := 0) d_P_understand_179 (by decide) ?_
      refine Wp_puti d_P_understand_180 fp_P_40 rfl rfl rfl ?_
      refine Wp_iconst (x := 0) d_P_understand_183 (by decide) ?_
      refine Wp_istore (ls2 := [lr 1, li many, u2, li m3, li 0, u5, u6]) d_P_understand_184 rfl rfl rfl ?_
      refine l_P_un2 E d (by omega) w n hN hL _ _ _ _ _ (pres (w 2) n).2 0 (mU w2 1 7 0) (Nat.zero_add _) ?_ ?_ (fun j hj => ?_) (fun j hj => absurd hj (Nat.not_lt_zero _)) (fr_U2 (fr_sub f2.1 (by decide)) (by decide)) (fun j h9 h10 => (mU_at_ne h9).trans (f2.2 j h10))
      · rw [mU_at, aN]; rfl
      · rw [mU_at_ne (by decide), a8, ap]
      · rw [mU_ne (by decide)]; exact a2 j hj
