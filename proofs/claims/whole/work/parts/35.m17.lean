set_option maxRecDepth 100000 in
set_option maxHeartbeats 4000000 in
theorem l_M_kw1 (E : mE) (d : Nat) (hd : 1 ≤ d) (w S : mw) (hB : MB w S) (hV : VM S) (h8 : pN S ≤ 8) (r : List Nat) (hR : Row w r) (c g : Nat) (hg : g < 8) (Q : Option mv → mw → Prop) (hQ : Wp E d m_M_keepsWay 64 [lr 33, li (nI c), li 0, li 0, li (nI g), li (nI (grp r g (pN S))), li (nI (pN S))] [] w Q) : ∀ (k p : Nat), p + k = pN S → Wp E d m_M_keepsWay 24 [lr 33, li (nI c), li 0, li 0, li (nI g), li (nI (grp r g p)), li (nI p)] [] w Q := by
  intro k
  induction k with
  | zero =>
    intro p hp
    have hin : pN S = p := by omega
    refine Wp_iload d_M_keepsWay_24 rfl ?_
    refine Wp_aload_n d_M_keepsWay_26 rfl ?_
    refine Wp_getf d_M_keepsWay_27 fd_M_125 rfl rfl rfl ?_
    refine Wp_eqi (x2 := nI (pN S)) hB.1.2.1 ?_
    refine Wp_icmp_ge d_M_keepsWay_30 (fun h30 => ?_) (fun q => absurd (n_nle q (by omega) (by omega)) (by omega))
    rw [hin] at hQ
    exact hQ
  | succ k ih =>
    intro p hp
    have hr := hR.2.2 p
    refine Wp_iload d_M_keepsWay_24 rfl ?_
    refine Wp_aload_n d_M_keepsWay_26 rfl ?_
    refine Wp_getf d_M_keepsWay_27 fd_M_125 rfl rfl rfl ?_
    refine Wp_eqi (x2 := nI (pN S)) hB.1.2.1 ?_
    refine Wp_icmp_ge d_M_keepsWay_30 (fun q => absurd (n_le q (by omega) (by omega)) (by omega)) (fun h30 => ?_)
    refine Wp_iload d_M_keepsWay_33 rfl ?_
    refine Wp_aload_n d_M_keepsWay_35 rfl ?_
    refine Wp_getr d_M_keepsWay_36 fd_M_71 rfl rfl rfl ?_
    refine Wp_iload d_M_keepsWay_39 rfl ?_
    refine Wp_ialdN (j := p) d_M_keepsWay_41 rfl rfl rfl rfl (by omega) ?_
    refine Wp_eqi (x2 := nI (r.getD p 0)) (hR.2.1 _ (by omega)) ?_
    refine Wp_iload d_M_keepsWay_42 rfl ?_
    refine Wp_icmp_ne d_M_keepsWay_44 (fun h44 => ?_) (fun h44 => ?_)
    ·
      have g44 : (r.getD p 0) ≠ g := n_ne h44 (by omega) (by omega)
      refine Wp_iconst (x := 0) d_M_keepsWay_54 (by decide) ?_
      refine Wp_ior d_M_keepsWay_55 ?_
      refine Wp_eqi (x2 := nI (grp r g p)) (Int32.or_zero) ?_
      refine Wp_istore (ls2 := [lr 33, li (nI c), li 0, li 0, li (nI g), li (nI (grp r g p)), li (nI p)]) d_M_keepsWay_56 rfl rfl rfl ?_
      refine Wp_iinc (z := nI (p + 1)) (ls2 := [lr 33, li (nI c), li 0, li 0, li (nI g), li (nI (grp r g p)), li (nI (p + 1))]) d_M_keepsWay_58 rfl (nI_add p 1) rfl rfl rfl ?_
      refine Wp_goto d_M_keepsWay_61 ?_
      have e9 : grp r g (p + 1) = grp r g p := by rw [grp, if_neg (by omega)]
      have h9 := ih (p + 1) (by omega)
      rw [e9] at h9
      exact h9
    ·
      have g44 : (r.getD p 0) = g := n_eq h44 (by omega) (by omega)
      refine Wp_iconst (x := 1) d_M_keepsWay_47 (by decide) ?_
      refine Wp_iload d_M_keepsWay_48 rfl ?_
      refine Wp_ishl d_M_keepsWay_50 ?_
      refine Wp_eqi (x2 := nI (2 ^ p)) (sh1 (by omega)) ?_
      refine Wp_goto d_M_keepsWay_51 ?_
      refine Wp_ior d_M_keepsWay_55 ?_
      refine Wp_eqi (x2 := nI ((grp r g p) ||| (2 ^ p))) (nI_or (grp r g p) (2 ^ p)) ?_
      refine Wp_istore (ls2 := [lr 33, li (nI c), li 0, li 0, li (nI g), li (nI ((grp r g p) ||| (2 ^ p))), li (nI p)]) d_M_keepsWay_56 rfl rfl rfl ?_
      refine Wp_iinc (z := nI (p + 1)) (ls2 := [lr 33, li (nI c), li 0, li 0, li (nI g), li (nI ((grp r g p) ||| (2 ^ p))), li (nI (p + 1))]) d_M_keepsWay_58 rfl (nI_add p 1) rfl rfl rfl ?_
      refine Wp_goto d_M_keepsWay_61 ?_
      have e9 : grp r g (p + 1) = grp r g p ||| 2 ^ p := by rw [grp, if_pos (by omega)]
      have h9 := ih (p + 1) (by omega)
      rw [e9] at h9
      exact h9
set_option maxRecDepth 100000 in
set_option maxHeartbeats 4000000 in
theorem l_M_kw2 (E : mE) (d : Nat) (hd : 1 ≤ d) (w S : mw) (hB : MB w S) (hV : VM S) (h8 : pN S ≤ 8) (r : List Nat) (hR : Row w r) (P : mw → Prop) (hN : wayF S r (pN S) 0 0 = none → P w) (hQ : ∀ c u5 u6, wayF S r (pN S) 0 0 = some c → Wp E d m_M_keepsWay 116 [lr 33, li (nI c), li 0, li 0, li (nI (pN S)), u5, u6] [] w (mPv P)) : ∀ (f g c : Nat) (u5 u6 : Option mv), g + f = pN S → c ≤ 9200 * g → wayF S r (pN S) 0 0 = wayF S r f g c → Wp E d m_M_keepsWay 9 [lr 33, li (nI c), li 0, li 0, li (nI g), u5, u6] [] w (mPv P) := by
  intro f
  have hp10 := (pN_ok S).1
  have hlt := two10 hp10
  have hwl := wh_lt S
  have hwe := wh_1 S
  induction f with
  | zero =>
    intro g c u5 u6 hf hc he
    have hin : pN S = g := by omega
    refine Wp_iload d_M_keepsWay_9 rfl ?_
    refine Wp_aload_n d_M_keepsWay_11 rfl ?_
    refine Wp_getf d_M_keepsWay_12 fd_M_125 rfl rfl rfl ?_
    refine Wp_eqi (x2 := nI (pN S)) hB.1.2.1 ?_
    refine Wp_icmp_ge d_M_keepsWay_15 (fun h15 => ?_) (fun q => absurd (n_nle q (by omega) (by omega)) (by omega))
    have h9 := hQ c u5 u6 he
    rw [hin] at h9
    exact h9
  | succ f ih =>
    intro g c u5 u6 hf hc he
    have hb := grp_lt (r := r) (g := g) (pN S)
    have hnd := needS_lt hV (b := (grp r g (pN S)))
    have hna := ann_le (needS S (grp r g (pN S))) (grp r g (pN S))
    refine Wp_iload d_M_keepsWay_9 rfl ?_
    refine Wp_aload_n d_M_keepsWay_11 rfl ?_
    refine Wp_getf d_M_keepsWay_12 fd_M_125 rfl rfl rfl ?_
    refine Wp_eqi (x2 := nI (pN S)) hB.1.2.1 ?_
    refine Wp_icmp_ge d_M_keepsWay_15 (fun q => absurd (n_le q (by omega) (by omega)) (by omega)) (fun h15 => ?_)
    refine Wp_iconst (x := 0) d_M_keepsWay_18 (by decide) ?_
    refine Wp_istore (ls2 := [lr 33, li (nI c), li 0, li 0, li (nI g), li 0, u6]) d_M_keepsWay_19 rfl rfl rfl ?_
    refine Wp_iconst (x := 0) d_M_keepsWay_21 (by decide) ?_
    refine Wp_istore (ls2 := [lr 33, li (nI c), li 0, li 0, li (nI g), li 0, li 0]) d_M_keepsWay_22 rfl rfl rfl ?_
    refine l_M_kw1 E d (by omega) w S hB hV h8 r hR c g (by omega) _ ?_ (pN S) 0 (Nat.zero_add _)
    refine Wp_iload d_M_keepsWay_64 rfl ?_
    refine Wp_if_eq d_M_keepsWay_66 (fun h66 => ?_) (fun h66 => ?_)
    ·
      have g66 : (grp r g (pN S)) = 0 := n_eq (b := 0) h66 (by omega) (by omega)
      refine Wp_iinc (z := nI (g + 1)) (ls2 := [lr 33, li (nI c), li 0, li 0, li (nI (g + 1)), li (nI (grp r g (pN S))), li (nI (pN S))]) d_M_keepsWay_110 rfl (nI_add g 1) rfl rfl rfl ?_
      refine Wp_goto d_M_keepsWay_113 ?_
      rw [wayF, if_pos g66] at he
      exact ih (g + 1) _ _ _ (by omega) (by omega) he
    ·
      have g66 : (grp r g (pN S)) ≠ 0 := n_ne (b := 0) h66 (by omega) (by omega)
      have hmay := hB.2 (grp r g (pN S)) (by omega) hb
      have hcl := costS_le hV hb (by omega)
      have hpl := popc_le (grp r g (pN S))
      have hna2 : ann (needS S (grp r g (pN S))) (grp r g (pN S)) &&& wh S ≤ wh S := Nat.and_le_right
      refine Wp_aload_n d_M_keepsWay_69 rfl ?_
      refine Wp_getr d_M_keepsWay_70 fd_M_52 rfl rfl rfl ?_
      refine Wp_iload d_M_keepsWay_73 rfl ?_
      refine Wp_zaldN (j := (grp r g (pN S))) d_M_keepsWay_75 rfl rfl rfl rfl (by omega) ?_
      refine Wp_eqi (x2 := bi (okS S (grp r g (pN S)))) hmay.1 ?_
      refine Wp_if_eq d_M_keepsWay_76 (fun h76 => ?_) (fun h76 => ?_)
      ·
        have hok : ¬ okS S (grp r g (pN S)) = true := fun q => by rw [q] at h76; exact absurd h76 (by decide)
        refine Wp_retv d_M_keepsWay_99 rfl ?_
        refine hN ?_
        rw [he, wayF, if_neg g66, if_neg (by first | exact fun q => g96 q.2 | exact fun q => hok q.1)]
      ·
        have hok : okS S (grp r g (pN S)) = true := by
          cases hq : okS S (grp r g (pN S))
          · rw [hq] at h76; exact absurd rfl h76
          · rfl
        refine Wp_aload_n d_M_keepsWay_79 rfl ?_
        refine Wp_getr d_M_keepsWay_80 fd_M_49 rfl rfl rfl ?_
        refine Wp_iload d_M_keepsWay_83 rfl ?_
        refine Wp_ialdN (j := (grp r g (pN S))) d_M_keepsWay_85 rfl rfl rfl rfl (by omega) ?_
        refine Wp_eqi (x2 := nI (needS S (grp r g (pN S)))) hmay.2.2 ?_
        refine Wp_iload d_M_keepsWay_86 rfl ?_
        refine Wp_iconst (x := (-1)) d_M_keepsWay_88 (by decide) ?_
        refine Wp_ixor d_M_keepsWay_89 ?_
        refine Wp_iand d_M_keepsWay_90 ?_
        refine Wp_eqi (x2 := nI (ann (needS S (grp r g (pN S))) (grp r g (pN S)))) (anI (needS S (grp r g (pN S))) (grp r g (pN S))) ?_
        refine Wp_aload_n d_M_keepsWay_91 rfl ?_
        refine Wp_ivv_d (o := 33) (As := []) d_M_keepsWay_92 ln_M_184 mk_M_whole rfl rfl rfl rfl rfl (by omega) (t_M_whole E (d - 1) (by omega) w S hB.1 hV) ?_
        refine Wp_iand d_M_keepsWay_95 ?_
        refine Wp_eqi (x2 := nI ((ann (needS S (grp r g (pN S))) (grp r g (pN S))) &&& (wh S))) (nI_and (ann (needS S (grp r g (pN S))) (grp r g (pN S))) (wh S)) ?_
        refine Wp_if_eq d_M_keepsWay_96 (fun h96 => ?_) (fun h96 => ?_)
        ·
          have g96 : ((ann (needS S (grp r g (pN S))) (grp r g (pN S))) &&& (wh S)) = 0 := n_eq h96 (by omega) (by omega)
          refine Wp_iload_n d_M_keepsWay_100 rfl ?_
          refine Wp_aload_n d_M_keepsWay_101 rfl ?_
          refine Wp_getr d_M_keepsWay_102 fd_M_46 rfl rfl rfl ?_
          refine Wp_iload d_M_keepsWay_105 rfl ?_
          refine Wp_ialdN (j := (grp r g (pN S))) d_M_keepsWay_107 rfl rfl rfl rfl (by omega) ?_
          refine Wp_eqi (x2 := nI (costS S (grp r g (pN S)))) (hmay.2.1.trans (if_pos hok)) ?_
          refine Wp_iadd d_M_keepsWay_108 ?_
          refine Wp_eqi (x2 := nI (c + (costS S (grp r g (pN S))))) (nI_add c (costS S (grp r g (pN S)))) ?_
          refine Wp_istore_n (ls2 := [lr 33, li (nI (c + (costS S (grp r g (pN S))))), li 0, li 0, li (nI g), li (nI (grp r g (pN S))), li (nI (pN S))]) d_M_keepsWay_109 rfl rfl rfl ?_
          refine Wp_iinc (z := nI (g + 1)) (ls2 := [lr 33, li (nI (c + (costS S (grp r g (pN S))))), li 0, li 0, li (nI (g + 1)), li (nI (grp r g (pN S))), li (nI (pN S))]) d_M_keepsWay_110 rfl (nI_add g 1) rfl rfl rfl ?_
          refine Wp_goto d_M_keepsWay_113 ?_
          rw [wayF, if_neg g66, if_pos ⟨hok, g96⟩] at he
          exact ih (g + 1) _ _ _ (by omega) (by omega) he
        ·
          have g96 : ((ann (needS S (grp r g (pN S))) (grp r g (pN S))) &&& (wh S)) ≠ 0 := n_ne h96 (by omega) (by omega)
          refine Wp_retv d_M_keepsWay_99 rfl ?_
          refine hN ?_
          rw [he, wayF, if_neg g66, if_neg (by first | exact fun q => g96 q.2 | exact fun q => hok q.1)]
set_option maxRecDepth 100000 in
set_option maxHeartbeats 4000000 in
theorem l_M_kw3 (E : mE) (d : Nat) (hd : 1 ≤ d) (w : mw) (r : List Nat) (hR : Row w r) (c i : Nat) (hi : i < 8) (t : Nat × Nat) (h1 : t.1 < 2 ^ t.2) (h2 : t.2 + i ≤ 28) (u6 : Option mv) (Q : Option mv → mw → Prop) (hQ : Wp E d m_M_keepsWay 174 [lr 33, li (nI c), li (nI (prJ r i i t).1), li (nI (prJ r i i t).2), li (nI i), li (nI i), u6] [] w Q) : ∀ (k j : Nat), j + k = i → Wp E d m_M_keepsWay 131 [lr 33, li (nI c), li (nI (prJ r i j t).1), li (nI (prJ r i j t).2), li (nI i), li (nI j), u6] [] w Q := by
  intro k
  induction k with
  | zero =>
    intro j hj
    have hin : i = j := by omega
    refine Wp_iload d_M_keepsWay_131 rfl ?_
    refine Wp_iload d_M_keepsWay_133 rfl ?_
    refine Wp_icmp_ge d_M_keepsWay_135 (fun h135 => ?_) (fun q => absurd (n_nle q (by omega) (by omega)) (by omega))
    rw [hin] at hQ ⊢
    exact hQ
  | succ k ih =>
    intro j hj
    have hri := hR.2.2 i
    have hrj := hR.2.2 j
    have hb := prJ_2 (r := r) (i := i) (t := t) j
    have hm := prJ_1 (r := r) (i := i) h1 j
    have hm2 : 2 ^ (prJ r i j t).2 ≤ 2 ^ 28 := Nat.pow_le_pow_right (by omega) (by omega)
    have e28 : 2 ^ 28 = 268435456 := rfl
    refine Wp_iload d_M_keepsWay_131 rfl ?_
    refine Wp_iload d_M_keepsWay_133 rfl ?_
    refine Wp_icmp_ge d_M_keepsWay_135 (fun q => absurd (n_le q (by omega) (by omega)) (by omega)) (fun h135 => ?_)
    refine Wp_iload_n d_M_keepsWay_138 rfl ?_
    refine Wp_aload_n d_M_keepsWay_139 rfl ?_
    refine Wp_getr d_M_keepsWay_140 fd_M_71 rfl rfl rfl ?_
    refine Wp_iload d_M_keepsWay_143 rfl ?_
    refine Wp_ialdN (j := i) d_M_keepsWay_145 rfl rfl rfl rfl (by omega) ?_
    refine Wp_eqi (x2 := nI (r.getD i 0)) (hR.2.1 _ (by omega)) ?_
    refine Wp_aload_n d_M_keepsWay_146 rfl ?_
    refine Wp_getr d_M_keepsWay_147 fd_M_71 rfl rfl rfl ?_
    refine Wp_iload d_M_keepsWay_150 rfl ?_
    refine Wp_ialdN (j := j) d_M_keepsWay_152 rfl rfl rfl rfl (by omega) ?_
    refine Wp_eqi (x2 := nI (r.getD j 0)) (hR.2.1 _ (by omega)) ?_
    refine Wp_icmp_ne d_M_keepsWay_153 (fun h153 => ?_) (fun h153 => ?_)
    ·
      have g153 : (r.getD i 0) ≠ (r.getD j 0) := n_ne h153 (by omega) (by omega)
      refine Wp_iconst (x := 0) d_M_keepsWay_162 (by decide) ?_
      refine Wp_ior d_M_keepsWay_163 ?_
      refine Wp_eqi (x2 := nI (prJ r i j t).1) (Int32.or_zero) ?_
      refine Wp_istore_n (ls2 := [lr 33, li (nI c), li (nI (prJ r i j t).1), li (nI (prJ r i j t).2), li (nI i), li (nI j), u6]) d_M_keepsWay_164 rfl rfl rfl ?_
      refine Wp_iinc (z := nI ((prJ r i j t).2 + 1)) (ls2 := [lr 33, li (nI c), li (nI (prJ r i j t).1), li (nI ((prJ r i j t).2 + 1)), li (nI i), li (nI j), u6]) d_M_keepsWay_165 rfl (nI_add (prJ r i j t).2 1) rfl rfl rfl ?_
      refine Wp_iinc (z := nI (j + 1)) (ls2 := [lr 33, li (nI c), li (nI (prJ r i j t).1), li (nI ((prJ r i j t).2 + 1)), li (nI i), li (nI (j + 1)), u6]) d_M_keepsWay_168 rfl (nI_add j 1) rfl rfl rfl ?_
      refine Wp_goto d_M_keepsWay_171 ?_
      have e9 : prJ r i (j + 1) t = ((prJ r i j t).1, (prJ r i j t).2 + 1) := by rw [prJ, if_neg (by omega)]
      have h9 := ih (j + 1) (by omega)
      rw [e9] at h9
      exact h9
    ·
      have g153 : (r.getD i 0) = (r.getD j 0) := n_eq h153 (by omega) (by omega)
      refine Wp_iconst (x := 1) d_M_keepsWay_156 (by decide) ?_
      refine Wp_iload_n d_M_keepsWay_157 rfl ?_
      refine Wp_ishl d_M_keepsWay_158 ?_
      refine Wp_eqi (x2 := nI (2 ^ (prJ r i j t).2)) (sh1 (by omega)) ?_
      refine Wp_goto d_M_keepsWay_159 ?_
      refine Wp_ior d_M_keepsWay_163 ?_
      refine Wp_eqi (x2 := nI ((prJ r i j t).1 ||| (2 ^ (prJ r i j t).2))) (nI_or (prJ r i j t).1 (2 ^ (prJ r i j t).2)) ?_
      refine Wp_istore_n (ls2 := [lr 33, li (nI c), li (nI ((prJ r i j t).1 ||| (2 ^ (prJ r i j t).2))), li (nI (prJ r i j t).2), li (nI i), li (nI j), u6]) d_M_keepsWay_164 rfl rfl rfl ?_
      refine Wp_iinc (z := nI ((prJ r i j t).2 + 1)) (ls2 := [lr 33, li (nI c), li (nI ((prJ r i j t).1 ||| (2 ^ (prJ r i j t).2))), li (nI ((prJ r i j t).2 + 1)), li (nI i), li (nI j), u6]) d_M_keepsWay_165 rfl (nI_add (prJ r i j t).2 1) rfl rfl rfl ?_
      refine Wp_iinc (z := nI (j + 1)) (ls2 := [lr 33, li (nI c), li (nI ((prJ r i j t).1 ||| (2 ^ (prJ r i j t).2))), li (nI ((prJ r i j t).2 + 1)), li (nI i), li (nI (j + 1)), u6]) d_M_keepsWay_168 rfl (nI_add j 1) rfl rfl rfl ?_
      refine Wp_goto d_M_keepsWay_171 ?_
      have e9 : prJ r i (j + 1) t = ((prJ r i j t).1 ||| 2 ^ (prJ r i j t).2, (prJ r i j t).2 + 1) := by rw [prJ, if_pos (by omega)]
      have h9 := ih (j + 1) (by omega)
      rw [e9] at h9
      exact h9
set_option maxRecDepth 100000 in
set_option maxHeartbeats 4000000 in
theorem l_M_kw4 (E : mE) (d : Nat) (hd : 1 ≤ d) (w S : mw) (hB : MB w S) (h8 : pN S ≤ 8) (r : List Nat) (hR : Row w r) (W c : Nat) (hW : w 33 27 = nI W) (hW2 : W < 4140) : ∀ (k i : Nat) (u5 u6 : Option mv), i + k = pN S → Wp E d m_M_keepsWay 119 [lr 33, li (nI c), li (nI (pI r i).1), li (nI (pI r i).2), li (nI i), u5, u6] [] w (mPv (fun w1 => w1 = mU (mU (mU w 55 W (nI (pI r (pN S)).1)) 56 W (nI c)) 33 27 (nI (W + 1)))) := by
  intro k
  induction k with
  | zero =>
    intro i u5 u6 hi
    have hin : i = pN S := by omega
    subst hin
    refine Wp_iload d_M_keepsWay_119 rfl ?_
    refine Wp_aload_n d_M_keepsWay_121 rfl ?_
    refine Wp_getf d_M_keepsWay_122 fd_M_125 rfl rfl rfl ?_
    refine Wp_eqi (x2 := nI (pN S)) hB.1.2.1 ?_
    refine Wp_icmp_ge d_M_keepsWay_125 (fun h125 => ?_) (fun q => absurd (n_nle q (by omega) (by omega)) (by omega))
    refine Wp_aload_n d_M_keepsWay_180 rfl ?_
    refine Wp_getr d_M_keepsWay_181 fd_M_74 rfl rfl rfl ?_
    refine Wp_aload_n d_M_keepsWay_184 rfl ?_
    refine Wp_getf d_M_keepsWay_185 fd_M_249 rfl rfl rfl ?_
    refine Wp_eqi (x2 := nI W) hW ?_
    refine Wp_iload_n d_M_keepsWay_188 rfl ?_
    refine Wp_iastN (j := W) d_M_keepsWay_189 rfl rfl rfl rfl (by omega) ?_
    refine Wp_aload_n d_M_keepsWay_190 rfl ?_
    refine Wp_getr d_M_keepsWay_191 fd_M_77 rfl rfl rfl ?_
    refine Wp_aload_n d_M_keepsWay_194 rfl ?_
    refine Wp_getf d_M_keepsWay_195 fd_M_249 rfl rfl rfl ?_
    refine Wp_eqi (x2 := w 33 27) (by simp [mU, mUr, upd]) ?_
    refine Wp_eqi (x2 := nI W) hW ?_
    refine Wp_iload_n d_M_keepsWay_198 rfl ?_
    refine Wp_iastN (j := W) d_M_keepsWay_199 rfl rfl rfl rfl (by omega) ?_
    refine Wp_aload_n d_M_keepsWay_200 rfl ?_
    refine Wp_dup d_M_keepsWay_201 rfl ?_
    refine Wp_getf d_M_keepsWay_202 fd_M_249 rfl rfl rfl ?_
    refine Wp_eqi (x2 := w 33 27) (by simp [mU, mUr, upd]) ?_
    refine Wp_eqi (x2 := nI W) hW ?_
    refine Wp_iconst (x := 1) d_M_keepsWay_205 (by decide) ?_
    refine Wp_iadd d_M_keepsWay_206 ?_
    refine Wp_eqi (x2 := nI (W + 1)) (nI_add W 1) ?_
    refine Wp_puti d_M_keepsWay_207 fp_M_249 rfl rfl rfl ?_
    refine Wp_retv d_M_keepsWay_210 rfl ?_
    exact rfl
  | succ k ih =>
    intro i u5 u6 hi
    have h2 := pI_2 (r := r) i
    have ht := tri_le (i + 1) (by omega)
    have ht2 : tri i + i ≤ 28 := ht
    refine Wp_iload d_M_keepsWay_119 rfl ?_
    refine Wp_aload_n d_M_keepsWay_121 rfl ?_
    refine Wp_getf d_M_keepsWay_122 fd_M_125 rfl rfl rfl ?_
    refine Wp_eqi (x2 := nI (pN S)) hB.1.2.1 ?_
    refine Wp_icmp_ge d_M_keepsWay_125 (fun q => absurd (n_le q (by omega) (by omega)) (by omega)) (fun h125 => ?_)
    refine Wp_iconst (x := 0) d_M_keepsWay_128 (by decide) ?_
    refine Wp_istore (ls2 := [lr 33, li (nI c), li (nI (pI r i).1), li (nI (pI r i).2), li (nI i), li 0, u6]) d_M_keepsWay_129 rfl rfl rfl ?_
    refine l_M_kw3 E d (by omega) w r hR c i (by omega) (pI r i) (pI_1 i) (by omega) u6 _ ?_ i 0 (Nat.zero_add _)
    refine Wp_iinc (z := nI (i + 1)) (ls2 := [lr 33, li (nI c), li (nI (prJ r i i (pI r i)).1), li (nI (prJ r i i (pI r i)).2), li (nI (i + 1)), li (nI i), u6]) d_M_keepsWay_174 rfl (nI_add i 1) rfl rfl rfl ?_
    refine Wp_goto d_M_keepsWay_177 ?_
    exact ih (i + 1) _ _ (by omega)
set_option maxRecDepth 100000 in
set_option maxHeartbeats 4000000 in
theorem t_M_keepsWay (E : mE) (d : Nat) (hd : 1 ≤ d) (w : mw) (S : mw) (hB : MB w S) (hV : VM S) (h8 : pN S ≤ 8) (r : List Nat) (hR : Row w r) (W : Nat) (hW : w 33 27 = nI W) (hW2 : W < 4140) : Tv E d m_M_keepsWay [vr 33] w (fun w1 => (wayO S r = none ∧ w1 = w) ∨ ∃ c, wayO S r = some ((pI r (pN S)).1, c) ∧ c ≤ 73600 ∧ w1 = mU (mU (mU w 55 W (nI (pI r (pN S)).1)) 56 W (nI c)) 33 27 (nI (W + 1))) := by
  refine ⟨Nat.le_of_ble_eq_true rfl, ?_⟩
  show Wp E d m_M_keepsWay 0 [lr 33, lo, lo, lo, lo, lo, lo] [] w _
  refine Wp_iconst (x := 0) d_M_keepsWay_0 (by decide) ?_
  refine Wp_istore_n (ls2 := [lr 33, li 0, lo, lo, lo, lo, lo]) d_M_keepsWay_1 rfl rfl rfl ?_
  refine Wp_iconst (x := 0) d_M_keepsWay_2 (by decide) ?_
  refine Wp_istore_n (ls2 := [lr 33, li 0, li 0, lo, lo, lo, lo]) d_M_keepsWay_3 rfl rfl rfl ?_
  refine Wp_iconst (x := 0) d_M_keepsWay_4 (by decide) ?_
  refine Wp_istore_n (ls2 := [lr 33, li 0, li 0, li 0, lo, lo, lo]) d_M_keepsWay_5 rfl rfl rfl ?_
  refine Wp_iconst (x := 0) d_M_keepsWay_6 (by decide) ?_
  refine Wp_istore (ls2 := [lr 33, li 0, li 0, li 0, li 0, lo, lo]) d_M_keepsWay_7 rfl rfl rfl ?_
  have hp10 := (pN_ok S).1
  refine l_M_kw2 E d (by omega) w S hB hV h8 r hR _ (fun q => Or.inl ⟨by unfold wayO; rw [q]; rfl, rfl⟩) (fun c u5 u6 q => ?_) (pN S) 0 0 none none (Nat.zero_add _) (by omega) rfl
  have hcl := wayF_le hV _ _ _ _ q
  refine Wp_iconst (x := 0) d_M_keepsWay_116 (by decide) ?_
  refine Wp_istore (ls2 := [lr 33, li (nI c), li 0, li 0, li 0, u5, u6]) d_M_keepsWay_117 rfl rfl rfl ?_
  refine Wp_mono (fun v w1 h => ?_) (l_M_kw4 E d (by omega) w S hB h8 r hR W c hW hW2 (pN S) 0 _ _ (Nat.zero_add _))
  obtain ⟨hv, h3⟩ := h
  exact ⟨hv, Or.inr ⟨c, by unfold wayO; rw [q]; rfl, by omega, h3⟩⟩
