set_option maxRecDepth 100000 in
set_option maxHeartbeats 4000000 in
theorem l_M_bk1 (E : mE) (d : Nat) (hd : 4 ≤ d) (w0 S : mw) (hV : VM S) (h8 : pN S ≤ 8) (Q : Option mv → mw → Prop) (l0 : List (Nat × Nat)) (hQ : ∀ w, MB w S → Ways w l0 → fr [33, 54, 55, 56] w0 w → Wp E d m_M_backNow 60 [lr 33, li 0, lo, lo, lo, lo] [] w Q) : ∀ (f : Nat) (r : List Nat) (l : List (Nat × Nat)) (w : mw), endF (pN S) f r = true → l.length + f ≤ 4140 → Row w r → Ways w l → MB w S → fr [33, 54, 55, 56] w0 w → l0 = l ++ (rowsF (pN S) f r).filterMap (wayO S) → Wp E d m_M_backNow 44 [lr 33, li 1, lo, lo, lo, lo] [] w Q := by
  intro f
  induction f with
  | zero => intro r l w he; have h : false = true := he; exact absurd h (by decide)
  | succ f ih =>
    intro r l w he hl hR hW hB hf h0
    have hp28 : (pI r (pN S)).1 < 268435456 := by
      have h1 := pI_1 (r := r) (pN S)
      have h2 := pI_2 (r := r) (pN S)
      have h3 := tri_le (pN S) h8
      have h4 : 2 ^ (pI r (pN S)).2 ≤ 2 ^ 28 := Nat.pow_le_pow_right (by omega) (by omega)
      have e28 : 2 ^ 28 = 268435456 := rfl
      omega
    refine Wp_iload_n d_M_backNow_44 rfl ?_
    refine Wp_if_eq d_M_backNow_45 (fun q => absurd q (by decide)) (fun _ => ?_)
    refine Wp_aload_n d_M_backNow_48 rfl ?_
    refine Wp_ivv_v (o := 33) (As := []) d_M_backNow_49 ln_M_252 mk_M_keepsWay rfl rfl rfl rfl rfl (by omega) (t_M_keepsWay E (d - 1) (by omega) w S hB hV h8 r hR l.length hW.1 (by omega)) (fun w2 c49 => ?_)
    have hS : ∃ l2, Ways w2 l2 ∧ MB w2 S ∧ Row w2 r ∧ fr [33, 54, 55, 56] w0 w2 ∧ l2.length ≤ l.length + 1 ∧ l2 = l ++ [r].filterMap (wayO S) := by
      rcases c49 with ⟨q1, q2⟩ | ⟨c, q1, q3, q2⟩
      · rw [q2]; exact ⟨l, hW, hB, hR, hf, by omega, by rw [List.filterMap_cons_none q1]; simp⟩
      · have f2 : fr [33, 55, 56] w (mU (mU (mU w 55 l.length (nI (pI r (pN S)).1)) 56 l.length (nI c)) 33 27 (nI (l.length + 1))) := fr_U2 (fr_U2 (fr_U (by decide)) (by decide)) (by decide)
        rw [q2]; exact ⟨_, Ways_add hW hp28 (by omega), MB_27 (MB_fr hB (L := [55, 56]) (fr_U2 (fr_U (by decide)) (by decide)) (by decide)), Row_fr hR f2 (by decide), fr_tr hf (fr_sub f2 (by decide)), by rw [List.length_append]; exact Nat.le_refl _, by rw [List.filterMap_cons_some q1]; rfl⟩
    obtain ⟨l2, hW2, hB2, hR2, hf2, hl2, e2⟩ := hS
    refine Wp_aload_n d_M_backNow_52 rfl ?_
    refine Wp_ivv_i (o := 33) (As := []) d_M_backNow_53 ln_M_255 mk_M_goesOn rfl rfl rfl rfl rfl (by omega) (t_M_goesOn E (d - 1) (by omega) w2 (pN S) hB2.1.2.1 (by omega) r hR2) (fun r53 w3 c53 => ?_)
    obtain ⟨q5, f3, hR3⟩ := c53
    have hB3 : MB w3 S := MB_fr hB2 f3 (by decide)
    have hW3 : Ways w3 l2 := Ways_fr hW2 f3 (by decide) (by decide) (by decide)
    have hf3 : fr [33, 54, 55, 56] w0 w3 := fr_tr hf2 (fr_sub f3 (by decide))
    rw [q5]
    rw [show rowsF (pN S) (f + 1) r = r :: (if (cyc (pN S - 1) r).1 = true then rowsF (pN S) f (cyc (pN S - 1) r).2 else []) from rfl, show r :: (if (cyc (pN S - 1) r).1 = true then rowsF (pN S) f (cyc (pN S - 1) r).2 else []) = [r] ++ (if (cyc (pN S - 1) r).1 = true then rowsF (pN S) f (cyc (pN S - 1) r).2 else []) from rfl, List.filterMap_append, ← List.append_assoc, ← e2] at h0
    rw [endF] at he
    have hb : (cyc (pN S - 1) r).1 = true ∨ (cyc (pN S - 1) r).1 = false := by cases (cyc (pN S - 1) r).1 <;> simp
    rcases hb with hb | hb
    ·
      rw [if_pos hb] at h0 he
      rw [hb]
      show Wp E d m_M_backNow 56 [lr 33, li 1, lo, lo, lo, lo] [vi 1] w3 Q
      refine Wp_istore_n (ls2 := [lr 33, li 1, lo, lo, lo, lo]) d_M_backNow_56 rfl rfl rfl ?_
      refine Wp_goto d_M_backNow_57 ?_
      exact ih _ l2 w3 he (by omega) hR3 hW3 hB3 hf3 h0
    ·
      rw [if_neg (by rw [hb]; decide)] at h0
      rw [List.filterMap_nil, List.append_nil] at h0
      rw [hb]
      show Wp E d m_M_backNow 56 [lr 33, li 1, lo, lo, lo, lo] [vi 0] w3 Q
      refine Wp_istore_n (ls2 := [lr 33, li 0, lo, lo, lo, lo]) d_M_backNow_56 rfl rfl rfl ?_
      refine Wp_goto d_M_backNow_57 ?_
      refine Wp_iload_n d_M_backNow_44 rfl ?_
      refine Wp_if_eq d_M_backNow_45 (fun _ => ?_) (fun q => absurd (by decide) q)
      rw [h0] at hQ
      exact hQ w3 hB3 hW3 hf3
set_option maxRecDepth 100000 in
set_option maxHeartbeats 4000000 in
theorem l_M_bk2 (E : mE) (d : Nat) (hd : 4 ≤ d) (w : mw) (l : List (Nat × Nat)) (hW : Ways w l) (h4 : l.length ≤ 4140) (a : Nat) (ha4 : a < l.length) (x : Int32) (Q : Option mv → mw → Prop) (hQ : ∀ u5, Wp E d m_M_backNow 141 [lr 33, li 0, li (bkJ l a (l.length - a) x), li (nI a), li (nI l.length), u5] [] w Q) : ∀ (k j : Nat) (u5 : Option mv), a + j + k = l.length → Wp E d m_M_backNow 75 [lr 33, li 0, li (bkJ l a j x), li (nI a), li (nI (a + j)), u5] [] w Q := by
  intro k
  induction k with
  | zero =>
    intro j u5 hj
    have hin : l.length - a = j := by omega
    have hin2 : l.length = a + j := by omega
    refine Wp_iload d_M_backNow_75 rfl ?_
    refine Wp_aload_n d_M_backNow_77 rfl ?_
    refine Wp_getf d_M_backNow_78 fd_M_249 rfl rfl rfl ?_
    refine Wp_eqi (x2 := nI l.length) hW.1 ?_
    refine Wp_icmp_ge d_M_backNow_81 (fun h81 => ?_) (fun q => absurd (n_nle q (by omega) (by omega)) (by omega))
    have h9 := hQ u5
    rw [hin, hin2] at h9
    exact h9
  | succ k ih =>
    intro j u5 hj
    have ha := hW.2 a ha4
    have hb := hW.2 (a + j) (by omega)
    have hand : (l.getD a (0, 0)).1 &&& (l.getD (a + j) (0, 0)).1 ≤ (l.getD a (0, 0)).1 := Nat.and_le_left
    refine Wp_iload d_M_backNow_75 rfl ?_
    refine Wp_aload_n d_M_backNow_77 rfl ?_
    refine Wp_getf d_M_backNow_78 fd_M_249 rfl rfl rfl ?_
    refine Wp_eqi (x2 := nI l.length) hW.1 ?_
    refine Wp_icmp_ge d_M_backNow_81 (fun q => absurd (n_le q (by omega) (by omega)) (by omega)) (fun h81 => ?_)
    refine Wp_aload_n d_M_backNow_84 rfl ?_
    refine Wp_getr d_M_backNow_85 fd_M_77 rfl rfl rfl ?_
    refine Wp_iload_n d_M_backNow_88 rfl ?_
    refine Wp_ialdN (j := a) d_M_backNow_89 rfl rfl rfl rfl (by omega) ?_
    refine Wp_eqi (x2 := nI (l.getD a (0, 0)).2) ha.1.2 ?_
    refine Wp_aload_n d_M_backNow_90 rfl ?_
    refine Wp_getr d_M_backNow_91 fd_M_77 rfl rfl rfl ?_
    refine Wp_iload d_M_backNow_94 rfl ?_
    refine Wp_ialdN (j := (a + j)) d_M_backNow_96 rfl rfl rfl rfl (by omega) ?_
    refine Wp_eqi (x2 := nI (l.getD (a + j) (0, 0)).2) hb.1.2 ?_
    refine Wp_iadd d_M_backNow_97 ?_
    refine Wp_eqi (x2 := nI ((l.getD a (0, 0)).2 + (l.getD (a + j) (0, 0)).2)) (nI_add (l.getD a (0, 0)).2 (l.getD (a + j) (0, 0)).2) ?_
    refine Wp_istore (ls2 := [lr 33, li 0, li (bkJ l a j x), li (nI a), li (nI (a + j)), li (nI ((l.getD a (0, 0)).2 + (l.getD (a + j) (0, 0)).2))]) d_M_backNow_98 rfl rfl rfl ?_
    refine Wp_iload_n d_M_backNow_100 rfl ?_
    refine Wp_iconst (x := (-1)) d_M_backNow_101 (by decide) ?_
    refine Wp_icmp_eq d_M_backNow_102 (fun h102 => ?_) (fun h102 => ?_)
    ·
      refine Wp_aload_n d_M_backNow_111 rfl ?_
      refine Wp_getr d_M_backNow_112 fd_M_74 rfl rfl rfl ?_
      refine Wp_iload_n d_M_backNow_115 rfl ?_
      refine Wp_ialdN (j := a) d_M_backNow_116 rfl rfl rfl rfl (by omega) ?_
      refine Wp_eqi (x2 := nI (l.getD a (0, 0)).1) ha.1.1 ?_
      refine Wp_aload_n d_M_backNow_117 rfl ?_
      refine Wp_getr d_M_backNow_118 fd_M_74 rfl rfl rfl ?_
      refine Wp_iload d_M_backNow_121 rfl ?_
      refine Wp_ialdN (j := (a + j)) d_M_backNow_123 rfl rfl rfl rfl (by omega) ?_
      refine Wp_eqi (x2 := nI (l.getD (a + j) (0, 0)).1) hb.1.1 ?_
      refine Wp_iand d_M_backNow_124 ?_
      refine Wp_eqi (x2 := nI ((l.getD a (0, 0)).1 &&& (l.getD (a + j) (0, 0)).1)) (nI_and _ _) ?_
      refine Wp_if_ne d_M_backNow_125 (fun h125 => ?_) (fun h125 => ?_)
      ·
        have g125 : ((l.getD a (0, 0)).1 &&& (l.getD (a + j) (0, 0)).1) ≠ 0 := n_ne h125 (by omega) (by omega)
        refine Wp_iload_n d_M_backNow_133 rfl ?_
        refine Wp_istore_n (ls2 := [lr 33, li 0, li (bkJ l a j x), li (nI a), li (nI (a + j)), li (nI ((l.getD a (0, 0)).2 + (l.getD (a + j) (0, 0)).2))]) d_M_backNow_134 rfl rfl rfl ?_
        refine Wp_iinc (z := nI ((a + j) + 1)) (ls2 := [lr 33, li 0, li (bkJ l a j x), li (nI a), li (nI ((a + j) + 1)), li (nI ((l.getD a (0, 0)).2 + (l.getD (a + j) (0, 0)).2))]) d_M_backNow_135 rfl (nI_add (a + j) 1) rfl rfl rfl ?_
        refine Wp_goto d_M_backNow_138 ?_
        have e9 : bkJ l a (j + 1) x = bkJ l a j x := by
          show stp l a (a + j) (bkJ l a j x) = _
          unfold stp; exact if_neg (by first | exact fun q => g125 q.2 | exact fun q => q.1.elim h102 (fun q => by omega))
        have h9 := ih (j + 1) (li (nI ((l.getD a (0, 0)).2 + (l.getD (a + j) (0, 0)).2))) (by omega)
        rw [e9] at h9
        exact h9
      ·
        have g125 : ((l.getD a (0, 0)).1 &&& (l.getD (a + j) (0, 0)).1) = 0 := n_eq h125 (by omega) (by omega)
        refine Wp_iload d_M_backNow_128 rfl ?_
        refine Wp_goto d_M_backNow_130 ?_
        refine Wp_istore_n (ls2 := [lr 33, li 0, li (nI ((l.getD a (0, 0)).2 + (l.getD (a + j) (0, 0)).2)), li (nI a), li (nI (a + j)), li (nI ((l.getD a (0, 0)).2 + (l.getD (a + j) (0, 0)).2))]) d_M_backNow_134 rfl rfl rfl ?_
        refine Wp_iinc (z := nI ((a + j) + 1)) (ls2 := [lr 33, li 0, li (nI ((l.getD a (0, 0)).2 + (l.getD (a + j) (0, 0)).2)), li (nI a), li (nI ((a + j) + 1)), li (nI ((l.getD a (0, 0)).2 + (l.getD (a + j) (0, 0)).2))]) d_M_backNow_135 rfl (nI_add (a + j) 1) rfl rfl rfl ?_
        refine Wp_goto d_M_backNow_138 ?_
        have e9 : bkJ l a (j + 1) x = nI ((l.getD a (0, 0)).2 + (l.getD (a + j) (0, 0)).2) := by
          show stp l a (a + j) (bkJ l a j x) = _
          unfold stp; exact if_pos (by first | exact ⟨Or.inl h102, g125⟩ | exact ⟨Or.inr g108, g125⟩)
        have h9 := ih (j + 1) (li (nI ((l.getD a (0, 0)).2 + (l.getD (a + j) (0, 0)).2))) (by omega)
        rw [e9] at h9
        exact h9
    ·
      have g102 : (bkJ l a j x).toInt ≠ -1 := i_ne h102
      refine Wp_iload d_M_backNow_105 rfl ?_
      refine Wp_iload_n d_M_backNow_107 rfl ?_
      refine Wp_icmp_ge d_M_backNow_108 (fun h108 => ?_) (fun h108 => ?_)
      ·
        have g108 : (bkJ l a j x).toInt ≤ (nI ((l.getD a (0, 0)).2 + (l.getD (a + j) (0, 0)).2)).toInt := i_le h108
        refine Wp_iload_n d_M_backNow_133 rfl ?_
        refine Wp_istore_n (ls2 := [lr 33, li 0, li (bkJ l a j x), li (nI a), li (nI (a + j)), li (nI ((l.getD a (0, 0)).2 + (l.getD (a + j) (0, 0)).2))]) d_M_backNow_134 rfl rfl rfl ?_
        refine Wp_iinc (z := nI ((a + j) + 1)) (ls2 := [lr 33, li 0, li (bkJ l a j x), li (nI a), li (nI ((a + j) + 1)), li (nI ((l.getD a (0, 0)).2 + (l.getD (a + j) (0, 0)).2))]) d_M_backNow_135 rfl (nI_add (a + j) 1) rfl rfl rfl ?_
        refine Wp_goto d_M_backNow_138 ?_
        have e9 : bkJ l a (j + 1) x = bkJ l a j x := by
          show stp l a (a + j) (bkJ l a j x) = _
          unfold stp; exact if_neg (by first | exact fun q => g125 q.2 | exact fun q => q.1.elim h102 (fun q => by omega))
        have h9 := ih (j + 1) (li (nI ((l.getD a (0, 0)).2 + (l.getD (a + j) (0, 0)).2))) (by omega)
        rw [e9] at h9
        exact h9
      ·
        have g108 : (nI ((l.getD a (0, 0)).2 + (l.getD (a + j) (0, 0)).2)).toInt < (bkJ l a j x).toInt := i_nle h108
        refine Wp_aload_n d_M_backNow_111 rfl ?_
        refine Wp_getr d_M_backNow_112 fd_M_74 rfl rfl rfl ?_
        refine Wp_iload_n d_M_backNow_115 rfl ?_
        refine Wp_ialdN (j := a) d_M_backNow_116 rfl rfl rfl rfl (by omega) ?_
        refine Wp_eqi (x2 := nI (l.getD a (0, 0)).1) ha.1.1 ?_
        refine Wp_aload_n d_M_backNow_117 rfl ?_
        refine Wp_getr d_M_backNow_118 fd_M_74 rfl rfl rfl ?_
        refine Wp_iload d_M_backNow_121 rfl ?_
        refine Wp_ialdN (j := (a + j)) d_M_backNow_123 rfl rfl rfl rfl (by omega) ?_
        refine Wp_eqi (x2 := nI (l.getD (a + j) (0, 0)).1) hb.1.1 ?_
        refine Wp_iand d_M_backNow_124 ?_
        refine Wp_eqi (x2 := nI ((l.getD a (0, 0)).1 &&& (l.getD (a + j) (0, 0)).1)) (nI_and _ _) ?_
        refine Wp_if_ne d_M_backNow_125 (fun h125 => ?_) (fun h125 => ?_)
        ·
          have g125 : ((l.getD a (0, 0)).1 &&& (l.getD (a + j) (0, 0)).1) ≠ 0 := n_ne h125 (by omega) (by omega)
          refine Wp_iload_n d_M_backNow_133 rfl ?_
          refine Wp_istore_n (ls2 := [lr 33, li 0, li (bkJ l a j x), li (nI a), li (nI (a + j)), li (nI ((l.getD a (0, 0)).2 + (l.getD (a + j) (0, 0)).2))]) d_M_backNow_134 rfl rfl rfl ?_
          refine Wp_iinc (z := nI ((a + j) + 1)) (ls2 := [lr 33, li 0, li (bkJ l a j x), li (nI a), li (nI ((a + j) + 1)), li (nI ((l.getD a (0, 0)).2 + (l.getD (a + j) (0, 0)).2))]) d_M_backNow_135 rfl (nI_add (a + j) 1) rfl rfl rfl ?_
          refine Wp_goto d_M_backNow_138 ?_
          have e9 : bkJ l a (j + 1) x = bkJ l a j x := by
            show stp l a (a + j) (bkJ l a j x) = _
            unfold stp; exact if_neg (by first | exact fun q => g125 q.2 | exact fun q => q.1.elim h102 (fun q => by omega))
          have h9 := ih (j + 1) (li (nI ((l.getD a (0, 0)).2 + (l.getD (a + j) (0, 0)).2))) (by omega)
          rw [e9] at h9
          exact h9
        ·
          have g125 : ((l.getD a (0, 0)).1 &&& (l.getD (a + j) (0, 0)).1) = 0 := n_eq h125 (by omega) (by omega)
          refine Wp_iload d_M_backNow_128 rfl ?_
          refine Wp_goto d_M_backNow_130 ?_
          refine Wp_istore_n (ls2 := [lr 33, li 0, li (nI ((l.getD a (0, 0)).2 + (l.getD (a + j) (0, 0)).2)), li (nI a), li (nI (a + j)), li (nI ((l.getD a (0, 0)).2 + (l.getD (a + j) (0, 0)).2))]) d_M_backNow_134 rfl rfl rfl ?_
          refine Wp_iinc (z := nI ((a + j) + 1)) (ls2 := [lr 33, li 0, li (nI ((l.getD a (0, 0)).2 + (l.getD (a + j) (0, 0)).2)), li (nI a), li (nI ((a + j) + 1)), li (nI ((l.getD a (0, 0)).2 + (l.getD (a + j) (0, 0)).2))]) d_M_backNow_135 rfl (nI_add (a + j) 1) rfl rfl rfl ?_
          refine Wp_goto d_M_backNow_138 ?_
          have e9 : bkJ l a (j + 1) x = nI ((l.getD a (0, 0)).2 + (l.getD (a + j) (0, 0)).2) := by
            show stp l a (a + j) (bkJ l a j x) = _
            unfold stp; exact if_pos (by first | exact ⟨Or.inl h102, g125⟩ | exact ⟨Or.inr g108, g125⟩)
          have h9 := ih (j + 1) (li (nI ((l.getD a (0, 0)).2 + (l.getD (a + j) (0, 0)).2))) (by omega)
          rw [e9] at h9
          exact h9
set_option maxRecDepth 100000 in
set_option maxHeartbeats 4000000 in
theorem l_M_bk3 (E : mE) (d : Nat) (hd : 4 ≤ d) (w : mw) (l : List (Nat × Nat)) (hW : Ways w l) (h4 : l.length ≤ 4140) : ∀ (k a : Nat) (u4 u5 : Option mv), a + k = l.length → Wp E d m_M_backNow 64 [lr 33, li 0, li (bkI l a), li (nI a), u4, u5] [] w (mPi (fun r w1 => r = bkI l l.length ∧ w1 = w)) := by
  intro k
  induction k with
  | zero =>
    intro a u4 u5 hj
    have hin : l.length = a := by omega
    refine Wp_iload_n d_M_backNow_64 rfl ?_
    refine Wp_aload_n d_M_backNow_65 rfl ?_
    refine Wp_getf d_M_backNow_66 fd_M_249 rfl rfl rfl ?_
    refine Wp_eqi (x2 := nI l.length) hW.1 ?_
    refine Wp_icmp_ge d_M_backNow_69 (fun h69 => ?_) (fun q => absurd (n_nle q (by omega) (by omega)) (by omega))
    refine Wp_iload_n d_M_backNow_147 rfl ?_
    refine Wp_reti (ty := .int) d_M_backNow_148 rfl rfl ?_
    rw [hin]
    exact ⟨rfl, rfl⟩
  | succ k ih =>
    intro a u4 u5 hj
    refine Wp_iload_n d_M_backNow_64 rfl ?_
    refine Wp_aload_n d_M_backNow_65 rfl ?_
    refine Wp_getf d_M_backNow_66 fd_M_249 rfl rfl rfl ?_
    refine Wp_eqi (x2 := nI l.length) hW.1 ?_
    refine Wp_icmp_ge d_M_backNow_69 (fun q => absurd (n_le q (by omega) (by omega)) (by omega)) (fun h69 => ?_)
    refine Wp_iload_n d_M_backNow_72 rfl ?_
    refine Wp_istore (ls2 := [lr 33, li 0, li (bkI l a), li (nI a), li (nI a), u5]) d_M_backNow_73 rfl rfl rfl ?_
    refine l_M_bk2 E d (by omega) w l hW h4 a (by omega) (bkI l a) _ (fun u5 => ?_) (l.length - a) 0 u5 (by omega)
    refine Wp_iinc (z := nI (a + 1)) (ls2 := [lr 33, li 0, li (bkJ l a (l.length - a) (bkI l a)), li (nI (a + 1)), li (nI l.length), u5]) d_M_backNow_141 rfl (nI_add a 1) rfl rfl rfl ?_
    refine Wp_goto d_M_backNow_144 ?_
    exact ih (a + 1) _ _ (by omega)
set_option maxRecDepth 100000 in
set_option maxHeartbeats 4000000 in
theorem l_M_bk0 (E : mE) (d : Nat) (hd : 4 ≤ d) (w0 : mw) (Q : Option mv → mw → Prop) (hQ : ∀ w, fr [54] w0 w → (∀ i, i < 9 → w 54 i = 0) → Wp E d m_M_backNow 42 [lr 33, li (nI 9), lo, lo, lo, lo] [] w Q) : ∀ (k i : Nat) (w : mw), i + k = 9 → fr [54] w0 w → (∀ j, j < i → w 54 j = 0) → Wp E d m_M_backNow 23 [lr 33, li (nI i), lo, lo, lo, lo] [] w Q := by
  intro k
  induction k with
  | zero =>
    intro i w hi hf hz
    have hin : i = 9 := by omega
    subst hin
    refine Wp_iload_n d_M_backNow_23 rfl ?_
    refine Wp_bipush (x := 9) d_M_backNow_24 (by decide) ?_
    refine Wp_icmp_ge d_M_backNow_26 (fun h26 => ?_) (fun q => absurd (n_nle (a := 9) q (by omega) (by omega)) (by omega))
    exact hQ w hf hz
  | succ k ih =>
    intro i w hi hf hz
    refine Wp_iload_n d_M_backNow_23 rfl ?_
    refine Wp_bipush (x := 9) d_M_backNow_24 (by decide) ?_
    refine Wp_icmp_ge d_M_backNow_26 (fun q => absurd (n_le (a := 9) q (by omega) (by omega)) (by omega)) (fun h26 => ?_)
    refine Wp_aload_n d_M_backNow_29 rfl ?_
    refine Wp_getr d_M_backNow_30 fd_M_71 rfl rfl rfl ?_
    refine Wp_iload_n d_M_backNow_33 rfl ?_
    refine Wp_iconst (x := 0) d_M_backNow_34 (by decide) ?_
    refine Wp_iastN (j := i) d_M_backNow_35 rfl rfl rfl rfl (by omega) ?_
    refine Wp_iinc (z := nI (i + 1)) (ls2 := [lr 33, li (nI (i + 1)), lo, lo, lo, lo]) d_M_backNow_36 rfl (nI_add i 1) rfl rfl rfl ?_
    refine Wp_goto d_M_backNow_39 ?_
    refine ih (i + 1) _ (by omega) (fr_U2 hf (by decide)) (fun j hj => ?_)
    rw [mU_k]
    split
    · rfl
    · exact hz j (by omega)
theorem z9_0 (i : Nat) : z9.getD i 0 = 0 := by
  by_cases hi : i < 9
  · have e : ∀ i, i < 9 → z9.getD i 0 = 0 := by decide
    exact e i hi
  · rw [List.getD_eq_getElem?_getD, List.getElem?_eq_none (show z9.length ≤ i from by show 9 ≤ i; omega)]; rfl
theorem rows_len (n : Nat) : ∀ f, ∀ r, (rowsF n f r).length ≤ f
  | 0, _ => Nat.le_refl _
  | f + 1, r => by
    unfold rowsF
    rw [List.length_cons]
    split
    · have := rows_len n f (cyc (n - 1) r).2; omega
    · exact Nat.succ_le_succ (Nat.zero_le _)
set_option maxRecDepth 100000 in
set_option maxHeartbeats 4000000 in
theorem t_M_backNow (E : mE) (d : Nat) (hd : 4 ≤ d) (w : mw) (S : mw) (hM : MP w S) (hV : VM S) : Ti E d m_M_backNow [vr 33] w (fun r w1 => r = backR S ∧ fr [33, 46, 47, 48, 54, 55, 56] w w1 ∧ MP w1 S) := by
  refine ⟨Nat.le_of_ble_eq_true rfl, ?_⟩
  show Wp E d m_M_backNow 0 [lr 33, lo, lo, lo, lo, lo] [] w _
  have hp10 := (pN_ok S).1
  have hlt := two10 hp10
  have hwl := wh_lt S
  have hwe := wh_1 S
  refine Wp_aload_n d_M_backNow_0 rfl ?_
  refine Wp_getf d_M_backNow_1 fd_M_125 rfl rfl rfl ?_
  refine Wp_eqi (x2 := nI (pN S)) hM.2.1 ?_
  refine Wp_bipush (x := 8) d_M_backNow_4 (by decide) ?_
  refine Wp_icmp_le d_M_backNow_6 (fun h6 => ?_) (fun h6 => ?_)
  ·
    have g6 : (pN S) ≤ 8 := n_le h6 (by omega) (by omega)
    refine Wp_aload_n d_M_backNow_12 rfl ?_
    refine Wp_ivv_v (o := 33) (As := []) d_M_backNow_13 ln_M_201 mk_M_findBoats rfl rfl rfl rfl rfl (by omega) (t_M_findBoats E (d - 1) (by omega) w S hM hV) (fun w13 c13 => ?_)
    obtain ⟨hB, fB⟩ := c13
    refine Wp_aload_n d_M_backNow_16 rfl ?_
    refine Wp_iconst (x := 0) d_M_backNow_17 (by decide) ?_
    refine Wp_puti d_M_backNow_18 fp_M_249 rfl rfl rfl ?_
    refine Wp_iconst (x := 0) d_M_backNow_21 (by decide) ?_
    refine Wp_istore_n (ls2 := [lr 33, li 0, lo, lo, lo, lo]) d_M_backNow_22 rfl rfl rfl ?_
    have hB1 : MB (mU w13 33 27 0) S := MB_27 hB
    refine l_M_bk0 E d (by omega) (mU w13 33 27 0) _ (fun w2 f2 z2 => ?_) 9 0 _ rfl fr_rf (fun j hj => absurd hj (Nat.not_lt_zero _))
    have hR0 : Row w2 z9 := ⟨rfl, fun i hi => (z2 i hi).trans (by rw [z9_0 i]; rfl), fun i => by rw [z9_0 i]; exact Nat.zero_le _⟩
    have hW0 : Ways w2 [] := ⟨by rw [f2 33 (by decide)]; exact mU_at, fun k hk => absurd hk (Nat.not_lt_zero _)⟩
    have hB2 : MB w2 S := MB_fr hB1 f2 (by decide)
    have hf2 : fr [33, 54, 55, 56] w13 w2 := fr_tr (fr_U (by decide)) (fr_sub f2 (by decide))
    refine Wp_iconst (x := 1) d_M_backNow_42 (by decide) ?_
    refine Wp_istore_n (ls2 := [lr 33, li 1, lo, lo, lo, lo]) d_M_backNow_43 rfl rfl rfl ?_
    refine l_M_bk1 E d (by omega) w13 S hV g6 _ (wysS S) (fun w3 hB3 hW3 f3 => ?_) 4140 z9 [] w2 (end_ok _ g6) (by decide) hR0 hW0 hB2 hf2 rfl
    have h4 : (wysS S).length ≤ 4140 := Nat.le_trans (List.length_filterMap_le _ _) (rows_len _ _ _)
    refine Wp_iconst (x := (-1)) d_M_backNow_60 (by decide) ?_
    refine Wp_istore_n (ls2 := [lr 33, li 0, li (-1), lo, lo, lo]) d_M_backNow_61 rfl rfl rfl ?_
    refine Wp_iconst (x := 0) d_M_backNow_62 (by decide) ?_
    refine Wp_istore_n (ls2 := [lr 33, li 0, li (-1), li 0, lo, lo]) d_M_backNow_63 rfl rfl rfl ?_
    refine Wp_mi (l_M_bk3 E d (by omega) w3 (wysS S) hW3 h4 (wysS S).length 0 _ _ (Nat.zero_add _)) (fun r w4 h => ?_)
    rw [h.2]
    exact ⟨by rw [h.1]; unfold backR; rw [if_neg (by omega)], fr_tr (fr_sub fB (by decide)) (fr_sub f3 (by decide)), hB3.1⟩
  ·
    have g6 : 8 < (pN S) := n_nle h6 (by omega) (by omega)
    refine Wp_bipush (x := (-4)) d_M_backNow_9 (by decide) ?_
    refine Wp_reti (ty := .int) d_M_backNow_11 rfl rfl ?_
    exact ⟨by unfold backR; rw [if_pos (by omega)], fr_rf, hM⟩
set_option maxRecDepth 100000 in
set_option maxHeartbeats 4000000 in
theorem t_M_back (E : mE) (d : Nat) (hd : 5 ≤ d) (w : mw) (S : mw) (hM : MM w S) (hV : VM S) : Ti E d m_M_back [vr 33] w (fun r w1 => r = backR S ∧ MP w1 S ∧ fr mRows w w1) := by
  refine ⟨Nat.le_of_ble_eq_true rfl, ?_⟩
  show Wp E d m_M_back 0 [lr 33] [] w _
  refine Wp_aload_n d_M_back_0 rfl ?_
  refine Wp_ivv_i (o := 33) (As := []) d_M_back_1 ln_M_143 mk_M_reads rfl rfl rfl rfl rfl (by omega) (t_M_reads E (d - 1) (by omega) w S hM hV) (fun r1 w1 c1 => ?_)
  obtain ⟨hF, hP, fP⟩ := c1
  refine Wp_pop d_M_back_4 rfl ?_
  refine Wp_aload_n d_M_back_5 rfl ?_
  refine Wp_ivv_i (o := 33) (As := []) d_M_back_6 ln_M_258 mk_M_backNow rfl rfl rfl rfl rfl (by omega) (t_M_backNow E (d - 1) (by omega) w1 S hP hV) (fun r6 w6 c6 => ?_)
  obtain ⟨rB, fB, hP2⟩ := c6
  refine Wp_reti (ty := .int) d_M_back_9 rfl rfl ?_
  exact ⟨rB, hP2, fr_tr (frF_m fP) (fr_sub fB (by decide))⟩
