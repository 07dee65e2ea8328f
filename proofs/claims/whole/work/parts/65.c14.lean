set_option maxRecDepth 100000 in
set_option maxHeartbeats 4000000 in
theorem t_G_otherOf (E : mE) (d : Nat) (hd : 0 ≤ d) (w : mw) (k : Nat) (hk : k < 8) (p : Int32) : Td E d m_G_otherOf [vr 19, vi (nI k), vi p] w (if w 20 k = p then w 21 k else if w 21 k = p then w 20 k else -1) w := by
  refine ⟨Nat.le_of_ble_eq_true rfl, ?_⟩
  show Wp E d m_G_otherOf 0 [lr 19, li (nI k), li p] [] w _
  refine Wp_aload_n d_G_otherOf_0 rfl ?_
  refine Wp_getr d_G_otherOf_1 fd_G_11 rfl rfl rfl ?_
  refine Wp_iload_n d_G_otherOf_4 rfl ?_
  refine Wp_ialdN (j := k) d_G_otherOf_5 rfl rfl rfl rfl (by omega) ?_
  refine Wp_iload_n d_G_otherOf_6 rfl ?_
  refine Wp_icmp_ne d_G_otherOf_7 (fun h7 => ?_) (fun h7 => ?_)
  ·
    refine Wp_aload_n d_G_otherOf_17 rfl ?_
    refine Wp_getr d_G_otherOf_18 fd_G_15 rfl rfl rfl ?_
    refine Wp_iload_n d_G_otherOf_21 rfl ?_
    refine Wp_ialdN (j := k) d_G_otherOf_22 rfl rfl rfl rfl (by omega) ?_
    refine Wp_iload_n d_G_otherOf_23 rfl ?_
    refine Wp_icmp_ne d_G_otherOf_24 (fun h24 => ?_) (fun h24 => ?_)
    ·
      refine Wp_iconst (x := (-1)) d_G_otherOf_36 (by decide) ?_
      refine Wp_reti (ty := .int) d_G_otherOf_37 rfl rfl ?_
      exact ⟨by rw [if_neg h7, if_neg h24], rfl⟩
    ·
      refine Wp_aload_n d_G_otherOf_27 rfl ?_
      refine Wp_getr d_G_otherOf_28 fd_G_11 rfl rfl rfl ?_
      refine Wp_iload_n d_G_otherOf_31 rfl ?_
      refine Wp_ialdN (j := k) d_G_otherOf_32 rfl rfl rfl rfl (by omega) ?_
      refine Wp_goto d_G_otherOf_33 ?_
      refine Wp_reti (ty := .int) d_G_otherOf_37 rfl rfl ?_
      exact ⟨by rw [if_neg h7, if_pos h24], rfl⟩
  ·
    refine Wp_aload_n d_G_otherOf_10 rfl ?_
    refine Wp_getr d_G_otherOf_11 fd_G_15 rfl rfl rfl ?_
    refine Wp_iload_n d_G_otherOf_14 rfl ?_
    refine Wp_ialdN (j := k) d_G_otherOf_15 rfl rfl rfl rfl (by omega) ?_
    refine Wp_reti (ty := .int) d_G_otherOf_16 rfl rfl ?_
    exact ⟨by rw [if_pos h7], rfl⟩
set_option maxRecDepth 100000 in
set_option maxHeartbeats 4000000 in
theorem l_G_allow (E : mE) (d : Nat) (hd : 3 ≤ d) (w S : mw) (hP : PR w S) (hV : VM S) (hg : CGs w S) (p a : Nat) (hp : p < 10) (ha0 : a ≤ 120) : ∀ (j k : Nat) (u6 : Option mv), k + j = sSn S → soS S p (nI (tdA S p a)) k = true → Wp E d m_G_allow 11 [lr 19, lr 1, li (nI p), li (nI a), li (nI (tdA S p a)), li (nI k), u6] [] w (mPi (fun r w1 => ((r = 1 ∧ soS S p (nI (tdA S p a)) (sSn S) = true) ∨ (r = 0 ∧ ¬ soS S p (nI (tdA S p a)) (sSn S) = true)) ∧ w1 = w)) := by
  intro j
  have hsn := (VM_sn hV).2
  have hp10 := (pN_ok S).1
  induction j with
  | zero =>
    intro k u6 hk hso
    have hkk : k = sSn S := by omega
    subst hkk
    refine Wp_iload d_G_allow_11 rfl ?_
    refine Wp_aload_n d_G_allow_13 rfl ?_
    refine Wp_getf d_G_allow_14 fd_G_21 rfl rfl rfl ?_
    refine Wp_eqi (x2 := nI (sSn S)) (hg.1.trans (VM_sn hV).1) ?_
    refine Wp_icmp_ge d_G_allow_17 (fun h17 => ?_) (fun q => absurd (n_nle q (by omega) (by omega)) (by omega))
    refine Wp_iconst (x := 1) d_G_allow_76 (by decide) ?_
    refine Wp_reti (ty := .boolean) d_G_allow_77 rfl rfl ?_
    exact ⟨Or.inl ⟨rfl, hso⟩, rfl⟩
  | succ j ih =>
    intro k u6 hk hso
    obtain ⟨⟨a1, b1, ea, eb, ha, hb, hab⟩, f1, f2⟩ := VM_se hV k (by omega)
    have c1 : w 20 k = nI a1 := (hg.2 k (by omega)).1.trans ea
    have c2 : w 21 k = nI b1 := (hg.2 k (by omega)).2.1.trans eb
    have c3 : w 22 k = S 57 (3 * k + 2) := (hg.2 k (by omega)).2.2
    have ta := ti (show a1 < 2147483648 by omega)
    have tb := ti (show b1 < 2147483648 by omega)
    refine Wp_iload d_G_allow_11 rfl ?_
    refine Wp_aload_n d_G_allow_13 rfl ?_
    refine Wp_getf d_G_allow_14 fd_G_21 rfl rfl rfl ?_
    refine Wp_eqi (x2 := nI (sSn S)) (hg.1.trans (VM_sn hV).1) ?_
    refine Wp_icmp_ge d_G_allow_17 (fun q => absurd (n_le q (by omega) (by omega)) (by omega)) (fun h17 => ?_)
    refine Wp_iload d_G_allow_20 rfl ?_
    refine Wp_bipush (x := 8) d_G_allow_22 (by decide) ?_
    refine Wp_icmp_ge d_G_allow_24 (fun q => absurd (n_le (a := 8) q (by omega) (by omega)) (by omega)) (fun h24 => ?_)
    refine Wp_aload_n d_G_allow_27 rfl ?_
    refine Wp_iload d_G_allow_28 rfl ?_
    refine Wp_iload_n d_G_allow_30 rfl ?_
    refine Wp_ivv_i (o := 19) (As := [vi (nI k), vi (nI p)]) d_G_allow_31 ln_G_31 mk_G_otherOf rfl rfl rfl rfl rfl (by omega) (t_G_otherOf E (d - 1) (by omega) w k (by omega) (nI p)) (fun r31 w31 c31 => ?_)
    obtain ⟨e1, e2⟩ := c31
    rw [c1, c2] at e1
    rw [e2]
    have h3 : (a1 = p ∧ r31 = nI b1) ∨ (a1 ≠ p ∧ b1 = p ∧ r31 = nI a1) ∨ (a1 ≠ p ∧ b1 ≠ p ∧ r31 = -1) := by
      by_cases hA : a1 = p
      · exact Or.inl ⟨hA, by rw [e1, if_pos (by rw [hA])]⟩
      · rw [if_neg (fun q => hA (n_eq q (by omega) (by omega)))] at e1
        by_cases hB : b1 = p
        · exact Or.inr (Or.inl ⟨hA, hB, by rw [e1, if_pos (by rw [hB])]⟩)
        · exact Or.inr (Or.inr ⟨hA, hB, by rw [e1, if_neg (fun q => hB (n_eq q (by omega) (by omega)))]⟩)
    rcases h3 with ⟨hA, e3⟩ | ⟨hA, hB, e3⟩ | ⟨hA, hB, e3⟩
    ·
      rw [e3]
      refine Wp_istore (ls2 := [lr 19, lr 1, li (nI p), li (nI a), li (nI (tdA S p a)), li (nI k), li (nI b1)]) d_G_allow_34 rfl rfl rfl ?_
      refine Wp_aload_n d_G_allow_36 rfl ?_
      refine Wp_iload d_G_allow_37 rfl ?_
      refine Wp_ivv_b (o := 1) (As := [vi (nI b1)]) d_G_allow_39 ln_G_34 mk_P_isThere rfl rfl rfl rfl rfl (by omega) (t_P_isThere E (d - 1) (by omega) w (pN S) hP.2.1.1 hp10 (nI b1)) (fun g39 => ?_) (fun g39 => ?_)
      ·
        refine Wp_if_eq d_G_allow_42 (fun q => absurd q (by decide)) (fun _ => ?_)
        refine Wp_iload d_G_allow_45 rfl ?_
        refine Wp_aload_n d_G_allow_47 rfl ?_
        refine Wp_getr d_G_allow_48 fd_G_38 rfl rfl rfl ?_
        refine Wp_iload d_G_allow_51 rfl ?_
        refine Wp_ialdN (j := b1) d_G_allow_53 rfl rfl rfl rfl (by omega) ?_
        refine Wp_eqi (x2 := nI (tld S b1)) (hP.2.1.2.2 _ (by omega)).2 ?_
        refine Wp_isub d_G_allow_54 ?_
        refine Wp_abs d_G_allow_55 ln_G_41 rfl (by omega) ?_
        refine Wp_aload_n d_G_allow_58 rfl ?_
        refine Wp_getr d_G_allow_59 fd_G_18 rfl rfl rfl ?_
        refine Wp_iload d_G_allow_62 rfl ?_
        refine Wp_ialdN (j := k) d_G_allow_64 rfl rfl rfl rfl (by omega) ?_
        refine Wp_eqi (x2 := S 57 (3 * k + 2)) c3 ?_
        refine Wp_icmp_eq d_G_allow_65 (fun h65 => ?_) (fun h65 => ?_)
        ·
          refine Wp_iinc (z := nI (k + 1)) (ls2 := [lr 19, lr 1, li (nI p), li (nI a), li (nI (tdA S p a)), li (nI (k + 1)), li (nI b1)]) d_G_allow_70 rfl (nI_add k 1) rfl rfl rfl ?_
          refine Wp_goto d_G_allow_73 ?_
          have e9 : soS S p (nI (tdA S p a)) (k + 1) = true := by
            first
            | (rw [so_3 ea eb (by omega) (by omega) hb ha hp]; exact hso)
            | (rw [so_1 ea eb hA (by omega) hb, hso, ← absI, h65]; simp)
            | (rw [so_2 ea eb (by omega) hB (by omega) hb ha, hso, ← absI, h65]; simp)
          exact ih (k + 1) _ (by omega) e9
        ·
          refine Wp_iconst (x := 0) d_G_allow_68 (by decide) ?_
          refine Wp_reti (ty := .boolean) d_G_allow_69 rfl rfl ?_
          have e9 : soS S p (nI (tdA S p a)) (k + 1) = false := by
            first
            | (rw [so_1 ea eb hA (by omega) hb, ← absI, decide_eq_false h65, Bool.and_false])
            | (rw [so_2 ea eb (by omega) hB (by omega) hb ha, ← absI, decide_eq_false h65, Bool.and_false])
          exact ⟨Or.inr ⟨rfl, so_fail (by omega) e9⟩, rfl⟩
      ·
        refine Wp_if_eq d_G_allow_42 (fun _ => ?_) (fun q => absurd (by decide) q)
        refine Wp_iinc (z := nI (k + 1)) (ls2 := [lr 19, lr 1, li (nI p), li (nI a), li (nI (tdA S p a)), li (nI (k + 1)), li (nI b1)]) d_G_allow_70 rfl (nI_add k 1) rfl rfl rfl ?_
        refine Wp_goto d_G_allow_73 ?_
        have e9 : soS S p (nI (tdA S p a)) (k + 1) = true := by
          first
          | (rw [so_3 ea eb (by omega) (by omega) hb ha hp]; exact hso)
          | (rw [so_1 ea eb hA (by omega) hb, hso, ← absI, h65]; simp)
          | (rw [so_2 ea eb (by omega) hB (by omega) hb ha, hso, ← absI, h65]; simp)
        exact ih (k + 1) _ (by omega) e9
    ·
      rw [e3]
      refine Wp_istore (ls2 := [lr 19, lr 1, li (nI p), li (nI a), li (nI (tdA S p a)), li (nI k), li (nI a1)]) d_G_allow_34 rfl rfl rfl ?_
      refine Wp_aload_n d_G_allow_36 rfl ?_
      refine Wp_iload d_G_allow_37 rfl ?_
      refine Wp_ivv_b (o := 1) (As := [vi (nI a1)]) d_G_allow_39 ln_G_34 mk_P_isThere rfl rfl rfl rfl rfl (by omega) (t_P_isThere E (d - 1) (by omega) w (pN S) hP.2.1.1 hp10 (nI a1)) (fun g39 => ?_) (fun g39 => ?_)
      ·
        refine Wp_if_eq d_G_allow_42 (fun q => absurd q (by decide)) (fun _ => ?_)
        refine Wp_iload d_G_allow_45 rfl ?_
        refine Wp_aload_n d_G_allow_47 rfl ?_
        refine Wp_getr d_G_allow_48 fd_G_38 rfl rfl rfl ?_
        refine Wp_iload d_G_allow_51 rfl ?_
        refine Wp_ialdN (j := a1) d_G_allow_53 rfl rfl rfl rfl (by omega) ?_
        refine Wp_eqi (x2 := nI (tld S a1)) (hP.2.1.2.2 _ (by omega)).2 ?_
        refine Wp_isub d_G_allow_54 ?_
        refine Wp_abs d_G_allow_55 ln_G_41 rfl (by omega) ?_
        refine Wp_aload_n d_G_allow_58 rfl ?_
        refine Wp_getr d_G_allow_59 fd_G_18 rfl rfl rfl ?_
        refine Wp_iload d_G_allow_62 rfl ?_
        refine Wp_ialdN (j := k) d_G_allow_64 rfl rfl rfl rfl (by omega) ?_
        refine Wp_eqi (x2 := S 57 (3 * k + 2)) c3 ?_
        refine Wp_icmp_eq d_G_allow_65 (fun h65 => ?_) (fun h65 => ?_)
        ·
          refine Wp_iinc (z := nI (k + 1)) (ls2 := [lr 19, lr 1, li (nI p), li (nI a), li (nI (tdA S p a)), li (nI (k + 1)), li (nI a1)]) d_G_allow_70 rfl (nI_add k 1) rfl rfl rfl ?_
          refine Wp_goto d_G_allow_73 ?_
          have e9 : soS S p (nI (tdA S p a)) (k + 1) = true := by
            first
            | (rw [so_3 ea eb (by omega) (by omega) hb ha hp]; exact hso)
            | (rw [so_1 ea eb hA (by omega) hb, hso, ← absI, h65]; simp)
            | (rw [so_2 ea eb (by omega) hB (by omega) hb ha, hso, ← absI, h65]; simp)
          exact ih (k + 1) _ (by omega) e9
        ·
          refine Wp_iconst (x := 0) d_G_allow_68 (by decide) ?_
          refine Wp_reti (ty := .boolean) d_G_allow_69 rfl rfl ?_
          have e9 : soS S p (nI (tdA S p a)) (k + 1) = false := by
            first
            | (rw [so_1 ea eb hA (by omega) hb, ← absI, decide_eq_false h65, Bool.and_false])
            | (rw [so_2 ea eb (by omega) hB (by omega) hb ha, ← absI, decide_eq_false h65, Bool.and_false])
          exact ⟨Or.inr ⟨rfl, so_fail (by omega) e9⟩, rfl⟩
      ·
        refine Wp_if_eq d_G_allow_42 (fun _ => ?_) (fun q => absurd (by decide) q)
        refine Wp_iinc (z := nI (k + 1)) (ls2 := [lr 19, lr 1, li (nI p), li (nI a), li (nI (tdA S p a)), li (nI (k + 1)), li (nI a1)]) d_G_allow_70 rfl (nI_add k 1) rfl rfl rfl ?_
        refine Wp_goto d_G_allow_73 ?_
        have e9 : soS S p (nI (tdA S p a)) (k + 1) = true := by
          first
          | (rw [so_3 ea eb (by omega) (by omega) hb ha hp]; exact hso)
          | (rw [so_1 ea eb hA (by omega) hb, hso, ← absI, h65]; simp)
          | (rw [so_2 ea eb (by omega) hB (by omega) hb ha, hso, ← absI, h65]; simp)
        exact ih (k + 1) _ (by omega) e9
    ·
      rw [e3]
      refine Wp_istore (ls2 := [lr 19, lr 1, li (nI p), li (nI a), li (nI (tdA S p a)), li (nI k), li (-1)]) d_G_allow_34 rfl rfl rfl ?_
      refine Wp_aload_n d_G_allow_36 rfl ?_
      refine Wp_iload d_G_allow_37 rfl ?_
      refine Wp_ivv_b (o := 1) (As := [vi (-1)]) d_G_allow_39 ln_G_34 mk_P_isThere rfl rfl rfl rfl rfl (by omega) (t_P_isThere E (d - 1) (by omega) w (pN S) hP.2.1.1 hp10 (-1)) (fun g39 => ?_) (fun g39 => ?_)
      ·
        exact absurd g39.1 (by decide)
      ·
        refine Wp_if_eq d_G_allow_42 (fun _ => ?_) (fun q => absurd (by decide) q)
        refine Wp_iinc (z := nI (k + 1)) (ls2 := [lr 19, lr 1, li (nI p), li (nI a), li (nI (tdA S p a)), li (nI (k + 1)), li (-1)]) d_G_allow_70 rfl (nI_add k 1) rfl rfl rfl ?_
        refine Wp_goto d_G_allow_73 ?_
        have e9 : soS S p (nI (tdA S p a)) (k + 1) = true := by
          first
          | (rw [so_3 ea eb (by omega) (by omega) hb ha hp]; exact hso)
          | (rw [so_1 ea eb hA (by omega) hb, hso, ← absI, h65]; simp)
          | (rw [so_2 ea eb (by omega) hB (by omega) hb ha, hso, ← absI, h65]; simp)
        exact ih (k + 1) _ (by omega) e9
set_option maxRecDepth 100000 in
set_option maxHeartbeats 4000000 in
theorem t_G_allow (E : mE) (d : Nat) (hd : 3 ≤ d) (w : mw) (S : mw) (hP : PR w S) (hV : VM S) (hg : CGs w S) (p a : Nat) (hp : p < 10) (ha0 : a ≤ 120) : Tb E d m_G_allow [vr 19, vr 1, vi (nI p), vi (nI a)] w (soS S p (nI (tdA S p a)) (sSn S) = true) := by
  refine ⟨Nat.le_of_ble_eq_true rfl, ?_⟩
  show Wp E d m_G_allow 0 [lr 19, lr 1, li (nI p), li (nI a), lo, lo, lo] [] w _
  refine Wp_aload_n d_G_allow_0 rfl ?_
  refine Wp_iload_n d_G_allow_1 rfl ?_
  refine Wp_iload_n d_G_allow_2 rfl ?_
  refine Wp_ivv_d (o := 1) (As := [vi (nI p), vi (nI a)]) d_G_allow_3 ln_G_25 mk_P_toldAt rfl rfl rfl rfl rfl (by omega) (by have hl := VM_li hV p hp; have e7 : w 7 = S 42 := hP.1.2.2.2.1; have h := t_P_toldAt E (d - 1) (by omega) w p a hp (by omega) (by rw [e7]; exact hl.1) (by rw [e7]; exact hl.2); rw [e7] at h; exact h) ?_
  refine Wp_istore (ls2 := [lr 19, lr 1, li (nI p), li (nI a), li (nI (tdA S p a)), lo, lo]) d_G_allow_6 rfl rfl rfl ?_
  refine Wp_iconst (x := 0) d_G_allow_8 (by decide) ?_
  refine Wp_istore (ls2 := [lr 19, lr 1, li (nI p), li (nI a), li (nI (tdA S p a)), li 0, lo]) d_G_allow_9 rfl rfl rfl ?_
  exact l_G_allow E d (by omega) w S hP hV hg p a hp ha0 (sSn S) 0 _ (Nat.zero_add _) rfl
set_option maxRecDepth 100000 in
set_option maxHeartbeats 4000000 in
theorem l_F_ages (E : mE) (d : Nat) (hd : 4 ≤ d) (w S : mw) (hC : CC w S) (hV : VM S) (p : Nat) (hp : p < 10) (c : Int32) : ∀ (k a : Nat), a + k = 121 → Wp E d m_F_ages 34 [lr 0, li (nI p), li c, li (nI (agN S p a).1), li (agN S p a).2.1, li (agN S p a).2.2, li (nI a)] [] w (mPi (fun r w1 => r = agesR S p c ∧ w1 = w)) := by
  intro k
  have hP := CC_PR hC
  induction k with
  | zero =>
    intro a hk
    have haa : a = 121 := by omega
    subst haa
    have hle := agN_le (S := S) (p := p) 121
    refine Wp_iload d_F_ages_34 rfl ?_
    refine Wp_bipush (x := 120) d_F_ages_36 (by decide) ?_
    refine Wp_icmp_gt d_F_ages_38 (fun h38 => ?_) (fun q => absurd (n_nlt (a := 120) (b := 121) q (by omega) (by omega)) (by omega))
    refine Wp_iload_n d_F_ages_86 rfl ?_
    refine Wp_if_ne d_F_ages_87 (fun h87 => ?_) (fun h87 => ?_)
    ·
      refine Wp_iload_n d_F_ages_92 rfl ?_
      refine Wp_iconst (x := 1) d_F_ages_93 (by decide) ?_
      refine Wp_icmp_ne d_F_ages_94 (fun h94 => ?_) (fun h94 => ?_)
      ·
        refine Wp_iload d_F_ages_102 rfl ?_
        refine Wp_reti (ty := .int) d_F_ages_104 rfl rfl ?_
        exact ⟨by unfold agesR; rw [if_neg h87, if_neg h94], rfl⟩
      ·
        refine Wp_iload d_F_ages_97 rfl ?_
        refine Wp_goto d_F_ages_99 ?_
        refine Wp_reti (ty := .int) d_F_ages_104 rfl rfl ?_
        exact ⟨by unfold agesR; rw [if_neg h87, if_pos h94], rfl⟩
    ·
      refine Wp_iload_n d_F_ages_90 rfl ?_
      refine Wp_reti (ty := .int) d_F_ages_91 rfl rfl ?_
      exact ⟨by unfold agesR; rw [if_pos h87], rfl⟩
  | succ k ih =>
    intro a hk
    have hle := agN_le (S := S) (p := p) a
    refine Wp_iload d_F_ages_34 rfl ?_
    refine Wp_bipush (x := 120) d_F_ages_36 (by decide) ?_
    refine Wp_icmp_gt d_F_ages_38 (fun q => absurd (n_lt (a := 120) q (by omega) (by omega)) (by omega)) (fun h38 => ?_)
    refine Wp_aload_n d_F_ages_41 rfl ?_
    refine Wp_getr d_F_ages_42 fd_F_44 rfl rfl rfl ?_
    refine Wp_aload_n d_F_ages_45 rfl ?_
    refine Wp_getr d_F_ages_46 fd_F_10 rfl rfl rfl ?_
    refine Wp_iload_n d_F_ages_49 rfl ?_
    refine Wp_iload d_F_ages_50 rfl ?_
    refine Wp_ivv_b (o := 19) (As := [vr 1, vi (nI p), vi (nI a)]) d_F_ages_52 ln_F_233 mk_G_allow rfl rfl rfl rfl rfl (by omega) (t_G_allow E (d - 1) (by omega) w S hP hV hC.2.2.2.1 p a hp (by omega)) (fun g52 => ?_) (fun g52 => ?_)
    ·
      refine Wp_if_eq d_F_ages_55 (fun q => absurd q (by decide)) (fun _ => ?_)
      refine Wp_iinc (z := nI ((agN S p a).1 + 1)) (ls2 := [lr 0, li (nI p), li c, li (nI ((agN S p a).1 + 1)), li (agN S p a).2.1, li (agN S p a).2.2, li (nI a)]) d_F_ages_58 rfl (nI_add (agN S p a).1 1) rfl rfl rfl ?_
      refine Wp_iload d_F_ages_61 rfl ?_
      refine Wp_iconst (x := (-1)) d_F_ages_63 (by decide) ?_
      refine Wp_icmp_ne d_F_ages_64 (fun h64 => ?_) (fun h64 => ?_)
      ·
        refine Wp_iload d_F_ages_72 rfl ?_
        refine Wp_istore (ls2 := [lr 0, li (nI p), li c, li (nI ((agN S p a).1 + 1)), li (agN S p a).2.1, li (agN S p a).2.2, li (nI a)]) d_F_ages_74 rfl rfl rfl ?_
        refine Wp_iload d_F_ages_76 rfl ?_
        refine Wp_istore (ls2 := [lr 0, li (nI p), li c, li (nI ((agN S p a).1 + 1)), li (agN S p a).2.1, li (nI a), li (nI a)]) d_F_ages_78 rfl rfl rfl ?_
        refine Wp_iinc (z := nI (a + 1)) (ls2 := [lr 0, li (nI p), li c, li (nI ((agN S p a).1 + 1)), li (agN S p a).2.1, li (nI a), li (nI (a + 1))]) d_F_ages_80 rfl (nI_add a 1) rfl rfl rfl ?_
        refine Wp_goto d_F_ages_83 ?_
        have e9 : agN S p (a + 1) = ((agN S p a).1 + 1, (agN S p a).2.1, nI a) := by rw [agN_1 g52, if_neg h64]
        have h9 := ih (a + 1) (by omega)
        rw [e9] at h9
        exact h9
      ·
        refine Wp_iload d_F_ages_67 rfl ?_
        refine Wp_goto d_F_ages_69 ?_
        refine Wp_istore (ls2 := [lr 0, li (nI p), li c, li (nI ((agN S p a).1 + 1)), li (nI a), li (agN S p a).2.2, li (nI a)]) d_F_ages_74 rfl rfl rfl ?_
        refine Wp_iload d_F_ages_76 rfl ?_
        refine Wp_istore (ls2 := [lr 0, li (nI p), li c, li (nI ((agN S p a).1 + 1)), li (nI a), li (nI a), li (nI a)]) d_F_ages_78 rfl rfl rfl ?_
        refine Wp_iinc (z := nI (a + 1)) (ls2 := [lr 0, li (nI p), li c, li (nI ((agN S p a).1 + 1)), li (nI a), li (nI a), li (nI (a + 1))]) d_F_ages_80 rfl (nI_add a 1) rfl rfl rfl ?_
        refine Wp_goto d_F_ages_83 ?_
        have e9 : agN S p (a + 1) = ((agN S p a).1 + 1, nI a, nI a) := by rw [agN_1 g52, if_pos h64]
        have h9 := ih (a + 1) (by omega)
        rw [e9] at h9
        exact h9
    ·
      refine Wp_if_eq d_F_ages_55 (fun _ => ?_) (fun q => absurd (by decide) q)
      refine Wp_iinc (z := nI (a + 1)) (ls2 := [lr 0, li (nI p), li c, li (nI (agN S p a).1), li (agN S p a).2.1, li (agN S p a).2.2, li (nI (a + 1))]) d_F_ages_80 rfl (nI_add a 1) rfl rfl rfl ?_
      refine Wp_goto d_F_ages_83 ?_
      have h9 := ih (a + 1) (by omega)
      rw [agN_0 g52] at h9
      exact h9
set_option maxRecDepth 100000 in
set_option maxHeartbeats 4000000 in
theorem t_F_ages (E : mE) (d : Nat) (hd : 4 ≤ d) (w : mw) (S : mw) (hC : CC w S) (hV : VM S) (p a : Int32) : Td E d m_F_ages [vr 0, vi p, vi a] w (rAges S p a) w := by
  refine ⟨Nat.le_of_ble_eq_true rfl, ?_⟩
  show Wp E d m_F_ages 0 [lr 0, li p, li a, lo, lo, lo, lo] [] w _
  have hP := CC_PR hC
  refine Wp_aload_n d_F_ages_0 rfl ?_
  refine Wp_getr d_F_ages_1 fd_F_10 rfl rfl rfl ?_
  refine Wp_iload_n d_F_ages_4 rfl ?_
  refine Wp_ivv_b (o := 1) (As := [vi p]) d_F_ages_5 ln_F_82 mk_P_isThere rfl rfl rfl rfl rfl (by omega) (t_P_isThere E (d - 1) (by omega) w (pN S) hP.2.1.1 (pN_ok S).1 p) (fun g5 => ?_) (fun g5 => ?_)
  ·
    have gp := g5
    obtain ⟨j, hj, rfl⟩ : ∃ j, j < pN S ∧ p = nI j := i_nIof g5.1 g5.2
    have hp10 := (pN_ok S).1
    have tJ := ti (show j < 2147483648 by omega)
    refine Wp_if_eq d_F_ages_8 (fun q => absurd q (by decide)) (fun _ => ?_)
    refine Wp_iload_n d_F_ages_11 rfl ?_
    refine Wp_iconst (x := 0) d_F_ages_12 (by decide) ?_
    refine Wp_iconst (x := 2) d_F_ages_13 (by decide) ?_
    refine Wp_ivs_b (As := [vi a, vi 0, vi 2]) d_F_ages_14 ln_F_59 mk_F_isWithin rfl rfl rfl (by omega) (t_F_isWithin E (d - 1) (by omega) w a 0 2) (fun g14 => ?_) (fun g14 => ?_)
    ·
      have k14 : 0 ≤ a.toInt ∧ a.toInt ≤ 2 := g14
      refine Wp_if_ne d_F_ages_17 (fun _ => ?_) (fun q => absurd q (by decide))
      refine Wp_iconst (x := 0) d_F_ages_23 (by decide) ?_
      refine Wp_istore_n (ls2 := [lr 0, li (nI j), li a, li 0, lo, lo, lo]) d_F_ages_24 rfl rfl rfl ?_
      refine Wp_iconst (x := (-1)) d_F_ages_25 (by decide) ?_
      refine Wp_istore (ls2 := [lr 0, li (nI j), li a, li 0, li (-1), lo, lo]) d_F_ages_26 rfl rfl rfl ?_
      refine Wp_iconst (x := (-1)) d_F_ages_28 (by decide) ?_
      refine Wp_istore (ls2 := [lr 0, li (nI j), li a, li 0, li (-1), li (-1), lo]) d_F_ages_29 rfl rfl rfl ?_
      refine Wp_iconst (x := 0) d_F_ages_31 (by decide) ?_
      refine Wp_istore (ls2 := [lr 0, li (nI j), li a, li 0, li (-1), li (-1), li 0]) d_F_ages_32 rfl rfl rfl ?_
      refine Wp_mi (l_F_ages E d (by omega) w S hC hV j (by omega) a 121 0 rfl) (fun r w1 h => ⟨?_, h.2⟩)
      rw [h.1]; unfold rAges; rw [if_pos ⟨gp, g14⟩, cl (by omega)]
    ·
      have k14 : ¬ (0 ≤ a.toInt ∧ a.toInt ≤ 2) := g14
      refine Wp_if_ne d_F_ages_17 (fun q => absurd q (by decide)) (fun _ => ?_)
      refine Wp_bipush (x := (-2)) d_F_ages_20 (by decide) ?_
      refine Wp_reti (ty := .int) d_F_ages_22 rfl rfl ?_
      exact ⟨by unfold rAges; rw [if_neg (by omega)], rfl⟩
  ·
    refine Wp_if_eq d_F_ages_8 (fun _ => ?_) (fun q => absurd (by decide) q)
    refine Wp_bipush (x := (-2)) d_F_ages_20 (by decide) ?_
    refine Wp_reti (ty := .int) d_F_ages_22 rfl rfl ?_
    exact ⟨by unfold rAges; rw [if_neg (by omega)], rfl⟩
set_option maxRecDepth 100000 in
set_option maxHeartbeats 4000000 in
theorem l_F_pl (E : mE) (d : Nat) (hd : 0 ≤ d) (w : mw) (L : Nat) (hL : L < 1024) : ∀ (f j a q0 : Nat), j + f = 10 → a + q0 < 1000 → nthB L f j q0 < 10 → Wp E d m_F_placeOf 4 [li (nI L), li (nI (a + q0)), li (nI a), li (nI j)] [] w (mPi (fun r w1 => r = nI (nthB L f j q0) ∧ w1 = w)) := by
  intro f
  induction f with
  | zero =>
    intro j a q0 hj ha hn
    have : nthB L 0 j q0 = j := rfl
    omega
  | succ f ih =>
    intro j a q0 hj ha hn
    refine Wp_iload_n d_F_placeOf_4 rfl ?_
    refine Wp_bipush (x := 10) d_F_placeOf_5 (by decide) ?_
    refine Wp_icmp_ge d_F_placeOf_7 (fun q => absurd (n_le (a := 10) q (by omega) (by omega)) (by omega)) (fun h7 => ?_)
    refine Wp_iload_n d_F_placeOf_10 rfl ?_
    refine Wp_iconst (x := 1) d_F_placeOf_11 (by decide) ?_
    refine Wp_iload_n d_F_placeOf_12 rfl ?_
    refine Wp_ishl d_F_placeOf_13 ?_
    refine Wp_eqi (x2 := nI (2 ^ j)) (sh1 (by omega)) ?_
    refine Wp_iand d_F_placeOf_14 ?_
    refine Wp_eqi (x2 := nI (L &&& (2 ^ j))) (nI_and L (2 ^ j)) ?_
    refine Wp_if_eq d_F_placeOf_15 (fun h15 => ?_) (fun h15 => ?_)
    ·
      have tb : L.testBit j = false := bit0 (by omega) h15
      refine Wp_iinc (z := nI (j + 1)) (ls2 := [li (nI L), li (nI (a + q0)), li (nI a), li (nI (j + 1))]) d_F_placeOf_28 rfl (nI_add j 1) rfl rfl rfl ?_
      refine Wp_goto d_F_placeOf_31 ?_
      have e9 : nthB L (f + 1) j q0 = nthB L f (j + 1) q0 := by rw [nthB, if_neg (by rw [tb]; decide)]
      rw [e9] at hn ⊢
      exact ih (j + 1) a q0 (by omega) ha hn
    ·
      have tb : L.testBit j = true := bit1 h15
      refine Wp_iload_n d_F_placeOf_18 rfl ?_
      refine Wp_iload_n d_F_placeOf_19 rfl ?_
      refine Wp_icmp_ne d_F_placeOf_20 (fun h20 => ?_) (fun h20 => ?_)
      ·
        have g20 : a ≠ (a + q0) := n_ne h20 (by omega) (by omega)
        refine Wp_iinc (z := nI (a + 1)) (ls2 := [li (nI L), li (nI (a + q0)), li (nI (a + 1)), li (nI j)]) d_F_placeOf_25 rfl (nI_add a 1) rfl rfl rfl ?_
        refine Wp_iinc (z := nI (j + 1)) (ls2 := [li (nI L), li (nI (a + q0)), li (nI (a + 1)), li (nI (j + 1))]) d_F_placeOf_28 rfl (nI_add j 1) rfl rfl rfl ?_
        refine Wp_goto d_F_placeOf_31 ?_
        have e9 : nthB L (f + 1) j q0 = nthB L f (j + 1) (q0 - 1) := by rw [nthB, if_pos tb, if_neg (by omega)]
        rw [e9] at hn ⊢
        have h9 := ih (j + 1) (a + 1) (q0 - 1) (by omega) (by omega) hn
        rw [show a + 1 + (q0 - 1) = a + q0 by omega] at h9
        exact h9
      ·
        have g20 : a = (a + q0) := n_eq h20 (by omega) (by omega)
        refine Wp_iload_n d_F_placeOf_23 rfl ?_
        refine Wp_reti (ty := .int) d_F_placeOf_24 rfl rfl ?_
        exact ⟨by rw [nthB, if_pos tb, if_pos (by omega)], rfl⟩
set_option maxRecDepth 100000 in
set_option maxHeartbeats 4000000 in
theorem t_F_placeOf (E : mE) (d : Nat) (hd : 0 ≤ d) (w : mw) (L q0 : Nat) (hL : L < 1024) (hr : q0 < popc L) : Td E d m_F_placeOf [vi (nI L), vi (nI q0)] w (nI (nthB L 10 0 q0)) w := by
  refine ⟨Nat.le_of_ble_eq_true rfl, ?_⟩
  show Wp E d m_F_placeOf 0 [li (nI L), li (nI q0), lo, lo] [] w _
  refine Wp_iconst (x := 0) d_F_placeOf_0 (by decide) ?_
  refine Wp_istore_n (ls2 := [li (nI L), li (nI q0), li 0, lo]) d_F_placeOf_1 rfl rfl rfl ?_
  refine Wp_iconst (x := 0) d_F_placeOf_2 (by decide) ?_
  refine Wp_istore_n (ls2 := [li (nI L), li (nI q0), li 0, li 0]) d_F_placeOf_3 rfl rfl rfl ?_
  have h9 := l_F_pl E d (by omega) w L hL 10 0 0 q0 rfl (by have := popc_le L; omega) (nth_ok L hL q0 hr).1
  rw [Nat.zero_add] at h9
  exact h9
set_option maxRecDepth 100000 in
set_option maxHeartbeats 4000000 in
theorem t_F_lotOf (E : mE) (d : Nat) (hd : 0 ≤ d) (w : mw) (x : Int32) (m : Nat) (hm0 : 0 < m) (hm : m ≤ 10) (hl : (x.toUInt32 >>> 16).toNat < 65536) : Td E d m_F_lotOf [vi x, vi (nI m)] w (nI ((x.toUInt32 >>> 16).toNat % m)) w := by
  refine ⟨Nat.le_of_ble_eq_true rfl, ?_⟩
  show Wp E d m_F_lotOf 0 [li x, li (nI m)] [] w _
  refine Wp_iload_n d_F_lotOf_0 rfl ?_
  refine Wp_if_le d_F_lotOf_1 (fun q => absurd (n_le (b := 0) q (by omega) (by omega)) (by omega)) (fun h1 => ?_)
  refine Wp_iload_n d_F_lotOf_4 rfl ?_
  refine Wp_bipush (x := 16) d_F_lotOf_5 (by decide) ?_
  refine Wp_iushr d_F_lotOf_7 ?_
  refine Wp_eqi (x2 := nI (x.toUInt32 >>> 16).toNat) (ushr16 x) ?_
  refine Wp_iload_n d_F_lotOf_8 rfl ?_
  refine Wp_irem d_F_lotOf_9 (fun q => absurd (n_eq (b := 0) q (by omega) (by omega)) (by omega)) ?_
  refine Wp_eqi (x2 := nI ((x.toUInt32 >>> 16).toNat % m)) (pk_rem (by omega) (by omega) (by omega)) ?_
  refine Wp_goto d_F_lotOf_10 ?_
  refine Wp_reti (ty := .int) d_F_lotOf_14 rfl rfl ?_
  exact ⟨rfl, rfl⟩
set_option maxRecDepth 100000 in
set_option maxHeartbeats 4000000 in
theorem t_R_boatOfPlace (E : mE) (d : Nat) (hd : 0 ≤ d) (w : mw) (S : mw) (hP : PR w S) (hV : VM S) (p : Nat) (hp : p < 10) : Td E d m_R_boatOfPlace [vr 8, vi (nI p)] w (nI (p / sSet S 0)) w := by
  refine ⟨Nat.le_of_ble_eq_true rfl, ?_⟩
  show Wp E d m_R_boatOfPlace 0 [lr 8, li (nI p), lo] [] w _
  have hs4 : sSet S 0 ≤ 4 := ((VM_set hV).1 0 (by omega)).2
  have hs1 := (VM_set hV).2
  refine Wp_aload_n d_R_boatOfPlace_0 rfl ?_
  refine Wp_getr d_R_boatOfPlace_1 fd_R_9 rfl rfl rfl ?_
  refine Wp_iconst (x := 0) d_R_boatOfPlace_4 (by decide) ?_
  refine Wp_ialdN (j := 0) d_R_boatOfPlace_5 rfl rfl rfl rfl (by decide) ?_
  refine Wp_eqi (x2 := nI (sSet S 0)) ((congrFun hP.2.2.1 _).trans ((VM_set hV).1 _ (by omega)).1) ?_
  refine Wp_istore_n (ls2 := [lr 8, li (nI p), li (nI (sSet S 0))]) d_R_boatOfPlace_6 rfl rfl rfl ?_
  refine Wp_iload_n d_R_boatOfPlace_7 rfl ?_
  refine Wp_if_le d_R_boatOfPlace_8 (fun q => absurd (n_le (b := 0) q (by omega) (by omega)) (by omega)) (fun h8 => ?_)
  refine Wp_iload_n d_R_boatOfPlace_11 rfl ?_
  refine Wp_iload_n d_R_boatOfPlace_12 rfl ?_
  refine Wp_idiv d_R_boatOfPlace_13 (fun q => absurd (n_eq (b := 0) q (by omega) (by omega)) (by omega)) ?_
  refine Wp_eqi (x2 := nI (p / sSet S 0)) (pk_div (by omega) (by omega) (by omega)) ?_
  refine Wp_goto d_R_boatOfPlace_14 ?_
  refine Wp_reti (ty := .int) d_R_boatOfPlace_18 rfl rfl ?_
  exact ⟨rfl, rfl⟩
set_option maxRecDepth 100000 in
set_option maxHeartbeats 4000000 in
theorem l_F_lo1 (E : mE) (d : Nat) (hd : 4 ≤ d) (w0 S : mw) (x : Int32) (Q : Option mv → mw → Prop) (hQ : ∀ (w : mw), fr [32] w0 w → (∀ i, i < 10 → w 32 i = 0) → Wp E d m_F_lot 21 [lr 0, li x, li 10, lo, lo, lo, lo] [] w Q) : ∀ (k b : Nat) (w : mw), b + k = 10 → fr [32] w0 w → (∀ i, i < b → w 32 i = 0) → Wp E d m_F_lot 2 [lr 0, li x, li (nI b), lo, lo, lo, lo] [] w Q := by
  intro k
  induction k with
  | zero =>
    intro b w hk hf hz
    have hbb : b = 10 := by omega
    subst hbb
    refine Wp_iload_n d_F_lot_2 rfl ?_
    refine Wp_bipush (x := 10) d_F_lot_3 (by decide) ?_
    refine Wp_icmp_ge d_F_lot_5 (fun h5 => ?_) (fun q => absurd (n_nle (a := 10) q (by omega) (by omega)) (by omega))
    exact hQ w hf hz
  | succ k ih =>
    intro b w hk hf hz
    refine Wp_iload_n d_F_lot_2 rfl ?_
    refine Wp_bipush (x := 10) d_F_lot_3 (by decide) ?_
    refine Wp_icmp_ge d_F_lot_5 (fun q => absurd (n_le (a := 10) q (by omega) (by omega)) (by omega)) (fun h5 => ?_)
    refine Wp_aload_n d_F_lot_8 rfl ?_
    refine Wp_getr d_F_lot_9 fd_F_55 rfl rfl rfl ?_
    refine Wp_iload_n d_F_lot_12 rfl ?_
    refine Wp_iconst (x := 0) d_F_lot_13 (by decide) ?_
    refine Wp_iastN (j := b) d_F_lot_14 rfl rfl rfl rfl (by omega) ?_
    refine Wp_iinc (z := nI (b + 1)) (ls2 := [lr 0, li x, li (nI (b + 1)), lo, lo, lo, lo]) d_F_lot_15 rfl (nI_add b 1) rfl rfl rfl ?_
    refine Wp_goto d_F_lot_18 ?_
    refine ih (b + 1) _ (by omega) (fr_U2 hf (by decide)) (fun i hi => ?_)
    by_cases hib : i = b
    · subst hib; exact mU_at
    · rw [mU_at_ne hib]; exact hz i (by omega)
set_option maxRecDepth 100000 in
set_option maxHeartbeats 4000000 in
theorem l_F_lo3 (E : mE) (d : Nat) (hd : 4 ≤ d) (w0 S : mw) (hP0 : PR w0 S) (hV : VM S) (x : Int32) : ∀ (i k : Nat) (w : mw) (u5 u6 : Option mv), k + i = pN S → fr [32] w0 w → (∀ i, i < 10 → w 32 i = nI ((lotS S x k).2 i)) → Wp E d m_F_lot 34 [lr 0, li x, li (nI (lotS S x k).1), li (lotX x k), li (nI k), u5, u6] [] w (mPi (fun r w1 => r = lotV S x ∧ fr [32] w0 w1)) := by
  intro i
  have hp10 := (pN_ok S).1
  induction i with
  | zero =>
    intro k w u5 u6 hk hf hd2
    have hin : k = pN S := by omega
    subst hin
    have hP := PR_fr hP0 hf (by decide)
    have hL := (lotS_ok (S := S) (x := x) (pN S) (Nat.le_refl _)).2.2
    refine Wp_iload d_F_lot_34 rfl ?_
    refine Wp_aload_n d_F_lot_36 rfl ?_
    refine Wp_getr d_F_lot_37 fd_F_10 rfl rfl rfl ?_
    refine Wp_getf d_F_lot_40 fd_F_177 rfl rfl rfl ?_
    refine Wp_eqi (x2 := nI (pN S)) hP.2.1.1 ?_
    refine Wp_icmp_ge d_F_lot_43 (fun h43 => ?_) (fun q => absurd (n_nle q (by omega) (by omega)) (by omega))
    refine Wp_aload_n d_F_lot_127 rfl ?_
    refine Wp_ivv_d (o := 0) (As := []) d_F_lot_128 ln_F_194 mk_F_costOfBoats rfl rfl rfl rfl rfl (by omega) (t_F_costOfBoats E (d - 1) (by omega) w S hP hV (lotS S x (pN S)).2 (fun i hi => ⟨hd2 i hi, hL i⟩)) ?_
    refine Wp_reti (ty := .int) d_F_lot_131 rfl rfl ?_
    exact ⟨by rw [csum_lot]; rfl, hf⟩
  | succ i ih =>
    intro k w u5 u6 hk hf hd2
    have hP := PR_fr hP0 hf (by decide)
    have hs4 : sSet S 0 ≤ 4 := ((VM_set hV).1 0 (by omega)).2
    have hs1 := (VM_set hV).2
    have hH := lotH_lt x k
    obtain ⟨l1, l2, l3⟩ := lotS_ok (S := S) (x := x) k (by omega)
    have hr := Nat.mod_lt (lotH x k) (show 0 < pN S - k by omega)
    have hJ2 : lotJ S x k < 10 := lotJ_ok (by omega)
    have hjs : lotJ S x k / sSet S 0 < 10 := Nat.lt_of_le_of_lt (Nat.div_le_self _ _) hJ2
    refine Wp_iload d_F_lot_34 rfl ?_
    refine Wp_aload_n d_F_lot_36 rfl ?_
    refine Wp_getr d_F_lot_37 fd_F_10 rfl rfl rfl ?_
    refine Wp_getf d_F_lot_40 fd_F_177 rfl rfl rfl ?_
    refine Wp_eqi (x2 := nI (pN S)) hP.2.1.1 ?_
    refine Wp_icmp_ge d_F_lot_43 (fun q => absurd (n_le q (by omega) (by omega)) (by omega)) (fun h43 => ?_)
    refine Wp_ldc (x := 1103515245) d_F_lot_46 kc_F_237 ?_
    refine Wp_iload_n d_F_lot_48 rfl ?_
    refine Wp_imul d_F_lot_49 ?_
    refine Wp_sipush (x := 12345) d_F_lot_50 (by decide) ?_
    refine Wp_iadd d_F_lot_53 ?_
    refine Wp_eqi (x2 := lotX x (k + 1)) rfl ?_
    refine Wp_istore_n (ls2 := [lr 0, li x, li (nI (lotS S x k).1), li (lotX x (k + 1)), li (nI k), u5, u6]) d_F_lot_54 rfl rfl rfl ?_
    refine Wp_iload_n d_F_lot_55 rfl ?_
    refine Wp_iload_n d_F_lot_56 rfl ?_
    refine Wp_aload_n d_F_lot_57 rfl ?_
    refine Wp_getr d_F_lot_58 fd_F_10 rfl rfl rfl ?_
    refine Wp_getf d_F_lot_61 fd_F_177 rfl rfl rfl ?_
    refine Wp_eqi (x2 := nI (pN S)) hP.2.1.1 ?_
    refine Wp_iload d_F_lot_64 rfl ?_
    refine Wp_isub d_F_lot_66 ?_
    refine Wp_eqi (x2 := nI (pN S - k)) (pk_sub (by omega)) ?_
    refine Wp_ivs_d (As := [vi (lotX x (k + 1)), vi (nI (pN S - k))]) d_F_lot_67 ln_F_238 mk_F_lotOf rfl rfl rfl (by omega) (t_F_lotOf E (d - 1) (by omega) w (lotX x (k + 1)) (pN S - k) (by omega) (by omega) hH) ?_
    refine Wp_ivs_d (As := [vi (nI (lotS S x k).1), vi (nI (lotH x k % (pN S - k)))]) d_F_lot_70 ln_F_241 mk_F_placeOf rfl rfl rfl (by omega) (t_F_placeOf E (d - 1) (by omega) w (lotS S x k).1 (lotH x k % (pN S - k)) l2 (by omega)) ?_
    refine Wp_istore (ls2 := [lr 0, li x, li (nI (lotS S x k).1), li (lotX x (k + 1)), li (nI k), li (nI (lotJ S x k)), u6]) d_F_lot_73 rfl rfl rfl ?_
    refine Wp_iload_n d_F_lot_75 rfl ?_
    refine Wp_iconst (x := 1) d_F_lot_76 (by decide) ?_
    refine Wp_iload d_F_lot_77 rfl ?_
    refine Wp_ishl d_F_lot_79 ?_
    refine Wp_eqi (x2 := nI (2 ^ (lotJ S x k))) (sh1 (by omega)) ?_
    refine Wp_iconst (x := (-1)) d_F_lot_80 (by decide) ?_
    refine Wp_ixor d_F_lot_81 ?_
    refine Wp_iand d_F_lot_82 ?_
    refine Wp_eqi (x2 := nI (ann (lotS S x k).1 (2 ^ (lotJ S x k)))) (anI (lotS S x k).1 (2 ^ (lotJ S x k))) ?_
    refine Wp_istore_n (ls2 := [lr 0, li x, li (nI (ann (lotS S x k).1 (2 ^ (lotJ S x k)))), li (lotX x (k + 1)), li (nI k), li (nI (lotJ S x k)), u6]) d_F_lot_83 rfl rfl rfl ?_
    refine Wp_aload_n d_F_lot_84 rfl ?_
    refine Wp_getr d_F_lot_85 fd_F_19 rfl rfl rfl ?_
    refine Wp_iload d_F_lot_88 rfl ?_
    refine Wp_ivv_d (o := 8) (As := [vi (nI (lotJ S x k))]) d_F_lot_90 ln_F_244 mk_R_boatOfPlace rfl rfl rfl rfl rfl (by omega) (t_R_boatOfPlace E (d - 1) (by omega) w S hP hV (lotJ S x k) hJ2) ?_
    refine Wp_istore (ls2 := [lr 0, li x, li (nI (ann (lotS S x k).1 (2 ^ (lotJ S x k)))), li (lotX x (k + 1)), li (nI k), li (nI (lotJ S x k)), li (nI (lotJ S x k / sSet S 0))]) d_F_lot_93 rfl rfl rfl ?_
    refine Wp_iload d_F_lot_95 rfl ?_
    refine Wp_if_lt d_F_lot_97 (fun q => absurd (n_lt (b := 0) q (by omega) (by omega)) (Nat.not_lt_zero _)) (fun h97 => ?_)
    refine Wp_iload d_F_lot_100 rfl ?_
    refine Wp_bipush (x := 10) d_F_lot_102 (by decide) ?_
    refine Wp_icmp_ge d_F_lot_104 (fun q => absurd (n_le (a := 10) q (by omega) (by omega)) (by omega)) (fun h104 => ?_)
    refine Wp_aload_n d_F_lot_107 rfl ?_
    refine Wp_getr d_F_lot_108 fd_F_55 rfl rfl rfl ?_
    refine Wp_iload d_F_lot_111 rfl ?_
    refine Wp_dup2 d_F_lot_113 rfl rfl ?_
    refine Wp_ialdN (j := (lotJ S x k / sSet S 0)) d_F_lot_114 rfl rfl rfl rfl (by omega) ?_
    refine Wp_eqi (x2 := nI ((lotS S x k).2 (lotJ S x k / sSet S 0))) (hd2 _ hjs) ?_
    refine Wp_iconst (x := 1) d_F_lot_115 (by decide) ?_
    refine Wp_iload d_F_lot_116 rfl ?_
    refine Wp_ishl d_F_lot_118 ?_
    refine Wp_eqi (x2 := nI (2 ^ k)) (sh1 (by omega)) ?_
    refine Wp_ior d_F_lot_119 ?_
    refine Wp_eqi (x2 := nI (((lotS S x k).2 (lotJ S x k / sSet S 0)) ||| (2 ^ k))) (nI_or ((lotS S x k).2 (lotJ S x k / sSet S 0)) (2 ^ k)) ?_
    refine Wp_iastN (j := (lotJ S x k / sSet S 0)) d_F_lot_120 rfl rfl rfl rfl (by omega) ?_
    refine Wp_iinc (z := nI (k + 1)) (ls2 := [lr 0, li x, li (nI (ann (lotS S x k).1 (2 ^ (lotJ S x k)))), li (lotX x (k + 1)), li (nI (k + 1)), li (nI (lotJ S x k)), li (nI (lotJ S x k / sSet S 0))]) d_F_lot_121 rfl (nI_add k 1) rfl rfl rfl ?_
    refine Wp_goto d_F_lot_124 ?_
    refine ih (k + 1) _ _ _ (by omega) (fr_U2 hf (by decide)) (fun i hi => ?_)
    show _ = nI (if i = lotJ S x k / sSet S 0 then (lotS S x k).2 i ||| 2 ^ k else (lotS S x k).2 i)
    by_cases hib : i = lotJ S x k / sSet S 0
    · rw [if_pos hib, hib]; exact mU_at
    · rw [if_neg hib, mU_at_ne hib]; exact hd2 i hi
set_option maxRecDepth 100000 in
set_option maxHeartbeats 4000000 in
theorem t_F_lot (E : mE) (d : Nat) (hd : 4 ≤ d) (w : mw) (S : mw) (hC : CC w S) (hV : VM S) (x : Int32) : Ti E d m_F_lot [vr 0, vi x] w (fun r w1 => r = lotV S x ∧ CC w1 S ∧ fr cRows w w1) := by
  refine ⟨Nat.le_of_ble_eq_true rfl, ?_⟩
  show Wp E d m_F_lot 0 [lr 0, li x, lo, lo, lo, lo, lo] [] w _
  refine Wp_iconst (x := 0) d_F_lot_0 (by decide) ?_
  refine Wp_istore_n (ls2 := [lr 0, li x, li 0, lo, lo, lo, lo]) d_F_lot_1 rfl rfl rfl ?_
  refine l_F_lo1 E d (by omega) w S x _ (fun w2 f2 z2 => ?_) 10 0 w rfl fr_rf (fun i h => absurd h (Nat.not_lt_zero _))
  have hP2 := PR_fr (CC_PR hC) f2 (by decide)
  refine Wp_aload_n d_F_lot_21 rfl ?_
  refine Wp_getr d_F_lot_22 fd_F_10 rfl rfl rfl ?_
  refine Wp_ivv_d (o := 1) (As := []) d_F_lot_25 ln_F_180 mk_P_everyone rfl rfl rfl rfl rfl (by omega) (t_P_everyone E (d - 1) (by omega) w2 (pN S) hP2.2.1.1 (pN_ok S).1) ?_
  refine Wp_istore_n (ls2 := [lr 0, li x, li (nI (wh S)), lo, lo, lo, lo]) d_F_lot_28 rfl rfl rfl ?_
  refine Wp_iload_n d_F_lot_29 rfl ?_
  refine Wp_istore_n (ls2 := [lr 0, li x, li (nI (wh S)), li x, lo, lo, lo]) d_F_lot_30 rfl rfl rfl ?_
  refine Wp_iconst (x := 0) d_F_lot_31 (by decide) ?_
  refine Wp_istore (ls2 := [lr 0, li x, li (nI (wh S)), li x, li 0, lo, lo]) d_F_lot_32 rfl rfl rfl ?_
  refine Wp_mi (l_F_lo3 E d (by omega) w2 S hP2 hV x (pN S) 0 w2 none none (Nat.zero_add _) fr_rf z2) (fun r w1 h => ?_)
  have f3 : fr [32] w w1 := fr_tr f2 h.2
  refine ⟨h.1, CC_d hC (fr_sub f3 (by decide)) (CDd_eq hC.2.2.2.2.2.2 (fun k a b => f3 k (by simp; omega)) ⟨⟨rfl, rfl, rfl⟩, ⟨rfl, rfl⟩, rfl, rfl, rfl⟩), fr_sub f3 (by decide)⟩
