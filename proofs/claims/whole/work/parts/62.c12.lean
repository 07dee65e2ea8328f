set_option maxRecDepth 100000 in
set_option maxHeartbeats 4000000 in
theorem t_F_boat (E : mE) (d : Nat) (hd : 3 ≤ d) (w : mw) (S : mw) (hC : CC w S) (hV : VM S) (x a : Int32) : Ti E d m_F_boat [vr 0, vi x, vi a] w (fun r w1 => r = rBoat S x a ∧ CC w1 S ∧ fr cRows w w1) := by
  refine ⟨Nat.le_of_ble_eq_true rfl, ?_⟩
  show Wp E d m_F_boat 0 [lr 0, li x, li a] [] w _
  have hP := CC_PR hC
  have hp10 := (pN_ok S).1
  have h1024 := two10 hp10
  have hwl := wh_lt S
  have hwe := wh_1 S
  refine Wp_iload_n d_F_boat_0 rfl ?_
  refine Wp_if_eq d_F_boat_1 (fun h1 => ?_) (fun h1 => ?_)
  ·
    have g1 : x.toInt = 0 := by rw [h1]; rfl
    refine Wp_bipush (x := (-2)) d_F_boat_21 (by decide) ?_
    refine Wp_reti (ty := .int) d_F_boat_23 rfl rfl ?_
    exact ⟨by unfold rBoat; rw [if_neg (by omega)], hC, fr_rf⟩
  ·
    have g1 : x.toInt ≠ 0 := i_ne h1
    refine Wp_aload_n d_F_boat_4 rfl ?_
    refine Wp_iload_n d_F_boat_5 rfl ?_
    refine Wp_ivv_b (o := 0) (As := [vi x]) d_F_boat_6 ln_F_153 mk_F_areThere rfl rfl rfl rfl rfl (by omega) (t_F_areThere E (d - 1) (by omega) w S hP hV x) (fun g6 => ?_) (fun g6 => ?_)
    ·
      have gT := g6
      obtain ⟨b1, hb1, rfl⟩ : ∃ j, j < wh S + 1 ∧ x = nI j := i_nIof g6.1 (by omega)
      have tB := ti (show b1 < 2147483648 by omega)
      refine Wp_if_eq d_F_boat_9 (fun q => absurd q (by decide)) (fun _ => ?_)
      refine Wp_iload_n d_F_boat_12 rfl ?_
      refine Wp_iconst (x := 0) d_F_boat_13 (by decide) ?_
      refine Wp_iconst (x := 1) d_F_boat_14 (by decide) ?_
      refine Wp_ivs_b (As := [vi a, vi 0, vi 1]) d_F_boat_15 ln_F_59 mk_F_isWithin rfl rfl rfl (by omega) (t_F_isWithin E (d - 1) (by omega) w a 0 1) (fun g15 => ?_) (fun g15 => ?_)
      ·
        have k15 : 0 ≤ a.toInt ∧ a.toInt ≤ 1 := g15
        refine Wp_if_ne d_F_boat_18 (fun _ => ?_) (fun q => absurd q (by decide))
        refine Wp_iload_n d_F_boat_24 rfl ?_
        refine Wp_if_ne d_F_boat_25 (fun h25 => ?_) (fun h25 => ?_)
        ·
          have g25 : a.toInt ≠ 0 := i_ne h25
          refine Wp_aload_n d_F_boat_39 rfl ?_
          refine Wp_getr d_F_boat_40 fd_F_28 rfl rfl rfl ?_
          refine Wp_iload_n d_F_boat_43 rfl ?_
          refine Wp_ivv_d (o := 12) (As := [vi (nI b1)]) d_F_boat_44 ln_F_159 mk_D_fareOf rfl rfl rfl rfl rfl (by omega) (t_D_fareOf E (d - 1) (by omega) w S hP hV b1 (by omega)) ?_
          refine Wp_reti (ty := .int) d_F_boat_47 rfl rfl ?_
          exact ⟨by unfold rBoat; rw [if_pos (by omega), if_neg h25, cl (by omega)], hC, fr_rf⟩
        ·
          refine Wp_aload_n d_F_boat_28 rfl ?_
          refine Wp_getr d_F_boat_29 fd_F_28 rfl rfl rfl ?_
          refine Wp_iload_n d_F_boat_32 rfl ?_
          refine Wp_ivv_d (o := 12) (As := [vi (nI b1)]) d_F_boat_33 ln_F_156 mk_D_costOf rfl rfl rfl rfl rfl (by omega) (t_D_costOf E (d - 1) (by omega) w S hP hV b1 (by omega)) ?_
          refine Wp_goto d_F_boat_36 ?_
          refine Wp_reti (ty := .int) d_F_boat_47 rfl rfl ?_
          exact ⟨by unfold rBoat; rw [if_pos (by omega), if_pos h25, cl (by omega)], hC, fr_rf⟩
      ·
        have k15 : ¬ (0 ≤ a.toInt ∧ a.toInt ≤ 1) := g15
        refine Wp_if_ne d_F_boat_18 (fun q => absurd q (by decide)) (fun _ => ?_)
        refine Wp_bipush (x := (-2)) d_F_boat_21 (by decide) ?_
        refine Wp_reti (ty := .int) d_F_boat_23 rfl rfl ?_
        exact ⟨by unfold rBoat; rw [if_neg (by omega)], hC, fr_rf⟩
    ·
      refine Wp_if_eq d_F_boat_9 (fun _ => ?_) (fun q => absurd (by decide) q)
      refine Wp_bipush (x := (-2)) d_F_boat_21 (by decide) ?_
      refine Wp_reti (ty := .int) d_F_boat_23 rfl rfl ?_
      exact ⟨by unfold rBoat; rw [if_neg (by omega)], hC, fr_rf⟩
set_option maxRecDepth 100000 in
set_option maxHeartbeats 4000000 in
theorem t_F_day (E : mE) (d : Nat) (hd : 5 ≤ d) (w : mw) (S : mw) (hC : CC w S) (hV : VM S) (x a : Int32) : Ti E d m_F_day [vr 0, vi x, vi a] w (fun r w1 => r = rDay S x a ∧ CC w1 S ∧ fr cRows w w1) := by
  refine ⟨Nat.le_of_ble_eq_true rfl, ?_⟩
  show Wp E d m_F_day 0 [lr 0, li x, li a] [] w _
  have hP := CC_PR hC
  have hp10 := (pN_ok S).1
  have h1024 := two10 hp10
  have hwl := wh_lt S
  have hwe := wh_1 S
  refine Wp_aload_n d_F_day_0 rfl ?_
  refine Wp_iload_n d_F_day_1 rfl ?_
  refine Wp_ivv_b (o := 0) (As := [vi x]) d_F_day_2 ln_F_153 mk_F_areThere rfl rfl rfl rfl rfl (by omega) (t_F_areThere E (d - 1) (by omega) w S hP hV x) (fun g2 => ?_) (fun g2 => ?_)
  ·
    have gT := g2
    obtain ⟨b1, hb1, rfl⟩ : ∃ j, j < wh S + 1 ∧ x = nI j := i_nIof g2.1 (by omega)
    have tB := ti (show b1 < 2147483648 by omega)
    refine Wp_if_eq d_F_day_5 (fun q => absurd q (by decide)) (fun _ => ?_)
    refine Wp_iload_n d_F_day_8 rfl ?_
    refine Wp_iconst (x := 0) d_F_day_9 (by decide) ?_
    refine Wp_iconst (x := 2) d_F_day_10 (by decide) ?_
    refine Wp_ivs_b (As := [vi a, vi 0, vi 2]) d_F_day_11 ln_F_59 mk_F_isWithin rfl rfl rfl (by omega) (t_F_isWithin E (d - 1) (by omega) w a 0 2) (fun g11 => ?_) (fun g11 => ?_)
    ·
      have k11 : 0 ≤ a.toInt ∧ a.toInt ≤ 2 := g11
      refine Wp_if_ne d_F_day_14 (fun _ => ?_) (fun q => absurd q (by decide))
      refine Wp_aload_n d_F_day_20 rfl ?_
      refine Wp_getr d_F_day_21 fd_F_28 rfl rfl rfl ?_
      refine Wp_ivv_v (o := 12) (As := []) d_F_day_24 ln_F_162 mk_D_bringUpToDate rfl rfl rfl rfl rfl (by omega) (t_D_bringUpToDate E (d - 1) (by omega) w S hC hV) (fun w24 c24 => ?_)
      obtain ⟨hC2, z2, fB⟩ := c24
      have hP2 := CC_PR hC2
      have h15 := FT_15 hC2 z2
      have h16 := FT_16 hC2 z2
      have fBc : fr cRows w w24 := fr_sub fB (by decide)
      refine Wp_iload_n d_F_day_27 rfl ?_
      refine Wp_if_ne d_F_day_28 (fun h28 => ?_) (fun h28 => ?_)
      ·
        have g28 : a.toInt ≠ (0 : Int32).toInt := i_ne h28
        refine Wp_iload_n d_F_day_40 rfl ?_
        refine Wp_iconst (x := 1) d_F_day_41 (by decide) ?_
        refine Wp_icmp_ne d_F_day_42 (fun h42 => ?_) (fun h42 => ?_)
        ·
          have g42 : a.toInt ≠ (1 : Int32).toInt := i_ne h42
          refine Wp_aload_n d_F_day_56 rfl ?_
          refine Wp_getr d_F_day_57 fd_F_28 rfl rfl rfl ?_
          refine Wp_iload_n d_F_day_60 rfl ?_
          refine Wp_ivv_d (o := 12) (As := [vi (nI b1)]) d_F_day_61 ln_F_171 mk_D_mostOf rfl rfl rfl rfl rfl (by omega) (by have h := t_D_mostOf E (d - 1) (by omega) w24 b1 (by omega); rw [h16 _ (by omega), ← dayR2] at h; exact h) ?_
          refine Wp_reti (ty := .int) d_F_day_64 rfl rfl ?_
          have ea : a = 2 := by
            have e1 : Int32.toInt 1 = 1 := rfl
            have e0 : Int32.toInt 0 = 0 := rfl
            refine i_eq ?_
            have e2 : Int32.toInt 2 = 2 := rfl
            omega
          exact ⟨by unfold rDay; rw [if_pos (by omega), cl (by omega), ea], hC2, fBc⟩
        ·
          refine Wp_aload_n d_F_day_45 rfl ?_
          refine Wp_getr d_F_day_46 fd_F_28 rfl rfl rfl ?_
          refine Wp_iload_n d_F_day_49 rfl ?_
          refine Wp_ivv_d (o := 12) (As := [vi (nI b1)]) d_F_day_50 ln_F_168 mk_D_boatsOf rfl rfl rfl rfl rfl (by omega) (t_D_boatsOf E (d - 1) (by omega) w24 S hV b1 (by omega) (h15 _ (by omega))) ?_
          refine Wp_goto d_F_day_53 ?_
          refine Wp_reti (ty := .int) d_F_day_64 rfl rfl ?_
          have ea : a = 1 := h42
          exact ⟨by unfold rDay; rw [if_pos (by omega), cl (by omega), ea], hC2, fBc⟩
      ·
        refine Wp_aload_n d_F_day_31 rfl ?_
        refine Wp_getr d_F_day_32 fd_F_28 rfl rfl rfl ?_
        refine Wp_iload_n d_F_day_35 rfl ?_
        refine Wp_ivv_d (o := 12) (As := [vi (nI b1)]) d_F_day_36 ln_F_165 mk_D_leastOf rfl rfl rfl rfl rfl (by omega) (t_D_leastOf E (d - 1) (by omega) w24 S hV b1 (by omega) (h15 _ (by omega))) ?_
        refine Wp_reti (ty := .int) d_F_day_39 rfl rfl ?_
        have ea : a = 0 := h28
        exact ⟨by unfold rDay; rw [if_pos (by omega), cl (by omega), ea], hC2, fBc⟩
    ·
      have k11 : ¬ (0 ≤ a.toInt ∧ a.toInt ≤ 2) := g11
      refine Wp_if_ne d_F_day_14 (fun q => absurd q (by decide)) (fun _ => ?_)
      refine Wp_bipush (x := (-2)) d_F_day_17 (by decide) ?_
      refine Wp_reti (ty := .int) d_F_day_19 rfl rfl ?_
      exact ⟨by unfold rDay; rw [if_neg (by omega)], hC, fr_rf⟩
  ·
    refine Wp_if_eq d_F_day_5 (fun _ => ?_) (fun q => absurd (by decide) q)
    refine Wp_bipush (x := (-2)) d_F_day_17 (by decide) ?_
    refine Wp_reti (ty := .int) d_F_day_19 rfl rfl ?_
    exact ⟨by unfold rDay; rw [if_neg (by omega)], hC, fr_rf⟩
set_option maxRecDepth 100000 in
set_option maxHeartbeats 4000000 in
theorem t_F_with (E : mE) (d : Nat) (hd : 5 ≤ d) (w : mw) (S : mw) (hC : CC w S) (hV : VM S) (p : Int32) : Ti E d m_F_with [vr 0, vi p] w (fun r w1 => r = rWith S p ∧ CC w1 S ∧ fr cRows w w1) := by
  refine ⟨Nat.le_of_ble_eq_true rfl, ?_⟩
  show Wp E d m_F_with 0 [lr 0, li p] [] w _
  have hP := CC_PR hC
  refine Wp_aload_n d_F_with_0 rfl ?_
  refine Wp_getr d_F_with_1 fd_F_10 rfl rfl rfl ?_
  refine Wp_iload_n d_F_with_4 rfl ?_
  refine Wp_ivv_b (o := 1) (As := [vi p]) d_F_with_5 ln_F_82 mk_P_isThere rfl rfl rfl rfl rfl (by omega) (t_P_isThere E (d - 1) (by omega) w (pN S) hP.2.1.1 (pN_ok S).1 p) (fun g5 => ?_) (fun g5 => ?_)
  ·
    have gp := g5
    obtain ⟨j, hj, rfl⟩ : ∃ j, j < pN S ∧ p = nI j := i_nIof g5.1 g5.2
    have hp10 := (pN_ok S).1
    have tJ := ti (show j < 2147483648 by omega)
    refine Wp_if_ne d_F_with_8 (fun _ => ?_) (fun q => absurd q (by decide))
    refine Wp_aload_n d_F_with_14 rfl ?_
    refine Wp_getr d_F_with_15 fd_F_28 rfl rfl rfl ?_
    refine Wp_ivv_v (o := 12) (As := []) d_F_with_18 ln_F_162 mk_D_bringUpToDate rfl rfl rfl rfl rfl (by omega) (t_D_bringUpToDate E (d - 1) (by omega) w S hC hV) (fun w18 c18 => ?_)
    obtain ⟨hC2, z2, fB⟩ := c18
    have hP2 := CC_PR hC2
    have h15 := FT_15 hC2 z2
    have h16 := FT_16 hC2 z2
    have fBc : fr cRows w w18 := fr_sub fB (by decide)
    refine Wp_aload_n d_F_with_21 rfl ?_
    refine Wp_getr d_F_with_22 fd_F_28 rfl rfl rfl ?_
    refine Wp_iconst (x := 1) d_F_with_25 (by decide) ?_
    refine Wp_iload_n d_F_with_26 rfl ?_
    refine Wp_ishl d_F_with_27 ?_
    refine Wp_eqi (x2 := nI (2 ^ j)) (sh1 (by omega)) ?_
    refine Wp_ivv_d (o := 12) (As := [vi (nI (2 ^ j))]) d_F_with_28 ln_F_174 mk_D_boatWith rfl rfl rfl rfl rfl (by omega) (t_D_boatWith E (d - 1) (by omega) w18 S hP2 hV j hj (fun x hx _ => h15 x hx)) ?_
    refine Wp_reti (ty := .int) d_F_with_31 rfl rfl ?_
    exact ⟨by unfold rWith; rw [if_pos gp, cl (by omega)], hC2, fBc⟩
  ·
    refine Wp_if_ne d_F_with_8 (fun q => absurd q (by decide)) (fun _ => ?_)
    refine Wp_bipush (x := (-2)) d_F_with_11 (by decide) ?_
    refine Wp_reti (ty := .int) d_F_with_13 rfl rfl ?_
    exact ⟨by unfold rWith; rw [if_neg (by omega)], hC, fr_rf⟩
set_option maxRecDepth 100000 in
set_option maxHeartbeats 4000000 in
theorem l_F_odd (E : mE) (d : Nat) (hd : 5 ≤ d) (w S : mw) (hC : CC w S) (hV : VM S) (z2 : w 12 6 = 0) : ∀ (k p : Nat) (l : Int32) (u4 : Option mv), p + k = pN S → ((oddN S p).1 ≠ -1 → l = (oddN S p).2) → Wp E d m_F_odd 13 [lr 0, li (oddN S p).1, li l, li (nI p), u4] [] w (mPi (fun r w1 => r = oddR S ∧ w1 = w)) := by
  intro k
  have hP2 := CC_PR hC
  have h15 := FT_15 hC z2
  have hp10 := (pN_ok S).1
  have h1024 := two10 hp10
  have hwl := wh_lt S
  have hwe := wh_1 S
  induction k with
  | zero =>
    intro p l u4 hk hl
    have hpp : p = pN S := by omega
    subst hpp
    refine Wp_iload_n d_F_odd_13 rfl ?_
    refine Wp_aload_n d_F_odd_14 rfl ?_
    refine Wp_getr d_F_odd_15 fd_F_10 rfl rfl rfl ?_
    refine Wp_getf d_F_odd_18 fd_F_177 rfl rfl rfl ?_
    refine Wp_eqi (x2 := nI (pN S)) hP2.2.1.1 ?_
    refine Wp_icmp_ge d_F_odd_21 (fun h21 => ?_) (fun q => absurd (n_nle q (by omega) (by omega)) (by omega))
    refine Wp_iload_n d_F_odd_74 rfl ?_
    refine Wp_reti (ty := .int) d_F_odd_75 rfl rfl ?_
    exact ⟨rfl, rfl⟩
  | succ k ih =>
    intro p l u4 hk hl
    have hal := ann_le (wh S) (2 ^ p)
    refine Wp_iload_n d_F_odd_13 rfl ?_
    refine Wp_aload_n d_F_odd_14 rfl ?_
    refine Wp_getr d_F_odd_15 fd_F_10 rfl rfl rfl ?_
    refine Wp_getf d_F_odd_18 fd_F_177 rfl rfl rfl ?_
    refine Wp_eqi (x2 := nI (pN S)) hP2.2.1.1 ?_
    refine Wp_icmp_ge d_F_odd_21 (fun q => absurd (n_le q (by omega) (by omega)) (by omega)) (fun h21 => ?_)
    refine Wp_aload_n d_F_odd_24 rfl ?_
    refine Wp_getr d_F_odd_25 fd_F_28 rfl rfl rfl ?_
    refine Wp_aload_n d_F_odd_28 rfl ?_
    refine Wp_getr d_F_odd_29 fd_F_10 rfl rfl rfl ?_
    refine Wp_ivv_d (o := 1) (As := []) d_F_odd_32 ln_F_180 mk_P_everyone rfl rfl rfl rfl rfl (by omega) (t_P_everyone E (d - 1) (by omega) w (pN S) hP2.2.1.1 (pN_ok S).1) ?_
    refine Wp_iconst (x := 1) d_F_odd_35 (by decide) ?_
    refine Wp_iload_n d_F_odd_36 rfl ?_
    refine Wp_ishl d_F_odd_37 ?_
    refine Wp_eqi (x2 := nI (2 ^ p)) (sh1 (by omega)) ?_
    refine Wp_iconst (x := (-1)) d_F_odd_38 (by decide) ?_
    refine Wp_ixor d_F_odd_39 ?_
    refine Wp_iand d_F_odd_40 ?_
    refine Wp_eqi (x2 := nI (ann (wh S) (2 ^ p))) (anI (wh S) (2 ^ p)) ?_
    refine Wp_ivv_d (o := 12) (As := [vi (nI (ann (wh S) (2 ^ p)))]) d_F_odd_41 ln_F_165 mk_D_leastOf rfl rfl rfl rfl rfl (by omega) (t_D_leastOf E (d - 1) (by omega) w S hV (ann (wh S) (2 ^ p)) (by omega) (h15 _ (by omega))) ?_
    refine Wp_istore (ls2 := [lr 0, li (oddN S p).1, li l, li (nI p), li (dayR S (ann (wh S) (2 ^ p)) 0)]) d_F_odd_44 rfl rfl rfl ?_
    refine Wp_iload d_F_odd_46 rfl ?_
    refine Wp_iconst (x := (-1)) d_F_odd_48 (by decide) ?_
    refine Wp_icmp_eq d_F_odd_49 (fun h49 => ?_) (fun h49 => ?_)
    ·
      refine Wp_iinc (z := nI (p + 1)) (ls2 := [lr 0, li (oddN S p).1, li l, li (nI (p + 1)), li (dayR S (ann (wh S) (2 ^ p)) 0)]) d_F_odd_68 rfl (nI_add p 1) rfl rfl rfl ?_
      refine Wp_goto d_F_odd_71 ?_
      have e9 : oddN S (p + 1) = oddN S p := by rw [oddN, if_neg (fun q => q.1 h49)]
      have h9 := ih (p + 1) l (li (dayR S (ann (wh S) (2 ^ p)) 0)) (by omega) (fun q => by rw [e9] at q ⊢; exact hl q)
      rw [e9] at h9
      exact h9
    ·
      have g49 : (dayR S (ann (wh S) (2 ^ p)) 0).toInt ≠ -1 := i_ne h49
      refine Wp_iload_n d_F_odd_52 rfl ?_
      refine Wp_iconst (x := (-1)) d_F_odd_53 (by decide) ?_
      refine Wp_icmp_eq d_F_odd_54 (fun h54 => ?_) (fun h54 => ?_)
      ·
        refine Wp_iload_n d_F_odd_63 rfl ?_
        refine Wp_istore_n (ls2 := [lr 0, li (nI p), li l, li (nI p), li (dayR S (ann (wh S) (2 ^ p)) 0)]) d_F_odd_64 rfl rfl rfl ?_
        refine Wp_iload d_F_odd_65 rfl ?_
        refine Wp_istore_n (ls2 := [lr 0, li (nI p), li (dayR S (ann (wh S) (2 ^ p)) 0), li (nI p), li (dayR S (ann (wh S) (2 ^ p)) 0)]) d_F_odd_67 rfl rfl rfl ?_
        refine Wp_iinc (z := nI (p + 1)) (ls2 := [lr 0, li (nI p), li (dayR S (ann (wh S) (2 ^ p)) 0), li (nI (p + 1)), li (dayR S (ann (wh S) (2 ^ p)) 0)]) d_F_odd_68 rfl (nI_add p 1) rfl rfl rfl ?_
        refine Wp_goto d_F_odd_71 ?_
        have e9 : oddN S (p + 1) = (nI p, dayR S (ann (wh S) (2 ^ p)) 0) := by rw [oddN, if_pos ⟨h49, Or.inl h54⟩]
        have h9 := ih (p + 1) (dayR S (ann (wh S) (2 ^ p)) 0) (li (dayR S (ann (wh S) (2 ^ p)) 0)) (by omega) (fun _ => by rw [e9])
        rw [e9] at h9
        exact h9
      ·
        have g54 : (oddN S p).1.toInt ≠ -1 := i_ne h54
        refine Wp_iload d_F_odd_57 rfl ?_
        refine Wp_iload_n d_F_odd_59 rfl ?_
        refine Wp_icmp_ge d_F_odd_60 (fun h60 => ?_) (fun h60 => ?_)
        ·
          have g60 : l.toInt ≤ (dayR S (ann (wh S) (2 ^ p)) 0).toInt := i_le h60
          refine Wp_iinc (z := nI (p + 1)) (ls2 := [lr 0, li (oddN S p).1, li l, li (nI (p + 1)), li (dayR S (ann (wh S) (2 ^ p)) 0)]) d_F_odd_68 rfl (nI_add p 1) rfl rfl rfl ?_
          refine Wp_goto d_F_odd_71 ?_
          have e9 : oddN S (p + 1) = oddN S p := by rw [oddN, if_neg (fun q => q.2.elim h54 (fun q => by rw [← hl h54] at q; omega))]
          have h9 := ih (p + 1) l (li (dayR S (ann (wh S) (2 ^ p)) 0)) (by omega) (fun q => by rw [e9] at q ⊢; exact hl q)
          rw [e9] at h9
          exact h9
        ·
          have g60 : (dayR S (ann (wh S) (2 ^ p)) 0).toInt < l.toInt := i_nle h60
          refine Wp_iload_n d_F_odd_63 rfl ?_
          refine Wp_istore_n (ls2 := [lr 0, li (nI p), li l, li (nI p), li (dayR S (ann (wh S) (2 ^ p)) 0)]) d_F_odd_64 rfl rfl rfl ?_
          refine Wp_iload d_F_odd_65 rfl ?_
          refine Wp_istore_n (ls2 := [lr 0, li (nI p), li (dayR S (ann (wh S) (2 ^ p)) 0), li (nI p), li (dayR S (ann (wh S) (2 ^ p)) 0)]) d_F_odd_67 rfl rfl rfl ?_
          refine Wp_iinc (z := nI (p + 1)) (ls2 := [lr 0, li (nI p), li (dayR S (ann (wh S) (2 ^ p)) 0), li (nI (p + 1)), li (dayR S (ann (wh S) (2 ^ p)) 0)]) d_F_odd_68 rfl (nI_add p 1) rfl rfl rfl ?_
          refine Wp_goto d_F_odd_71 ?_
          have e9 : oddN S (p + 1) = (nI p, dayR S (ann (wh S) (2 ^ p)) 0) := by rw [oddN, if_pos ⟨h49, Or.inr (by rw [← hl h54]; exact g60)⟩]
          have h9 := ih (p + 1) (dayR S (ann (wh S) (2 ^ p)) 0) (li (dayR S (ann (wh S) (2 ^ p)) 0)) (by omega) (fun _ => by rw [e9])
          rw [e9] at h9
          exact h9
set_option maxRecDepth 100000 in
set_option maxHeartbeats 4000000 in
theorem t_F_odd (E : mE) (d : Nat) (hd : 5 ≤ d) (w : mw) (S : mw) (hC : CC w S) (hV : VM S) : Ti E d m_F_odd [vr 0] w (fun r w1 => r = oddR S ∧ CC w1 S ∧ fr cRows w w1) := by
  refine ⟨Nat.le_of_ble_eq_true rfl, ?_⟩
  show Wp E d m_F_odd 0 [lr 0, lo, lo, lo, lo] [] w _
  refine Wp_aload_n d_F_odd_0 rfl ?_
  refine Wp_getr d_F_odd_1 fd_F_28 rfl rfl rfl ?_
  refine Wp_ivv_v (o := 12) (As := []) d_F_odd_4 ln_F_162 mk_D_bringUpToDate rfl rfl rfl rfl rfl (by omega) (t_D_bringUpToDate E (d - 1) (by omega) w S hC hV) (fun w4 c4 => ?_)
  obtain ⟨hC2, z2, fB⟩ := c4
  have hP2 := CC_PR hC2
  have h15 := FT_15 hC2 z2
  have h16 := FT_16 hC2 z2
  have fBc : fr cRows w w4 := fr_sub fB (by decide)
  refine Wp_iconst (x := (-1)) d_F_odd_7 (by decide) ?_
  refine Wp_istore_n (ls2 := [lr 0, li (-1), lo, lo, lo]) d_F_odd_8 rfl rfl rfl ?_
  refine Wp_iconst (x := (-1)) d_F_odd_9 (by decide) ?_
  refine Wp_istore_n (ls2 := [lr 0, li (-1), li (-1), lo, lo]) d_F_odd_10 rfl rfl rfl ?_
  refine Wp_iconst (x := 0) d_F_odd_11 (by decide) ?_
  refine Wp_istore_n (ls2 := [lr 0, li (-1), li (-1), li 0, lo]) d_F_odd_12 rfl rfl rfl ?_
  refine Wp_mi (l_F_odd E d (by omega) w4 S hC2 hV z2 (pN S) 0 (-1) _ (Nat.zero_add _) (fun q => absurd rfl q)) (fun r w1 h => ⟨h.1, ?_, ?_⟩)
  · rw [h.2]; exact hC2
  · rw [h.2]; exact fBc
set_option maxRecDepth 100000 in
set_option maxHeartbeats 4000000 in
theorem t_F_refusalOf (E : mE) (d : Nat) (hd : 2 ≤ d) (w : mw) (S : mw) (hC : CC w S) (hV : VM S) (s : Int32) : Ti E d m_F_refusalOf [vr 0, vi s] w (fun r w1 => (¬ (0 ≤ s.toInt ∧ s.toInt ≤ 3) ∧ r = -2 ∧ w1 = w) ∨ (∃ j, j < 4 ∧ s = nI j ∧ (((S 34 j).toInt < 0 ∧ r = -11 ∧ w1 = mU w 0 7 1) ∨ (¬ (S 34 j).toInt < 0 ∧ sSz S j < pN S ∧ r = -3 ∧ w1 = w) ∨ (¬ (S 34 j).toInt < 0 ∧ pN S ≤ sSz S j ∧ r = 0 ∧ w1 = w)))) := by
  refine ⟨Nat.le_of_ble_eq_true rfl, ?_⟩
  show Wp E d m_F_refusalOf 0 [lr 0, li s] [] w _
  have hP := CC_PR hC
  have hp10 := (pN_ok S).1
  refine Wp_iload_n d_F_refusalOf_0 rfl ?_
  refine Wp_ivs_b (As := [vi s]) d_F_refusalOf_1 ln_F_115 mk_F_isSheet rfl rfl rfl (by omega) (t_F_isSheet E (d - 1) (by omega) w s) (fun g1 => ?_) (fun g1 => ?_)
  ·
    obtain ⟨s1, h_s1, rfl⟩ := sh_of g1
    have tS_s1 := ti (show s1 < 2147483648 by omega)
    have hz1 := (VM_sz hV s1 h_s1).2
    refine Wp_if_ne d_F_refusalOf_4 (fun _ => ?_) (fun q => absurd q (by decide))
    refine Wp_aload_n d_F_refusalOf_10 rfl ?_
    refine Wp_getr d_F_refusalOf_11 fd_F_50 rfl rfl rfl ?_
    refine Wp_iload_n d_F_refusalOf_14 rfl ?_
    refine Wp_aaldN (j := s1) d_F_refusalOf_15 rfl rfl rfl rfl (by omega) ?_
    refine Wp_ivv_b (o := (24 + s1)) (As := []) d_F_refusalOf_16 ln_F_118 mk_S_isLost (mObj_sh h_s1) rfl rfl rfl rfl (by omega) (t_S_isLost2 E (d - 1) w S hC hV s1 h_s1) (fun g16 => ?_) (fun g16 => ?_)
    ·
      refine Wp_if_eq d_F_refusalOf_19 (fun q => absurd q (by decide)) (fun _ => ?_)
      refine Wp_aload_n d_F_refusalOf_22 rfl ?_
      refine Wp_iconst (x := 1) d_F_refusalOf_23 (by decide) ?_
      refine Wp_ivv_d (o := 0) (As := [vi 1]) d_F_refusalOf_24 ln_F_121 mk_F_find rfl rfl rfl rfl rfl (by omega) (t_F_find E (d - 1) (by omega) w 1 (-11) (by decide)) ?_
      refine Wp_reti (ty := .int) d_F_refusalOf_27 rfl rfl ?_
      exact Or.inr ⟨s1, h_s1, rfl, Or.inl ⟨g16, rfl, rfl⟩⟩
    ·
      have cz_s1 := CSh_z (CC_sh hC h_s1) hV h_s1 g16
      refine Wp_if_eq d_F_refusalOf_19 (fun _ => ?_) (fun q => absurd (by decide) q)
      refine Wp_aload_n d_F_refusalOf_28 rfl ?_
      refine Wp_getr d_F_refusalOf_29 fd_F_50 rfl rfl rfl ?_
      refine Wp_iload_n d_F_refusalOf_32 rfl ?_
      refine Wp_aaldN (j := s1) d_F_refusalOf_33 rfl rfl rfl rfl (by omega) ?_
      refine Wp_getf d_F_refusalOf_34 fd_F_124 (mObj_sh h_s1) rfl (mRef_sh2 h_s1) ?_
      refine Wp_eqi (x2 := nI (sSz S s1)) cz_s1.2.1 ?_
      refine Wp_aload_n d_F_refusalOf_37 rfl ?_
      refine Wp_getr d_F_refusalOf_38 fd_F_10 rfl rfl rfl ?_
      refine Wp_getf d_F_refusalOf_41 fd_F_177 rfl rfl rfl ?_
      refine Wp_eqi (x2 := nI (pN S)) hP.2.1.1 ?_
      refine Wp_icmp_ge d_F_refusalOf_44 (fun h44 => ?_) (fun h44 => ?_)
      ·
        have g44 : (pN S) ≤ (sSz S s1) := n_le h44 (by omega) (by omega)
        refine Wp_iconst (x := 0) d_F_refusalOf_52 (by decide) ?_
        refine Wp_reti (ty := .int) d_F_refusalOf_53 rfl rfl ?_
        exact Or.inr ⟨s1, h_s1, rfl, Or.inr (Or.inr ⟨g16, g44, rfl, rfl⟩)⟩
      ·
        have g44 : (sSz S s1) < (pN S) := n_nle h44 (by omega) (by omega)
        refine Wp_bipush (x := (-3)) d_F_refusalOf_47 (by decide) ?_
        refine Wp_goto d_F_refusalOf_49 ?_
        refine Wp_reti (ty := .int) d_F_refusalOf_53 rfl rfl ?_
        exact Or.inr ⟨s1, h_s1, rfl, Or.inr (Or.inl ⟨g16, g44, rfl, rfl⟩)⟩
  ·
    refine Wp_if_ne d_F_refusalOf_4 (fun q => absurd q (by decide)) (fun _ => ?_)
    refine Wp_bipush (x := (-2)) d_F_refusalOf_7 (by decide) ?_
    refine Wp_reti (ty := .int) d_F_refusalOf_9 rfl rfl ?_
    exact Or.inl ⟨g1, rfl, rfl⟩
set_option maxRecDepth 100000 in
set_option maxHeartbeats 4000000 in
theorem l_F_crew (E : mE) (d : Nat) (hd : 2 ≤ d) (w S : mw) (hP : PR w S) (hV : VM S) (s : Nat) (h_s : s < 4) (cz_s : w (24 + s) 1 = S 34 s ∧ w (24 + s) 2 = nI (sSz S s) ∧ ∀ i, i < sSz S s → w (28 + s) i = S 36 (60 * s + i)) (hz : pN S ≤ sSz S s) (x : Int32) : ∀ (k p : Nat), p + k = pN S → Wp E d m_F_crewOf 5 [lr 0, lr (24 + s), li x, li (nI (tbN S s x p)), li (nI p)] [] w (mPi (fun r w1 => r = nI (tbS S s x) ∧ w1 = w)) := by
  intro k
  have hp10 := (pN_ok S).1
  have h1024 := two10 hp10
  have hwl := wh_lt S
  have hwe := wh_1 S
  induction k with
  | zero =>
    intro p hk
    have hpp : p = pN S := by omega
    subst hpp
    refine Wp_iload d_F_crewOf_5 rfl ?_
    refine Wp_aload_n d_F_crewOf_7 rfl ?_
    refine Wp_getr d_F_crewOf_8 fd_F_10 rfl rfl rfl ?_
    refine Wp_getf d_F_crewOf_11 fd_F_177 rfl rfl rfl ?_
    refine Wp_eqi (x2 := nI (pN S)) hP.2.1.1 ?_
    refine Wp_icmp_ge d_F_crewOf_14 (fun h14 => ?_) (fun q => absurd (n_nle q (by omega) (by omega)) (by omega))
    refine Wp_iload_n d_F_crewOf_40 rfl ?_
    refine Wp_reti (ty := .int) d_F_crewOf_41 rfl rfl ?_
    exact ⟨rfl, rfl⟩
  | succ k ih =>
    intro p hk
    refine Wp_iload d_F_crewOf_5 rfl ?_
    refine Wp_aload_n d_F_crewOf_7 rfl ?_
    refine Wp_getr d_F_crewOf_8 fd_F_10 rfl rfl rfl ?_
    refine Wp_getf d_F_crewOf_11 fd_F_177 rfl rfl rfl ?_
    refine Wp_eqi (x2 := nI (pN S)) hP.2.1.1 ?_
    refine Wp_icmp_ge d_F_crewOf_14 (fun q => absurd (n_le q (by omega) (by omega)) (by omega)) (fun h14 => ?_)
    refine Wp_aload_n d_F_crewOf_17 rfl ?_
    refine Wp_iload d_F_crewOf_18 rfl ?_
    refine Wp_ivv_d (o := (24 + s)) (As := [vi (nI p)]) d_F_crewOf_20 ln_F_133 mk_S_item (mObj_sh h_s) rfl rfl rfl rfl (by omega) (by have h := t_S_item E (d - 1) (by omega) w s (sSz S s) p h_s cz_s.2.1 (VM_sz hV s h_s).2 (by omega); rw [cz_s.2.2 _ (by omega)] at h; exact h) ?_
    refine Wp_iload_n d_F_crewOf_23 rfl ?_
    refine Wp_icmp_ne d_F_crewOf_24 (fun h24 => ?_) (fun h24 => ?_)
    ·
      have g24 : (S 36 (60 * s + p)).toInt ≠ x.toInt := i_ne h24
      refine Wp_iinc (z := nI (p + 1)) (ls2 := [lr 0, lr (24 + s), li x, li (nI (tbN S s x p)), li (nI (p + 1))]) d_F_crewOf_34 rfl (nI_add p 1) rfl rfl rfl ?_
      refine Wp_goto d_F_crewOf_37 ?_
      have e9 : tbN S s x (p + 1) = tbN S s x p := by rw [tbN, if_neg h24]
      have h9 := ih (p + 1) (by omega)
      rw [e9] at h9
      exact h9
    ·
      refine Wp_iload_n d_F_crewOf_27 rfl ?_
      refine Wp_iconst (x := 1) d_F_crewOf_28 (by decide) ?_
      refine Wp_iload d_F_crewOf_29 rfl ?_
      refine Wp_ishl d_F_crewOf_31 ?_
      refine Wp_eqi (x2 := nI (2 ^ p)) (sh1 (by omega)) ?_
      refine Wp_ior d_F_crewOf_32 ?_
      refine Wp_eqi (x2 := nI ((tbN S s x p) ||| (2 ^ p))) (nI_or (tbN S s x p) (2 ^ p)) ?_
      refine Wp_istore_n (ls2 := [lr 0, lr (24 + s), li x, li (nI ((tbN S s x p) ||| (2 ^ p))), li (nI p)]) d_F_crewOf_33 rfl rfl rfl ?_
      refine Wp_iinc (z := nI (p + 1)) (ls2 := [lr 0, lr (24 + s), li x, li (nI ((tbN S s x p) ||| (2 ^ p))), li (nI (p + 1))]) d_F_crewOf_34 rfl (nI_add p 1) rfl rfl rfl ?_
      refine Wp_goto d_F_crewOf_37 ?_
      have e9 : tbN S s x (p + 1) = tbN S s x p ||| 2 ^ p := by rw [tbN, if_pos h24]
      have h9 := ih (p + 1) (by omega)
      rw [e9] at h9
      exact h9
set_option maxRecDepth 100000 in
set_option maxHeartbeats 4000000 in
theorem t_F_crewOf (E : mE) (d : Nat) (hd : 2 ≤ d) (w : mw) (S : mw) (hP : PR w S) (hV : VM S) (s : Nat) (h_s : s < 4) (cz_s : w (24 + s) 1 = S 34 s ∧ w (24 + s) 2 = nI (sSz S s) ∧ ∀ i, i < sSz S s → w (28 + s) i = S 36 (60 * s + i)) (hz : pN S ≤ sSz S s) (x : Int32) : Td E d m_F_crewOf [vr 0, vr (24 + s), vi x] w (nI (tbS S s x)) w := by
  refine ⟨Nat.le_of_ble_eq_true rfl, ?_⟩
  show Wp E d m_F_crewOf 0 [lr 0, lr (24 + s), li x, lo, lo] [] w _
  refine Wp_iconst (x := 0) d_F_crewOf_0 (by decide) ?_
  refine Wp_istore_n (ls2 := [lr 0, lr (24 + s), li x, li 0, lo]) d_F_crewOf_1 rfl rfl rfl ?_
  refine Wp_iconst (x := 0) d_F_crewOf_2 (by decide) ?_
  refine Wp_istore (ls2 := [lr 0, lr (24 + s), li x, li 0, li 0]) d_F_crewOf_3 rfl rfl rfl ?_
  exact l_F_crew E d (by omega) w S hP hV s h_s cz_s hz x (pN S) 0 (Nat.zero_add _)
set_option maxRecDepth 100000 in
set_option maxHeartbeats 4000000 in
theorem l_F_fj (E : mE) (d : Nat) (hd : 5 ≤ d) (w S : mw) (hC : CC w S) (hV : VM S) (z2 : w 12 6 = 0) (s : Nat) (h_s : s < 4) (cz_s : w (24 + s) 1 = S 34 s ∧ w (24 + s) 2 = nI (sSz S s) ∧ ∀ i, i < sSz S s → w (28 + s) i = S 36 (60 * s + i)) (hz : pN S ≤ sSz S s) : ∀ (k p : Nat) (u3 : Option mv), p + k = pN S → Wp E d m_F_firstJudged 9 [lr 0, lr (24 + s), li (nI p), u3] [] w (mPi (fun r w1 => r = jdF S s k p ∧ w1 = w)) := by
  intro k
  have hP := CC_PR hC
  have hT := FT_tab hC z2
  have hp10 := (pN_ok S).1
  have h1024 := two10 hp10
  have hwl := wh_lt S
  have hwe := wh_1 S
  induction k with
  | zero =>
    intro p u3 hk
    have hpp : p = pN S := by omega
    subst hpp
    refine Wp_iload_n d_F_firstJudged_9 rfl ?_
    refine Wp_aload_n d_F_firstJudged_10 rfl ?_
    refine Wp_getr d_F_firstJudged_11 fd_F_10 rfl rfl rfl ?_
    refine Wp_getf d_F_firstJudged_14 fd_F_177 rfl rfl rfl ?_
    refine Wp_eqi (x2 := nI (pN S)) hP.2.1.1 ?_
    refine Wp_icmp_ge d_F_firstJudged_17 (fun h17 => ?_) (fun q => absurd (n_nle q (by omega) (by omega)) (by omega))
    refine Wp_iconst (x := (-1)) d_F_firstJudged_64 (by decide) ?_
    refine Wp_reti (ty := .int) d_F_firstJudged_65 rfl rfl ?_
    exact ⟨rfl, rfl⟩
  | succ k ih =>
    intro p u3 hk
    have hb := tbS_in (S := S) (s := s) (show p < pN S by omega)
    have hbb := hT.2.1 _ hb.1 hb.2
    refine Wp_iload_n d_F_firstJudged_9 rfl ?_
    refine Wp_aload_n d_F_firstJudged_10 rfl ?_
    refine Wp_getr d_F_firstJudged_11 fd_F_10 rfl rfl rfl ?_
    refine Wp_getf d_F_firstJudged_14 fd_F_177 rfl rfl rfl ?_
    refine Wp_eqi (x2 := nI (pN S)) hP.2.1.1 ?_
    refine Wp_icmp_ge d_F_firstJudged_17 (fun q => absurd (n_le q (by omega) (by omega)) (by omega)) (fun h17 => ?_)
    refine Wp_aload_n d_F_firstJudged_20 rfl ?_
    refine Wp_iload_n d_F_firstJudged_21 rfl ?_
    refine Wp_ivv_d (o := (24 + s)) (As := [vi (nI p)]) d_F_firstJudged_22 ln_F_133 mk_S_item (mObj_sh h_s) rfl rfl rfl rfl (by omega) (by have h := t_S_item E (d - 1) (by omega) w s (sSz S s) p h_s cz_s.2.1 (VM_sz hV s h_s).2 (by omega); rw [cz_s.2.2 _ (by omega)] at h; exact h) ?_
    refine Wp_istore_n (ls2 := [lr 0, lr (24 + s), li (nI p), li (S 36 (60 * s + p))]) d_F_firstJudged_25 rfl rfl rfl ?_
    refine Wp_iload_n d_F_firstJudged_26 rfl ?_
    refine Wp_ivs_b (As := [vi (S 36 (60 * s + p))]) d_F_firstJudged_27 ln_F_92 mk_F_isNumber rfl rfl rfl (by omega) (t_F_isNumber E (d - 1) (by omega) w (S 36 (60 * s + p))) (fun g27 => ?_) (fun g27 => ?_)
    ·
      refine Wp_if_eq d_F_firstJudged_30 (fun q => absurd q (by decide)) (fun _ => ?_)
      refine Wp_aload_n d_F_firstJudged_33 rfl ?_
      refine Wp_getr d_F_firstJudged_34 fd_F_28 rfl rfl rfl ?_
      refine Wp_aload_n d_F_firstJudged_37 rfl ?_
      refine Wp_aload_n d_F_firstJudged_38 rfl ?_
      refine Wp_iload_n d_F_firstJudged_39 rfl ?_
      refine Wp_ivv_d (o := 0) (As := [vr (24 + s), vi (S 36 (60 * s + p))]) d_F_firstJudged_40 ln_F_190 mk_F_crewOf rfl rfl rfl rfl rfl (by omega) (t_F_crewOf E (d - 1) (by omega) w S hP hV s h_s cz_s hz (S 36 (60 * s + p))) ?_
      refine Wp_aload_n d_F_firstJudged_43 rfl ?_
      refine Wp_getr d_F_firstJudged_44 fd_F_10 rfl rfl rfl ?_
      refine Wp_ivv_d (o := 1) (As := []) d_F_firstJudged_47 ln_F_180 mk_P_everyone rfl rfl rfl rfl rfl (by omega) (t_P_everyone E (d - 1) (by omega) w (pN S) hP.2.1.1 (pN_ok S).1) ?_
      refine Wp_ivv_b (o := 12) (As := [vi (nI (tbS S s (S 36 (60 * s + p)))), vi (nI (wh S))]) d_F_firstJudged_50 ln_F_341 mk_D_mayGo rfl rfl rfl rfl rfl (by omega) (t_D_mayGo E (d - 1) (by omega) w S hV (tbS S s (S 36 (60 * s + p))) (wh S) hb.1 hb.2 (by omega) hbb.1 hbb.2) (fun g50 => ?_) (fun g50 => ?_)
      ·
        refine Wp_if_ne d_F_firstJudged_53 (fun _ => ?_) (fun q => absurd q (by decide))
        refine Wp_iinc (z := nI (p + 1)) (ls2 := [lr 0, lr (24 + s), li (nI (p + 1)), li (S 36 (60 * s + p))]) d_F_firstJudged_58 rfl (nI_add p 1) rfl rfl rfl ?_
        refine Wp_goto d_F_firstJudged_61 ?_
        have hgd : ¬ bad S s p := fun q => by
          rcases q with q | q | q
          · exact q g27
          · exact q g50.1
          · exact q g50.2
        rw [jdF_ok hgd]
        exact ih (p + 1) _ (by omega)
      ·
        refine Wp_if_ne d_F_firstJudged_53 (fun q => absurd q (by decide)) (fun _ => ?_)
        refine Wp_iload_n d_F_firstJudged_56 rfl ?_
        refine Wp_reti (ty := .int) d_F_firstJudged_57 rfl rfl ?_
        have hbd : bad S s p := by
          by_cases hn : 0 ≤ (S 36 (60 * s + p)).toInt ∧ (S 36 (60 * s + p)).toInt ≤ 9
          · first
            | exact absurd hn g27
            | (by_cases h : okS S (tbS S s (S 36 (60 * s + p))) = true
               · exact Or.inr (Or.inr (fun q => g50 ⟨h, q⟩))
               · exact Or.inr (Or.inl h))
          · exact Or.inl hn
        exact ⟨(jdF_bad hbd).symm, rfl⟩
    ·
      refine Wp_if_eq d_F_firstJudged_30 (fun _ => ?_) (fun q => absurd (by decide) q)
      refine Wp_iload_n d_F_firstJudged_56 rfl ?_
      refine Wp_reti (ty := .int) d_F_firstJudged_57 rfl rfl ?_
      have hbd : bad S s p := by
        by_cases hn : 0 ≤ (S 36 (60 * s + p)).toInt ∧ (S 36 (60 * s + p)).toInt ≤ 9
        · first
          | exact absurd hn g27
          | (by_cases h : okS S (tbS S s (S 36 (60 * s + p))) = true
             · exact Or.inr (Or.inr (fun q => g50 ⟨h, q⟩))
             · exact Or.inr (Or.inl h))
        · exact Or.inl hn
      exact ⟨(jdF_bad hbd).symm, rfl⟩
set_option maxRecDepth 100000 in
set_option maxHeartbeats 4000000 in
theorem t_F_firstJudged (E : mE) (d : Nat) (hd : 5 ≤ d) (w : mw) (S : mw) (hC : CC w S) (hV : VM S) (s : Nat) (h_s : s < 4) (cz_s : w (24 + s) 1 = S 34 s ∧ w (24 + s) 2 = nI (sSz S s) ∧ ∀ i, i < sSz S s → w (28 + s) i = S 36 (60 * s + i)) (hz : pN S ≤ sSz S s) : Ti E d m_F_firstJudged [vr 0, vr (24 + s)] w (fun r w1 => r = jdS S s ∧ CC w1 S ∧ w1 12 6 = 0 ∧ fr [12, 13, 14, 15, 16] w w1) := by
  refine ⟨Nat.le_of_ble_eq_true rfl, ?_⟩
  show Wp E d m_F_firstJudged 0 [lr 0, lr (24 + s), lo, lo] [] w _
  refine Wp_aload_n d_F_firstJudged_0 rfl ?_
  refine Wp_getr d_F_firstJudged_1 fd_F_28 rfl rfl rfl ?_
  refine Wp_ivv_v (o := 12) (As := []) d_F_firstJudged_4 ln_F_162 mk_D_bringUpToDate rfl rfl rfl rfl rfl (by omega) (t_D_bringUpToDate E (d - 1) (by omega) w S hC hV) (fun w4 c4 => ?_)
  obtain ⟨hC2, z2, fB⟩ := c4
  have hP2 := CC_PR hC2
  have h15 := FT_15 hC2 z2
  have h16 := FT_16 hC2 z2
  have fBc : fr cRows w w4 := fr_sub fB (by decide)
  refine Wp_iconst (x := 0) d_F_firstJudged_7 (by decide) ?_
  refine Wp_istore_n (ls2 := [lr 0, lr (24 + s), li 0, lo]) d_F_firstJudged_8 rfl rfl rfl ?_
  refine Wp_mi (l_F_fj E d (by omega) w4 S hC2 hV z2 s h_s (cz_fr cz_s (fr_sub (L2 := dRows) fB (by decide)) (sh_dRows h_s).1 (sh_dRows h_s).2) hz (pN S) 0 _ (Nat.zero_add _)) (fun r w1 h => ⟨h.1, ?_⟩)
  rw [h.2]; exact ⟨hC2, z2, fB⟩
set_option maxRecDepth 100000 in
set_option maxHeartbeats 4000000 in
theorem t_F_judged (E : mE) (d : Nat) (hd : 6 ≤ d) (w : mw) (S : mw) (hC : CC w S) (hV : VM S) (s : Int32) : Ti E d m_F_judged [vr 0, vi s] w (fun r w1 => r = (oJudged S s).1 ∧ CC w1 (oJudged S s).2 ∧ fr cRows w w1) := by
  refine ⟨Nat.le_of_ble_eq_true rfl, ?_⟩
  show Wp E d m_F_judged 0 [lr 0, li s, lo] [] w _
  refine Wp_aload_n d_F_judged_0 rfl ?_
  refine Wp_iload_n d_F_judged_1 rfl ?_
  refine Wp_ivv_i (o := 0) (As := [vi s]) d_F_judged_2 ln_F_183 mk_F_refusalOf rfl rfl rfl rfl rfl (by omega) (t_F_refusalOf E (d - 1) (by omega) w S hC hV s) (fun r2 w2 c2 => ?_)
  rcases c2 with ⟨g1, e1, e2⟩ | ⟨s1, h_s1, rfl, ⟨g1, e1, e2⟩ | ⟨g1, g2, e1, e2⟩ | ⟨g1, g2, e1, e2⟩⟩
  ·
    rw [e1, e2]
    refine Wp_istore_n (ls2 := [lr 0, li s, li (-2)]) d_F_judged_5 rfl rfl rfl ?_
    refine Wp_iload_n d_F_judged_6 rfl ?_
    refine Wp_if_eq d_F_judged_7 (fun q => absurd q (by decide)) (fun _ => ?_)
    refine Wp_iload_n d_F_judged_10 rfl ?_
    refine Wp_goto d_F_judged_11 ?_
    refine Wp_reti (ty := .int) d_F_judged_24 rfl rfl ?_
    have e9 : oJudged S s = (-2, S) := by unfold oJudged; rw [if_pos g1]
    rw [e9]; exact ⟨rfl, hC, fr_rf⟩
  ·
    have tS := ti (show s1 < 2147483648 by omega)
    rw [e1, e2]
    refine Wp_istore_n (ls2 := [lr 0, li (nI s1), li (-11)]) d_F_judged_5 rfl rfl rfl ?_
    refine Wp_iload_n d_F_judged_6 rfl ?_
    refine Wp_if_eq d_F_judged_7 (fun q => absurd q (by decide)) (fun _ => ?_)
    refine Wp_iload_n d_F_judged_10 rfl ?_
    refine Wp_goto d_F_judged_11 ?_
    refine Wp_reti (ty := .int) d_F_judged_24 rfl rfl ?_
    have e9 : oJudged S (nI s1) = (-11, mU S 33 4 1) := by unfold oJudged; rw [if_neg (by omega), cl (by omega), if_pos g1]
    rw [e9]; exact ⟨rfl, CC_fi hC 1, fr_U (by decide)⟩
  ·
    have tS := ti (show s1 < 2147483648 by omega)
    rw [e1, e2]
    refine Wp_istore_n (ls2 := [lr 0, li (nI s1), li (-3)]) d_F_judged_5 rfl rfl rfl ?_
    refine Wp_iload_n d_F_judged_6 rfl ?_
    refine Wp_if_eq d_F_judged_7 (fun q => absurd q (by decide)) (fun _ => ?_)
    refine Wp_iload_n d_F_judged_10 rfl ?_
    refine Wp_goto d_F_judged_11 ?_
    refine Wp_reti (ty := .int) d_F_judged_24 rfl rfl ?_
    have e9 : oJudged S (nI s1) = (-3, S) := by unfold oJudged; rw [if_neg (by omega), cl (by omega), if_neg g1, if_pos (g2)]
    rw [e9]; exact ⟨rfl, hC, fr_rf⟩
  ·
    have tS := ti (show s1 < 2147483648 by omega)
    have hz1 := (VM_sz hV s1 h_s1).2
    rw [e1, e2]
    refine Wp_istore_n (ls2 := [lr 0, li (nI s1), li 0]) d_F_judged_5 rfl rfl rfl ?_
    refine Wp_iload_n d_F_judged_6 rfl ?_
    refine Wp_if_eq d_F_judged_7 (fun _ => ?_) (fun q => absurd (by decide) q)
    refine Wp_aload_n d_F_judged_14 rfl ?_
    refine Wp_aload_n d_F_judged_15 rfl ?_
    refine Wp_getr d_F_judged_16 fd_F_50 rfl rfl rfl ?_
    refine Wp_iload_n d_F_judged_19 rfl ?_
    refine Wp_aaldN (j := s1) d_F_judged_20 rfl rfl rfl rfl (by omega) ?_
    refine Wp_ivv_i (o := 0) (As := [vr (24 + s1)]) d_F_judged_21 ln_F_186 mk_F_firstJudged rfl rfl rfl rfl rfl (by omega) (t_F_firstJudged E (d - 1) (by omega) w S hC hV s1 h_s1 (CSh_z (CC_sh hC h_s1) hV h_s1 g1) g2) (fun r21 w21 c21 => ?_)
    obtain ⟨e3, hC2, z2, fB⟩ := c21
    rw [e3]
    refine Wp_reti (ty := .int) d_F_judged_24 rfl rfl ?_
    have e9 : oJudged S (nI s1) = (jdS S s1, S) := by unfold oJudged; rw [if_neg (by omega), cl (by omega), if_neg g1, if_neg (by omega)]
    rw [e9]; exact ⟨rfl, hC2, fr_sub fB (by decide)⟩
set_option maxRecDepth 100000 in
set_option maxHeartbeats 4000000 in
theorem l_F_cob (E : mE) (d : Nat) (hd : 3 ≤ d) (w S : mw) (hP : PR w S) (hV : VM S) (f : Nat → Nat) (hf : ∀ i, i < 10 → w 32 i = nI (f i) ∧ f i < 2 ^ pN S) : ∀ (k i : Nat), i + k = 10 → Wp E d m_F_costOfBoats 4 [lr 0, li (nI (csum S f i)), li (nI i)] [] w (mPi (fun r w1 => r = nI (csum S f 10) ∧ w1 = w)) := by
  intro k
  induction k with
  | zero =>
    intro i hk
    have hii : i = 10 := by omega
    subst hii
    refine Wp_iload_n d_F_costOfBoats_4 rfl ?_
    refine Wp_bipush (x := 10) d_F_costOfBoats_5 (by decide) ?_
    refine Wp_icmp_ge d_F_costOfBoats_7 (fun h7 => ?_) (fun q => absurd (n_nle (a := 10) q (by omega) (by omega)) (by omega))
    refine Wp_iload_n d_F_costOfBoats_32 rfl ?_
    refine Wp_reti (ty := .int) d_F_costOfBoats_33 rfl rfl ?_
    exact ⟨rfl, rfl⟩
  | succ k ih =>
    intro i hk
    have hfi := hf i (by omega)
    refine Wp_iload_n d_F_costOfBoats_4 rfl ?_
    refine Wp_bipush (x := 10) d_F_costOfBoats_5 (by decide) ?_
    refine Wp_icmp_ge d_F_costOfBoats_7 (fun q => absurd (n_le (a := 10) q (by omega) (by omega)) (by omega)) (fun h7 => ?_)
    refine Wp_iload_n d_F_costOfBoats_10 rfl ?_
    refine Wp_aload_n d_F_costOfBoats_11 rfl ?_
    refine Wp_getr d_F_costOfBoats_12 fd_F_28 rfl rfl rfl ?_
    refine Wp_aload_n d_F_costOfBoats_15 rfl ?_
    refine Wp_getr d_F_costOfBoats_16 fd_F_55 rfl rfl rfl ?_
    refine Wp_iload_n d_F_costOfBoats_19 rfl ?_
    refine Wp_ialdN (j := i) d_F_costOfBoats_20 rfl rfl rfl rfl (by omega) ?_
    refine Wp_eqi (x2 := nI (f i)) hfi.1 ?_
    refine Wp_ivv_d (o := 12) (As := [vi (nI (f i))]) d_F_costOfBoats_21 ln_F_156 mk_D_costOf rfl rfl rfl rfl rfl (by omega) (t_D_costOf E (d - 1) (by omega) w S hP hV (f i) hfi.2) ?_
    refine Wp_iadd d_F_costOfBoats_24 ?_
    refine Wp_eqi (x2 := nI ((csum S f i) + (costS S (f i)))) (nI_add (csum S f i) (costS S (f i))) ?_
    refine Wp_istore_n (ls2 := [lr 0, li (nI ((csum S f i) + (costS S (f i)))), li (nI i)]) d_F_costOfBoats_25 rfl rfl rfl ?_
    refine Wp_iinc (z := nI (i + 1)) (ls2 := [lr 0, li (nI ((csum S f i) + (costS S (f i)))), li (nI (i + 1))]) d_F_costOfBoats_26 rfl (nI_add i 1) rfl rfl rfl ?_
    refine Wp_goto d_F_costOfBoats_29 ?_
    exact ih (i + 1) (by omega)
set_option maxRecDepth 100000 in
set_option maxHeartbeats 4000000 in
theorem t_F_costOfBoats (E : mE) (d : Nat) (hd : 3 ≤ d) (w : mw) (S : mw) (hP : PR w S) (hV : VM S) (f : Nat → Nat) (hf : ∀ i, i < 10 → w 32 i = nI (f i) ∧ f i < 2 ^ pN S) : Td E d m_F_costOfBoats [vr 0] w (nI (csum S f 10)) w := by
  refine ⟨Nat.le_of_ble_eq_true rfl, ?_⟩
  show Wp E d m_F_costOfBoats 0 [lr 0, lo, lo] [] w _
  refine Wp_iconst (x := 0) d_F_costOfBoats_0 (by decide) ?_
  refine Wp_istore_n (ls2 := [lr 0, li 0, lo]) d_F_costOfBoats_1 rfl rfl rfl ?_
  refine Wp_iconst (x := 0) d_F_costOfBoats_2 (by decide) ?_
  refine Wp_istore_n (ls2 := [lr 0, li 0, li 0]) d_F_costOfBoats_3 rfl rfl rfl ?_
  exact l_F_cob E d (by omega) w S hP hV f hf 10 0 rfl
set_option maxRecDepth 100000 in
set_option maxHeartbeats 4000000 in
theorem l_F_costs (E : mE) (d : Nat) (hd : 6 ≤ d) (w0 S : mw) (hP0 : PR w0 S) (hV : VM S) (s : Nat) (h_s : s < 4) (cz0 : w0 (24 + s) 1 = S 34 s ∧ w0 (24 + s) 2 = nI (sSz S s) ∧ ∀ i, i < sSz S s → w0 (28 + s) i = S 36 (60 * s + i)) (hz : pN S ≤ sSz S s) (u1 : Int32) (u2 : Option mv) : ∀ (k b : Nat) (w : mw), b + k = 10 → fr [32] w0 w → (∀ i, i < b → w 32 i = nI (tbS S s (nI i))) → Wp E d m_F_costs 34 [lr 0, li u1, u2, lr (24 + s), li (nI b)] [] w (mPi (fun r w1 => r = nI (cstN S s 10) ∧ fr [32] w0 w1)) := by
  intro k
  induction k with
  | zero =>
    intro b w hk hf h32
    have hP := PR_fr hP0 hf (by decide)
    have hii : b = 10 := by omega
    subst hii
    refine Wp_iload d_F_costs_34 rfl ?_
    refine Wp_bipush (x := 10) d_F_costs_36 (by decide) ?_
    refine Wp_icmp_ge d_F_costs_38 (fun h38 => ?_) (fun q => absurd (n_nle (a := 10) q (by omega) (by omega)) (by omega))
    refine Wp_aload_n d_F_costs_61 rfl ?_
    refine Wp_ivv_d (o := 0) (As := []) d_F_costs_62 ln_F_194 mk_F_costOfBoats rfl rfl rfl rfl rfl (by omega) (t_F_costOfBoats E (d - 1) (by omega) w S hP hV (fun i => tbS S s (nI i)) (fun i hi => ⟨h32 i hi, tbN_lt _⟩)) ?_
    refine Wp_reti (ty := .int) d_F_costs_65 rfl rfl ?_
    exact ⟨by rw [csum_cst], hf⟩
  | succ k ih =>
    intro b w hk hf h32
    have hP := PR_fr hP0 hf (by decide)
    have cz_s := cz_fr cz0 hf (by simp; omega) (by simp; omega)
    refine Wp_iload d_F_costs_34 rfl ?_
    refine Wp_bipush (x := 10) d_F_costs_36 (by decide) ?_
    refine Wp_icmp_ge d_F_costs_38 (fun q => absurd (n_le (a := 10) q (by omega) (by omega)) (by omega)) (fun h38 => ?_)
    refine Wp_aload_n d_F_costs_41 rfl ?_
    refine Wp_getr d_F_costs_42 fd_F_55 rfl rfl rfl ?_
    refine Wp_iload d_F_costs_45 rfl ?_
    refine Wp_aload_n d_F_costs_47 rfl ?_
    refine Wp_aload_n d_F_costs_48 rfl ?_
    refine Wp_iload d_F_costs_49 rfl ?_
    refine Wp_ivv_d (o := 0) (As := [vr (24 + s), vi (nI b)]) d_F_costs_51 ln_F_190 mk_F_crewOf rfl rfl rfl rfl rfl (by omega) (t_F_crewOf E (d - 1) (by omega) w S hP hV s h_s cz_s hz (nI b)) ?_
    refine Wp_iastN (j := b) d_F_costs_54 rfl rfl rfl rfl (by omega) ?_
    refine Wp_iinc (z := nI (b + 1)) (ls2 := [lr 0, li u1, u2, lr (24 + s), li (nI (b + 1))]) d_F_costs_55 rfl (nI_add b 1) rfl rfl rfl ?_
    refine Wp_goto d_F_costs_58 ?_
    refine ih (b + 1) _ (by omega) (fr_U2 hf (by decide)) (fun i hi => ?_)
    by_cases hib : i = b
    · subst hib; exact mU_at
    · rw [mU_at_ne hib]; exact h32 i (by omega)
set_option maxRecDepth 100000 in
set_option maxHeartbeats 4000000 in
theorem t_F_costs (E : mE) (d : Nat) (hd : 6 ≤ d) (w : mw) (S : mw) (hC : CC w S) (hV : VM S) (s : Int32) : Ti E d m_F_costs [vr 0, vi s] w (fun r w1 => r = (oCosts S s).1 ∧ CC w1 (oCosts S s).2 ∧ fr cRows w w1) := by
  refine ⟨Nat.le_of_ble_eq_true rfl, ?_⟩
  show Wp E d m_F_costs 0 [lr 0, li s, lo, lo, lo] [] w _
  refine Wp_aload_n d_F_costs_0 rfl ?_
  refine Wp_iload_n d_F_costs_1 rfl ?_
  refine Wp_ivv_i (o := 0) (As := [vi s]) d_F_costs_2 ln_F_183 mk_F_refusalOf rfl rfl rfl rfl rfl (by omega) (t_F_refusalOf E (d - 1) (by omega) w S hC hV s) (fun r2 w2 c2 => ?_)
  rcases c2 with ⟨g1, e1, e2⟩ | ⟨s1, h_s1, rfl, ⟨g1, e1, e2⟩ | ⟨g1, g2, e1, e2⟩ | ⟨g1, g2, e1, e2⟩⟩
  ·
    rw [e1, e2]
    refine Wp_istore_n (ls2 := [lr 0, li s, li (-2), lo, lo]) d_F_costs_5 rfl rfl rfl ?_
    refine Wp_iload_n d_F_costs_6 rfl ?_
    refine Wp_if_eq d_F_costs_7 (fun q => absurd q (by decide)) (fun _ => ?_)
    refine Wp_iload_n d_F_costs_10 rfl ?_
    refine Wp_reti (ty := .int) d_F_costs_11 rfl rfl ?_
    have e9 : oCosts S s = (-2, S) := by unfold oCosts; rw [if_pos g1]
    rw [e9]; exact ⟨rfl, hC, fr_rf⟩
  ·
    have tS := ti (show s1 < 2147483648 by omega)
    rw [e1, e2]
    refine Wp_istore_n (ls2 := [lr 0, li (nI s1), li (-11), lo, lo]) d_F_costs_5 rfl rfl rfl ?_
    refine Wp_iload_n d_F_costs_6 rfl ?_
    refine Wp_if_eq d_F_costs_7 (fun q => absurd q (by decide)) (fun _ => ?_)
    refine Wp_iload_n d_F_costs_10 rfl ?_
    refine Wp_reti (ty := .int) d_F_costs_11 rfl rfl ?_
    have e9 : oCosts S (nI s1) = (-11, mU S 33 4 1) := by unfold oCosts; rw [if_neg (by omega), cl (by omega), if_pos g1]
    rw [e9]; exact ⟨rfl, CC_fi hC 1, fr_U (by decide)⟩
  ·
    have tS := ti (show s1 < 2147483648 by omega)
    rw [e1, e2]
    refine Wp_istore_n (ls2 := [lr 0, li (nI s1), li (-3), lo, lo]) d_F_costs_5 rfl rfl rfl ?_
    refine Wp_iload_n d_F_costs_6 rfl ?_
    refine Wp_if_eq d_F_costs_7 (fun q => absurd q (by decide)) (fun _ => ?_)
    refine Wp_iload_n d_F_costs_10 rfl ?_
    refine Wp_reti (ty := .int) d_F_costs_11 rfl rfl ?_
    have e9 : oCosts S (nI s1) = (-3, S) := by unfold oCosts; rw [if_neg (by omega), cl (by omega), if_neg g1, if_pos (Or.inl g2)]
    rw [e9]; exact ⟨rfl, hC, fr_rf⟩
  ·
    have tS := ti (show s1 < 2147483648 by omega)
    have hz1 := (VM_sz hV s1 h_s1).2
    rw [e1, e2]
    refine Wp_istore_n (ls2 := [lr 0, li (nI s1), li 0, lo, lo]) d_F_costs_5 rfl rfl rfl ?_
    refine Wp_iload_n d_F_costs_6 rfl ?_
    refine Wp_if_eq d_F_costs_7 (fun _ => ?_) (fun q => absurd (by decide) q)
    refine Wp_aload_n d_F_costs_12 rfl ?_
    refine Wp_getr d_F_costs_13 fd_F_50 rfl rfl rfl ?_
    refine Wp_iload_n d_F_costs_16 rfl ?_
    refine Wp_aaldN (j := s1) d_F_costs_17 rfl rfl rfl rfl (by omega) ?_
    refine Wp_astore_n (ls2 := [lr 0, li (nI s1), li 0, lr (24 + s1), lo]) d_F_costs_18 rfl rfl rfl ?_
    refine Wp_aload_n d_F_costs_19 rfl ?_
    refine Wp_aload_n d_F_costs_20 rfl ?_
    refine Wp_ivv_i (o := 0) (As := [vr (24 + s1)]) d_F_costs_21 ln_F_186 mk_F_firstJudged rfl rfl rfl rfl rfl (by omega) (t_F_firstJudged E (d - 1) (by omega) w S hC hV s1 h_s1 (CSh_z (CC_sh hC h_s1) hV h_s1 g1) g2) (fun r21 w21 c21 => ?_)
    obtain ⟨e3, hC2, z2, fB⟩ := c21
    rw [e3]
    refine Wp_iconst (x := (-1)) d_F_costs_24 (by decide) ?_
    refine Wp_icmp_eq d_F_costs_25 (fun h25 => ?_) (fun h25 => ?_)
    ·
      refine Wp_iconst (x := 0) d_F_costs_31 (by decide) ?_
      refine Wp_istore (ls2 := [lr 0, li (nI s1), li 0, lr (24 + s1), li 0]) d_F_costs_32 rfl rfl rfl ?_
      have cz2 := CSh_z (CC_sh hC2 h_s1) hV h_s1 g1
      refine Wp_mi (l_F_costs E d (by omega) w21 S (CC_PR hC2) hV s1 h_s1 cz2 g2 _ _ 10 0 w21 rfl fr_rf (fun i h => absurd h (Nat.not_lt_zero _))) (fun r w1 h => ?_)
      have e9 : oCosts S (nI s1) = (nI (cstN S s1 10), S) := by unfold oCosts; rw [if_neg (by omega), cl (by omega), if_neg g1, if_neg (fun q => q.elim (by omega) (fun q => q h25))]
      have f9 : fr dRows w21 w1 := fr_sub h.2 (by decide)
      have d9 : CDd w1 S := by
        have e : ∀ k, 12 ≤ k → k < 17 → w1 k = w21 k := fun k a b => h.2 k (by simp; omega)
        exact CDd_eq hC2.2.2.2.2.2.2 e ⟨⟨rfl, rfl, rfl⟩, ⟨rfl, rfl⟩, rfl, rfl, rfl⟩
      rw [e9]; exact ⟨h.1, CC_d hC2 f9 d9, fr_tr (fr_sub fB (by decide)) (fr_sub h.2 (by decide))⟩
    ·
      have g25 : (jdS S s1).toInt ≠ -1 := i_ne h25
      refine Wp_bipush (x := (-3)) d_F_costs_28 (by decide) ?_
      refine Wp_reti (ty := .int) d_F_costs_30 rfl rfl ?_
      have e9 : oCosts S (nI s1) = (-3, S) := by unfold oCosts; rw [if_neg (by omega), cl (by omega), if_neg g1, if_pos (Or.inr h25)]
      rw [e9]; exact ⟨rfl, hC2, fr_sub fB (by decide)⟩
