set_option maxRecDepth 100000 in
set_option maxHeartbeats 4000000 in
theorem l_M_sheet (E : mE) (d : Nat) (hd : 2 ≤ d) (s n : Nat) (f : Int32) (hs : s < 4) (hn : n ≤ 60) : ∀ (k i : Nat) (w : mw), i + k = n → Wp E d m_M_sheet 55 [lr 33, li (nI s), li f, li (nI n), li (nI i)] [] w (mPi (fun r w1 => r = nI n ∧ w1 = mUr w 36 (clrF (w 36) (60 * s + i) (60 * s + n)))) := by
  intro k
  induction k with
  | zero =>
    intro i w hi
    refine Wp_iload d_M_sheet_55 rfl ?_
    refine Wp_iload_n d_M_sheet_57 rfl ?_
    refine Wp_icmp_ge d_M_sheet_58 (fun h58 => ?_) (fun q => absurd (n_nle q (by omega) (by omega)) (by omega))
    refine Wp_iload_n d_M_sheet_80 rfl ?_
    refine Wp_reti (ty := .int) d_M_sheet_81 rfl rfl ?_
    have hin : i = n := by omega
    subst hin
    exact ⟨rfl, by rw [clrF_e, mUr_self]⟩
  | succ k ih =>
    intro i w hi
    refine Wp_iload d_M_sheet_55 rfl ?_
    refine Wp_iload_n d_M_sheet_57 rfl ?_
    refine Wp_icmp_ge d_M_sheet_58 (fun q => absurd (n_le q (by omega) (by omega)) (by omega)) (fun h58 => ?_)
    refine Wp_aload_n d_M_sheet_61 rfl ?_
    refine Wp_getr d_M_sheet_62 fd_M_16 rfl rfl rfl ?_
    refine Wp_bipush (x := 60) d_M_sheet_65 (by decide) ?_
    refine Wp_iload_n d_M_sheet_67 rfl ?_
    refine Wp_imul d_M_sheet_68 ?_
    refine Wp_eqi (x2 := nI (60 * s)) (pk_mul 60 s) ?_
    refine Wp_iload d_M_sheet_69 rfl ?_
    refine Wp_iadd d_M_sheet_71 ?_
    refine Wp_eqi (x2 := nI ((60 * s) + i)) (nI_add (60 * s) i) ?_
    refine Wp_iconst (x := 0) d_M_sheet_72 (by decide) ?_
    refine Wp_iastN (j := ((60 * s) + i)) d_M_sheet_73 rfl rfl rfl rfl (by omega) ?_
    refine Wp_iinc (z := nI (i + 1)) (ls2 := [lr 33, li (nI s), li f, li (nI n), li (nI (i + 1))]) d_M_sheet_74 rfl (nI_add i 1) rfl rfl rfl ?_
    refine Wp_goto d_M_sheet_77 ?_
    refine Wp_mi (ih (i + 1) _ (by omega)) (fun r w1 h => ⟨h.1, ?_⟩)
    rw [h.2]; unfold mU; rw [mUr_eq, mUr_mUr]
    rw [show 60 * s + (i + 1) = 60 * s + i + 1 by omega, clrF_s (by omega)]
set_option maxRecDepth 100000 in
set_option maxHeartbeats 4000000 in
theorem t_M_sheet (E : mE) (d : Nat) (hd : 2 ≤ d) (w : mw) (S : mw) (hM : MM w S) (hV : VM S) (s f n : Int32) : Ti E d m_M_sheet [vr 33, vi s, vi f, vi n] w (fun r w1 => r = (oSheet S s f n).1 ∧ MM w1 (oSheet S s f n).2 ∧ fr mRows w w1) := by
  refine ⟨Nat.le_of_ble_eq_true rfl, ?_⟩
  show Wp E d m_M_sheet 0 [lr 33, li s, li f, li n, lo] [] w _
  refine Wp_iload_n d_M_sheet_0 rfl ?_
  refine Wp_ivs_b (As := [vi s]) d_M_sheet_1 ln_M_98 mk_M_isSheet rfl rfl rfl (by omega) (t_M_isSheet E (d - 1) (by omega) w s) (fun g1 => ?_) (fun g1 => ?_)
  ·
    obtain ⟨s1, h_s1, rfl⟩ := sh_of g1
    refine Wp_if_eq d_M_sheet_4 (fun q => absurd q (by decide)) (fun _ => ?_)
    refine Wp_iload_n d_M_sheet_7 rfl ?_
    refine Wp_i2l d_M_sheet_8 ?_
    refine Wp_lconst (x := 0) d_M_sheet_9 (by decide) ?_
    refine Wp_ldc2 (x := 2) d_M_sheet_10 kl_M_102 ?_
    refine Wp_ivs_b (As := [vl f.toInt64, vl 0, vl 2]) d_M_sheet_13 ln_M_88 mk_M_in rfl rfl rfl (by omega) (t_M_inI E (d - 1) w (x := f) (lo := 0) (hi := 2) (by decide) (by decide)) (fun g13 => ?_) (fun g13 => ?_)
    ·
      refine Wp_if_eq d_M_sheet_16 (fun q => absurd q (by decide)) (fun _ => ?_)
      refine Wp_iload_n d_M_sheet_19 rfl ?_
      refine Wp_bipush (x := 60) d_M_sheet_20 (by decide) ?_
      refine Wp_icmp_le d_M_sheet_22 (fun h22 => ?_) (fun h22 => ?_)
      ·
        have g22 : n.toInt ≤ 60 := i_le h22
        refine Wp_iload_n d_M_sheet_28 rfl ?_
        refine Wp_if_ge d_M_sheet_29 (fun h29 => ?_) (fun h29 => ?_)
        ·
          have g29 : 0 ≤ n.toInt := i_le h29
          refine Wp_aload_n d_M_sheet_38 rfl ?_
          refine Wp_getr d_M_sheet_39 fd_M_7 rfl rfl rfl ?_
          refine Wp_iload_n d_M_sheet_42 rfl ?_
          refine Wp_iload_n d_M_sheet_43 rfl ?_
          refine Wp_iastN (j := s1) d_M_sheet_44 rfl rfl rfl rfl (by omega) ?_
          refine Wp_aload_n d_M_sheet_45 rfl ?_
          refine Wp_getr d_M_sheet_46 fd_M_13 rfl rfl rfl ?_
          refine Wp_iload_n d_M_sheet_49 rfl ?_
          refine Wp_iload_n d_M_sheet_50 rfl ?_
          refine Wp_iastN (j := s1) d_M_sheet_51 rfl rfl rfl rfl (by omega) ?_
          refine Wp_iconst (x := 0) d_M_sheet_52 (by decide) ?_
          refine Wp_istore (ls2 := [lr 33, li (nI s1), li f, li n, li 0]) d_M_sheet_53 rfl rfl rfl ?_
          obtain ⟨n1, hn1, rfl⟩ : ∃ j : Nat, j < 61 ∧ n = nI j := i_nIof (by omega) (by omega)
          have hn2 := ti (show n1 < 2147483648 by omega)
          have hs2 := ti (show s1 < 2147483648 by omega)
          refine Wp_mi (l_M_sheet E d (by omega) s1 n1 f (by omega) (by omega) n1 0 _ (by omega)) (fun r w1 h => ?_)
          have e9 : oSheet S (nI s1) f (nI n1) = (nI n1, mUr (mU (mU S 34 s1 f) 35 s1 (nI n1)) 36 (clr (S 36) s1 n1)) := by unfold oSheet; rw [if_neg (by omega), if_neg (by omega), cl (by omega), cl (by omega)]
          rw [e9, h.1, h.2]
          refine ⟨rfl, ?_, fr_Ur2 (fr_U2 (fr_U (by decide)) (by decide)) (by decide)⟩
          rw [clr_F, show (mU (mU w 34 s1 f) 35 s1 (nI n1)) 36 = S 36 by rw [mU_ne (by decide), mU_ne (by decide)]; exact hM.r 36, Nat.add_zero]
          exact MM_pr (MM_p (MM_p hM (by decide)) (by decide)) (by decide)
        ·
          have g29 : n.toInt < 0 := i_nle h29
          refine Wp_aload_n d_M_sheet_32 rfl ?_
          refine Wp_iconst (x := 5) d_M_sheet_33 (by decide) ?_
          refine Wp_ivv_d (o := 33) (As := [vi 5]) d_M_sheet_34 ln_M_104 mk_M_met rfl rfl rfl rfl rfl (by omega) (t_M_met E (d - 1) (by omega) w 5 (-15) (by decide)) ?_
          refine Wp_reti (ty := .int) d_M_sheet_37 rfl rfl ?_
          have e9 : oSheet S (nI s1) f n = (-15, mU S 33 4 5) := by unfold oSheet; rw [if_neg (by omega), if_pos (by omega)]
          rw [e9]; exact ⟨rfl, MM_f hM, fr_U (by decide)⟩
      ·
        have g22 : 60 < n.toInt := i_nle h22
        refine Wp_bipush (x := (-2)) d_M_sheet_25 (by decide) ?_
        refine Wp_reti (ty := .int) d_M_sheet_27 rfl rfl ?_
        have e9 : oSheet S (nI s1) f n = (-2, S) := by unfold oSheet; rw [if_pos (by omega)]
        rw [e9]; exact ⟨rfl, hM, fr_rf⟩
    ·
      refine Wp_if_eq d_M_sheet_16 (fun _ => ?_) (fun q => absurd (by decide) q)
      refine Wp_bipush (x := (-2)) d_M_sheet_25 (by decide) ?_
      refine Wp_reti (ty := .int) d_M_sheet_27 rfl rfl ?_
      have e9 : oSheet S (nI s1) f n = (-2, S) := by unfold oSheet; rw [if_pos (by omega)]
      rw [e9]; exact ⟨rfl, hM, fr_rf⟩
  ·
    refine Wp_if_eq d_M_sheet_4 (fun _ => ?_) (fun q => absurd (by decide) q)
    refine Wp_bipush (x := (-2)) d_M_sheet_25 (by decide) ?_
    refine Wp_reti (ty := .int) d_M_sheet_27 rfl rfl ?_
    have e9 : oSheet S s f n = (-2, S) := by unfold oSheet; rw [if_pos (by omega)]
    rw [e9]; exact ⟨rfl, hM, fr_rf⟩
theorem subn (n : Nat) (h : n < 2147483648) : (nI n - 1).toInt = (n : Int) - 1 := by
  by_cases h0 : n = 0
  · subst h0; decide
  · have := pk_sub (a := n) (b := 1) (by omega)
    rw [show (1 : Int32) = nI 1 from rfl, this, ti (by omega)]; omega
set_option maxRecDepth 100000 in
set_option maxHeartbeats 4000000 in
theorem t_M_lacks (E : mE) (d : Nat) (hd : 1 ≤ d) (w : mw) (S : mw) (hM : MM w S) (hV : VM S) (s : Nat) (f i : Int32) (hs : s < 4) : Ti E d m_M_lacks [vr 33, vi (nI s), vi f, vi i] w (fun r w1 => (lckS S s f i = 0 ∧ r = 0 ∧ w1 = w) ∨ (lckS S s f i ≠ 0 ∧ r ≠ 0 ∧ r = -10 - lckS S s f i ∧ w1 = mU w 33 4 (lckS S s f i))) := by
  refine ⟨Nat.le_of_ble_eq_true rfl, ?_⟩
  show Wp E d m_M_lacks 0 [lr 33, li (nI s), li f, li i] [] w _
  have hz := (VM_sz hV s hs).2
  refine Wp_aload_n d_M_lacks_0 rfl ?_
  refine Wp_getr d_M_lacks_1 fd_M_7 rfl rfl rfl ?_
  refine Wp_iload_n d_M_lacks_4 rfl ?_
  refine Wp_ialdN (j := s) d_M_lacks_5 rfl rfl rfl rfl (by omega) ?_
  refine Wp_eqi (x2 := S 34 s) (congrFun (hM.r 34) _) ?_
  refine Wp_if_ge d_M_lacks_6 (fun h6 => ?_) (fun h6 => ?_)
  ·
    have g6 : 0 ≤ (S 34 s).toInt := i_le h6
    refine Wp_aload_n d_M_lacks_15 rfl ?_
    refine Wp_getr d_M_lacks_16 fd_M_7 rfl rfl rfl ?_
    refine Wp_iload_n d_M_lacks_19 rfl ?_
    refine Wp_ialdN (j := s) d_M_lacks_20 rfl rfl rfl rfl (by omega) ?_
    refine Wp_eqi (x2 := S 34 s) (congrFun (hM.r 34) _) ?_
    refine Wp_iload_n d_M_lacks_21 rfl ?_
    refine Wp_icmp_eq d_M_lacks_22 (fun h22 => ?_) (fun h22 => ?_)
    ·
      refine Wp_iload_n d_M_lacks_31 rfl ?_
      refine Wp_i2l d_M_lacks_32 ?_
      refine Wp_lconst (x := 0) d_M_lacks_33 (by decide) ?_
      refine Wp_aload_n d_M_lacks_34 rfl ?_
      refine Wp_getr d_M_lacks_35 fd_M_13 rfl rfl rfl ?_
      refine Wp_iload_n d_M_lacks_38 rfl ?_
      refine Wp_ialdN (j := s) d_M_lacks_39 rfl rfl rfl rfl (by omega) ?_
      refine Wp_eqi (x2 := S 35 s) (congrFun (hM.r 35) _) ?_
      refine Wp_eqi (x2 := nI (sSz S s)) (VM_sz hV _ (by omega)).1 ?_
      refine Wp_iconst (x := 1) d_M_lacks_40 (by decide) ?_
      refine Wp_isub d_M_lacks_41 ?_
      refine Wp_i2l d_M_lacks_42 ?_
      refine Wp_ivs_b (As := [vl i.toInt64, vl 0, vl (((nI (sSz S s)) - 1).toInt64)]) d_M_lacks_43 ln_M_88 mk_M_in rfl rfl rfl (by omega) (t_M_inI E (d - 1) w (x := i) (lo := 0) (hi := (sSz S s : Int) - 1) (by decide) (by rw [Int32.toInt_toInt64]; exact subn _ (by omega))) (fun g43 => ?_) (fun g43 => ?_)
      ·
        refine Wp_if_eq d_M_lacks_46 (fun q => absurd q (by decide)) (fun _ => ?_)
        refine Wp_iconst (x := 0) d_M_lacks_49 (by decide) ?_
        refine Wp_goto d_M_lacks_50 ?_
        refine Wp_reti (ty := .int) d_M_lacks_58 rfl rfl ?_
        have e9 : lckS S s f i = 0 := by unfold lckS; rw [if_neg (by omega), if_neg (fun q => q (by assumption)), if_pos (by omega)]
        exact Or.inl ⟨e9, rfl, rfl⟩
      ·
        refine Wp_if_eq d_M_lacks_46 (fun _ => ?_) (fun q => absurd (by decide) q)
        refine Wp_aload_n d_M_lacks_53 rfl ?_
        refine Wp_iconst (x := 2) d_M_lacks_54 (by decide) ?_
        refine Wp_ivv_d (o := 33) (As := [vi 2]) d_M_lacks_55 ln_M_104 mk_M_met rfl rfl rfl rfl rfl (by omega) (t_M_met E (d - 1) (by omega) w 2 (-12) (by decide)) ?_
        refine Wp_reti (ty := .int) d_M_lacks_58 rfl rfl ?_
        have e9 : lckS S s f i = 2 := by unfold lckS; rw [if_neg (by omega), if_neg (fun q => q (by assumption)), if_neg (by omega)]
        rw [e9]; exact Or.inr ⟨by decide, by decide, by decide, rfl⟩
    ·
      have g22 : (S 34 s).toInt ≠ f.toInt := i_ne h22
      refine Wp_aload_n d_M_lacks_25 rfl ?_
      refine Wp_iconst (x := 3) d_M_lacks_26 (by decide) ?_
      refine Wp_ivv_d (o := 33) (As := [vi 3]) d_M_lacks_27 ln_M_104 mk_M_met rfl rfl rfl rfl rfl (by omega) (t_M_met E (d - 1) (by omega) w 3 (-13) (by decide)) ?_
      refine Wp_reti (ty := .int) d_M_lacks_30 rfl rfl ?_
      have e9 : lckS S s f i = 3 := by unfold lckS; rw [if_neg (by omega), if_pos (by assumption)]
      rw [e9]; exact Or.inr ⟨by decide, by decide, by decide, rfl⟩
  ·
    have g6 : (S 34 s).toInt < 0 := i_nle h6
    refine Wp_aload_n d_M_lacks_9 rfl ?_
    refine Wp_iconst (x := 1) d_M_lacks_10 (by decide) ?_
    refine Wp_ivv_d (o := 33) (As := [vi 1]) d_M_lacks_11 ln_M_104 mk_M_met rfl rfl rfl rfl rfl (by omega) (t_M_met E (d - 1) (by omega) w 1 (-11) (by decide)) ?_
    refine Wp_reti (ty := .int) d_M_lacks_14 rfl rfl ?_
    have e9 : lckS S s f i = 1 := by unfold lckS; rw [if_pos (by omega)]
    rw [e9]; exact Or.inr ⟨by decide, by decide, by decide, rfl⟩
theorem lck_in {S : mw} {s : Nat} {f i : Int32} (h : lckS S s f i = 0) (hz : sSz S s ≤ 60) : ∃ j, j < 60 ∧ i = nI j := by
  unfold lckS at h
  by_cases h1 : (S 34 s).toInt < 0
  · rw [if_pos h1] at h; exact absurd h (by decide)
  · rw [if_neg h1] at h
    by_cases h2 : S 34 s ≠ f
    · rw [if_pos h2] at h; exact absurd h (by decide)
    · rw [if_neg h2] at h
      by_cases h3 : 0 ≤ i.toInt ∧ i.toInt < sSz S s
      · exact i_nIof h3.1 (by omega)
      · rw [if_neg h3] at h; exact absurd h (by decide)
set_option maxRecDepth 100000 in
set_option maxHeartbeats 4000000 in
theorem t_M_lay (E : mE) (d : Nat) (hd : 2 ≤ d) (w : mw) (S : mw) (hM : MM w S) (hV : VM S) (s f i v : Int32) : Ti E d m_M_lay [vr 33, vi s, vi f, vi i, vi v] w (fun r w1 => r = (oLay S s f i v).1 ∧ MM w1 (oLay S s f i v).2 ∧ fr mRows w w1) := by
  refine ⟨Nat.le_of_ble_eq_true rfl, ?_⟩
  show Wp E d m_M_lay 0 [lr 33, li s, li f, li i, li v, lo] [] w _
  refine Wp_iload_n d_M_lay_0 rfl ?_
  refine Wp_ivs_b (As := [vi s]) d_M_lay_1 ln_M_98 mk_M_isSheet rfl rfl rfl (by omega) (t_M_isSheet E (d - 1) (by omega) w s) (fun g1 => ?_) (fun g1 => ?_)
  ·
    obtain ⟨s1, h_s1, rfl⟩ := sh_of g1
    refine Wp_if_eq d_M_lay_4 (fun q => absurd q (by decide)) (fun _ => ?_)
    refine Wp_iload_n d_M_lay_7 rfl ?_
    refine Wp_i2l d_M_lay_8 ?_
    refine Wp_lconst (x := 0) d_M_lay_9 (by decide) ?_
    refine Wp_ldc2 (x := 2) d_M_lay_10 kl_M_102 ?_
    refine Wp_ivs_b (As := [vl f.toInt64, vl 0, vl 2]) d_M_lay_13 ln_M_88 mk_M_in rfl rfl rfl (by omega) (t_M_inI E (d - 1) w (x := f) (lo := 0) (hi := 2) (by decide) (by decide)) (fun g13 => ?_) (fun g13 => ?_)
    ·
      refine Wp_if_ne d_M_lay_16 (fun _ => ?_) (fun q => absurd q (by decide))
      refine Wp_aload_n d_M_lay_22 rfl ?_
      refine Wp_iload_n d_M_lay_23 rfl ?_
      refine Wp_iload_n d_M_lay_24 rfl ?_
      refine Wp_iload_n d_M_lay_25 rfl ?_
      refine Wp_ivv_i (o := 33) (As := [vi (nI s1), vi f, vi i]) d_M_lay_26 ln_M_108 mk_M_lacks rfl rfl rfl rfl rfl (by omega) (t_M_lacks E (d - 1) (by omega) w S hM hV s1 f i (by omega)) (fun r26 w26 c26 => ?_)
      rcases c26 with ⟨k26, j26, v26⟩ | ⟨k26, z26, j26, v26⟩
      ·
        rw [j26, v26]
        obtain ⟨i1, h_i1, rfl⟩ := lck_in k26 (VM_sz hV s1 (by omega)).2
        refine Wp_istore (ls2 := [lr 33, li (nI s1), li f, li (nI i1), li v, li 0]) d_M_lay_29 rfl rfl rfl ?_
        refine Wp_iload d_M_lay_31 rfl ?_
        refine Wp_if_eq d_M_lay_33 (fun _ => ?_) (fun q => absurd (by decide) q)
        refine Wp_aload_n d_M_lay_39 rfl ?_
        refine Wp_getr d_M_lay_40 fd_M_16 rfl rfl rfl ?_
        refine Wp_bipush (x := 60) d_M_lay_43 (by decide) ?_
        refine Wp_iload_n d_M_lay_45 rfl ?_
        refine Wp_imul d_M_lay_46 ?_
        refine Wp_eqi (x2 := nI (60 * s1)) (pk_mul 60 s1) ?_
        refine Wp_iload_n d_M_lay_47 rfl ?_
        refine Wp_iadd d_M_lay_48 ?_
        refine Wp_eqi (x2 := nI ((60 * s1) + i1)) (nI_add (60 * s1) i1) ?_
        refine Wp_iload_n d_M_lay_49 rfl ?_
        refine Wp_iload d_M_lay_50 rfl ?_
        refine Wp_ivs_d (As := [vi f, vi v]) d_M_lay_52 ln_M_112 mk_M_cut rfl rfl rfl (by omega) (t_M_cut E (d - 1) (by omega) w f v) ?_
        refine Wp_iastN (j := ((60 * s1) + i1)) d_M_lay_55 rfl rfl rfl rfl (by omega) ?_
        refine Wp_iconst (x := 1) d_M_lay_56 (by decide) ?_
        refine Wp_reti (ty := .int) d_M_lay_57 rfl rfl ?_
        have e9 : oLay S (nI s1) f (nI i1) v = (1, mU S 36 (60 * s1 + i1) (cutS f v)) := by unfold oLay; rw [if_neg (by have := ti (show s1 < 2147483648 by omega); omega), cl (by omega), if_neg (fun q => q k26), cl (by omega)]
        rw [e9]; exact ⟨rfl, MM_p hM (by decide), fr_U (by decide)⟩
      ·
        rw [v26]
        refine Wp_istore (ls2 := [lr 33, li (nI s1), li f, li i, li v, li r26]) d_M_lay_29 rfl rfl rfl ?_
        refine Wp_iload d_M_lay_31 rfl ?_
        refine Wp_if_eq d_M_lay_33 (fun q => absurd q z26) (fun _ => ?_)
        refine Wp_iload d_M_lay_36 rfl ?_
        refine Wp_reti (ty := .int) d_M_lay_38 rfl rfl ?_
        have e9 : oLay S (nI s1) f i v = (-10 - lckS S s1 f i, mU S 33 4 (lckS S s1 f i)) := by unfold oLay; rw [if_neg (by have := ti (show s1 < 2147483648 by omega); omega), cl (by omega), if_pos k26]
        rw [e9]; exact ⟨j26, MM_f hM, fr_U (by decide)⟩
    ·
      refine Wp_if_ne d_M_lay_16 (fun q => absurd q (by decide)) (fun _ => ?_)
      refine Wp_bipush (x := (-2)) d_M_lay_19 (by decide) ?_
      refine Wp_reti (ty := .int) d_M_lay_21 rfl rfl ?_
      have e9 : oLay S (nI s1) f i v = (-2, S) := by unfold oLay; rw [if_pos (by omega)]
      rw [e9]; exact ⟨rfl, hM, fr_rf⟩
  ·
    refine Wp_if_eq d_M_lay_4 (fun _ => ?_) (fun q => absurd (by decide) q)
    refine Wp_bipush (x := (-2)) d_M_lay_19 (by decide) ?_
    refine Wp_reti (ty := .int) d_M_lay_21 rfl rfl ?_
    have e9 : oLay S s f i v = (-2, S) := by unfold oLay; rw [if_pos (by omega)]
    rw [e9]; exact ⟨rfl, hM, fr_rf⟩
set_option maxRecDepth 100000 in
set_option maxHeartbeats 4000000 in
theorem t_M_get (E : mE) (d : Nat) (hd : 2 ≤ d) (w : mw) (S : mw) (hM : MM w S) (hV : VM S) (s f i : Int32) : Ti E d m_M_get [vr 33, vi s, vi f, vi i] w (fun r w1 => r = (oGet S s f i).1 ∧ MM w1 (oGet S s f i).2 ∧ fr mRows w w1) := by
  refine ⟨Nat.le_of_ble_eq_true rfl, ?_⟩
  show Wp E d m_M_get 0 [lr 33, li s, li f, li i] [] w _
  refine Wp_iload_n d_M_get_0 rfl ?_
  refine Wp_ivs_b (As := [vi s]) d_M_get_1 ln_M_98 mk_M_isSheet rfl rfl rfl (by omega) (t_M_isSheet E (d - 1) (by omega) w s) (fun g1 => ?_) (fun g1 => ?_)
  ·
    obtain ⟨s1, h_s1, rfl⟩ := sh_of g1
    refine Wp_if_eq d_M_get_4 (fun q => absurd q (by decide)) (fun _ => ?_)
    refine Wp_iload_n d_M_get_7 rfl ?_
    refine Wp_i2l d_M_get_8 ?_
    refine Wp_lconst (x := 0) d_M_get_9 (by decide) ?_
    refine Wp_ldc2 (x := 2) d_M_get_10 kl_M_102 ?_
    refine Wp_ivs_b (As := [vl f.toInt64, vl 0, vl 2]) d_M_get_13 ln_M_88 mk_M_in rfl rfl rfl (by omega) (t_M_inI E (d - 1) w (x := f) (lo := 0) (hi := 2) (by decide) (by decide)) (fun g13 => ?_) (fun g13 => ?_)
    ·
      refine Wp_if_eq d_M_get_16 (fun q => absurd q (by decide)) (fun _ => ?_)
      refine Wp_aload_n d_M_get_19 rfl ?_
      refine Wp_iload_n d_M_get_20 rfl ?_
      refine Wp_iload_n d_M_get_21 rfl ?_
      refine Wp_iload_n d_M_get_22 rfl ?_
      refine Wp_ivv_i (o := 33) (As := [vi (nI s1), vi f, vi i]) d_M_get_23 ln_M_108 mk_M_lacks rfl rfl rfl rfl rfl (by omega) (t_M_lacks E (d - 1) (by omega) w S hM hV s1 f i (by omega)) (fun r23 w23 c23 => ?_)
      rcases c23 with ⟨k23, j23, v23⟩ | ⟨k23, z23, j23, v23⟩
      ·
        rw [j23, v23]
        obtain ⟨i1, h_i1, rfl⟩ := lck_in k23 (VM_sz hV s1 (by omega)).2
        refine Wp_if_eq d_M_get_26 (fun _ => ?_) (fun q => absurd (by decide) q)
        refine Wp_aload_n d_M_get_32 rfl ?_
        refine Wp_getr d_M_get_33 fd_M_16 rfl rfl rfl ?_
        refine Wp_bipush (x := 60) d_M_get_36 (by decide) ?_
        refine Wp_iload_n d_M_get_38 rfl ?_
        refine Wp_imul d_M_get_39 ?_
        refine Wp_eqi (x2 := nI (60 * s1)) (pk_mul 60 s1) ?_
        refine Wp_iload_n d_M_get_40 rfl ?_
        refine Wp_iadd d_M_get_41 ?_
        refine Wp_eqi (x2 := nI ((60 * s1) + i1)) (nI_add (60 * s1) i1) ?_
        refine Wp_ialdN (j := ((60 * s1) + i1)) d_M_get_42 rfl rfl rfl rfl (by omega) ?_
        refine Wp_eqi (x2 := S 36 ((60 * s1) + i1)) (congrFun (hM.r 36) _) ?_
        refine Wp_reti (ty := .int) d_M_get_43 rfl rfl ?_
        have e9 : oGet S (nI s1) f (nI i1) = (S 36 (60 * s1 + i1), S) := by unfold oGet; rw [if_neg (by have := ti (show s1 < 2147483648 by omega); omega), cl (by omega), if_neg (fun q => q k23), cl (by omega)]
        rw [e9]; exact ⟨rfl, hM, fr_rf⟩
      ·
        rw [v23]
        refine Wp_if_eq d_M_get_26 (fun q => absurd q z23) (fun _ => ?_)
        refine Wp_ldc (x := (-2147483648)) d_M_get_29 kc_M_116 ?_
        refine Wp_reti (ty := .int) d_M_get_31 rfl rfl ?_
        have e9 : oGet S (nI s1) f i = (-2147483648, mU S 33 4 (lckS S s1 f i)) := by unfold oGet; rw [if_neg (by have := ti (show s1 < 2147483648 by omega); omega), cl (by omega), if_pos k23]
        rw [e9]; exact ⟨rfl, MM_f hM, fr_U (by decide)⟩
    ·
      refine Wp_if_eq d_M_get_16 (fun _ => ?_) (fun q => absurd (by decide) q)
      refine Wp_ldc (x := (-2147483648)) d_M_get_29 kc_M_116 ?_
      refine Wp_reti (ty := .int) d_M_get_31 rfl rfl ?_
      have e9 : oGet S (nI s1) f i = (-2147483648, S) := by unfold oGet; rw [if_pos (by omega)]
      rw [e9]; exact ⟨rfl, hM, fr_rf⟩
  ·
    refine Wp_if_eq d_M_get_4 (fun _ => ?_) (fun q => absurd (by decide) q)
    refine Wp_ldc (x := (-2147483648)) d_M_get_29 kc_M_116 ?_
    refine Wp_reti (ty := .int) d_M_get_31 rfl rfl ?_
    have e9 : oGet S s f i = (-2147483648, S) := by unfold oGet; rw [if_pos (by omega)]
    rw [e9]; exact ⟨rfl, hM, fr_rf⟩
set_option maxRecDepth 100000 in
set_option maxHeartbeats 4000000 in
theorem l_M_copy1 (E : mE) (d : Nat) (hd : 2 ≤ d) (s i t j n : Nat) (hs : s < 4) (ht : t < 4) (hi : i + n ≤ 60) (hj : j + n ≤ 60) (Q : Option mv → mw → Prop) : ∀ (k a : Nat) (w : mw), a + k = n → Wp E d m_M_copy 154 [lr 33, li (nI s), li (nI i), li (nI t), li (nI j), li (nI n), li (nI n)] [] (mUr w 37 (cpF (w 36) (w 37) (60 * s + i) (0) a n)) Q → Wp E d m_M_copy 120 [lr 33, li (nI s), li (nI i), li (nI t), li (nI j), li (nI n), li (nI a)] [] w Q := by
  intro k
  induction k with
  | zero =>
    intro a w ha hk
    refine Wp_iload d_M_copy_120 rfl ?_
    refine Wp_iload d_M_copy_122 rfl ?_
    refine Wp_icmp_ge d_M_copy_124 (fun h124 => ?_) (fun q => absurd (n_nle q (by omega) (by omega)) (by omega))
    have han : a = n := by omega
    subst han
    rw [cpF_e, mUr_self] at hk
    exact hk
  | succ k ih =>
    intro a w ha hk
    refine Wp_iload d_M_copy_120 rfl ?_
    refine Wp_iload d_M_copy_122 rfl ?_
    refine Wp_icmp_ge d_M_copy_124 (fun q => absurd (n_le q (by omega) (by omega)) (by omega)) (fun h124 => ?_)
    refine Wp_aload_n d_M_copy_127 rfl ?_
    refine Wp_getr d_M_copy_128 fd_M_19 rfl rfl rfl ?_
    refine Wp_iload d_M_copy_131 rfl ?_
    refine Wp_aload_n d_M_copy_133 rfl ?_
    refine Wp_getr d_M_copy_134 fd_M_16 rfl rfl rfl ?_
    refine Wp_bipush (x := 60) d_M_copy_137 (by decide) ?_
    refine Wp_iload_n d_M_copy_139 rfl ?_
    refine Wp_imul d_M_copy_140 ?_
    refine Wp_eqi (x2 := nI (60 * s)) (pk_mul 60 s) ?_
    refine Wp_iload_n d_M_copy_141 rfl ?_
    refine Wp_iadd d_M_copy_142 ?_
    refine Wp_eqi (x2 := nI ((60 * s) + i)) (nI_add (60 * s) i) ?_
    refine Wp_iload d_M_copy_143 rfl ?_
    refine Wp_iadd d_M_copy_145 ?_
    refine Wp_eqi (x2 := nI (((60 * s) + i) + a)) (nI_add ((60 * s) + i) a) ?_
    refine Wp_ialdN (j := (((60 * s) + i) + a)) d_M_copy_146 rfl rfl rfl rfl (by omega) ?_
    refine Wp_iastN (j := a) d_M_copy_147 rfl rfl rfl rfl (by omega) ?_
    refine Wp_iinc (z := nI (a + 1)) (ls2 := [lr 33, li (nI s), li (nI i), li (nI t), li (nI j), li (nI n), li (nI (a + 1))]) d_M_copy_148 rfl (nI_add a 1) rfl rfl rfl ?_
    refine Wp_goto d_M_copy_151 ?_
    refine ih (a + 1) _ (by omega) ?_
    have hh := cpF_s (f := w 36) (g := w 37) (a := 60 * s + i) (b := 0) (i := a) (n := n) (by omega)
    rw [Nat.zero_add] at hh
    unfold mU
    rw [mUr_mUr, mUr_ne (by decide), mUr_eq, hh]
    exact hk
set_option maxRecDepth 100000 in
set_option maxHeartbeats 4000000 in
theorem l_M_copy2 (E : mE) (d : Nat) (hd : 2 ≤ d) (s i t j n : Nat) (hs : s < 4) (ht : t < 4) (hi : i + n ≤ 60) (hj : j + n ≤ 60) (Q : Option mv → mw → Prop) : ∀ (k a : Nat) (w : mw), a + k = n → Wp E d m_M_copy 192 [lr 33, li (nI s), li (nI i), li (nI t), li (nI j), li (nI n), li (nI n)] [] (mUr w 36 (cpF (w 37) (w 36) (0) (60 * t + j) a n)) Q → Wp E d m_M_copy 157 [lr 33, li (nI s), li (nI i), li (nI t), li (nI j), li (nI n), li (nI a)] [] w Q := by
  intro k
  induction k with
  | zero =>
    intro a w ha hk
    refine Wp_iload d_M_copy_157 rfl ?_
    refine Wp_iload d_M_copy_159 rfl ?_
    refine Wp_icmp_ge d_M_copy_161 (fun h161 => ?_) (fun q => absurd (n_nle q (by omega) (by omega)) (by omega))
    have han : a = n := by omega
    subst han
    rw [cpF_e, mUr_self] at hk
    exact hk
  | succ k ih =>
    intro a w ha hk
    refine Wp_iload d_M_copy_157 rfl ?_
    refine Wp_iload d_M_copy_159 rfl ?_
    refine Wp_icmp_ge d_M_copy_161 (fun q => absurd (n_le q (by omega) (by omega)) (by omega)) (fun h161 => ?_)
    refine Wp_aload_n d_M_copy_164 rfl ?_
    refine Wp_getr d_M_copy_165 fd_M_16 rfl rfl rfl ?_
    refine Wp_bipush (x := 60) d_M_copy_168 (by decide) ?_
    refine Wp_iload_n d_M_copy_170 rfl ?_
    refine Wp_imul d_M_copy_171 ?_
    refine Wp_eqi (x2 := nI (60 * t)) (pk_mul 60 t) ?_
    refine Wp_iload d_M_copy_172 rfl ?_
    refine Wp_iadd d_M_copy_174 ?_
    refine Wp_eqi (x2 := nI ((60 * t) + j)) (nI_add (60 * t) j) ?_
    refine Wp_iload d_M_copy_175 rfl ?_
    refine Wp_iadd d_M_copy_177 ?_
    refine Wp_eqi (x2 := nI (((60 * t) + j) + a)) (nI_add ((60 * t) + j) a) ?_
    refine Wp_aload_n d_M_copy_178 rfl ?_
    refine Wp_getr d_M_copy_179 fd_M_19 rfl rfl rfl ?_
    refine Wp_iload d_M_copy_182 rfl ?_
    refine Wp_ialdN (j := a) d_M_copy_184 rfl rfl rfl rfl (by omega) ?_
    refine Wp_iastN (j := (((60 * t) + j) + a)) d_M_copy_185 rfl rfl rfl rfl (by omega) ?_
    refine Wp_iinc (z := nI (a + 1)) (ls2 := [lr 33, li (nI s), li (nI i), li (nI t), li (nI j), li (nI n), li (nI (a + 1))]) d_M_copy_186 rfl (nI_add a 1) rfl rfl rfl ?_
    refine Wp_goto d_M_copy_189 ?_
    refine ih (a + 1) _ (by omega) ?_
    have hh := cpF_s (f := w 37) (g := w 36) (a := 0) (b := 60 * t + j) (i := a) (n := n) (by omega)
    rw [Nat.zero_add] at hh
    unfold mU
    rw [mUr_mUr, mUr_ne (by decide), mUr_eq, hh]
    exact hk
set_option maxRecDepth 100000 in
set_option maxHeartbeats 4000000 in
theorem t_M_copy (E : mE) (d : Nat) (hd : 2 ≤ d) (w : mw) (S : mw) (hM : MM w S) (hV : VM S) (s i t j n : Int32) : Ti E d m_M_copy [vr 33, vi s, vi i, vi t, vi j, vi n] w (fun r w1 => r = (oCopy S s i t j n).1 ∧ MM w1 (oCopy S s i t j n).2 ∧ fr mRows w w1) := by
  refine ⟨Nat.le_of_ble_eq_true rfl, ?_⟩
  show Wp E d m_M_copy 0 [lr 33, li s, li i, li t, li j, li n, lo] [] w _
  refine Wp_iload_n d_M_copy_0 rfl ?_
  refine Wp_ivs_b (As := [vi s]) d_M_copy_1 ln_M_98 mk_M_isSheet rfl rfl rfl (by omega) (t_M_isSheet E (d - 1) (by omega) w s) (fun g1 => ?_) (fun g1 => ?_)
  ·
    obtain ⟨s1, h_s1, rfl⟩ := sh_of g1
    refine Wp_if_eq d_M_copy_4 (fun q => absurd q (by decide)) (fun _ => ?_)
    refine Wp_iload_n d_M_copy_7 rfl ?_
    refine Wp_ivs_b (As := [vi t]) d_M_copy_8 ln_M_98 mk_M_isSheet rfl rfl rfl (by omega) (t_M_isSheet E (d - 1) (by omega) w t) (fun g8 => ?_) (fun g8 => ?_)
    ·
      obtain ⟨t1, h_t1, rfl⟩ := sh_of g8
      refine Wp_if_ne d_M_copy_11 (fun _ => ?_) (fun q => absurd q (by decide))
      refine Wp_aload_n d_M_copy_17 rfl ?_
      refine Wp_getr d_M_copy_18 fd_M_7 rfl rfl rfl ?_
      refine Wp_iload_n d_M_copy_21 rfl ?_
      refine Wp_ialdN (j := s1) d_M_copy_22 rfl rfl rfl rfl (by omega) ?_
      refine Wp_eqi (x2 := S 34 s1) (congrFun (hM.r 34) _) ?_
      refine Wp_if_lt d_M_copy_23 (fun h23 => ?_) (fun h23 => ?_)
      ·
        have g23 : (S 34 s1).toInt < 0 := i_lt h23
        refine Wp_aload_n d_M_copy_35 rfl ?_
        refine Wp_iconst (x := 1) d_M_copy_36 (by decide) ?_
        refine Wp_ivv_d (o := 33) (As := [vi 1]) d_M_copy_37 ln_M_104 mk_M_met rfl rfl rfl rfl rfl (by omega) (t_M_met E (d - 1) (by omega) w 1 (-11) (by decide)) ?_
        refine Wp_reti (ty := .int) d_M_copy_40 rfl rfl ?_
        have e9 : oCopy S (nI s1) i (nI t1) j n = (-11, mU S 33 4 1) := by unfold oCopy; rw [if_neg (by have := ti (show s1 < 2147483648 by omega); have := ti (show t1 < 2147483648 by omega); omega), cl (by omega), cl (by omega), if_pos (by omega)]
        rw [e9]; exact ⟨rfl, MM_f hM, fr_U (by decide)⟩
      ·
        have g23 : 0 ≤ (S 34 s1).toInt := i_nlt h23
        refine Wp_aload_n d_M_copy_26 rfl ?_
        refine Wp_getr d_M_copy_27 fd_M_7 rfl rfl rfl ?_
        refine Wp_iload_n d_M_copy_30 rfl ?_
        refine Wp_ialdN (j := t1) d_M_copy_31 rfl rfl rfl rfl (by omega) ?_
        refine Wp_eqi (x2 := S 34 t1) (congrFun (hM.r 34) _) ?_
        refine Wp_if_ge d_M_copy_32 (fun h32 => ?_) (fun h32 => ?_)
        ·
          have g32 : 0 ≤ (S 34 t1).toInt := i_le h32
          refine Wp_aload_n d_M_copy_41 rfl ?_
          refine Wp_getr d_M_copy_42 fd_M_7 rfl rfl rfl ?_
          refine Wp_iload_n d_M_copy_45 rfl ?_
          refine Wp_ialdN (j := s1) d_M_copy_46 rfl rfl rfl rfl (by omega) ?_
          refine Wp_eqi (x2 := S 34 s1) (congrFun (hM.r 34) _) ?_
          refine Wp_aload_n d_M_copy_47 rfl ?_
          refine Wp_getr d_M_copy_48 fd_M_7 rfl rfl rfl ?_
          refine Wp_iload_n d_M_copy_51 rfl ?_
          refine Wp_ialdN (j := t1) d_M_copy_52 rfl rfl rfl rfl (by omega) ?_
          refine Wp_eqi (x2 := S 34 t1) (congrFun (hM.r 34) _) ?_
          refine Wp_icmp_eq d_M_copy_53 (fun h53 => ?_) (fun h53 => ?_)
          ·
            refine Wp_iload_n d_M_copy_62 rfl ?_
            refine Wp_if_lt d_M_copy_63 (fun h63 => ?_) (fun h63 => ?_)
            ·
              have g63 : i.toInt < 0 := i_lt h63
              refine Wp_aload_n d_M_copy_111 rfl ?_
              refine Wp_iconst (x := 2) d_M_copy_112 (by decide) ?_
              refine Wp_ivv_d (o := 33) (As := [vi 2]) d_M_copy_113 ln_M_104 mk_M_met rfl rfl rfl rfl rfl (by omega) (t_M_met E (d - 1) (by omega) w 2 (-12) (by decide)) ?_
              refine Wp_reti (ty := .int) d_M_copy_116 rfl rfl ?_
              have e9 : oCopy S (nI s1) i (nI t1) j n = (-12, mU S 33 4 2) := by unfold oCopy; rw [if_neg (by have := ti (show s1 < 2147483648 by omega); have := ti (show t1 < 2147483648 by omega); omega), cl (by omega), cl (by omega), if_neg (by omega), if_neg (fun q => q (by assumption)), if_pos (by omega)]
              rw [e9]; exact ⟨rfl, MM_f hM, fr_U (by decide)⟩
            ·
              have g63 : 0 ≤ i.toInt := i_nlt h63
              refine Wp_iload d_M_copy_66 rfl ?_
              refine Wp_if_lt d_M_copy_68 (fun h68 => ?_) (fun h68 => ?_)
              ·
                have g68 : j.toInt < 0 := i_lt h68
                refine Wp_aload_n d_M_copy_111 rfl ?_
                refine Wp_iconst (x := 2) d_M_copy_112 (by decide) ?_
                refine Wp_ivv_d (o := 33) (As := [vi 2]) d_M_copy_113 ln_M_104 mk_M_met rfl rfl rfl rfl rfl (by omega) (t_M_met E (d - 1) (by omega) w 2 (-12) (by decide)) ?_
                refine Wp_reti (ty := .int) d_M_copy_116 rfl rfl ?_
                have e9 : oCopy S (nI s1) i (nI t1) j n = (-12, mU S 33 4 2) := by unfold oCopy; rw [if_neg (by have := ti (show s1 < 2147483648 by omega); have := ti (show t1 < 2147483648 by omega); omega), cl (by omega), cl (by omega), if_neg (by omega), if_neg (fun q => q (by assumption)), if_pos (by omega)]
                rw [e9]; exact ⟨rfl, MM_f hM, fr_U (by decide)⟩
              ·
                have g68 : 0 ≤ j.toInt := i_nlt h68
                refine Wp_iload d_M_copy_71 rfl ?_
                refine Wp_if_lt d_M_copy_73 (fun h73 => ?_) (fun h73 => ?_)
                ·
                  have g73 : n.toInt < 0 := i_lt h73
                  refine Wp_aload_n d_M_copy_111 rfl ?_
                  refine Wp_iconst (x := 2) d_M_copy_112 (by decide) ?_
                  refine Wp_ivv_d (o := 33) (As := [vi 2]) d_M_copy_113 ln_M_104 mk_M_met rfl rfl rfl rfl rfl (by omega) (t_M_met E (d - 1) (by omega) w 2 (-12) (by decide)) ?_
                  refine Wp_reti (ty := .int) d_M_copy_116 rfl rfl ?_
                  have e9 : oCopy S (nI s1) i (nI t1) j n = (-12, mU S 33 4 2) := by unfold oCopy; rw [if_neg (by have := ti (show s1 < 2147483648 by omega); have := ti (show t1 < 2147483648 by omega); omega), cl (by omega), cl (by omega), if_neg (by omega), if_neg (fun q => q (by assumption)), if_pos (by omega)]
                  rw [e9]; exact ⟨rfl, MM_f hM, fr_U (by decide)⟩
                ·
                  have g73 : 0 ≤ n.toInt := i_nlt h73
                  refine Wp_iload_n d_M_copy_76 rfl ?_
                  refine Wp_i2l d_M_copy_77 ?_
                  refine Wp_iload d_M_copy_78 rfl ?_
                  refine Wp_i2l d_M_copy_80 ?_
                  refine Wp_ladd d_M_copy_81 ?_
                  refine Wp_aload_n d_M_copy_82 rfl ?_
                  refine Wp_getr d_M_copy_83 fd_M_13 rfl rfl rfl ?_
                  refine Wp_iload_n d_M_copy_86 rfl ?_
                  refine Wp_ialdN (j := s1) d_M_copy_87 rfl rfl rfl rfl (by omega) ?_
                  refine Wp_eqi (x2 := S 35 s1) (congrFun (hM.r 35) _) ?_
                  refine Wp_eqi (x2 := nI (sSz S s1)) (VM_sz hV _ (by omega)).1 ?_
                  refine Wp_i2l d_M_copy_88 ?_
                  refine Wp_lcmp d_M_copy_89 ?_
                  refine Wp_if_gt d_M_copy_90 (fun h90 => ?_) (fun h90 => ?_)
                  ·
                    have g90 := l_cmp_gt h90
                    rw [lg_cmp_add (x := i) (y := n) g63 g73, Int32.toInt_toInt64, ti (by have := (VM_sz hV s1 (by omega)).2; omega)] at g90
                    refine Wp_aload_n d_M_copy_111 rfl ?_
                    refine Wp_iconst (x := 2) d_M_copy_112 (by decide) ?_
                    refine Wp_ivv_d (o := 33) (As := [vi 2]) d_M_copy_113 ln_M_104 mk_M_met rfl rfl rfl rfl rfl (by omega) (t_M_met E (d - 1) (by omega) w 2 (-12) (by decide)) ?_
                    refine Wp_reti (ty := .int) d_M_copy_116 rfl rfl ?_
                    have e9 : oCopy S (nI s1) i (nI t1) j n = (-12, mU S 33 4 2) := by unfold oCopy; rw [if_neg (by have := ti (show s1 < 2147483648 by omega); have := ti (show t1 < 2147483648 by omega); omega), cl (by omega), cl (by omega), if_neg (by omega), if_neg (fun q => q (by assumption)), if_pos (by omega)]
                    rw [e9]; exact ⟨rfl, MM_f hM, fr_U (by decide)⟩
                  ·
                    have g90 := l_cmp_ngt h90
                    rw [lg_cmp_add (x := i) (y := n) g63 g73, Int32.toInt_toInt64, ti (by have := (VM_sz hV s1 (by omega)).2; omega)] at g90
                    refine Wp_iload d_M_copy_93 rfl ?_
                    refine Wp_i2l d_M_copy_95 ?_
                    refine Wp_iload d_M_copy_96 rfl ?_
                    refine Wp_i2l d_M_copy_98 ?_
                    refine Wp_ladd d_M_copy_99 ?_
                    refine Wp_aload_n d_M_copy_100 rfl ?_
                    refine Wp_getr d_M_copy_101 fd_M_13 rfl rfl rfl ?_
                    refine Wp_iload_n d_M_copy_104 rfl ?_
                    refine Wp_ialdN (j := t1) d_M_copy_105 rfl rfl rfl rfl (by omega) ?_
                    refine Wp_eqi (x2 := S 35 t1) (congrFun (hM.r 35) _) ?_
                    refine Wp_eqi (x2 := nI (sSz S t1)) (VM_sz hV _ (by omega)).1 ?_
                    refine Wp_i2l d_M_copy_106 ?_
                    refine Wp_lcmp d_M_copy_107 ?_
                    refine Wp_if_le d_M_copy_108 (fun h108 => ?_) (fun h108 => ?_)
                    ·
                      have g108 := l_cmp_le h108
                      rw [lg_cmp_add (x := j) (y := n) g68 g73, Int32.toInt_toInt64, ti (by have := (VM_sz hV t1 (by omega)).2; omega)] at g108
                      refine Wp_iconst (x := 0) d_M_copy_117 (by decide) ?_
                      refine Wp_istore (ls2 := [lr 33, li (nI s1), li i, li (nI t1), li j, li n, li 0]) d_M_copy_118 rfl rfl rfl ?_
                      have hs0 := (VM_sz hV s1 (by omega)).2
                      have ht0 := (VM_sz hV t1 (by omega)).2
                      obtain ⟨i1, hi1, rfl⟩ : ∃ q : Nat, q < 61 ∧ i = nI q := i_nIof (by omega) (by omega)
                      obtain ⟨j1, hj1, rfl⟩ : ∃ q : Nat, q < 61 ∧ j = nI q := i_nIof (by omega) (by omega)
                      obtain ⟨n1, hn1, rfl⟩ : ∃ q : Nat, q < 61 ∧ n = nI q := i_nIof (by omega) (by omega)
                      have e1 := ti (show i1 < 2147483648 by omega)
                      have e2 := ti (show j1 < 2147483648 by omega)
                      have e3 := ti (show n1 < 2147483648 by omega)
                      have e4 := ti (show s1 < 2147483648 by omega)
                      have e5 := ti (show t1 < 2147483648 by omega)
                      refine l_M_copy1 E d (by omega) s1 i1 t1 j1 n1 (by omega) (by omega) (by omega) (by omega) _ n1 0 w (by omega) ?_
                      refine Wp_iconst (x := 0) d_M_copy_154 (by decide) ?_
                      refine Wp_istore (ls2 := [lr 33, li (nI s1), li (nI i1), li (nI t1), li (nI j1), li (nI n1), li 0]) d_M_copy_155 rfl rfl rfl ?_
                      refine l_M_copy2 E d (by omega) s1 i1 t1 j1 n1 (by omega) (by omega) (by omega) (by omega) _ n1 0 _ (by omega) ?_
                      refine Wp_iconst (x := 1) d_M_copy_192 (by decide) ?_
                      refine Wp_reti (ty := .int) d_M_copy_193 rfl rfl ?_
                      rw [mUr_eq, mUr_ne (by decide), cpF_two]
                      have e9 : oCopy S (nI s1) (nI i1) (nI t1) (nI j1) (nI n1) = (1, mUr S 36 (va_cpy (S 36) (S 36) (60 * s1 + i1) (60 * t1 + j1) n1)) := by unfold oCopy; rw [if_neg (by omega), cl (by omega), cl (by omega), if_neg (by omega), if_neg (fun q => q (by assumption)), if_neg (by omega), cl (by omega), cl (by omega), cl (by omega)]
                      rw [e9, hM.r 36]; exact ⟨rfl, MM_pr (MM_sr hM (by decide) (by decide)) (by decide), fr_Ur2 (fr_Ur (by decide)) (by decide)⟩
                    ·
                      have g108 := l_cmp_nle h108
                      rw [lg_cmp_add (x := j) (y := n) g68 g73, Int32.toInt_toInt64, ti (by have := (VM_sz hV t1 (by omega)).2; omega)] at g108
                      refine Wp_aload_n d_M_copy_111 rfl ?_
                      refine Wp_iconst (x := 2) d_M_copy_112 (by decide) ?_
                      refine Wp_ivv_d (o := 33) (As := [vi 2]) d_M_copy_113 ln_M_104 mk_M_met rfl rfl rfl rfl rfl (by omega) (t_M_met E (d - 1) (by omega) w 2 (-12) (by decide)) ?_
                      refine Wp_reti (ty := .int) d_M_copy_116 rfl rfl ?_
                      have e9 : oCopy S (nI s1) i (nI t1) j n = (-12, mU S 33 4 2) := by unfold oCopy; rw [if_neg (by have := ti (show s1 < 2147483648 by omega); have := ti (show t1 < 2147483648 by omega); omega), cl (by omega), cl (by omega), if_neg (by omega), if_neg (fun q => q (by assumption)), if_pos (by omega)]
                      rw [e9]; exact ⟨rfl, MM_f hM, fr_U (by decide)⟩
          ·
            have g53 : (S 34 s1).toInt ≠ (S 34 t1).toInt := i_ne h53
            refine Wp_aload_n d_M_copy_56 rfl ?_
            refine Wp_iconst (x := 4) d_M_copy_57 (by decide) ?_
            refine Wp_ivv_d (o := 33) (As := [vi 4]) d_M_copy_58 ln_M_104 mk_M_met rfl rfl rfl rfl rfl (by omega) (t_M_met E (d - 1) (by omega) w 4 (-14) (by decide)) ?_
            refine Wp_reti (ty := .int) d_M_copy_61 rfl rfl ?_
            have e9 : oCopy S (nI s1) i (nI t1) j n = (-14, mU S 33 4 4) := by unfold oCopy; rw [if_neg (by have := ti (show s1 < 2147483648 by omega); have := ti (show t1 < 2147483648 by omega); omega), cl (by omega), cl (by omega), if_neg (by omega), if_pos (by assumption)]
            rw [e9]; exact ⟨rfl, MM_f hM, fr_U (by decide)⟩
        ·
          have g32 : (S 34 t1).toInt < 0 := i_nle h32
          refine Wp_aload_n d_M_copy_35 rfl ?_
          refine Wp_iconst (x := 1) d_M_copy_36 (by decide) ?_
          refine Wp_ivv_d (o := 33) (As := [vi 1]) d_M_copy_37 ln_M_104 mk_M_met rfl rfl rfl rfl rfl (by omega) (t_M_met E (d - 1) (by omega) w 1 (-11) (by decide)) ?_
          refine Wp_reti (ty := .int) d_M_copy_40 rfl rfl ?_
          have e9 : oCopy S (nI s1) i (nI t1) j n = (-11, mU S 33 4 1) := by unfold oCopy; rw [if_neg (by have := ti (show s1 < 2147483648 by omega); have := ti (show t1 < 2147483648 by omega); omega), cl (by omega), cl (by omega), if_pos (by omega)]
          rw [e9]; exact ⟨rfl, MM_f hM, fr_U (by decide)⟩
    ·
      refine Wp_if_ne d_M_copy_11 (fun q => absurd q (by decide)) (fun _ => ?_)
      refine Wp_bipush (x := (-2)) d_M_copy_14 (by decide) ?_
      refine Wp_reti (ty := .int) d_M_copy_16 rfl rfl ?_
      have e9 : oCopy S (nI s1) i t j n = (-2, S) := by unfold oCopy; rw [if_pos (by omega)]
      rw [e9]; exact ⟨rfl, hM, fr_rf⟩
  ·
    refine Wp_if_eq d_M_copy_4 (fun _ => ?_) (fun q => absurd (by decide) q)
    refine Wp_bipush (x := (-2)) d_M_copy_14 (by decide) ?_
    refine Wp_reti (ty := .int) d_M_copy_16 rfl rfl ?_
    have e9 : oCopy S s i t j n = (-2, S) := by unfold oCopy; rw [if_pos (by omega)]
    rw [e9]; exact ⟨rfl, hM, fr_rf⟩
theorem MM_rd {S : mw} {s n : Nat} : mU (mUr S 40 (rdr S s n)) 40 n (S 36 (60 * s + n)) = mUr S 40 (rdr S s (n + 1)) := by
  unfold mU; rw [mUr_eq, mUr_mUr, rdr_s]
set_option maxRecDepth 100000 in
set_option maxHeartbeats 4000000 in
theorem l_M_read (E : mE) (d : Nat) (hd : 3 ≤ d) (S w0 : mw) (hV : VM S) (s : Nat) (hs : s < 4) : ∀ (k n : Nat) (w : mw), n + k = 10 → rdn S s n = n → MM w (mUr S 40 (rdr S s n)) → fr mRows w0 w → Wp E d m_M_read 27 [lr 33, li (nI s), li (nI n)] [] w (mPi (fun r w1 => r = nI (rdn S s 10) ∧ MM w1 (mUr S 40 (rdr S s (rdn S s 10))) ∧ fr mRows w0 w1)) := by
  intro k
  induction k with
  | zero =>
    intro n w hk hr hM hf
    have hn : n = 10 := by omega
    subst hn
    have hz := (VM_sz hV s hs).2
    refine Wp_iload_n d_M_read_27 rfl ?_
    refine Wp_aload_n d_M_read_28 rfl ?_
    refine Wp_getr d_M_read_29 fd_M_13 rfl rfl rfl ?_
    refine Wp_iload_n d_M_read_32 rfl ?_
    refine Wp_ialdN (j := s) d_M_read_33 rfl rfl rfl rfl (by omega) ?_
    refine Wp_eqi (x2 := S 35 s) ((congrFun (hM.r 35) _).trans (congrFun (mUr_ne (by decide)) _)) ?_
    refine Wp_eqi (x2 := nI (sSz S s)) (VM_sz hV _ (by omega)).1 ?_
    refine Wp_icmp_ge d_M_read_34 (fun h34 => ?_) (fun h34 => ?_)
    ·
      have g34 : (sSz S s) ≤ 10 := n_le h34 (by omega) (by omega)
      refine Wp_iload_n d_M_read_63 rfl ?_
      refine Wp_reti (ty := .int) d_M_read_64 rfl rfl ?_
      rw [hr]
      first | exact ⟨rfl, hM, hf⟩ | exact ⟨rfl, c2, fr_tr hf c3⟩
    ·
      have g34 : 10 < (sSz S s) := n_nle h34 (by omega) (by omega)
      refine Wp_aload_n d_M_read_37 rfl ?_
      refine Wp_iload_n d_M_read_38 rfl ?_
      refine Wp_iconst (x := 0) d_M_read_39 (by decide) ?_
      refine Wp_aload_n d_M_read_40 rfl ?_
      refine Wp_getr d_M_read_41 fd_M_16 rfl rfl rfl ?_
      refine Wp_bipush (x := 60) d_M_read_44 (by decide) ?_
      refine Wp_iload_n d_M_read_46 rfl ?_
      refine Wp_imul d_M_read_47 ?_
      refine Wp_eqi (x2 := nI (60 * s)) (pk_mul 60 s) ?_
      refine Wp_iload_n d_M_read_48 rfl ?_
      refine Wp_iadd d_M_read_49 ?_
      refine Wp_eqi (x2 := nI ((60 * s) + 10)) (nI_add (60 * s) 10) ?_
      refine Wp_ialdN (j := ((60 * s) + 10)) d_M_read_50 rfl rfl rfl rfl (by omega) ?_
      refine Wp_eqi (x2 := S 36 ((60 * s) + 10)) ((congrFun (hM.r 36) _).trans (congrFun (mUr_ne (by decide)) _)) ?_
      refine Wp_ivv_i (o := 33) (As := [vi (nI 10), vi 0, vi (S 36 ((60 * s) + 10))]) d_M_read_51 ln_M_166 mk_M_put rfl rfl rfl rfl rfl (by omega) (t_M_put E (d - 1) (by omega) w (mUr S 40 (rdr S s 10)) hM (nI 10) 0 (S 36 ((60 * s) + 10))) (fun r51 w51 c51 => ?_)
      obtain ⟨c1, c2, c3⟩ := c51
      have e9 : oPut (mUr S 40 (rdr S s 10)) (nI 10) 0 (S 36 ((60 * s) + 10)) = (-2, (mUr S 40 (rdr S s 10))) := if_pos (Or.inl (by decide))
      rw [e9] at c1 c2
      replace c1 : r51 = -2 := c1
      rw [c1]
      refine Wp_if_lt d_M_read_54 (fun _ => ?_) (fun q => absurd (by decide) q)
      refine Wp_iload_n d_M_read_63 rfl ?_
      refine Wp_reti (ty := .int) d_M_read_64 rfl rfl ?_
      rw [hr]
      first | exact ⟨rfl, hM, hf⟩ | exact ⟨rfl, c2, fr_tr hf c3⟩
  | succ k ih =>
    intro n w hk hr hM hf
    have hz := (VM_sz hV s hs).2
    refine Wp_iload_n d_M_read_27 rfl ?_
    refine Wp_aload_n d_M_read_28 rfl ?_
    refine Wp_getr d_M_read_29 fd_M_13 rfl rfl rfl ?_
    refine Wp_iload_n d_M_read_32 rfl ?_
    refine Wp_ialdN (j := s) d_M_read_33 rfl rfl rfl rfl (by omega) ?_
    refine Wp_eqi (x2 := S 35 s) ((congrFun (hM.r 35) _).trans (congrFun (mUr_ne (by decide)) _)) ?_
    refine Wp_eqi (x2 := nI (sSz S s)) (VM_sz hV _ (by omega)).1 ?_
    refine Wp_icmp_ge d_M_read_34 (fun h34 => ?_) (fun h34 => ?_)
    ·
      have g34 : (sSz S s) ≤ n := n_le h34 (by omega) (by omega)
      refine Wp_iload_n d_M_read_63 rfl ?_
      refine Wp_reti (ty := .int) d_M_read_64 rfl rfl ?_
      have he : rdn S s 10 = n := by have h1 := rdn_stop hr (fun q => by first | (have := q.1; omega) | exact hok q.2) (10 - n); rwa [show n + (10 - n) = 10 by omega] at h1
      rw [he]
      first | exact ⟨rfl, hM, hf⟩ | exact ⟨rfl, c2, fr_tr hf c3⟩
    ·
      have g34 : n < (sSz S s) := n_nle h34 (by omega) (by omega)
      refine Wp_aload_n d_M_read_37 rfl ?_
      refine Wp_iload_n d_M_read_38 rfl ?_
      refine Wp_iconst (x := 0) d_M_read_39 (by decide) ?_
      refine Wp_aload_n d_M_read_40 rfl ?_
      refine Wp_getr d_M_read_41 fd_M_16 rfl rfl rfl ?_
      refine Wp_bipush (x := 60) d_M_read_44 (by decide) ?_
      refine Wp_iload_n d_M_read_46 rfl ?_
      refine Wp_imul d_M_read_47 ?_
      refine Wp_eqi (x2 := nI (60 * s)) (pk_mul 60 s) ?_
      refine Wp_iload_n d_M_read_48 rfl ?_
      refine Wp_iadd d_M_read_49 ?_
      refine Wp_eqi (x2 := nI ((60 * s) + n)) (nI_add (60 * s) n) ?_
      refine Wp_ialdN (j := ((60 * s) + n)) d_M_read_50 rfl rfl rfl rfl (by omega) ?_
      refine Wp_eqi (x2 := S 36 ((60 * s) + n)) ((congrFun (hM.r 36) _).trans (congrFun (mUr_ne (by decide)) _)) ?_
      refine Wp_ivv_i (o := 33) (As := [vi (nI n), vi 0, vi (S 36 ((60 * s) + n))]) d_M_read_51 ln_M_166 mk_M_put rfl rfl rfl rfl rfl (by omega) (t_M_put E (d - 1) (by omega) w (mUr S 40 (rdr S s n)) hM (nI n) 0 (S 36 (60 * s + n))) (fun r51 w51 c51 => ?_)
      obtain ⟨c1, c2, c3⟩ := c51
      by_cases hok : itOk (S 36 (60 * s + n)) = true
      ·
        have hok2 := of_decide_eq_true hok
        have e9 : oPut (mUr S 40 (rdr S s n)) (nI n) 0 (S 36 (60 * s + n)) = ((mUr S 40 (rdr S s n)) 40 n, mU (mUr S 40 (rdr S s n)) 40 n (S 36 (60 * s + n))) := by unfold oPut; rw [if_neg (by have := ti (show n < 2147483648 by omega); have : Int32.toInt 0 = 0 := rfl; omega), if_pos rfl, cl (by omega)]
        rw [e9, MM_rd] at c2
        rw [e9] at c1
        replace c1 : r51 = (mUr S 40 (rdr S s n)) 40 n := c1
        have e8 : (mUr S 40 (rdr S s n)) 40 n = nI (sWt S n) := by rw [mUr_eq]; unfold rdr; rw [if_neg (by omega)]; exact (VM_wt hV n (by omega)).1
        have e7 := (VM_wt hV n (by omega)).2
        rw [c1]
        refine Wp_eqi (x2 := nI (sWt S n)) e8 ?_
        refine Wp_if_lt d_M_read_54 (fun q => absurd (n_lt (b := 0) q (by omega) (by omega)) (by omega)) (fun h54 => ?_)
        refine Wp_iinc (z := nI (n + 1)) (ls2 := [lr 33, li (nI s), li (nI (n + 1))]) d_M_read_57 rfl (nI_add n 1) rfl rfl rfl ?_
        refine Wp_goto d_M_read_60 ?_
        exact ih (n + 1) w51 (by omega) (rdn_go hr ⟨by omega, hok⟩) c2 (fr_tr hf c3)
      ·
        have hok2 : ¬ (0 ≤ (S 36 (60 * s + n)).toInt ∧ (S 36 (60 * s + n)).toInt ≤ 99) := fun q => hok (decide_eq_true q)
        have e9 : oPut (mUr S 40 (rdr S s n)) (nI n) 0 (S 36 (60 * s + n)) = (-2, (mUr S 40 (rdr S s n))) := by unfold oPut; rw [if_pos (by omega)]
        rw [e9] at c1 c2
        replace c1 : r51 = -2 := c1
        rw [c1]
        refine Wp_if_lt d_M_read_54 (fun _ => ?_) (fun q => absurd (by decide) q)
        refine Wp_iload_n d_M_read_63 rfl ?_
        refine Wp_reti (ty := .int) d_M_read_64 rfl rfl ?_
        have he : rdn S s 10 = n := by have h1 := rdn_stop hr (fun q => by first | (have := q.1; omega) | exact hok q.2) (10 - n); rwa [show n + (10 - n) = 10 by omega] at h1
        rw [he]
        first | exact ⟨rfl, hM, hf⟩ | exact ⟨rfl, c2, fr_tr hf c3⟩
set_option maxRecDepth 100000 in
set_option maxHeartbeats 4000000 in
theorem t_M_read (E : mE) (d : Nat) (hd : 3 ≤ d) (w : mw) (S : mw) (hM : MM w S) (hV : VM S) (s : Int32) : Ti E d m_M_read [vr 33, vi s] w (fun r w1 => r = (oRead S s).1 ∧ MM w1 (oRead S s).2 ∧ fr mRows w w1) := by
  refine ⟨Nat.le_of_ble_eq_true rfl, ?_⟩
  show Wp E d m_M_read 0 [lr 33, li s, lo] [] w _
  refine Wp_iload_n d_M_read_0 rfl ?_
  refine Wp_ivs_b (As := [vi s]) d_M_read_1 ln_M_98 mk_M_isSheet rfl rfl rfl (by omega) (t_M_isSheet E (d - 1) (by omega) w s) (fun g1 => ?_) (fun g1 => ?_)
  ·
    obtain ⟨s1, h_s1, rfl⟩ := sh_of g1
    refine Wp_if_ne d_M_read_4 (fun _ => ?_) (fun q => absurd q (by decide))
    refine Wp_aload_n d_M_read_10 rfl ?_
    refine Wp_getr d_M_read_11 fd_M_7 rfl rfl rfl ?_
    refine Wp_iload_n d_M_read_14 rfl ?_
    refine Wp_ialdN (j := s1) d_M_read_15 rfl rfl rfl rfl (by omega) ?_
    refine Wp_eqi (x2 := S 34 s1) (congrFun (hM.r 34) _) ?_
    refine Wp_if_ge d_M_read_16 (fun h16 => ?_) (fun h16 => ?_)
    ·
      have g16 : 0 ≤ (S 34 s1).toInt := i_le h16
      refine Wp_iconst (x := 0) d_M_read_25 (by decide) ?_
      refine Wp_istore_n (ls2 := [lr 33, li (nI s1), li 0]) d_M_read_26 rfl rfl rfl ?_
      have e9 : oRead S (nI s1) = (nI (rdn S s1 10), mUr S 40 (rdr S s1 (rdn S s1 10))) := by unfold oRead; rw [if_neg (by have := ti (show s1 < 2147483648 by omega); omega), cl (by omega), if_neg (by omega)]
      rw [e9]
      exact l_M_read E d (by omega) S w hV s1 (by omega) 10 0 w (by omega) rfl (by rw [rdr_0, mUr_self]; exact hM) fr_rf
    ·
      have g16 : (S 34 s1).toInt < 0 := i_nle h16
      refine Wp_aload_n d_M_read_19 rfl ?_
      refine Wp_iconst (x := 1) d_M_read_20 (by decide) ?_
      refine Wp_ivv_d (o := 33) (As := [vi 1]) d_M_read_21 ln_M_104 mk_M_met rfl rfl rfl rfl rfl (by omega) (t_M_met E (d - 1) (by omega) w 1 (-11) (by decide)) ?_
      refine Wp_reti (ty := .int) d_M_read_24 rfl rfl ?_
      have e9 : oRead S (nI s1) = (-11, mU S 33 4 1) := by unfold oRead; rw [if_neg (by have := ti (show s1 < 2147483648 by omega); omega), cl (by omega), if_pos (by omega)]
      rw [e9]; exact ⟨rfl, MM_f hM, fr_U (by decide)⟩
  ·
    refine Wp_if_ne d_M_read_4 (fun q => absurd q (by decide)) (fun _ => ?_)
    refine Wp_bipush (x := (-2)) d_M_read_7 (by decide) ?_
    refine Wp_reti (ty := .int) d_M_read_9 rfl rfl ?_
    have e9 : oRead S s = (-2, S) := by unfold oRead; rw [if_pos (by omega)]
    rw [e9]; exact ⟨rfl, hM, fr_rf⟩
