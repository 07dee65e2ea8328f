set_option maxRecDepth 100000 in
set_option maxHeartbeats 4000000 in
theorem l_M_ones (E : mE) (d : Nat) (hd : 0 ≤ d) (w : mw) (u : Int32) : ∀ (k x n : Nat), popc x = k → x < 1024 → Wp E d m_M_ones 4 [li u, li (nI n), li (nI x)] [] w (mPi (fun r w1 => r = nI (n + k) ∧ w1 = w)) := by
  intro k
  induction k with
  | zero =>
    intro x n hk hx
    have hx0 : x = 0 := by
      by_cases h : 0 < x
      · have := popc_step x hx h; omega
      · omega
    subst hx0
    refine Wp_iload_n d_M_ones_4 rfl ?_
    refine Wp_if_eq d_M_ones_5 (fun h5 => ?_) (fun q => absurd rfl q)
    refine Wp_iload_n d_M_ones_20 rfl ?_
    refine Wp_reti (ty := .int) d_M_ones_21 rfl rfl ?_
    exact ⟨rfl, rfl⟩
  | succ k ih =>
    intro x n hk hx
    have hx0 : 0 < x := by
      by_cases h : 0 < x
      · exact h
      · have h0 : x = 0 := by omega
        subst h0; have h1 : popc 0 = 0 := (by decide); omega
    have hs := popc_step x hx hx0
    have hle : x &&& (x - 1) ≤ x := Nat.and_le_left
    refine Wp_iload_n d_M_ones_4 rfl ?_
    refine Wp_if_eq d_M_ones_5 (fun q => absurd (n_eq (b := 0) q (by omega) (by omega)) (by omega)) (fun h5 => ?_)
    refine Wp_iinc (z := nI (n + 1)) (ls2 := [li u, li (nI (n + 1)), li (nI x)]) d_M_ones_8 rfl (nI_add n 1) rfl rfl rfl ?_
    refine Wp_iload_n d_M_ones_11 rfl ?_
    refine Wp_iload_n d_M_ones_12 rfl ?_
    refine Wp_iconst (x := 1) d_M_ones_13 (by decide) ?_
    refine Wp_isub d_M_ones_14 ?_
    refine Wp_eqi (x2 := nI (x - 1)) (pk_sub (a := x) (b := 1) (by omega)) ?_
    refine Wp_iand d_M_ones_15 ?_
    refine Wp_eqi (x2 := nI (x &&& (x - 1))) (nI_and x (x - 1)) ?_
    refine Wp_istore_n (ls2 := [li u, li (nI (n + 1)), li (nI (x &&& (x - 1)))]) d_M_ones_16 rfl rfl rfl ?_
    refine Wp_goto d_M_ones_17 ?_
    refine Wp_mi (ih _ (n + 1) (by omega) (by omega)) (fun r w1 h => ⟨?_, h.2⟩)
    rw [h.1]; congr 1; omega
set_option maxRecDepth 100000 in
set_option maxHeartbeats 4000000 in
theorem t_M_ones (E : mE) (d : Nat) (hd : 0 ≤ d) (w : mw) (x : Nat) (hx : x < 1024) : Td E d m_M_ones [vi (nI x)] w (nI (popc x)) w := by
  refine ⟨Nat.le_of_ble_eq_true rfl, ?_⟩
  show Wp E d m_M_ones 0 [li (nI x), lo, lo] [] w _
  refine Wp_iconst (x := 0) d_M_ones_0 (by decide) ?_
  refine Wp_istore_n (ls2 := [li (nI x), li 0, lo]) d_M_ones_1 rfl rfl rfl ?_
  refine Wp_iload_n d_M_ones_2 rfl ?_
  refine Wp_istore_n (ls2 := [li (nI x), li 0, li (nI x)]) d_M_ones_3 rfl rfl rfl ?_
  refine Wp_mi (l_M_ones E d (by omega) w _ _ x 0 rfl hx) (fun r w1 h => ⟨?_, h.2⟩)
  rw [h.1, Nat.zero_add]
set_option maxRecDepth 100000 in
set_option maxHeartbeats 4000000 in
theorem t_M_toldOf (E : mE) (d : Nat) (hd : 0 ≤ d) (w : mw) (S : mw) (hM : MP w S) (hV : VM S) (j : Nat) (hj : j < pN S) : Td E d m_M_toldOf [vr 33, vi (nI j)] w (nI (tld S j)) w := by
  refine ⟨Nat.le_of_ble_eq_true rfl, ?_⟩
  show Wp E d m_M_toldOf 0 [lr 33, li (nI j), lo] [] w _
  have hp := (pN_ok S).1
  have ha := (pN_ok S).2 j hj
  have hl := VM_li hV j (by omega)
  refine Wp_aload_n d_M_toldOf_0 rfl ?_
  refine Wp_getr d_M_toldOf_1 fd_M_25 rfl rfl rfl ?_
  refine Wp_iload_n d_M_toldOf_4 rfl ?_
  refine Wp_ialdN (j := j) d_M_toldOf_5 rfl rfl rfl rfl (by omega) ?_
  refine Wp_eqi (x2 := nI (pA S j)) (hM.2.2 _ (by omega)) ?_
  refine Wp_aload_n d_M_toldOf_6 rfl ?_
  refine Wp_getr d_M_toldOf_7 fd_M_34 rfl rfl rfl ?_
  refine Wp_iload_n d_M_toldOf_10 rfl ?_
  refine Wp_ialdN (j := j) d_M_toldOf_11 rfl rfl rfl rfl (by omega) ?_
  refine Wp_eqi (x2 := S 42 j) (congrFun (hM.1.r 42) _) ?_
  refine Wp_iadd d_M_toldOf_12 ?_
  refine Wp_istore_n (ls2 := [lr 33, li (nI j), li ((nI (pA S j)) + (S 42 j))]) d_M_toldOf_13 rfl rfl rfl ?_
  refine Wp_iload_n d_M_toldOf_14 rfl ?_
  refine Wp_if_ge d_M_toldOf_15 (fun h15 => ?_) (fun h15 => ?_)
  ·
    have g15 : 0 ≤ ((nI (pA S j)) + (S 42 j)).toInt := i_le h15
    refine Wp_iload_n d_M_toldOf_22 rfl ?_
    refine Wp_reti (ty := .int) d_M_toldOf_23 rfl rfl ?_
    have e1 : (nI (pA S j) + S 42 j).toInt = (pA S j : Int) + (S 42 j).toInt := by rw [i_add (by rw [ti (by omega)]; omega) (by rw [ti (by omega)]; omega), ti (by omega)]
    refine ⟨i_eq ?_, rfl⟩
    rw [e1, ti (by unfold tld; omega)]; unfold tld; omega
  ·
    have g15 : ((nI (pA S j)) + (S 42 j)).toInt < 0 := i_nle h15
    refine Wp_iconst (x := 0) d_M_toldOf_18 (by decide) ?_
    refine Wp_goto d_M_toldOf_19 ?_
    refine Wp_reti (ty := .int) d_M_toldOf_23 rfl rfl ?_
    have e1 : (nI (pA S j) + S 42 j).toInt = (pA S j : Int) + (S 42 j).toInt := by rw [i_add (by rw [ti (by omega)]; omega) (by rw [ti (by omega)]; omega), ti (by omega)]
    refine ⟨?_, rfl⟩
    rw [show tld S j = 0 by unfold tld; omega]; rfl
set_option maxRecDepth 100000 in
set_option maxHeartbeats 4000000 in
theorem t_M_whole (E : mE) (d : Nat) (hd : 0 ≤ d) (w : mw) (S : mw) (hM : MP w S) (hV : VM S) : Td E d m_M_whole [vr 33] w (nI (2 ^ pN S - 1)) w := by
  refine ⟨Nat.le_of_ble_eq_true rfl, ?_⟩
  show Wp E d m_M_whole 0 [lr 33] [] w _
  have hp := (pN_ok S).1
  refine Wp_iconst (x := 1) d_M_whole_0 (by decide) ?_
  refine Wp_aload_n d_M_whole_1 rfl ?_
  refine Wp_getf d_M_whole_2 fd_M_125 rfl rfl rfl ?_
  refine Wp_eqi (x2 := nI (pN S)) hM.2.1 ?_
  refine Wp_ishl d_M_whole_5 ?_
  refine Wp_eqi (x2 := nI (2 ^ pN S)) (sh1 (by omega)) ?_
  refine Wp_iconst (x := 1) d_M_whole_6 (by decide) ?_
  refine Wp_isub d_M_whole_7 ?_
  refine Wp_eqi (x2 := nI (2 ^ pN S - 1)) (pk_sub (b := 1) (Nat.one_le_two_pow)) ?_
  refine Wp_reti (ty := .int) d_M_whole_8 rfl rfl ?_
  exact ⟨rfl, rfl⟩
set_option maxRecDepth 100000 in
set_option maxHeartbeats 4000000 in
theorem l_M_fareOf (E : mE) (d : Nat) (hd : 1 ≤ d) (w S : mw) (hM : MP w S) (hV : VM S) (b : Nat) (hb : b < 1024) (u : Option mv) (Q : Option mv → mw → Prop) (hk : ∀ u, Wp E d m_M_fareOf 140 [lr 33, li (nI b), li (nI (mnb (tld S) b 100000000 (pN S))), li (nI (mxb (tld S) b (pN S))), li (nI (mnb (sWt S) b 100000000 (pN S))), li (nI (mxb (sWt S) b (pN S))), li (nI (pN S)), u] [] w Q) : ∀ (k i : Nat) (u : Option mv), i + k = pN S → Wp E d m_M_fareOf 30 [lr 33, li (nI b), li (nI (mnb (tld S) b 100000000 i)), li (nI (mxb (tld S) b i)), li (nI (mnb (sWt S) b 100000000 i)), li (nI (mxb (sWt S) b i)), li (nI i), u] [] w Q := by
  intro k
  induction k with
  | zero =>
    intro i u hi
    have hp := (pN_ok S).1
    have hb1 := mxb_le (f := tld S) (b := b) i (fun j q => tld_le hV (show j < pN S by omega))
    have hb2 := mnb_le (f := tld S) (b := b) (M := 100000000) i
    have hb3 := mxb_le (f := sWt S) (b := b) i (fun j q => (VM_wt hV j (by omega)).2)
    have hb4 := mnb_le (f := sWt S) (b := b) (M := 100000000) i
    refine Wp_iload d_M_fareOf_30 rfl ?_
    refine Wp_aload_n d_M_fareOf_32 rfl ?_
    refine Wp_getf d_M_fareOf_33 fd_M_125 rfl rfl rfl ?_
    refine Wp_eqi (x2 := nI (pN S)) hM.2.1 ?_
    refine Wp_icmp_ge d_M_fareOf_36 (fun h36 => ?_) (fun q => absurd (n_nle q (by omega) (by omega)) (by omega))
    have hin : i = pN S := by omega
    subst hin
    exact hk u
  | succ k ih =>
    intro i u hi
    have hp := (pN_ok S).1
    have hb1 := mxb_le (f := tld S) (b := b) i (fun j q => tld_le hV (show j < pN S by omega))
    have hb2 := mnb_le (f := tld S) (b := b) (M := 100000000) i
    have hb3 := mxb_le (f := sWt S) (b := b) i (fun j q => (VM_wt hV j (by omega)).2)
    have hb4 := mnb_le (f := sWt S) (b := b) (M := 100000000) i
    have htl := tld_le hV (show i < pN S by omega)
    have hwl := (VM_wt hV i (by omega)).2
    refine Wp_iload d_M_fareOf_30 rfl ?_
    refine Wp_aload_n d_M_fareOf_32 rfl ?_
    refine Wp_getf d_M_fareOf_33 fd_M_125 rfl rfl rfl ?_
    refine Wp_eqi (x2 := nI (pN S)) hM.2.1 ?_
    refine Wp_icmp_ge d_M_fareOf_36 (fun q => absurd (n_le q (by omega) (by omega)) (by omega)) (fun h36 => ?_)
    refine Wp_iload_n d_M_fareOf_39 rfl ?_
    refine Wp_iload d_M_fareOf_40 rfl ?_
    refine Wp_ivs_b (As := [vi (nI b), vi (nI i)]) d_M_fareOf_42 ln_M_177 mk_M_isIn rfl rfl rfl (by omega) (t_M_isIn E (d - 1) (by omega) w b i (by omega) (by omega)) (fun g42 => ?_) (fun g42 => ?_)
    ·
      refine Wp_if_eq d_M_fareOf_45 (fun q => absurd q (by decide)) (fun _ => ?_)
      refine Wp_aload_n d_M_fareOf_48 rfl ?_
      refine Wp_iload d_M_fareOf_49 rfl ?_
      refine Wp_ivv_d (o := 33) (As := [vi (nI i)]) d_M_fareOf_51 ln_M_154 mk_M_toldOf rfl rfl rfl rfl rfl (by omega) (t_M_toldOf E (d - 1) (by omega) w S hM hV i (by omega)) ?_
      refine Wp_istore (ls2 := [lr 33, li (nI b), li (nI (mnb (tld S) b 100000000 i)), li (nI (mxb (tld S) b i)), li (nI (mnb (sWt S) b 100000000 i)), li (nI (mxb (sWt S) b i)), li (nI i), li (nI (tld S i))]) d_M_fareOf_54 rfl rfl rfl ?_
      refine Wp_iload d_M_fareOf_56 rfl ?_
      refine Wp_iload_n d_M_fareOf_58 rfl ?_
      refine Wp_icmp_ge d_M_fareOf_59 (fun h59 => ?_) (fun h59 => ?_)
      ·
        have g59 : (mnb (tld S) b 100000000 i) ≤ (tld S i) := n_le h59 (by omega) (by omega)
        refine Wp_iload_n d_M_fareOf_67 rfl ?_
        refine Wp_istore_n (ls2 := [lr 33, li (nI b), li (nI (mnb (tld S) b 100000000 i)), li (nI (mxb (tld S) b i)), li (nI (mnb (sWt S) b 100000000 i)), li (nI (mxb (sWt S) b i)), li (nI i), li (nI (tld S i))]) d_M_fareOf_68 rfl rfl rfl ?_
        refine Wp_iload d_M_fareOf_69 rfl ?_
        refine Wp_iload_n d_M_fareOf_71 rfl ?_
        refine Wp_icmp_le d_M_fareOf_72 (fun h72 => ?_) (fun h72 => ?_)
        ·
          have g72 : (tld S i) ≤ (mxb (tld S) b i) := n_le h72 (by omega) (by omega)
          refine Wp_iload_n d_M_fareOf_80 rfl ?_
          refine Wp_istore_n (ls2 := [lr 33, li (nI b), li (nI (mnb (tld S) b 100000000 i)), li (nI (mxb (tld S) b i)), li (nI (mnb (sWt S) b 100000000 i)), li (nI (mxb (sWt S) b i)), li (nI i), li (nI (tld S i))]) d_M_fareOf_81 rfl rfl rfl ?_
          refine Wp_aload_n d_M_fareOf_82 rfl ?_
          refine Wp_getr d_M_fareOf_83 fd_M_28 rfl rfl rfl ?_
          refine Wp_iload d_M_fareOf_86 rfl ?_
          refine Wp_ialdN (j := i) d_M_fareOf_88 rfl rfl rfl rfl (by omega) ?_
          refine Wp_eqi (x2 := S 40 i) (congrFun (hM.1.r 40) _) ?_
          refine Wp_eqi (x2 := nI (sWt S i)) (VM_wt hV _ (by omega)).1 ?_
          refine Wp_iload d_M_fareOf_89 rfl ?_
          refine Wp_icmp_ge d_M_fareOf_91 (fun h91 => ?_) (fun h91 => ?_)
          ·
            have g91 : (mnb (sWt S) b 100000000 i) ≤ (sWt S i) := n_le h91 (by omega) (by omega)
            refine Wp_iload d_M_fareOf_104 rfl ?_
            refine Wp_istore (ls2 := [lr 33, li (nI b), li (nI (mnb (tld S) b 100000000 i)), li (nI (mxb (tld S) b i)), li (nI (mnb (sWt S) b 100000000 i)), li (nI (mxb (sWt S) b i)), li (nI i), li (nI (tld S i))]) d_M_fareOf_106 rfl rfl rfl ?_
            refine Wp_aload_n d_M_fareOf_108 rfl ?_
            refine Wp_getr d_M_fareOf_109 fd_M_28 rfl rfl rfl ?_
            refine Wp_iload d_M_fareOf_112 rfl ?_
            refine Wp_ialdN (j := i) d_M_fareOf_114 rfl rfl rfl rfl (by omega) ?_
            refine Wp_eqi (x2 := S 40 i) (congrFun (hM.1.r 40) _) ?_
            refine Wp_eqi (x2 := nI (sWt S i)) (VM_wt hV _ (by omega)).1 ?_
            refine Wp_iload d_M_fareOf_115 rfl ?_
            refine Wp_icmp_le d_M_fareOf_117 (fun h117 => ?_) (fun h117 => ?_)
            ·
              have g117 : (sWt S i) ≤ (mxb (sWt S) b i) := n_le h117 (by omega) (by omega)
              refine Wp_iload d_M_fareOf_130 rfl ?_
              refine Wp_istore (ls2 := [lr 33, li (nI b), li (nI (mnb (tld S) b 100000000 i)), li (nI (mxb (tld S) b i)), li (nI (mnb (sWt S) b 100000000 i)), li (nI (mxb (sWt S) b i)), li (nI i), li (nI (tld S i))]) d_M_fareOf_132 rfl rfl rfl ?_
              refine Wp_iinc (z := nI (i + 1)) (ls2 := [lr 33, li (nI b), li (nI (mnb (tld S) b 100000000 i)), li (nI (mxb (tld S) b i)), li (nI (mnb (sWt S) b 100000000 i)), li (nI (mxb (sWt S) b i)), li (nI (i + 1)), li (nI (tld S i))]) d_M_fareOf_134 rfl (nI_add i 1) rfl rfl rfl ?_
              refine Wp_goto d_M_fareOf_137 ?_
              have h9 := ih (i + 1) (li (nI (tld S i))) (by omega)
              rw [(show nI (mnb (tld S) b 100000000 (i + 1)) = nI (mnb (tld S) b 100000000 i) by congr 1; show (if b.testBit i = true then _ else _) = _; rw [if_pos g42]; omega), (show nI (mxb (tld S) b (i + 1)) = nI (mxb (tld S) b i) by congr 1; show (if b.testBit i = true then _ else _) = _; rw [if_pos g42]; omega), (show nI (mnb (sWt S) b 100000000 (i + 1)) = nI (mnb (sWt S) b 100000000 i) by congr 1; show (if b.testBit i = true then _ else _) = _; rw [if_pos g42]; omega), (show nI (mxb (sWt S) b (i + 1)) = nI (mxb (sWt S) b i) by congr 1; show (if b.testBit i = true then _ else _) = _; rw [if_pos g42]; omega)] at h9
              exact h9
            ·
              have g117 : (mxb (sWt S) b i) < (sWt S i) := n_nle h117 (by omega) (by omega)
              refine Wp_aload_n d_M_fareOf_120 rfl ?_
              refine Wp_getr d_M_fareOf_121 fd_M_28 rfl rfl rfl ?_
              refine Wp_iload d_M_fareOf_124 rfl ?_
              refine Wp_ialdN (j := i) d_M_fareOf_126 rfl rfl rfl rfl (by omega) ?_
              refine Wp_eqi (x2 := S 40 i) (congrFun (hM.1.r 40) _) ?_
              refine Wp_eqi (x2 := nI (sWt S i)) (VM_wt hV _ (by omega)).1 ?_
              refine Wp_goto d_M_fareOf_127 ?_
              refine Wp_istore (ls2 := [lr 33, li (nI b), li (nI (mnb (tld S) b 100000000 i)), li (nI (mxb (tld S) b i)), li (nI (mnb (sWt S) b 100000000 i)), li (nI (sWt S i)), li (nI i), li (nI (tld S i))]) d_M_fareOf_132 rfl rfl rfl ?_
              refine Wp_iinc (z := nI (i + 1)) (ls2 := [lr 33, li (nI b), li (nI (mnb (tld S) b 100000000 i)), li (nI (mxb (tld S) b i)), li (nI (mnb (sWt S) b 100000000 i)), li (nI (sWt S i)), li (nI (i + 1)), li (nI (tld S i))]) d_M_fareOf_134 rfl (nI_add i 1) rfl rfl rfl ?_
              refine Wp_goto d_M_fareOf_137 ?_
              have h9 := ih (i + 1) (li (nI (tld S i))) (by omega)
              rw [(show nI (mnb (tld S) b 100000000 (i + 1)) = nI (mnb (tld S) b 100000000 i) by congr 1; show (if b.testBit i = true then _ else _) = _; rw [if_pos g42]; omega), (show nI (mxb (tld S) b (i + 1)) = nI (mxb (tld S) b i) by congr 1; show (if b.testBit i = true then _ else _) = _; rw [if_pos g42]; omega), (show nI (mnb (sWt S) b 100000000 (i + 1)) = nI (mnb (sWt S) b 100000000 i) by congr 1; show (if b.testBit i = true then _ else _) = _; rw [if_pos g42]; omega), (show nI (mxb (sWt S) b (i + 1)) = nI (sWt S i) by congr 1; show (if b.testBit i = true then _ else _) = _; rw [if_pos g42]; omega)] at h9
              exact h9
          ·
            have g91 : (sWt S i) < (mnb (sWt S) b 100000000 i) := n_nle h91 (by omega) (by omega)
            refine Wp_aload_n d_M_fareOf_94 rfl ?_
            refine Wp_getr d_M_fareOf_95 fd_M_28 rfl rfl rfl ?_
            refine Wp_iload d_M_fareOf_98 rfl ?_
            refine Wp_ialdN (j := i) d_M_fareOf_100 rfl rfl rfl rfl (by omega) ?_
            refine Wp_eqi (x2 := S 40 i) (congrFun (hM.1.r 40) _) ?_
            refine Wp_eqi (x2 := nI (sWt S i)) (VM_wt hV _ (by omega)).1 ?_
            refine Wp_goto d_M_fareOf_101 ?_
            refine Wp_istore (ls2 := [lr 33, li (nI b), li (nI (mnb (tld S) b 100000000 i)), li (nI (mxb (tld S) b i)), li (nI (sWt S i)), li (nI (mxb (sWt S) b i)), li (nI i), li (nI (tld S i))]) d_M_fareOf_106 rfl rfl rfl ?_
            refine Wp_aload_n d_M_fareOf_108 rfl ?_
            refine Wp_getr d_M_fareOf_109 fd_M_28 rfl rfl rfl ?_
            refine Wp_iload d_M_fareOf_112 rfl ?_
            refine Wp_ialdN (j := i) d_M_fareOf_114 rfl rfl rfl rfl (by omega) ?_
            refine Wp_eqi (x2 := S 40 i) (congrFun (hM.1.r 40) _) ?_
            refine Wp_eqi (x2 := nI (sWt S i)) (VM_wt hV _ (by omega)).1 ?_
            refine Wp_iload d_M_fareOf_115 rfl ?_
            refine Wp_icmp_le d_M_fareOf_117 (fun h117 => ?_) (fun h117 => ?_)
            ·
              have g117 : (sWt S i) ≤ (mxb (sWt S) b i) := n_le h117 (by omega) (by omega)
              refine Wp_iload d_M_fareOf_130 rfl ?_
              refine Wp_istore (ls2 := [lr 33, li (nI b), li (nI (mnb (tld S) b 100000000 i)), li (nI (mxb (tld S) b i)), li (nI (sWt S i)), li (nI (mxb (sWt S) b i)), li (nI i), li (nI (tld S i))]) d_M_fareOf_132 rfl rfl rfl ?_
              refine Wp_iinc (z := nI (i + 1)) (ls2 := [lr 33, li (nI b), li (nI (mnb (tld S) b 100000000 i)), li (nI (mxb (tld S) b i)), li (nI (sWt S i)), li (nI (mxb (sWt S) b i)), li (nI (i + 1)), li (nI (tld S i))]) d_M_fareOf_134 rfl (nI_add i 1) rfl rfl rfl ?_
              refine Wp_goto d_M_fareOf_137 ?_
              have h9 := ih (i + 1) (li (nI (tld S i))) (by omega)
              rw [(show nI (mnb (tld S) b 100000000 (i + 1)) = nI (mnb (tld S) b 100000000 i) by congr 1; show (if b.testBit i = true then _ else _) = _; rw [if_pos g42]; omega), (show nI (mxb (tld S) b (i + 1)) = nI (mxb (tld S) b i) by congr 1; show (if b.testBit i = true then _ else _) = _; rw [if_pos g42]; omega), (show nI (mnb (sWt S) b 100000000 (i + 1)) = nI (sWt S i) by congr 1; show (if b.testBit i = true then _ else _) = _; rw [if_pos g42]; omega), (show nI (mxb (sWt S) b (i + 1)) = nI (mxb (sWt S) b i) by congr 1; show (if b.testBit i = true then _ else _) = _; rw [if_pos g42]; omega)] at h9
              exact h9
            ·
              have g117 : (mxb (sWt S) b i) < (sWt S i) := n_nle h117 (by omega) (by omega)
              refine Wp_aload_n d_M_fareOf_120 rfl ?_
              refine Wp_getr d_M_fareOf_121 fd_M_28 rfl rfl rfl ?_
              refine Wp_iload d_M_fareOf_124 rfl ?_
              refine Wp_ialdN (j := i) d_M_fareOf_126 rfl rfl rfl rfl (by omega) ?_
              refine Wp_eqi (x2 := S 40 i) (congrFun (hM.1.r 40) _) ?_
              refine Wp_eqi (x2 := nI (sWt S i)) (VM_wt hV _ (by omega)).1 ?_
              refine Wp_goto d_M_fareOf_127 ?_
              refine Wp_istore (ls2 := [lr 33, li (nI b), li (nI (mnb (tld S) b 100000000 i)), li (nI (mxb (tld S) b i)), li (nI (sWt S i)), li (nI (sWt S i)), li (nI i), li (nI (tld S i))]) d_M_fareOf_132 rfl rfl rfl ?_
              refine Wp_iinc (z := nI (i + 1)) (ls2 := [lr 33, li (nI b), li (nI (mnb (tld S) b 100000000 i)), li (nI (mxb (tld S) b i)), li (nI (sWt S i)), li (nI (sWt S i)), li (nI (i + 1)), li (nI (tld S i))]) d_M_fareOf_134 rfl (nI_add i 1) rfl rfl rfl ?_
              refine Wp_goto d_M_fareOf_137 ?_
              have h9 := ih (i + 1) (li (nI (tld S i))) (by omega)
              rw [(show nI (mnb (tld S) b 100000000 (i + 1)) = nI (mnb (tld S) b 100000000 i) by congr 1; show (if b.testBit i = true then _ else _) = _; rw [if_pos g42]; omega), (show nI (mxb (tld S) b (i + 1)) = nI (mxb (tld S) b i) by congr 1; show (if b.testBit i = true then _ else _) = _; rw [if_pos g42]; omega), (show nI (mnb (sWt S) b 100000000 (i + 1)) = nI (sWt S i) by congr 1; show (if b.testBit i = true then _ else _) = _; rw [if_pos g42]; omega), (show nI (mxb (sWt S) b (i + 1)) = nI (sWt S i) by congr 1; show (if b.testBit i = true then _ else _) = _; rw [if_pos g42]; omega)] at h9
              exact h9
        ·
          have g72 : (mxb (tld S) b i) < (tld S i) := n_nle h72 (by omega) (by omega)
          refine Wp_iload d_M_fareOf_75 rfl ?_
          refine Wp_goto d_M_fareOf_77 ?_
          refine Wp_istore_n (ls2 := [lr 33, li (nI b), li (nI (mnb (tld S) b 100000000 i)), li (nI (tld S i)), li (nI (mnb (sWt S) b 100000000 i)), li (nI (mxb (sWt S) b i)), li (nI i), li (nI (tld S i))]) d_M_fareOf_81 rfl rfl rfl ?_
          refine Wp_aload_n d_M_fareOf_82 rfl ?_
          refine Wp_getr d_M_fareOf_83 fd_M_28 rfl rfl rfl ?_
          refine Wp_iload d_M_fareOf_86 rfl ?_
          refine Wp_ialdN (j := i) d_M_fareOf_88 rfl rfl rfl rfl (by omega) ?_
          refine Wp_eqi (x2 := S 40 i) (congrFun (hM.1.r 40) _) ?_
          refine Wp_eqi (x2 := nI (sWt S i)) (VM_wt hV _ (by omega)).1 ?_
          refine Wp_iload d_M_fareOf_89 rfl ?_
          refine Wp_icmp_ge d_M_fareOf_91 (fun h91 => ?_) (fun h91 => ?_)
          ·
            have g91 : (mnb (sWt S) b 100000000 i) ≤ (sWt S i) := n_le h91 (by omega) (by omega)
            refine Wp_iload d_M_fareOf_104 rfl ?_
            refine Wp_istore (ls2 := [lr 33, li (nI b), li (nI (mnb (tld S) b 100000000 i)), li (nI (tld S i)), li (nI (mnb (sWt S) b 100000000 i)), li (nI (mxb (sWt S) b i)), li (nI i), li (nI (tld S i))]) d_M_fareOf_106 rfl rfl rfl ?_
            refine Wp_aload_n d_M_fareOf_108 rfl ?_
            refine Wp_getr d_M_fareOf_109 fd_M_28 rfl rfl rfl ?_
            refine Wp_iload d_M_fareOf_112 rfl ?_
            refine Wp_ialdN (j := i) d_M_fareOf_114 rfl rfl rfl rfl (by omega) ?_
            refine Wp_eqi (x2 := S 40 i) (congrFun (hM.1.r 40) _) ?_
            refine Wp_eqi (x2 := nI (sWt S i)) (VM_wt hV _ (by omega)).1 ?_
            refine Wp_iload d_M_fareOf_115 rfl ?_
            refine Wp_icmp_le d_M_fareOf_117 (fun h117 => ?_) (fun h117 => ?_)
            ·
              have g117 : (sWt S i) ≤ (mxb (sWt S) b i) := n_le h117 (by omega) (by omega)
              refine Wp_iload d_M_fareOf_130 rfl ?_
              refine Wp_istore (ls2 := [lr 33, li (nI b), li (nI (mnb (tld S) b 100000000 i)), li (nI (tld S i)), li (nI (mnb (sWt S) b 100000000 i)), li (nI (mxb (sWt S) b i)), li (nI i), li (nI (tld S i))]) d_M_fareOf_132 rfl rfl rfl ?_
              refine Wp_iinc (z := nI (i + 1)) (ls2 := [lr 33, li (nI b), li (nI (mnb (tld S) b 100000000 i)), li (nI (tld S i)), li (nI (mnb (sWt S) b 100000000 i)), li (nI (mxb (sWt S) b i)), li (nI (i + 1)), li (nI (tld S i))]) d_M_fareOf_134 rfl (nI_add i 1) rfl rfl rfl ?_
              refine Wp_goto d_M_fareOf_137 ?_
              have h9 := ih (i + 1) (li (nI (tld S i))) (by omega)
              rw [(show nI (mnb (tld S) b 100000000 (i + 1)) = nI (mnb (tld S) b 100000000 i) by congr 1; show (if b.testBit i = true then _ else _) = _; rw [if_pos g42]; omega), (show nI (mxb (tld S) b (i + 1)) = nI (tld S i) by congr 1; show (if b.testBit i = true then _ else _) = _; rw [if_pos g42]; omega), (show nI (mnb (sWt S) b 100000000 (i + 1)) = nI (mnb (sWt S) b 100000000 i) by congr 1; show (if b.testBit i = true then _ else _) = _; rw [if_pos g42]; omega), (show nI (mxb (sWt S) b (i + 1)) = nI (mxb (sWt S) b i) by congr 1; show (if b.testBit i = true then _ else _) = _; rw [if_pos g42]; omega)] at h9
              exact h9
            ·
              have g117 : (mxb (sWt S) b i) < (sWt S i) := n_nle h117 (by omega) (by omega)
              refine Wp_aload_n d_M_fareOf_120 rfl ?_
              refine Wp_getr d_M_fareOf_121 fd_M_28 rfl rfl rfl ?_
              refine Wp_iload d_M_fareOf_124 rfl ?_
              refine Wp_ialdN (j := i) d_M_fareOf_126 rfl rfl rfl rfl (by omega) ?_
              refine Wp_eqi (x2 := S 40 i) (congrFun (hM.1.r 40) _) ?_
              refine Wp_eqi (x2 := nI (sWt S i)) (VM_wt hV _ (by omega)).1 ?_
              refine Wp_goto d_M_fareOf_127 ?_
              refine Wp_istore (ls2 := [lr 33, li (nI b), li (nI (mnb (tld S) b 100000000 i)), li (nI (tld S i)), li (nI (mnb (sWt S) b 100000000 i)), li (nI (sWt S i)), li (nI i), li (nI (tld S i))]) d_M_fareOf_132 rfl rfl rfl ?_
              refine Wp_iinc (z := nI (i + 1)) (ls2 := [lr 33, li (nI b), li (nI (mnb (tld S) b 100000000 i)), li (nI (tld S i)), li (nI (mnb (sWt S) b 100000000 i)), li (nI (sWt S i)), li (nI (i + 1)), li (nI (tld S i))]) d_M_fareOf_134 rfl (nI_add i 1) rfl rfl rfl ?_
              refine Wp_goto d_M_fareOf_137 ?_
              have h9 := ih (i + 1) (li (nI (tld S i))) (by omega)
              rw [(show nI (mnb (tld S) b 100000000 (i + 1)) = nI (mnb (tld S) b 100000000 i) by congr 1; show (if b.testBit i = true then _ else _) = _; rw [if_pos g42]; omega), (show nI (mxb (tld S) b (i + 1)) = nI (tld S i) by congr 1; show (if b.testBit i = true then _ else _) = _; rw [if_pos g42]; omega), (show nI (mnb (sWt S) b 100000000 (i + 1)) = nI (mnb (sWt S) b 100000000 i) by congr 1; show (if b.testBit i = true then _ else _) = _; rw [if_pos g42]; omega), (show nI (mxb (sWt S) b (i + 1)) = nI (sWt S i) by congr 1; show (if b.testBit i = true then _ else _) = _; rw [if_pos g42]; omega)] at h9
              exact h9
          ·
            have g91 : (sWt S i) < (mnb (sWt S) b 100000000 i) := n_nle h91 (by omega) (by omega)
            refine Wp_aload_n d_M_fareOf_94 rfl ?_
            refine Wp_getr d_M_fareOf_95 fd_M_28 rfl rfl rfl ?_
            refine Wp_iload d_M_fareOf_98 rfl ?_
            refine Wp_ialdN (j := i) d_M_fareOf_100 rfl rfl rfl rfl (by omega) ?_
            refine Wp_eqi (x2 := S 40 i) (congrFun (hM.1.r 40) _) ?_
            refine Wp_eqi (x2 := nI (sWt S i)) (VM_wt hV _ (by omega)).1 ?_
            refine Wp_goto d_M_fareOf_101 ?_
            refine Wp_istore (ls2 := [lr 33, li (nI b), li (nI (mnb (tld S) b 100000000 i)), li (nI (tld S i)), li (nI (sWt S i)), li (nI (mxb (sWt S) b i)), li (nI i), li (nI (tld S i))]) d_M_fareOf_106 rfl rfl rfl ?_
            refine Wp_aload_n d_M_fareOf_108 rfl ?_
            refine Wp_getr d_M_fareOf_109 fd_M_28 rfl rfl rfl ?_
            refine Wp_iload d_M_fareOf_112 rfl ?_
            refine Wp_ialdN (j := i) d_M_fareOf_114 rfl rfl rfl rfl (by omega) ?_
            refine Wp_eqi (x2 := S 40 i) (congrFun (hM.1.r 40) _) ?_
            refine Wp_eqi (x2 := nI (sWt S i)) (VM_wt hV _ (by omega)).1 ?_
            refine Wp_iload d_M_fareOf_115 rfl ?_
            refine Wp_icmp_le d_M_fareOf_117 (fun h117 => ?_) (fun h117 => ?_)
            ·
              have g117 : (sWt S i) ≤ (mxb (sWt S) b i) := n_le h117 (by omega) (by omega)
              refine Wp_iload d_M_fareOf_130 rfl ?_
              refine Wp_istore (ls2 := [lr 33, li (nI b), li (nI (mnb (tld S) b 100000000 i)), li (nI (tld S i)), li (nI (sWt S i)), li (nI (mxb (sWt S) b i)), li (nI i), li (nI (tld S i))]) d_M_fareOf_132 rfl rfl rfl ?_
              refine Wp_iinc (z := nI (i + 1)) (ls2 := [lr 33, li (nI b), li (nI (mnb (tld S) b 100000000 i)), li (nI (tld S i)), li (nI (sWt S i)), li (nI (mxb (sWt S) b i)), li (nI (i + 1)), li (nI (tld S i))]) d_M_fareOf_134 rfl (nI_add i 1) rfl rfl rfl ?_
              refine Wp_goto d_M_fareOf_137 ?_
              have h9 := ih (i + 1) (li (nI (tld S i))) (by omega)
              rw [(show nI (mnb (tld S) b 100000000 (i + 1)) = nI (mnb (tld S) b 100000000 i) by congr 1; show (if b.testBit i = true then _ else _) = _; rw [if_pos g42]; omega), (show nI (mxb (tld S) b (i + 1)) = nI (tld S i) by congr 1; show (if b.testBit i = true then _ else _) = _; rw [if_pos g42]; omega), (show nI (mnb (sWt S) b 100000000 (i + 1)) = nI (sWt S i) by congr 1; show (if b.testBit i = true then _ else _) = _; rw [if_pos g42]; omega), (show nI (mxb (sWt S) b (i + 1)) = nI (mxb (sWt S) b i) by congr 1; show (if b.testBit i = true then _ else _) = _; rw [if_pos g42]; omega)] at h9
              exact h9
            ·
              have g117 : (mxb (sWt S) b i) < (sWt S i) := n_nle h117 (by omega) (by omega)
              refine Wp_aload_n d_M_fareOf_120 rfl ?_
              refine Wp_getr d_M_fareOf_121 fd_M_28 rfl rfl rfl ?_
              refine Wp_iload d_M_fareOf_124 rfl ?_
              refine Wp_ialdN (j := i) d_M_fareOf_126 rfl rfl rfl rfl (by omega) ?_
              refine Wp_eqi (x2 := S 40 i) (congrFun (hM.1.r 40) _) ?_
              refine Wp_eqi (x2 := nI (sWt S i)) (VM_wt hV _ (by omega)).1 ?_
              refine Wp_goto d_M_fareOf_127 ?_
              refine Wp_istore (ls2 := [lr 33, li (nI b), li (nI (mnb (tld S) b 100000000 i)), li (nI (tld S i)), li (nI (sWt S i)), li (nI (sWt S i)), li (nI i), li (nI (tld S i))]) d_M_fareOf_132 rfl rfl rfl ?_
              refine Wp_iinc (z := nI (i + 1)) (ls2 := [lr 33, li (nI b), li (nI (mnb (tld S) b 100000000 i)), li (nI (tld S i)), li (nI (sWt S i)), li (nI (sWt S i)), li (nI (i + 1)), li (nI (tld S i))]) d_M_fareOf_134 rfl (nI_add i 1) rfl rfl rfl ?_
              refine Wp_goto d_M_fareOf_137 ?_
              have h9 := ih (i + 1) (li (nI (tld S i))) (by omega)
              rw [(show nI (mnb (tld S) b 100000000 (i + 1)) = nI (mnb (tld S) b 100000000 i) by congr 1; show (if b.testBit i = true then _ else _) = _; rw [if_pos g42]; omega), (show nI (mxb (tld S) b (i + 1)) = nI (tld S i) by congr 1; show (if b.testBit i = true then _ else _) = _; rw [if_pos g42]; omega), (show nI (mnb (sWt S) b 100000000 (i + 1)) = nI (sWt S i) by congr 1; show (if b.testBit i = true then _ else _) = _; rw [if_pos g42]; omega), (show nI (mxb (sWt S) b (i + 1)) = nI (sWt S i) by congr 1; show (if b.testBit i = true then _ else _) = _; rw [if_pos g42]; omega)] at h9
              exact h9
      ·
        have g59 : (tld S i) < (mnb (tld S) b 100000000 i) := n_nle h59 (by omega) (by omega)
        refine Wp_iload d_M_fareOf_62 rfl ?_
        refine Wp_goto d_M_fareOf_64 ?_
        refine Wp_istore_n (ls2 := [lr 33, li (nI b), li (nI (tld S i)), li (nI (mxb (tld S) b i)), li (nI (mnb (sWt S) b 100000000 i)), li (nI (mxb (sWt S) b i)), li (nI i), li (nI (tld S i))]) d_M_fareOf_68 rfl rfl rfl ?_
        refine Wp_iload d_M_fareOf_69 rfl ?_
        refine Wp_iload_n d_M_fareOf_71 rfl ?_
        refine Wp_icmp_le d_M_fareOf_72 (fun h72 => ?_) (fun h72 => ?_)
        ·
          have g72 : (tld S i) ≤ (mxb (tld S) b i) := n_le h72 (by omega) (by omega)
          refine Wp_iload_n d_M_fareOf_80 rfl ?_
          refine Wp_istore_n (ls2 := [lr 33, li (nI b), li (nI (tld S i)), li (nI (mxb (tld S) b i)), li (nI (mnb (sWt S) b 100000000 i)), li (nI (mxb (sWt S) b i)), li (nI i), li (nI (tld S i))]) d_M_fareOf_81 rfl rfl rfl ?_
          refine Wp_aload_n d_M_fareOf_82 rfl ?_
          refine Wp_getr d_M_fareOf_83 fd_M_28 rfl rfl rfl ?_
          refine Wp_iload d_M_fareOf_86 rfl ?_
          refine Wp_ialdN (j := i) d_M_fareOf_88 rfl rfl rfl rfl (by omega) ?_
          refine Wp_eqi (x2 := S 40 i) (congrFun (hM.1.r 40) _) ?_
          refine Wp_eqi (x2 := nI (sWt S i)) (VM_wt hV _ (by omega)).1 ?_
          refine Wp_iload d_M_fareOf_89 rfl ?_
          refine Wp_icmp_ge d_M_fareOf_91 (fun h91 => ?_) (fun h91 => ?_)
          ·
            have g91 : (mnb (sWt S) b 100000000 i) ≤ (sWt S i) := n_le h91 (by omega) (by omega)
            refine Wp_iload d_M_fareOf_104 rfl ?_
            refine Wp_istore (ls2 := [lr 33, li (nI b), li (nI (tld S i)), li (nI (mxb (tld S) b i)), li (nI (mnb (sWt S) b 100000000 i)), li (nI (mxb (sWt S) b i)), li (nI i), li (nI (tld S i))]) d_M_fareOf_106 rfl rfl rfl ?_
            refine Wp_aload_n d_M_fareOf_108 rfl ?_
            refine Wp_getr d_M_fareOf_109 fd_M_28 rfl rfl rfl ?_
            refine Wp_iload d_M_fareOf_112 rfl ?_
            refine Wp_ialdN (j := i) d_M_fareOf_114 rfl rfl rfl rfl (by omega) ?_
            refine Wp_eqi (x2 := S 40 i) (congrFun (hM.1.r 40) _) ?_
            refine Wp_eqi (x2 := nI (sWt S i)) (VM_wt hV _ (by omega)).1 ?_
            refine Wp_iload d_M_fareOf_115 rfl ?_
            refine Wp_icmp_le d_M_fareOf_117 (fun h117 => ?_) (fun h117 => ?_)
            ·
              have g117 : (sWt S i) ≤ (mxb (sWt S) b i) := n_le h117 (by omega) (by omega)
              refine Wp_iload d_M_fareOf_130 rfl ?_
              refine Wp_istore (ls2 := [lr 33, li (nI b), li (nI (tld S i)), li (nI (mxb (tld S) b i)), li (nI (mnb (sWt S) b 100000000 i)), li (nI (mxb (sWt S) b i)), li (nI i), li (nI (tld S i))]) d_M_fareOf_132 rfl rfl rfl ?_
              refine Wp_iinc (z := nI (i + 1)) (ls2 := [lr 33, li (nI b), li (nI (tld S i)), li (nI (mxb (tld S) b i)), li (nI (mnb (sWt S) b 100000000 i)), li (nI (mxb (sWt S) b i)), li (nI (i + 1)), li (nI (tld S i))]) d_M_fareOf_134 rfl (nI_add i 1) rfl rfl rfl ?_
              refine Wp_goto d_M_fareOf_137 ?_
              have h9 := ih (i + 1) (li (nI (tld S i))) (by omega)
              rw [(show nI (mnb (tld S) b 100000000 (i + 1)) = nI (tld S i) by congr 1; show (if b.testBit i = true then _ else _) = _; rw [if_pos g42]; omega), (show nI (mxb (tld S) b (i + 1)) = nI (mxb (tld S) b i) by congr 1; show (if b.testBit i = true then _ else _) = _; rw [if_pos g42]; omega), (show nI (mnb (sWt S) b 100000000 (i + 1)) = nI (mnb (sWt S) b 100000000 i) by congr 1; show (if b.testBit i = true then _ else _) = _; rw [if_pos g42]; omega), (show nI (mxb (sWt S) b (i + 1)) = nI (mxb (sWt S) b i) by congr 1; show (if b.testBit i = true then _ else _) = _; rw [if_pos g42]; omega)] at h9
              exact h9
            ·
              have g117 : (mxb (sWt S) b i) < (sWt S i) := n_nle h117 (by omega) (by omega)
              refine Wp_aload_n d_M_fareOf_120 rfl ?_
              refine Wp_getr d_M_fareOf_121 fd_M_28 rfl rfl rfl ?_
              refine Wp_iload d_M_fareOf_124 rfl ?_
              refine Wp_ialdN (j := i) d_M_fareOf_126 rfl rfl rfl rfl (by omega) ?_
              refine Wp_eqi (x2 := S 40 i) (congrFun (hM.1.r 40) _) ?_
              refine Wp_eqi (x2 := nI (sWt S i)) (VM_wt hV _ (by omega)).1 ?_
              refine Wp_goto d_M_fareOf_127 ?_
              refine Wp_istore (ls2 := [lr 33, li (nI b), li (nI (tld S i)), li (nI (mxb (tld S) b i)), li (nI (mnb (sWt S) b 100000000 i)), li (nI (sWt S i)), li (nI i), li (nI (tld S i))]) d_M_fareOf_132 rfl rfl rfl ?_
              refine Wp_iinc (z := nI (i + 1)) (ls2 := [lr 33, li (nI b), li (nI (tld S i)), li (nI (mxb (tld S) b i)), li (nI (mnb (sWt S) b 100000000 i)), li (nI (sWt S i)), li (nI (i + 1)), li (nI (tld S i))]) d_M_fareOf_134 rfl (nI_add i 1) rfl rfl rfl ?_
              refine Wp_goto d_M_fareOf_137 ?_
              have h9 := ih (i + 1) (li (nI (tld S i))) (by omega)
              rw [(show nI (mnb (tld S) b 100000000 (i + 1)) = nI (tld S i) by congr 1; show (if b.testBit i = true then _ else _) = _; rw [if_pos g42]; omega), (show nI (mxb (tld S) b (i + 1)) = nI (mxb (tld S) b i) by congr 1; show (if b.testBit i = true then _ else _) = _; rw [if_pos g42]; omega), (show nI (mnb (sWt S) b 100000000 (i + 1)) = nI (mnb (sWt S) b 100000000 i) by congr 1; show (if b.testBit i = true then _ else _) = _; rw [if_pos g42]; omega), (show nI (mxb (sWt S) b (i + 1)) = nI (sWt S i) by congr 1; show (if b.testBit i = true then _ else _) = _; rw [if_pos g42]; omega)] at h9
              exact h9
          ·
            have g91 : (sWt S i) < (mnb (sWt S) b 100000000 i) := n_nle h91 (by omega) (by omega)
            refine Wp_aload_n d_M_fareOf_94 rfl ?_
            refine Wp_getr d_M_fareOf_95 fd_M_28 rfl rfl rfl ?_
            refine Wp_iload d_M_fareOf_98 rfl ?_
            refine Wp_ialdN (j := i) d_M_fareOf_100 rfl rfl rfl rfl (by omega) ?_
            refine Wp_eqi (x2 := S 40 i) (congrFun (hM.1.r 40) _) ?_
            refine Wp_eqi (x2 := nI (sWt S i)) (VM_wt hV _ (by omega)).1 ?_
            refine Wp_goto d_M_fareOf_101 ?_
            refine Wp_istore (ls2 := [lr 33, li (nI b), li (nI (tld S i)), li (nI (mxb (tld S) b i)), li (nI (sWt S i)), li (nI (mxb (sWt S) b i)), li (nI i), li (nI (tld S i))]) d_M_fareOf_106 rfl rfl rfl ?_
            refine Wp_aload_n d_M_fareOf_108 rfl ?_
            refine Wp_getr d_M_fareOf_109 fd_M_28 rfl rfl rfl ?_
            refine Wp_iload d_M_fareOf_112 rfl ?_
            refine Wp_ialdN (j := i) d_M_fareOf_114 rfl rfl rfl rfl (by omega) ?_
            refine Wp_eqi (x2 := S 40 i) (congrFun (hM.1.r 40) _) ?_
            refine Wp_eqi (x2 := nI (sWt S i)) (VM_wt hV _ (by omega)).1 ?_
            refine Wp_iload d_M_fareOf_115 rfl ?_
            refine Wp_icmp_le d_M_fareOf_117 (fun h117 => ?_) (fun h117 => ?_)
            ·
              have g117 : (sWt S i) ≤ (mxb (sWt S) b i) := n_le h117 (by omega) (by omega)
              refine Wp_iload d_M_fareOf_130 rfl ?_
              refine Wp_istore (ls2 := [lr 33, li (nI b), li (nI (tld S i)), li (nI (mxb (tld S) b i)), li (nI (sWt S i)), li (nI (mxb (sWt S) b i)), li (nI i), li (nI (tld S i))]) d_M_fareOf_132 rfl rfl rfl ?_
              refine Wp_iinc (z := nI (i + 1)) (ls2 := [lr 33, li (nI b), li (nI (tld S i)), li (nI (mxb (tld S) b i)), li (nI (sWt S i)), li (nI (mxb (sWt S) b i)), li (nI (i + 1)), li (nI (tld S i))]) d_M_fareOf_134 rfl (nI_add i 1) rfl rfl rfl ?_
              refine Wp_goto d_M_fareOf_137 ?_
              have h9 := ih (i + 1) (li (nI (tld S i))) (by omega)
              rw [(show nI (mnb (tld S) b 100000000 (i + 1)) = nI (tld S i) by congr 1; show (if b.testBit i = true then _ else _) = _; rw [if_pos g42]; omega), (show nI (mxb (tld S) b (i + 1)) = nI (mxb (tld S) b i) by congr 1; show (if b.testBit i = true then _ else _) = _; rw [if_pos g42]; omega), (show nI (mnb (sWt S) b 100000000 (i + 1)) = nI (sWt S i) by congr 1; show (if b.testBit i = true then _ else _) = _; rw [if_pos g42]; omega), (show nI (mxb (sWt S) b (i + 1)) = nI (mxb (sWt S) b i) by congr 1; show (if b.testBit i = true then _ else _) = _; rw [if_pos g42]; omega)] at h9
              exact h9
            ·
              have g117 : (mxb (sWt S) b i) < (sWt S i) := n_nle h117 (by omega) (by omega)
              refine Wp_aload_n d_M_fareOf_120 rfl ?_
              refine Wp_getr d_M_fareOf_121 fd_M_28 rfl rfl rfl ?_
              refine Wp_iload d_M_fareOf_124 rfl ?_
              refine Wp_ialdN (j := i) d_M_fareOf_126 rfl rfl rfl rfl (by omega) ?_
              refine Wp_eqi (x2 := S 40 i) (congrFun (hM.1.r 40) _) ?_
              refine Wp_eqi (x2 := nI (sWt S i)) (VM_wt hV _ (by omega)).1 ?_
              refine Wp_goto d_M_fareOf_127 ?_
              refine Wp_istore (ls2 := [lr 33, li (nI b), li (nI (tld S i)), li (nI (mxb (tld S) b i)), li (nI (sWt S i)), li (nI (sWt S i)), li (nI i), li (nI (tld S i))]) d_M_fareOf_132 rfl rfl rfl ?_
              refine Wp_iinc (z := nI (i + 1)) (ls2 := [lr 33, li (nI b), li (nI (tld S i)), li (nI (mxb (tld S) b i)), li (nI (sWt S i)), li (nI (sWt S i)), li (nI (i + 1)), li (nI (tld S i))]) d_M_fareOf_134 rfl (nI_add i 1) rfl rfl rfl ?_
              refine Wp_goto d_M_fareOf_137 ?_
              have h9 := ih (i + 1) (li (nI (tld S i))) (by omega)
              rw [(show nI (mnb (tld S) b 100000000 (i + 1)) = nI (tld S i) by congr 1; show (if b.testBit i = true then _ else _) = _; rw [if_pos g42]; omega), (show nI (mxb (tld S) b (i + 1)) = nI (mxb (tld S) b i) by congr 1; show (if b.testBit i = true then _ else _) = _; rw [if_pos g42]; omega), (show nI (mnb (sWt S) b 100000000 (i + 1)) = nI (sWt S i) by congr 1; show (if b.testBit i = true then _ else _) = _; rw [if_pos g42]; omega), (show nI (mxb (sWt S) b (i + 1)) = nI (sWt S i) by congr 1; show (if b.testBit i = true then _ else _) = _; rw [if_pos g42]; omega)] at h9
              exact h9
        ·
          have g72 : (mxb (tld S) b i) < (tld S i) := n_nle h72 (by omega) (by omega)
          refine Wp_iload d_M_fareOf_75 rfl ?_
          refine Wp_goto d_M_fareOf_77 ?_
          refine Wp_istore_n (ls2 := [lr 33, li (nI b), li (nI (tld S i)), li (nI (tld S i)), li (nI (mnb (sWt S) b 100000000 i)), li (nI (mxb (sWt S) b i)), li (nI i), li (nI (tld S i))]) d_M_fareOf_81 rfl rfl rfl ?_
          refine Wp_aload_n d_M_fareOf_82 rfl ?_
          refine Wp_getr d_M_fareOf_83 fd_M_28 rfl rfl rfl ?_
          refine Wp_iload d_M_fareOf_86 rfl ?_
          refine Wp_ialdN (j := i) d_M_fareOf_88 rfl rfl rfl rfl (by omega) ?_
          refine Wp_eqi (x2 := S 40 i) (congrFun (hM.1.r 40) _) ?_
          refine Wp_eqi (x2 := nI (sWt S i)) (VM_wt hV _ (by omega)).1 ?_
          refine Wp_iload d_M_fareOf_89 rfl ?_
          refine Wp_icmp_ge d_M_fareOf_91 (fun h91 => ?_) (fun h91 => ?_)
          ·
            have g91 : (mnb (sWt S) b 100000000 i) ≤ (sWt S i) := n_le h91 (by omega) (by omega)
            refine Wp_iload d_M_fareOf_104 rfl ?_
            refine Wp_istore (ls2 := [lr 33, li (nI b), li (nI (tld S i)), li (nI (tld S i)), li (nI (mnb (sWt S) b 100000000 i)), li (nI (mxb (sWt S) b i)), li (nI i), li (nI (tld S i))]) d_M_fareOf_106 rfl rfl rfl ?_
            refine Wp_aload_n d_M_fareOf_108 rfl ?_
            refine Wp_getr d_M_fareOf_109 fd_M_28 rfl rfl rfl ?_
            refine Wp_iload d_M_fareOf_112 rfl ?_
            refine Wp_ialdN (j := i) d_M_fareOf_114 rfl rfl rfl rfl (by omega) ?_
            refine Wp_eqi (x2 := S 40 i) (congrFun (hM.1.r 40) _) ?_
            refine Wp_eqi (x2 := nI (sWt S i)) (VM_wt hV _ (by omega)).1 ?_
            refine Wp_iload d_M_fareOf_115 rfl ?_
            refine Wp_icmp_le d_M_fareOf_117 (fun h117 => ?_) (fun h117 => ?_)
            ·
              have g117 : (sWt S i) ≤ (mxb (sWt S) b i) := n_le h117 (by omega) (by omega)
              refine Wp_iload d_M_fareOf_130 rfl ?_
              refine Wp_istore (ls2 := [lr 33, li (nI b), li (nI (tld S i)), li (nI (tld S i)), li (nI (mnb (sWt S) b 100000000 i)), li (nI (mxb (sWt S) b i)), li (nI i), li (nI (tld S i))]) d_M_fareOf_132 rfl rfl rfl ?_
              refine Wp_iinc (z := nI (i + 1)) (ls2 := [lr 33, li (nI b), li (nI (tld S i)), li (nI (tld S i)), li (nI (mnb (sWt S) b 100000000 i)), li (nI (mxb (sWt S) b i)), li (nI (i + 1)), li (nI (tld S i))]) d_M_fareOf_134 rfl (nI_add i 1) rfl rfl rfl ?_
              refine Wp_goto d_M_fareOf_137 ?_
              have h9 := ih (i + 1) (li (nI (tld S i))) (by omega)
              rw [(show nI (mnb (tld S) b 100000000 (i + 1)) = nI (tld S i) by congr 1; show (if b.testBit i = true then _ else _) = _; rw [if_pos g42]; omega), (show nI (mxb (tld S) b (i + 1)) = nI (tld S i) by congr 1; show (if b.testBit i = true then _ else _) = _; rw [if_pos g42]; omega), (show nI (mnb (sWt S) b 100000000 (i + 1)) = nI (mnb (sWt S) b 100000000 i) by congr 1; show (if b.testBit i = true then _ else _) = _; rw [if_pos g42]; omega), (show nI (mxb (sWt S) b (i + 1)) = nI (mxb (sWt S) b i) by congr 1; show (if b.testBit i = true then _ else _) = _; rw [if_pos g42]; omega)] at h9
              exact h9
            ·
              have g117 : (mxb (sWt S) b i) < (sWt S i) := n_nle h117 (by omega) (by omega)
              refine Wp_aload_n d_M_fareOf_120 rfl ?_
              refine Wp_getr d_M_fareOf_121 fd_M_28 rfl rfl rfl ?_
              refine Wp_iload d_M_fareOf_124 rfl ?_
              refine Wp_ialdN (j := i) d_M_fareOf_126 rfl rfl rfl rfl (by omega) ?_
              refine Wp_eqi (x2 := S 40 i) (congrFun (hM.1.r 40) _) ?_
              refine Wp_eqi (x2 := nI (sWt S i)) (VM_wt hV _ (by omega)).1 ?_
              refine Wp_goto d_M_fareOf_127 ?_
              refine Wp_istore (ls2 := [lr 33, li (nI b), li (nI (tld S i)), li (nI (tld S i)), li (nI (mnb (sWt S) b 100000000 i)), li (nI (sWt S i)), li (nI i), li (nI (tld S i))]) d_M_fareOf_132 rfl rfl rfl ?_
              refine Wp_iinc (z := nI (i + 1)) (ls2 := [lr 33, li (nI b), li (nI (tld S i)), li (nI (tld S i)), li (nI (mnb (sWt S) b 100000000 i)), li (nI (sWt S i)), li (nI (i + 1)), li (nI (tld S i))]) d_M_fareOf_134 rfl (nI_add i 1) rfl rfl rfl ?_
              refine Wp_goto d_M_fareOf_137 ?_
              have h9 := ih (i + 1) (li (nI (tld S i))) (by omega)
              rw [(show nI (mnb (tld S) b 100000000 (i + 1)) = nI (tld S i) by congr 1; show (if b.testBit i = true then _ else _) = _; rw [if_pos g42]; omega), (show nI (mxb (tld S) b (i + 1)) = nI (tld S i) by congr 1; show (if b.testBit i = true then _ else _) = _; rw [if_pos g42]; omega), (show nI (mnb (sWt S) b 100000000 (i + 1)) = nI (mnb (sWt S) b 100000000 i) by congr 1; show (if b.testBit i = true then _ else _) = _; rw [if_pos g42]; omega), (show nI (mxb (sWt S) b (i + 1)) = nI (sWt S i) by congr 1; show (if b.testBit i = true then _ else _) = _; rw [if_pos g42]; omega)] at h9
              exact h9
          ·
            have g91 : (sWt S i) < (mnb (sWt S) b 100000000 i) := n_nle h91 (by omega) (by omega)
            refine Wp_aload_n d_M_fareOf_94 rfl ?_
            refine Wp_getr d_M_fareOf_95 fd_M_28 rfl rfl rfl ?_
            refine Wp_iload d_M_fareOf_98 rfl ?_
            refine Wp_ialdN (j := i) d_M_fareOf_100 rfl rfl rfl rfl (by omega) ?_
            refine Wp_eqi (x2 := S 40 i) (congrFun (hM.1.r 40) _) ?_
            refine Wp_eqi (x2 := nI (sWt S i)) (VM_wt hV _ (by omega)).1 ?_
            refine Wp_goto d_M_fareOf_101 ?_
            refine Wp_istore (ls2 := [lr 33, li (nI b), li (nI (tld S i)), li (nI (tld S i)), li (nI (sWt S i)), li (nI (mxb (sWt S) b i)), li (nI i), li (nI (tld S i))]) d_M_fareOf_106 rfl rfl rfl ?_
            refine Wp_aload_n d_M_fareOf_108 rfl ?_
            refine Wp_getr d_M_fareOf_109 fd_M_28 rfl rfl rfl ?_
            refine Wp_iload d_M_fareOf_112 rfl ?_
            refine Wp_ialdN (j := i) d_M_fareOf_114 rfl rfl rfl rfl (by omega) ?_
            refine Wp_eqi (x2 := S 40 i) (congrFun (hM.1.r 40) _) ?_
            refine Wp_eqi (x2 := nI (sWt S i)) (VM_wt hV _ (by omega)).1 ?_
            refine Wp_iload d_M_fareOf_115 rfl ?_
            refine Wp_icmp_le d_M_fareOf_117 (fun h117 => ?_) (fun h117 => ?_)
            ·
              have g117 : (sWt S i) ≤ (mxb (sWt S) b i) := n_le h117 (by omega) (by omega)
              refine Wp_iload d_M_fareOf_130 rfl ?_
              refine Wp_istore (ls2 := [lr 33, li (nI b), li (nI (tld S i)), li (nI (tld S i)), li (nI (sWt S i)), li (nI (mxb (sWt S) b i)), li (nI i), li (nI (tld S i))]) d_M_fareOf_132 rfl rfl rfl ?_
              refine Wp_iinc (z := nI (i + 1)) (ls2 := [lr 33, li (nI b), li (nI (tld S i)), li (nI (tld S i)), li (nI (sWt S i)), li (nI (mxb (sWt S) b i)), li (nI (i + 1)), li (nI (tld S i))]) d_M_fareOf_134 rfl (nI_add i 1) rfl rfl rfl ?_
              refine Wp_goto d_M_fareOf_137 ?_
              have h9 := ih (i + 1) (li (nI (tld S i))) (by omega)
              rw [(show nI (mnb (tld S) b 100000000 (i + 1)) = nI (tld S i) by congr 1; show (if b.testBit i = true then _ else _) = _; rw [if_pos g42]; omega), (show nI (mxb (tld S) b (i + 1)) = nI (tld S i) by congr 1; show (if b.testBit i = true then _ else _) = _; rw [if_pos g42]; omega), (show nI (mnb (sWt S) b 100000000 (i + 1)) = nI (sWt S i) by congr 1; show (if b.testBit i = true then _ else _) = _; rw [if_pos g42]; omega), (show nI (mxb (sWt S) b (i + 1)) = nI (mxb (sWt S) b i) by congr 1; show (if b.testBit i = true then _ else _) = _; rw [if_pos g42]; omega)] at h9
              exact h9
            ·
              have g117 : (mxb (sWt S) b i) < (sWt S i) := n_nle h117 (by omega) (by omega)
              refine Wp_aload_n d_M_fareOf_120 rfl ?_
              refine Wp_getr d_M_fareOf_121 fd_M_28 rfl rfl rfl ?_
              refine Wp_iload d_M_fareOf_124 rfl ?_
              refine Wp_ialdN (j := i) d_M_fareOf_126 rfl rfl rfl rfl (by omega) ?_
              refine Wp_eqi (x2 := S 40 i) (congrFun (hM.1.r 40) _) ?_
              refine Wp_eqi (x2 := nI (sWt S i)) (VM_wt hV _ (by omega)).1 ?_
              refine Wp_goto d_M_fareOf_127 ?_
              refine Wp_istore (ls2 := [lr 33, li (nI b), li (nI (tld S i)), li (nI (tld S i)), li (nI (sWt S i)), li (nI (sWt S i)), li (nI i), li (nI (tld S i))]) d_M_fareOf_132 rfl rfl rfl ?_
              refine Wp_iinc (z := nI (i + 1)) (ls2 := [lr 33, li (nI b), li (nI (tld S i)), li (nI (tld S i)), li (nI (sWt S i)), li (nI (sWt S i)), li (nI (i + 1)), li (nI (tld S i))]) d_M_fareOf_134 rfl (nI_add i 1) rfl rfl rfl ?_
              refine Wp_goto d_M_fareOf_137 ?_
              have h9 := ih (i + 1) (li (nI (tld S i))) (by omega)
              rw [(show nI (mnb (tld S) b 100000000 (i + 1)) = nI (tld S i) by congr 1; show (if b.testBit i = true then _ else _) = _; rw [if_pos g42]; omega), (show nI (mxb (tld S) b (i + 1)) = nI (tld S i) by congr 1; show (if b.testBit i = true then _ else _) = _; rw [if_pos g42]; omega), (show nI (mnb (sWt S) b 100000000 (i + 1)) = nI (sWt S i) by congr 1; show (if b.testBit i = true then _ else _) = _; rw [if_pos g42]; omega), (show nI (mxb (sWt S) b (i + 1)) = nI (sWt S i) by congr 1; show (if b.testBit i = true then _ else _) = _; rw [if_pos g42]; omega)] at h9
              exact h9
    ·
      refine Wp_if_eq d_M_fareOf_45 (fun _ => ?_) (fun q => absurd (by decide) q)
      refine Wp_iinc (z := nI (i + 1)) (ls2 := [lr 33, li (nI b), li (nI (mnb (tld S) b 100000000 i)), li (nI (mxb (tld S) b i)), li (nI (mnb (sWt S) b 100000000 i)), li (nI (mxb (sWt S) b i)), li (nI (i + 1)), u]) d_M_fareOf_134 rfl (nI_add i 1) rfl rfl rfl ?_
      refine Wp_goto d_M_fareOf_137 ?_
      have h9 := ih (i + 1) u (by omega)
      rw [(show nI (mnb (tld S) b 100000000 (i + 1)) = nI (mnb (tld S) b 100000000 i) by congr 1; show (if b.testBit i = true then _ else _) = _; rw [if_neg g42]), (show nI (mxb (tld S) b (i + 1)) = nI (mxb (tld S) b i) by congr 1; show (if b.testBit i = true then _ else _) = _; rw [if_neg g42]), (show nI (mnb (sWt S) b 100000000 (i + 1)) = nI (mnb (sWt S) b 100000000 i) by congr 1; show (if b.testBit i = true then _ else _) = _; rw [if_neg g42]), (show nI (mxb (sWt S) b (i + 1)) = nI (mxb (sWt S) b i) by congr 1; show (if b.testBit i = true then _ else _) = _; rw [if_neg g42])] at h9
      exact h9
