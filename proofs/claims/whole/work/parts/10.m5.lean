set_option maxRecDepth 100000 in
set_option maxHeartbeats 4000000 in
theorem l_M_ones (E : mE) (d : Nat) (hd : 0 ≤ d) (w : mw) (u : Int32) : ∀ (k x n : Nat), popc x = k → x < 1024 → Wp E d m_M_ones 4 [li u, li (nI n), li (nI x)] [] w (mPi (fun r w1 => r = nI (n + k) ∧ w1 = w)) := by
  intro k
  induction k with
  | zero =>
    intro x n hk hx
    have hx0 : x = 0 := by
      by_cases h : 0 < x
      · have := popc_step x hx h; omega
      · omega
    subst hx0
    refine Wp_iload_n d_M_ones_4 rfl ?_
    refine Wp_if_eq d_M_ones_5 (fun h5 => ?_) (fun q => absurd rfl q)
    refine Wp_iload_n d_M_ones_20 rfl ?_
    refine Wp_reti (ty := .int) d_M_ones_21 rfl rfl ?_
    exact ⟨rfl, rfl⟩
  | succ k ih =>
    intro x n hk hx
    have hx0 : 0 < x := by
      by_cases h : 0 < x
      · exact h
      · have h0 : x = 0 := by omega
        subst h0; have h1 : popc 0 = 0 := (by decide); omega
    have hs := popc_step x hx hx0
    have hle : x &&& (x - 1) ≤ x := Nat.and_le_left
    refine Wp_iload_n d_M_ones_4 rfl ?_
    refine Wp_if_eq d_M_ones_5 (fun q => absurd (n_eq (b := 0) q (by omega) (by omega)) (by omega)) (fun h5 => ?_)
    refine Wp_iinc (z := nI (n + 1)) (ls2 := [li u, li (nI (n + 1)), li (nI x)]) d_M_ones_8 rfl (nI_add n 1) rfl rfl rfl ?_
    refine Wp_iload_n d_M_ones_11 rfl ?_
    refine Wp_iload_n d_M_ones_12 rfl ?_
    refine Wp_iconst (x := 1) d_M_ones_13 (by decide) ?_
    refine Wp_isub d_M_ones_14 ?_
    refine Wp_eqi (x2 := nI (x - 1)) (pk_sub (a := x) (b := 1) (by omega)) ?_
    refine Wp_iand d_M_ones_15 ?_
    refine Wp_eqi (x2 := nI (x &&& (x - 1))) (nI_and x (x - 1)) ?_
    refine Wp_istore_n (ls2 := [li u, li (nI (n + 1)), li (nI (x &&& (x - 1)))]) d_M_ones_16 rfl rfl rfl ?_
    refine Wp_goto d_M_ones_17 ?_
    refine Wp_mi (ih _ (n + 1) (by omega) (by omega)) (fun r w1 h => ⟨?_, h.2⟩)
    rw [h.1]; congr 1; omega
set_option maxRecDepth 100000 in
set_option maxHeartbeats 4000000 in
theorem t_M_ones (E : mE) (d : Nat) (hd : 0 ≤ d) (w : mw) (x : Nat) (hx : x < 1024) : Td E d m_M_ones [vi (nI x)] w (nI (popc x)) w := by
  refine ⟨Nat.le_of_ble_eq_true rfl, ?_⟩
  show Wp E d m_M_ones 0 [li (nI x), lo, lo] [] w _
  refine Wp_iconst (x := 0) d_M_ones_0 (by decide) ?_
  refine Wp_istore_n (ls2 := [li (nI x), li 0, lo]) d_M_ones_1 rfl rfl rfl ?_
  refine Wp_iload_n d_M_ones_2 rfl ?_
  refine Wp_istore_n (ls2 := [li (nI x), li 0, li (nI x)]) d_M_ones_3 rfl rfl rfl ?_
  refine Wp_mi (l_M_ones E d (by omega) w _ _ x 0 rfl hx) (fun r w1 h => ⟨?_, h.2⟩)
  rw [h.1, Nat.zero_add]
set_option maxRecDepth 100000 in
set_option maxHeartbeats 4000000 in
theorem t_M_toldOf (E : mE) (d : Nat) (hd : 0 ≤ d) (w : mw) (S : mw) (hM : MP w S) (hV : VM S) (j : Nat) (hj : j < pN S) : Td E d m_M_toldOf [vr 33, vi (nI j)] w (nI (tld S j)) w := by
  refine ⟨Nat.le_of_ble_eq_true rfl, ?_⟩
  show Wp E d m_M_toldOf 0 [lr 33, li (nI j), lo] [] w _
  have hp := (pN_ok S).1
  have ha := (pN_ok S).2 j hj
  have hl := VM_li hV j (by omega)
  refine Wp_aload_n d_M_toldOf_0 rfl ?_
  refine Wp_getr d_M_toldOf_1 fd_M_25 rfl rfl rfl ?_
  refine Wp_iload_n d_M_toldOf_4 rfl ?_
  refine Wp_ialdN (j := j) d_M_toldOf_5 rfl rfl rfl rfl (by omega) ?_
  refine Wp_eqi (x2 := nI (pA S j)) (hM.2.2 _ (by omega)) ?_
  refine Wp_aload_n d_M_toldOf_6 rfl ?_
  refine Wp_getr d_M_toldOf_7 fd_M_34 rfl rfl rfl ?_
  refine Wp_iload_n d_M_toldOf_10 rfl ?_
  refine Wp_ialdN (j := j) d_M_toldOf_11 rfl rfl rfl rfl (by omega) ?_
  refine Wp_eqi (x2 := S 42 j) (congrFun (hM.1.r 42) _) ?_
  refine Wp_iadd d_M_toldOf_12 ?_
  refine Wp_istore_n (ls2 := [lr 33, li (nI j), li ((nI (pA S j)) + (S 42 j))]) d_M_toldOf_13 rfl rfl rfl ?_
  refine Wp_iload_n d_M_toldOf_14 rfl ?_
  refine Wp_if_ge d_M_toldOf_15 (fun h15 => ?_) (fun h15 => ?_)
  ·
    have g15 : 0 ≤ ((nI (pA S j)) + (S 42 j)).toInt := i_le h15
    refine Wp_iload_n d_M_toldOf_22 rfl ?_
    refine Wp_reti (ty := .int) d_M_toldOf_23 rfl rfl ?_
    have e1 : (nI (pA S j) + S 42 j).toInt = (pA S j : Int) + (S 42 j).toInt := by rw [i_add (by rw [ti (by omega)]; omega) (by rw [ti (by omega)]; omega), ti (by omega)]
    refine ⟨i_eq ?_, rfl⟩
    rw [e1, ti (by unfold tld; omega)]; unfold tld; omega
  ·
    have g15 : ((nI (pA S j)) + (S 42 j)).toInt < 0 := i_nle h15
    refine Wp_iconst (x := 0) d_M_toldOf_18 (by decide) ?_
    refine Wp_goto d_M_toldOf_19 ?_
    refine Wp_reti (ty := .int) d_M_toldOf_23 rfl rfl ?_
    have e1 : (nI (pA S j) + S 42 j).toInt = (pA S j : Int) + (S 42 j).toInt := by rw [i_add (by rw [ti (by omega)]; omega) (by rw [ti (by omega)]; omega), ti (by omega)]
    refine ⟨?_, rfl⟩
    rw [show tld S j = 0 by unfold tld; omega]; rfl
set_option maxRecDepth 100000 in
set_option maxHeartbeats 4000000 in
theorem t_M_whole (E : mE) (d : Nat) (hd : 0 ≤ d) (w : mw) (S : mw) (hM : MP w S) (hV : VM S) : Td E d m_M_whole [vr 33] w (nI (2 ^ pN S - 1)) w := by
  refine ⟨Nat.le_of_ble_eq_true rfl, ?_⟩
  show Wp E d m_M_whole 0 [lr 33] [] w _
  have hp := (pN_ok S).1
  refine Wp_iconst (x := 1) d_M_whole_0 (by decide) ?_
  refine Wp_aload_n d_M_whole_1 rfl ?_
  refine Wp_getf d_M_whole_2 fd_M_125 rfl rfl rfl ?_
  refine Wp_eqi (x2 := nI (pN S)) hM.2.1 ?_
  refine Wp_ishl d_M_whole_5 ?_
  refine Wp_eqi (x2 := nI (2 ^ pN S)) (sh1 (by omega)) ?_
  refine Wp_iconst (x := 1) d_M_whole_6 (by decide) ?_
  refine Wp_isub d_M_whole_7 ?_
  refine Wp_eqi (x2 := nI (2 ^ pN S - 1)) (pk_sub (b := 1) (Nat.one_le_two_pow)) ?_
  refine Wp_reti (ty := .int) d_M_whole_8 rfl rfl ?_
  exact ⟨rfl, rfl⟩
set_option maxRecDepth 100000 in
set_option maxHeartbeats 4000000 in
theorem l_M_fareOf (E : mE) (d : Nat) (hd : 1 ≤ d) (w S : mw) (hM : MP w S) (hV : VM S) (b : Nat) (hb : b < 1024) (u : Option mv) (Q : Option mv → mw → Prop) (hk : ∀ u, Wp E d m_M_fareOf 140 [lr 33, li (nI b), li (nI (mnb (tld S) b 100000000 (pN S))), li (nI (mxb (tld S) b (pN S))), li (nI (mnb (sWt S) b 100000000 (pN S))), li (nI (mxb (sWt S) b (pN S))), li (nI (pN S)), u] [] w Q) : ∀ (k i : Nat) (u : Option mv), i + k = pN S → Wp E d m_M_fareOf 30 [lr 33, li (nI b), li (nI (mnb (tld S) b 100000000 i)), li (nI (mxb (tld S) b i)), li (nI (mnb (sWt S) b 100000000 i)), li (nI (mxb (sWt S) b i)), li (nI i), u] [] w Q := by
  intro k
  induction k with
  | zero =>
    intro i u hi
    have hp := (pN_ok S).1
    have hb1 := mxb_le (f := tld S) (b := b) i (fun j q => tld_le hV (show j < pN S by omega))
    have hb2 := mnb_le (f := tld S) (b := b) (M := 100000000) i
    have hb3 := mxb_le (f := sWt S) (b := b) i (fun j q => (VM_wt hV j (by omega)).2)
    have hb4 := mnb_le (f := sWt S) (b := b) (M := 100000000) i
    refine Wp_iload d_M_fareOf_30 rfl ?_
    refine Wp_aload_n d_M_fareOf_32 rfl ?_
    refine Wp_getf d_M_fareOf_33 fd_M_125 rfl rfl rfl ?_
    refine Wp_eqi (x2 := nI (pN S)) hM.2.1 ?_
    refine Wp_icmp_ge d_M_fareOf_36 (fun h36 => ?_) (fun q => absurd (n_nle q (by omega) (by omega)) (by omega))
    have hin : i = pN S := by omega
    subst hin
    exact hk u
  | succ k ih =>
    intro i u hi
    have hp := (pN_ok S).1
    have hb1 := mxb_le (f := tld S) (b := b) i (fun j q => tld_le hV (show j < pN S by omega))
    have hb2 := mnb_le (f := tld S) (b := b) (M := 100000000) i
    have hb3 := mxb_le (f := sWt S) (b := b) i (fun j q => (VM_wt hV j (by omega)).2)
    have hb4 := mnb_le (f := sWt S) (b := b) (M := 100000000) i
    have htl := tld_le hV (show i < pN S by omega)
    have hwl := (VM_wt hV i (by omega)).2
    refine Wp_iload d_M_fareOf_30 rfl ?_
    refine Wp_aload_n d_M_fareOf_32 rfl ?_
    refine Wp_getf d_M_fareOf_33 fd_M_125 rfl rfl rfl ?_
    refine Wp_eqi (x2 := nI (pN S)) hM.2.1 ?_
    refine Wp_icmp_ge d_M_fareOf_36 (fun q => absurd (n_le q (by omega) (by omega)) (by omega)) (fun h36 => ?_)
    refine Wp_iload_n d_M_fareOf_39 rfl ?_
    refine Wp_iload d_M_fareOf_40 rfl ?_
    refine Wp_ivs_b (As := [vi (nI b), vi (nI i)]) d_M_fareOf_42 ln_M_177 mk_M_isIn rfl rfl rfl (by omega) (t_M_isIn E (d - 1) (by omega) w b i (by omega) (by omega)) (fun g42 => ?_) (fun g42 => ?_)
    ·
      refine Wp_if_eq d_M_fareOf_45 (fun q => absurd q (by decide)) (fun _ => ?_)
      refine Wp_aload_n d_M_fareOf_48 rfl ?_
      refine Wp_iload d_M_fareOf_49 rfl ?_
      refine Wp_ivv_d (o := 33) (As := [vi (nI i)]) d_M_fareOf_51 ln_M_154 mk_M_toldOf rfl rfl rfl rfl rfl (by omega) (t_M_toldOf E (d - 1) (by omega) w S hM hV i (by omega)) ?_
      refine Wp_istore (ls2 := [lr 33, li (nI b), li (nI (mnb (tld S) b 100000000 i)), li (nI (mxb (tld S) b i)), li (nI (mnb (sWt S) b 100000000 i)), li (nI (mxb (sWt S) b i)), li (nI i), li (nI (tld S i))]) d_M_fareOf_54 rfl rfl rfl ?_
      refine Wp_iload d_M_fareOf_56 rfl ?_
      refine Wp_iload_n d_M_fareOf_58 rfl ?_
      refine Wp_icmp_ge d_M_fareOf_59 (fun h59 => ?_) (fun h59 => ?_)
      ·
        have g59 : (mnb (tld S) b 100000000 i) ≤ (tld S i) := n_le h59 (by omega) (by omega)
        refine Wp_iload_n d_M_fareOf_67 rfl ?_
        refine Wp_istore_n (ls2 := [lr 33, li (nI b), li (nI (mnb (tld S) b 100000000 i)), li (nI (mxb (tld S) b i)), li (nI (mnb (sWt S) b 100000000 i)), li (nI (mxb (sWt S) b i)), li (nI i), li (nI (tld S i))]) d_M_fareOf_68 rfl rfl rfl ?_
        refine Wp_iload d_M_fareOf_69 rfl ?_
        refine Wp_iload_n d_M_fareOf_71 rfl ?_
        refine Wp_icmp_le d_M_fareOf_72 (fun h72 => ?_) (fun h72 => ?_)
        ·
          have g72 : (tld S i) ≤ (mxb (tld S) b i) := n_le h72 (by omega) (by omega)
          refine Wp_iload_n d_M_fareOf_80 rfl ?_
          refine Wp_istore_n (ls2 := [lr 33, li (nI b), li (nI (mnb (tld S) b 100000000 i)), li (nI (mxb (tld S) b i)), li (nI (mnb (sWt S) b 100000000 i)), li (nI (mxb (sWt S) b i)), li (nI i), li (nI (tld S i))]) d_M_fareOf_81 rfl rfl rfl ?_
          refine Wp_aload_n d_M_fareOf_82 rfl ?_
          refine Wp_getr d_M_fareOf_83 fd_M_28 rfl rfl rfl ?_
          refine Wp_iload d_M_fareOf_86 rfl ?_
          refine Wp_ialdN (j := i) d_M_fareOf_88 rfl rfl rfl rfl (by omega) ?_
          refine Wp_eqi (x2 := S 40 i) (congrFun (hM.1.r 40) _) ?_
          refine Wp_eqi (x2 := nI (sWt S i)) (VM_wt hV _ (by omega)).1 ?_
          refine Wp_iload d_M_fareOf_89 rfl ?_
          refine Wp_icmp_ge d_M_fareOf_91 (fun h91 => ?_) (fun h91 => ?_)
          ·
            have g91 : (mnb (sWt S) b 100000000 i) ≤ (sWt S i) := n_le h91 (by omega) (by omega)
            refine Wp_iload d_M_fareOf_104 rfl ?_
            refine Wp_istore (ls2 := [lr 33, li (nI b), li (nI (mnb (tld S) b 100000000 i)), li (nI (mxb (tld S) b i)), li (nI (mnb (sWt S) b 100000000 i)), li (nI (mxb (sWt S) b i)), li (nI i), li (nI (tld S i))]) d_M_fareOf_106 rfl rfl rfl ?_
            refine Wp_aload_n d_M_fareOf_108 rfl ?_
            refine Wp_getr d_M_fareOf_109 fd_M_28 rfl rfl rfl ?_
            refine Wp_iload d_M_fareOf_112 rfl ?_
            refine Wp_ialdN (j := i) d_M_fareOf_114 rfl rfl rfl rfl (by omega) ?_
            refine Wp_eqi (x2 := S 40 i) (congrFun (hM.1.r 40) _) ?_
            refine Wp_eqi (x2 := nI (sWt S i)) (VM_wt hV _ (by omega)).1 ?_
            refine Wp_iload d_M_fareOf_115 rfl ?_
            refine Wp_icmp_le d_M_fareOf_117 (fun h117 => ?_) (fun h117 => ?_)
            ·
              have g117 : (sWt S i) ≤ (mxb (sWt S) b i) := n_le h117 (by omega) (by omega)
              refine Wp_iload d_M_fareOf_130 rfl ?_
              refine Wp_istore (ls2 := [lr 33, li (nI b), li (nI (mnb (tld S) b 100000000 i)), li (nI (mxb (tld S) b i)), li (nI (mnb (sWt S) b 100000000 i)), li (nI (mxb (sWt S) b i)), li (nI i), li (nI (tld S i))]) d_M_fareOf_132 rfl rfl rfl ?_
              refine Wp_iinc (z := nI (i + 1)) (ls2 := [lr 33, li (nI b), li (nI (mnb (tld S) b 100000000 i)), li (nI (mxb (tld S) b i)), li (nI (mnb (sWt S) b 100000000 i)), li (nI (mxb (sWt S) b i)), li (nI (i + 1)), li (nI (tld S i))]) d_M_fareOf_134 rfl (nI_add i 1) rfl rfl rfl ?_
              refine Wp_goto d_M_fareOf_137 ?_
              have h9 := ih (i + 1) (li (nI (tld S i))) (by omega)
              rw [(show nI (mnb (tld S) b 100000000 (i + 1)) = nI (mnb (tld S) b 100000000 i) by congr 1; show (if b.testBit i = true then _ else _) = _; rw [if_pos g42]; omega), (show nI (mxb (tld S) b (i + 1)) = nI (mxb (tld S) b i) by congr 1; show (if b.testBit i = true then _ else _) = _; rw [if_pos g42]; omega), (show nI (mnb (sWt S) b 100000000 (i + 1)) = nI (mnb (sWt S) b 100000000 i) by congr 1; show (if b.testBit i = true then _ else _) = _; rw [if_pos g42]; omega), (show nI (mxb (sWt S) b (i + 1)) = nI (mxb (sWt S) b i) by congr 1; show (if b.testBit i = true then _ else _) = _; rw [if_pos g42]; omega)] at h9
              exact h9
            ·
              have g117 : (mxb (sWt S) b i) < (sWt S i) := n_nle h117 (by omega) (by omega)
              refine Wp_aload_n d_M_fareOf_120 rfl ?_
              refine Wp_getr d_M_fareOf_121 fd_M_28 rfl rfl rfl ?_
              refine Wp_iload d_M_fareOf_124 rfl ?_
              refine Wp_ialdN (j := i) d_M_fareOf_126 rfl rfl rfl rfl (by omega) ?_
              refine Wp_eqi (x2 := S 40 i) (congrFun (hM.1.r 40) _) ?_
              refine Wp_eqi (x2 := nI (sWt S i)) (VM_wt hV _ (by omega)).1 ?_
              refine Wp_goto d_M_fareOf_127 ?_
              refine Wp_istore (ls2 := [lr 33, li (nI b), li (nI (mnb (tld S) b 100000000 i)), li (nI (mxb (tld S) b i)), li (nI (mnb (sWt S) b 100000000 i)), li (nI (sWt S i)), li (nI i), li (nI (tld S i))]) d_M_fareOf_132 rfl rfl rfl ?_
              refine Wp_iinc (z := nI (i + 1)) (ls2 := [lr 33, li (nI b), li (nI (mnb (tld S) b 100000000 i)), li (nI (mxb (tld S) b i)), li (nI (mnb (sWt S) b 100000000 i)), li (nI (sWt S i)), li (nI (i + 1)), li (nI (tld S i))]) d_M_fareOf_134 rfl (nI_add i 1) rfl rfl rfl ?_
              refine Wp_goto d_M_fareOf_137 ?_
              have h9 := ih (i + 1) (li (nI (tld S i))) (by omega)
              rw [(show nI (mnb (tld S) b 100000000 (i + 1)) = nI (mnb (tld S) b 100000000 i) by congr 1; show (if b.testBit i = true then _ else _) = _; rw [if_pos g42]; omega), (show nI (mxb (tld S) b (i + 1)) = nI (mxb (tld S) b i) by congr 1; show (if b.testBit i = true then _ else _) = _; rw [if_pos g42]; omega), (show nI (mnb (sWt S) b 100000000 (i + 1)) = nI (mnb (sWt S) b 100000000 i) by congr 1; show (if b.testBit i = true then _ else _) = _; rw [if_pos g42]; omega), (show nI (mxb (sWt S) b (i + 1)) = nI (sWt S i) by congr 1; show (if b.testBit i = true then _ else _) = _; rw [if_pos g42]; omega)] at h9
              exact h9
          ·
            have g91 : (sWt S i) < (mnb (sWt S) b 100000000 i) := n_nle h91 (by omega) (by omega)
            refine Wp_aload_n d_M_fareOf_94 rfl ?_
            refine Wp_getr d_M_fareOf_95 fd_M_28 rfl rfl rfl ?_
            refine Wp_iload d_M_fareOf_98 rfl ?_
            refine Wp_ialdN (j := i) d_M_fareOf_100 rfl rfl rfl rfl (by omega) ?_
            refine Wp_eqi (x2 := S 40 i) (congrFun (hM.1.r 40) _) ?_
            refine Wp_eqi (x2 := nI (sWt S i)) (VM_wt hV _ (by omega)).1 ?_
            refine Wp_goto d_M_fareOf_101 ?_
            refine Wp_istore (ls2 := [lr 33, li (nI b), li (nI (mnb (tld S) b 100000000 i)), li (nI (mxb (tld S) b i)), li (nI (sWt S i)), li (nI (mxb (sWt S) b i)), li (nI i), li (nI (tld S i))]) d_M_fareOf_106 rfl rfl rfl ?_
            refine Wp_aload_n d_M_fareOf_108 rfl ?_
            refine Wp_getr d_M_fareOf_109 fd_M_28 rfl rfl rfl ?_
            refine Wp_iload d_M_fareOf_112 rfl ?_
            refine Wp_ialdN (j := i) d_M_fareOf_114 rfl rfl rfl rfl (by omega) ?_
            refine Wp_eqi (x2 := S 40 i) (congrFun (hM.1.r 40) _) ?_
            refine Wp_eqi (x2 := nI (sWt S i)) (VM_wt hV _ (by omega)).1 ?_
            refine Wp_iload d_M_fareOf_115 rfl ?_
            refine Wp_icmp_le d_M_fareOf_117 (fun h117 => ?_) (fun h117 => ?_)
            ·
              have g117 : (sWt S i) ≤ (mxb (sWt S) b i) := n_le h117 (by omega) (by omega)
              refine Wp_iload d_M_fareOf_130 rfl ?_
              refine Wp_istore (ls2 := [lr 33, li (nI b), li (nI (mnb (tld S) b 100000000 i)), li (nI (mxb (tld S) b i)), li (nI (sWt S i)), li (nI (mxb (sWt S) b i)), li (nI i), li (nI (tld S i))]) d_M_fareOf_132 rfl rfl rfl ?_
              refine Wp_iinc (z := nI (i + 1)) (ls2 := [lr 33, li (nI b), li (nI (mnb (tld S) b 100000000 i)), li (nI (mxb (tld S) b i)), li (nI (sWt S i)), li (nI (mxb (sWt S) b i)), li (nI (i + 1)), li (nI (tld S i))]) d_M_fareOf_134 rfl (nI_add i 1) rfl rfl rfl ?_
              refine Wp_goto d_M_fareOf_137 ?_
              have h9 := ih (i + 1) (li (nI (tld S i))) (by omega)
              rw [(show nI (mnb (tld S) b 100000000 (i + 1)) = nI (mnb (tld S) b 100000000 i) by congr 1; show (if b.testBit i = true then _ else _) = _; rw [if_pos g42]; omega), (show nI (mxb (tld S) b (i + 1)) = nI (mxb (tld S) b i) by congr 1; show (if b.testBit i = true then _ else _) = _; rw [if_pos g42]; omega), (show nI (mnb (sWt S) b 100000000 (i + 1)) = nI (sWt S i) by congr 1; show (if b.testBit i = true then _ else _) = _; rw [if_pos g42]; omega), (show nI (mxb (sWt S) b (i + 1)) = nI (mxb (sWt S) b i) by congr 1; show (if b.testBit i = true then _ else _) = _; rw [if_pos g42]; omega)] at h9
              exact h9
            ·
              have g117 : (mxb (sWt S) b i) < (sWt S i) := n_nle h117 (by omega) (by omega)
              refine Wp_aload_n d_M_fareOf_120 rfl ?_
              refine Wp_getr d_M_fareOf_121 fd_M_28 rfl rfl rfl ?_
              refine Wp_iload d_M_fareOf_124 rfl ?_
              refine Wp_ialdN (j := i) d_M_fareOf_126 rfl rfl rfl rfl (by omega) ?_
              refine Wp_eqi (x2 := S 40 i) (congrFun (hM.1.r 40) _) ?_
              refine Wp_eqi (x2 := nI (sWt S i)) (VM_wt hV _ (by omega)).1 ?_
              refine Wp_goto d_M_fareOf_127 ?_
              refine Wp_istore (ls2 := [lr 33, li (nI b), li (nI (mnb (tld S) b 100000000 i)), li (nI (mxb (tld S) b i)), li (nI (sWt S i)), li (nI (sWt S i)), li (nI i), li (nI (tld S i))]) d_M_fareOf_132 rfl rfl rfl ?_
              refine Wp_iinc (z := nI (i + 1)) (ls2 := [lr 33, li (nI b), li (nI (mnb (tld S) b 100000000 i)), li (nI (mxb (tld S) b i)), li (nI (sWt S i)), li (nI (sWt S i)), li (nI (i + 1)), li (nI (tld S i))]) d_M_fareOf_134 rfl (nI_add i 1) rfl rfl rfl ?_
              refine Wp_goto d_M_fareOf_137 ?_
              have h9 := ih (i + 1) (li (nI (tld S i))) (by omega)
              rw [(show nI (mnb (tld S) b 100000000 (i + 1)) = nI (mnb (tld S) b 100000000 i) by congr 1; show (if b.testBit i = true then _ else _) = _; rw [if_pos g42]; omega), (show nI (mxb (tld S) b (i + 1)) = nI (mxb (tld S) b i) by congr 1; show (if b.testBit i = true then _ else _) = _; rw [if_pos g42]; omega), (show nI (mnb (sWt S) b 100000000 (i + 1)) = nI (sWt S i) by congr 1; show (if b.testBit i = true then _ else _) = _; rw [if_pos g42]; omega), (show nI (mxb (sWt S) b (i + 1)) = nI (sWt S i) by congr 1; show (if b.testBit i = true then _ else _) = _; rw [if_pos g42]; omega)] at h9
              exact h9
        ·
          have g72 : (mxb (tld S) b i) < (tld S i) := n_nle h72 (by omega) (by omega)
          refine Wp_iload d_M_fareOf_75 rfl ?_
          refine Wp_goto d_M_fareOf_77 ?_
          refine Wp_istore_n (ls2 := [lr 33, li (nI b), li (nI (mnb (tld S) b 100000000 i)), li (nI (tld S i)), li (nI (mnb (sWt S) b 100000000 i)), li (nI (mxb (sWt S) b i)), li (nI i), li (nI (tld S i))]) d_M_fareOf_81 rfl rfl rfl ?_
          refine Wp_aload_n d_M_fareOf_82 rfl ?_
          refine Wp_getr d_M_fareOf_83 fd_M_28 rfl rfl rfl ?_
          refine Wp_iload d_M_fareOf_86 rfl ?_
          refine Wp_ialdN (j := i) d_M_fareOf_88 rfl rfl rfl rfl (by omega) ?_
          refine Wp_eqi (x2 := S 40 i) (congrFun (hM.1.r 40) _) ?_
          refine Wp_eqi (x2 := nI (sWt S i)) (VM_wt hV _ (by omega)).1 ?_
          refine Wp_iload d_M_fareOf_89 rfl ?_
          refine Wp_icmp_ge d_M_fareOf_91 (fun h91 => ?_) (fun h91 => ?_)
          ·
            have g91 : (mnb (sWt S) b 100000000 i) ≤ (sWt S i) := n_le h91 (by omega) (by omega)
            refine Wp_iload d_M_fareOf_104 rfl ?_
            refine Wp_istore (ls2 := [lr 33, li (nI b), li (nI (mnb (tld S) b 100000000 i)), li (nI (tld S i)), li (nI (mnb (sWt S) b 100000000 i)), li (nI (mxb (sWt S) b i)), li (nI i), li (nI (tld S i))]) d_M_fareOf_106 rfl rfl rfl ?_
            refine Wp_aload_n d_M_fareOf_108 rfl ?_
            refine Wp_getr d_M_fareOf_109 fd_M_28 rfl rfl rfl ?_
            refine Wp_iload d_M_fareOf_112 rfl ?_
            refine Wp_ialdN (j := i) d_M_fareOf_114 rfl rfl rfl rfl (by omega) ?_
            refine Wp_eqi (x2 := S 40 i) (congrFun (hM.1.r 40) _) ?_
            refine Wp_eqi (x2 := nI (sWt S i)) (VM_wt hV _ (by omega)).1 ?_
            refine Wp_iload d_M_fareOf_115 rfl ?_
            refine Wp_icmp_le d_M_fareOf_117 (fun h117 => ?_) (fun h117 => ?_)
            ·
              have g117 : (sWt S i) ≤ (mxb (sWt S) b i) := n_le h117 (by omega) (by omega)
              refine Wp_iload d_M_fareOf_130 rfl ?_
              refine Wp_istore (ls2 := [lr 33, li (nI b), li (nI (mnb (tld S) b 100000000 i)), li (nI (tld S i)), li (nI (mnb (sWt S) b 100000000 i)), li (nI (mxb (sWt S) b i)), li (nI i), li (nI (tld S i))]) d_M_fareOf_132 rfl rfl rfl ?_
              refine Wp_iinc (z := nI (i + 1)) (ls2 := [lr 33, li (nI b), li (nI (mnb (tld S) b 100000000 i)), li (nI (tld S i)), li (nI (mnb (sWt S) b 100000000 i)), li (nI (mxb (sWt S) b i)), li (nI (i + 1)), li (nI (tld S i))]) d_M_fareOf_134 rfl (nI_add i 1) rfl rfl rfl ?_
              refine Wp_goto d_M_fareOf_137 ?_
              have h9 := ih (i + 1) (li (nI (tld S i))) (by omega)
              rw [(show nI (mnb (tld S) b 100000000 (i + 1)) = nI (mnb (tld S) b 100000000 i) by congr 1; show (if b.testBit i = true then _ else _) = _; rw [if_pos g42]; omega), (show nI (mxb (tld S) b (i + 1)) = nI (tld S i) by congr 1; show (if b.testBit i = true then _ else _) = _; rw [if_pos g42]; omega), (show nI (mnb (sWt S) b 100000000 (i + 1)) = nI (mnb (sWt S) b 100000000 i) by congr 1; show (if b.testBit i = true then _ else _) = _; rw [if_pos g42]; omega), (show nI (mxb (sWt S) b (i + 1)) = nI (mxb (sWt S) b i) by congr 1; show (if b.testBit i = true then _ else _) = _; rw [if_pos g42]; omega)] at h9
              exact h9
            ·
              have g117 : (mxb (sWt S) b i) < (sWt S i) := n_nle h117 (by omega) (by omega)
              refine Wp_aload_n d_M_fareOf_120 rfl ?_
              refine Wp_getr d_M_fareOf_121 fd_M_28 rfl rfl rfl ?_
              refine Wp_iload d_M_fareOf_124 rfl ?_
              refine Wp_ialdN (j := i) d_M_fareOf_126 rfl rfl rfl rfl (by omega) ?_
              refine Wp_eqi (x2 := S 40 i) (congrFun (hM.1.r 40) _) ?_
              refine Wp_eqi (x2 := nI (sWt S i)) (VM_wt hV _ (by omega)).1 ?_
              refine Wp_goto d_M_fareOf_127 ?_
              refine Wp_istore (ls2 := [lr 33, li (nI b), li (nI (mnb (tld S) b 100000000 i)), li (nI (tld S i)), li (nI (mnb (sWt S) b 100000000 i)), li (nI (sWt S i)), li (nI i), li (nI (tld S i))]) d_M_fareOf_132 rfl rfl rfl ?_
              refine Wp_iinc (z := nI (i + 1)) (ls2 := [lr 33, li (nI b), li (nI (mnb (tld S) b 100000000 i)), li (nI (tld S i)), li (nI (mnb (sWt S) b 100000000 i)), li (nI (sWt S i)), li (nI (i + 1)), li (nI (tld S i))]) d_M_fareOf_134 rfl (nI_add i 1) rfl rfl rfl ?_
              refine Wp_goto d_M_fareOf_137 ?_
              have h9 := ih (i + 1) (li (nI (tld S i))) (by omega)
              rw [(show nI (mnb (tld S) b 100000000 (i + 1)) = nI (mnb (tld S) b 100000000 i) by congr 1; show (if b.testBit i = true then _ else _) = _; rw [if_pos g42]; omega), (show nI (mxb (tld S) b (i + 1)) = nI (tld S i) by congr 1; show (if b.testBit i = true then _ else _) = _; rw [if_pos g42]; omega), (show nI (mnb (sWt S) b 100000000 (i + 1)) = nI (mnb (sWt S) b 100000000 i) by congr 1; show (if b.testBit i = true then _ else _) = _; rw [if_pos g42]; omega), (show nI (mxb (sWt S) b (i + 1)) = nI (sWt S i) by congr 1; show (if b.testBit i = true then _ else _) = _; rw [if_pos g42]; omega)] at h9
              exact h9
          ·
            have g91 : (sWt S i) < (mnb (sWt S) b 100000000 i) := n_nle h91 (by omega) (by omega)
            refine Wp_aload_n d_M_fareOf_94 rfl ?_
            refine Wp_getr d_M_fareOf_95 fd_M_28 rfl rfl rfl ?_
            refine Wp_iload d_M_fareOf_98 rfl ?_
            refine Wp_ialdN (j := i) d_M_fareOf_100 rfl rfl rfl rfl (by omega) ?_
            refine Wp_eqi (x2 := S 40 i) (congrFun (hM.1.r 40) _) ?_
            refine Wp_eqi (x2 := nI (sWt S i)) (VM_wt hV _ (by omega)).1 ?_
            refine Wp_goto d_M_fareOf_101 ?_
            refine Wp_istore (ls2 := [lr 33, li (nI b), li (nI (mnb (tld S) b 100000000 i)), li (nI (tld S i)), li (nI (sWt S i)), li (nI (mxb (sWt S) b i)), li (nI i), li (nI (tld S i))]) d_M_fareOf_106 rfl rfl rfl ?_
            refine Wp_aload_n d_M_fareOf_108 rfl ?_
            refine Wp_getr d_M_fareOf_109 fd_M_28 rfl rfl rfl ?_
            refine Wp_iload d_M_fareOf_112 rfl ?_
            refine Wp_ialdN (j := i) d_M_fareOf_114 rfl rfl rfl rfl (by omega) ?_
            refine Wp_eqi (x2 := S 40 i) (congrFun (hM.1.r 40) _) ?_
            refine Wp_eqi (x2 := nI (sWt S i)) (VM_wt hV _ (by omega)).1 ?_
            refine Wp_iload d_M_fareOf_115 rfl ?_
            refine Wp_icmp_le d_M_fareOf_117 (fun h117 => ?_) (fun h117 => ?_)
            ·
              have g117 : (sWt S i) ≤ (mxb (sWt S) b i) := n_le h117 (by omega) (by omega)
              refine Wp_iload d_M_fareOf_130 rfl ?_
              refine Wp_istore (ls2 := [lr 33, li (nI b), li (nI (mnb (tld S) b 100000000 i)), li (nI (tld S i)), li (nI (sWt S i)), li (nI (mxb (sWt S) b i)), li (nI i), li (nI (tld S i))]) d_M_fareOf_132 rfl rfl rfl ?_
              refine Wp_iinc (z := nI (i + 1)) (ls2 := [lr 33, li (nI b), li (nI (mnb (tld S) b 100000000 i)), li (nI (tld S i)), li (nI (sWt S i)), li (nI (mxb (sWt S) b i)), li (nI (i + 1)), li (nI (tld S i))]) d_M_fareOf_134 rfl (nI_add i 1) rfl rfl rfl ?_
              refine Wp_goto d_M_fareOf_137 ?_
              have h9 := ih (i + 1) (li (nI (tld S i))) (by omega)
              rw [(show nI (mnb (tld S) b 100000000 (i + 1)) = nI (mnb (tld S) b 100000000 i) by congr 1; show (if b.testBit i = true then _ else _) = _; rw [if_pos g42]; omega), (show nI (mxb (tld S) b (i + 1)) = nI (tld S i) by congr 1; show (if b.testBit i = true then _ else _) = _; rw [if_pos g42]; omega), (show nI (mnb (sWt S) b 100000000 (i + 1)) = nI (sWt S i) by congr 1; show (if b.testBit i = true then _ else _) = _; rw [if_pos g42]; omega), (show nI (mxb (sWt S) b (i + 1)) = nI (mxb (sWt S) b i) by congr 1; show (if b.testBit i = true then _ else _) = _; rw [if_pos g42]; omega)] at h9
              exact h9
            ·
              have g117 : (mxb (sWt S) b i) < (sWt S i) := n_nle h117 (by omega) (by omega)
              refine Wp_aload_n d_M_fareOf_120 rfl ?_
              refine Wp_getr d_M_fareOf_121 fd_M_28 rfl rfl rfl ?_
              refine Wp_iload d_M_fareOf_124 rfl ?_
              refine Wp_ialdN (j := i) d_M_fareOf_126 rfl rfl rfl rfl (by omega) ?_
              refine Wp_eqi (x2 := S 40 i) (congrFun (hM.1.r 40) _) ?_
              refine Wp_eqi (x2 := nI (sWt S i)) (VM_wt hV _ (by omega)).1 ?_
              refine Wp_goto d_M_fareOf_127 ?_
              refine Wp_istore (ls2 := [lr 33, li (nI b), li (nI (mnb (tld S) b 100000000 i)), li (nI (tld S i)), li (nI (sWt S i)), li (nI (sWt S i)), li (nI i), li (nI (tld S i))]) d_M_fareOf_132 rfl rfl rfl ?_
              refine Wp_iinc (z := nI (i + 1)) (ls2 := [lr 33, li (nI b), li (nI (mnb (tld S) b 100000000 i)), li (nI (tld S i)), li (nI (sWt S i)), li (nI (sWt S i)), li (nI (i + 1)), li (nI (tld S i))]) d_M_fareOf_134 rfl (nI_add i 1) rfl rfl rfl ?_
              refine Wp_goto d_M_fareOf_137 ?_
              have h9 := ih (i + 1) (li (nI (tld S i))) (by omega)
              rw [(show nI (mnb (tld S) b 100000000 (i + 1)) = nI (mnb (tld S) b 100000000 i) by congr 1; show (if b.testBit i = true then _ else _) = _; rw [if_pos g42]; omega), (show nI (mxb (tld S) b (i + 1)) = nI (tld S i) by congr 1; show (if b.testBit i = true then _ else _) = _; rw [if_pos g42]; omega), (show nI (mnb (sWt S) b 100000000 (i + 1)) = nI (sWt S i) by congr 1; show (if b.testBit i = true then _ else _) = _; rw [if_pos g42]; omega), (show nI (mxb (sWt S) b (i + 1)) = nI (sWt S i) by congr 1; show (if b.testBit i = true then _ else _) = _; rw [if_pos g42]; omega)] at h9
              exact h9
      ·
        have g59 : (tld S i) < (mnb (tld S) b 100000000 i) := n_nle h59 (by omega) (by omega)
        refine Wp_iload d_M_fareOf_62 rfl ?_
        refine Wp_goto d_M_fareOf_64 ?_
        refine Wp_istore_n (ls2 := [lr 33, li (nI b), li (nI (tld S i)), li (nI (mxb (tld S) b i)), li (nI (mnb (sWt S) b 100000000 i)), li (nI (mxb (sWt S) b i)), li (nI i), li (nI (tld S i))]) d_M_fareOf_68 rfl rfl rfl ?_
        refine Wp_iload d_M_fareOf_69 rfl ?_
        refine Wp_iload_n d_M_fareOf_71 rfl ?_
        refine Wp_icmp_le d_M_fareOf_72 (fun h72 => ?_) (fun h72 => ?_)
        ·
          have g72 : (tld S i) ≤ (mxb (tld S) b i) := n_le h72 (by omega) (by omega)
          refine Wp_iload_n d_M_fareOf_80 rfl ?_
          refine Wp_istore_n (ls2 := [lr 33, li (nI b), li (nI (tld S i)), li (nI (mxb (tld S) b i)), li (nI (mnb (sWt S) b 100000000 i)), li (nI (mxb (sWt S) b i)), li (nI i), li (nI (tld S i))]) d_M_fareOf_81 rfl rfl rfl ?_
          refine Wp_aload_n d_M_fareOf_82 rfl ?_
          refine Wp_getr d_M_fareOf_83 fd_M_28 rfl rfl rfl ?_
          refine Wp_iload d_M_fareOf_86 rfl ?_
          refine Wp_ialdN (j := i) d_M_fareOf_88 rfl rfl rfl rfl (by omega) ?_
          refine Wp_eqi (x2 := S 40 i) (congrFun (hM.1.r 40) _) ?_
          refine Wp_eqi (x2 := nI (sWt S i)) (VM_wt hV _ (by omega)).1 ?_
          refine Wp_iload d_M_fareOf_89 rfl ?_
          refine Wp_icmp_ge d_M_fareOf_91 (fun h91 => ?_) (fun h91 => ?_)
          ·
            have g91 : (mnb (sWt S) b 100000000 i) ≤ (sWt S i) := n_le h91 (by omega) (by omega)
            refine Wp_iload d_M_fareOf_104 rfl ?_
            refine Wp_istore (ls2 := [lr 33, li (nI b), li (nI (tld S i)), li (nI (mxb (tld S) b i)), li (nI (mnb (sWt S) b 100000000 i)), li (nI (mxb (sWt S) b i)), li (nI i), li (nI (tld S i))]) d_M_fareOf_106 rfl rfl rfl ?_
            refine Wp_aload_n d_M_fareOf_108 rfl ?_
            refine Wp_getr d_M_fareOf_109 fd_M_28 rfl rfl rfl ?_
            refine Wp_iload d_M_fareOf_112 rfl ?_
            refine Wp_ialdN (j := i) d_M_fareOf_114 rfl rfl rfl rfl (by omega) ?_
            refine Wp_eqi (x2 := S 40 i) (congrFun (hM.1.r 40) _) ?_
            refine Wp_eqi (x2 := nI (sWt S i)) (VM_wt hV _ (by omega)).1 ?_
            refine Wp_iload d_M_fareOf_115 rfl ?_
            refine Wp_icmp_le d_M_fareOf_117 (fun h117 => ?_) (fun h117 => ?_)
            ·
              have g117 : (sWt S i) ≤ (mxb (sWt S) b i) := n_le h117 (by omega) (by omega)
              refine Wp_iload d_M_fareOf_130 rfl ?_
              refine Wp_istore (ls2 := [lr 33, li (nI b), li (nI (tld S i)), li (nI (mxb (tld S) b i)), li (nI (mnb (sWt S) b 100000000 i)), li (nI (mxb (sWt S) b i)), li (nI i), li (nI (tld S i))]) d_M_fareOf_132 rfl rfl rfl ?_
              refine Wp_iinc (z := nI (i + 1)) (ls2 := [lr 33, li (nI b), li (nI (tld S i)), li (nI (mxb (tld S) b i)), li (nI (mnb (sWt S) b 100000000 i)), li (nI (mxb (sWt S) b i)), li (nI (i + 1)), li (nI (tld S i))]) d_M_fareOf_134 rfl (nI_add i 1) rfl rfl rfl ?_
              refine Wp_goto d_M_fareOf_137 ?_
              have h9 := ih (i + 1) (li (nI (tld S i))) (by omega)
              rw [(show nI (mnb (tld S) b 100000000 (i + 1)) = nI (tld S i) by congr 1; show (if b.testBit i = true then _ else _) = _; rw [if_pos g42]; omega), (show nI (mxb (tld S) b (i + 1)) = nI (mxb (tld S) b i) by congr 1; show (if b.testBit i = true then _ else _) = _; rw [if_pos g42]; omega), (show nI (mnb (sWt S) b 100000000 (i + 1)) = nI (mnb (sWt S) b 100000000 i) by congr 1; show (if b.testBit i = true then _ else _) = _; rw [if_pos g42]; omega), (show nI (mxb (sWt S) b (i + 1)) = nI (mxb (sWt S) b i) by congr 1; show (if b.testBit i = true then _ else _) = _; rw [if_pos g42]; omega)] at h9
              exact h9
            ·
              have g117 : (mxb (sWt S) b i) < (sWt S i) := n_nle h117 (by omega) (by omega)
              refine Wp_aload_n d_M_fareOf_120 rfl ?_
              refine Wp_getr d_M_fareOf_121 fd_M_28 rfl rfl rfl ?_
              refine Wp_iload d_M_fareOf_124 rfl ?_
              refine Wp_ialdN (j := i) d_M_fareOf_126 rfl rfl rfl rfl (by omega) ?_
              refine Wp_eqi (x2 := S 40 i) (congrFun (hM.1.r 40) _) ?_
              refine Wp_eqi (x2 := nI (sWt S i)) (VM_wt hV _ (by omega)).1 ?_
              refine Wp_goto d_M_fareOf_127 ?_
              refine Wp_istore (ls2 := [lr 33, li (nI b), li (nI (tld S i)), li (nI (mxb (tld S) b i)), li (nI (mnb (sWt S) b 100000000 i)), li (nI (sWt S i)), li (nI i), li (nI (tld S i))]) d_M_fareOf_132 rfl rfl rfl ?_
              refine Wp_iinc (z := nI (i + 1)) (ls2 := [lr 33, li (nI b), li (nI (tld S i)), li (nI (mxb (tld S) b i)), li (nI (mnb (sWt S) b 100000000 i)), li (nI (sWt S i)), li (nI (i + 1)), li (nI (tld S i))]) d_M_fareOf_134 rfl (nI_add i 1) rfl rfl rfl ?_
              refine Wp_goto d_M_fareOf_137 ?_
              have h9 := ih (i + 1) (li (nI (tld S i))) (by omega)
              rw [(show nI (mnb (tld S) b 100000000 (i + 1)) = nI (tld S i) by congr 1; show (if b.testBit i = true then _ else _) = _; rw [if_pos g42]; omega), (show nI (mxb (tld S) b (i + 1)) = nI (mxb (tld S) b i) by congr 1; show (if b.testBit i = true then _ else _) = _; rw [if_pos g42]; omega), (show nI (mnb (sWt S) b 100000000 (i + 1)) = nI (mnb (sWt S) b 100000000 i) by congr 1; show (if b.testBit i = true then _ else _) = _; rw [if_pos g42]; omega), (show nI (mxb (sWt S) b (i + 1)) = nI (sWt S i) by congr 1; show (if b.testBit i = true then _ else _) = _; rw [if_pos g42]; omega)] at h9
              exact h9
          ·
            have g91 : (sWt S i) < (mnb (sWt S) b 100000000 i) := n_nle h91 (by omega) (by omega)
            refine Wp_aload_n d_M_fareOf_94 rfl ?_
            refine Wp_getr d_M_fareOf_95 fd_M_28 rfl rfl rfl ?_
            refine Wp_iload d_M_fareOf_98 rfl ?_
            refine Wp_ialdN (j := i) d_M_fareOf_100 rfl rfl rfl rfl (by omega) ?_
            refine Wp_eqi (x2 := S 40 i) (congrFun (hM.1.r 40) _) ?_
            refine Wp_eqi (x2 := nI (sWt S i)) (VM_wt hV _ (by omega)).1 ?_
            refine Wp_goto d_M_fareOf_101 ?_
            refine Wp_istore (ls2 := [lr 33, li (nI b), li (nI (tld S i)), li (nI (mxb (tld S) b i)), li (nI (sWt S i)), li (nI (mxb (sWt S) b i)), li (nI i), li (nI (tld S i))]) d_M_fareOf_106 rfl rfl rfl ?_
            refine Wp_aload_n d_M_fareOf_108 rfl ?_
            refine Wp_getr d_M_fareOf_109 fd_M_28 rfl rfl rfl ?_
            refine Wp_iload d_M_fareOf_112 rfl ?_
            refine Wp_ialdN (j := i) d_M_fareOf_114 rfl rfl rfl rfl (by omega) ?_
            refine Wp_eqi (x2 := S 40 i) (congrFun (hM.1.r 40) _) ?_
            refine Wp_eqi (x2 := nI (sWt S i)) (VM_wt hV _ (by omega)).1 ?_
            refine Wp_iload d_M_fareOf_115 rfl ?_
            refine Wp_icmp_le d_M_fareOf_117 (fun h117 => ?_) (fun h117 => ?_)
            ·
              have g117 : (sWt S i) ≤ (mxb (sWt S) b i) := n_le h117 (by omega) (by omega)
              refine Wp_iload d_M_fareOf_130 rfl ?_
              refine Wp_istore (ls2 := [lr 33, li (nI b), li (nI (tld S i)), li (nI (mxb (tld S) b i)), li (nI (sWt S i)), li (nI (mxb (sWt S) b i)), li (nI i), li (nI (tld S i))]) d_M_fareOf_132 rfl rfl rfl ?_
              refine Wp_iinc (z := nI (i + 1)) (ls2 := [lr 33, li (nI b), li (nI (tld S i)), li (nI (mxb (tld S) b i)), li (nI (sWt S i)), li (nI (mxb (sWt S) b i)), li (nI (i + 1)), li (nI (tld S i))]) d_M_fareOf_134 rfl (nI_add i 1) rfl rfl rfl ?_
              refine Wp_goto d_M_fareOf_137 ?_
              have h9 := ih (i + 1) (li (nI (tld S i))) (by omega)
              rw [(show nI (mnb (tld S) b 100000000 (i + 1)) = nI (tld S i) by congr 1; show (if b.testBit i = true then _ else _) = _; rw [if_pos g42]; omega), (show nI (mxb (tld S) b (i + 1)) = nI (mxb (tld S) b i) by congr 1; show (if b.testBit i = true then _ else _) = _; rw [if_pos g42]; omega), (show nI (mnb (sWt S) b 100000000 (i + 1)) = nI (sWt S i) by congr 1; show (if b.testBit i = true then _ else _) = _; rw [if_pos g42]; omega), (show nI (mxb (sWt S) b (i + 1)) = nI (mxb (sWt S) b i) by congr 1; show (if b.testBit i = true then _ else _) = _; rw [if_pos g42]; omega)] at h9
              exact h9
            ·
              have g117 : (mxb (sWt S) b i) < (sWt S i) := n_nle h117 (by omega) (by omega)
              refine Wp_aload_n d_M_fareOf_120 rfl ?_
              refine Wp_getr d_M_fareOf_121 fd_M_28 rfl rfl rfl ?_
              refine Wp_iload d_M_fareOf_124 rfl ?_
              refine Wp_ialdN (j := i) d_M_fareOf_126 rfl rfl rfl rfl (by omega) ?_
              refine Wp_eqi (x2 := S 40 i) (congrFun (hM.1.r 40) _) ?_
              refine Wp_eqi (x2 := nI (sWt S i)) (VM_wt hV _ (by omega)).1 ?_
              refine Wp_goto d_M_fareOf_127 ?_
              refine Wp_istore (ls2 := [lr 33, li (nI b), li (nI (tld S i)), li (nI (mxb (tld S) b i)), li (nI (sWt S i)), li (nI (sWt S i)), li (nI i), li (nI (tld S i))]) d_M_fareOf_132 rfl rfl rfl ?_
              refine Wp_iinc (z := nI (i + 1)) (ls2 := [lr 33, li (nI b), li (nI (tld S i)), li (nI (mxb (tld S) b i)), li (nI (sWt S i)), li (nI (sWt S i)), li (nI (i + 1)), li (nI (tld S i))]) d_M_fareOf_134 rfl (nI_add i 1) rfl rfl rfl ?_
              refine Wp_goto d_M_fareOf_137 ?_
              have h9 := ih (i + 1) (li (nI (tld S i))) (by omega)
              rw [(show nI (mnb (tld S) b 100000000 (i + 1)) = nI (tld S i) by congr 1; show (if b.testBit i = true then _ else _) = _; rw [if_pos g42]; omega), (show nI (mxb (tld S) b (i + 1)) = nI (mxb (tld S) b i) by congr 1; show (if b.testBit i = true then _ else _) = _; rw [if_pos g42]; omega), (show nI (mnb (sWt S) b 100000000 (i + 1)) = nI (sWt S i) by congr 1; show (if b.testBit i = true then _ else _) = _; rw [if_pos g42]; omega), (show nI (mxb (sWt S) b (i + 1)) = nI (sWt S i) by congr 1; show (if b.testBit i = true then _ else _) = _; rw [if_pos g42]; omega)] at h9
              exact h9
        ·
          have g72 : (mxb (tld S) b i) < (tld S i) := n_nle h72 (by omega) (by omega)
          refine Wp_iload d_M_fareOf_75 rfl ?_
          refine Wp_goto d_M_fareOf_77 ?_
          refine Wp_istore_n (ls2 := [lr 33, li (nI b), li (nI (tld S i)), li (nI (tld S i)), li (nI (mnb (sWt S) b 100000000 i)), li (nI (mxb (sWt S) b i)), li (nI i), li (nI (tld S i))]) d_M_fareOf_81 rfl rfl rfl ?_
          refine Wp_aload_n d_M_fareOf_82 rfl ?_
          refine Wp_getr d_M_fareOf_83 fd_M_28 rfl rfl rfl ?_
          refine Wp_iload d_M_fareOf_86 rfl ?_
          refine Wp_ialdN (j := i) d_M_fareOf_88 rfl rfl rfl rfl (by omega) ?_
          refine Wp_eqi (x2 := S 40 i) (congrFun (hM.1.r 40) _) ?_
          refine Wp_eqi (x2 := nI (sWt S i)) (VM_wt hV _ (by omega)).1 ?_
          refine Wp_iload d_M_fareOf_89 rfl ?_
          refine Wp_icmp_ge d_M_fareOf_91 (fun h91 => ?_) (fun h91 => ?_)
          ·
            have g91 : (mnb (sWt S) b 100000000 i) ≤ (sWt S i) := n_le h91 (by omega) (by omega)
            refine Wp_iload d_M_fareOf_104 rfl ?_
            refine Wp_istore (ls2 := [lr 33, li (nI b), li (nI (tld S i)), li (nI (tld S i)), li (nI (mnb (sWt S) b 100000000 i)), li (nI (mxb (sWt S) b i)), li (nI i), li (nI (tld S i))]) d_M_fareOf_106 rfl rfl rfl ?_
            refine Wp_aload_n d_M_fareOf_108 rfl ?_
            refine Wp_getr d_M_fareOf_109 fd_M_28 rfl rfl rfl ?_
            refine Wp_iload d_M_fareOf_112 rfl ?_
            refine Wp_ialdN (j := i) d_M_fareOf_114 rfl rfl rfl rfl (by omega) ?_
            refine Wp_eqi (x2 := S 40 i) (congrFun (hM.1.r 40) _) ?_
            refine Wp_eqi (x2 := nI (sWt S i)) (VM_wt hV _ (by omega)).1 ?_
            refine Wp_iload d_M_fareOf_115 rfl ?_
            refine Wp_icmp_le d_M_fareOf_117 (fun h117 => ?_) (fun h117 => ?_)
            ·
              have g117 : (sWt S i) ≤ (mxb (sWt S) b i) := n_le h117 (by omega) (by omega)
              refine Wp_iload d_M_fareOf_130 rfl ?_
              refine Wp_istore (ls2 := [lr 33, li (nI b), li (nI (tld S i)), li (nI (tld S i)), li (nI (mnb (sWt S) b 100000000 i)), li (nI (mxb (sWt S) b i)), li (nI i), li (nI (tld S i))]) d_M_fareOf_132 rfl rfl rfl ?_
              refine Wp_iinc (z := nI (i + 1)) (ls2 := [lr 33, li (nI b), li (nI (tld S i)), li (nI (tld S i)), li (nI (mnb (sWt S) b 100000000 i)), li (nI (mxb (sWt S) b i)), li (nI (i + 1)), li (nI (tld S i))]) d_M_fareOf_134 rfl (nI_add i 1) rfl rfl rfl ?_
              refine Wp_goto d_M_fareOf_137 ?_
              have h9 := ih (i + 1) (li (nI (tld S i))) (by omega)
              rw [(show nI (mnb (tld S) b 100000000 (i + 1)) = nI (tld S i) by congr 1; show (if b.testBit i = true then _ else _) = _; rw [if_pos g42]; omega), (show nI (mxb (tld S) b (i + 1)) = nI (tld S i) by congr 1; show (if b.testBit i = true then _ else _) = _; rw [if_pos g42]; omega), (show nI (mnb (sWt S) b 100000000 (i + 1)) = nI (mnb (sWt S) b 100000000 i) by congr 1; show (if b.testBit i = true then _ else _) = _; rw [if_pos g42]; omega), (show nI (mxb (sWt S) b (i + 1)) = nI (mxb (sWt S) b i) by congr 1; show (if b.testBit i = true then _ else _) = _; rw [if_pos g42]; omega)] at h9
              exact h9
            ·
              have g117 : (mxb (sWt S) b i) < (sWt S i) := n_nle h117 (by omega) (by omega)
              refine Wp_aload_n d_M_fareOf_120 rfl ?_
              refine Wp_getr d_M_fareOf_121 fd_M_28 rfl rfl rfl ?_
              refine Wp_iload d_M_fareOf_124 rfl ?_
              refine Wp_ialdN (j := i) d_M_fareOf_126 rfl rfl rfl rfl (by omega) ?_
              refine Wp_eqi (x2 := S 40 i) (congrFun (hM.1.r 40) _) ?_
              refine Wp_eqi (x2 := nI (sWt S i)) (VM_wt hV _ (by omega)).1 ?_
              refine Wp_goto d_M_fareOf_127 ?_
              refine Wp_istore (ls2 := [lr 33, li (nI b), li (nI (tld S i)), li (nI (tld S i)), li (nI (mnb (sWt S) b 100000000 i)), li (nI (sWt S i)), li (nI i), li (nI (tld S i))]) d_M_fareOf_132 rfl rfl rfl ?_
              refine Wp_iinc (z := nI (i + 1)) (ls2 := [lr 33, li (nI b), li (nI (tld S i)), li (nI (tld S i)), li (nI (mnb (sWt S) b 100000000 i)), li (nI (sWt S i)), li (nI (i + 1)), li (nI (tld S i))]) d_M_fareOf_134 rfl (nI_add i 1) rfl rfl rfl ?_
              refine Wp_goto d_M_fareOf_137 ?_
              have h9 := ih (i + 1) (li (nI (tld S i))) (by omega)
              rw [(show nI (mnb (tld S) b 100000000 (i + 1)) = nI (tld S i) by congr 1; show (if b.testBit i = true then _ else _) = _; rw [if_pos g42]; omega), (show nI (mxb (tld S) b (i + 1)) = nI (tld S i) by congr 1; show (if b.testBit i = true then _ else _) = _; rw [if_pos g42]; omega), (show nI (mnb (sWt S) b 100000000 (i + 1)) = nI (mnb (sWt S) b 100000000 i) by congr 1; show (if b.testBit i = true then _ else _) = _; rw [if_pos g42]; omega), (show nI (mxb (sWt S) b (i + 1)) = nI (sWt S i) by congr 1; show (if b.testBit i = true then _ else _) = _; rw [if_pos g42]; omega)] at h9
              exact h9
          ·
            have g91 : (sWt S i) < (mnb (sWt S) b 100000000 i) := n_nle h91 (by omega) (by omega)
            refine Wp_aload_n d_M_fareOf_94 rfl ?_
            refine Wp_getr d_M_fareOf_95 fd_M_28 rfl rfl rfl ?_
            refine Wp_iload d_M_fareOf_98 rfl ?_
            refine Wp_ialdN (j := i) d_M_fareOf_100 rfl rfl rfl rfl (by omega) ?_
            refine Wp_eqi (x2 := S 40 i) (congrFun (hM.1.r 40) _) ?_
            refine Wp_eqi (x2 := nI (sWt S i)) (VM_wt hV _ (by omega)).1 ?_
            refine Wp_goto d_M_fareOf_101 ?_
            refine Wp_istore (ls2 := [lr 33, li (nI b), li (nI (tld S i)), li (nI (tld S i)), li (nI (sWt S i)), li (nI (mxb (sWt S) b i)), li (nI i), li (nI (tld S i))]) d_M_fareOf_106 rfl rfl rfl ?_
            refine Wp_aload_n d_M_fareOf_108 rfl ?_
            refine Wp_getr d_M_fareOf_109 fd_M_28 rfl rfl rfl ?_
            refine Wp_iload d_M_fareOf_112 rfl ?_
            refine Wp_ialdN (j := i) d_M_fareOf_114 rfl rfl rfl rfl (by omega) ?_
            refine Wp_eqi (x2 := S 40 i) (congrFun (hM.1.r 40) _) ?_
            refine Wp_eqi (x2 := nI (sWt S i)) (VM_wt hV _ (by omega)).1 ?_
            refine Wp_iload d_M_fareOf_115 rfl ?_
            refine Wp_icmp_le d_M_fareOf_117 (fun h117 => ?_) (fun h117 => ?_)
            ·
              have g117 : (sWt S i) ≤ (mxb (sWt S) b i) := n_le h117 (by omega) (by omega)
              refine Wp_iload d_M_fareOf_130 rfl ?_
              refine Wp_istore (ls2 := [lr 33, li (nI b), li (nI (tld S i)), li (nI (tld S i)), li (nI (sWt S i)), li (nI (mxb (sWt S) b i)), li (nI i), li (nI (tld S i))]) d_M_fareOf_132 rfl rfl rfl ?_
              refine Wp_iinc (z := nI (i + 1)) (ls2 := [lr 33, li (nI b), li (nI (tld S i)), li (nI (tld S i)), li (nI (sWt S i)), li (nI (mxb (sWt S) b i)), li (nI (i + 1)), li (nI (tld S i))]) d_M_fareOf_134 rfl (nI_add i 1) rfl rfl rfl ?_
              refine Wp_goto d_M_fareOf_137 ?_
              have h9 := ih (i + 1) (li (nI (tld S i))) (by omega)
              rw [(show nI (mnb (tld S) b 100000000 (i + 1)) = nI (tld S i) by congr 1; show (if b.testBit i = true then _ else _) = _; rw [if_pos g42]; omega), (show nI (mxb (tld S) b (i + 1)) = nI (tld S i) by congr 1; show (if b.testBit i = true then _ else _) = _; rw [if_pos g42]; omega), (show nI (mnb (sWt S) b 100000000 (i + 1)) = nI (sWt S i) by congr 1; show (if b.testBit i = true then _ else _) = _; rw [if_pos g42]; omega), (show nI (mxb (sWt S) b (i + 1)) = nI (mxb (sWt S) b i) by congr 1; show (if b.testBit i = true then _ else _) = _; rw [if_pos g42]; omega)] at h9
              exact h9
            ·
              have g117 : (mxb (sWt S) b i) < (sWt S i) := n_nle h117 (by omega) (by omega)
              refine Wp_aload_n d_M_fareOf_120 rfl ?_
              refine Wp_getr d_M_fareOf_121 fd_M_28 rfl rfl rfl ?_
              refine Wp_iload d_M_fareOf_124 rfl ?_
              refine Wp_ialdN (j := i) d_M_fareOf_126 rfl rfl rfl rfl (by omega) ?_
              refine Wp_eqi (x2 := S 40 i) (congrFun (hM.1.r 40) _) ?_
              refine Wp_eqi (x2 := nI (sWt S i)) (VM_wt hV _ (by omega)).1 ?_
              refine Wp_goto d_M_fareOf_127 ?_
              refine Wp_istore (ls2 := [lr 33, li (nI b), li (nI (tld S i)), li (nI (tld S i)), li (nI (sWt S i)), li (nI (sWt S i)), li (nI i), li (nI (tld S i))]) d_M_fareOf_132 rfl rfl rfl ?_
              refine Wp_iinc (z := nI (i + 1)) (ls2 := [lr 33, li (nI b), li (nI (tld S i)), li (nI (tld S i)), li (nI (sWt S i)), li (nI (sWt S i)), li (nI (i + 1)), li (nI (tld S i))]) d_M_fareOf_134 rfl (nI_add i 1) rfl rfl rfl ?_
              refine Wp_goto d_M_fareOf_137 ?_
              have h9 := ih (i + 1) (li (nI (tld S i))) (by omega)
              rw [(show nI (mnb (tld S) b 100000000 (i + 1)) = nI (tld S i) by congr 1; show (if b.testBit i = true then _ else _) = _; rw [if_pos g42]; omega), (show nI (mxb (tld S) b (i + 1)) = nI (tld S i) by congr 1; show (if b.testBit i = true then _ else _) = _; rw [if_pos g42]; omega), (show nI (mnb (sWt S) b 100000000 (i + 1)) = nI (sWt S i) by congr 1; show (if b.testBit i = true then _ else _) = _; rw [if_pos g42]; omega), (show nI (mxb (sWt S) b (i + 1)) = nI (sWt S i) by congr 1; show (if b.testBit i = true then _ else _) = _; rw [if_pos g42]; omega)] at h9
              exact h9
    ·
      refine Wp_if_eq d_M_fareOf_45 (fun _ => ?_) (fun q => absurd (by decide) q)
      refine Wp_iinc (z := nI (i + 1)) (ls2 := [lr 33, li (nI b), li (nI (mnb (tld S) b 100000000 i)), li (nI (mxb (tld S) b i)), li (nI (mnb (sWt S) b 100000000 i)), li (nI (mxb (sWt S) b i)), li (nI (i + 1)), u]) d_M_fareOf_134 rfl (nI_add i 1) rfl rfl rfl ?_
      refine Wp_goto d_M_fareOf_137 ?_
      have h9 := ih (i + 1) u (by omega)
      rw [(show nI (mnb (tld S) b 100000000 (i + 1)) = nI (mnb (tld S) b 100000000 i) by congr 1; show (if b.testBit i = true then _ else _) = _; rw [if_neg g42]), (show nI (mxb (tld S) b (i + 1)) = nI (mxb (tld S) b i) by congr 1; show (if b.testBit i = true then _ else _) = _; rw [if_neg g42]), (show nI (mnb (sWt S) b 100000000 (i + 1)) = nI (mnb (sWt S) b 100000000 i) by congr 1; show (if b.testBit i = true then _ else _) = _; rw [if_neg g42]), (show nI (mxb (sWt S) b (i + 1)) = nI (mxb (sWt S) b i) by congr 1; show (if b.testBit i = true then _ else _) = _; rw [if_neg g42])] at h9
      exact h9
set_option maxRecDepth 100000 in
set_option maxHeartbeats 4000000 in
theorem t_M_fareOf (E : mE) (d : Nat) (hd : 1 ≤ d) (w : mw) (S : mw) (hM : MP w S) (hV : VM S) (b : Nat) (hb0 : 0 < b) (hb : b < 2 ^ pN S) : Td E d m_M_fareOf [vr 33, vi (nI b)] w (nI (fareS S b)) w := by
  refine ⟨Nat.le_of_ble_eq_true rfl, ?_⟩
  show Wp E d m_M_fareOf 0 [lr 33, li (nI b), lo, lo, lo, lo, lo, lo] [] w _
  have hp := (pN_ok S).1
  have hlt0 := two10 hp
  have hpl := popc_le b
  refine Wp_iload_n d_M_fareOf_0 rfl ?_
  refine Wp_ivs_d (As := [vi (nI b)]) d_M_fareOf_1 ln_M_173 mk_M_ones rfl rfl rfl (by omega) (t_M_ones E (d - 1) (by omega) w b (by omega)) ?_
  refine Wp_iconst (x := 1) d_M_fareOf_4 (by decide) ?_
  refine Wp_icmp_ne d_M_fareOf_5 (fun h5 => ?_) (fun h5 => ?_)
  ·
    have g5 : (popc b) ≠ 1 := n_ne h5 (by omega) (by omega)
    refine Wp_ldc (x := 100000000) d_M_fareOf_15 kc_M_176 ?_
    refine Wp_istore_n (ls2 := [lr 33, li (nI b), li 100000000, lo, lo, lo, lo, lo]) d_M_fareOf_17 rfl rfl rfl ?_
    refine Wp_iconst (x := 0) d_M_fareOf_18 (by decide) ?_
    refine Wp_istore_n (ls2 := [lr 33, li (nI b), li 100000000, li 0, lo, lo, lo, lo]) d_M_fareOf_19 rfl rfl rfl ?_
    refine Wp_ldc (x := 100000000) d_M_fareOf_20 kc_M_176 ?_
    refine Wp_istore (ls2 := [lr 33, li (nI b), li 100000000, li 0, li 100000000, lo, lo, lo]) d_M_fareOf_22 rfl rfl rfl ?_
    refine Wp_iconst (x := 0) d_M_fareOf_24 (by decide) ?_
    refine Wp_istore (ls2 := [lr 33, li (nI b), li 100000000, li 0, li 100000000, li 0, lo, lo]) d_M_fareOf_25 rfl rfl rfl ?_
    refine Wp_iconst (x := 0) d_M_fareOf_27 (by decide) ?_
    refine Wp_istore (ls2 := [lr 33, li (nI b), li 100000000, li 0, li 100000000, li 0, li 0, lo]) d_M_fareOf_28 rfl rfl rfl ?_
    have hlt := two10 hp
    refine l_M_fareOf E d (by omega) w S hM hV b (by omega) none _ (fun u => ?_) (pN S) 0 none (by omega)
    have hset := (VM_set hV).1 1 (by omega)
    have hset2 : sSet S 1 ≤ 2 := hset.2
    have hpc := popc_pN hb hp
    have hpp := popc_pos b (by omega) hb0
    have hm1 := mn_mx (f := tld S) (b := b) (M := 100000000) (pN S) (by omega)
    have hm2 := mn_mx (f := sWt S) (b := b) (M := 100000000) (pN S) (by omega)
    refine Wp_aload_n d_M_fareOf_140 rfl ?_
    refine Wp_getr d_M_fareOf_141 fd_M_37 rfl rfl rfl ?_
    refine Wp_iconst (x := 1) d_M_fareOf_144 (by decide) ?_
    refine Wp_ialdN (j := 1) d_M_fareOf_145 rfl rfl rfl rfl (by decide) ?_
    refine Wp_eqi (x2 := S 43 1) (congrFun (hM.1.r 43) _) ?_
    refine Wp_eqi (x2 := nI (sSet S 1)) ((VM_set hV).1 _ (by omega)).1 ?_
    refine Wp_iconst (x := 1) d_M_fareOf_146 (by decide) ?_
    refine Wp_icmp_ne d_M_fareOf_147 (fun h147 => ?_) (fun h147 => ?_)
    ·
      have g147 : (sSet S 1) ≠ 1 := n_ne h147 (by omega) (by omega)
      refine Wp_iload_n d_M_fareOf_154 rfl ?_
      refine Wp_iload_n d_M_fareOf_155 rfl ?_
      refine Wp_isub d_M_fareOf_156 ?_
      refine Wp_eqi (x2 := nI (mxb (tld S) b (pN S) - mnb (tld S) b 100000000 (pN S))) (pk_sub hm1) ?_
      refine Wp_aload_n d_M_fareOf_157 rfl ?_
      refine Wp_getr d_M_fareOf_158 fd_M_37 rfl rfl rfl ?_
      refine Wp_iconst (x := 1) d_M_fareOf_161 (by decide) ?_
      refine Wp_ialdN (j := 1) d_M_fareOf_162 rfl rfl rfl rfl (by decide) ?_
      refine Wp_eqi (x2 := S 43 1) (congrFun (hM.1.r 43) _) ?_
      refine Wp_eqi (x2 := nI (sSet S 1)) ((VM_set hV).1 _ (by omega)).1 ?_
      refine Wp_if_ne d_M_fareOf_163 (fun h163 => ?_) (fun h163 => ?_)
      ·
        have g163 : (sSet S 1) ≠ 0 := n_ne h163 (by omega) (by omega)
        refine Wp_iload d_M_fareOf_170 rfl ?_
        refine Wp_iload d_M_fareOf_172 rfl ?_
        refine Wp_isub d_M_fareOf_174 ?_
        refine Wp_eqi (x2 := nI (mxb (sWt S) b (pN S) - mnb (sWt S) b 100000000 (pN S))) (pk_sub hm2) ?_
        refine Wp_iadd d_M_fareOf_175 ?_
        refine Wp_eqi (x2 := nI ((mxb (tld S) b (pN S) - mnb (tld S) b 100000000 (pN S)) + (mxb (sWt S) b (pN S) - mnb (sWt S) b 100000000 (pN S)))) (nI_add (mxb (tld S) b (pN S) - mnb (tld S) b 100000000 (pN S)) (mxb (sWt S) b (pN S) - mnb (sWt S) b 100000000 (pN S))) ?_
        refine Wp_reti (ty := .int) d_M_fareOf_176 rfl rfl ?_
        refine ⟨?_, rfl⟩
        rw [fareS_pN hb g5 (by omega), if_neg g147, if_neg g163]
        all_goals (first | rfl | (congr 1; omega))
      ·
        have g163 : (sSet S 1) = 0 := n_eq h163 (by omega) (by omega)
        refine Wp_iconst (x := 0) d_M_fareOf_166 (by decide) ?_
        refine Wp_goto d_M_fareOf_167 ?_
        refine Wp_iadd d_M_fareOf_175 ?_
        refine Wp_eqi (x2 := nI ((mxb (tld S) b (pN S) - mnb (tld S) b 100000000 (pN S)) + 0)) (nI_add (mxb (tld S) b (pN S) - mnb (tld S) b 100000000 (pN S)) 0) ?_
        refine Wp_reti (ty := .int) d_M_fareOf_176 rfl rfl ?_
        refine ⟨?_, rfl⟩
        rw [fareS_pN hb g5 (by omega), if_neg g147, if_pos g163]
        all_goals (first | rfl | (congr 1; omega))
    ·
      have g147 : (sSet S 1) = 1 := n_eq h147 (by omega) (by omega)
      refine Wp_iconst (x := 0) d_M_fareOf_150 (by decide) ?_
      refine Wp_goto d_M_fareOf_151 ?_
      refine Wp_aload_n d_M_fareOf_157 rfl ?_
      refine Wp_getr d_M_fareOf_158 fd_M_37 rfl rfl rfl ?_
      refine Wp_iconst (x := 1) d_M_fareOf_161 (by decide) ?_
      refine Wp_ialdN (j := 1) d_M_fareOf_162 rfl rfl rfl rfl (by decide) ?_
      refine Wp_eqi (x2 := S 43 1) (congrFun (hM.1.r 43) _) ?_
      refine Wp_eqi (x2 := nI (sSet S 1)) ((VM_set hV).1 _ (by omega)).1 ?_
      refine Wp_if_ne d_M_fareOf_163 (fun h163 => ?_) (fun h163 => ?_)
      ·
        have g163 : (sSet S 1) ≠ 0 := n_ne h163 (by omega) (by omega)
        refine Wp_iload d_M_fareOf_170 rfl ?_
        refine Wp_iload d_M_fareOf_172 rfl ?_
        refine Wp_isub d_M_fareOf_174 ?_
        refine Wp_eqi (x2 := nI (mxb (sWt S) b (pN S) - mnb (sWt S) b 100000000 (pN S))) (pk_sub hm2) ?_
        refine Wp_iadd d_M_fareOf_175 ?_
        refine Wp_eqi (x2 := nI (0 + (mxb (sWt S) b (pN S) - mnb (sWt S) b 100000000 (pN S)))) (nI_add 0 (mxb (sWt S) b (pN S) - mnb (sWt S) b 100000000 (pN S))) ?_
        refine Wp_reti (ty := .int) d_M_fareOf_176 rfl rfl ?_
        refine ⟨?_, rfl⟩
        rw [fareS_pN hb g5 (by omega), if_pos g147, if_neg g163]
        all_goals (first | rfl | (congr 1; omega))
      ·
        have g163 : (sSet S 1) = 0 := n_eq h163 (by omega) (by omega)
        refine Wp_iconst (x := 0) d_M_fareOf_166 (by decide) ?_
        refine Wp_goto d_M_fareOf_167 ?_
        refine Wp_iadd d_M_fareOf_175 ?_
        refine Wp_eqi (x2 := 0) (by decide) ?_
        refine Wp_reti (ty := .int) d_M_fareOf_176 rfl rfl ?_
        refine ⟨?_, rfl⟩
        rw [fareS_pN hb g5 (by omega), if_pos g147, if_pos g163]
        all_goals (first | rfl | (congr 1; omega))
  ·
    have g5 : (popc b) = 1 := n_eq h5 (by omega) (by omega)
    refine Wp_aload_n d_M_fareOf_8 rfl ?_
    refine Wp_getr d_M_fareOf_9 fd_M_37 rfl rfl rfl ?_
    refine Wp_iconst (x := 2) d_M_fareOf_12 (by decide) ?_
    refine Wp_ialdN (j := 2) d_M_fareOf_13 rfl rfl rfl rfl (by decide) ?_
    refine Wp_eqi (x2 := S 43 2) (congrFun (hM.1.r 43) _) ?_
    refine Wp_eqi (x2 := nI (sSet S 2)) ((VM_set hV).1 _ (by omega)).1 ?_
    refine Wp_reti (ty := .int) d_M_fareOf_14 rfl rfl ?_
    refine ⟨?_, rfl⟩
    unfold fareS; rw [if_pos g5]
set_option maxRecDepth 100000 in
set_option maxHeartbeats 4000000 in
theorem l_M_costOf (E : mE) (d : Nat) (hd : 2 ≤ d) (w S : mw) (hM : MP w S) (hV : VM S) (b : Nat) (hb : b < 1024) (Q : Option mv → mw → Prop) (hk : Wp E d m_M_costOf 64 [lr 33, li (nI b), li (nI (mxb (sHr S) b (pN S))), li (nI (smb (sHr S) b (pN S))), li (nI (pN S))] [] w Q) : ∀ (k i : Nat), i + k = pN S → Wp E d m_M_costOf 7 [lr 33, li (nI b), li (nI (mxb (sHr S) b i)), li (nI (smb (sHr S) b i)), li (nI i)] [] w Q := by
  intro k
  induction k with
  | zero =>
    intro i hi
    have hp := (pN_ok S).1
    have hb1 := mxb_le (f := sHr S) (b := b) i (fun j q => (VM_hr hV j (by omega)).2)
    have hb2 := smb_le (f := sHr S) (b := b) i (fun j q => (VM_hr hV j (by omega)).2)
    refine Wp_iload d_M_costOf_7 rfl ?_
    refine Wp_aload_n d_M_costOf_9 rfl ?_
    refine Wp_getf d_M_costOf_10 fd_M_125 rfl rfl rfl ?_
    refine Wp_eqi (x2 := nI (pN S)) hM.2.1 ?_
    refine Wp_icmp_ge d_M_costOf_13 (fun h13 => ?_) (fun q => absurd (n_nle q (by omega) (by omega)) (by omega))
    have hin : i = pN S := by omega
    subst hin
    exact hk
  | succ k ih =>
    intro i hi
    have hp := (pN_ok S).1
    have hb1 := mxb_le (f := sHr S) (b := b) i (fun j q => (VM_hr hV j (by omega)).2)
    have hb2 := smb_le (f := sHr S) (b := b) i (fun j q => (VM_hr hV j (by omega)).2)
    have hhl := (VM_hr hV i (by omega)).2
    refine Wp_iload d_M_costOf_7 rfl ?_
    refine Wp_aload_n d_M_costOf_9 rfl ?_
    refine Wp_getf d_M_costOf_10 fd_M_125 rfl rfl rfl ?_
    refine Wp_eqi (x2 := nI (pN S)) hM.2.1 ?_
    refine Wp_icmp_ge d_M_costOf_13 (fun q => absurd (n_le q (by omega) (by omega)) (by omega)) (fun h13 => ?_)
    refine Wp_iload_n d_M_costOf_16 rfl ?_
    refine Wp_iload d_M_costOf_17 rfl ?_
    refine Wp_ivs_b (As := [vi (nI b), vi (nI i)]) d_M_costOf_19 ln_M_177 mk_M_isIn rfl rfl rfl (by omega) (t_M_isIn E (d - 1) (by omega) w b i (by omega) (by omega)) (fun g19 => ?_) (fun g19 => ?_)
    ·
      refine Wp_if_eq d_M_costOf_22 (fun q => absurd q (by decide)) (fun _ => ?_)
      refine Wp_aload_n d_M_costOf_25 rfl ?_
      refine Wp_getr d_M_costOf_26 fd_M_31 rfl rfl rfl ?_
      refine Wp_iload d_M_costOf_29 rfl ?_
      refine Wp_ialdN (j := i) d_M_costOf_31 rfl rfl rfl rfl (by omega) ?_
      refine Wp_eqi (x2 := S 41 i) (congrFun (hM.1.r 41) _) ?_
      refine Wp_eqi (x2 := nI (sHr S i)) (VM_hr hV _ (by omega)).1 ?_
      refine Wp_iload_n d_M_costOf_32 rfl ?_
      refine Wp_icmp_le d_M_costOf_33 (fun h33 => ?_) (fun h33 => ?_)
      ·
        have g33 : (sHr S i) ≤ (mxb (sHr S) b i) := n_le h33 (by omega) (by omega)
        refine Wp_iload_n d_M_costOf_46 rfl ?_
        refine Wp_istore_n (ls2 := [lr 33, li (nI b), li (nI (mxb (sHr S) b i)), li (nI (smb (sHr S) b i)), li (nI i)]) d_M_costOf_47 rfl rfl rfl ?_
        refine Wp_iload_n d_M_costOf_48 rfl ?_
        refine Wp_aload_n d_M_costOf_49 rfl ?_
        refine Wp_getr d_M_costOf_50 fd_M_31 rfl rfl rfl ?_
        refine Wp_iload d_M_costOf_53 rfl ?_
        refine Wp_ialdN (j := i) d_M_costOf_55 rfl rfl rfl rfl (by omega) ?_
        refine Wp_eqi (x2 := S 41 i) (congrFun (hM.1.r 41) _) ?_
        refine Wp_eqi (x2 := nI (sHr S i)) (VM_hr hV _ (by omega)).1 ?_
        refine Wp_iadd d_M_costOf_56 ?_
        refine Wp_eqi (x2 := nI ((smb (sHr S) b i) + (sHr S i))) (nI_add (smb (sHr S) b i) (sHr S i)) ?_
        refine Wp_istore_n (ls2 := [lr 33, li (nI b), li (nI (mxb (sHr S) b i)), li (nI ((smb (sHr S) b i) + (sHr S i))), li (nI i)]) d_M_costOf_57 rfl rfl rfl ?_
        refine Wp_iinc (z := nI (i + 1)) (ls2 := [lr 33, li (nI b), li (nI (mxb (sHr S) b i)), li (nI ((smb (sHr S) b i) + (sHr S i))), li (nI (i + 1))]) d_M_costOf_58 rfl (nI_add i 1) rfl rfl rfl ?_
        refine Wp_goto d_M_costOf_61 ?_
        have h9 := ih (i + 1) (by omega)
        rw [(show nI (mxb (sHr S) b (i + 1)) = nI (mxb (sHr S) b i) by congr 1; show (if b.testBit i = true then _ else _) = _; first | (rw [if_pos g19]; all_goals (first | rfl | omega)) | (rw [if_neg g19]; all_goals (first | rfl | omega))), (show nI (smb (sHr S) b (i + 1)) = nI ((smb (sHr S) b i) + (sHr S i)) by congr 1; show (if b.testBit i = true then _ else _) = _; first | (rw [if_pos g19]; all_goals (first | rfl | omega)) | (rw [if_neg g19]; all_goals (first | rfl | omega)))] at h9
        exact h9
      ·
        have g33 : (mxb (sHr S) b i) < (sHr S i) := n_nle h33 (by omega) (by omega)
        refine Wp_aload_n d_M_costOf_36 rfl ?_
        refine Wp_getr d_M_costOf_37 fd_M_31 rfl rfl rfl ?_
        refine Wp_iload d_M_costOf_40 rfl ?_
        refine Wp_ialdN (j := i) d_M_costOf_42 rfl rfl rfl rfl (by omega) ?_
        refine Wp_eqi (x2 := S 41 i) (congrFun (hM.1.r 41) _) ?_
        refine Wp_eqi (x2 := nI (sHr S i)) (VM_hr hV _ (by omega)).1 ?_
        refine Wp_goto d_M_costOf_43 ?_
        refine Wp_istore_n (ls2 := [lr 33, li (nI b), li (nI (sHr S i)), li (nI (smb (sHr S) b i)), li (nI i)]) d_M_costOf_47 rfl rfl rfl ?_
        refine Wp_iload_n d_M_costOf_48 rfl ?_
        refine Wp_aload_n d_M_costOf_49 rfl ?_
        refine Wp_getr d_M_costOf_50 fd_M_31 rfl rfl rfl ?_
        refine Wp_iload d_M_costOf_53 rfl ?_
        refine Wp_ialdN (j := i) d_M_costOf_55 rfl rfl rfl rfl (by omega) ?_
        refine Wp_eqi (x2 := S 41 i) (congrFun (hM.1.r 41) _) ?_
        refine Wp_eqi (x2 := nI (sHr S i)) (VM_hr hV _ (by omega)).1 ?_
        refine Wp_iadd d_M_costOf_56 ?_
        refine Wp_eqi (x2 := nI ((smb (sHr S) b i) + (sHr S i))) (nI_add (smb (sHr S) b i) (sHr S i)) ?_
        refine Wp_istore_n (ls2 := [lr 33, li (nI b), li (nI (sHr S i)), li (nI ((smb (sHr S) b i) + (sHr S i))), li (nI i)]) d_M_costOf_57 rfl rfl rfl ?_
        refine Wp_iinc (z := nI (i + 1)) (ls2 := [lr 33, li (nI b), li (nI (sHr S i)), li (nI ((smb (sHr S) b i) + (sHr S i))), li (nI (i + 1))]) d_M_costOf_58 rfl (nI_add i 1) rfl rfl rfl ?_
        refine Wp_goto d_M_costOf_61 ?_
        have h9 := ih (i + 1) (by omega)
        rw [(show nI (mxb (sHr S) b (i + 1)) = nI (sHr S i) by congr 1; show (if b.testBit i = true then _ else _) = _; first | (rw [if_pos g19]; all_goals (first | rfl | omega)) | (rw [if_neg g19]; all_goals (first | rfl | omega))), (show nI (smb (sHr S) b (i + 1)) = nI ((smb (sHr S) b i) + (sHr S i)) by congr 1; show (if b.testBit i = true then _ else _) = _; first | (rw [if_pos g19]; all_goals (first | rfl | omega)) | (rw [if_neg g19]; all_goals (first | rfl | omega)))] at h9
        exact h9
    ·
      refine Wp_if_eq d_M_costOf_22 (fun _ => ?_) (fun q => absurd (by decide) q)
      refine Wp_iinc (z := nI (i + 1)) (ls2 := [lr 33, li (nI b), li (nI (mxb (sHr S) b i)), li (nI (smb (sHr S) b i)), li (nI (i + 1))]) d_M_costOf_58 rfl (nI_add i 1) rfl rfl rfl ?_
      refine Wp_goto d_M_costOf_61 ?_
      have h9 := ih (i + 1) (by omega)
      rw [(show nI (mxb (sHr S) b (i + 1)) = nI (mxb (sHr S) b i) by congr 1; show (if b.testBit i = true then _ else _) = _; first | (rw [if_pos g19]; all_goals (first | rfl | omega)) | (rw [if_neg g19]; all_goals (first | rfl | omega))), (show nI (smb (sHr S) b (i + 1)) = nI (smb (sHr S) b i) by congr 1; show (if b.testBit i = true then _ else _) = _; first | (rw [if_pos g19]; all_goals (first | rfl | omega)) | (rw [if_neg g19]; all_goals (first | rfl | omega)))] at h9
      exact h9
set_option maxRecDepth 100000 in
set_option maxHeartbeats 4000000 in
theorem t_M_costOf (E : mE) (d : Nat) (hd : 2 ≤ d) (w : mw) (S : mw) (hM : MP w S) (hV : VM S) (b : Nat) (hb0 : 0 < b) (hb : b < 2 ^ pN S) : Td E d m_M_costOf [vr 33, vi (nI b)] w (nI (costS S b)) w := by
  refine ⟨Nat.le_of_ble_eq_true rfl, ?_⟩
  show Wp E d m_M_costOf 0 [lr 33, li (nI b), lo, lo, lo] [] w _
  have hp := (pN_ok S).1
  have hlt0 := two10 hp
  have hpl := popc_le b
  refine Wp_iconst (x := 0) d_M_costOf_0 (by decide) ?_
  refine Wp_istore_n (ls2 := [lr 33, li (nI b), li 0, lo, lo]) d_M_costOf_1 rfl rfl rfl ?_
  refine Wp_iconst (x := 0) d_M_costOf_2 (by decide) ?_
  refine Wp_istore_n (ls2 := [lr 33, li (nI b), li 0, li 0, lo]) d_M_costOf_3 rfl rfl rfl ?_
  refine Wp_iconst (x := 0) d_M_costOf_4 (by decide) ?_
  refine Wp_istore (ls2 := [lr 33, li (nI b), li 0, li 0, li 0]) d_M_costOf_5 rfl rfl rfl ?_
  refine l_M_costOf E d (by omega) w S hM hV b (by omega) _ ?_ (pN S) 0 (by omega)
  have hsx := smb_mx (f := sHr S) (b := b) (pN S)
  rw [← popc_pN hb hp] at hsx
  refine Wp_aload_n d_M_costOf_64 rfl ?_
  refine Wp_iload_n d_M_costOf_65 rfl ?_
  refine Wp_ivv_d (o := 33) (As := [vi (nI b)]) d_M_costOf_66 ln_M_181 mk_M_fareOf rfl rfl rfl rfl rfl (by omega) (t_M_fareOf E (d - 1) (by omega) w S hM hV b (by omega) (by omega)) ?_
  refine Wp_aload_n d_M_costOf_69 rfl ?_
  refine Wp_getr d_M_costOf_70 fd_M_37 rfl rfl rfl ?_
  refine Wp_iconst (x := 3) d_M_costOf_73 (by decide) ?_
  refine Wp_ialdN (j := 3) d_M_costOf_74 rfl rfl rfl rfl (by decide) ?_
  refine Wp_eqi (x2 := S 43 3) (congrFun (hM.1.r 43) _) ?_
  refine Wp_eqi (x2 := nI (sSet S 3)) ((VM_set hV).1 _ (by omega)).1 ?_
  refine Wp_iload_n d_M_costOf_75 rfl ?_
  refine Wp_ivs_d (As := [vi (nI b)]) d_M_costOf_76 ln_M_173 mk_M_ones rfl rfl rfl (by omega) (t_M_ones E (d - 1) (by omega) w b (by omega)) ?_
  refine Wp_iload_n d_M_costOf_79 rfl ?_
  refine Wp_imul d_M_costOf_80 ?_
  refine Wp_eqi (x2 := nI ((popc b) * (mxb (sHr S) b (pN S)))) (pk_mul (popc b) (mxb (sHr S) b (pN S))) ?_
  refine Wp_iload_n d_M_costOf_81 rfl ?_
  refine Wp_isub d_M_costOf_82 ?_
  refine Wp_eqi (x2 := nI (popc b * mxb (sHr S) b (pN S) - smb (sHr S) b (pN S))) (pk_sub hsx) ?_
  refine Wp_imul d_M_costOf_83 ?_
  refine Wp_eqi (x2 := nI ((sSet S 3) * (popc b * mxb (sHr S) b (pN S) - smb (sHr S) b (pN S)))) (pk_mul (sSet S 3) (popc b * mxb (sHr S) b (pN S) - smb (sHr S) b (pN S))) ?_
  refine Wp_iadd d_M_costOf_84 ?_
  refine Wp_eqi (x2 := nI ((fareS S b) + ((sSet S 3) * (popc b * mxb (sHr S) b (pN S) - smb (sHr S) b (pN S))))) (nI_add (fareS S b) ((sSet S 3) * (popc b * mxb (sHr S) b (pN S) - smb (sHr S) b (pN S)))) ?_
  refine Wp_reti (ty := .int) d_M_costOf_85 rfl rfl ?_
  exact ⟨by rw [costS_pN hb], rfl⟩
def bi (g : Bool) : Int32 := if g = true then 1 else 0
set_option maxRecDepth 100000 in
set_option maxHeartbeats 4000000 in
theorem l_M_go (E : mE) (d : Nat) (hd : 1 ≤ d) (w S : mw) (hM : MP w S) (hV : VM S) (b : Nat) (hb : b < 2 ^ pN S) : ∀ (k i : Nat), i + k = pN S → Wp E d m_M_goTogether 21 [lr 33, li (nI b), li (bi (decide (popc b ≤ sSet S 0) && okw S b i)), li (nI i)] [] w (mPi (fun r w1 => ((r = 1 ∧ okS S b = true) ∨ (r = 0 ∧ ¬ okS S b = true)) ∧ w1 = w)) := by
  intro k
  induction k with
  | zero =>
    intro i hi
    have hp := (pN_ok S).1
    have hlt := two10 hp
    have hin : i = pN S := by omega
    subst hin
    have hok : okS S b = (decide (popc b ≤ sSet S 0) && okw S b (pN S)) := by unfold okS; rw [top10 (okw_top hb) hp]
    rw [hok]
    cases (decide (popc b ≤ sSet S 0) && okw S b (pN S))
    · show Wp E d m_M_goTogether 21 [lr 33, li (nI b), li 0, li (nI (pN S))] [] w _
      refine Wp_iload_n d_M_goTogether_21 rfl ?_
      refine Wp_aload_n d_M_goTogether_22 rfl ?_
      refine Wp_getf d_M_goTogether_23 fd_M_125 rfl rfl rfl ?_
      refine Wp_eqi (x2 := nI (pN S)) hM.2.1 ?_
      refine Wp_icmp_ge d_M_goTogether_26 (fun h26 => ?_) (fun q => absurd (n_nle q (by omega) (by omega)) (by omega))
      refine Wp_iload_n d_M_goTogether_64 rfl ?_
      refine Wp_reti (ty := .boolean) d_M_goTogether_65 rfl rfl ?_
      exact ⟨Or.inr ⟨rfl, (by decide)⟩, rfl⟩
    · show Wp E d m_M_goTogether 21 [lr 33, li (nI b), li 1, li (nI (pN S))] [] w _
      refine Wp_iload_n d_M_goTogether_21 rfl ?_
      refine Wp_aload_n d_M_goTogether_22 rfl ?_
      refine Wp_getf d_M_goTogether_23 fd_M_125 rfl rfl rfl ?_
      refine Wp_eqi (x2 := nI (pN S)) hM.2.1 ?_
      refine Wp_icmp_ge d_M_goTogether_26 (fun h26 => ?_) (fun q => absurd (n_nle q (by omega) (by omega)) (by omega))
      refine Wp_iload_n d_M_goTogether_64 rfl ?_
      refine Wp_reti (ty := .boolean) d_M_goTogether_65 rfl rfl ?_
      exact ⟨Or.inl ⟨rfl, rfl⟩, rfl⟩
  | succ k ih =>
    intro i hi
    have hp := (pN_ok S).1
    have hlt := two10 hp
    have hwo := (VM_wo hV i (by omega)).2
    have h9 := ih (i + 1) (by omega)
    have hst : (decide (popc b ≤ sSet S 0) && okw S b (i + 1)) = ((decide (popc b ≤ sSet S 0) && okw S b i) && (!(b.testBit i) || (sWo S i &&& b) == 0)) := by
      show (_ && (okw S b i && _)) = _
      rw [Bool.and_assoc]
    rw [hst] at h9
    have hle : sWo S i &&& b ≤ b := Nat.and_le_right
    generalize (decide (popc b ≤ sSet S 0) && okw S b i) = g at h9 ⊢
    cases g
    · show Wp E d m_M_goTogether 21 [lr 33, li (nI b), li 0, li (nI i)] [] w _
      refine Wp_iload_n d_M_goTogether_21 rfl ?_
      refine Wp_aload_n d_M_goTogether_22 rfl ?_
      refine Wp_getf d_M_goTogether_23 fd_M_125 rfl rfl rfl ?_
      refine Wp_eqi (x2 := nI (pN S)) hM.2.1 ?_
      refine Wp_icmp_ge d_M_goTogether_26 (fun q => absurd (n_le q (by omega) (by omega)) (by omega)) (fun h26 => ?_)
      refine Wp_iload_n d_M_goTogether_29 rfl ?_
      refine Wp_if_eq d_M_goTogether_30 (fun _ => ?_) (fun q => absurd (by decide) q)
      refine Wp_iconst (x := 0) d_M_goTogether_56 (by decide) ?_
      refine Wp_istore_n (ls2 := [lr 33, li (nI b), li 0, li (nI i)]) d_M_goTogether_57 rfl rfl rfl ?_
      refine Wp_iinc (z := nI (i + 1)) (ls2 := [lr 33, li (nI b), li 0, li (nI (i + 1))]) d_M_goTogether_58 rfl (nI_add i 1) rfl rfl rfl ?_
      refine Wp_goto d_M_goTogether_61 ?_
      exact h9
    · show Wp E d m_M_goTogether 21 [lr 33, li (nI b), li 1, li (nI i)] [] w _
      refine Wp_iload_n d_M_goTogether_21 rfl ?_
      refine Wp_aload_n d_M_goTogether_22 rfl ?_
      refine Wp_getf d_M_goTogether_23 fd_M_125 rfl rfl rfl ?_
      refine Wp_eqi (x2 := nI (pN S)) hM.2.1 ?_
      refine Wp_icmp_ge d_M_goTogether_26 (fun q => absurd (n_le q (by omega) (by omega)) (by omega)) (fun h26 => ?_)
      refine Wp_iload_n d_M_goTogether_29 rfl ?_
      refine Wp_if_eq d_M_goTogether_30 (fun q => absurd q (by decide)) (fun _ => ?_)
      refine Wp_iload_n d_M_goTogether_33 rfl ?_
      refine Wp_iload_n d_M_goTogether_34 rfl ?_
      refine Wp_ivs_b (As := [vi (nI b), vi (nI i)]) d_M_goTogether_35 ln_M_177 mk_M_isIn rfl rfl rfl (by omega) (t_M_isIn E (d - 1) (by omega) w b i (by omega) (by omega)) (fun g35 => ?_) (fun g35 => ?_)
      ·
        refine Wp_if_eq d_M_goTogether_38 (fun q => absurd q (by decide)) (fun _ => ?_)
        refine Wp_aload_n d_M_goTogether_41 rfl ?_
        refine Wp_getr d_M_goTogether_42 fd_M_40 rfl rfl rfl ?_
        refine Wp_iload_n d_M_goTogether_45 rfl ?_
        refine Wp_ialdN (j := i) d_M_goTogether_46 rfl rfl rfl rfl (by omega) ?_
        refine Wp_eqi (x2 := S 44 i) (congrFun (hM.1.r 44) _) ?_
        refine Wp_eqi (x2 := nI (sWo S i)) (VM_wo hV _ (by omega)).1 ?_
        refine Wp_iload_n d_M_goTogether_47 rfl ?_
        refine Wp_iand d_M_goTogether_48 ?_
        refine Wp_eqi (x2 := nI ((sWo S i) &&& b)) (nI_and (sWo S i) b) ?_
        refine Wp_if_ne d_M_goTogether_49 (fun h49 => ?_) (fun h49 => ?_)
        ·
          have g49 : ((sWo S i) &&& b) ≠ 0 := n_ne h49 (by omega) (by omega)
          refine Wp_iconst (x := 0) d_M_goTogether_56 (by decide) ?_
          refine Wp_istore_n (ls2 := [lr 33, li (nI b), li 0, li (nI i)]) d_M_goTogether_57 rfl rfl rfl ?_
          refine Wp_iinc (z := nI (i + 1)) (ls2 := [lr 33, li (nI b), li 0, li (nI (i + 1))]) d_M_goTogether_58 rfl (nI_add i 1) rfl rfl rfl ?_
          refine Wp_goto d_M_goTogether_61 ?_
          rw [g35, show ((sWo S i &&& b) == 0) = false by simpa using g49] at h9
          exact h9
        ·
          have g49 : ((sWo S i) &&& b) = 0 := n_eq h49 (by omega) (by omega)
          refine Wp_iconst (x := 1) d_M_goTogether_52 (by decide) ?_
          refine Wp_goto d_M_goTogether_53 ?_
          refine Wp_istore_n (ls2 := [lr 33, li (nI b), li 1, li (nI i)]) d_M_goTogether_57 rfl rfl rfl ?_
          refine Wp_iinc (z := nI (i + 1)) (ls2 := [lr 33, li (nI b), li 1, li (nI (i + 1))]) d_M_goTogether_58 rfl (nI_add i 1) rfl rfl rfl ?_
          refine Wp_goto d_M_goTogether_61 ?_
          rw [g35, g49] at h9
          exact h9
      ·
        refine Wp_if_eq d_M_goTogether_38 (fun _ => ?_) (fun q => absurd (by decide) q)
        refine Wp_iconst (x := 1) d_M_goTogether_52 (by decide) ?_
        refine Wp_goto d_M_goTogether_53 ?_
        refine Wp_istore_n (ls2 := [lr 33, li (nI b), li 1, li (nI i)]) d_M_goTogether_57 rfl rfl rfl ?_
        refine Wp_iinc (z := nI (i + 1)) (ls2 := [lr 33, li (nI b), li 1, li (nI (i + 1))]) d_M_goTogether_58 rfl (nI_add i 1) rfl rfl rfl ?_
        refine Wp_goto d_M_goTogether_61 ?_
        have g35 : b.testBit i = false := by simpa using g35
        rw [g35] at h9
        exact h9
set_option maxRecDepth 100000 in
set_option maxHeartbeats 4000000 in
theorem t_M_goTogether (E : mE) (d : Nat) (hd : 1 ≤ d) (w : mw) (S : mw) (hM : MP w S) (hV : VM S) (b : Nat) (hb0 : 0 < b) (hb : b < 2 ^ pN S) : Tb E d m_M_goTogether [vr 33, vi (nI b)] w (okS S b = true) := by
  refine ⟨Nat.le_of_ble_eq_true rfl, ?_⟩
  show Wp E d m_M_goTogether 0 [lr 33, li (nI b), lo, lo] [] w _
  have hp := (pN_ok S).1
  have hlt0 := two10 hp
  have hpl := popc_le b
  have hs0 : sSet S 0 ≤ 4 := ((VM_set hV).1 0 (by omega)).2
  refine Wp_iload_n d_M_goTogether_0 rfl ?_
  refine Wp_ivs_d (As := [vi (nI b)]) d_M_goTogether_1 ln_M_173 mk_M_ones rfl rfl rfl (by omega) (t_M_ones E (d - 1) (by omega) w b (by omega)) ?_
  refine Wp_aload_n d_M_goTogether_4 rfl ?_
  refine Wp_getr d_M_goTogether_5 fd_M_37 rfl rfl rfl ?_
  refine Wp_iconst (x := 0) d_M_goTogether_8 (by decide) ?_
  refine Wp_ialdN (j := 0) d_M_goTogether_9 rfl rfl rfl rfl (by decide) ?_
  refine Wp_eqi (x2 := S 43 0) (congrFun (hM.1.r 43) _) ?_
  refine Wp_eqi (x2 := nI (sSet S 0)) ((VM_set hV).1 _ (by omega)).1 ?_
  refine Wp_icmp_gt d_M_goTogether_10 (fun h10 => ?_) (fun h10 => ?_)
  ·
    have g10 : (sSet S 0) < (popc b) := n_lt h10 (by omega) (by omega)
    refine Wp_iconst (x := 0) d_M_goTogether_17 (by decide) ?_
    refine Wp_istore_n (ls2 := [lr 33, li (nI b), li 0, lo]) d_M_goTogether_18 rfl rfl rfl ?_
    refine Wp_iconst (x := 0) d_M_goTogether_19 (by decide) ?_
    refine Wp_istore_n (ls2 := [lr 33, li (nI b), li 0, li 0]) d_M_goTogether_20 rfl rfl rfl ?_
    have hd0 : decide (popc b ≤ sSet S 0) = false := by simp; omega
    have h9 := l_M_go E d (by omega) w S hM hV b hb (pN S) 0 (by omega)
    rw [hd0] at h9
    exact h9
  ·
    have g10 : (popc b) ≤ (sSet S 0) := n_nlt h10 (by omega) (by omega)
    refine Wp_iconst (x := 1) d_M_goTogether_13 (by decide) ?_
    refine Wp_goto d_M_goTogether_14 ?_
    refine Wp_istore_n (ls2 := [lr 33, li (nI b), li 1, lo]) d_M_goTogether_18 rfl rfl rfl ?_
    refine Wp_iconst (x := 0) d_M_goTogether_19 (by decide) ?_
    refine Wp_istore_n (ls2 := [lr 33, li (nI b), li 1, li 0]) d_M_goTogether_20 rfl rfl rfl ?_
    have hd0 : decide (popc b ≤ sSet S 0) = true := by simp; omega
    have h9 := l_M_go E d (by omega) w S hM hV b hb (pN S) 0 (by omega)
    rw [hd0] at h9
    exact h9
