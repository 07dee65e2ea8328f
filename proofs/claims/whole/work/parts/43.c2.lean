set_option maxRecDepth 100000 in
set_option maxHeartbeats 4000000 in
theorem l_P_eof (E : mE) (d : Nat) (hd : 0 ≤ d) (w : mw) (n e : Nat) (hn : w 1 6 = nI n) (hn2 : n ≤ 40) (he : e ≤ n) : ∀ (m k : Nat), k + m = 3 → efr (w 2) n e 3 = efr (w 2) n (e + k) m → Wp E d m_P_endOfFigures 2 [lr 1, li (nI e), li (nI (e + k))] [] w (mPi (fun r w1 => r = nI (efr (w 2) n e 3) ∧ w1 = w)) := by
  intro m
  induction m with
  | zero =>
    intro k hk hE
    have hk3 : k = 3 := by omega
    subst hk3
    refine Wp_iload_n d_P_endOfFigures_2 rfl ?_
    refine Wp_aload_n d_P_endOfFigures_3 rfl ?_
    refine Wp_getf d_P_endOfFigures_4 fd_P_34 rfl rfl rfl ?_
    refine Wp_eqi (x2 := nI n) hn ?_
    refine Wp_icmp_ge d_P_endOfFigures_7 (fun h7 => ?_) (fun h7 => ?_)
    ·
      have g7 : n ≤ (e + 3) := n_le h7 (by omega) (by omega)
      refine Wp_iload_n d_P_endOfFigures_45 rfl ?_
      refine Wp_reti (ty := .int) d_P_endOfFigures_46 rfl rfl ?_
      exact ⟨by rw [hE]; rfl, rfl⟩
    ·
      have g7 : (e + 3) < n := n_nle h7 (by omega) (by omega)
      refine Wp_iload_n d_P_endOfFigures_10 rfl ?_
      refine Wp_iload_n d_P_endOfFigures_11 rfl ?_
      refine Wp_iconst (x := 3) d_P_endOfFigures_12 (by decide) ?_
      refine Wp_iadd d_P_endOfFigures_13 ?_
      refine Wp_eqi (x2 := nI (e + 3)) (nI_add e 3) ?_
      refine Wp_icmp_ge d_P_endOfFigures_14 (fun h14 => ?_) (fun q => absurd (n_nle q (by omega) (by omega)) (by omega))
      refine Wp_iload_n d_P_endOfFigures_45 rfl ?_
      refine Wp_reti (ty := .int) d_P_endOfFigures_46 rfl rfl ?_
      exact ⟨by rw [hE]; rfl, rfl⟩
  | succ m ih =>
    intro k hk hE
    refine Wp_iload_n d_P_endOfFigures_2 rfl ?_
    refine Wp_aload_n d_P_endOfFigures_3 rfl ?_
    refine Wp_getf d_P_endOfFigures_4 fd_P_34 rfl rfl rfl ?_
    refine Wp_eqi (x2 := nI n) hn ?_
    refine Wp_icmp_ge d_P_endOfFigures_7 (fun h7 => ?_) (fun h7 => ?_)
    ·
      have g7 : n ≤ (e + k) := n_le h7 (by omega) (by omega)
      refine Wp_iload_n d_P_endOfFigures_45 rfl ?_
      refine Wp_reti (ty := .int) d_P_endOfFigures_46 rfl rfl ?_
      refine ⟨?_, rfl⟩
      rw [hE]; unfold efr
      rw [if_neg (fun q => by have h1 := q.1; have h2 := dig_of q.2; omega)]
    ·
      have g7 : (e + k) < n := n_nle h7 (by omega) (by omega)
      refine Wp_iload_n d_P_endOfFigures_10 rfl ?_
      refine Wp_iload_n d_P_endOfFigures_11 rfl ?_
      refine Wp_iconst (x := 3) d_P_endOfFigures_12 (by decide) ?_
      refine Wp_iadd d_P_endOfFigures_13 ?_
      refine Wp_eqi (x2 := nI (e + 3)) (nI_add e 3) ?_
      refine Wp_icmp_ge d_P_endOfFigures_14 (fun q => absurd (n_le q (by omega) (by omega)) (by omega)) (fun h14 => ?_)
      refine Wp_aload_n d_P_endOfFigures_17 rfl ?_
      refine Wp_getr d_P_endOfFigures_18 fd_P_11 rfl rfl rfl ?_
      refine Wp_iload_n d_P_endOfFigures_21 rfl ?_
      refine Wp_ialdN (j := (e + k)) d_P_endOfFigures_22 rfl rfl rfl rfl (by omega) ?_
      refine Wp_bipush (x := 48) d_P_endOfFigures_23 (by decide) ?_
      refine Wp_icmp_lt d_P_endOfFigures_25 (fun h25 => ?_) (fun h25 => ?_)
      ·
        have g25 : (w 2 (e + k)).toInt < 48 := i_lt h25
        refine Wp_iload_n d_P_endOfFigures_45 rfl ?_
        refine Wp_reti (ty := .int) d_P_endOfFigures_46 rfl rfl ?_
        refine ⟨?_, rfl⟩
        rw [hE]; unfold efr
        rw [if_neg (fun q => by have h1 := q.1; have h2 := dig_of q.2; omega)]
      ·
        have g25 : 48 ≤ (w 2 (e + k)).toInt := i_nlt h25
        refine Wp_aload_n d_P_endOfFigures_28 rfl ?_
        refine Wp_getr d_P_endOfFigures_29 fd_P_11 rfl rfl rfl ?_
        refine Wp_iload_n d_P_endOfFigures_32 rfl ?_
        refine Wp_ialdN (j := (e + k)) d_P_endOfFigures_33 rfl rfl rfl rfl (by omega) ?_
        refine Wp_bipush (x := 57) d_P_endOfFigures_34 (by decide) ?_
        refine Wp_icmp_gt d_P_endOfFigures_36 (fun h36 => ?_) (fun h36 => ?_)
        ·
          have g36 : 57 < (w 2 (e + k)).toInt := i_lt h36
          refine Wp_iload_n d_P_endOfFigures_45 rfl ?_
          refine Wp_reti (ty := .int) d_P_endOfFigures_46 rfl rfl ?_
          refine ⟨?_, rfl⟩
          rw [hE]; unfold efr
          rw [if_neg (fun q => by have h1 := q.1; have h2 := dig_of q.2; omega)]
        ·
          have g36 : (w 2 (e + k)).toInt ≤ 57 := i_nlt h36
          refine Wp_iinc (z := nI ((e + k) + 1)) (ls2 := [lr 1, li (nI e), li (nI ((e + k) + 1))]) d_P_endOfFigures_39 rfl (nI_add (e + k) 1) rfl rfl rfl ?_
          refine Wp_goto d_P_endOfFigures_42 ?_
          have hdg : dig (w 2 (e + k)) = true := decide_eq_true ⟨by omega, by omega⟩
          rw [show e + k + 1 = e + (k + 1) by omega]
          refine ih (k + 1) (by omega) ?_
          rw [hE, efr, if_pos ⟨by omega, hdg⟩]; rfl
set_option maxRecDepth 100000 in
set_option maxHeartbeats 4000000 in
theorem t_P_endOfFigures (E : mE) (d : Nat) (hd : 0 ≤ d) (w : mw) (n e : Nat) (hn : w 1 6 = nI n) (hn2 : n ≤ 40) (he : e ≤ n) : Td E d m_P_endOfFigures [vr 1, vi (nI e)] w (nI (efr (w 2) n e 3)) w := by
  refine ⟨Nat.le_of_ble_eq_true rfl, ?_⟩
  show Wp E d m_P_endOfFigures 0 [lr 1, li (nI e), lo] [] w _
  refine Wp_iload_n d_P_endOfFigures_0 rfl ?_
  refine Wp_istore_n (ls2 := [lr 1, li (nI e), li (nI e)]) d_P_endOfFigures_1 rfl rfl rfl ?_
  exact l_P_eof E d (by omega) w n e hn hn2 he 3 0 rfl rfl
set_option maxRecDepth 100000 in
set_option maxHeartbeats 4000000 in
theorem l_P_age (E : mE) (d : Nat) (hd : 0 ≤ d) (w : mw) (e m : Nat) (h40 : e + m ≤ 40) (hD : ∀ j, e ≤ j → j < e + m → dig (w 2 j) = true) : ∀ (i k : Nat), k + i = m → Wp E d m_P_ageAt 5 [lr 1, li (nI e), li (nI (e + m)), li (nI (agv (w 2) e k)), li (nI (e + k))] [] w (mPi (fun r w1 => r = nI (agv (w 2) e m) ∧ w1 = w)) := by
  intro i
  induction i with
  | zero =>
    intro k hk
    have hin : k = m := by omega
    subst hin
    refine Wp_iload d_P_ageAt_5 rfl ?_
    refine Wp_iload_n d_P_ageAt_7 rfl ?_
    refine Wp_icmp_ge d_P_ageAt_8 (fun h8 => ?_) (fun q => absurd (n_nle q (by omega) (by omega)) (by omega))
    refine Wp_iload_n d_P_ageAt_40 rfl ?_
    refine Wp_reti (ty := .int) d_P_ageAt_41 rfl rfl ?_
    exact ⟨rfl, rfl⟩
  | succ i ih =>
    intro k hk
    have hdg := hD (e + k) (by omega) (by omega)
    refine Wp_iload d_P_ageAt_5 rfl ?_
    refine Wp_iload_n d_P_ageAt_7 rfl ?_
    refine Wp_icmp_ge d_P_ageAt_8 (fun q => absurd (n_le q (by omega) (by omega)) (by omega)) (fun h8 => ?_)
    refine Wp_iload d_P_ageAt_11 rfl ?_
    refine Wp_bipush (x := 40) d_P_ageAt_13 (by decide) ?_
    refine Wp_icmp_ge d_P_ageAt_15 (fun q => absurd (n_le (a := 40) q (by omega) (by omega)) (by omega)) (fun h15 => ?_)
    refine Wp_bipush (x := 10) d_P_ageAt_18 (by decide) ?_
    refine Wp_iload_n d_P_ageAt_20 rfl ?_
    refine Wp_imul d_P_ageAt_21 ?_
    refine Wp_eqi (x2 := nI (10 * (agv (w 2) e k))) (pk_mul 10 (agv (w 2) e k)) ?_
    refine Wp_aload_n d_P_ageAt_22 rfl ?_
    refine Wp_getr d_P_ageAt_23 fd_P_11 rfl rfl rfl ?_
    refine Wp_iload d_P_ageAt_26 rfl ?_
    refine Wp_ialdN (j := (e + k)) d_P_ageAt_28 rfl rfl rfl rfl (by omega) ?_
    refine Wp_iadd d_P_ageAt_29 ?_
    refine Wp_eqi (x2 := 10 * nI (agv (w 2) e k) + w 2 (e + k)) (by rw [show (10 : Int32) = nI 10 from rfl, pk_mul]) ?_
    refine Wp_bipush (x := 48) d_P_ageAt_30 (by decide) ?_
    refine Wp_isub d_P_ageAt_32 ?_
    refine Wp_eqi (x2 := nI (agv (w 2) e (k + 1))) (agv_s hdg) ?_
    refine Wp_istore_n (ls2 := [lr 1, li (nI e), li (nI (e + m)), li (nI (agv (w 2) e (k + 1))), li (nI (e + k))]) d_P_ageAt_33 rfl rfl rfl ?_
    refine Wp_iinc (z := nI ((e + k) + 1)) (ls2 := [lr 1, li (nI e), li (nI (e + m)), li (nI (agv (w 2) e (k + 1))), li (nI ((e + k) + 1))]) d_P_ageAt_34 rfl (nI_add (e + k) 1) rfl rfl rfl ?_
    refine Wp_goto d_P_ageAt_37 ?_
    rw [show e + k + 1 = e + (k + 1) by omega]
    exact ih (k + 1) (by omega)
set_option maxRecDepth 100000 in
set_option maxHeartbeats 4000000 in
theorem t_P_ageAt (E : mE) (d : Nat) (hd : 0 ≤ d) (w : mw) (e m : Nat) (h40 : e + m ≤ 40) (hD : ∀ j, e ≤ j → j < e + m → dig (w 2 j) = true) : Td E d m_P_ageAt [vr 1, vi (nI e), vi (nI (e + m))] w (nI (agv (w 2) e m)) w := by
  refine ⟨Nat.le_of_ble_eq_true rfl, ?_⟩
  show Wp E d m_P_ageAt 0 [lr 1, li (nI e), li (nI (e + m)), lo, lo] [] w _
  refine Wp_iconst (x := 0) d_P_ageAt_0 (by decide) ?_
  refine Wp_istore_n (ls2 := [lr 1, li (nI e), li (nI (e + m)), li 0, lo]) d_P_ageAt_1 rfl rfl rfl ?_
  refine Wp_iload_n d_P_ageAt_2 rfl ?_
  refine Wp_istore (ls2 := [lr 1, li (nI e), li (nI (e + m)), li 0, li (nI e)]) d_P_ageAt_3 rfl rfl rfl ?_
  exact l_P_age E d (by omega) w e m h40 hD m 0 (Nat.zero_add _)
theorem mx0 {a : Nat} {x : Int32} (ha : a ≤ 1000) (h1 : -30 ≤ x.toInt) (h2 : x.toInt ≤ 30) : (if (0 : Int32) < nI a + x then nI a + x else 0) = nI (((a : Int) + x.toInt).toNat) := by
  have h : (nI a + x).toInt = a + x.toInt := by rw [i_add (by rw [ti (by omega)]; omega) (by rw [ti (by omega)]; omega), ti (by omega)]
  have h0 : Int32.toInt 0 = 0 := rfl
  split
  · next q =>
    have := i_lt q
    refine i_eq ?_
    rw [h, ti (by omega)]; omega
  · next q =>
    have := i_nlt q
    rw [show ((a : Int) + x.toInt).toNat = 0 by omega]; rfl
set_option maxRecDepth 100000 in
set_option maxHeartbeats 4000000 in
theorem t_P_toldAt (E : mE) (d : Nat) (hd : 2 ≤ d) (w : mw) (j a : Nat) (hj : j < 10) (ha : a ≤ 1000) (h1 : -30 ≤ (w 7 j).toInt) (h2 : (w 7 j).toInt ≤ 30) : Td E d m_P_toldAt [vr 1, vi (nI j), vi (nI a)] w (nI (((a : Int) + (w 7 j).toInt).toNat)) w := by
  refine ⟨Nat.le_of_ble_eq_true rfl, ?_⟩
  show Wp E d m_P_toldAt 0 [lr 1, li (nI j), li (nI a)] [] w _
  refine Wp_iload_n d_P_toldAt_0 rfl ?_
  refine Wp_ivsN_b (As := [vi (nI j)]) d_P_toldAt_1 ln_P_43 mk_F_isNumber rfl rfl rfl (by omega) (t_F_isNumber E (d - 1) (by omega) w (nI j)) (fun g1 => ?_) (fun g1 => ?_)
  ·
    refine Wp_if_eq d_P_toldAt_4 (fun q => absurd q (by decide)) (fun _ => ?_)
    refine Wp_iconst (x := 0) d_P_toldAt_7 (by decide) ?_
    refine Wp_iload_n d_P_toldAt_8 rfl ?_
    refine Wp_aload_n d_P_toldAt_9 rfl ?_
    refine Wp_getr d_P_toldAt_10 fd_P_27 rfl rfl rfl ?_
    refine Wp_iload_n d_P_toldAt_13 rfl ?_
    refine Wp_ialdN (j := j) d_P_toldAt_14 rfl rfl rfl rfl (by omega) ?_
    refine Wp_iadd d_P_toldAt_15 ?_
    refine Wp_max d_P_toldAt_16 ln_P_51 rfl (by omega) ?_
    refine Wp_eqi (x2 := nI (((a : Int) + (w 7 j).toInt).toNat)) (mx0 (by omega) (by omega) (by omega)) ?_
    refine Wp_goto d_P_toldAt_19 ?_
    refine Wp_reti (ty := .int) d_P_toldAt_23 rfl rfl ?_
    exact ⟨rfl, rfl⟩
  ·
    exact absurd (by have := ti (show j < 2147483648 by omega); omega) g1
set_option maxRecDepth 100000 in
set_option maxHeartbeats 4000000 in
theorem t_P_isThere (E : mE) (d : Nat) (hd : 0 ≤ d) (w : mw) (n : Nat) (hn : w 1 7 = nI n) (h10 : n ≤ 10) (p : Int32) : Tb E d m_P_isThere [vr 1, vi p] w (0 ≤ p.toInt ∧ p.toInt < n) := by
  refine ⟨Nat.le_of_ble_eq_true rfl, ?_⟩
  show Wp E d m_P_isThere 0 [lr 1, li p] [] w _
  refine Wp_iload_n d_P_isThere_0 rfl ?_
  refine Wp_if_lt d_P_isThere_1 (fun h1 => ?_) (fun h1 => ?_)
  ·
    have g1 : p.toInt < 0 := i_lt h1
    refine Wp_iconst (x := 0) d_P_isThere_16 (by decide) ?_
    refine Wp_reti (ty := .boolean) d_P_isThere_17 rfl rfl ?_
    exact ⟨Or.inr ⟨rfl, fun q => by have := ti (show n < 2147483648 by omega); omega⟩, rfl⟩
  ·
    have g1 : 0 ≤ p.toInt := i_nlt h1
    refine Wp_iload_n d_P_isThere_4 rfl ?_
    refine Wp_aload_n d_P_isThere_5 rfl ?_
    refine Wp_getf d_P_isThere_6 fd_P_40 rfl rfl rfl ?_
    refine Wp_eqi (x2 := nI n) hn ?_
    refine Wp_icmp_ge d_P_isThere_9 (fun h9 => ?_) (fun h9 => ?_)
    ·
      have g9 : (nI n).toInt ≤ p.toInt := i_le h9
      refine Wp_iconst (x := 0) d_P_isThere_16 (by decide) ?_
      refine Wp_reti (ty := .boolean) d_P_isThere_17 rfl rfl ?_
      exact ⟨Or.inr ⟨rfl, fun q => by have := ti (show n < 2147483648 by omega); omega⟩, rfl⟩
    ·
      have g9 : p.toInt < (nI n).toInt := i_nle h9
      refine Wp_iconst (x := 1) d_P_isThere_12 (by decide) ?_
      refine Wp_goto d_P_isThere_13 ?_
      refine Wp_reti (ty := .boolean) d_P_isThere_17 rfl rfl ?_
      exact ⟨Or.inl ⟨rfl, ⟨by omega, by have := ti (show n < 2147483648 by omega); omega⟩⟩, rfl⟩
