theorem t_S_isLost2 (E : mE) (d : Nat) (w S : mw) (hC : CC w S) (hV : VM S) (s : Nat) (h_s : s < 4) : Tb E d m_S_isLost [vr (24 + s)] w ((S 34 s).toInt < 0) := by
  rw [← propext (CSh_lost (CC_sh hC h_s) hV h_s)]
  exact t_S_isLost E d (Nat.zero_le _) w s h_s
set_option maxRecDepth 100000 in
set_option maxHeartbeats 4000000 in
theorem t_F_find (E : mE) (d : Nat) (hd : 0 ≤ d) (w : mw) (x r : Int32) (hr : -10 - x = r) : Td E d m_F_find [vr 0, vi x] w r (mU w 0 7 x) := by
  refine ⟨Nat.le_of_ble_eq_true rfl, ?_⟩
  show Wp E d m_F_find 0 [lr 0, li x] [] w _
  refine Wp_aload_n d_F_find_0 rfl ?_
  refine Wp_iload_n d_F_find_1 rfl ?_
  refine Wp_puti d_F_find_2 fp_F_264 rfl rfl rfl ?_
  refine Wp_bipush (x := (-10)) d_F_find_5 (by decide) ?_
  refine Wp_iload_n d_F_find_7 rfl ?_
  refine Wp_isub d_F_find_8 ?_
  refine Wp_reti (ty := .int) d_F_find_9 rfl rfl ?_
  exact ⟨hr, rfl⟩
set_option maxRecDepth 100000 in
set_option maxHeartbeats 4000000 in
theorem t_S_tearUp (E : mE) (d : Nat) (hd : 0 ≤ d) (w : mw) (s : Nat) (h_s : s < 4) : Tdv E d m_S_tearUp [vr (24 + s)] w (mU w (24 + s) 2 (-1)) := by
  refine ⟨Nat.le_of_ble_eq_true rfl, ?_⟩
  show Wp E d m_S_tearUp 0 [lr (24 + s)] [] w _
  refine Wp_aload_n d_S_tearUp_0 rfl ?_
  refine Wp_iconst (x := (-1)) d_S_tearUp_1 (by decide) ?_
  refine Wp_puti d_S_tearUp_2 fp_S_13 (mObj_sh h_s) rfl (mRef_sh2 h_s) ?_
  refine Wp_retv d_S_tearUp_5 rfl ?_
  exact rfl
set_option maxRecDepth 100000 in
set_option maxHeartbeats 4000000 in
theorem t_S_hasItem (E : mE) (d : Nat) (hd : 0 ≤ d) (w : mw) (s n : Nat) (h_s : s < 4) (hn : w (24 + s) 2 = nI n) (h60 : n ≤ 60) (i : Int32) : Tb E d m_S_hasItem [vr (24 + s), vi i] w (0 ≤ i.toInt ∧ i.toInt < n) := by
  refine ⟨Nat.le_of_ble_eq_true rfl, ?_⟩
  show Wp E d m_S_hasItem 0 [lr (24 + s), li i] [] w _
  have hnt := ti (show n < 2147483648 by omega)
  refine Wp_iload_n d_S_hasItem_0 rfl ?_
  refine Wp_if_lt d_S_hasItem_1 (fun h1 => ?_) (fun h1 => ?_)
  ·
    have g1 : i.toInt < 0 := i_lt h1
    refine Wp_iconst (x := 0) d_S_hasItem_16 (by decide) ?_
    refine Wp_reti (ty := .boolean) d_S_hasItem_17 rfl rfl ?_
    exact ⟨Or.inr ⟨rfl, fun q => by omega⟩, rfl⟩
  ·
    have g1 : 0 ≤ i.toInt := i_nlt h1
    refine Wp_iload_n d_S_hasItem_4 rfl ?_
    refine Wp_aload_n d_S_hasItem_5 rfl ?_
    refine Wp_getf d_S_hasItem_6 fd_S_13 (mObj_sh h_s) rfl (mRef_sh2 h_s) ?_
    refine Wp_eqi (x2 := nI n) hn ?_
    refine Wp_icmp_ge d_S_hasItem_9 (fun h9 => ?_) (fun h9 => ?_)
    ·
      have g9 : (nI n).toInt ≤ i.toInt := i_le h9
      refine Wp_iconst (x := 0) d_S_hasItem_16 (by decide) ?_
      refine Wp_reti (ty := .boolean) d_S_hasItem_17 rfl rfl ?_
      exact ⟨Or.inr ⟨rfl, fun q => by omega⟩, rfl⟩
    ·
      have g9 : i.toInt < (nI n).toInt := i_nle h9
      refine Wp_iconst (x := 1) d_S_hasItem_12 (by decide) ?_
      refine Wp_goto d_S_hasItem_13 ?_
      refine Wp_reti (ty := .boolean) d_S_hasItem_17 rfl rfl ?_
      exact ⟨Or.inl ⟨rfl, ⟨by omega, by omega⟩⟩, rfl⟩
set_option maxRecDepth 100000 in
set_option maxHeartbeats 4000000 in
theorem t_S_item (E : mE) (d : Nat) (hd : 1 ≤ d) (w : mw) (s n j : Nat) (h_s : s < 4) (hn : w (24 + s) 2 = nI n) (h60 : n ≤ 60) (hj : j < n) : Td E d m_S_item [vr (24 + s), vi (nI j)] w (w (28 + s) j) w := by
  refine ⟨Nat.le_of_ble_eq_true rfl, ?_⟩
  show Wp E d m_S_item 0 [lr (24 + s), li (nI j)] [] w _
  refine Wp_aload_n d_S_item_0 rfl ?_
  refine Wp_iload_n d_S_item_1 rfl ?_
  refine Wp_ivv_b (o := (24 + s)) (As := [vi (nI j)]) d_S_item_2 ln_S_26 mk_S_hasItem (mObj_sh h_s) rfl rfl rfl rfl (by omega) (t_S_hasItem E (d - 1) (by omega) w s n h_s hn h60 (nI j)) (fun g2 => ?_) (fun g2 => ?_)
  ·
    refine Wp_if_eq d_S_item_5 (fun q => absurd q (by decide)) (fun _ => ?_)
    refine Wp_aload_n d_S_item_8 rfl ?_
    refine Wp_getr d_S_item_9 fd_S_9 (mObj_sh h_s) rfl (mRef_sh h_s) ?_
    refine Wp_iload_n d_S_item_12 rfl ?_
    refine Wp_ialdN (j := j) d_S_item_13 (mObj_it h_s) (mArr_it h_s) rfl rfl (by omega) ?_
    refine Wp_goto d_S_item_14 ?_
    refine Wp_reti (ty := .int) d_S_item_18 rfl rfl ?_
    exact ⟨rfl, rfl⟩
  ·
    exact absurd (by have := ti (show j < 2147483648 by omega); omega) g2
set_option maxRecDepth 100000 in
set_option maxHeartbeats 4000000 in
theorem t_S_store (E : mE) (d : Nat) (hd : 1 ≤ d) (w : mw) (s n j : Nat) (h_s : s < 4) (hn : w (24 + s) 2 = nI n) (h60 : n ≤ 60) (hj : j < 60) (v : Int32) : Tdv E d m_S_store [vr (24 + s), vi (nI j), vi v] w (if j < n then mU w (28 + s) j (cutS (w (24 + s) 1) v) else w) := by
  refine ⟨Nat.le_of_ble_eq_true rfl, ?_⟩
  show Wp E d m_S_store 0 [lr (24 + s), li (nI j), li v] [] w _
  refine Wp_aload_n d_S_store_0 rfl ?_
  refine Wp_iload_n d_S_store_1 rfl ?_
  refine Wp_ivv_b (o := (24 + s)) (As := [vi (nI j)]) d_S_store_2 ln_S_26 mk_S_hasItem (mObj_sh h_s) rfl rfl rfl rfl (by omega) (t_S_hasItem E (d - 1) (by omega) w s n h_s hn h60 (nI j)) (fun g2 => ?_) (fun g2 => ?_)
  ·
    have hjn : j < n := by have := ti (show j < 2147483648 by omega); omega
    refine Wp_if_eq d_S_store_5 (fun q => absurd q (by decide)) (fun _ => ?_)
    refine Wp_aload_n d_S_store_8 rfl ?_
    refine Wp_getr d_S_store_9 fd_S_9 (mObj_sh h_s) rfl (mRef_sh h_s) ?_
    refine Wp_iload_n d_S_store_12 rfl ?_
    refine Wp_aload_n d_S_store_13 rfl ?_
    refine Wp_getf d_S_store_14 fd_S_17 (mObj_sh h_s) rfl (mRef_sh1 h_s) ?_
    refine Wp_if_ne d_S_store_17 (fun h17 => ?_) (fun h17 => ?_)
    ·
      have g17 : (w (24 + s) 1).toInt ≠ 0 := i_ne h17
      refine Wp_aload_n d_S_store_25 rfl ?_
      refine Wp_getf d_S_store_26 fd_S_17 (mObj_sh h_s) rfl (mRef_sh1 h_s) ?_
      refine Wp_iconst (x := 1) d_S_store_29 (by decide) ?_
      refine Wp_icmp_ne d_S_store_30 (fun h30 => ?_) (fun h30 => ?_)
      ·
        have g30 : (w (24 + s) 1).toInt ≠ 1 := i_ne h30
        refine Wp_iload_n d_S_store_38 rfl ?_
        refine Wp_iastN (j := j) d_S_store_39 (mObj_it h_s) (mArr_it h_s) rfl rfl (by omega) ?_
        refine Wp_retv d_S_store_40 rfl ?_
        show _ = _
        rw [if_pos hjn]; unfold cutS; rw [if_neg (by assumption), if_neg (by assumption)]
      ·
        refine Wp_iload_n d_S_store_33 rfl ?_
        refine Wp_i2s d_S_store_34 ?_
        refine Wp_goto d_S_store_35 ?_
        refine Wp_iastN (j := j) d_S_store_39 (mObj_it h_s) (mArr_it h_s) rfl rfl (by omega) ?_
        refine Wp_retv d_S_store_40 rfl ?_
        show _ = _
        rw [if_pos hjn]; unfold cutS; rw [if_neg (by assumption), if_pos (by assumption)]
    ·
      refine Wp_iload_n d_S_store_20 rfl ?_
      refine Wp_i2b d_S_store_21 ?_
      refine Wp_goto d_S_store_22 ?_
      refine Wp_iastN (j := j) d_S_store_39 (mObj_it h_s) (mArr_it h_s) rfl rfl (by omega) ?_
      refine Wp_retv d_S_store_40 rfl ?_
      show _ = _
      rw [if_pos hjn]; unfold cutS; rw [if_pos (by assumption)]
  ·
    have hjn : ¬ j < n := by have := ti (show j < 2147483648 by omega); omega
    refine Wp_if_eq d_S_store_5 (fun _ => ?_) (fun q => absurd (by decide) q)
    refine Wp_retv d_S_store_40 rfl ?_
    show _ = _
    rw [if_neg hjn]
set_option maxRecDepth 100000 in
set_option maxHeartbeats 4000000 in
theorem t_S_hasRange (E : mE) (d : Nat) (hd : 0 ≤ d) (w : mw) (s z : Nat) (h_s : s < 4) (hn : w (24 + s) 2 = nI z) (h60 : z ≤ 60) (i n : Int32) : Tb E d m_S_hasRange [vr (24 + s), vi i, vi n] w (0 ≤ i.toInt ∧ 0 ≤ n.toInt ∧ i.toInt + n.toInt ≤ z) := by
  refine ⟨Nat.le_of_ble_eq_true rfl, ?_⟩
  show Wp E d m_S_hasRange 0 [lr (24 + s), li i, li n] [] w _
  have hnt := ti (show z < 2147483648 by omega)
  refine Wp_iload_n d_S_hasRange_0 rfl ?_
  refine Wp_if_lt d_S_hasRange_1 (fun h1 => ?_) (fun h1 => ?_)
  ·
    have g1 : i.toInt < 0 := i_lt h1
    refine Wp_iconst (x := 0) d_S_hasRange_30 (by decide) ?_
    refine Wp_reti (ty := .boolean) d_S_hasRange_31 rfl rfl ?_
    exact ⟨Or.inr ⟨rfl, fun q => by omega⟩, rfl⟩
  ·
    have g1 : 0 ≤ i.toInt := i_nlt h1
    refine Wp_iload_n d_S_hasRange_4 rfl ?_
    refine Wp_if_lt d_S_hasRange_5 (fun h5 => ?_) (fun h5 => ?_)
    ·
      have g5 : n.toInt < 0 := i_lt h5
      refine Wp_iconst (x := 0) d_S_hasRange_30 (by decide) ?_
      refine Wp_reti (ty := .boolean) d_S_hasRange_31 rfl rfl ?_
      exact ⟨Or.inr ⟨rfl, fun q => by omega⟩, rfl⟩
    ·
      have g5 : 0 ≤ n.toInt := i_nlt h5
      refine Wp_iload_n d_S_hasRange_8 rfl ?_
      refine Wp_aload_n d_S_hasRange_9 rfl ?_
      refine Wp_getf d_S_hasRange_10 fd_S_13 (mObj_sh h_s) rfl (mRef_sh2 h_s) ?_
      refine Wp_eqi (x2 := nI z) hn ?_
      refine Wp_icmp_gt d_S_hasRange_13 (fun h13 => ?_) (fun h13 => ?_)
      ·
        have g13 : (nI z).toInt < i.toInt := i_lt h13
        refine Wp_iconst (x := 0) d_S_hasRange_30 (by decide) ?_
        refine Wp_reti (ty := .boolean) d_S_hasRange_31 rfl rfl ?_
        exact ⟨Or.inr ⟨rfl, fun q => by omega⟩, rfl⟩
      ·
        have g13 : i.toInt ≤ (nI z).toInt := i_nlt h13
        refine Wp_iload_n d_S_hasRange_16 rfl ?_
        refine Wp_aload_n d_S_hasRange_17 rfl ?_
        refine Wp_getf d_S_hasRange_18 fd_S_13 (mObj_sh h_s) rfl (mRef_sh2 h_s) ?_
        refine Wp_eqi (x2 := nI z) hn ?_
        refine Wp_iload_n d_S_hasRange_21 rfl ?_
        refine Wp_isub d_S_hasRange_22 ?_
        refine Wp_icmp_gt d_S_hasRange_23 (fun h23 => ?_) (fun h23 => ?_)
        ·
          have g23 : (nI z - i).toInt < n.toInt := i_lt h23
          rw [i_sub (by omega) (by omega), hnt] at g23
          refine Wp_iconst (x := 0) d_S_hasRange_30 (by decide) ?_
          refine Wp_reti (ty := .boolean) d_S_hasRange_31 rfl rfl ?_
          exact ⟨Or.inr ⟨rfl, fun q => by omega⟩, rfl⟩
        ·
          have g23 : n.toInt ≤ (nI z - i).toInt := i_nlt h23
          rw [i_sub (by omega) (by omega), hnt] at g23
          refine Wp_iconst (x := 1) d_S_hasRange_26 (by decide) ?_
          refine Wp_goto d_S_hasRange_27 ?_
          refine Wp_reti (ty := .boolean) d_S_hasRange_31 rfl rfl ?_
          exact ⟨Or.inl ⟨rfl, ⟨by omega, by omega, by omega⟩⟩, rfl⟩
set_option maxRecDepth 100000 in
set_option maxHeartbeats 4000000 in
theorem l_S_renew (E : mE) (d : Nat) (hd : 1 ≤ d) (s n : Nat) (f : Int32) (h_s : s < 4) (hn : n ≤ 60) : ∀ (k i : Nat) (w : mw), i + k = n → w (24 + s) 2 = nI n → Wp E d m_S_renew 17 [lr (24 + s), li f, li (nI n), li (nI i)] [] w (mPv (fun w1 => w1 = mUr w (28 + s) (clrF (w (28 + s)) i n))) := by
  intro k
  induction k with
  | zero =>
    intro i w hi hz
    refine Wp_iload_n d_S_renew_17 rfl ?_
    refine Wp_aload_n d_S_renew_18 rfl ?_
    refine Wp_getf d_S_renew_19 fd_S_13 (mObj_sh h_s) rfl (mRef_sh2 h_s) ?_
    refine Wp_eqi (x2 := nI n) hz ?_
    refine Wp_icmp_ge d_S_renew_22 (fun h22 => ?_) (fun q => absurd (n_nle q (by omega) (by omega)) (by omega))
    refine Wp_retv d_S_renew_38 rfl ?_
    have hin : i = n := by omega
    subst hin
    show w = _
    rw [clrF_e, mUr_self]
  | succ k ih =>
    intro i w hi hz
    refine Wp_iload_n d_S_renew_17 rfl ?_
    refine Wp_aload_n d_S_renew_18 rfl ?_
    refine Wp_getf d_S_renew_19 fd_S_13 (mObj_sh h_s) rfl (mRef_sh2 h_s) ?_
    refine Wp_eqi (x2 := nI n) hz ?_
    refine Wp_icmp_ge d_S_renew_22 (fun q => absurd (n_le q (by omega) (by omega)) (by omega)) (fun h22 => ?_)
    refine Wp_aload_n d_S_renew_25 rfl ?_
    refine Wp_getr d_S_renew_26 fd_S_9 (mObj_sh h_s) rfl (mRef_sh h_s) ?_
    refine Wp_iload_n d_S_renew_29 rfl ?_
    refine Wp_iconst (x := 0) d_S_renew_30 (by decide) ?_
    refine Wp_iastN (j := i) d_S_renew_31 (mObj_it h_s) (mArr_it h_s) rfl rfl (by omega) ?_
    refine Wp_iinc (z := nI (i + 1)) (ls2 := [lr (24 + s), li f, li (nI n), li (nI (i + 1))]) d_S_renew_32 rfl (nI_add i 1) rfl rfl rfl ?_
    refine Wp_goto d_S_renew_35 ?_
    refine Wp_mv (ih (i + 1) _ (by omega) (by rw [mU_ne (by omega)]; exact hz)) (fun w1 h => ?_)
    rw [h]; unfold mU; rw [mUr_eq, mUr_mUr, clrF_s (by omega)]
set_option maxRecDepth 100000 in
set_option maxHeartbeats 4000000 in
theorem t_S_renew (E : mE) (d : Nat) (hd : 1 ≤ d) (w : mw) (s n : Nat) (f : Int32) (h_s : s < 4) (hn : n ≤ 60) : Tdv E d m_S_renew [vr (24 + s), vi f, vi (nI n)] w (shW w s n f) := by
  refine ⟨Nat.le_of_ble_eq_true rfl, ?_⟩
  show Wp E d m_S_renew 0 [lr (24 + s), li f, li (nI n), lo] [] w _
  refine Wp_aload_n d_S_renew_0 rfl ?_
  refine Wp_iload_n d_S_renew_1 rfl ?_
  refine Wp_puti d_S_renew_2 fp_S_17 (mObj_sh h_s) rfl (mRef_sh1 h_s) ?_
  refine Wp_aload_n d_S_renew_5 rfl ?_
  refine Wp_iload_n d_S_renew_6 rfl ?_
  refine Wp_bipush (x := 60) d_S_renew_7 (by decide) ?_
  refine Wp_min d_S_renew_9 ln_S_20 rfl (by omega) ?_
  refine Wp_eqi (x2 := nI n) (if_neg (fun q => absurd (n_lt (a := 60) q (by omega) (by omega)) (by omega))) ?_
  refine Wp_puti d_S_renew_12 fp_S_13 (mObj_sh h_s) rfl (mRef_sh2 h_s) ?_
  refine Wp_iconst (x := 0) d_S_renew_15 (by decide) ?_
  refine Wp_istore_n (ls2 := [lr (24 + s), li f, li (nI n), li 0]) d_S_renew_16 rfl rfl rfl ?_
  refine Wp_mv (l_S_renew E d (by omega) s n f h_s hn n 0 _ (Nat.zero_add _) mU_at) (fun w1 h => ?_)
  rw [h]; unfold shW; rw [mU_ne (by omega), mU_ne (by omega)]
set_option maxRecDepth 100000 in
set_option maxHeartbeats 4000000 in
theorem t_F_findingAt (E : mE) (d : Nat) (hd : 1 ≤ d) (w : mw) (S : mw) (hC : CC w S) (hV : VM S) (s : Nat) (h_s : s < 4) (f i : Int32) : Td E d m_F_findingAt [vr (24 + s), vi f, vi i] w (lckS S s f i) w := by
  refine ⟨Nat.le_of_ble_eq_true rfl, ?_⟩
  show Wp E d m_F_findingAt 0 [lr (24 + s), li f, li i] [] w _
  refine Wp_aload_n d_F_findingAt_0 rfl ?_
  refine Wp_ivv_b (o := (24 + s)) (As := []) d_F_findingAt_1 ln_F_118 mk_S_isLost (mObj_sh h_s) rfl rfl rfl rfl (by omega) (t_S_isLost2 E (d - 1) w S hC hV s h_s) (fun g1 => ?_) (fun g1 => ?_)
  ·
    refine Wp_if_eq d_F_findingAt_4 (fun q => absurd q (by decide)) (fun _ => ?_)
    refine Wp_iconst (x := 1) d_F_findingAt_7 (by decide) ?_
    refine Wp_reti (ty := .int) d_F_findingAt_8 rfl rfl ?_
    exact ⟨by unfold lckS; rw [if_pos g1], rfl⟩
  ·
    have cz_s := CSh_z (CC_sh hC h_s) hV h_s g1
    refine Wp_if_eq d_F_findingAt_4 (fun _ => ?_) (fun q => absurd (by decide) q)
    refine Wp_aload_n d_F_findingAt_9 rfl ?_
    refine Wp_getf d_F_findingAt_10 fd_F_267 (mObj_sh h_s) rfl (mRef_sh1 h_s) ?_
    refine Wp_eqi (x2 := S 34 s) cz_s.1 ?_
    refine Wp_iload_n d_F_findingAt_13 rfl ?_
    refine Wp_icmp_eq d_F_findingAt_14 (fun h14 => ?_) (fun h14 => ?_)
    ·
      refine Wp_aload_n d_F_findingAt_19 rfl ?_
      refine Wp_iload_n d_F_findingAt_20 rfl ?_
      refine Wp_ivv_b (o := (24 + s)) (As := [vi i]) d_F_findingAt_21 ln_F_336 mk_S_hasItem (mObj_sh h_s) rfl rfl rfl rfl (by omega) (t_S_hasItem E (d - 1) (by omega) w s (sSz S s) h_s cz_s.2.1 (VM_sz hV s h_s).2 i) (fun g21 => ?_) (fun g21 => ?_)
      ·
        refine Wp_if_eq d_F_findingAt_24 (fun q => absurd q (by decide)) (fun _ => ?_)
        refine Wp_iconst (x := 0) d_F_findingAt_27 (by decide) ?_
        refine Wp_goto d_F_findingAt_28 ?_
        refine Wp_reti (ty := .int) d_F_findingAt_32 rfl rfl ?_
        exact ⟨by unfold lckS; rw [if_neg g1, if_neg (fun q => q h14), if_pos g21], rfl⟩
      ·
        refine Wp_if_eq d_F_findingAt_24 (fun _ => ?_) (fun q => absurd (by decide) q)
        refine Wp_iconst (x := 2) d_F_findingAt_31 (by decide) ?_
        refine Wp_reti (ty := .int) d_F_findingAt_32 rfl rfl ?_
        exact ⟨by unfold lckS; rw [if_neg g1, if_neg (fun q => q h14), if_neg g21], rfl⟩
    ·
      have g14 : (S 34 s).toInt ≠ f.toInt := i_ne h14
      refine Wp_iconst (x := 3) d_F_findingAt_17 (by decide) ?_
      refine Wp_reti (ty := .int) d_F_findingAt_18 rfl rfl ?_
      exact ⟨by unfold lckS; rw [if_neg g1, if_pos h14], rfl⟩
set_option maxRecDepth 100000 in
set_option maxHeartbeats 4000000 in
theorem t_F_sheet (E : mE) (d : Nat) (hd : 2 ≤ d) (w : mw) (S : mw) (hC : CC w S) (hV : VM S) (s f n : Int32) : Ti E d m_F_sheet [vr 0, vi s, vi f, vi n] w (fun r w1 => r = (oSheet S s f n).1 ∧ CC w1 (oSheet S s f n).2 ∧ fr cRows w w1) := by
  refine ⟨Nat.le_of_ble_eq_true rfl, ?_⟩
  show Wp E d m_F_sheet 0 [lr 0, li s, li f, li n] [] w _
  refine Wp_iload_n d_F_sheet_0 rfl ?_
  refine Wp_ivs_b (As := [vi s]) d_F_sheet_1 ln_F_115 mk_F_isSheet rfl rfl rfl (by omega) (t_F_isSheet E (d - 1) (by omega) w s) (fun g1 => ?_) (fun g1 => ?_)
  ·
    obtain ⟨s1, h_s1, rfl⟩ := sh_of g1
    have tS_s1 := ti (show s1 < 2147483648 by omega)
    refine Wp_if_eq d_F_sheet_4 (fun q => absurd q (by decide)) (fun _ => ?_)
    refine Wp_iload_n d_F_sheet_7 rfl ?_
    refine Wp_ivs_b (As := [vi f]) d_F_sheet_8 ln_F_247 mk_F_isForm rfl rfl rfl (by omega) (t_F_isForm E (d - 1) (by omega) w f) (fun g8 => ?_) (fun g8 => ?_)
    ·
      refine Wp_if_eq d_F_sheet_11 (fun q => absurd q (by decide)) (fun _ => ?_)
      refine Wp_iload_n d_F_sheet_14 rfl ?_
      refine Wp_bipush (x := 60) d_F_sheet_15 (by decide) ?_
      refine Wp_icmp_le d_F_sheet_17 (fun h17 => ?_) (fun h17 => ?_)
      ·
        have g17 : n.toInt ≤ 60 := i_le h17
        refine Wp_iload_n d_F_sheet_23 rfl ?_
        refine Wp_if_ge d_F_sheet_24 (fun h24 => ?_) (fun h24 => ?_)
        ·
          have g24 : 0 ≤ n.toInt := i_le h24
          obtain ⟨n1, hn1, rfl⟩ : ∃ j : Nat, j < 61 ∧ n = nI j := i_nIof (by have e : Int32.toInt 0 = 0 := rfl; omega) (by have e : Int32.toInt 60 = 60 := rfl; omega)
          have hn2 := ti (show n1 < 2147483648 by omega)
          refine Wp_aload_n d_F_sheet_33 rfl ?_
          refine Wp_getr d_F_sheet_34 fd_F_50 rfl rfl rfl ?_
          refine Wp_iload_n d_F_sheet_37 rfl ?_
          refine Wp_aaldN (j := s1) d_F_sheet_38 rfl rfl rfl rfl (by omega) ?_
          refine Wp_iload_n d_F_sheet_39 rfl ?_
          refine Wp_iload_n d_F_sheet_40 rfl ?_
          refine Wp_ivv_dv (o := (24 + s1)) (As := [vi f, vi (nI n1)]) d_F_sheet_41 ln_F_250 mk_S_renew (mObj_sh h_s1) rfl rfl rfl rfl (by omega) (t_S_renew E (d - 1) (by omega) w s1 n1 f h_s1 (by omega)) ?_
          refine Wp_iload_n d_F_sheet_44 rfl ?_
          refine Wp_reti (ty := .int) d_F_sheet_45 rfl rfl ?_
          have e9 : oSheet S (nI s1) f (nI n1) = (nI n1, shS S s1 n1 f) := by unfold oSheet; rw [if_neg (by omega), if_neg (by omega), cl (by omega), cl (by omega)]; rfl
          rw [e9]; exact ⟨rfl, CC_sheet hC hV h_s1 (by omega) g8.1, fr_sub (fr_tr (fr_tr fr2_U fr2_U) fr2_Rb) (sh_subc h_s1)⟩
        ·
          have g24 : n.toInt < 0 := i_nle h24
          refine Wp_aload_n d_F_sheet_27 rfl ?_
          refine Wp_iconst (x := 5) d_F_sheet_28 (by decide) ?_
          refine Wp_ivv_d (o := 0) (As := [vi 5]) d_F_sheet_29 ln_F_121 mk_F_find rfl rfl rfl rfl rfl (by omega) (t_F_find E (d - 1) (by omega) w 5 (-15) (by decide)) ?_
          refine Wp_reti (ty := .int) d_F_sheet_32 rfl rfl ?_
          have e9 : oSheet S (nI s1) f n = (-15, mU S 33 4 5) := by unfold oSheet; rw [if_neg (by omega), if_pos (by omega)]
          rw [e9]; exact ⟨rfl, CC_fi hC 5, (fr_U (by decide))⟩
      ·
        have g17 : 60 < n.toInt := i_nle h17
        refine Wp_bipush (x := (-2)) d_F_sheet_20 (by decide) ?_
        refine Wp_reti (ty := .int) d_F_sheet_22 rfl rfl ?_
        have e9 : oSheet S (nI s1) f n = (-2, S) := by unfold oSheet; rw [if_pos (by omega)]
        rw [e9]; exact ⟨rfl, hC, fr_rf⟩
    ·
      refine Wp_if_eq d_F_sheet_11 (fun _ => ?_) (fun q => absurd (by decide) q)
      refine Wp_bipush (x := (-2)) d_F_sheet_20 (by decide) ?_
      refine Wp_reti (ty := .int) d_F_sheet_22 rfl rfl ?_
      have e9 : oSheet S (nI s1) f n = (-2, S) := by unfold oSheet; rw [if_pos (by omega)]
      rw [e9]; exact ⟨rfl, hC, fr_rf⟩
  ·
    refine Wp_if_eq d_F_sheet_4 (fun _ => ?_) (fun q => absurd (by decide) q)
    refine Wp_bipush (x := (-2)) d_F_sheet_20 (by decide) ?_
    refine Wp_reti (ty := .int) d_F_sheet_22 rfl rfl ?_
    have e9 : oSheet S s f n = (-2, S) := by unfold oSheet; rw [if_pos (by omega)]
    rw [e9]; exact ⟨rfl, hC, fr_rf⟩
set_option maxRecDepth 100000 in
set_option maxHeartbeats 4000000 in
theorem t_F_lose (E : mE) (d : Nat) (hd : 2 ≤ d) (w : mw) (S : mw) (hC : CC w S) (hV : VM S) (s : Int32) : Ti E d m_F_lose [vr 0, vi s] w (fun r w1 => r = (oLose S s).1 ∧ CC w1 (oLose S s).2 ∧ fr cRows w w1) := by
  refine ⟨Nat.le_of_ble_eq_true rfl, ?_⟩
  show Wp E d m_F_lose 0 [lr 0, li s, lo] [] w _
  refine Wp_iload_n d_F_lose_0 rfl ?_
  refine Wp_ivs_b (As := [vi s]) d_F_lose_1 ln_F_115 mk_F_isSheet rfl rfl rfl (by omega) (t_F_isSheet E (d - 1) (by omega) w s) (fun g1 => ?_) (fun g1 => ?_)
  ·
    obtain ⟨s1, h_s1, rfl⟩ := sh_of g1
    have tS_s1 := ti (show s1 < 2147483648 by omega)
    refine Wp_if_ne d_F_lose_4 (fun _ => ?_) (fun q => absurd q (by decide))
    refine Wp_aload_n d_F_lose_10 rfl ?_
    refine Wp_getr d_F_lose_11 fd_F_50 rfl rfl rfl ?_
    refine Wp_iload_n d_F_lose_14 rfl ?_
    refine Wp_aaldN (j := s1) d_F_lose_15 rfl rfl rfl rfl (by omega) ?_
    refine Wp_ivv_b (o := (24 + s1)) (As := []) d_F_lose_16 ln_F_118 mk_S_isLost (mObj_sh h_s1) rfl rfl rfl rfl (by omega) (t_S_isLost2 E (d - 1) w S hC hV s1 h_s1) (fun g16 => ?_) (fun g16 => ?_)
    ·
      refine Wp_if_eq d_F_lose_19 (fun q => absurd q (by decide)) (fun _ => ?_)
      refine Wp_aload_n d_F_lose_22 rfl ?_
      refine Wp_iconst (x := 1) d_F_lose_23 (by decide) ?_
      refine Wp_ivv_d (o := 0) (As := [vi 1]) d_F_lose_24 ln_F_121 mk_F_find rfl rfl rfl rfl rfl (by omega) (t_F_find E (d - 1) (by omega) w 1 (-11) (by decide)) ?_
      refine Wp_reti (ty := .int) d_F_lose_27 rfl rfl ?_
      have e9 : oLose S (nI s1) = (-11, mU S 33 4 1) := by unfold oLose; rw [if_neg (by omega), cl (by omega), if_pos (by omega)]
      rw [e9]; exact ⟨rfl, CC_fi hC 1, (fr_U (by decide))⟩
    ·
      have cz_s1 := CSh_z (CC_sh hC h_s1) hV h_s1 g16
      refine Wp_if_eq d_F_lose_19 (fun _ => ?_) (fun q => absurd (by decide) q)
      refine Wp_aload_n d_F_lose_28 rfl ?_
      refine Wp_getr d_F_lose_29 fd_F_50 rfl rfl rfl ?_
      refine Wp_iload_n d_F_lose_32 rfl ?_
      refine Wp_aaldN (j := s1) d_F_lose_33 rfl rfl rfl rfl (by omega) ?_
      refine Wp_getf d_F_lose_34 fd_F_124 (mObj_sh h_s1) rfl (mRef_sh2 h_s1) ?_
      refine Wp_eqi (x2 := nI (sSz S s1)) cz_s1.2.1 ?_
      refine Wp_istore_n (ls2 := [lr 0, li (nI s1), li (nI (sSz S s1))]) d_F_lose_37 rfl rfl rfl ?_
      refine Wp_aload_n d_F_lose_38 rfl ?_
      refine Wp_getr d_F_lose_39 fd_F_50 rfl rfl rfl ?_
      refine Wp_iload_n d_F_lose_42 rfl ?_
      refine Wp_aaldN (j := s1) d_F_lose_43 rfl rfl rfl rfl (by omega) ?_
      refine Wp_ivv_dv (o := (24 + s1)) (As := []) d_F_lose_44 ln_F_253 mk_S_tearUp (mObj_sh h_s1) rfl rfl rfl rfl (by omega) (t_S_tearUp E (d - 1) (by omega) w s1 h_s1) ?_
      refine Wp_iload_n d_F_lose_47 rfl ?_
      refine Wp_reti (ty := .int) d_F_lose_48 rfl rfl ?_
      have e9 : oLose S (nI s1) = (nI (sSz S s1), mU S 34 s1 (-1)) := by unfold oLose; rw [if_neg (by omega), cl (by omega), if_neg (by omega), (VM_sz hV s1 h_s1).1]
      rw [e9]; exact ⟨rfl, CC_lose hC hV h_s1, fr_sub fr2_U (sh_subc h_s1)⟩
  ·
    refine Wp_if_ne d_F_lose_4 (fun q => absurd q (by decide)) (fun _ => ?_)
    refine Wp_bipush (x := (-2)) d_F_lose_7 (by decide) ?_
    refine Wp_reti (ty := .int) d_F_lose_9 rfl rfl ?_
    have e9 : oLose S s = (-2, S) := by unfold oLose; rw [if_pos (by omega)]
    rw [e9]; exact ⟨rfl, hC, fr_rf⟩
theorem lck_ok {S : mw} {s : Nat} {f i : Int32} (h : lckS S s f i = 0) (hz : sSz S s ≤ 60) : ¬ (S 34 s).toInt < 0 ∧ S 34 s = f ∧ ∃ j, j < sSz S s ∧ i = nI j := by
  unfold lckS at h
  by_cases h1 : (S 34 s).toInt < 0
  · rw [if_pos h1] at h; exact absurd h (by decide)
  · rw [if_neg h1] at h
    by_cases h2 : S 34 s ≠ f
    · rw [if_pos h2] at h; exact absurd h (by decide)
    · rw [if_neg h2] at h
      by_cases h3 : 0 ≤ i.toInt ∧ i.toInt < sSz S s
      · exact ⟨h1, Classical.byContradiction h2, i_nIof h3.1 h3.2⟩
      · rw [if_neg h3] at h; exact absurd h (by decide)
set_option maxRecDepth 100000 in
set_option maxHeartbeats 4000000 in
theorem t_F_lay (E : mE) (d : Nat) (hd : 2 ≤ d) (w : mw) (S : mw) (hC : CC w S) (hV : VM S) (s f i v : Int32) : Ti E d m_F_lay [vr 0, vi s, vi f, vi i, vi v] w (fun r w1 => r = (oLay S s f i v).1 ∧ CC w1 (oLay S s f i v).2 ∧ fr cRows w w1) := by
  refine ⟨Nat.le_of_ble_eq_true rfl, ?_⟩
  show Wp E d m_F_lay 0 [lr 0, li s, li f, li i, li v, lo] [] w _
  refine Wp_iload_n d_F_lay_0 rfl ?_
  refine Wp_ivs_b (As := [vi s]) d_F_lay_1 ln_F_115 mk_F_isSheet rfl rfl rfl (by omega) (t_F_isSheet E (d - 1) (by omega) w s) (fun g1 => ?_) (fun g1 => ?_)
  ·
    obtain ⟨s1, h_s1, rfl⟩ := sh_of g1
    have tS_s1 := ti (show s1 < 2147483648 by omega)
    refine Wp_if_eq d_F_lay_4 (fun q => absurd q (by decide)) (fun _ => ?_)
    refine Wp_iload_n d_F_lay_7 rfl ?_
    refine Wp_ivs_b (As := [vi f]) d_F_lay_8 ln_F_247 mk_F_isForm rfl rfl rfl (by omega) (t_F_isForm E (d - 1) (by omega) w f) (fun g8 => ?_) (fun g8 => ?_)
    ·
      refine Wp_if_ne d_F_lay_11 (fun _ => ?_) (fun q => absurd q (by decide))
      refine Wp_aload_n d_F_lay_17 rfl ?_
      refine Wp_getr d_F_lay_18 fd_F_50 rfl rfl rfl ?_
      refine Wp_iload_n d_F_lay_21 rfl ?_
      refine Wp_aaldN (j := s1) d_F_lay_22 rfl rfl rfl rfl (by omega) ?_
      refine Wp_iload_n d_F_lay_23 rfl ?_
      refine Wp_iload_n d_F_lay_24 rfl ?_
      refine Wp_ivs_d (As := [vr (24 + s1), vi f, vi i]) d_F_lay_25 ln_F_256 mk_F_findingAt rfl rfl rfl (by omega) (t_F_findingAt E (d - 1) (by omega) w S hC hV s1 h_s1 f i) ?_
      refine Wp_istore (ls2 := [lr 0, li (nI s1), li f, li i, li v, li (lckS S s1 f i)]) d_F_lay_28 rfl rfl rfl ?_
      refine Wp_iload d_F_lay_30 rfl ?_
      refine Wp_if_eq d_F_lay_32 (fun h32 => ?_) (fun h32 => ?_)
      ·
        obtain ⟨q1, q2, i1, h_i1, rfl⟩ := lck_ok h32 (VM_sz hV s1 h_s1).2
        have hz60 := (VM_sz hV s1 h_s1).2
        have cz_s1 := CSh_z (CC_sh hC h_s1) hV h_s1 q1
        refine Wp_aload_n d_F_lay_42 rfl ?_
        refine Wp_getr d_F_lay_43 fd_F_50 rfl rfl rfl ?_
        refine Wp_iload_n d_F_lay_46 rfl ?_
        refine Wp_aaldN (j := s1) d_F_lay_47 rfl rfl rfl rfl (by omega) ?_
        refine Wp_iload_n d_F_lay_48 rfl ?_
        refine Wp_iload d_F_lay_49 rfl ?_
        refine Wp_ivv_v (o := (24 + s1)) (As := [vi (nI i1), vi v]) d_F_lay_51 ln_F_260 mk_S_store (mObj_sh h_s1) rfl rfl rfl rfl (by omega) (t_S_store E (d - 1) (by omega) w s1 (sSz S s1) i1 h_s1 cz_s1.2.1 hz60 (by omega) v) (fun w51 c51 => ?_)
        rw [if_pos h_i1, cz_s1.1, q2] at c51
        rw [c51]
        refine Wp_iconst (x := 1) d_F_lay_54 (by decide) ?_
        refine Wp_reti (ty := .int) d_F_lay_55 rfl rfl ?_
        have e9 : oLay S (nI s1) f (nI i1) v = (1, mU S 36 (60 * s1 + i1) (cutS f v)) := by unfold oLay; rw [if_neg (by omega), cl (by omega), if_neg (fun q => q h32), cl (by omega)]
        rw [e9]; exact ⟨rfl, CC_lay hC hV h_s1 (by omega) (by omega), fr_sub fr2_Ub (sh_subc h_s1)⟩
      ·
        refine Wp_aload_n d_F_lay_35 rfl ?_
        refine Wp_iload d_F_lay_36 rfl ?_
        refine Wp_ivv_d (o := 0) (As := [vi (lckS S s1 f i)]) d_F_lay_38 ln_F_121 mk_F_find rfl rfl rfl rfl rfl (by omega) (t_F_find E (d - 1) (by omega) w (lckS S s1 f i) (-10 - (lckS S s1 f i)) rfl) ?_
        refine Wp_reti (ty := .int) d_F_lay_41 rfl rfl ?_
        have e9 : oLay S (nI s1) f i v = (-10 - lckS S s1 f i, mU S 33 4 (lckS S s1 f i)) := by unfold oLay; rw [if_neg (by omega), cl (by omega), if_pos h32]
        rw [e9]; exact ⟨rfl, CC_fi hC _, (fr_U (by decide))⟩
    ·
      refine Wp_if_ne d_F_lay_11 (fun q => absurd q (by decide)) (fun _ => ?_)
      refine Wp_bipush (x := (-2)) d_F_lay_14 (by decide) ?_
      refine Wp_reti (ty := .int) d_F_lay_16 rfl rfl ?_
      have e9 : oLay S (nI s1) f i v = (-2, S) := by unfold oLay; rw [if_pos (by omega)]
      rw [e9]; exact ⟨rfl, hC, fr_rf⟩
  ·
    refine Wp_if_eq d_F_lay_4 (fun _ => ?_) (fun q => absurd (by decide) q)
    refine Wp_bipush (x := (-2)) d_F_lay_14 (by decide) ?_
    refine Wp_reti (ty := .int) d_F_lay_16 rfl rfl ?_
    have e9 : oLay S s f i v = (-2, S) := by unfold oLay; rw [if_pos (by omega)]
    rw [e9]; exact ⟨rfl, hC, fr_rf⟩
set_option maxRecDepth 100000 in
set_option maxHeartbeats 4000000 in
theorem t_F_get (E : mE) (d : Nat) (hd : 2 ≤ d) (w : mw) (S : mw) (hC : CC w S) (hV : VM S) (s f i : Int32) : Ti E d m_F_get [vr 0, vi s, vi f, vi i] w (fun r w1 => r = (oGet S s f i).1 ∧ CC w1 (oGet S s f i).2 ∧ fr cRows w w1) := by
  refine ⟨Nat.le_of_ble_eq_true rfl, ?_⟩
  show Wp E d m_F_get 0 [lr 0, li s, li f, li i, lo] [] w _
  refine Wp_iload_n d_F_get_0 rfl ?_
  refine Wp_ivs_b (As := [vi s]) d_F_get_1 ln_F_115 mk_F_isSheet rfl rfl rfl (by omega) (t_F_isSheet E (d - 1) (by omega) w s) (fun g1 => ?_) (fun g1 => ?_)
  ·
    obtain ⟨s1, h_s1, rfl⟩ := sh_of g1
    have tS_s1 := ti (show s1 < 2147483648 by omega)
    refine Wp_if_eq d_F_get_4 (fun q => absurd q (by decide)) (fun _ => ?_)
    refine Wp_iload_n d_F_get_7 rfl ?_
    refine Wp_ivs_b (As := [vi f]) d_F_get_8 ln_F_247 mk_F_isForm rfl rfl rfl (by omega) (t_F_isForm E (d - 1) (by omega) w f) (fun g8 => ?_) (fun g8 => ?_)
    ·
      refine Wp_if_ne d_F_get_11 (fun _ => ?_) (fun q => absurd q (by decide))
      refine Wp_aload_n d_F_get_18 rfl ?_
      refine Wp_getr d_F_get_19 fd_F_50 rfl rfl rfl ?_
      refine Wp_iload_n d_F_get_22 rfl ?_
      refine Wp_aaldN (j := s1) d_F_get_23 rfl rfl rfl rfl (by omega) ?_
      refine Wp_iload_n d_F_get_24 rfl ?_
      refine Wp_iload_n d_F_get_25 rfl ?_
      refine Wp_ivs_d (As := [vr (24 + s1), vi f, vi i]) d_F_get_26 ln_F_256 mk_F_findingAt rfl rfl rfl (by omega) (t_F_findingAt E (d - 1) (by omega) w S hC hV s1 h_s1 f i) ?_
      refine Wp_istore (ls2 := [lr 0, li (nI s1), li f, li i, li (lckS S s1 f i)]) d_F_get_29 rfl rfl rfl ?_
      refine Wp_iload d_F_get_31 rfl ?_
      refine Wp_if_eq d_F_get_33 (fun h33 => ?_) (fun h33 => ?_)
      ·
        obtain ⟨q1, q2, i1, h_i1, rfl⟩ := lck_ok h33 (VM_sz hV s1 h_s1).2
        have hz60 := (VM_sz hV s1 h_s1).2
        have cz_s1 := CSh_z (CC_sh hC h_s1) hV h_s1 q1
        refine Wp_aload_n d_F_get_46 rfl ?_
        refine Wp_getr d_F_get_47 fd_F_50 rfl rfl rfl ?_
        refine Wp_iload_n d_F_get_50 rfl ?_
        refine Wp_aaldN (j := s1) d_F_get_51 rfl rfl rfl rfl (by omega) ?_
        refine Wp_iload_n d_F_get_52 rfl ?_
        refine Wp_ivv_d (o := (24 + s1)) (As := [vi (nI i1)]) d_F_get_53 ln_F_133 mk_S_item (mObj_sh h_s1) rfl rfl rfl rfl (by omega) (t_S_item E (d - 1) (by omega) w s1 (sSz S s1) i1 h_s1 cz_s1.2.1 (VM_sz hV s1 h_s1).2 (by omega)) ?_
        refine Wp_eqi (x2 := S 36 (60 * s1 + i1)) (cz_s1.2.2 _ (by omega)) ?_
        refine Wp_reti (ty := .int) d_F_get_56 rfl rfl ?_
        have e9 : oGet S (nI s1) f (nI i1) = (S 36 (60 * s1 + i1), S) := by unfold oGet; rw [if_neg (by omega), cl (by omega), if_neg (fun q => q h33), cl (by omega)]
        rw [e9]; exact ⟨rfl, hC, fr_rf⟩
      ·
        refine Wp_aload_n d_F_get_36 rfl ?_
        refine Wp_iload d_F_get_37 rfl ?_
        refine Wp_puti d_F_get_39 fp_F_264 rfl rfl rfl ?_
        refine Wp_ldcw (x := (-2147483648)) d_F_get_42 kc_F_263 ?_
        refine Wp_reti (ty := .int) d_F_get_45 rfl rfl ?_
        have e9 : oGet S (nI s1) f i = (-2147483648, mU S 33 4 (lckS S s1 f i)) := by unfold oGet; rw [if_neg (by omega), cl (by omega), if_pos h33]
        rw [e9]; exact ⟨rfl, CC_fi hC _, (fr_U (by decide))⟩
    ·
      refine Wp_if_ne d_F_get_11 (fun q => absurd q (by decide)) (fun _ => ?_)
      refine Wp_ldcw (x := (-2147483648)) d_F_get_14 kc_F_263 ?_
      refine Wp_reti (ty := .int) d_F_get_17 rfl rfl ?_
      have e9 : oGet S (nI s1) f i = (-2147483648, S) := by unfold oGet; rw [if_pos (by omega)]
      rw [e9]; exact ⟨rfl, hC, fr_rf⟩
  ·
    refine Wp_if_eq d_F_get_4 (fun _ => ?_) (fun q => absurd (by decide) q)
    refine Wp_ldcw (x := (-2147483648)) d_F_get_14 kc_F_263 ?_
    refine Wp_reti (ty := .int) d_F_get_17 rfl rfl ?_
    have e9 : oGet S s f i = (-2147483648, S) := by unfold oGet; rw [if_pos (by omega)]
    rw [e9]; exact ⟨rfl, hC, fr_rf⟩
set_option maxRecDepth 100000 in
set_option maxHeartbeats 4000000 in
theorem t_F_copy (E : mE) (d : Nat) (hd : 2 ≤ d) (w : mw) (S : mw) (hC : CC w S) (hV : VM S) (s i t j n : Int32) : Ti E d m_F_copy [vr 0, vi s, vi i, vi t, vi j, vi n] w (fun r w1 => r = (oCopy S s i t j n).1 ∧ CC w1 (oCopy S s i t j n).2 ∧ fr cRows w w1) := by
  refine ⟨Nat.le_of_ble_eq_true rfl, ?_⟩
  show Wp E d m_F_copy 0 [lr 0, li s, li i, li t, li j, li n, lo, lo] [] w _
  refine Wp_iload_n d_F_copy_0 rfl ?_
  refine Wp_ivs_b (As := [vi s]) d_F_copy_1 ln_F_115 mk_F_isSheet rfl rfl rfl (by omega) (t_F_isSheet E (d - 1) (by omega) w s) (fun g1 => ?_) (fun g1 => ?_)
  ·
    obtain ⟨s1, h_s1, rfl⟩ := sh_of g1
    have tS_s1 := ti (show s1 < 2147483648 by omega)
    refine Wp_if_eq d_F_copy_4 (fun q => absurd q (by decide)) (fun _ => ?_)
    refine Wp_iload_n d_F_copy_7 rfl ?_
    refine Wp_ivs_b (As := [vi t]) d_F_copy_8 ln_F_115 mk_F_isSheet rfl rfl rfl (by omega) (t_F_isSheet E (d - 1) (by omega) w t) (fun g8 => ?_) (fun g8 => ?_)
    ·
      obtain ⟨t1, h_t1, rfl⟩ := sh_of g8
      have tS_t1 := ti (show t1 < 2147483648 by omega)
      refine Wp_if_ne d_F_copy_11 (fun _ => ?_) (fun q => absurd q (by decide))
      refine Wp_aload_n d_F_copy_17 rfl ?_
      refine Wp_getr d_F_copy_18 fd_F_50 rfl rfl rfl ?_
      refine Wp_iload_n d_F_copy_21 rfl ?_
      refine Wp_aaldN (j := s1) d_F_copy_22 rfl rfl rfl rfl (by omega) ?_
      refine Wp_astore (ls2 := [lr 0, li (nI s1), li i, li (nI t1), li j, li n, lr (24 + s1), lo]) d_F_copy_23 rfl rfl rfl ?_
      refine Wp_aload_n d_F_copy_25 rfl ?_
      refine Wp_getr d_F_copy_26 fd_F_50 rfl rfl rfl ?_
      refine Wp_iload_n d_F_copy_29 rfl ?_
      refine Wp_aaldN (j := t1) d_F_copy_30 rfl rfl rfl rfl (by omega) ?_
      refine Wp_astore (ls2 := [lr 0, li (nI s1), li i, li (nI t1), li j, li n, lr (24 + s1), lr (24 + t1)]) d_F_copy_31 rfl rfl rfl ?_
      refine Wp_aload d_F_copy_33 rfl ?_
      refine Wp_ivv_b (o := (24 + s1)) (As := []) d_F_copy_35 ln_F_118 mk_S_isLost (mObj_sh h_s1) rfl rfl rfl rfl (by omega) (t_S_isLost2 E (d - 1) w S hC hV s1 h_s1) (fun g35 => ?_) (fun g35 => ?_)
      ·
        refine Wp_if_ne d_F_copy_38 (fun _ => ?_) (fun q => absurd q (by decide))
        refine Wp_aload_n d_F_copy_49 rfl ?_
        refine Wp_iconst (x := 1) d_F_copy_50 (by decide) ?_
        refine Wp_ivv_d (o := 0) (As := [vi 1]) d_F_copy_51 ln_F_121 mk_F_find rfl rfl rfl rfl rfl (by omega) (t_F_find E (d - 1) (by omega) w 1 (-11) (by decide)) ?_
        refine Wp_reti (ty := .int) d_F_copy_54 rfl rfl ?_
        have e9 : oCopy S (nI s1) i (nI t1) j n = (-11, mU S 33 4 1) := by unfold oCopy; rw [if_neg (by omega), cl (by omega), cl (by omega), if_pos (by omega)]
        rw [e9]; exact ⟨rfl, CC_fi hC 1, (fr_U (by decide))⟩
      ·
        have cz_s1 := CSh_z (CC_sh hC h_s1) hV h_s1 g35
        refine Wp_if_ne d_F_copy_38 (fun q => absurd q (by decide)) (fun _ => ?_)
        refine Wp_aload d_F_copy_41 rfl ?_
        refine Wp_ivv_b (o := (24 + t1)) (As := []) d_F_copy_43 ln_F_118 mk_S_isLost (mObj_sh h_t1) rfl rfl rfl rfl (by omega) (t_S_isLost2 E (d - 1) w S hC hV t1 h_t1) (fun g43 => ?_) (fun g43 => ?_)
        ·
          refine Wp_if_eq d_F_copy_46 (fun q => absurd q (by decide)) (fun _ => ?_)
          refine Wp_aload_n d_F_copy_49 rfl ?_
          refine Wp_iconst (x := 1) d_F_copy_50 (by decide) ?_
          refine Wp_ivv_d (o := 0) (As := [vi 1]) d_F_copy_51 ln_F_121 mk_F_find rfl rfl rfl rfl rfl (by omega) (t_F_find E (d - 1) (by omega) w 1 (-11) (by decide)) ?_
          refine Wp_reti (ty := .int) d_F_copy_54 rfl rfl ?_
          have e9 : oCopy S (nI s1) i (nI t1) j n = (-11, mU S 33 4 1) := by unfold oCopy; rw [if_neg (by omega), cl (by omega), cl (by omega), if_pos (by omega)]
          rw [e9]; exact ⟨rfl, CC_fi hC 1, (fr_U (by decide))⟩
        ·
          have cz_t1 := CSh_z (CC_sh hC h_t1) hV h_t1 g43
          refine Wp_if_eq d_F_copy_46 (fun _ => ?_) (fun q => absurd (by decide) q)
          refine Wp_aload d_F_copy_55 rfl ?_
          refine Wp_getf d_F_copy_57 fd_F_267 (mObj_sh h_s1) rfl (mRef_sh1 h_s1) ?_
          refine Wp_eqi (x2 := S 34 s1) cz_s1.1 ?_
          refine Wp_aload d_F_copy_60 rfl ?_
          refine Wp_getf d_F_copy_62 fd_F_267 (mObj_sh h_t1) rfl (mRef_sh1 h_t1) ?_
          refine Wp_eqi (x2 := S 34 t1) cz_t1.1 ?_
          refine Wp_icmp_eq d_F_copy_65 (fun h65 => ?_) (fun h65 => ?_)
          ·
            refine Wp_aload d_F_copy_74 rfl ?_
            refine Wp_iload_n d_F_copy_76 rfl ?_
            refine Wp_iload d_F_copy_77 rfl ?_
            refine Wp_ivv_b (o := (24 + s1)) (As := [vi i, vi n]) d_F_copy_79 ln_F_270 mk_S_hasRange (mObj_sh h_s1) rfl rfl rfl rfl (by omega) (t_S_hasRange E (d - 1) (by omega) w s1 (sSz S s1) h_s1 cz_s1.2.1 (VM_sz hV s1 h_s1).2 i n) (fun g79 => ?_) (fun g79 => ?_)
            ·
              refine Wp_if_eq d_F_copy_82 (fun q => absurd q (by decide)) (fun _ => ?_)
              refine Wp_aload d_F_copy_85 rfl ?_
              refine Wp_iload d_F_copy_87 rfl ?_
              refine Wp_iload d_F_copy_89 rfl ?_
              refine Wp_ivv_b (o := (24 + t1)) (As := [vi j, vi n]) d_F_copy_91 ln_F_270 mk_S_hasRange (mObj_sh h_t1) rfl rfl rfl rfl (by omega) (t_S_hasRange E (d - 1) (by omega) w t1 (sSz S t1) h_t1 cz_t1.2.1 (VM_sz hV t1 h_t1).2 j n) (fun g91 => ?_) (fun g91 => ?_)
              ·
                refine Wp_if_ne d_F_copy_94 (fun _ => ?_) (fun q => absurd q (by decide))
                have hz1 := (VM_sz hV s1 h_s1).2
                have hz2 := (VM_sz hV t1 h_t1).2
                obtain ⟨i1, hi1, rfl⟩ : ∃ q : Nat, q < 61 ∧ i = nI q := i_nIof (by omega) (by omega)
                obtain ⟨j1, hj1, rfl⟩ : ∃ q : Nat, q < 61 ∧ j = nI q := i_nIof (by omega) (by omega)
                obtain ⟨n1, hn1, rfl⟩ : ∃ q : Nat, q < 61 ∧ n = nI q := i_nIof (by omega) (by omega)
                have e1 := ti (show i1 < 2147483648 by omega)
                have e2 := ti (show j1 < 2147483648 by omega)
                have e3 := ti (show n1 < 2147483648 by omega)
                have c1 : (nI i1).toNatClampNeg = i1 := cl (by omega)
                have c2 : (nI j1).toNatClampNeg = j1 := cl (by omega)
                have c3 : (nI n1).toNatClampNeg = n1 := cl (by omega)
                have z0 : Int32.toInt 0 = 0 := rfl
                refine Wp_aload d_F_copy_103 rfl ?_
                refine Wp_getr d_F_copy_105 fd_F_273 (mObj_sh h_s1) rfl (mRef_sh h_s1) ?_
                refine Wp_iload_n d_F_copy_108 rfl ?_
                refine Wp_aload d_F_copy_109 rfl ?_
                refine Wp_getr d_F_copy_111 fd_F_273 (mObj_sh h_t1) rfl (mRef_sh h_t1) ?_
                refine Wp_iload d_F_copy_114 rfl ?_
                refine Wp_iload d_F_copy_116 rfl ?_
                refine Wp_copy (n0 := 59) (n1 := 59) d_F_copy_118 ln_copy (mObj_it h_s1) (mArr_it h_s1) (mObj_it h_t1) (mArr_it h_t1) (fun q => by have := i_lt q; omega) (fun q => by have := i_lt q; omega) (fun q => by have := i_lt q; omega) (by omega) (by omega) rfl (by omega) ?_
                rw [c1, c2, c3]
                refine Wp_iconst (x := 1) d_F_copy_121 (by decide) ?_
                refine Wp_reti (ty := .int) d_F_copy_122 rfl rfl ?_
                have e9 : oCopy S (nI s1) (nI i1) (nI t1) (nI j1) (nI n1) = (1, mUr S 36 (va_cpy (S 36) (S 36) (60 * s1 + i1) (60 * t1 + j1) n1)) := by unfold oCopy; rw [if_neg (by omega), cl (by omega), cl (by omega), if_neg (by omega), if_neg (fun q => q h65), if_neg (by omega), c1, c2, c3]
                rw [e9]; exact ⟨rfl, CC_copy hC hV h_s1 h_t1 (by omega) (by omega) (by omega), fr_sub fr2_Rb (sh_subc h_t1)⟩
              ·
                refine Wp_if_ne d_F_copy_94 (fun q => absurd q (by decide)) (fun _ => ?_)
                refine Wp_aload_n d_F_copy_97 rfl ?_
                refine Wp_iconst (x := 2) d_F_copy_98 (by decide) ?_
                refine Wp_ivv_d (o := 0) (As := [vi 2]) d_F_copy_99 ln_F_121 mk_F_find rfl rfl rfl rfl rfl (by omega) (t_F_find E (d - 1) (by omega) w 2 (-12) (by decide)) ?_
                refine Wp_reti (ty := .int) d_F_copy_102 rfl rfl ?_
                have e9 : oCopy S (nI s1) i (nI t1) j n = (-12, mU S 33 4 2) := by unfold oCopy; rw [if_neg (by omega), cl (by omega), cl (by omega), if_neg (by omega), if_neg (fun q => q h65), if_pos (by omega)]
                rw [e9]; exact ⟨rfl, CC_fi hC 2, (fr_U (by decide))⟩
            ·
              refine Wp_if_eq d_F_copy_82 (fun _ => ?_) (fun q => absurd (by decide) q)
              refine Wp_aload_n d_F_copy_97 rfl ?_
              refine Wp_iconst (x := 2) d_F_copy_98 (by decide) ?_
              refine Wp_ivv_d (o := 0) (As := [vi 2]) d_F_copy_99 ln_F_121 mk_F_find rfl rfl rfl rfl rfl (by omega) (t_F_find E (d - 1) (by omega) w 2 (-12) (by decide)) ?_
              refine Wp_reti (ty := .int) d_F_copy_102 rfl rfl ?_
              have e9 : oCopy S (nI s1) i (nI t1) j n = (-12, mU S 33 4 2) := by unfold oCopy; rw [if_neg (by omega), cl (by omega), cl (by omega), if_neg (by omega), if_neg (fun q => q h65), if_pos (by omega)]
              rw [e9]; exact ⟨rfl, CC_fi hC 2, (fr_U (by decide))⟩
          ·
            have g65 : (S 34 s1).toInt ≠ (S 34 t1).toInt := i_ne h65
            refine Wp_aload_n d_F_copy_68 rfl ?_
            refine Wp_iconst (x := 4) d_F_copy_69 (by decide) ?_
            refine Wp_ivv_d (o := 0) (As := [vi 4]) d_F_copy_70 ln_F_121 mk_F_find rfl rfl rfl rfl rfl (by omega) (t_F_find E (d - 1) (by omega) w 4 (-14) (by decide)) ?_
            refine Wp_reti (ty := .int) d_F_copy_73 rfl rfl ?_
            have e9 : oCopy S (nI s1) i (nI t1) j n = (-14, mU S 33 4 4) := by unfold oCopy; rw [if_neg (by omega), cl (by omega), cl (by omega), if_neg (by omega), if_pos h65]
            rw [e9]; exact ⟨rfl, CC_fi hC 4, (fr_U (by decide))⟩
    ·
      refine Wp_if_ne d_F_copy_11 (fun q => absurd q (by decide)) (fun _ => ?_)
      refine Wp_bipush (x := (-2)) d_F_copy_14 (by decide) ?_
      refine Wp_reti (ty := .int) d_F_copy_16 rfl rfl ?_
      have e9 : oCopy S (nI s1) i t j n = (-2, S) := by unfold oCopy; rw [if_pos (by omega)]
      rw [e9]; exact ⟨rfl, hC, fr_rf⟩
  ·
    refine Wp_if_eq d_F_copy_4 (fun _ => ?_) (fun q => absurd (by decide) q)
    refine Wp_bipush (x := (-2)) d_F_copy_14 (by decide) ?_
    refine Wp_reti (ty := .int) d_F_copy_16 rfl rfl ?_
    have e9 : oCopy S s i t j n = (-2, S) := by unfold oCopy; rw [if_pos (by omega)]
    rw [e9]; exact ⟨rfl, hC, fr_rf⟩
set_option maxRecDepth 100000 in
set_option maxHeartbeats 4000000 in
theorem t_F_forget (E : mE) (d : Nat) (hd : 1 ≤ d) (w : mw) (S : mw) (hC : CC w S) (hV : VM S) : Ti E d m_F_forget [vr 0] w (fun r w1 => r = (oForget S).1 ∧ CC w1 (oForget S).2 ∧ fr cRows w w1) := by
  refine ⟨Nat.le_of_ble_eq_true rfl, ?_⟩
  show Wp E d m_F_forget 0 [lr 0] [] w _
  refine Wp_aload_n d_F_forget_0 rfl ?_
  refine Wp_getr d_F_forget_1 fd_F_44 rfl rfl rfl ?_
  refine Wp_ivv_i (o := 19) (As := []) d_F_forget_4 ln_F_230 mk_G_drop rfl rfl rfl rfl rfl (by omega) (t_G_drop E (d - 1) (by omega) w) (fun r4 w4 c4 => ?_)
  obtain ⟨a1, a2⟩ := c4
  rw [a1, a2, hC.2.2.2.1.1]
  refine Wp_reti (ty := .int) d_F_forget_7 rfl rfl ?_
  exact ⟨rfl, CC_fg hC, (fr_U (by decide))⟩
set_option maxRecDepth 100000 in
set_option maxHeartbeats 4000000 in
theorem t_G_add (E : mE) (d : Nat) (hd : 0 ≤ d) (w : mw) (n : Nat) (hn : w 19 3 = nI n) (h8 : n ≤ 8) (a b f : Int32) : Ti E d m_G_add [vr 19, vi a, vi b, vi f] w (fun r w1 => (n = 8 ∧ r = -4 ∧ w1 = w) ∨ (n < 8 ∧ r = nI (n + 1) ∧ w1 = seW w n a b f)) := by
  refine ⟨Nat.le_of_ble_eq_true rfl, ?_⟩
  show Wp E d m_G_add 0 [lr 19, li a, li b, li f] [] w _
  refine Wp_aload_n d_G_add_0 rfl ?_
  refine Wp_getf d_G_add_1 fd_G_21 rfl rfl rfl ?_
  refine Wp_eqi (x2 := nI n) hn ?_
  refine Wp_bipush (x := 8) d_G_add_4 (by decide) ?_
  refine Wp_icmp_lt d_G_add_6 (fun h6 => ?_) (fun h6 => ?_)
  ·
    have g6 : n < 8 := n_lt h6 (by omega) (by omega)
    refine Wp_aload_n d_G_add_12 rfl ?_
    refine Wp_getr d_G_add_13 fd_G_11 rfl rfl rfl ?_
    refine Wp_aload_n d_G_add_16 rfl ?_
    refine Wp_getf d_G_add_17 fd_G_21 rfl rfl rfl ?_
    refine Wp_eqi (x2 := nI n) hn ?_
    refine Wp_iload_n d_G_add_20 rfl ?_
    refine Wp_iastN (j := n) d_G_add_21 rfl rfl rfl rfl (by omega) ?_
    refine Wp_aload_n d_G_add_22 rfl ?_
    refine Wp_getr d_G_add_23 fd_G_15 rfl rfl rfl ?_
    refine Wp_aload_n d_G_add_26 rfl ?_
    refine Wp_getf d_G_add_27 fd_G_21 rfl rfl rfl ?_
    refine Wp_eqi (x2 := w 19 3) (by simp [mU, mUr, upd]) ?_
    refine Wp_eqi (x2 := nI n) hn ?_
    refine Wp_iload_n d_G_add_30 rfl ?_
    refine Wp_iastN (j := n) d_G_add_31 rfl rfl rfl rfl (by omega) ?_
    refine Wp_aload_n d_G_add_32 rfl ?_
    refine Wp_getr d_G_add_33 fd_G_18 rfl rfl rfl ?_
    refine Wp_aload_n d_G_add_36 rfl ?_
    refine Wp_getf d_G_add_37 fd_G_21 rfl rfl rfl ?_
    refine Wp_eqi (x2 := w 19 3) (by simp [mU, mUr, upd]) ?_
    refine Wp_eqi (x2 := nI n) hn ?_
    refine Wp_iload_n d_G_add_40 rfl ?_
    refine Wp_iastN (j := n) d_G_add_41 rfl rfl rfl rfl (by omega) ?_
    refine Wp_aload_n d_G_add_42 rfl ?_
    refine Wp_dup d_G_add_43 rfl ?_
    refine Wp_getf d_G_add_44 fd_G_21 rfl rfl rfl ?_
    refine Wp_eqi (x2 := w 19 3) (by simp [mU, mUr, upd]) ?_
    refine Wp_eqi (x2 := nI n) hn ?_
    refine Wp_iconst (x := 1) d_G_add_47 (by decide) ?_
    refine Wp_iadd d_G_add_48 ?_
    refine Wp_eqi (x2 := nI (n + 1)) (nI_add n 1) ?_
    refine Wp_puti d_G_add_49 fp_G_21 rfl rfl rfl ?_
    refine Wp_aload_n d_G_add_52 rfl ?_
    refine Wp_getf d_G_add_53 fd_G_21 rfl rfl rfl ?_
    refine Wp_eqi (x2 := nI (n + 1)) (by simp [mU, mUr, upd]) ?_
    refine Wp_reti (ty := .int) d_G_add_56 rfl rfl ?_
    exact Or.inr ⟨by omega, rfl, rfl⟩
  ·
    have g6 : 8 ≤ n := n_nlt h6 (by omega) (by omega)
    refine Wp_bipush (x := (-4)) d_G_add_9 (by decide) ?_
    refine Wp_reti (ty := .int) d_G_add_11 rfl rfl ?_
    exact Or.inl ⟨by omega, rfl, rfl⟩
set_option maxRecDepth 100000 in
set_option maxHeartbeats 4000000 in
theorem t_F_seen (E : mE) (d : Nat) (hd : 2 ≤ d) (w : mw) (S : mw) (hC : CC w S) (hV : VM S) (a b f : Int32) : Ti E d m_F_seen [vr 0, vi a, vi b, vi f] w (fun r w1 => r = (oSeen S a b f).1 ∧ CC w1 (oSeen S a b f).2 ∧ fr cRows w w1) := by
  refine ⟨Nat.le_of_ble_eq_true rfl, ?_⟩
  show Wp E d m_F_seen 0 [lr 0, li a, li b, li f] [] w _
  refine Wp_iload_n d_F_seen_0 rfl ?_
  refine Wp_ivs_b (As := [vi a]) d_F_seen_1 ln_F_92 mk_F_isNumber rfl rfl rfl (by omega) (t_F_isNumber E (d - 1) (by omega) w a) (fun g1 => ?_) (fun g1 => ?_)
  ·
    obtain ⟨a1, h_a1, rfl⟩ := nu_of g1
    have tN_a1 := ti (show a1 < 2147483648 by omega)
    refine Wp_if_eq d_F_seen_4 (fun q => absurd q (by decide)) (fun _ => ?_)
    refine Wp_iload_n d_F_seen_7 rfl ?_
    refine Wp_ivs_b (As := [vi b]) d_F_seen_8 ln_F_92 mk_F_isNumber rfl rfl rfl (by omega) (t_F_isNumber E (d - 1) (by omega) w b) (fun g8 => ?_) (fun g8 => ?_)
    ·
      obtain ⟨b1, h_b1, rfl⟩ := nu_of g8
      have tN_b1 := ti (show b1 < 2147483648 by omega)
      refine Wp_if_eq d_F_seen_11 (fun q => absurd q (by decide)) (fun _ => ?_)
      refine Wp_iload_n d_F_seen_14 rfl ?_
      refine Wp_iload_n d_F_seen_15 rfl ?_
      refine Wp_icmp_eq d_F_seen_16 (fun h16 => ?_) (fun h16 => ?_)
      ·
        have g16 : (nI a1).toInt = (nI b1).toInt := by rw [h16]
        refine Wp_bipush (x := (-2)) d_F_seen_30 (by decide) ?_
        refine Wp_reti (ty := .int) d_F_seen_32 rfl rfl ?_
        have e9 : oSeen S (nI a1) (nI b1) f = (-2, S) := by unfold oSeen; rw [if_pos (by omega)]
        rw [e9]; exact ⟨rfl, hC, fr_rf⟩
      ·
        have g16 : (nI a1).toInt ≠ (nI b1).toInt := i_ne h16
        refine Wp_iload_n d_F_seen_19 rfl ?_
        refine Wp_iconst (x := 0) d_F_seen_20 (by decide) ?_
        refine Wp_sipush (x := 200) d_F_seen_21 (by decide) ?_
        refine Wp_ivs_b (As := [vi f, vi 0, vi 200]) d_F_seen_24 ln_F_59 mk_F_isWithin rfl rfl rfl (by omega) (t_F_isWithin E (d - 1) (by omega) w f 0 200) (fun g24 => ?_) (fun g24 => ?_)
        ·
          have k24 : 0 ≤ f.toInt ∧ f.toInt ≤ 200 := g24
          refine Wp_if_ne d_F_seen_27 (fun _ => ?_) (fun q => absurd q (by decide))
          refine Wp_aload_n d_F_seen_33 rfl ?_
          refine Wp_getr d_F_seen_34 fd_F_44 rfl rfl rfl ?_
          refine Wp_iload_n d_F_seen_37 rfl ?_
          refine Wp_iload_n d_F_seen_38 rfl ?_
          refine Wp_iload_n d_F_seen_39 rfl ?_
          refine Wp_ivv_i (o := 19) (As := [vi (nI a1), vi (nI b1), vi f]) d_F_seen_40 ln_F_226 mk_G_add rfl rfl rfl rfl rfl (by omega) (t_G_add E (d - 1) (by omega) w (sSn S) (hC.2.2.2.1.1.trans (VM_sn hV).1) (VM_sn hV).2 (nI a1) (nI b1) f) (fun r40 w40 c40 => ?_)
          rcases c40 with ⟨k8, e1, e2⟩ | ⟨k8, e1, e2⟩
          ·
            rw [e1, e2]
            refine Wp_reti (ty := .int) d_F_seen_43 rfl rfl ?_
            have e9 : oSeen S (nI a1) (nI b1) f = (-4, S) := by unfold oSeen; rw [if_neg (by omega), if_pos (by omega)]
            rw [e9]; exact ⟨rfl, hC, fr_rf⟩
          ·
            rw [e1, e2]
            refine Wp_reti (ty := .int) d_F_seen_43 rfl rfl ?_
            have e9 : oSeen S (nI a1) (nI b1) f = (nI (sSn S + 1), seS S (nI a1) (nI b1) f) := by unfold oSeen; rw [if_neg (by omega), if_neg (by omega)]; rfl
            rw [e9]; exact ⟨rfl, CC_se hC hV _ _ _, fr_sub (fr_tr (fr_tr (fr_tr (fr_U (L := [19, 20, 21, 22]) (by decide)) (fr_U (by decide))) (fr_U (by decide))) (fr_U (by decide))) (by decide)⟩
        ·
          have k24 : ¬ (0 ≤ f.toInt ∧ f.toInt ≤ 200) := g24
          refine Wp_if_ne d_F_seen_27 (fun q => absurd q (by decide)) (fun _ => ?_)
          refine Wp_bipush (x := (-2)) d_F_seen_30 (by decide) ?_
          refine Wp_reti (ty := .int) d_F_seen_32 rfl rfl ?_
          have e9 : oSeen S (nI a1) (nI b1) f = (-2, S) := by unfold oSeen; rw [if_pos (by omega)]
          rw [e9]; exact ⟨rfl, hC, fr_rf⟩
    ·
      refine Wp_if_eq d_F_seen_11 (fun _ => ?_) (fun q => absurd (by decide) q)
      refine Wp_bipush (x := (-2)) d_F_seen_30 (by decide) ?_
      refine Wp_reti (ty := .int) d_F_seen_32 rfl rfl ?_
      have e9 : oSeen S (nI a1) b f = (-2, S) := by unfold oSeen; rw [if_pos (by omega)]
      rw [e9]; exact ⟨rfl, hC, fr_rf⟩
  ·
    refine Wp_if_eq d_F_seen_4 (fun _ => ?_) (fun q => absurd (by decide) q)
    refine Wp_bipush (x := (-2)) d_F_seen_30 (by decide) ?_
    refine Wp_reti (ty := .int) d_F_seen_32 rfl rfl ?_
    have e9 : oSeen S a b f = (-2, S) := by unfold oSeen; rw [if_pos (by omega)]
    rw [e9]; exact ⟨rfl, hC, fr_rf⟩
