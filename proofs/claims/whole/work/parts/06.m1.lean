set_option maxRecDepth 100000 in
set_option maxHeartbeats 4000000 in
theorem t_M_in (E : mE) (d : Nat) (hd : 0 ≤ d) (w : mw) (x a b : Int64) : Tb E d m_M_in [vl x, vl a, vl b] w (a.toInt ≤ x.toInt ∧ x.toInt ≤ b.toInt) := by
  refine ⟨Nat.le_of_ble_eq_true rfl, ?_⟩
  show Wp E d m_M_in 0 [ll x, lo, ll a, lo, ll b, lo] [] w _
  refine Wp_lload_n d_M_in_0 rfl ?_
  refine Wp_lload_n d_M_in_1 rfl ?_
  refine Wp_lcmp d_M_in_2 ?_
  refine Wp_if_lt d_M_in_3 (fun h3 => ?_) (fun h3 => ?_)
  ·
    have g3 := l_cmp_lt h3
    refine Wp_iconst (x := 0) d_M_in_17 (by decide) ?_
    refine Wp_reti (ty := .boolean) d_M_in_18 rfl rfl ?_
    exact ⟨Or.inr ⟨rfl, fun q => by omega⟩, rfl⟩
  ·
    have g3 := l_cmp_nlt h3
    refine Wp_lload_n d_M_in_6 rfl ?_
    refine Wp_lload d_M_in_7 rfl ?_
    refine Wp_lcmp d_M_in_9 ?_
    refine Wp_if_gt d_M_in_10 (fun h10 => ?_) (fun h10 => ?_)
    ·
      have g10 := l_cmp_gt h10
      refine Wp_iconst (x := 0) d_M_in_17 (by decide) ?_
      refine Wp_reti (ty := .boolean) d_M_in_18 rfl rfl ?_
      exact ⟨Or.inr ⟨rfl, fun q => by omega⟩, rfl⟩
    ·
      have g10 := l_cmp_ngt h10
      refine Wp_iconst (x := 1) d_M_in_13 (by decide) ?_
      refine Wp_goto d_M_in_14 ?_
      refine Wp_reti (ty := .boolean) d_M_in_18 rfl rfl ?_
      exact ⟨Or.inl ⟨rfl, ⟨by omega, by omega⟩⟩, rfl⟩
theorem t_M_inI (E : mE) (d : Nat) (w : mw) {x : Int32} {a b : Int64} {lo hi : Int} (ha : a.toInt = lo) (hb : b.toInt = hi) : Tb E d m_M_in [vl x.toInt64, vl a, vl b] w (lo ≤ x.toInt ∧ x.toInt ≤ hi) := by
  have h1 := t_M_in E d (Nat.zero_le _) w x.toInt64 a b
  rw [ha, hb, Int32.toInt_toInt64] at h1
  exact h1
set_option maxRecDepth 100000 in
set_option maxHeartbeats 4000000 in
theorem t_M_no (E : mE) (d : Nat) (hd : 0 ≤ d) (w : mw) (x : Int32) : Tdl E d m_M_no [vi x] w (-9223372036854775808 - x.toInt64) w := by
  refine ⟨Nat.le_of_ble_eq_true rfl, ?_⟩
  show Wp E d m_M_no 0 [li x] [] w _
  refine Wp_ldc2 (x := (-9223372036854775808)) d_M_no_0 kl_M_86 ?_
  refine Wp_iload_n d_M_no_3 rfl ?_
  refine Wp_i2l d_M_no_4 ?_
  refine Wp_lsub d_M_no_5 ?_
  refine Wp_retl d_M_no_6 rfl ?_
  exact ⟨rfl, rfl⟩
set_option maxRecDepth 100000 in
set_option maxHeartbeats 4000000 in
theorem t_M_isTwo (E : mE) (d : Nat) (hd : 1 ≤ d) (w : mw) (x : Int32) : Tb E d m_M_isTwo [vi x] w (0 ≤ x.toInt ∧ x.toInt ≤ 1) := by
  refine ⟨Nat.le_of_ble_eq_true rfl, ?_⟩
  show Wp E d m_M_isTwo 0 [li x] [] w _
  refine Wp_iload_n d_M_isTwo_0 rfl ?_
  refine Wp_i2l d_M_isTwo_1 ?_
  refine Wp_lconst (x := 0) d_M_isTwo_2 (by decide) ?_
  refine Wp_lconst (x := 1) d_M_isTwo_3 (by decide) ?_
  refine Wp_ivs_b (As := [vl x.toInt64, vl 0, vl 1]) d_M_isTwo_4 ln_M_88 mk_M_in rfl rfl rfl (by omega) (t_M_inI E (d - 1) w (x := x) (lo := 0) (hi := 1) (by decide) (by decide)) (fun g4 => ?_) (fun g4 => ?_)
  ·
    refine Wp_reti (ty := .boolean) d_M_isTwo_7 rfl rfl ?_
    exact ⟨Or.inl ⟨rfl, g4⟩, rfl⟩
  ·
    refine Wp_reti (ty := .boolean) d_M_isTwo_7 rfl rfl ?_
    exact ⟨Or.inr ⟨rfl, g4⟩, rfl⟩
set_option maxRecDepth 100000 in
set_option maxHeartbeats 4000000 in
theorem t_M_isSheet (E : mE) (d : Nat) (hd : 1 ≤ d) (w : mw) (x : Int32) : Tb E d m_M_isSheet [vi x] w (0 ≤ x.toInt ∧ x.toInt ≤ 3) := by
  refine ⟨Nat.le_of_ble_eq_true rfl, ?_⟩
  show Wp E d m_M_isSheet 0 [li x] [] w _
  refine Wp_iload_n d_M_isSheet_0 rfl ?_
  refine Wp_i2l d_M_isSheet_1 ?_
  refine Wp_lconst (x := 0) d_M_isSheet_2 (by decide) ?_
  refine Wp_ldc2 (x := 3) d_M_isSheet_3 kl_M_96 ?_
  refine Wp_ivs_b (As := [vl x.toInt64, vl 0, vl 3]) d_M_isSheet_6 ln_M_88 mk_M_in rfl rfl rfl (by omega) (t_M_inI E (d - 1) w (x := x) (lo := 0) (hi := 3) (by decide) (by decide)) (fun g6 => ?_) (fun g6 => ?_)
  ·
    refine Wp_reti (ty := .boolean) d_M_isSheet_9 rfl rfl ?_
    exact ⟨Or.inl ⟨rfl, g6⟩, rfl⟩
  ·
    refine Wp_reti (ty := .boolean) d_M_isSheet_9 rfl rfl ?_
    exact ⟨Or.inr ⟨rfl, g6⟩, rfl⟩
set_option maxRecDepth 100000 in
set_option maxHeartbeats 4000000 in
theorem t_M_isNumber (E : mE) (d : Nat) (hd : 1 ≤ d) (w : mw) (x : Int32) : Tb E d m_M_isNumber [vi x] w (0 ≤ x.toInt ∧ x.toInt ≤ 9) := by
  refine ⟨Nat.le_of_ble_eq_true rfl, ?_⟩
  show Wp E d m_M_isNumber 0 [li x] [] w _
  refine Wp_iload_n d_M_isNumber_0 rfl ?_
  refine Wp_i2l d_M_isNumber_1 ?_
  refine Wp_lconst (x := 0) d_M_isNumber_2 (by decide) ?_
  refine Wp_ldc2 (x := 9) d_M_isNumber_3 kl_M_146 ?_
  refine Wp_ivs_b (As := [vl x.toInt64, vl 0, vl 9]) d_M_isNumber_6 ln_M_88 mk_M_in rfl rfl rfl (by omega) (t_M_inI E (d - 1) w (x := x) (lo := 0) (hi := 9) (by decide) (by decide)) (fun g6 => ?_) (fun g6 => ?_)
  ·
    refine Wp_reti (ty := .boolean) d_M_isNumber_9 rfl rfl ?_
    exact ⟨Or.inl ⟨rfl, g6⟩, rfl⟩
  ·
    refine Wp_reti (ty := .boolean) d_M_isNumber_9 rfl rfl ?_
    exact ⟨Or.inr ⟨rfl, g6⟩, rfl⟩
set_option maxRecDepth 100000 in
set_option maxHeartbeats 4000000 in
theorem t_M_isIn (E : mE) (d : Nat) (hd : 0 ≤ d) (w : mw) (b k : Nat) (hb : b < 2147483648) (hk : k < 32) : Tb E d m_M_isIn [vi (nI b), vi (nI k)] w (b.testBit k = true) := by
  refine ⟨Nat.le_of_ble_eq_true rfl, ?_⟩
  show Wp E d m_M_isIn 0 [li (nI b), li (nI k)] [] w _
  refine Wp_iload_n d_M_isIn_0 rfl ?_
  refine Wp_iload_n d_M_isIn_1 rfl ?_
  refine Wp_ishr d_M_isIn_2 ?_
  refine Wp_eqi (x2 := nI (b / 2 ^ k)) (shr (by omega) (by omega)) ?_
  refine Wp_iconst (x := 1) d_M_isIn_3 (by decide) ?_
  refine Wp_iand d_M_isIn_4 ?_
  refine Wp_eqi (x2 := nI (b / 2 ^ k % 2)) (and1 (by have := Nat.div_le_self b (2 ^ k); omega)) ?_
  refine Wp_iconst (x := 1) d_M_isIn_5 (by decide) ?_
  refine Wp_icmp_ne d_M_isIn_6 (fun h6 => ?_) (fun h6 => ?_)
  ·
    have g6 : (b / 2 ^ k % 2) ≠ 1 := n_ne h6 (by omega) (by omega)
    refine Wp_iconst (x := 0) d_M_isIn_13 (by decide) ?_
    refine Wp_reti (ty := .boolean) d_M_isIn_14 rfl rfl ?_
    exact ⟨Or.inr ⟨rfl, fun q => by have := tb_div.mpr q; omega⟩, rfl⟩
  ·
    have g6 : (b / 2 ^ k % 2) = 1 := n_eq h6 (by omega) (by omega)
    refine Wp_iconst (x := 1) d_M_isIn_9 (by decide) ?_
    refine Wp_goto d_M_isIn_10 ?_
    refine Wp_reti (ty := .boolean) d_M_isIn_14 rfl rfl ?_
    exact ⟨Or.inl ⟨rfl, tb_div.mp (by omega)⟩, rfl⟩
set_option maxRecDepth 100000 in
set_option maxHeartbeats 4000000 in
theorem t_M_met (E : mE) (d : Nat) (hd : 0 ≤ d) (w : mw) (x r : Int32) (hr : -10 - x = r) : Td E d m_M_met [vr 33, vi x] w r (mU w 33 4 x) := by
  refine ⟨Nat.le_of_ble_eq_true rfl, ?_⟩
  show Wp E d m_M_met 0 [lr 33, li x] [] w _
  refine Wp_aload_n d_M_met_0 rfl ?_
  refine Wp_iload_n d_M_met_1 rfl ?_
  refine Wp_puti d_M_met_2 fp_M_92 rfl rfl rfl ?_
  refine Wp_bipush (x := (-10)) d_M_met_5 (by decide) ?_
  refine Wp_iload_n d_M_met_7 rfl ?_
  refine Wp_isub d_M_met_8 ?_
  refine Wp_reti (ty := .int) d_M_met_9 rfl rfl ?_
  exact ⟨hr, rfl⟩
def cutS (f x : Int32) : Int32 := if f = 0 then x.toInt8.toInt32 else if f = 1 then x.toInt16.toInt32 else x
set_option maxRecDepth 100000 in
set_option maxHeartbeats 4000000 in
theorem t_M_cut (E : mE) (d : Nat) (hd : 0 ≤ d) (w : mw) (f x : Int32) : Td E d m_M_cut [vi f, vi x] w (cutS f x) w := by
  refine ⟨Nat.le_of_ble_eq_true rfl, ?_⟩
  show Wp E d m_M_cut 0 [li f, li x] [] w _
  refine Wp_iload_n d_M_cut_0 rfl ?_
  refine Wp_if_ne d_M_cut_1 (fun h1 => ?_) (fun h1 => ?_)
  ·
    have g1 : f.toInt ≠ 0 := i_ne h1
    refine Wp_iload_n d_M_cut_9 rfl ?_
    refine Wp_iconst (x := 1) d_M_cut_10 (by decide) ?_
    refine Wp_icmp_ne d_M_cut_11 (fun h11 => ?_) (fun h11 => ?_)
    ·
      have g11 : f.toInt ≠ 1 := i_ne h11
      refine Wp_iload_n d_M_cut_19 rfl ?_
      refine Wp_reti (ty := .int) d_M_cut_20 rfl rfl ?_
      exact ⟨by unfold cutS; simp_all, rfl⟩
    ·
      refine Wp_iload_n d_M_cut_14 rfl ?_
      refine Wp_i2s d_M_cut_15 ?_
      refine Wp_goto d_M_cut_16 ?_
      refine Wp_reti (ty := .int) d_M_cut_20 rfl rfl ?_
      exact ⟨by unfold cutS; simp_all, rfl⟩
  ·
    refine Wp_iload_n d_M_cut_4 rfl ?_
    refine Wp_i2b d_M_cut_5 ?_
    refine Wp_goto d_M_cut_6 ?_
    refine Wp_reti (ty := .int) d_M_cut_20 rfl rfl ?_
    exact ⟨by unfold cutS; simp_all, rfl⟩
set_option maxRecDepth 100000 in
set_option maxHeartbeats 4000000 in
theorem t_M_forget (E : mE) (d : Nat) (hd : 0 ≤ d) (w : mw)  : Td E d m_M_forget [vr 33] w (w 33 28) (mU w 33 28 0) := by
  refine ⟨Nat.le_of_ble_eq_true rfl, ?_⟩
  show Wp E d m_M_forget 0 [lr 33, lo] [] w _
  refine Wp_aload_n d_M_forget_0 rfl ?_
  refine Wp_getf d_M_forget_1 fd_M_263 rfl rfl rfl ?_
  refine Wp_istore_n (ls2 := [lr 33, li (w 33 28)]) d_M_forget_4 rfl rfl rfl ?_
  refine Wp_aload_n d_M_forget_5 rfl ?_
  refine Wp_iconst (x := 0) d_M_forget_6 (by decide) ?_
  refine Wp_puti d_M_forget_7 fp_M_263 rfl rfl rfl ?_
  refine Wp_iload_n d_M_forget_10 rfl ?_
  refine Wp_reti (ty := .int) d_M_forget_11 rfl rfl ?_
  exact ⟨rfl, rfl⟩
set_option maxRecDepth 100000 in
set_option maxHeartbeats 4000000 in
theorem t_M_wipe (E : mE) (d : Nat) (hd : 0 ≤ d) (w : mw)  : Td E d m_M_wipe [vr 33] w (w 33 6) (mU w 33 6 0) := by
  refine ⟨Nat.le_of_ble_eq_true rfl, ?_⟩
  show Wp E d m_M_wipe 0 [lr 33, lo] [] w _
  refine Wp_aload_n d_M_wipe_0 rfl ?_
  refine Wp_getf d_M_wipe_1 fd_M_119 rfl rfl rfl ?_
  refine Wp_istore_n (ls2 := [lr 33, li (w 33 6)]) d_M_wipe_4 rfl rfl rfl ?_
  refine Wp_aload_n d_M_wipe_5 rfl ?_
  refine Wp_iconst (x := 0) d_M_wipe_6 (by decide) ?_
  refine Wp_puti d_M_wipe_7 fp_M_119 rfl rfl rfl ?_
  refine Wp_iload_n d_M_wipe_10 rfl ?_
  refine Wp_reti (ty := .int) d_M_wipe_11 rfl rfl ?_
  exact ⟨rfl, rfl⟩
set_option maxRecDepth 100000 in
set_option maxHeartbeats 4000000 in
theorem t_M_nobody (E : mE) (d : Nat) (hd : 0 ≤ d) (w : mw)  : Td E d m_M_nobody [vr 33] w (w 33 7) (mU w 33 8 0) := by
  refine ⟨Nat.le_of_ble_eq_true rfl, ?_⟩
  show Wp E d m_M_nobody 0 [lr 33] [] w _
  refine Wp_aload_n d_M_nobody_0 rfl ?_
  refine Wp_iconst (x := 0) d_M_nobody_1 (by decide) ?_
  refine Wp_puti d_M_nobody_2 fp_M_125 rfl rfl rfl ?_
  refine Wp_aload_n d_M_nobody_5 rfl ?_
  refine Wp_getf d_M_nobody_6 fd_M_122 rfl rfl rfl ?_
  refine Wp_reti (ty := .int) d_M_nobody_9 rfl rfl ?_
  exact ⟨rfl, rfl⟩
