theorem t_M_noL (E : mE) (d : Nat) (w : mw) (x : Int32) (r : Int64) (h : -9223372036854775808 - x.toInt64 = r) : Tdl E d m_M_no [vi x] w r w := by
  subst h; exact t_M_no E d (Nat.zero_le _) w x
set_option maxRecDepth 100000 in
set_option maxHeartbeats 4000000 in
theorem l_M_fac (E : mE) (d : Nat) (w : mw) (n : Nat) (hn : n ≤ 6) : ∀ (j k : Nat), k + j = n → Wp E d m_M_factorial 4 [li (nI n), ll (lN (facS k)), lo, li (nI (k + 1))] [] w (mPl (fun r w1 => r = lN (facS n) ∧ w1 = w)) := by
  intro j
  induction j with
  | zero =>
    intro k hk
    refine Wp_iload_n d_M_factorial_4 rfl ?_
    refine Wp_iload_n d_M_factorial_5 rfl ?_
    refine Wp_icmp_gt d_M_factorial_6 (fun h6 => ?_) (fun q => absurd (n_nlt q (by omega) (by omega)) (by omega))
    refine Wp_lload_n d_M_factorial_20 rfl ?_
    refine Wp_retl d_M_factorial_21 rfl ?_
    have hin : k = n := by omega
    subst hin
    exact ⟨rfl, rfl⟩
  | succ j ih =>
    intro k hk
    refine Wp_iload_n d_M_factorial_4 rfl ?_
    refine Wp_iload_n d_M_factorial_5 rfl ?_
    refine Wp_icmp_gt d_M_factorial_6 (fun q => absurd (n_lt q (by omega) (by omega)) (by omega)) (fun h6 => ?_)
    refine Wp_lload_n d_M_factorial_9 rfl ?_
    refine Wp_iload_n d_M_factorial_10 rfl ?_
    refine Wp_i2l d_M_factorial_11 ?_
    refine Wp_eql (x2 := lN (k + 1)) (nI_l (by omega)) ?_
    refine Wp_lmul d_M_factorial_12 ?_
    refine Wp_eql (x2 := lN (facS (k + 1))) (by rw [lN_mul, Nat.mul_comm]; rfl) ?_
    refine Wp_lstore_n (ls2 := [li (nI n), ll (lN (facS (k + 1))), lo, li (nI (k + 1))]) d_M_factorial_13 rfl rfl rfl ?_
    refine Wp_iinc (z := nI ((k + 1) + 1)) (ls2 := [li (nI n), ll (lN (facS (k + 1))), lo, li (nI ((k + 1) + 1))]) d_M_factorial_14 rfl (nI_add (k + 1) 1) rfl rfl rfl ?_
    refine Wp_goto d_M_factorial_17 ?_
    exact ih (k + 1) (by omega)
set_option maxRecDepth 100000 in
set_option maxHeartbeats 4000000 in
theorem t_M_factorial (E : mE) (d : Nat) (hd : 0 ≤ d) (w : mw) (n : Nat) (hn : n ≤ 6) : Tdl E d m_M_factorial [vi (nI n)] w (lN (facS n)) w := by
  refine ⟨Nat.le_of_ble_eq_true rfl, ?_⟩
  show Wp E d m_M_factorial 0 [li (nI n), lo, lo, lo] [] w _
  by_cases h1 : 1 ≤ n
  ·
    refine Wp_lconst (x := 1) d_M_factorial_0 (by decide) ?_
    refine Wp_lstore_n (ls2 := [li (nI n), ll 1, lo, lo]) d_M_factorial_1 rfl rfl rfl ?_
    refine Wp_iconst (x := 2) d_M_factorial_2 (by decide) ?_
    refine Wp_istore_n (ls2 := [li (nI n), ll 1, lo, li 2]) d_M_factorial_3 rfl rfl rfl ?_
    exact l_M_fac E d w n hn (n - 1) 1 (by omega)
  · have h0 : n = 0 := by omega
    subst h0
    refine Wp_lconst (x := 1) d_M_factorial_0 (by decide) ?_
    refine Wp_lstore_n (ls2 := [li 0, ll 1, lo, lo]) d_M_factorial_1 rfl rfl rfl ?_
    refine Wp_iconst (x := 2) d_M_factorial_2 (by decide) ?_
    refine Wp_istore_n (ls2 := [li 0, ll 1, lo, li 2]) d_M_factorial_3 rfl rfl rfl ?_
    refine Wp_iload_n d_M_factorial_4 rfl ?_
    refine Wp_iload_n d_M_factorial_5 rfl ?_
    refine Wp_icmp_gt d_M_factorial_6 (fun _ => ?_) (fun q => absurd (by decide) q)
    refine Wp_lload_n d_M_factorial_20 rfl ?_
    refine Wp_retl d_M_factorial_21 rfl ?_
    exact ⟨rfl, rfl⟩
set_option maxRecDepth 100000 in
set_option maxHeartbeats 4000000 in
theorem l_M_part (E : mE) (d : Nat) (w : mw) (x : Int64) (b : Nat) (c : Int32) (Q : Option mv → mw → Prop) : ∀ (k m n : Nat) (u u2 : Option mv), n < k → m < 9223372036854775808 → n < 9223372036854775808 → (∀ u u2, Wp E d m_M_part 42 [ll x, lo, ll (lN b), lo, li c, ll (lN (Nat.gcd m n)), lo, ll (lN 0), lo, u, u2] [] w Q) → Wp E d m_M_part 17 [ll x, lo, ll (lN b), lo, li c, ll (lN m), lo, ll (lN n), lo, u, u2] [] w Q := by
  intro k
  induction k with
  | zero => intro m n u u2 h; exact absurd h (Nat.not_lt_zero _)
  | succ k ih =>
    intro m n u u2 hk hm hn hQ
    by_cases h0 : n = 0
    · subst h0
      refine Wp_lload d_M_part_17 rfl ?_
      refine Wp_lconst (x := 0) d_M_part_19 (by decide) ?_
      refine Wp_lcmp d_M_part_20 ?_
      refine Wp_if_eq d_M_part_21 (fun h21 => ?_) (fun q => absurd (show lg_cmp (lN 0) 0 = 0 from by decide) q)
      have h9 := hQ u u2
      rw [Nat.gcd_zero_right] at h9
      exact h9
    · have hl : m % n < n := Nat.mod_lt _ (by omega)
      have hg : Nat.gcd m n = Nat.gcd n (m % n) := by rw [Nat.gcd_comm m n, Nat.gcd_rec n m, Nat.gcd_comm]
      refine Wp_lload d_M_part_17 rfl ?_
      refine Wp_lconst (x := 0) d_M_part_19 (by decide) ?_
      refine Wp_lcmp d_M_part_20 ?_
      refine Wp_if_eq d_M_part_21 (fun q => (h0 (by have := congrArg Int64.toInt (l_cmp_eq q); rw [pk_lT (by omega)] at this; have e : Int64.toInt 0 = 0 := rfl; omega)).elim) (fun h21 => ?_)
      refine Wp_lload d_M_part_24 rfl ?_
      refine Wp_lload d_M_part_26 rfl ?_
      refine Wp_lrem d_M_part_28 (fun q => h0 (by have := congrArg Int64.toInt q; rw [pk_lT (by omega)] at this; have e : Int64.toInt 0 = 0 := rfl; omega)) ?_
      refine Wp_eql (x2 := lN (m % n)) (pk_lRem (by omega) (by omega) (by omega)) ?_
      refine Wp_lstore (ls2 := [ll x, lo, ll (lN b), lo, li c, ll (lN m), lo, ll (lN n), lo, ll (lN (m % n)), lo]) d_M_part_29 rfl rfl rfl ?_
      refine Wp_lload d_M_part_31 rfl ?_
      refine Wp_lstore (ls2 := [ll x, lo, ll (lN b), lo, li c, ll (lN n), lo, ll (lN n), lo, ll (lN (m % n)), lo]) d_M_part_33 rfl rfl rfl ?_
      refine Wp_lload d_M_part_35 rfl ?_
      refine Wp_lstore (ls2 := [ll x, lo, ll (lN b), lo, li c, ll (lN n), lo, ll (lN (m % n)), lo, ll (lN (m % n)), lo]) d_M_part_37 rfl rfl rfl ?_
      refine Wp_goto d_M_part_39 ?_
      exact ih n (m % n) _ _ (by omega) (by omega) (by omega) (fun u u2 => by rw [← hg]; exact hQ u u2)
set_option maxRecDepth 100000 in
set_option maxHeartbeats 4000000 in
theorem t_M_part (E : mE) (d : Nat) (hd : 0 ≤ d) (w : mw) (x : Int64) (b : Nat) (c : Int32) (hx1 : -4611686018427387904 ≤ x.toInt) (hx2 : x.toInt ≤ 4611686018427387904) (hb0 : 0 < b) (hb : b < 2147483648) : Tdl E d m_M_part [vl x, vl (lN b), vi c] w (partR x b c) w := by
  refine ⟨Nat.le_of_ble_eq_true rfl, ?_⟩
  show Wp E d m_M_part 0 [ll x, lo, ll (lN b), lo, li c, lo, lo, lo, lo, lo, lo] [] w _
  refine Wp_lload_n d_M_part_0 rfl ?_
  refine Wp_lconst (x := 0) d_M_part_1 (by decide) ?_
  refine Wp_lcmp d_M_part_2 ?_
  refine Wp_if_ge d_M_part_3 (fun h3 => ?_) (fun h3 => ?_)
  ·
    have g3 : 0 ≤ x.toInt := l_cmp_ge h3
    refine Wp_lload_n d_M_part_11 rfl ?_
    refine Wp_lstore (ls2 := [ll x, lo, ll (lN b), lo, li c, ll x, lo, lo, lo, lo, lo]) d_M_part_12 rfl rfl rfl ?_
    refine Wp_lload_n d_M_part_14 rfl ?_
    refine Wp_lstore (ls2 := [ll x, lo, ll (lN b), lo, li c, ll x, lo, ll (lN b), lo, lo, lo]) d_M_part_15 rfl rfl rfl ?_
    have hgl := Nat.gcd_le_right (m := x.toInt.natAbs) (n := b) hb0
    have hg0 : ¬ Nat.gcd x.toInt.natAbs b = 0 := fun q => by have := Nat.eq_zero_of_gcd_eq_zero_right q; omega
    have ea : x = lN x.toInt.natAbs := lN_abs1 g3
    have h7 : Wp E d m_M_part 17 [ll x, lo, ll (lN b), lo, li c, ll (lN x.toInt.natAbs), lo, ll (lN b), lo, lo, lo] [] w (mPl (fun r w1 => r = partR x b c ∧ w1 = w)) := by
      refine l_M_part E d w x b c _ (b + 1) x.toInt.natAbs b none none (by omega) (by omega) (by omega) (fun u u2 => ?_)
      refine Wp_iload d_M_part_42 rfl ?_
      refine Wp_if_ne d_M_part_44 (fun h44 => ?_) (fun h44 => ?_)
      ·
        have g44 : c.toInt ≠ 0 := i_ne h44
        refine Wp_lload_n d_M_part_51 rfl ?_
        refine Wp_lload d_M_part_52 rfl ?_
        refine Wp_ldiv d_M_part_54 (fun q => hg0 (by have := congrArg Int64.toInt q; rw [pk_lT (by omega)] at this; have e : Int64.toInt 0 = 0 := rfl; omega)) ?_
        refine Wp_retl d_M_part_55 rfl ?_
        refine ⟨?_, rfl⟩
        unfold partR; rw [if_neg h44]
      ·
        refine Wp_lload_n d_M_part_47 rfl ?_
        refine Wp_goto d_M_part_48 ?_
        refine Wp_lload d_M_part_52 rfl ?_
        refine Wp_ldiv d_M_part_54 (fun q => hg0 (by have := congrArg Int64.toInt q; rw [pk_lT (by omega)] at this; have e : Int64.toInt 0 = 0 := rfl; omega)) ?_
        refine Wp_retl d_M_part_55 rfl ?_
        refine ⟨?_, rfl⟩
        unfold partR; rw [if_pos h44]
    rw [show (ll (lN x.toInt.natAbs) : Option mv) = ll x from congrArg ll ea.symm] at h7
    exact h7
  ·
    have g3 : x.toInt < 0 := l_cmp_nge h3
    refine Wp_lload_n d_M_part_6 rfl ?_
    refine Wp_lneg d_M_part_7 ?_
    refine Wp_goto d_M_part_8 ?_
    refine Wp_lstore (ls2 := [ll x, lo, ll (lN b), lo, li c, ll (-x), lo, lo, lo, lo, lo]) d_M_part_12 rfl rfl rfl ?_
    refine Wp_lload_n d_M_part_14 rfl ?_
    refine Wp_lstore (ls2 := [ll x, lo, ll (lN b), lo, li c, ll (-x), lo, ll (lN b), lo, lo, lo]) d_M_part_15 rfl rfl rfl ?_
    have hgl := Nat.gcd_le_right (m := x.toInt.natAbs) (n := b) hb0
    have hg0 : ¬ Nat.gcd x.toInt.natAbs b = 0 := fun q => by have := Nat.eq_zero_of_gcd_eq_zero_right q; omega
    have ea : -x = lN x.toInt.natAbs := lN_abs2 g3 hx1
    have h7 : Wp E d m_M_part 17 [ll x, lo, ll (lN b), lo, li c, ll (lN x.toInt.natAbs), lo, ll (lN b), lo, lo, lo] [] w (mPl (fun r w1 => r = partR x b c ∧ w1 = w)) := by
      refine l_M_part E d w x b c _ (b + 1) x.toInt.natAbs b none none (by omega) (by omega) (by omega) (fun u u2 => ?_)
      refine Wp_iload d_M_part_42 rfl ?_
      refine Wp_if_ne d_M_part_44 (fun h44 => ?_) (fun h44 => ?_)
      ·
        have g44 : c.toInt ≠ 0 := i_ne h44
        refine Wp_lload_n d_M_part_51 rfl ?_
        refine Wp_lload d_M_part_52 rfl ?_
        refine Wp_ldiv d_M_part_54 (fun q => hg0 (by have := congrArg Int64.toInt q; rw [pk_lT (by omega)] at this; have e : Int64.toInt 0 = 0 := rfl; omega)) ?_
        refine Wp_retl d_M_part_55 rfl ?_
        refine ⟨?_, rfl⟩
        unfold partR; rw [if_neg h44]
      ·
        refine Wp_lload_n d_M_part_47 rfl ?_
        refine Wp_goto d_M_part_48 ?_
        refine Wp_lload d_M_part_52 rfl ?_
        refine Wp_ldiv d_M_part_54 (fun q => hg0 (by have := congrArg Int64.toInt q; rw [pk_lT (by omega)] at this; have e : Int64.toInt 0 = 0 := rfl; omega)) ?_
        refine Wp_retl d_M_part_55 rfl ?_
        refine ⟨?_, rfl⟩
        unfold partR; rw [if_pos h44]
    rw [show (ll (lN x.toInt.natAbs) : Option mv) = ll (-x) from congrArg ll ea.symm] at h7
    exact h7
set_option maxRecDepth 100000 in
set_option maxHeartbeats 4000000 in
theorem t_M_paysOf (E : mE) (d : Nat) (hd : 4 ≤ d) (w : mw) (S : mw) (hM : MP w S) (hV : VM S) (j : Nat) (hj : j < pN S) (a : Int32) : Tl E d m_M_paysOf [vr 33, vi (nI j), vi a] w (fun r w1 => r = paysR S j a ∧ fr sRows w w1) := by
  refine ⟨Nat.le_of_ble_eq_true rfl, ?_⟩
  show Wp E d m_M_paysOf 0 [lr 33, li (nI j), li a, lo] [] w _
  have hp10 := (pN_ok S).1
  have hlt := two10 hp10
  have hwl := wh_lt S
  have hwe := wh_1 S
  have hbw : bwR S j < 2147483648 := by
    by_cases h : bwR S j = 0
    · omega
    · have := (bwR_ok hV hj h).2.1; omega
  refine Wp_aload_n d_M_paysOf_0 rfl ?_
  refine Wp_ivv_v (o := 33) (As := []) d_M_paysOf_1 ln_M_201 mk_M_findBoats rfl rfl rfl rfl rfl (by omega) (t_M_findBoats E (d - 1) (by omega) w S hM hV) (fun w1 c1 => ?_)
  obtain ⟨hB, fB⟩ := c1
  refine Wp_aload_n d_M_paysOf_4 rfl ?_
  refine Wp_aload_n d_M_paysOf_5 rfl ?_
  refine Wp_ivv_d (o := 33) (As := []) d_M_paysOf_6 ln_M_184 mk_M_whole rfl rfl rfl rfl rfl (by omega) (t_M_whole E (d - 1) (by omega) w1 S hB.1 hV) ?_
  refine Wp_ivv_v (o := 33) (As := [vi (nI (wh S))]) d_M_paysOf_9 ln_M_197 mk_M_findDay rfl rfl rfl rfl rfl (by omega) (t_M_findDay E (d - 1) (by omega) w1 S hB hV (wh S) (by omega)) (fun w2 c9 => ?_)
  obtain ⟨hD, fD⟩ := c9
  refine Wp_aload_n d_M_paysOf_12 rfl ?_
  refine Wp_iload_n d_M_paysOf_13 rfl ?_
  refine Wp_ivv_d (o := 33) (As := [vi (nI j)]) d_M_paysOf_14 ln_M_207 mk_M_boatWith rfl rfl rfl rfl rfl (by omega) (t_M_boatWith E (d - 1) (by omega) w2 S (MP_s hB.1 (fr_sub fD (by decide))) hV hD j (by omega)) ?_
  refine Wp_istore_n (ls2 := [lr 33, li (nI j), li a, li (nI (bwR S j))]) d_M_paysOf_17 rfl rfl rfl ?_
  refine Wp_iload_n d_M_paysOf_18 rfl ?_
  refine Wp_if_ne d_M_paysOf_19 (fun h19 => ?_) (fun h19 => ?_)
  ·
    have g19 : bwR S j ≠ 0 := n_ne h19 (by omega) (by omega)
    have hk := bwR_ok hV hj g19
    have hcl := costS_le hV hk.2.1 hk.2.2.2.1
    have hpb := popc_le (bwR S j)
    have hpp := popc_pos (bwR S j) (by omega) hk.2.2.2.1
    refine Wp_aload_n d_M_paysOf_30 rfl ?_
    refine Wp_getr d_M_paysOf_31 fd_M_46 rfl rfl rfl ?_
    refine Wp_iload_n d_M_paysOf_34 rfl ?_
    refine Wp_ialdN (j := (bwR S j)) d_M_paysOf_35 rfl rfl rfl rfl (by omega) ?_
    refine Wp_eqi (x2 := nI (costS S (bwR S j))) ((congrFun (fD 46 (by decide)) _).trans ((hB.2 _ hk.2.2.2.1 hk.2.1).2.1.trans (if_pos hk.2.2.1))) ?_
    refine Wp_i2l d_M_paysOf_36 ?_
    refine Wp_eql (x2 := lN (costS S (bwR S j))) (nI_l (by omega)) ?_
    refine Wp_iload_n d_M_paysOf_37 rfl ?_
    refine Wp_ivs_d (As := [vi (nI (bwR S j))]) d_M_paysOf_38 ln_M_173 mk_M_ones rfl rfl rfl (by omega) (t_M_ones E (d - 1) (by omega) w2 (bwR S j) (by omega)) ?_
    refine Wp_i2l d_M_paysOf_41 ?_
    refine Wp_eql (x2 := lN (popc (bwR S j))) (nI_l (by omega)) ?_
    refine Wp_iload_n d_M_paysOf_42 rfl ?_
    refine Wp_ivs_dl (As := [vl (lN (costS S (bwR S j))), vl (lN (popc (bwR S j))), vi a]) d_M_paysOf_43 ln_M_229 mk_M_part rfl rfl rfl (by omega) (t_M_part E (d - 1) (by omega) w2 (lN (costS S (bwR S j))) (popc (bwR S j)) a (by rw [pk_lT (by omega)]; omega) (by rw [pk_lT (by omega)]; omega) (by omega) (by omega)) ?_
    refine Wp_retl d_M_paysOf_46 rfl ?_
    exact ⟨by unfold paysR; rw [if_neg g19], fr_tr (fr_sub fB (by decide)) (fr_sub fD (by decide))⟩
  ·
    have g19 : bwR S j = 0 := n_eq h19 (by omega) (by omega)
    refine Wp_bipush (x := (-3)) d_M_paysOf_22 (by decide) ?_
    refine Wp_ivs_dl (As := [vi (-3)]) d_M_paysOf_24 ln_M_225 mk_M_no rfl rfl rfl (by omega) (t_M_noL E (d - 1) w2 (-3) (-9223372036854775805) (by decide)) ?_
    refine Wp_goto d_M_paysOf_27 ?_
    refine Wp_retl d_M_paysOf_46 rfl ?_
    exact ⟨by unfold paysR; rw [if_pos g19], fr_tr (fr_sub fB (by decide)) (fr_sub fD (by decide))⟩
set_option maxRecDepth 100000 in
set_option maxHeartbeats 4000000 in
theorem t_M_pays (E : mE) (d : Nat) (hd : 5 ≤ d) (w : mw) (S : mw) (hM : MM w S) (hV : VM S) (p a : Int32) : Tl E d m_M_pays [vr 33, vi p, vi a] w (fun r w1 => r = rPays S p a ∧ MP w1 S ∧ fr mRows w w1) := by
  refine ⟨Nat.le_of_ble_eq_true rfl, ?_⟩
  show Wp E d m_M_pays 0 [lr 33, li p, li a] [] w _
  have hp10 := (pN_ok S).1
  have hlt := two10 hp10
  have hwl := wh_lt S
  have hwe := wh_1 S
  refine Wp_aload_n d_M_pays_0 rfl ?_
  refine Wp_iload_n d_M_pays_1 rfl ?_
  refine Wp_ivv_i (o := 33) (As := [vi p]) d_M_pays_2 ln_M_148 mk_M_isPerson rfl rfl rfl rfl rfl (by omega) (t_M_isPerson E (d - 1) (by omega) w S hM hV p) (fun r2 w2 c2 => ?_)
  obtain ⟨gP, hP, fP⟩ := c2
  rcases gP with ⟨j2, gP⟩ | ⟨j2, gP⟩
  ·
    rw [j2]
    obtain ⟨j, hj, rfl⟩ : ∃ j, j < pN S ∧ p = nI j := i_nIof gP.1 gP.2
    refine Wp_if_eq d_M_pays_5 (fun q => absurd q (by decide)) (fun _ => ?_)
    refine Wp_iload_n d_M_pays_8 rfl ?_
    refine Wp_ivs_b (As := [vi a]) d_M_pays_9 ln_M_151 mk_M_isTwo rfl rfl rfl (by omega) (t_M_isTwo E (d - 1) (by omega) w2 a) (fun g9 => ?_) (fun g9 => ?_)
    ·
      refine Wp_if_eq d_M_pays_12 (fun q => absurd q (by decide)) (fun _ => ?_)
      refine Wp_aload_n d_M_pays_15 rfl ?_
      refine Wp_iload_n d_M_pays_16 rfl ?_
      refine Wp_iload_n d_M_pays_17 rfl ?_
      refine Wp_ivv_l (o := 33) (As := [vi (nI j), vi a]) d_M_pays_18 ln_M_233 mk_M_paysOf rfl rfl rfl rfl rfl (by omega) (t_M_paysOf E (d - 1) (by omega) w2 S hP hV j (by omega) a) (fun r18 w18 c18 => ?_)
      obtain ⟨rW, fW⟩ := c18
      rw [rW]
      refine Wp_goto d_M_pays_21 ?_
      refine Wp_retl d_M_pays_29 rfl ?_
      exact ⟨by unfold rPays; rw [if_pos ⟨gP, g9⟩, cl (by omega)], MP_s hP fW, fr_tr (frF_m fP) (fr_sub fW (by decide))⟩
    ·
      refine Wp_if_eq d_M_pays_12 (fun _ => ?_) (fun q => absurd (by decide) q)
      refine Wp_bipush (x := (-2)) d_M_pays_24 (by decide) ?_
      refine Wp_ivs_dl (As := [vi (-2)]) d_M_pays_26 ln_M_225 mk_M_no rfl rfl rfl (by omega) (t_M_noL E (d - 1) w2 (-2) (-9223372036854775806) (by decide)) ?_
      refine Wp_retl d_M_pays_29 rfl ?_
      exact ⟨by unfold rPays; rw [if_neg (by first | exact fun q => gP q.1 | exact fun q => g9 q.2)], hP, frF_m fP⟩
  ·
    rw [j2]
    refine Wp_if_eq d_M_pays_5 (fun _ => ?_) (fun q => absurd (by decide) q)
    refine Wp_bipush (x := (-2)) d_M_pays_24 (by decide) ?_
    refine Wp_ivs_dl (As := [vi (-2)]) d_M_pays_26 ln_M_225 mk_M_no rfl rfl rfl (by omega) (t_M_noL E (d - 1) w2 (-2) (-9223372036854775806) (by decide)) ?_
    refine Wp_retl d_M_pays_29 rfl ?_
    exact ⟨by unfold rPays; rw [if_neg (by first | exact fun q => gP q.1 | exact fun q => g9 q.2)], hP, frF_m fP⟩
def LsOk (w S : mw) (n : Nat) : Prop := ∀ x, x < n → w 53 x = dayR S x 0
set_option maxRecDepth 100000 in
set_option maxHeartbeats 4000000 in
theorem l_M_fl (E : mE) (d : Nat) (hd : 4 ≤ d) (S w0 : mw) (hV : VM S) : ∀ (k s : Nat) (g : Bool) (w : mw), s + k = 2 ^ pN S → MB w S → fr (53 :: sRows) w0 w → LsOk w S s → (g = true ↔ ∀ x, x < s → Fe S x) → Wp E d m_M_findLeasts 8 [lr 33, li (bi g), li (nI s)] [] w (mPi (fun r w1 => ((r = 1 ∧ Fe S (wh S)) ∨ (r = 0 ∧ ¬ Fe S (wh S))) ∧ MB w1 S ∧ fr (53 :: sRows) w0 w1 ∧ LsOk w1 S (2 ^ pN S))) := by
  intro k
  have hp10 := (pN_ok S).1
  have hlt := two10 hp10
  have hwl := wh_lt S
  have hwe := wh_1 S
  induction k with
  | zero =>
    intro s g w hk hB hf hL hg
    have hin : s = 2 ^ pN S := by omega
    subst hin
    have hg2 : g = true ↔ Fe S (wh S) := hg.trans ⟨fun h => h _ hwl, fun h x hx => Fe_all hV h hx⟩
    cases g
    · show Wp E d m_M_findLeasts 8 [lr 33, li 0, li (nI (2 ^ pN S))] [] w _
      refine Wp_iload_n d_M_findLeasts_8 rfl ?_
      refine Wp_aload_n d_M_findLeasts_9 rfl ?_
      refine Wp_ivv_d (o := 33) (As := []) d_M_findLeasts_10 ln_M_184 mk_M_whole rfl rfl rfl rfl rfl (by omega) (t_M_whole E (d - 1) (by omega) w S hB.1 hV) ?_
      refine Wp_icmp_gt d_M_findLeasts_13 (fun h13 => ?_) (fun q => absurd (n_nlt q (by omega) (by omega)) (by omega))
      refine Wp_iload_n d_M_findLeasts_54 rfl ?_
      refine Wp_reti (ty := .boolean) d_M_findLeasts_55 rfl rfl ?_
      exact ⟨Or.inr ⟨rfl, fun q => absurd (hg2.mpr q) (by decide)⟩, hB, hf, hL⟩
    · show Wp E d m_M_findLeasts 8 [lr 33, li 1, li (nI (2 ^ pN S))] [] w _
      refine Wp_iload_n d_M_findLeasts_8 rfl ?_
      refine Wp_aload_n d_M_findLeasts_9 rfl ?_
      refine Wp_ivv_d (o := 33) (As := []) d_M_findLeasts_10 ln_M_184 mk_M_whole rfl rfl rfl rfl rfl (by omega) (t_M_whole E (d - 1) (by omega) w S hB.1 hV) ?_
      refine Wp_icmp_gt d_M_findLeasts_13 (fun h13 => ?_) (fun q => absurd (n_nlt q (by omega) (by omega)) (by omega))
      refine Wp_iload_n d_M_findLeasts_54 rfl ?_
      refine Wp_reti (ty := .boolean) d_M_findLeasts_55 rfl rfl ?_
      exact ⟨Or.inl ⟨rfl, hg2.mp rfl⟩, hB, hf, hL⟩
  | succ k ih =>
    intro s g w hk hB hf hL hg
    cases g
    · show Wp E d m_M_findLeasts 8 [lr 33, li 0, li (nI s)] [] w _
      refine Wp_iload_n d_M_findLeasts_8 rfl ?_
      refine Wp_aload_n d_M_findLeasts_9 rfl ?_
      refine Wp_ivv_d (o := 33) (As := []) d_M_findLeasts_10 ln_M_184 mk_M_whole rfl rfl rfl rfl rfl (by omega) (t_M_whole E (d - 1) (by omega) w S hB.1 hV) ?_
      refine Wp_icmp_gt d_M_findLeasts_13 (fun q => absurd (n_lt q (by omega) (by omega)) (by omega)) (fun h13 => ?_)
      refine Wp_aload_n d_M_findLeasts_16 rfl ?_
      refine Wp_getr d_M_findLeasts_17 fd_M_68 rfl rfl rfl ?_
      refine Wp_iload_n d_M_findLeasts_20 rfl ?_
      refine Wp_aload_n d_M_findLeasts_21 rfl ?_
      refine Wp_iload_n d_M_findLeasts_22 rfl ?_
      refine Wp_iconst (x := 0) d_M_findLeasts_23 (by decide) ?_
      refine Wp_ivv_i (o := 33) (As := [vi (nI s), vi 0]) d_M_findLeasts_24 ln_M_204 mk_M_dayOf rfl rfl rfl rfl rfl (by omega) (t_M_dayOf E (d - 1) (by omega) w S hB hV s (by omega) 0) (fun r24 w24 c24 => ?_)
      obtain ⟨rD, fD⟩ := c24
      rw [rD]
      refine Wp_iastN (j := s) d_M_findLeasts_27 rfl rfl rfl rfl (by omega) ?_
      refine Wp_iload_n d_M_findLeasts_28 rfl ?_
      refine Wp_if_eq d_M_findLeasts_29 (fun _ => ?_) (fun q => absurd (by decide) q)
      refine Wp_iconst (x := 0) d_M_findLeasts_46 (by decide) ?_
      refine Wp_istore_n (ls2 := [lr 33, li 0, li (nI s)]) d_M_findLeasts_47 rfl rfl rfl ?_
      refine Wp_iinc (z := nI (s + 1)) (ls2 := [lr 33, li 0, li (nI (s + 1))]) d_M_findLeasts_48 rfl (nI_add s 1) rfl rfl rfl ?_
      refine Wp_goto d_M_findLeasts_51 ?_
      have f3 : fr (53 :: sRows) w0 (mU w24 53 s (dayR S s 0)) := fr_tr hf (fr_U2 (fr_sub fD (by decide)) (by decide))
      have b3 : MB (mU w24 53 s (dayR S s 0)) S := MB_fr hB (L := 53 :: [49, 50, 51, 52]) (fr_U2 (fr_sub fD (by decide)) (by decide)) (by decide)
      have l3 : LsOk (mU w24 53 s (dayR S s 0)) S (s + 1) := by
        intro x hx
        by_cases hxs : x = s
        · subst hxs; exact mU_at
        · rw [mU_at_ne hxs, fD 53 (by decide)]; exact hL x (by omega)
      refine ih (s + 1) false _ (by omega) b3 f3 l3 ?_
      refine ⟨fun q => absurd q (by decide), fun q => absurd (hg.mpr (fun x hx => q x (by omega))) (by decide)⟩
    · show Wp E d m_M_findLeasts 8 [lr 33, li 1, li (nI s)] [] w _
      refine Wp_iload_n d_M_findLeasts_8 rfl ?_
      refine Wp_aload_n d_M_findLeasts_9 rfl ?_
      refine Wp_ivv_d (o := 33) (As := []) d_M_findLeasts_10 ln_M_184 mk_M_whole rfl rfl rfl rfl rfl (by omega) (t_M_whole E (d - 1) (by omega) w S hB.1 hV) ?_
      refine Wp_icmp_gt d_M_findLeasts_13 (fun q => absurd (n_lt q (by omega) (by omega)) (by omega)) (fun h13 => ?_)
      refine Wp_aload_n d_M_findLeasts_16 rfl ?_
      refine Wp_getr d_M_findLeasts_17 fd_M_68 rfl rfl rfl ?_
      refine Wp_iload_n d_M_findLeasts_20 rfl ?_
      refine Wp_aload_n d_M_findLeasts_21 rfl ?_
      refine Wp_iload_n d_M_findLeasts_22 rfl ?_
      refine Wp_iconst (x := 0) d_M_findLeasts_23 (by decide) ?_
      refine Wp_ivv_i (o := 33) (As := [vi (nI s), vi 0]) d_M_findLeasts_24 ln_M_204 mk_M_dayOf rfl rfl rfl rfl rfl (by omega) (t_M_dayOf E (d - 1) (by omega) w S hB hV s (by omega) 0) (fun r24 w24 c24 => ?_)
      obtain ⟨rD, fD⟩ := c24
      rw [rD]
      refine Wp_iastN (j := s) d_M_findLeasts_27 rfl rfl rfl rfl (by omega) ?_
      refine Wp_iload_n d_M_findLeasts_28 rfl ?_
      refine Wp_if_eq d_M_findLeasts_29 (fun q => absurd q (by decide)) (fun _ => ?_)
      refine Wp_aload_n d_M_findLeasts_32 rfl ?_
      refine Wp_getr d_M_findLeasts_33 fd_M_68 rfl rfl rfl ?_
      refine Wp_iload_n d_M_findLeasts_36 rfl ?_
      refine Wp_ialdN (j := s) d_M_findLeasts_37 rfl rfl rfl rfl (by omega) ?_
      refine Wp_eqi (x2 := dayR S s 0) (by simp [mU, mUr, upd]) ?_
      refine Wp_iconst (x := (-1)) d_M_findLeasts_38 (by decide) ?_
      refine Wp_icmp_eq d_M_findLeasts_39 (fun h39 => ?_) (fun h39 => ?_)
      ·
        refine Wp_iconst (x := 0) d_M_findLeasts_46 (by decide) ?_
        refine Wp_istore_n (ls2 := [lr 33, li 0, li (nI s)]) d_M_findLeasts_47 rfl rfl rfl ?_
        refine Wp_iinc (z := nI (s + 1)) (ls2 := [lr 33, li 0, li (nI (s + 1))]) d_M_findLeasts_48 rfl (nI_add s 1) rfl rfl rfl ?_
        refine Wp_goto d_M_findLeasts_51 ?_
        have f3 : fr (53 :: sRows) w0 (mU w24 53 s (dayR S s 0)) := fr_tr hf (fr_U2 (fr_sub fD (by decide)) (by decide))
        have b3 : MB (mU w24 53 s (dayR S s 0)) S := MB_fr hB (L := 53 :: [49, 50, 51, 52]) (fr_U2 (fr_sub fD (by decide)) (by decide)) (by decide)
        have l3 : LsOk (mU w24 53 s (dayR S s 0)) S (s + 1) := by
          intro x hx
          by_cases hxs : x = s
          · subst hxs; exact mU_at
          · rw [mU_at_ne hxs, fD 53 (by decide)]; exact hL x (by omega)
        refine ih (s + 1) false _ (by omega) b3 f3 l3 ?_
        refine ⟨fun q => absurd q (by decide), fun q => absurd (q s (by omega)) ?_⟩
        exact (dayR_0 hV (by omega)).mp h39
      ·
        have g39 : (dayR S s 0).toInt ≠ -1 := i_ne h39
        refine Wp_iconst (x := 1) d_M_findLeasts_42 (by decide) ?_
        refine Wp_goto d_M_findLeasts_43 ?_
        refine Wp_istore_n (ls2 := [lr 33, li 1, li (nI s)]) d_M_findLeasts_47 rfl rfl rfl ?_
        refine Wp_iinc (z := nI (s + 1)) (ls2 := [lr 33, li 1, li (nI (s + 1))]) d_M_findLeasts_48 rfl (nI_add s 1) rfl rfl rfl ?_
        refine Wp_goto d_M_findLeasts_51 ?_
        have f3 : fr (53 :: sRows) w0 (mU w24 53 s (dayR S s 0)) := fr_tr hf (fr_U2 (fr_sub fD (by decide)) (by decide))
        have b3 : MB (mU w24 53 s (dayR S s 0)) S := MB_fr hB (L := 53 :: [49, 50, 51, 52]) (fr_U2 (fr_sub fD (by decide)) (by decide)) (by decide)
        have l3 : LsOk (mU w24 53 s (dayR S s 0)) S (s + 1) := by
          intro x hx
          by_cases hxs : x = s
          · subst hxs; exact mU_at
          · rw [mU_at_ne hxs, fD 53 (by decide)]; exact hL x (by omega)
        refine ih (s + 1) true _ (by omega) b3 f3 l3 ?_
        refine ⟨fun _ x hx => ?_, fun _ => rfl⟩
        by_cases hxs : x = s
        · subst hxs; apply Classical.byContradiction; intro q; exact h39 ((dayR_0 hV (by omega)).mpr q)
        · exact (hg.mp rfl) x (by omega)
set_option maxRecDepth 100000 in
set_option maxHeartbeats 4000000 in
theorem t_M_findLeasts (E : mE) (d : Nat) (hd : 4 ≤ d) (w : mw) (S : mw) (hM : MP w S) (hV : VM S) : Ti E d m_M_findLeasts [vr 33] w (fun r w1 => ((r = 1 ∧ Fe S (wh S)) ∨ (r = 0 ∧ ¬ Fe S (wh S))) ∧ MB w1 S ∧ fr (53 :: sRows) w w1 ∧ LsOk w1 S (2 ^ pN S)) := by
  refine ⟨Nat.le_of_ble_eq_true rfl, ?_⟩
  show Wp E d m_M_findLeasts 0 [lr 33, lo, lo] [] w _
  have hp10 := (pN_ok S).1
  have hlt := two10 hp10
  have hwl := wh_lt S
  have hwe := wh_1 S
  refine Wp_aload_n d_M_findLeasts_0 rfl ?_
  refine Wp_ivv_v (o := 33) (As := []) d_M_findLeasts_1 ln_M_201 mk_M_findBoats rfl rfl rfl rfl rfl (by omega) (t_M_findBoats E (d - 1) (by omega) w S hM hV) (fun w1 c1 => ?_)
  obtain ⟨hB, fB⟩ := c1
  refine Wp_iconst (x := 1) d_M_findLeasts_4 (by decide) ?_
  refine Wp_istore_n (ls2 := [lr 33, li 1, lo]) d_M_findLeasts_5 rfl rfl rfl ?_
  refine Wp_iconst (x := 0) d_M_findLeasts_6 (by decide) ?_
  refine Wp_istore_n (ls2 := [lr 33, li 1, li 0]) d_M_findLeasts_7 rfl rfl rfl ?_
  exact l_M_fl E d (by omega) S w hV (2 ^ pN S) 0 true w1 (by omega) hB (fr_sub fB (by decide)) (fun x h => absurd h (Nat.not_lt_zero _)) ⟨fun _ x h => absurd h (Nat.not_lt_zero _), fun _ => rfl⟩
