set_option maxRecDepth 100000 in
set_option maxHeartbeats 4000000 in
theorem l_F_lt (E : mE) (d : Nat) (hd : 1 ≤ d) (w : mw) (x : Int64) (b : Nat) (c : Int32) (Q : Option mv → mw → Prop) : ∀ (j m n t : Nat) (u10 u11 : Option mv), n ≤ m → m * n < 2 ^ j → t + j < 99 → m < 9223372036854775808 → (∀ (t : Int32) (u10 u11 : Option mv), Wp E d m_F_lowestTerms 47 [ll x, lo, ll (lN b), lo, li c, ll (lN (Nat.gcd m n)), lo, ll (lN 0), lo, li t, u10, u11] [] w Q) → Wp E d m_F_lowestTerms 12 [ll x, lo, ll (lN b), lo, li c, ll (lN m), lo, ll (lN n), lo, li (nI t), u10, u11] [] w Q := by
  intro j
  induction j with
  | zero =>
    intro m n t u10 u11 hnm hj ht hm hQ
    have h0 : n = 0 := by
      apply Classical.byContradiction
      intro q
      have : 1 * 1 ≤ m * n := Nat.mul_le_mul (by omega) (by omega)
      have e : 2 ^ 0 = 1 := rfl
      omega
    subst h0
    refine Wp_iload d_F_lowestTerms_12 rfl ?_
    refine Wp_bipush (x := 100) d_F_lowestTerms_14 (by decide) ?_
    refine Wp_icmp_ge d_F_lowestTerms_16 (fun q => absurd (n_le (a := 100) q (by omega) (by omega)) (by omega)) (fun h16 => ?_)
    refine Wp_lload d_F_lowestTerms_19 rfl ?_
    refine Wp_lconst (x := 0) d_F_lowestTerms_21 (by decide) ?_
    refine Wp_lcmp d_F_lowestTerms_22 ?_
    refine Wp_if_eq d_F_lowestTerms_23 (fun h23 => ?_) (fun q => absurd (show lg_cmp (lN 0) 0 = 0 from by decide) q)
    have h9 := hQ (nI t) u10 u11
    rw [Nat.gcd_zero_right] at h9
    exact h9
  | succ j ih =>
    intro m n t u10 u11 hnm hj ht hm hQ
    by_cases h0 : n = 0
    · subst h0
      refine Wp_iload d_F_lowestTerms_12 rfl ?_
      refine Wp_bipush (x := 100) d_F_lowestTerms_14 (by decide) ?_
      refine Wp_icmp_ge d_F_lowestTerms_16 (fun q => absurd (n_le (a := 100) q (by omega) (by omega)) (by omega)) (fun h16 => ?_)
      refine Wp_lload d_F_lowestTerms_19 rfl ?_
      refine Wp_lconst (x := 0) d_F_lowestTerms_21 (by decide) ?_
      refine Wp_lcmp d_F_lowestTerms_22 ?_
      refine Wp_if_eq d_F_lowestTerms_23 (fun h23 => ?_) (fun q => absurd (show lg_cmp (lN 0) 0 = 0 from by decide) q)
      have h9 := hQ (nI t) u10 u11
      rw [Nat.gcd_zero_right] at h9
      exact h9
    · have hl : m % n < n := Nat.mod_lt _ (by omega)
      have hg : Nat.gcd m n = Nat.gcd n (m % n) := by rw [Nat.gcd_comm m n, Nat.gcd_rec n m, Nat.gcd_comm]
      refine Wp_iload d_F_lowestTerms_12 rfl ?_
      refine Wp_bipush (x := 100) d_F_lowestTerms_14 (by decide) ?_
      refine Wp_icmp_ge d_F_lowestTerms_16 (fun q => absurd (n_le (a := 100) q (by omega) (by omega)) (by omega)) (fun h16 => ?_)
      refine Wp_lload d_F_lowestTerms_19 rfl ?_
      refine Wp_lconst (x := 0) d_F_lowestTerms_21 (by decide) ?_
      refine Wp_lcmp d_F_lowestTerms_22 ?_
      refine Wp_if_eq d_F_lowestTerms_23 (fun q => (h0 (by have := congrArg Int64.toInt (l_cmp_eq q); rw [pk_lT (by omega)] at this; have e : Int64.toInt 0 = 0 := rfl; omega)).elim) (fun h23 => ?_)
      refine Wp_lload d_F_lowestTerms_26 rfl ?_
      refine Wp_lload d_F_lowestTerms_28 rfl ?_
      refine Wp_lrem d_F_lowestTerms_30 (fun q => h0 (by have := congrArg Int64.toInt q; rw [pk_lT (by omega)] at this; have e : Int64.toInt 0 = 0 := rfl; omega)) ?_
      refine Wp_eql (x2 := lN (m % n)) (pk_lRem (by omega) (by omega) (by omega)) ?_
      refine Wp_lstore (ls2 := [ll x, lo, ll (lN b), lo, li c, ll (lN m), lo, ll (lN n), lo, li (nI t), ll (lN (m % n)), lo]) d_F_lowestTerms_31 rfl rfl rfl ?_
      refine Wp_lload d_F_lowestTerms_33 rfl ?_
      refine Wp_lstore (ls2 := [ll x, lo, ll (lN b), lo, li c, ll (lN n), lo, ll (lN n), lo, li (nI t), ll (lN (m % n)), lo]) d_F_lowestTerms_35 rfl rfl rfl ?_
      refine Wp_lload d_F_lowestTerms_37 rfl ?_
      refine Wp_lstore (ls2 := [ll x, lo, ll (lN b), lo, li c, ll (lN n), lo, ll (lN (m % n)), lo, li (nI t), ll (lN (m % n)), lo]) d_F_lowestTerms_39 rfl rfl rfl ?_
      refine Wp_iinc (z := nI (t + 1)) (ls2 := [ll x, lo, ll (lN b), lo, li c, ll (lN n), lo, ll (lN (m % n)), lo, li (nI (t + 1)), ll (lN (m % n)), lo]) d_F_lowestTerms_41 rfl (nI_add t 1) rfl rfl rfl ?_
      refine Wp_goto d_F_lowestTerms_44 ?_
      exact ih n (m % n) (t + 1) _ _ (by omega) (half (by omega) hnm hj) (by omega) (by omega) (fun t u10 u11 => by rw [← hg]; exact hQ t u10 u11)
set_option maxRecDepth 100000 in
set_option maxHeartbeats 4000000 in
theorem l_F_lt2 (E : mE) (d : Nat) (hd : 1 ≤ d) (w : mw) (x : Int64) (b : Nat) (c : Int32) (hx1 : -4611686018427387904 ≤ x.toInt) (hx2 : x.toInt ≤ 4611686018427387904) (hb0 : 0 < b) (hb : b < 1024) (u10 u11 : Option mv) (Q : Option mv → mw → Prop) (hQ : ∀ (t : Int32) (u10 u11 : Option mv), Wp E d m_F_lowestTerms 47 [ll x, lo, ll (lN b), lo, li c, ll (lN (Nat.gcd x.toInt.natAbs b)), lo, ll (lN 0), lo, li t, u10, u11] [] w Q) : Wp E d m_F_lowestTerms 12 [ll x, lo, ll (lN b), lo, li c, ll (lN x.toInt.natAbs), lo, ll (lN b), lo, li 0, u10, u11] [] w Q := by
  have hm : x.toInt.natAbs ≤ 4611686018427387904 := by omega
  generalize x.toInt.natAbs = m at *
  have hbb : m * b < 2 ^ 72 := by
    have h1 : m * b ≤ 4611686018427387904 * 1023 := Nat.mul_le_mul hm (by omega)
    have h2 : (2 : Nat) ^ 72 = 4722366482869645213696 := rfl
    omega
  by_cases hbm : b ≤ m
  · exact l_F_lt E d (by omega) w x b c Q 72 m b 0 u10 u11 hbm hbb (by omega) (by omega) hQ
  · have h0 : ¬ b = 0 := by omega
    have hg : Nat.gcd m b = Nat.gcd b (m % b) := by rw [Nat.gcd_comm m b, Nat.gcd_rec b m, Nat.gcd_comm]
    have hmb : m % b = m := Nat.mod_eq_of_lt (by omega)
    refine Wp_iload d_F_lowestTerms_12 rfl ?_
    refine Wp_bipush (x := 100) d_F_lowestTerms_14 (by decide) ?_
    refine Wp_icmp_ge d_F_lowestTerms_16 (fun q => absurd q (by decide)) (fun _ => ?_)
    refine Wp_lload d_F_lowestTerms_19 rfl ?_
    refine Wp_lconst (x := 0) d_F_lowestTerms_21 (by decide) ?_
    refine Wp_lcmp d_F_lowestTerms_22 ?_
    refine Wp_if_eq d_F_lowestTerms_23 (fun q => (h0 (by have := congrArg Int64.toInt (l_cmp_eq q); rw [pk_lT (by omega)] at this; have e : Int64.toInt 0 = 0 := rfl; omega)).elim) (fun h23 => ?_)
    refine Wp_lload d_F_lowestTerms_26 rfl ?_
    refine Wp_lload d_F_lowestTerms_28 rfl ?_
    refine Wp_lrem d_F_lowestTerms_30 (fun q => h0 (by have := congrArg Int64.toInt q; rw [pk_lT (by omega)] at this; have e : Int64.toInt 0 = 0 := rfl; omega)) ?_
    refine Wp_eql (x2 := lN (m % b)) (pk_lRem (by omega) (by omega) (by omega)) ?_
    refine Wp_lstore (ls2 := [ll x, lo, ll (lN b), lo, li c, ll (lN m), lo, ll (lN b), lo, li 0, ll (lN (m % b)), lo]) d_F_lowestTerms_31 rfl rfl rfl ?_
    refine Wp_lload d_F_lowestTerms_33 rfl ?_
    refine Wp_lstore (ls2 := [ll x, lo, ll (lN b), lo, li c, ll (lN b), lo, ll (lN b), lo, li 0, ll (lN (m % b)), lo]) d_F_lowestTerms_35 rfl rfl rfl ?_
    refine Wp_lload d_F_lowestTerms_37 rfl ?_
    refine Wp_lstore (ls2 := [ll x, lo, ll (lN b), lo, li c, ll (lN b), lo, ll (lN (m % b)), lo, li 0, ll (lN (m % b)), lo]) d_F_lowestTerms_39 rfl rfl rfl ?_
    refine Wp_iinc (z := 1) (ls2 := [ll x, lo, ll (lN b), lo, li c, ll (lN b), lo, ll (lN (m % b)), lo, li 1, ll (lN (m % b)), lo]) d_F_lowestTerms_41 rfl (by decide) rfl rfl rfl ?_
    refine Wp_goto d_F_lowestTerms_44 ?_
    exact l_F_lt E d (by omega) w x b c Q 72 b (m % b) 1 _ _ (by rw [hmb]; omega) (by rw [hmb, Nat.mul_comm]; exact hbb) (by omega) (by omega) (fun t u10 u11 => by rw [← hg]; exact hQ t u10 u11)
set_option maxRecDepth 100000 in
set_option maxHeartbeats 4000000 in
theorem t_F_lowestTerms (E : mE) (d : Nat) (hd : 1 ≤ d) (w : mw) (x : Int64) (b : Nat) (c : Int32) (hx1 : -4611686018427387904 ≤ x.toInt) (hx2 : x.toInt ≤ 4611686018427387904) (hb0 : 0 < b) (hb : b < 1024) : Tdl E d m_F_lowestTerms [vl x, vl (lN b), vi c] w (partR x b c) w := by
  refine ⟨Nat.le_of_ble_eq_true rfl, ?_⟩
  show Wp E d m_F_lowestTerms 0 [ll x, lo, ll (lN b), lo, li c, lo, lo, lo, lo, lo, lo, lo] [] w _
  refine Wp_lload_n d_F_lowestTerms_0 rfl ?_
  refine Wp_absl d_F_lowestTerms_1 ln_F_347 rfl (by omega) ?_
  refine Wp_lstore (ls2 := [ll x, lo, ll (lN b), lo, li c, ll (if 0 < x then x else -x), lo, lo, lo, lo, lo, lo]) d_F_lowestTerms_4 rfl rfl rfl ?_
  refine Wp_lload_n d_F_lowestTerms_6 rfl ?_
  refine Wp_lstore (ls2 := [ll x, lo, ll (lN b), lo, li c, ll (if 0 < x then x else -x), lo, ll (lN b), lo, lo, lo, lo]) d_F_lowestTerms_7 rfl rfl rfl ?_
  refine Wp_iconst (x := 0) d_F_lowestTerms_9 (by decide) ?_
  refine Wp_istore (ls2 := [ll x, lo, ll (lN b), lo, li c, ll (if 0 < x then x else -x), lo, ll (lN b), lo, li 0, lo, lo]) d_F_lowestTerms_10 rfl rfl rfl ?_
  have hgl := Nat.gcd_le_right (m := x.toInt.natAbs) (n := b) hb0
  have hg0 : ¬ Nat.gcd x.toInt.natAbs b = 0 := fun q => by have := Nat.eq_zero_of_gcd_eq_zero_right q; omega
  rw [absN hx1]
  refine l_F_lt2 E d (by omega) w x b c hx1 hx2 hb0 hb _ _ _ (fun t u10 u11 => ?_)
  refine Wp_lload d_F_lowestTerms_47 rfl ?_
  refine Wp_lconst (x := 0) d_F_lowestTerms_49 (by decide) ?_
  refine Wp_lcmp d_F_lowestTerms_50 ?_
  refine Wp_if_ne d_F_lowestTerms_51 (fun h51 => ?_) (fun q => (hg0 (by have := congrArg Int64.toInt (l_cmp_eq q); rw [pk_lT (by omega)] at this; have e : Int64.toInt 0 = 0 := rfl; omega)).elim)
  refine Wp_iload d_F_lowestTerms_56 rfl ?_
  refine Wp_if_ne d_F_lowestTerms_58 (fun h58 => ?_) (fun h58 => ?_)
  ·
    have g58 : c.toInt ≠ 0 := i_ne h58
    refine Wp_lload_n d_F_lowestTerms_65 rfl ?_
    refine Wp_lload d_F_lowestTerms_66 rfl ?_
    refine Wp_ldiv d_F_lowestTerms_68 (fun q => hg0 (by have := congrArg Int64.toInt q; rw [pk_lT (by omega)] at this; have e : Int64.toInt 0 = 0 := rfl; omega)) ?_
    refine Wp_retl d_F_lowestTerms_69 rfl ?_
    refine ⟨?_, rfl⟩
    unfold partR; rw [if_neg h58]
  ·
    refine Wp_lload_n d_F_lowestTerms_61 rfl ?_
    refine Wp_goto d_F_lowestTerms_62 ?_
    refine Wp_lload d_F_lowestTerms_66 rfl ?_
    refine Wp_ldiv d_F_lowestTerms_68 (fun q => hg0 (by have := congrArg Int64.toInt q; rw [pk_lT (by omega)] at this; have e : Int64.toInt 0 = 0 := rfl; omega)) ?_
    refine Wp_retl d_F_lowestTerms_69 rfl ?_
    refine ⟨?_, rfl⟩
    unfold partR; rw [if_pos h58]
set_option maxRecDepth 100000 in
set_option maxHeartbeats 4000000 in
theorem t_F_longRefusal (E : mE) (d : Nat) (hd : 0 ≤ d) (w : mw) (x : Int32) (r : Int64) (h : -9223372036854775808 - x.toInt64 = r) : Tdl E d m_F_longRefusal [vi x] w r w := by
  refine ⟨Nat.le_of_ble_eq_true rfl, ?_⟩
  show Wp E d m_F_longRefusal 0 [li x] [] w _
  refine Wp_ldc2 (x := (-9223372036854775808)) d_F_longRefusal_0 kl_F_339 ?_
  refine Wp_iload_n d_F_longRefusal_3 rfl ?_
  refine Wp_i2l d_F_longRefusal_4 ?_
  refine Wp_lsub d_F_longRefusal_5 ?_
  refine Wp_retl d_F_longRefusal_6 rfl ?_
  exact ⟨h, rfl⟩
set_option maxRecDepth 100000 in
set_option maxHeartbeats 4000000 in
theorem t_F_pays (E : mE) (d : Nat) (hd : 5 ≤ d) (w : mw) (S : mw) (hC : CC w S) (hV : VM S) (p a : Int32) : Tl E d m_F_pays [vr 0, vi p, vi a] w (fun r w1 => r = rPays S p a ∧ CC w1 S ∧ fr cRows w w1) := by
  refine ⟨Nat.le_of_ble_eq_true rfl, ?_⟩
  show Wp E d m_F_pays 0 [lr 0, li p, li a, lo] [] w _
  have hP := CC_PR hC
  have hp10 := (pN_ok S).1
  have h1024 := two10 hp10
  have hwl := wh_lt S
  have hwe := wh_1 S
  refine Wp_aload_n d_F_pays_0 rfl ?_
  refine Wp_getr d_F_pays_1 fd_F_10 rfl rfl rfl ?_
  refine Wp_iload_n d_F_pays_4 rfl ?_
  refine Wp_ivv_b (o := 1) (As := [vi p]) d_F_pays_5 ln_F_82 mk_P_isThere rfl rfl rfl rfl rfl (by omega) (t_P_isThere E (d - 1) (by omega) w (pN S) hP.2.1.1 (pN_ok S).1 p) (fun g5 => ?_) (fun g5 => ?_)
  ·
    have gp := g5
    obtain ⟨j, hj, rfl⟩ : ∃ j, j < pN S ∧ p = nI j := i_nIof g5.1 g5.2
    have hp10 := (pN_ok S).1
    have tJ := ti (show j < 2147483648 by omega)
    refine Wp_if_eq d_F_pays_8 (fun q => absurd q (by decide)) (fun _ => ?_)
    refine Wp_iload_n d_F_pays_11 rfl ?_
    refine Wp_iconst (x := 0) d_F_pays_12 (by decide) ?_
    refine Wp_iconst (x := 1) d_F_pays_13 (by decide) ?_
    refine Wp_ivs_b (As := [vi a, vi 0, vi 1]) d_F_pays_14 ln_F_59 mk_F_isWithin rfl rfl rfl (by omega) (t_F_isWithin E (d - 1) (by omega) w a 0 1) (fun g14 => ?_) (fun g14 => ?_)
    ·
      have k14 : 0 ≤ a.toInt ∧ a.toInt ≤ 1 := g14
      refine Wp_if_ne d_F_pays_17 (fun _ => ?_) (fun q => absurd q (by decide))
      refine Wp_aload_n d_F_pays_26 rfl ?_
      refine Wp_getr d_F_pays_27 fd_F_28 rfl rfl rfl ?_
      refine Wp_ivv_v (o := 12) (As := []) d_F_pays_30 ln_F_162 mk_D_bringUpToDate rfl rfl rfl rfl rfl (by omega) (t_D_bringUpToDate E (d - 1) (by omega) w S hC hV) (fun w30 c30 => ?_)
      obtain ⟨hC2, z2, fB⟩ := c30
      have hP2 := CC_PR hC2
      have h15 := FT_15 hC2 z2
      have h16 := FT_16 hC2 z2
      have fBc : fr cRows w w30 := fr_sub fB (by decide)
      refine Wp_aload_n d_F_pays_33 rfl ?_
      refine Wp_getr d_F_pays_34 fd_F_28 rfl rfl rfl ?_
      refine Wp_iconst (x := 1) d_F_pays_37 (by decide) ?_
      refine Wp_iload_n d_F_pays_38 rfl ?_
      refine Wp_ishl d_F_pays_39 ?_
      refine Wp_eqi (x2 := nI (2 ^ j)) (sh1 (by omega)) ?_
      refine Wp_ivv_d (o := 12) (As := [vi (nI (2 ^ j))]) d_F_pays_40 ln_F_174 mk_D_boatWith rfl rfl rfl rfl rfl (by omega) (t_D_boatWith E (d - 1) (by omega) w30 S hP2 hV j hj (fun x hx _ => h15 x hx)) ?_
      refine Wp_istore_n (ls2 := [lr 0, li (nI j), li a, li (withR S j)]) d_F_pays_43 rfl rfl rfl ?_
      refine Wp_iload_n d_F_pays_44 rfl ?_
      refine Wp_iconst (x := (-1)) d_F_pays_45 (by decide) ?_
      refine Wp_icmp_ne d_F_pays_46 (fun h46 => ?_) (fun h46 => ?_)
      ·
        have g46 : bwR S j ≠ 0 := fun q => h46 ((withR_n (bwR_lt hV hj)).mpr q)
        have eW := withR_e g46
        rw [eW]
        have hk := bwR_ok hV hj g46
        have hcl := costS_le hV hk.2.1 hk.2.2.2.1
        have hpb := popc_le (bwR S j)
        have hblt := bwR_lt hV hj
        have hpp := popc_pos (bwR S j) (by omega) hk.2.2.2.1
        refine Wp_aload_n d_F_pays_55 rfl ?_
        refine Wp_getr d_F_pays_56 fd_F_28 rfl rfl rfl ?_
        refine Wp_iload_n d_F_pays_59 rfl ?_
        refine Wp_ivv_d (o := 12) (As := [vi (nI (bwR S j))]) d_F_pays_60 ln_F_156 mk_D_costOf rfl rfl rfl rfl rfl (by omega) (t_D_costOf E (d - 1) (by omega) w30 S hP2 hV (bwR S j) hk.2.1) ?_
        refine Wp_i2l d_F_pays_63 ?_
        refine Wp_eql (x2 := lN (costS S (bwR S j))) (nI_l (by omega)) ?_
        refine Wp_iload_n d_F_pays_64 rfl ?_
        refine Wp_ivs_d (As := [vi (nI (bwR S j))]) d_F_pays_65 ln_F_201 mk_J_bitCount rfl rfl rfl (by omega) (t_J_bitCount E (d - 1) (by omega) w30 (bwR S j) (by omega)) ?_
        refine Wp_i2l d_F_pays_68 ?_
        refine Wp_eql (x2 := lN (popc (bwR S j))) (nI_l (by omega)) ?_
        refine Wp_iload_n d_F_pays_69 rfl ?_
        refine Wp_ivs_dl (As := [vl (lN (costS S (bwR S j))), vl (lN (popc (bwR S j))), vi a]) d_F_pays_70 ln_F_206 mk_F_lowestTerms rfl rfl rfl (by omega) (t_F_lowestTerms E (d - 1) (by omega) w30 (lN (costS S (bwR S j))) (popc (bwR S j)) a (by rw [pk_lT (by omega)]; omega) (by rw [pk_lT (by omega)]; omega) (by omega) (by omega)) ?_
        refine Wp_retl d_F_pays_73 rfl ?_
        exact ⟨by unfold rPays; rw [if_pos ⟨gp, g14⟩, cl (by omega)]; unfold paysR; rw [if_neg g46], hC2, fBc⟩
      ·
        have g46 : bwR S j = 0 := (withR_n (bwR_lt hV hj)).mp h46
        refine Wp_bipush (x := (-3)) d_F_pays_49 (by decide) ?_
        refine Wp_ivs_dl (As := [vi (-3)]) d_F_pays_51 ln_F_197 mk_F_longRefusal rfl rfl rfl (by omega) (t_F_longRefusal E (d - 1) (by omega) w30 (-3) (-9223372036854775805) (by decide)) ?_
        refine Wp_retl d_F_pays_54 rfl ?_
        exact ⟨by unfold rPays; rw [if_pos ⟨gp, g14⟩, cl (by omega)]; unfold paysR; rw [if_pos g46], hC2, fBc⟩
    ·
      have k14 : ¬ (0 ≤ a.toInt ∧ a.toInt ≤ 1) := g14
      refine Wp_if_ne d_F_pays_17 (fun q => absurd q (by decide)) (fun _ => ?_)
      refine Wp_bipush (x := (-2)) d_F_pays_20 (by decide) ?_
      refine Wp_ivs_dl (As := [vi (-2)]) d_F_pays_22 ln_F_197 mk_F_longRefusal rfl rfl rfl (by omega) (t_F_longRefusal E (d - 1) (by omega) w (-2) (-9223372036854775806) (by decide)) ?_
      refine Wp_retl d_F_pays_25 rfl ?_
      exact ⟨by unfold rPays; rw [if_neg (by omega)], hC, fr_rf⟩
  ·
    refine Wp_if_eq d_F_pays_8 (fun _ => ?_) (fun q => absurd (by decide) q)
    refine Wp_bipush (x := (-2)) d_F_pays_20 (by decide) ?_
    refine Wp_ivs_dl (As := [vi (-2)]) d_F_pays_22 ln_F_197 mk_F_longRefusal rfl rfl rfl (by omega) (t_F_longRefusal E (d - 1) (by omega) w (-2) (-9223372036854775806) (by decide)) ?_
    refine Wp_retl d_F_pays_25 rfl ?_
    exact ⟨by unfold rPays; rw [if_neg (by omega)], hC, fr_rf⟩
set_option maxRecDepth 100000 in
set_option maxHeartbeats 4000000 in
theorem t_F_share (E : mE) (d : Nat) (hd : 5 ≤ d) (w : mw) (S : mw) (hC : CC w S) (hV : VM S) (p a : Int32) : Tl E d m_F_share [vr 0, vi p, vi a] w (fun r w1 => r = rShare S p a ∧ CC w1 S ∧ fr cRows w w1) := by
  refine ⟨Nat.le_of_ble_eq_true rfl, ?_⟩
  show Wp E d m_F_share 0 [lr 0, li p, li a] [] w _
  have hP := CC_PR hC
  have hp10 := (pN_ok S).1
  have h1024 := two10 hp10
  have hwl := wh_lt S
  have hwe := wh_1 S
  refine Wp_aload_n d_F_share_0 rfl ?_
  refine Wp_getr d_F_share_1 fd_F_10 rfl rfl rfl ?_
  refine Wp_iload_n d_F_share_4 rfl ?_
  refine Wp_ivv_b (o := 1) (As := [vi p]) d_F_share_5 ln_F_82 mk_P_isThere rfl rfl rfl rfl rfl (by omega) (t_P_isThere E (d - 1) (by omega) w (pN S) hP.2.1.1 (pN_ok S).1 p) (fun g5 => ?_) (fun g5 => ?_)
  ·
    have gp := g5
    obtain ⟨j, hj, rfl⟩ : ∃ j, j < pN S ∧ p = nI j := i_nIof g5.1 g5.2
    have hp10 := (pN_ok S).1
    have tJ := ti (show j < 2147483648 by omega)
    refine Wp_if_eq d_F_share_8 (fun q => absurd q (by decide)) (fun _ => ?_)
    refine Wp_iload_n d_F_share_11 rfl ?_
    refine Wp_iconst (x := 0) d_F_share_12 (by decide) ?_
    refine Wp_iconst (x := 1) d_F_share_13 (by decide) ?_
    refine Wp_ivs_b (As := [vi a, vi 0, vi 1]) d_F_share_14 ln_F_59 mk_F_isWithin rfl rfl rfl (by omega) (t_F_isWithin E (d - 1) (by omega) w a 0 1) (fun g14 => ?_) (fun g14 => ?_)
    ·
      have k14 : 0 ≤ a.toInt ∧ a.toInt ≤ 1 := g14
      refine Wp_if_ne d_F_share_17 (fun _ => ?_) (fun q => absurd q (by decide))
      refine Wp_aload_n d_F_share_26 rfl ?_
      refine Wp_getr d_F_share_27 fd_F_10 rfl rfl rfl ?_
      refine Wp_getf d_F_share_30 fd_F_177 rfl rfl rfl ?_
      refine Wp_eqi (x2 := nI (pN S)) hP.2.1.1 ?_
      refine Wp_bipush (x := 6) d_F_share_33 (by decide) ?_
      refine Wp_icmp_le d_F_share_35 (fun h35 => ?_) (fun h35 => ?_)
      ·
        have g35 : (pN S) ≤ 6 := n_le h35 (by omega) (by omega)
        refine Wp_aload_n d_F_share_44 rfl ?_
        refine Wp_getr d_F_share_45 fd_F_28 rfl rfl rfl ?_
        refine Wp_ivv_v (o := 12) (As := []) d_F_share_48 ln_F_162 mk_D_bringUpToDate rfl rfl rfl rfl rfl (by omega) (t_D_bringUpToDate E (d - 1) (by omega) w S hC hV) (fun w48 c48 => ?_)
        obtain ⟨hC2, z2, fB⟩ := c48
        have hP2 := CC_PR hC2
        have h15 := FT_15 hC2 z2
        have h16 := FT_16 hC2 z2
        have fBc : fr cRows w w48 := fr_sub fB (by decide)
        refine Wp_aload_n d_F_share_51 rfl ?_
        refine Wp_getr d_F_share_52 fd_F_28 rfl rfl rfl ?_
        refine Wp_aload_n d_F_share_55 rfl ?_
        refine Wp_getr d_F_share_56 fd_F_10 rfl rfl rfl ?_
        refine Wp_ivv_d (o := 1) (As := []) d_F_share_59 ln_F_180 mk_P_everyone rfl rfl rfl rfl rfl (by omega) (t_P_everyone E (d - 1) (by omega) w48 (pN S) hP2.2.1.1 (pN_ok S).1) ?_
        refine Wp_ivv_d (o := 12) (As := [vi (nI (wh S))]) d_F_share_62 ln_F_165 mk_D_leastOf rfl rfl rfl rfl rfl (by omega) (t_D_leastOf E (d - 1) (by omega) w48 S hV (wh S) (by omega) (h15 _ (by omega))) ?_
        refine Wp_iconst (x := (-1)) d_F_share_65 (by decide) ?_
        refine Wp_icmp_ne d_F_share_66 (fun h66 => ?_) (fun h66 => ?_)
        ·
          have g66 : (DC S (wh S)).2.2.2 ≠ 0 := fun q => h66 ((dayR_n hV (wh_lt S)).mpr q)
          have hsb := shL_b hV (show pN S ≤ 6 by omega) hj g66
          have hfc := facS_le (show pN S ≤ 6 by omega)
          refine Wp_aload_n d_F_share_75 rfl ?_
          refine Wp_getr d_F_share_76 fd_F_28 rfl rfl rfl ?_
          refine Wp_iload_n d_F_share_79 rfl ?_
          refine Wp_ivv_dl (o := 12) (As := [vi (nI j)]) d_F_share_80 ln_F_210 mk_D_broughtInAllOrders rfl rfl rfl rfl rfl (by omega) (t_D_broughtInAllOrders E (d - 1) (by omega) w48 S hP2 hV j hj (by omega) g66 h15) ?_
          refine Wp_aload_n d_F_share_83 rfl ?_
          refine Wp_getr d_F_share_84 fd_F_28 rfl rfl rfl ?_
          refine Wp_aload_n d_F_share_87 rfl ?_
          refine Wp_getr d_F_share_88 fd_F_10 rfl rfl rfl ?_
          refine Wp_getf d_F_share_91 fd_F_177 rfl rfl rfl ?_
          refine Wp_eqi (x2 := nI (pN S)) hP2.2.1.1 ?_
          refine Wp_ivv_d (o := 12) (As := [vi (nI (pN S))]) d_F_share_94 ln_F_213 mk_D_orders rfl rfl rfl rfl rfl (by omega) (t_D_orders E (d - 1) (by omega) w48 (pN S) (by omega)) ?_
          refine Wp_i2l d_F_share_97 ?_
          refine Wp_eql (x2 := lN (facS (pN S))) (nI_l (by omega)) ?_
          refine Wp_iload_n d_F_share_98 rfl ?_
          refine Wp_ivs_dl (As := [vl (shL S j (2 ^ pN S)), vl (lN (facS (pN S))), vi a]) d_F_share_99 ln_F_206 mk_F_lowestTerms rfl rfl rfl (by omega) (t_F_lowestTerms E (d - 1) (by omega) w48 (shL S j (2 ^ pN S)) (facS (pN S)) a hsb.1 hsb.2 (by omega) (by omega)) ?_
          refine Wp_retl d_F_share_102 rfl ?_
          exact ⟨by unfold rShare; rw [if_pos ⟨gp, g14⟩, cl (by omega)]; unfold shareR; rw [if_neg (by omega), if_neg g66, wh_1], hC2, fBc⟩
        ·
          have g66 : (DC S (wh S)).2.2.2 = 0 := (dayR_n hV (wh_lt S)).mp h66
          refine Wp_bipush (x := (-3)) d_F_share_69 (by decide) ?_
          refine Wp_ivs_dl (As := [vi (-3)]) d_F_share_71 ln_F_197 mk_F_longRefusal rfl rfl rfl (by omega) (t_F_longRefusal E (d - 1) (by omega) w48 (-3) (-9223372036854775805) (by decide)) ?_
          refine Wp_retl d_F_share_74 rfl ?_
          exact ⟨by unfold rShare; rw [if_pos ⟨gp, g14⟩, cl (by omega)]; unfold shareR; rw [if_neg (by omega), if_pos g66], hC2, fBc⟩
      ·
        have g35 : 6 < (pN S) := n_nle h35 (by omega) (by omega)
        refine Wp_bipush (x := (-4)) d_F_share_38 (by decide) ?_
        refine Wp_ivs_dl (As := [vi (-4)]) d_F_share_40 ln_F_197 mk_F_longRefusal rfl rfl rfl (by omega) (t_F_longRefusal E (d - 1) (by omega) w (-4) (-9223372036854775804) (by decide)) ?_
        refine Wp_retl d_F_share_43 rfl ?_
        exact ⟨by unfold rShare; rw [if_pos ⟨gp, g14⟩, cl (by omega)]; unfold shareR; rw [if_pos (by omega)], hC, fr_rf⟩
    ·
      have k14 : ¬ (0 ≤ a.toInt ∧ a.toInt ≤ 1) := g14
      refine Wp_if_ne d_F_share_17 (fun q => absurd q (by decide)) (fun _ => ?_)
      refine Wp_bipush (x := (-2)) d_F_share_20 (by decide) ?_
      refine Wp_ivs_dl (As := [vi (-2)]) d_F_share_22 ln_F_197 mk_F_longRefusal rfl rfl rfl (by omega) (t_F_longRefusal E (d - 1) (by omega) w (-2) (-9223372036854775806) (by decide)) ?_
      refine Wp_retl d_F_share_25 rfl ?_
      exact ⟨by unfold rShare; rw [if_neg (by omega)], hC, fr_rf⟩
  ·
    refine Wp_if_eq d_F_share_8 (fun _ => ?_) (fun q => absurd (by decide) q)
    refine Wp_bipush (x := (-2)) d_F_share_20 (by decide) ?_
    refine Wp_ivs_dl (As := [vi (-2)]) d_F_share_22 ln_F_197 mk_F_longRefusal rfl rfl rfl (by omega) (t_F_longRefusal E (d - 1) (by omega) w (-2) (-9223372036854775806) (by decide)) ?_
    refine Wp_retl d_F_share_25 rfl ?_
    exact ⟨by unfold rShare; rw [if_neg (by omega)], hC, fr_rf⟩
set_option maxRecDepth 100000 in
set_option maxHeartbeats 4000000 in
theorem l_F_pt (E : mE) (d : Nat) (hd : 2 ≤ d) (w S : mw) (hP : PR w S) (hV : VM S) (s : Nat) (h_s : s < 4) (cz_s : w (24 + s) 1 = S 34 s ∧ w (24 + s) 2 = nI (sSz S s) ∧ ∀ i, i < sSz S s → w (28 + s) i = S 36 (60 * s + i)) (hz : pN S ≤ sSz S s) (k : Nat) (hk : k < 1024) : ∀ (m p : Nat), p + m = pN S → Wp E d m_F_paidTogether 5 [lr 0, lr (24 + s), li (nI k), ll (rsN S s k p), lo, li (nI p)] [] w (mPl (fun r w1 => r = rsN S s k (pN S) ∧ w1 = w)) := by
  intro m
  have hp10 := (pN_ok S).1
  have h1024 := two10 hp10
  have hwl := wh_lt S
  have hwe := wh_1 S
  induction m with
  | zero =>
    intro p hm
    have hpp : p = pN S := by omega
    subst hpp
    refine Wp_iload d_F_paidTogether_5 rfl ?_
    refine Wp_aload_n d_F_paidTogether_7 rfl ?_
    refine Wp_getr d_F_paidTogether_8 fd_F_10 rfl rfl rfl ?_
    refine Wp_getf d_F_paidTogether_11 fd_F_177 rfl rfl rfl ?_
    refine Wp_eqi (x2 := nI (pN S)) hP.2.1.1 ?_
    refine Wp_icmp_ge d_F_paidTogether_14 (fun h14 => ?_) (fun q => absurd (n_nle q (by omega) (by omega)) (by omega))
    refine Wp_lload_n d_F_paidTogether_42 rfl ?_
    refine Wp_retl d_F_paidTogether_43 rfl ?_
    exact ⟨rfl, rfl⟩
  | succ m ih =>
    intro p hm
    refine Wp_iload d_F_paidTogether_5 rfl ?_
    refine Wp_aload_n d_F_paidTogether_7 rfl ?_
    refine Wp_getr d_F_paidTogether_8 fd_F_10 rfl rfl rfl ?_
    refine Wp_getf d_F_paidTogether_11 fd_F_177 rfl rfl rfl ?_
    refine Wp_eqi (x2 := nI (pN S)) hP.2.1.1 ?_
    refine Wp_icmp_ge d_F_paidTogether_14 (fun q => absurd (n_le q (by omega) (by omega)) (by omega)) (fun h14 => ?_)
    refine Wp_iload_n d_F_paidTogether_17 rfl ?_
    refine Wp_iconst (x := 1) d_F_paidTogether_18 (by decide) ?_
    refine Wp_iload d_F_paidTogether_19 rfl ?_
    refine Wp_ishl d_F_paidTogether_21 ?_
    refine Wp_eqi (x2 := nI (2 ^ p)) (sh1 (by omega)) ?_
    refine Wp_iand d_F_paidTogether_22 ?_
    refine Wp_eqi (x2 := nI (k &&& (2 ^ p))) (nI_and k (2 ^ p)) ?_
    refine Wp_if_eq d_F_paidTogether_23 (fun h23 => ?_) (fun h23 => ?_)
    ·
      have tb : k.testBit p = false := bit0 (by omega) h23
      refine Wp_iinc (z := nI (p + 1)) (ls2 := [lr 0, lr (24 + s), li (nI k), ll (rsN S s k p), lo, li (nI (p + 1))]) d_F_paidTogether_36 rfl (nI_add p 1) rfl rfl rfl ?_
      refine Wp_goto d_F_paidTogether_39 ?_
      have h9 := ih (p + 1) (by omega)
      rw [rsN_n tb] at h9
      exact h9
    ·
      have tb : k.testBit p = true := bit1 h23
      refine Wp_lload_n d_F_paidTogether_26 rfl ?_
      refine Wp_aload_n d_F_paidTogether_27 rfl ?_
      refine Wp_iload d_F_paidTogether_28 rfl ?_
      refine Wp_ivv_d (o := (24 + s)) (As := [vi (nI p)]) d_F_paidTogether_30 ln_F_133 mk_S_item (mObj_sh h_s) rfl rfl rfl rfl (by omega) (by have h := t_S_item E (d - 1) (by omega) w s (sSz S s) p h_s cz_s.2.1 (VM_sz hV s h_s).2 (by omega); rw [cz_s.2.2 _ (by omega)] at h; exact h) ?_
      refine Wp_i2l d_F_paidTogether_33 ?_
      refine Wp_ladd d_F_paidTogether_34 ?_
      refine Wp_eql (x2 := rsN S s k (p + 1)) (rsN_s tb).symm ?_
      refine Wp_lstore_n (ls2 := [lr 0, lr (24 + s), li (nI k), ll (rsN S s k (p + 1)), lo, li (nI p)]) d_F_paidTogether_35 rfl rfl rfl ?_
      refine Wp_iinc (z := nI (p + 1)) (ls2 := [lr 0, lr (24 + s), li (nI k), ll (rsN S s k (p + 1)), lo, li (nI (p + 1))]) d_F_paidTogether_36 rfl (nI_add p 1) rfl rfl rfl ?_
      refine Wp_goto d_F_paidTogether_39 ?_
      exact ih (p + 1) (by omega)
set_option maxRecDepth 100000 in
set_option maxHeartbeats 4000000 in
theorem t_F_paidTogether (E : mE) (d : Nat) (hd : 2 ≤ d) (w : mw) (S : mw) (hP : PR w S) (hV : VM S) (s : Nat) (h_s : s < 4) (cz_s : w (24 + s) 1 = S 34 s ∧ w (24 + s) 2 = nI (sSz S s) ∧ ∀ i, i < sSz S s → w (28 + s) i = S 36 (60 * s + i)) (hz : pN S ≤ sSz S s) (k : Nat) (hk : k < 1024) : Tdl E d m_F_paidTogether [vr 0, vr (24 + s), vi (nI k)] w (rsN S s k (pN S)) w := by
  refine ⟨Nat.le_of_ble_eq_true rfl, ?_⟩
  show Wp E d m_F_paidTogether 0 [lr 0, lr (24 + s), li (nI k), lo, lo, lo] [] w _
  refine Wp_lconst (x := 0) d_F_paidTogether_0 (by decide) ?_
  refine Wp_lstore_n (ls2 := [lr 0, lr (24 + s), li (nI k), ll 0, lo, lo]) d_F_paidTogether_1 rfl rfl rfl ?_
  refine Wp_iconst (x := 0) d_F_paidTogether_2 (by decide) ?_
  refine Wp_istore (ls2 := [lr 0, lr (24 + s), li (nI k), ll 0, lo, li 0]) d_F_paidTogether_3 rfl rfl rfl ?_
  exact l_F_pt E d (by omega) w S hP hV s h_s cz_s hz k hk (pN S) 0 (Nat.zero_add _)
set_option maxRecDepth 100000 in
set_option maxHeartbeats 4000000 in
theorem l_F_ra (E : mE) (d : Nat) (hd : 5 ≤ d) (w S : mw) (hC : CC w S) (hV : VM S) (z2 : w 12 6 = 0) (s : Nat) (h_s : s < 4) (cz_s : w (24 + s) 1 = S 34 s ∧ w (24 + s) 2 = nI (sSz S s) ∧ ∀ i, i < sSz S s → w (28 + s) i = S 36 (60 * s + i)) (hz : pN S ≤ sSz S s) (hF : Fe S (wh S)) (u2 : Int32) : ∀ (m k : Nat), k + m = 2 ^ pN S → Wp E d m_F_rather 42 [lr 0, li (nI s), li u2, li (nI k)] [] w (mPi (fun r w1 => r = ratF S s m k ∧ w1 = w)) := by
  intro m
  have hP := CC_PR hC
  have h15 := FT_15 hC z2
  have hp10 := (pN_ok S).1
  have h1024 := two10 hp10
  have hwl := wh_lt S
  have hwe := wh_1 S
  induction m with
  | zero =>
    intro k hk
    have hkk : k = 2 ^ pN S := by omega
    subst hkk
    refine Wp_iload_n d_F_rather_42 rfl ?_
    refine Wp_aload_n d_F_rather_43 rfl ?_
    refine Wp_getr d_F_rather_44 fd_F_10 rfl rfl rfl ?_
    refine Wp_ivv_d (o := 1) (As := []) d_F_rather_47 ln_F_180 mk_P_everyone rfl rfl rfl rfl rfl (by omega) (t_P_everyone E (d - 1) (by omega) w (pN S) hP.2.1.1 (pN_ok S).1) ?_
    refine Wp_icmp_gt d_F_rather_50 (fun h50 => ?_) (fun q => absurd (n_nlt q (by omega) (by omega)) (by omega))
    refine Wp_iconst (x := (-1)) d_F_rather_85 (by decide) ?_
    refine Wp_reti (ty := .int) d_F_rather_86 rfl rfl ?_
    exact ⟨rfl, rfl⟩
  | succ m ih =>
    intro k hk
    refine Wp_iload_n d_F_rather_42 rfl ?_
    refine Wp_aload_n d_F_rather_43 rfl ?_
    refine Wp_getr d_F_rather_44 fd_F_10 rfl rfl rfl ?_
    refine Wp_ivv_d (o := 1) (As := []) d_F_rather_47 ln_F_180 mk_P_everyone rfl rfl rfl rfl rfl (by omega) (t_P_everyone E (d - 1) (by omega) w (pN S) hP.2.1.1 (pN_ok S).1) ?_
    refine Wp_icmp_gt d_F_rather_50 (fun q => absurd (n_lt q (by omega) (by omega)) (by omega)) (fun h50 => ?_)
    refine Wp_aload_n d_F_rather_53 rfl ?_
    refine Wp_aload_n d_F_rather_54 rfl ?_
    refine Wp_getr d_F_rather_55 fd_F_50 rfl rfl rfl ?_
    refine Wp_iload_n d_F_rather_58 rfl ?_
    refine Wp_aaldN (j := s) d_F_rather_59 rfl rfl rfl rfl (by omega) ?_
    refine Wp_iload_n d_F_rather_60 rfl ?_
    refine Wp_ivv_dl (o := 0) (As := [vr (24 + s), vi (nI k)]) d_F_rather_61 ln_F_216 mk_F_paidTogether rfl rfl rfl rfl rfl (by omega) (t_F_paidTogether E (d - 1) (by omega) w S hP hV s h_s cz_s hz k (by omega)) ?_
    refine Wp_aload_n d_F_rather_64 rfl ?_
    refine Wp_getr d_F_rather_65 fd_F_28 rfl rfl rfl ?_
    refine Wp_iload_n d_F_rather_68 rfl ?_
    refine Wp_ivv_d (o := 12) (As := [vi (nI k)]) d_F_rather_69 ln_F_165 mk_D_leastOf rfl rfl rfl rfl rfl (by omega) (by have h := t_D_leastOf E (d - 1) (by omega) w S hV k (by omega) (h15 _ (by omega)); rw [dayR_f (Fe_all hV hF (by omega))] at h; exact h) ?_
    refine Wp_i2l d_F_rather_72 ?_
    refine Wp_lcmp d_F_rather_73 ?_
    refine Wp_if_le d_F_rather_74 (fun h74 => ?_) (fun h74 => ?_)
    ·
      have g74 := l_cmp_le h74
      refine Wp_iinc (z := nI (k + 1)) (ls2 := [lr 0, li (nI s), li u2, li (nI (k + 1))]) d_F_rather_79 rfl (nI_add k 1) rfl rfl rfl ?_
      refine Wp_goto d_F_rather_82 ?_
      have h9 := ih (k + 1) (by omega)
      have e9 : ratF S s (m + 1) k = ratF S s m (k + 1) := by rw [ratF, if_neg (by omega)]
      rw [e9]
      exact h9
    ·
      have g74 := l_cmp_nle h74
      refine Wp_iload_n d_F_rather_77 rfl ?_
      refine Wp_reti (ty := .int) d_F_rather_78 rfl rfl ?_
      exact ⟨by rw [ratF, if_pos g74], rfl⟩
set_option maxRecDepth 100000 in
set_option maxHeartbeats 4000000 in
theorem t_F_rather (E : mE) (d : Nat) (hd : 5 ≤ d) (w : mw) (S : mw) (hC : CC w S) (hV : VM S) (s : Int32) : Ti E d m_F_rather [vr 0, vi s] w (fun r w1 => r = (oRather S s).1 ∧ CC w1 (oRather S s).2 ∧ fr cRows w w1) := by
  refine ⟨Nat.le_of_ble_eq_true rfl, ?_⟩
  show Wp E d m_F_rather 0 [lr 0, li s, lo, lo] [] w _
  have hP := CC_PR hC
  have hp10 := (pN_ok S).1
  have h1024 := two10 hp10
  have hwl := wh_lt S
  have hwe := wh_1 S
  refine Wp_aload_n d_F_rather_0 rfl ?_
  refine Wp_iload_n d_F_rather_1 rfl ?_
  refine Wp_ivv_i (o := 0) (As := [vi s]) d_F_rather_2 ln_F_183 mk_F_refusalOf rfl rfl rfl rfl rfl (by omega) (t_F_refusalOf E (d - 1) (by omega) w S hC hV s) (fun r2 w2 c2 => ?_)
  rcases c2 with ⟨g1, e1, e2⟩ | ⟨s1, h_s1, rfl, ⟨g1, e1, e2⟩ | ⟨g1, g2, e1, e2⟩ | ⟨g1, g2, e1, e2⟩⟩
  ·
    rw [e1, e2]
    refine Wp_istore_n (ls2 := [lr 0, li s, li (-2), lo]) d_F_rather_5 rfl rfl rfl ?_
    refine Wp_iload_n d_F_rather_6 rfl ?_
    refine Wp_if_eq d_F_rather_7 (fun q => absurd q (by decide)) (fun _ => ?_)
    refine Wp_iload_n d_F_rather_10 rfl ?_
    refine Wp_reti (ty := .int) d_F_rather_11 rfl rfl ?_
    have e9 : oRather S s = (-2, S) := by unfold oRather; rw [if_pos g1]
    rw [e9]; exact ⟨rfl, hC, fr_rf⟩
  ·
    have tS := ti (show s1 < 2147483648 by omega)
    rw [e1, e2]
    refine Wp_istore_n (ls2 := [lr 0, li (nI s1), li (-11), lo]) d_F_rather_5 rfl rfl rfl ?_
    refine Wp_iload_n d_F_rather_6 rfl ?_
    refine Wp_if_eq d_F_rather_7 (fun q => absurd q (by decide)) (fun _ => ?_)
    refine Wp_iload_n d_F_rather_10 rfl ?_
    refine Wp_reti (ty := .int) d_F_rather_11 rfl rfl ?_
    have e9 : oRather S (nI s1) = (-11, mU S 33 4 1) := by unfold oRather; rw [if_neg (by omega), cl (by omega), if_pos g1]
    rw [e9]; exact ⟨rfl, CC_fi hC 1, fr_U (by decide)⟩
  ·
    have tS := ti (show s1 < 2147483648 by omega)
    rw [e1, e2]
    refine Wp_istore_n (ls2 := [lr 0, li (nI s1), li (-3), lo]) d_F_rather_5 rfl rfl rfl ?_
    refine Wp_iload_n d_F_rather_6 rfl ?_
    refine Wp_if_eq d_F_rather_7 (fun q => absurd q (by decide)) (fun _ => ?_)
    refine Wp_iload_n d_F_rather_10 rfl ?_
    refine Wp_reti (ty := .int) d_F_rather_11 rfl rfl ?_
    have e9 : oRather S (nI s1) = (-3, S) := by unfold oRather; rw [if_neg (by omega), cl (by omega), if_neg g1, if_pos (Or.inl g2)]
    rw [e9]; exact ⟨rfl, hC, fr_rf⟩
  ·
    have tS := ti (show s1 < 2147483648 by omega)
    have hz1 := (VM_sz hV s1 h_s1).2
    rw [e1, e2]
    refine Wp_istore_n (ls2 := [lr 0, li (nI s1), li 0, lo]) d_F_rather_5 rfl rfl rfl ?_
    refine Wp_iload_n d_F_rather_6 rfl ?_
    refine Wp_if_eq d_F_rather_7 (fun _ => ?_) (fun q => absurd (by decide) q)
    refine Wp_aload_n d_F_rather_12 rfl ?_
    refine Wp_getr d_F_rather_13 fd_F_28 rfl rfl rfl ?_
    refine Wp_ivv_v (o := 12) (As := []) d_F_rather_16 ln_F_162 mk_D_bringUpToDate rfl rfl rfl rfl rfl (by omega) (t_D_bringUpToDate E (d - 1) (by omega) w S hC hV) (fun w16 c16 => ?_)
    obtain ⟨hC2, z2, fB⟩ := c16
    have hP2 := CC_PR hC2
    have h15 := FT_15 hC2 z2
    have h16 := FT_16 hC2 z2
    have fBc : fr cRows w w16 := fr_sub fB (by decide)
    refine Wp_aload_n d_F_rather_19 rfl ?_
    refine Wp_getr d_F_rather_20 fd_F_28 rfl rfl rfl ?_
    refine Wp_aload_n d_F_rather_23 rfl ?_
    refine Wp_getr d_F_rather_24 fd_F_10 rfl rfl rfl ?_
    refine Wp_ivv_d (o := 1) (As := []) d_F_rather_27 ln_F_180 mk_P_everyone rfl rfl rfl rfl rfl (by omega) (t_P_everyone E (d - 1) (by omega) w16 (pN S) hP2.2.1.1 (pN_ok S).1) ?_
    refine Wp_ivv_d (o := 12) (As := [vi (nI (wh S))]) d_F_rather_30 ln_F_165 mk_D_leastOf rfl rfl rfl rfl rfl (by omega) (t_D_leastOf E (d - 1) (by omega) w16 S hV (wh S) (by omega) (h15 _ (by omega))) ?_
    refine Wp_iconst (x := (-1)) d_F_rather_33 (by decide) ?_
    refine Wp_icmp_ne d_F_rather_34 (fun h34 => ?_) (fun h34 => ?_)
    ·
      have g34 : (DC S (wh S)).2.2.2 ≠ 0 := fun q => h34 ((dayR_n hV (wh_lt S)).mpr q)
      refine Wp_iconst (x := 1) d_F_rather_40 (by decide) ?_
      refine Wp_istore_n (ls2 := [lr 0, li (nI s1), li 0, li 1]) d_F_rather_41 rfl rfl rfl ?_
      refine Wp_mi (l_F_ra E d (by omega) w16 S hC2 hV z2 s1 h_s1 (CSh_z (CC_sh hC2 h_s1) hV h_s1 g1) g2 g34 _ (wh S) 1 (by omega)) (fun r w1 h => ?_)
      have e9 : oRather S (nI s1) = (ratF S s1 (wh S) 1, S) := by unfold oRather; rw [if_neg (by omega), cl (by omega), if_neg g1, if_neg (fun q => q.elim (by omega) (fun q => g34 q))]
      rw [e9, h.2]; exact ⟨h.1, hC2, fBc⟩
    ·
      have g34 : (DC S (wh S)).2.2.2 = 0 := (dayR_n hV (wh_lt S)).mp h34
      refine Wp_bipush (x := (-3)) d_F_rather_37 (by decide) ?_
      refine Wp_reti (ty := .int) d_F_rather_39 rfl rfl ?_
      have e9 : oRather S (nI s1) = (-3, S) := by unfold oRather; rw [if_neg (by omega), cl (by omega), if_neg g1, if_pos (Or.inr g34)]
      rw [e9]; exact ⟨rfl, hC2, fBc⟩
