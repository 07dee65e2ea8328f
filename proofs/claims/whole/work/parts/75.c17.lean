set_option maxRecDepth 100000 in
set_option maxHeartbeats 4000000 in
theorem t_T_atLeast (E : mE) (d : Nat) (hd : 2 ≤ d) (w : mw) (S : mw) (hV : VM S) (x b p : Nat) (hx : x < 2 ^ pN S) (hb0 : 0 < b) (hb : b < 2 ^ pN S) (hab : x ^^^ b = ann x b) (hp : p ≤ 300000) (h13 : w 13 b = nI (costS S b)) (h15 : ∀ x, x < 2 ^ pN S → w 15 x = enD (DC S x)) : Ti E d m_T_atLeast [vr 17, vi (nI x), vi (nI b), vi (nI p)] w (fun r w1 => r.toInt = (p : Int) + costS S b + (if (DC S (ann x b)).2.2.2 = 0 then -1 else ((DC S (ann x b)).1 : Int)) ∧ w1 = w) := by
  refine ⟨Nat.le_of_ble_eq_true rfl, ?_⟩
  show Wp E d m_T_atLeast 0 [lr 17, li (nI x), li (nI b), li (nI p)] [] w _
  have hp10 := (pN_ok S).1
  have h1024 := two10 hp10
  have hal := ann_le x b
  have hc := costS_le hV hb hb0
  have hpb := popc_le b
  refine Wp_iload_n d_T_atLeast_0 rfl ?_
  refine Wp_aload_n d_T_atLeast_1 rfl ?_
  refine Wp_getr d_T_atLeast_2 fd_T_15 rfl rfl rfl ?_
  refine Wp_iload_n d_T_atLeast_5 rfl ?_
  refine Wp_ivv_d (o := 12) (As := [vi (nI b)]) d_T_atLeast_6 ln_T_64 mk_D_priceAt rfl rfl rfl rfl rfl (by omega) (t_D_priceAt E (d - 1) (by omega) w b (by omega)) ?_
  refine Wp_eqi (x2 := nI (costS S b)) h13 ?_
  refine Wp_iadd d_T_atLeast_9 ?_
  refine Wp_eqi (x2 := nI (p + (costS S b))) (nI_add p (costS S b)) ?_
  refine Wp_aload_n d_T_atLeast_10 rfl ?_
  refine Wp_getr d_T_atLeast_11 fd_T_15 rfl rfl rfl ?_
  refine Wp_iload_n d_T_atLeast_14 rfl ?_
  refine Wp_iload_n d_T_atLeast_15 rfl ?_
  refine Wp_ixor d_T_atLeast_16 ?_
  refine Wp_eqi (x2 := nI (ann x b)) (by rw [nI_xor, hab]) ?_
  refine Wp_ivv_d (o := 12) (As := [vi (nI (ann x b))]) d_T_atLeast_17 ln_T_19 mk_D_leastOf rfl rfl rfl rfl rfl (by omega) (t_D_leastOf E (d - 1) (by omega) w S hV (ann x b) (by omega) (h15 _ (by omega))) ?_
  refine Wp_iadd d_T_atLeast_20 ?_
  refine Wp_reti (ty := .int) d_T_atLeast_21 rfl rfl ?_
  refine ⟨?_, rfl⟩
  rw [dayR0]
  by_cases hf : (DC S (ann x b)).2.2.2 = 0
  · rw [if_pos hf, if_pos hf]
    have e1 : Int32.toInt (-1) = -1 := rfl
    rw [i_add (by rw [ti (by omega), e1]; omega) (by rw [ti (by omega), e1]; omega), ti (by omega), e1]
    omega
  · rw [if_neg hf, if_neg hf]
    have hd := (enc_lt (DC_okk (S := S) hV (show ann x b < 2 ^ pN S by omega)) hf).1
    rw [i_add (by rw [ti (by omega), ti (by omega)]; omega) (by rw [ti (by omega), ti (by omega)]; omega), ti (by omega), ti (by omega)]
    omega
set_option maxRecDepth 100000 in
set_option maxHeartbeats 4000000 in
theorem l_T_meet (E : mE) (d : Nat) (hd : 0 ≤ d) (w : mw) (b : Nat) (hb : b < 1024) : ∀ (k i : Nat), i + k = 10 → Wp E d m_T_meet 2 [lr 17, li (nI b), li (nI i)] [] (metW w b i) (mPv (fun w1 => w1 = metW w b 10)) := by
  intro k
  induction k with
  | zero =>
    intro i hk
    have hii : i = 10 := by omega
    subst hii
    refine Wp_iload_n d_T_meet_2 rfl ?_
    refine Wp_bipush (x := 10) d_T_meet_3 (by decide) ?_
    refine Wp_icmp_ge d_T_meet_5 (fun h5 => ?_) (fun q => absurd (n_nle (a := 10) q (by omega) (by omega)) (by omega))
    refine Wp_retv d_T_meet_35 rfl ?_
    exact rfl
  | succ k ih =>
    intro i hk
    refine Wp_iload_n d_T_meet_2 rfl ?_
    refine Wp_bipush (x := 10) d_T_meet_3 (by decide) ?_
    refine Wp_icmp_ge d_T_meet_5 (fun q => absurd (n_le (a := 10) q (by omega) (by omega)) (by omega)) (fun h5 => ?_)
    refine Wp_iload_n d_T_meet_8 rfl ?_
    refine Wp_iconst (x := 1) d_T_meet_9 (by decide) ?_
    refine Wp_iload_n d_T_meet_10 rfl ?_
    refine Wp_ishl d_T_meet_11 ?_
    refine Wp_eqi (x2 := nI (2 ^ i)) (sh1 (by omega)) ?_
    refine Wp_iand d_T_meet_12 ?_
    refine Wp_eqi (x2 := nI (b &&& (2 ^ i))) (nI_and b (2 ^ i)) ?_
    refine Wp_if_eq d_T_meet_13 (fun h13 => ?_) (fun h13 => ?_)
    ·
      have tb : b.testBit i = false := bit0 (by omega) h13
      refine Wp_iinc (z := nI (i + 1)) (ls2 := [lr 17, li (nI b), li (nI (i + 1))]) d_T_meet_29 rfl (nI_add i 1) rfl rfl rfl ?_
      refine Wp_goto d_T_meet_32 ?_
      rw [metW_n tb]
      exact ih (i + 1) (by omega)
    ·
      have tb : b.testBit i = true := bit1 h13
      refine Wp_aload_n d_T_meet_16 rfl ?_
      refine Wp_getr d_T_meet_17 fd_T_9 rfl rfl rfl ?_
      refine Wp_iload_n d_T_meet_20 rfl ?_
      refine Wp_iload_n d_T_meet_21 rfl ?_
      refine Wp_iconst (x := 1) d_T_meet_22 (by decide) ?_
      refine Wp_iload_n d_T_meet_23 rfl ?_
      refine Wp_ishl d_T_meet_24 ?_
      refine Wp_eqi (x2 := nI (2 ^ i)) (sh1 (by omega)) ?_
      refine Wp_iconst (x := (-1)) d_T_meet_25 (by decide) ?_
      refine Wp_ixor d_T_meet_26 ?_
      refine Wp_iand d_T_meet_27 ?_
      refine Wp_eqi (x2 := nI (ann b (2 ^ i))) (anI b (2 ^ i)) ?_
      refine Wp_iastN (j := i) d_T_meet_28 rfl rfl rfl rfl (by omega) ?_
      refine Wp_iinc (z := nI (i + 1)) (ls2 := [lr 17, li (nI b), li (nI (i + 1))]) d_T_meet_29 rfl (nI_add i 1) rfl rfl rfl ?_
      refine Wp_goto d_T_meet_32 ?_
      rw [metW_1 tb]
      exact ih (i + 1) (by omega)
set_option maxRecDepth 100000 in
set_option maxHeartbeats 4000000 in
theorem t_T_meet (E : mE) (d : Nat) (hd : 0 ≤ d) (w : mw) (b : Nat) (hb : b < 1024) : Tdv E d m_T_meet [vr 17, vi (nI b)] w (metW w b 10) := by
  refine ⟨Nat.le_of_ble_eq_true rfl, ?_⟩
  show Wp E d m_T_meet 0 [lr 17, li (nI b), lo] [] w _
  refine Wp_iconst (x := 0) d_T_meet_0 (by decide) ?_
  refine Wp_istore_n (ls2 := [lr 17, li (nI b), li 0]) d_T_meet_1 rfl rfl rfl ?_
  have h9 := l_T_meet E d (by omega) w b hb 10 0 rfl
  rw [metW_0] at h9
  exact h9
set_option maxRecDepth 100000 in
set_option maxHeartbeats 4000000 in
theorem l_T_new (E : mE) (d : Nat) (hd : 0 ≤ d) (w : mw) (b : Nat) (hb : b < 1024) (M : Nat → Nat) (hM : ∀ i, i < 10 → b.testBit i = true → w 18 i = nI (M i) ∧ M i < 1024) : ∀ (k i : Nat), i + k = 10 → (∀ j, j < i → b.testBit j = true → M j &&& b = 0) → Wp E d m_T_areNew 2 [lr 17, li (nI b), li (nI i)] [] w (mPi (fun r w1 => ((r = 1 ∧ (∀ i, i < 10 → b.testBit i = true → M i &&& b = 0)) ∨ (r = 0 ∧ ¬ (∀ i, i < 10 → b.testBit i = true → M i &&& b = 0))) ∧ w1 = w)) := by
  intro k
  induction k with
  | zero =>
    intro i hk hA
    have hii : i = 10 := by omega
    subst hii
    refine Wp_iload_n d_T_areNew_2 rfl ?_
    refine Wp_bipush (x := 10) d_T_areNew_3 (by decide) ?_
    refine Wp_icmp_ge d_T_areNew_5 (fun h5 => ?_) (fun q => absurd (n_nle (a := 10) q (by omega) (by omega)) (by omega))
    refine Wp_iconst (x := 1) d_T_areNew_35 (by decide) ?_
    refine Wp_reti (ty := .boolean) d_T_areNew_36 rfl rfl ?_
    exact ⟨Or.inl ⟨rfl, hA⟩, rfl⟩
  | succ k ih =>
    intro i hk hA
    refine Wp_iload_n d_T_areNew_2 rfl ?_
    refine Wp_bipush (x := 10) d_T_areNew_3 (by decide) ?_
    refine Wp_icmp_ge d_T_areNew_5 (fun q => absurd (n_le (a := 10) q (by omega) (by omega)) (by omega)) (fun h5 => ?_)
    refine Wp_iload_n d_T_areNew_8 rfl ?_
    refine Wp_iconst (x := 1) d_T_areNew_9 (by decide) ?_
    refine Wp_iload_n d_T_areNew_10 rfl ?_
    refine Wp_ishl d_T_areNew_11 ?_
    refine Wp_eqi (x2 := nI (2 ^ i)) (sh1 (by omega)) ?_
    refine Wp_iand d_T_areNew_12 ?_
    refine Wp_eqi (x2 := nI (b &&& (2 ^ i))) (nI_and b (2 ^ i)) ?_
    refine Wp_if_eq d_T_areNew_13 (fun h13 => ?_) (fun h13 => ?_)
    ·
      have tb : b.testBit i = false := bit0 (by omega) h13
      refine Wp_iinc (z := nI (i + 1)) (ls2 := [lr 17, li (nI b), li (nI (i + 1))]) d_T_areNew_29 rfl (nI_add i 1) rfl rfl rfl ?_
      refine Wp_goto d_T_areNew_32 ?_
      refine ih (i + 1) (by omega) (fun j hj q2 => ?_)
      by_cases e : j = i
      · subst e; rw [tb] at q2; exact absurd q2 (by decide)
      · exact hA j (by omega) q2
    ·
      have tb : b.testBit i = true := bit1 h13
      have hMi := hM i (by omega) tb
      have hal : M i &&& b ≤ M i := Nat.and_le_left
      refine Wp_aload_n d_T_areNew_16 rfl ?_
      refine Wp_getr d_T_areNew_17 fd_T_9 rfl rfl rfl ?_
      refine Wp_iload_n d_T_areNew_20 rfl ?_
      refine Wp_ialdN (j := i) d_T_areNew_21 rfl rfl rfl rfl (by omega) ?_
      refine Wp_eqi (x2 := nI (M i)) hMi.1 ?_
      refine Wp_iload_n d_T_areNew_22 rfl ?_
      refine Wp_iand d_T_areNew_23 ?_
      refine Wp_eqi (x2 := nI ((M i) &&& b)) (nI_and (M i) b) ?_
      refine Wp_if_eq d_T_areNew_24 (fun h24 => ?_) (fun h24 => ?_)
      ·
        have g24 : ((M i) &&& b) = 0 := n_eq h24 (by omega) (by omega)
        refine Wp_iinc (z := nI (i + 1)) (ls2 := [lr 17, li (nI b), li (nI (i + 1))]) d_T_areNew_29 rfl (nI_add i 1) rfl rfl rfl ?_
        refine Wp_goto d_T_areNew_32 ?_
        refine ih (i + 1) (by omega) (fun j hj q2 => ?_)
        by_cases e : j = i
        · subst e; exact g24
        · exact hA j (by omega) q2
      ·
        have g24 : ((M i) &&& b) ≠ 0 := n_ne h24 (by omega) (by omega)
        refine Wp_iconst (x := 0) d_T_areNew_27 (by decide) ?_
        refine Wp_reti (ty := .boolean) d_T_areNew_28 rfl rfl ?_
        exact ⟨Or.inr ⟨rfl, fun q => g24 (q i (by omega) tb)⟩, rfl⟩
set_option maxRecDepth 100000 in
set_option maxHeartbeats 4000000 in
theorem t_T_areNew (E : mE) (d : Nat) (hd : 0 ≤ d) (w : mw) (b : Nat) (hb : b < 1024) (M : Nat → Nat) (hM : ∀ i, i < 10 → b.testBit i = true → w 18 i = nI (M i) ∧ M i < 1024) : Tb E d m_T_areNew [vr 17, vi (nI b)] w (∀ i, i < 10 → b.testBit i = true → M i &&& b = 0) := by
  refine ⟨Nat.le_of_ble_eq_true rfl, ?_⟩
  show Wp E d m_T_areNew 0 [lr 17, li (nI b), lo] [] w _
  refine Wp_iconst (x := 0) d_T_areNew_0 (by decide) ?_
  refine Wp_istore_n (ls2 := [lr 17, li (nI b), li 0]) d_T_areNew_1 rfl rfl rfl ?_
  exact l_T_new E d (by omega) w b hb M hM 10 0 rfl (fun j hj => absurd hj (Nat.not_lt_zero _))
set_option maxRecDepth 100000 in
set_option maxHeartbeats 4000000 in
theorem l_T_cb (E : mE) (S : mw) (hV : VM S) : ∀ (n d : Nat) (w : mw) (x : Nat) (M : Nat → Nat) (L p t : Nat), popc x ≤ n → n + 3 ≤ d → x < 2 ^ pN S → CDb w S (2 ^ pN S) → (∀ x, x < 2 ^ pN S → w 15 x = enD (DC S x)) → (∀ i, i < pN S → w 18 i = nI (M i) ∧ M i < 1024) → w 17 3 = nI L → L ≤ 2147483647 → p ≤ 9200 * t → t + n ≤ 20 → Tv E d m_T_comeBack [vr 17, vi (nI x), vi (nI p), vi (nI t)] w (fun w1 => ∃ L1, w1 = mU w 17 3 (nI L1) ∧ L1 ≤ L ∧ (∀ l, isDay S l x → newD M l → L1 ≤ p + dcost S l) ∧ (L1 = L ∨ ∃ l, isDay S l x ∧ newD M l ∧ L1 = p + dcost S l)) := by
  intro n
  have hp10 := (pN_ok S).1
  have h1024 := two10 hp10
  induction n with
  | zero =>
    intro d w x M L p t hn hd hx hB h15 hM hL hL2 hp ht
    have hx0 : x = 0 := by
      apply Classical.byContradiction
      intro q
      have := popc_pos x (by omega) (by omega)
      omega
    subst hx0
    refine ⟨Nat.le_of_ble_eq_true rfl, ?_⟩
    show Wp E d m_T_comeBack 0 [lr 17, li 0, li (nI p), li (nI t), lo, lo, lo, lo, lo, lo] [] w _
    refine Wp_iload_n d_T_comeBack_0 rfl ?_
    refine Wp_bipush (x := 20) d_T_comeBack_1 (by decide) ?_
    refine Wp_icmp_le d_T_comeBack_3 (fun h3 => ?_) (fun q => absurd (n_nle (b := 20) q (by omega) (by omega)) (by omega))
    refine Wp_iload_n d_T_comeBack_7 rfl ?_
    refine Wp_if_ne d_T_comeBack_8 (fun q => absurd q (by decide)) (fun _ => ?_)
    refine Wp_aload_n d_T_comeBack_11 rfl ?_
    refine Wp_aload_n d_T_comeBack_12 rfl ?_
    refine Wp_getf d_T_comeBack_13 fd_T_34 rfl rfl rfl ?_
    refine Wp_eqi (x2 := nI L) hL ?_
    refine Wp_iload_n d_T_comeBack_16 rfl ?_
    refine Wp_min d_T_comeBack_17 ln_T_71 rfl (by omega) ?_
    refine Wp_eqi (x2 := nI (if p < L then p else L)) (nmn (by omega) (by omega)) ?_
    refine Wp_puti d_T_comeBack_20 fp_T_34 rfl rfl rfl ?_
    refine Wp_retv d_T_comeBack_23 rfl ?_
    refine ⟨_, rfl, by split <;> omega, fun l hl _ => ?_, ?_⟩
    · have hl0 : l = [] := by
        cases l with
        | nil => rfl
        | cons b m => obtain ⟨_, ⟨i, hi, _⟩, _⟩ := hl; have := low_pos hi; omega
      subst hl0
      show _ ≤ p + 0
      split <;> omega
    · by_cases q : p < L
      · rw [if_pos q]; exact Or.inr ⟨[], rfl, fun b hb => absurd hb List.not_mem_nil, rfl⟩
      · rw [if_neg q]; exact Or.inl rfl
  | succ n ihn =>
    intro d w x M L p t hn hd hx hB h15 hM hL hL2 hp ht
    refine ⟨Nat.le_of_ble_eq_true rfl, ?_⟩
    show Wp E d m_T_comeBack 0 [lr 17, li (nI x), li (nI p), li (nI t), lo, lo, lo, lo, lo, lo] [] w _
    by_cases hx0 : x = 0
    · subst hx0
      refine Wp_iload_n d_T_comeBack_0 rfl ?_
      refine Wp_bipush (x := 20) d_T_comeBack_1 (by decide) ?_
      refine Wp_icmp_le d_T_comeBack_3 (fun h3 => ?_) (fun q => absurd (n_nle (b := 20) q (by omega) (by omega)) (by omega))
      refine Wp_iload_n d_T_comeBack_7 rfl ?_
      refine Wp_if_ne d_T_comeBack_8 (fun q => absurd q (by decide)) (fun _ => ?_)
      refine Wp_aload_n d_T_comeBack_11 rfl ?_
      refine Wp_aload_n d_T_comeBack_12 rfl ?_
      refine Wp_getf d_T_comeBack_13 fd_T_34 rfl rfl rfl ?_
      refine Wp_eqi (x2 := nI L) hL ?_
      refine Wp_iload_n d_T_comeBack_16 rfl ?_
      refine Wp_min d_T_comeBack_17 ln_T_71 rfl (by omega) ?_
      refine Wp_eqi (x2 := nI (if p < L then p else L)) (nmn (by omega) (by omega)) ?_
      refine Wp_puti d_T_comeBack_20 fp_T_34 rfl rfl rfl ?_
      refine Wp_retv d_T_comeBack_23 rfl ?_
      refine ⟨_, rfl, by split <;> omega, fun l hl _ => ?_, ?_⟩
      · have hl0 : l = [] := by
          cases l with
          | nil => rfl
          | cons b m => obtain ⟨_, ⟨i, hi, _⟩, _⟩ := hl; have := low_pos hi; omega
        subst hl0
        show _ ≤ p + 0
        split <;> omega
      · by_cases q : p < L
        · rw [if_pos q]; exact Or.inr ⟨[], rfl, fun b hb => absurd hb List.not_mem_nil, rfl⟩
        · rw [if_neg q]; exact Or.inl rfl
    · have hl1 := lst_1 (s := x)
      have hlm : lst x + 1 ≤ 1024 := by rw [hl1]; exact two10 (popc_le _)
      have loop : ∀ (j k L2 : Nat) (u9 : Option mv), k + j = lst x + 1 → L2 ≤ L → (∀ i m, i < k → isDay S (sbs x i :: m) x → newD M (sbs x i :: m) → L2 ≤ p + dcost S (sbs x i :: m)) → (L2 = L ∨ ∃ l, isDay S l x ∧ newD M l ∧ L2 = p + dcost S l) → Wp E d m_T_comeBack 51 [lr 17, li (nI x), li (nI p), li (nI t), li (nI (lob x)), li (nI (rst x)), li (nI (2 ^ popc (rst x))), li (nI (prt (rst x) k)), li (nI k), u9] [] (mU w 17 3 (nI L2)) (mPv (fun w1 => ∃ L1, w1 = mU w 17 3 (nI L1) ∧ L1 ≤ L ∧ (∀ l, isDay S l x → newD M l → L1 ≤ p + dcost S l) ∧ (L1 = L ∨ ∃ l, isDay S l x ∧ newD M l ∧ L1 = p + dcost S l))) := by
        intro j
        induction j with
        | zero =>
          intro k L2 u9 hk hLL hA hO
          have hkk : k = lst x + 1 := by omega
          subst hkk
          refine Wp_iload d_T_comeBack_51 rfl ?_
          refine Wp_iload d_T_comeBack_53 rfl ?_
          refine Wp_icmp_ge d_T_comeBack_55 (fun h55 => ?_) (fun q => absurd (n_nle q (by omega) (by omega)) (by omega))
          refine Wp_retv d_T_comeBack_139 rfl ?_
          refine ⟨L2, rfl, hLL, fun l hl hw => ?_, hO⟩
          obtain ⟨i, m, hi, rfl⟩ := day_first (by omega) (by omega) hl
          exact hA i m (by omega) hl hw
        | succ j ih =>
          intro k L2 u9 hk hLL hA hO
          obtain ⟨g1, g2, g3, g4, g5, g6, g7⟩ := sbs_good (s := x) (k := k) (by omega) (by omega) (by omega)
          obtain ⟨hB1, hB2⟩ := hB (sbs x k) g4 (by omega)
          have hc := costS_le hV (b := sbs x k) (by omega) g4
          have hpb := popc_le (sbs x k)
          have hxl : x ^^^ sbs x k < 1024 := by rw [← g3]; omega
          have hpd : popc (ann x (sbs x k)) < popc x := popc_drop (by omega) g1 g4 g5
          have e13 : (mU w 17 3 (nI L2)) 13 = w 13 := mU_ne (by decide)
          have e14 : (mU w 17 3 (nI L2)) 14 = w 14 := mU_ne (by decide)
          have e15 : (mU w 17 3 (nI L2)) 15 = w 15 := mU_ne (by decide)
          have e18 : (mU w 17 3 (nI L2)) 18 = w 18 := mU_ne (by decide)
          refine Wp_iload d_T_comeBack_51 rfl ?_
          refine Wp_iload d_T_comeBack_53 rfl ?_
          refine Wp_icmp_ge d_T_comeBack_55 (fun q => absurd (n_le q (by omega) (by omega)) (by omega)) (fun h55 => ?_)
          refine Wp_iload d_T_comeBack_58 rfl ?_
          refine Wp_iload d_T_comeBack_60 rfl ?_
          refine Wp_ior d_T_comeBack_62 ?_
          refine Wp_eqi (x2 := nI (sbs x k)) (nI_or _ _) ?_
          refine Wp_istore (ls2 := [lr 17, li (nI x), li (nI p), li (nI t), li (nI (lob x)), li (nI (rst x)), li (nI (2 ^ popc (rst x))), li (nI (prt (rst x) k)), li (nI k), li (nI (sbs x k))]) d_T_comeBack_63 rfl rfl rfl ?_
          refine Wp_aload_n d_T_comeBack_65 rfl ?_
          refine Wp_getr d_T_comeBack_66 fd_T_15 rfl rfl rfl ?_
          refine Wp_iload d_T_comeBack_69 rfl ?_
          refine Wp_iload_n d_T_comeBack_71 rfl ?_
          refine Wp_ivv_b (o := 12) (As := [vi (nI (sbs x k)), vi (nI x)]) d_T_comeBack_72 ln_T_52 mk_D_mayGo rfl rfl rfl rfl rfl (by omega) (t_D_mayGo E (d - 1) (by omega) (mU w 17 3 (nI L2)) S hV (sbs x k) x g4 (by omega) (by omega) (by rw [e13]; exact hB1) (by rw [e14]; exact hB2)) (fun g72 => ?_) (fun g72 => ?_)
          ·
            refine Wp_if_eq d_T_comeBack_75 (fun q => absurd q (by decide)) (fun _ => ?_)
            refine Wp_aload_n d_T_comeBack_78 rfl ?_
            refine Wp_iload d_T_comeBack_79 rfl ?_
            refine Wp_ivv_b (o := 17) (As := [vi (nI (sbs x k))]) d_T_comeBack_81 ln_T_76 mk_T_areNew rfl rfl rfl rfl rfl (by omega) (t_T_areNew E (d - 1) (by omega) (mU w 17 3 (nI L2)) (sbs x k) (by omega) M (fun i _ tb => by rw [e18]; exact hM i (tbl (show sbs x k < 2 ^ pN S by omega) tb))) (fun g81 => ?_) (fun g81 => ?_)
            ·
              refine Wp_if_eq d_T_comeBack_84 (fun q => absurd q (by decide)) (fun _ => ?_)
              refine Wp_aload_n d_T_comeBack_87 rfl ?_
              refine Wp_iload_n d_T_comeBack_88 rfl ?_
              refine Wp_iload d_T_comeBack_89 rfl ?_
              refine Wp_iload_n d_T_comeBack_91 rfl ?_
              refine Wp_ivv_i (o := 17) (As := [vi (nI x), vi (nI (sbs x k)), vi (nI p)]) d_T_comeBack_92 ln_T_56 mk_T_atLeast rfl rfl rfl rfl rfl (by omega) (t_T_atLeast E (d - 1) (by omega) (mU w 17 3 (nI L2)) S hV x (sbs x k) p (by omega) g4 (by omega) g3.symm (by omega) (by rw [e13, hB1, if_pos g72.1]) (fun y hy => by rw [e15]; exact h15 y hy)) (fun r92 w92 c92 => ?_)
              obtain ⟨a1, a2⟩ := c92
              rw [a2]
              refine Wp_aload_n d_T_comeBack_95 rfl ?_
              refine Wp_getf d_T_comeBack_96 fd_T_34 rfl rfl rfl ?_
              refine Wp_eqi (x2 := nI L2) mU_at ?_
              refine Wp_icmp_ge d_T_comeBack_99 (fun h99 => ?_) (fun h99 => ?_)
              ·
                have g99 : (nI L2).toInt ≤ r92.toInt := i_le h99
                refine Wp_iload d_T_comeBack_124 rfl ?_
                refine Wp_iload d_T_comeBack_126 rfl ?_
                refine Wp_ivs_d (As := [vi (nI (prt (rst x) k)), vi (nI (rst x))]) d_T_comeBack_128 ln_T_67 mk_D_nextPart rfl rfl rfl (by omega) (t_D_nextPart E (d - 1) (by omega) (mU w 17 3 (nI L2)) x k (by omega) (by omega) (by omega)) ?_
                refine Wp_istore (ls2 := [lr 17, li (nI x), li (nI p), li (nI t), li (nI (lob x)), li (nI (rst x)), li (nI (2 ^ popc (rst x))), li (nI (prt (rst x) (k + 1))), li (nI k), li (nI (sbs x k))]) d_T_comeBack_131 rfl rfl rfl ?_
                refine Wp_iinc (z := nI (k + 1)) (ls2 := [lr 17, li (nI x), li (nI p), li (nI t), li (nI (lob x)), li (nI (rst x)), li (nI (2 ^ popc (rst x))), li (nI (prt (rst x) (k + 1))), li (nI (k + 1)), li (nI (sbs x k))]) d_T_comeBack_133 rfl (nI_add k 1) rfl rfl rfl ?_
                refine Wp_goto d_T_comeBack_136 ?_
                refine ih (k + 1) L2 (li (nI (sbs x k))) (by omega) ?_ (fun i m hi hd hw => ?_) ?_
                · exact hLL
                · by_cases e : i = k
                  · subst e
                    first
                    | exact absurd hd.2.2.1 g72
                    | exact absurd (newD_cons.mp hw).1 g81
                    | (have hm := hd.2.2.2
                       have hdc := day_DC hV m (ann x (sbs x i)) (by omega) hm
                       rw [if_neg hdc.1] at a1
                       rw [a1, ti (by omega)] at g99
                       show L2 ≤ p + (costS S (sbs x i) + dcost S m)
                       omega)
                  · exact hA i m (by omega) hd hw
                · exact hO
              ·
                have g99 : r92.toInt < (nI L2).toInt := i_nle h99
                refine Wp_aload_n d_T_comeBack_102 rfl ?_
                refine Wp_iload_n d_T_comeBack_103 rfl ?_
                refine Wp_iload d_T_comeBack_104 rfl ?_
                refine Wp_ixor d_T_comeBack_106 ?_
                refine Wp_eqi (x2 := nI (ann x (sbs x k))) (by rw [nI_xor, g3]) ?_
                refine Wp_iload_n d_T_comeBack_107 rfl ?_
                refine Wp_aload_n d_T_comeBack_108 rfl ?_
                refine Wp_getr d_T_comeBack_109 fd_T_15 rfl rfl rfl ?_
                refine Wp_iload d_T_comeBack_112 rfl ?_
                refine Wp_ivv_d (o := 12) (As := [vi (nI (sbs x k))]) d_T_comeBack_114 ln_T_64 mk_D_priceAt rfl rfl rfl rfl rfl (by omega) (by have h := t_D_priceAt E (d - 1) (by omega) (mU w 17 3 (nI L2)) (sbs x k) (by omega); rw [e13, hB1, if_pos g72.1] at h; exact h) ?_
                refine Wp_iadd d_T_comeBack_117 ?_
                refine Wp_eqi (x2 := nI (p + (costS S (sbs x k)))) (nI_add p (costS S (sbs x k))) ?_
                refine Wp_iload_n d_T_comeBack_118 rfl ?_
                refine Wp_iconst (x := 1) d_T_comeBack_119 (by decide) ?_
                refine Wp_iadd d_T_comeBack_120 ?_
                refine Wp_eqi (x2 := nI (t + 1)) (nI_add t 1) ?_
                refine Wp_ivs_v (As := [vr 17, vi (nI (ann x (sbs x k))), vi (nI (p + (costS S (sbs x k)))), vi (nI (t + 1))]) d_T_comeBack_121 ln_T_41 mk_T_comeBack rfl rfl rfl (by omega) (ihn (d - 1) (mU w 17 3 (nI L2)) (ann x (sbs x k)) M L2 (p + costS S (sbs x k)) (t + 1) (by omega) (by omega) (by omega) (fun b h1 h2 => by rw [e13, e14]; exact hB b h1 h2) (fun y hy => by rw [e15]; exact h15 y hy) (fun i hi => by rw [e18]; exact hM i hi) mU_at (by omega) (by omega) (by omega)) (fun w121 c121 => ?_)
                obtain ⟨L3, w3, b1, b2, b3⟩ := c121
                rw [mU_mU] at w3
                rw [w3]
                refine Wp_iload d_T_comeBack_124 rfl ?_
                refine Wp_iload d_T_comeBack_126 rfl ?_
                refine Wp_ivs_d (As := [vi (nI (prt (rst x) k)), vi (nI (rst x))]) d_T_comeBack_128 ln_T_67 mk_D_nextPart rfl rfl rfl (by omega) (t_D_nextPart E (d - 1) (by omega) (mU w 17 3 (nI L3)) x k (by omega) (by omega) (by omega)) ?_
                refine Wp_istore (ls2 := [lr 17, li (nI x), li (nI p), li (nI t), li (nI (lob x)), li (nI (rst x)), li (nI (2 ^ popc (rst x))), li (nI (prt (rst x) (k + 1))), li (nI k), li (nI (sbs x k))]) d_T_comeBack_131 rfl rfl rfl ?_
                refine Wp_iinc (z := nI (k + 1)) (ls2 := [lr 17, li (nI x), li (nI p), li (nI t), li (nI (lob x)), li (nI (rst x)), li (nI (2 ^ popc (rst x))), li (nI (prt (rst x) (k + 1))), li (nI (k + 1)), li (nI (sbs x k))]) d_T_comeBack_133 rfl (nI_add k 1) rfl rfl rfl ?_
                refine Wp_goto d_T_comeBack_136 ?_
                refine ih (k + 1) L3 (li (nI (sbs x k))) (by omega) ?_ (fun i m hi hd hw => ?_) ?_
                · omega
                · by_cases e : i = k
                  · subst e
                    have hm := hd.2.2.2
                    have := b2 m hm (newD_cons.mp hw).2
                    show L3 ≤ p + (costS S (sbs x i) + dcost S m)
                    omega
                  · have := hA i m (by omega) hd hw
                    omega
                · rcases b3 with b3 | ⟨m, m1, m2, m3⟩
                  · rw [b3]; exact hO
                  · exact Or.inr ⟨sbs x k :: m, day_cons (by omega) (by omega) (by omega) g72 m1, newD_cons.mpr ⟨g81, m2⟩, by rw [m3]; show _ = p + (costS S (sbs x k) + dcost S m); omega⟩
            ·
              refine Wp_if_eq d_T_comeBack_84 (fun _ => ?_) (fun q => absurd (by decide) q)
              refine Wp_iload d_T_comeBack_124 rfl ?_
              refine Wp_iload d_T_comeBack_126 rfl ?_
              refine Wp_ivs_d (As := [vi (nI (prt (rst x) k)), vi (nI (rst x))]) d_T_comeBack_128 ln_T_67 mk_D_nextPart rfl rfl rfl (by omega) (t_D_nextPart E (d - 1) (by omega) (mU w 17 3 (nI L2)) x k (by omega) (by omega) (by omega)) ?_
              refine Wp_istore (ls2 := [lr 17, li (nI x), li (nI p), li (nI t), li (nI (lob x)), li (nI (rst x)), li (nI (2 ^ popc (rst x))), li (nI (prt (rst x) (k + 1))), li (nI k), li (nI (sbs x k))]) d_T_comeBack_131 rfl rfl rfl ?_
              refine Wp_iinc (z := nI (k + 1)) (ls2 := [lr 17, li (nI x), li (nI p), li (nI t), li (nI (lob x)), li (nI (rst x)), li (nI (2 ^ popc (rst x))), li (nI (prt (rst x) (k + 1))), li (nI (k + 1)), li (nI (sbs x k))]) d_T_comeBack_133 rfl (nI_add k 1) rfl rfl rfl ?_
              refine Wp_goto d_T_comeBack_136 ?_
              refine ih (k + 1) L2 (li (nI (sbs x k))) (by omega) ?_ (fun i m hi hd hw => ?_) ?_
              · exact hLL
              · by_cases e : i = k
                · subst e
                  first
                  | exact absurd hd.2.2.1 g72
                  | exact absurd (newD_cons.mp hw).1 g81
                  | (have hm := hd.2.2.2
                     have hdc := day_DC hV m (ann x (sbs x i)) (by omega) hm
                     rw [if_neg hdc.1] at a1
                     rw [a1, ti (by omega)] at g99
                     show L2 ≤ p + (costS S (sbs x i) + dcost S m)
                     omega)
                · exact hA i m (by omega) hd hw
              · exact hO
          ·
            refine Wp_if_eq d_T_comeBack_75 (fun _ => ?_) (fun q => absurd (by decide) q)
            refine Wp_iload d_T_comeBack_124 rfl ?_
            refine Wp_iload d_T_comeBack_126 rfl ?_
            refine Wp_ivs_d (As := [vi (nI (prt (rst x) k)), vi (nI (rst x))]) d_T_comeBack_128 ln_T_67 mk_D_nextPart rfl rfl rfl (by omega) (t_D_nextPart E (d - 1) (by omega) (mU w 17 3 (nI L2)) x k (by omega) (by omega) (by omega)) ?_
            refine Wp_istore (ls2 := [lr 17, li (nI x), li (nI p), li (nI t), li (nI (lob x)), li (nI (rst x)), li (nI (2 ^ popc (rst x))), li (nI (prt (rst x) (k + 1))), li (nI k), li (nI (sbs x k))]) d_T_comeBack_131 rfl rfl rfl ?_
            refine Wp_iinc (z := nI (k + 1)) (ls2 := [lr 17, li (nI x), li (nI p), li (nI t), li (nI (lob x)), li (nI (rst x)), li (nI (2 ^ popc (rst x))), li (nI (prt (rst x) (k + 1))), li (nI (k + 1)), li (nI (sbs x k))]) d_T_comeBack_133 rfl (nI_add k 1) rfl rfl rfl ?_
            refine Wp_goto d_T_comeBack_136 ?_
            refine ih (k + 1) L2 (li (nI (sbs x k))) (by omega) ?_ (fun i m hi hd hw => ?_) ?_
            · exact hLL
            · by_cases e : i = k
              · subst e
                first
                | exact absurd hd.2.2.1 g72
                | exact absurd (newD_cons.mp hw).1 g81
                | (have hm := hd.2.2.2
                   have hdc := day_DC hV m (ann x (sbs x i)) (by omega) hm
                   rw [if_neg hdc.1] at a1
                   rw [a1, ti (by omega)] at g99
                   show L2 ≤ p + (costS S (sbs x i) + dcost S m)
                   omega)
              · exact hA i m (by omega) hd hw
            · exact hO
      have hpr := popc_le (rst x)
      have hrx := (xor_lob x (by omega) (by omega)).2.2.2.1
      refine Wp_iload_n d_T_comeBack_0 rfl ?_
      refine Wp_bipush (x := 20) d_T_comeBack_1 (by decide) ?_
      refine Wp_icmp_le d_T_comeBack_3 (fun h3 => ?_) (fun q => absurd (n_nle (b := 20) q (by omega) (by omega)) (by omega))
      refine Wp_iload_n d_T_comeBack_7 rfl ?_
      refine Wp_if_ne d_T_comeBack_8 (fun h8 => ?_) (fun q => (hx0 (n_eq (b := 0) q (by omega) (by omega))).elim)
      refine Wp_iload_n d_T_comeBack_24 rfl ?_
      refine Wp_ivs_d (As := [vi (nI x)]) d_T_comeBack_25 ln_T_44 mk_D_lowestBit rfl rfl rfl (by omega) (t_D_lowestBit E (d - 1) (by omega) w x (by omega) (by omega)) ?_
      refine Wp_istore (ls2 := [lr 17, li (nI x), li (nI p), li (nI t), li (nI (lob x)), lo, lo, lo, lo, lo]) d_T_comeBack_28 rfl rfl rfl ?_
      refine Wp_iload_n d_T_comeBack_30 rfl ?_
      refine Wp_iload d_T_comeBack_31 rfl ?_
      refine Wp_ixor d_T_comeBack_33 ?_
      refine Wp_eqi (x2 := nI (rst x)) (by rw [nI_xor, (xor_lob x (by omega) (by omega)).1]) ?_
      refine Wp_istore (ls2 := [lr 17, li (nI x), li (nI p), li (nI t), li (nI (lob x)), li (nI (rst x)), lo, lo, lo, lo]) d_T_comeBack_34 rfl rfl rfl ?_
      refine Wp_iconst (x := 1) d_T_comeBack_36 (by decide) ?_
      refine Wp_iload d_T_comeBack_37 rfl ?_
      refine Wp_ivs_d (As := [vi (nI (rst x))]) d_T_comeBack_39 ln_T_47 mk_J_bitCount rfl rfl rfl (by omega) (t_J_bitCount E (d - 1) (by omega) w (rst x) (by omega)) ?_
      refine Wp_ishl d_T_comeBack_42 ?_
      refine Wp_eqi (x2 := nI (2 ^ (popc (rst x)))) (sh1 (by omega)) ?_
      refine Wp_istore (ls2 := [lr 17, li (nI x), li (nI p), li (nI t), li (nI (lob x)), li (nI (rst x)), li (nI (2 ^ (popc (rst x)))), lo, lo, lo]) d_T_comeBack_43 rfl rfl rfl ?_
      refine Wp_iconst (x := 0) d_T_comeBack_45 (by decide) ?_
      refine Wp_istore (ls2 := [lr 17, li (nI x), li (nI p), li (nI t), li (nI (lob x)), li (nI (rst x)), li (nI (2 ^ (popc (rst x)))), li 0, lo, lo]) d_T_comeBack_46 rfl rfl rfl ?_
      refine Wp_iconst (x := 0) d_T_comeBack_48 (by decide) ?_
      refine Wp_istore (ls2 := [lr 17, li (nI x), li (nI p), li (nI t), li (nI (lob x)), li (nI (rst x)), li (nI (2 ^ (popc (rst x)))), li 0, li 0, lo]) d_T_comeBack_49 rfl rfl rfl ?_
      have h9 := loop (lst x + 1) 0 L none (Nat.zero_add _) (Nat.le_refl _) (fun i m hi => absurd hi (Nat.not_lt_zero _)) (Or.inl rfl)
      rw [← hL, mU_same rfl] at h9
      exact h9
