set_option maxRecDepth 100000 in
set_option maxHeartbeats 4000000 in
theorem l_T_go (E : mE) (S : mw) (hV : VM S) (h8 : pN S ≤ 8) : ∀ (n d : Nat) (w : mw) (x : Nat) (M : Nat → Nat) (L t : Nat) (D : List Nat), popc x ≤ n → n + 13 ≤ d → x < 2 ^ pN S → CDb w S (2 ^ pN S) → (∀ x, x < 2 ^ pN S → w 15 x = enD (DC S x)) → (∀ i, i < pN S → x.testBit i = false → w 18 i = nI (M i) ∧ M i < 1024) → w 17 2 = nI (wh S) → w 17 3 = nI L → L ≤ 2147483647 → dcost S D ≤ 9200 * t → t + n ≤ 8 → onWay S D x M → Tv E d m_T_goThere [vr 17, vi (nI x), vi (nI (dcost S D)), vi (nI t)] w (fun w1 => ∃ L1 : Nat, fr [17, 18] w w1 ∧ w1 17 2 = nI (wh S) ∧ w1 17 3 = nI L1 ∧ (∀ i, i < pN S → x.testBit i = false → w1 18 i = w 18 i) ∧ L1 ≤ L ∧ (∀ l k, sumP S D x l k → dcost S (D ++ l) ≤ dcost S k → L1 ≤ dcost S (D ++ l) + dcost S k) ∧ (L1 = L ∨ ∃ l k, sumP S D x l k ∧ L1 = dcost S (D ++ l) + dcost S k)) := by
  intro n
  have hp10 := (pN_ok S).1
  have h1024 := two10 hp10
  have hwl := wh_lt S
  have hpw := popc_le' hwl (show pN S ≤ 10 by omega)
  induction n with
  | zero =>
    intro d w x M L t D hn hd hx hB h15 hM hA hL hL2 hp ht hW
    have hx0 : x = 0 := by
      apply Classical.byContradiction
      intro q
      have := popc_pos x (by omega) (by omega)
      omega
    subst hx0
    refine ⟨Nat.le_of_ble_eq_true rfl, ?_⟩
    show Wp E d m_T_goThere 0 [lr 17, li 0, li (nI (dcost S D)), li (nI t), lo, lo, lo, lo, lo, lo] [] w _
    refine Wp_iload_n d_T_goThere_0 rfl ?_
    refine Wp_bipush (x := 20) d_T_goThere_1 (by decide) ?_
    refine Wp_icmp_le d_T_goThere_3 (fun h3 => ?_) (fun q => absurd (n_nle (b := 20) q (by omega) (by omega)) (by omega))
    refine Wp_iload_n d_T_goThere_7 rfl ?_
    refine Wp_if_ne d_T_goThere_8 (fun q => absurd q (by decide)) (fun _ => ?_)
    refine Wp_aload_n d_T_goThere_11 rfl ?_
    refine Wp_aload_n d_T_goThere_12 rfl ?_
    refine Wp_getf d_T_goThere_13 fd_T_29 rfl rfl rfl ?_
    refine Wp_eqi (x2 := nI (wh S)) hA ?_
    refine Wp_iload_n d_T_goThere_16 rfl ?_
    refine Wp_iload_n d_T_goThere_17 rfl ?_
    refine Wp_iconst (x := 1) d_T_goThere_18 (by decide) ?_
    refine Wp_iadd d_T_goThere_19 ?_
    refine Wp_eqi (x2 := nI (t + 1)) (nI_add t 1) ?_
    refine Wp_ivs_v (As := [vr 17, vi (nI (wh S)), vi (nI (dcost S D)), vi (nI (t + 1))]) d_T_goThere_20 ln_T_41 mk_T_comeBack rfl rfl rfl (by omega) (l_T_cb E S hV 8 (d - 1) w (wh S) M L (dcost S D) (t + 1) (by omega) (by omega) hwl hB h15 (fun i hi => hM i hi (Nat.zero_testBit i)) hL hL2 (by omega) (by omega)) (fun w20 c20 => ?_)
    obtain ⟨L1, w3, b1, b2, b3⟩ := c20
    rw [w3]
    refine Wp_retv d_T_goThere_23 rfl ?_
    have hD : isDay S D (wh S) := by have := hW.1 [] rfl; rwa [List.append_nil] at this
    refine ⟨L1, fr_U (by decide), by rw [mU_at_ne (by decide)]; exact hA, mU_at, fun i _ _ => by rw [mU_ne (by decide)], b1, fun l k hs _ => ?_, ?_⟩
    · have e := nil_day hs.1
      subst e
      obtain ⟨_, hk, hc⟩ := hs
      rw [List.append_nil] at hc ⊢
      exact b2 k hk ((newD_compat hD hW.2.1 hk).mpr hc)
    · rcases b3 with b3 | ⟨k, k1, k2, k3⟩
      · exact Or.inl b3
      · refine Or.inr ⟨[], k, ⟨rfl, k1, ?_⟩, ?_⟩
        · rw [List.append_nil]; exact (newD_compat hD hW.2.1 k1).mp k2
        · rw [List.append_nil]; exact k3
  | succ n ihn =>
    intro d w x M L t D hn hd hx hB h15 hM hA hL hL2 hp ht hW
    refine ⟨Nat.le_of_ble_eq_true rfl, ?_⟩
    show Wp E d m_T_goThere 0 [lr 17, li (nI x), li (nI (dcost S D)), li (nI t), lo, lo, lo, lo, lo, lo] [] w _
    by_cases hx0 : x = 0
    · subst hx0
      refine Wp_iload_n d_T_goThere_0 rfl ?_
      refine Wp_bipush (x := 20) d_T_goThere_1 (by decide) ?_
      refine Wp_icmp_le d_T_goThere_3 (fun h3 => ?_) (fun q => absurd (n_nle (b := 20) q (by omega) (by omega)) (by omega))
      refine Wp_iload_n d_T_goThere_7 rfl ?_
      refine Wp_if_ne d_T_goThere_8 (fun q => absurd q (by decide)) (fun _ => ?_)
      refine Wp_aload_n d_T_goThere_11 rfl ?_
      refine Wp_aload_n d_T_goThere_12 rfl ?_
      refine Wp_getf d_T_goThere_13 fd_T_29 rfl rfl rfl ?_
      refine Wp_eqi (x2 := nI (wh S)) hA ?_
      refine Wp_iload_n d_T_goThere_16 rfl ?_
      refine Wp_iload_n d_T_goThere_17 rfl ?_
      refine Wp_iconst (x := 1) d_T_goThere_18 (by decide) ?_
      refine Wp_iadd d_T_goThere_19 ?_
      refine Wp_eqi (x2 := nI (t + 1)) (nI_add t 1) ?_
      refine Wp_ivs_v (As := [vr 17, vi (nI (wh S)), vi (nI (dcost S D)), vi (nI (t + 1))]) d_T_goThere_20 ln_T_41 mk_T_comeBack rfl rfl rfl (by omega) (l_T_cb E S hV 8 (d - 1) w (wh S) M L (dcost S D) (t + 1) (by omega) (by omega) hwl hB h15 (fun i hi => hM i hi (Nat.zero_testBit i)) hL hL2 (by omega) (by omega)) (fun w20 c20 => ?_)
      obtain ⟨L1, w3, b1, b2, b3⟩ := c20
      rw [w3]
      refine Wp_retv d_T_goThere_23 rfl ?_
      have hD : isDay S D (wh S) := by have := hW.1 [] rfl; rwa [List.append_nil] at this
      refine ⟨L1, fr_U (by decide), by rw [mU_at_ne (by decide)]; exact hA, mU_at, fun i _ _ => by rw [mU_ne (by decide)], b1, fun l k hs _ => ?_, ?_⟩
      · have e := nil_day hs.1
        subst e
        obtain ⟨_, hk, hc⟩ := hs
        rw [List.append_nil] at hc ⊢
        exact b2 k hk ((newD_compat hD hW.2.1 hk).mpr hc)
      · rcases b3 with b3 | ⟨k, k1, k2, k3⟩
        · exact Or.inl b3
        · refine Or.inr ⟨[], k, ⟨rfl, k1, ?_⟩, ?_⟩
          · rw [List.append_nil]; exact (newD_compat hD hW.2.1 k1).mp k2
          · rw [List.append_nil]; exact k3
    · have hl1 := lst_1 (s := x)
      have hlm : lst x + 1 ≤ 1024 := by rw [hl1]; exact two10 (popc_le _)
      have loop : ∀ (j k L2 : Nat) (v : mw) (u9 : Option mv), k + j = lst x + 1 → fr [17, 18] w v → v 17 2 = nI (wh S) → v 17 3 = nI L2 → (∀ i, i < pN S → x.testBit i = false → v 18 i = w 18 i) → L2 ≤ L → (∀ i m q, i < k → sumP S D x (sbs x i :: m) q → dcost S (D ++ sbs x i :: m) ≤ dcost S q → L2 ≤ dcost S (D ++ sbs x i :: m) + dcost S q) → (L2 = L ∨ ∃ l k, sumP S D x l k ∧ L2 = dcost S (D ++ l) + dcost S k) → Wp E d m_T_goThere 51 [lr 17, li (nI x), li (nI (dcost S D)), li (nI t), li (nI (lob x)), li (nI (rst x)), li (nI (2 ^ popc (rst x))), li (nI (prt (rst x) k)), li (nI k), u9] [] v (mPv (fun w1 => ∃ L1 : Nat, fr [17, 18] w w1 ∧ w1 17 2 = nI (wh S) ∧ w1 17 3 = nI L1 ∧ (∀ i, i < pN S → x.testBit i = false → w1 18 i = w 18 i) ∧ L1 ≤ L ∧ (∀ l k, sumP S D x l k → dcost S (D ++ l) ≤ dcost S k → L1 ≤ dcost S (D ++ l) + dcost S k) ∧ (L1 = L ∨ ∃ l k, sumP S D x l k ∧ L1 = dcost S (D ++ l) + dcost S k))) := by
        intro j
        induction j with
        | zero =>
          intro k L2 v u9 hk hf hA2 hL3 hK hLL hAl hO
          have hkk : k = lst x + 1 := by omega
          subst hkk
          refine Wp_iload d_T_goThere_51 rfl ?_
          refine Wp_iload d_T_goThere_53 rfl ?_
          refine Wp_icmp_ge d_T_goThere_55 (fun h55 => ?_) (fun q => absurd (n_nle q (by omega) (by omega)) (by omega))
          refine Wp_retv d_T_goThere_138 rfl ?_
          refine ⟨L2, hf, hA2, hL3, hK, hLL, fun l q hs hle => ?_, hO⟩
          obtain ⟨i, m, hi, rfl⟩ := day_first (by omega) (by omega) hs.1
          exact hAl i m q (by omega) hs hle
        | succ j ih =>
          intro k L2 v u9 hk hf hA2 hL3 hK hLL hAl hO
          obtain ⟨g1, g2, g3, g4, g5, g6, g7⟩ := sbs_good (s := x) (k := k) (by omega) (by omega) (by omega)
          obtain ⟨hB1, hB2⟩ := hB (sbs x k) g4 (by omega)
          have hc := costS_le hV (b := sbs x k) (by omega) g4
          have hpb := popc_le (sbs x k)
          have hxl : x ^^^ sbs x k < 1024 := by rw [← g3]; omega
          have hpd : popc (ann x (sbs x k)) < popc x := popc_drop (by omega) g1 g4 g5
          have e13 : v 13 = w 13 := hf 13 (by decide)
          have e14 : v 14 = w 14 := hf 14 (by decide)
          have e15 : v 15 = w 15 := hf 15 (by decide)
          refine Wp_iload d_T_goThere_51 rfl ?_
          refine Wp_iload d_T_goThere_53 rfl ?_
          refine Wp_icmp_ge d_T_goThere_55 (fun q => absurd (n_le q (by omega) (by omega)) (by omega)) (fun h55 => ?_)
          refine Wp_iload d_T_goThere_58 rfl ?_
          refine Wp_iload d_T_goThere_60 rfl ?_
          refine Wp_ior d_T_goThere_62 ?_
          refine Wp_eqi (x2 := nI (sbs x k)) (nI_or _ _) ?_
          refine Wp_istore (ls2 := [lr 17, li (nI x), li (nI (dcost S D)), li (nI t), li (nI (lob x)), li (nI (rst x)), li (nI (2 ^ popc (rst x))), li (nI (prt (rst x) k)), li (nI k), li (nI (sbs x k))]) d_T_goThere_63 rfl rfl rfl ?_
          refine Wp_aload_n d_T_goThere_65 rfl ?_
          refine Wp_getr d_T_goThere_66 fd_T_15 rfl rfl rfl ?_
          refine Wp_iload d_T_goThere_69 rfl ?_
          refine Wp_iload_n d_T_goThere_71 rfl ?_
          refine Wp_ivv_b (o := 12) (As := [vi (nI (sbs x k)), vi (nI x)]) d_T_goThere_72 ln_T_52 mk_D_mayGo rfl rfl rfl rfl rfl (by omega) (t_D_mayGo E (d - 1) (by omega) v S hV (sbs x k) x g4 (by omega) (by omega) (by rw [e13]; exact hB1) (by rw [e14]; exact hB2)) (fun g72 => ?_) (fun g72 => ?_)
          ·
            refine Wp_if_eq d_T_goThere_75 (fun q => absurd q (by decide)) (fun _ => ?_)
            refine Wp_iconst (x := 2) d_T_goThere_78 (by decide) ?_
            refine Wp_aload_n d_T_goThere_79 rfl ?_
            refine Wp_iload_n d_T_goThere_80 rfl ?_
            refine Wp_iload d_T_goThere_81 rfl ?_
            refine Wp_iload_n d_T_goThere_83 rfl ?_
            refine Wp_ivv_i (o := 17) (As := [vi (nI x), vi (nI (sbs x k)), vi (nI (dcost S D))]) d_T_goThere_84 ln_T_56 mk_T_atLeast rfl rfl rfl rfl rfl (by omega) (t_T_atLeast E (d - 1) (by omega) v S hV x (sbs x k) (dcost S D) (by omega) g4 (by omega) g3.symm (by omega) (by rw [e13, hB1, if_pos g72.1]) (fun y hy => by rw [e15]; exact h15 y hy)) (fun r84 w84 c84 => ?_)
            obtain ⟨a1, a2⟩ := c84
            rw [a2]
            have a3 : -1000000 ≤ r84.toInt ∧ r84.toInt ≤ 1000000 := by
              rw [a1]
              by_cases hq : (DC S (ann x (sbs x k))).2.2.2 = 0
              · rw [if_pos hq]; omega
              · rw [if_neg hq]
                have hd := (enc_lt (DC_okk (S := S) hV (show ann x (sbs x k) < 2 ^ pN S by omega)) hq).1
                omega
            refine Wp_imul d_T_goThere_87 ?_
            refine Wp_aload_n d_T_goThere_88 rfl ?_
            refine Wp_getf d_T_goThere_89 fd_T_34 rfl rfl rfl ?_
            refine Wp_eqi (x2 := nI L2) hL3 ?_
            refine Wp_icmp_ge d_T_goThere_92 (fun h92 => ?_) (fun h92 => ?_)
            ·
              have g92 : (nI L2).toInt ≤ (2 * r84).toInt := i_le h92
              refine Wp_iload d_T_goThere_123 rfl ?_
              refine Wp_iload d_T_goThere_125 rfl ?_
              refine Wp_ivs_d (As := [vi (nI (prt (rst x) k)), vi (nI (rst x))]) d_T_goThere_127 ln_T_67 mk_D_nextPart rfl rfl rfl (by omega) (t_D_nextPart E (d - 1) (by omega) v x k (by omega) (by omega) (by omega)) ?_
              refine Wp_istore (ls2 := [lr 17, li (nI x), li (nI (dcost S D)), li (nI t), li (nI (lob x)), li (nI (rst x)), li (nI (2 ^ popc (rst x))), li (nI (prt (rst x) (k + 1))), li (nI k), li (nI (sbs x k))]) d_T_goThere_130 rfl rfl rfl ?_
              refine Wp_iinc (z := nI (k + 1)) (ls2 := [lr 17, li (nI x), li (nI (dcost S D)), li (nI t), li (nI (lob x)), li (nI (rst x)), li (nI (2 ^ popc (rst x))), li (nI (prt (rst x) (k + 1))), li (nI (k + 1)), li (nI (sbs x k))]) d_T_goThere_132 rfl (nI_add k 1) rfl rfl rfl ?_
              refine Wp_goto d_T_goThere_135 ?_
              refine ih (k + 1) L2 v (li (nI (sbs x k))) (by omega) hf hA2 hL3 hK hLL (fun i m q hi hs hle => ?_) hO
              by_cases e : i = k
              · subst e
                first
                | exact absurd hs.1.2.2.1 g72
                | (have hm := hs.1.2.2.2
                   have hdc := day_DC hV m (ann x (sbs x i)) (by omega) hm
                   rw [if_neg hdc.1] at a1
                   rw [i_mul2 a3.1 a3.2, a1, ti (by omega)] at g92
                   rw [dcost_app] at hle ⊢
                   have e2 : dcost S (sbs x i :: m) = costS S (sbs x i) + dcost S m := rfl
                   omega)
              · exact hAl i m q (by omega) hs hle
            ·
              have g92 : (2 * r84).toInt < (nI L2).toInt := i_nle h92
              refine Wp_aload_n d_T_goThere_95 rfl ?_
              refine Wp_iload d_T_goThere_96 rfl ?_
              refine Wp_ivv_dv (o := 17) (As := [vi (nI (sbs x k))]) d_T_goThere_98 ln_T_60 mk_T_meet rfl rfl rfl rfl rfl (by omega) (t_T_meet E (d - 1) (by omega) v (sbs x k) (by omega)) ?_
              refine Wp_aload_n d_T_goThere_101 rfl ?_
              refine Wp_iload_n d_T_goThere_102 rfl ?_
              refine Wp_iload d_T_goThere_103 rfl ?_
              refine Wp_ixor d_T_goThere_105 ?_
              refine Wp_eqi (x2 := nI (ann x (sbs x k))) (by rw [nI_xor, g3]) ?_
              refine Wp_iload_n d_T_goThere_106 rfl ?_
              refine Wp_aload_n d_T_goThere_107 rfl ?_
              refine Wp_getr d_T_goThere_108 fd_T_15 rfl rfl rfl ?_
              refine Wp_iload d_T_goThere_111 rfl ?_
              refine Wp_ivv_d (o := 12) (As := [vi (nI (sbs x k))]) d_T_goThere_113 ln_T_64 mk_D_priceAt rfl rfl rfl rfl rfl (by omega) (by have h := t_D_priceAt E (d - 1) (by omega) (metW v (sbs x k) 10) (sbs x k) (by omega); rw [show (metW v (sbs x k) 10) 13 = w 13 from (mUr_ne (by decide)).trans e13, hB1, if_pos g72.1] at h; exact h) ?_
              refine Wp_iadd d_T_goThere_116 ?_
              refine Wp_eqi (x2 := nI ((dcost S D) + (costS S (sbs x k)))) (nI_add (dcost S D) (costS S (sbs x k))) ?_
              refine Wp_iload_n d_T_goThere_117 rfl ?_
              refine Wp_iconst (x := 1) d_T_goThere_118 (by decide) ?_
              refine Wp_iadd d_T_goThere_119 ?_
              refine Wp_eqi (x2 := nI (t + 1)) (nI_add t 1) ?_
              refine Wp_ivs_v (As := [vr 17, vi (nI (ann x (sbs x k))), vi (nI ((dcost S D) + (costS S (sbs x k)))), vi (nI (t + 1))]) d_T_goThere_120 ln_T_37 mk_T_goThere rfl rfl rfl (by omega) (by have h := ihn (d - 1) (metW v (sbs x k) 10) (ann x (sbs x k)) (metM M (sbs x k)) L2 (t + 1) (D ++ [sbs x k]) (by omega) (by omega) (by omega) (fun b h1 h2 => by rw [show (metW v (sbs x k) 10) 13 = w 13 from (mUr_ne (by decide)).trans e13, show (metW v (sbs x k) 10) 14 = w 14 from (mUr_ne (by decide)).trans e14]; exact hB b h1 h2) (fun y hy => by rw [show (metW v (sbs x k) 10) 15 = w 15 from (mUr_ne (by decide)).trans e15]; exact h15 y hy) (met_18 hp10 (by omega) hM hK) (by rw [show (metW v (sbs x k) 10) 17 = v 17 from mUr_ne (by decide)]; exact hA2) (by rw [show (metW v (sbs x k) 10) 17 = v 17 from mUr_ne (by decide)]; exact hL3) (by omega) (by rw [dcost_1]; omega) (by omega) (onWay_s (by omega) (by omega) (by omega) hW g72); rw [dcost_1] at h; exact h) (fun w120 c120 => ?_)
              obtain ⟨L4, f4, A4, L5, m4, b1, b2, b3⟩ := c120
              refine Wp_iload d_T_goThere_123 rfl ?_
              refine Wp_iload d_T_goThere_125 rfl ?_
              refine Wp_ivs_d (As := [vi (nI (prt (rst x) k)), vi (nI (rst x))]) d_T_goThere_127 ln_T_67 mk_D_nextPart rfl rfl rfl (by omega) (t_D_nextPart E (d - 1) (by omega) w120 x k (by omega) (by omega) (by omega)) ?_
              refine Wp_istore (ls2 := [lr 17, li (nI x), li (nI (dcost S D)), li (nI t), li (nI (lob x)), li (nI (rst x)), li (nI (2 ^ popc (rst x))), li (nI (prt (rst x) (k + 1))), li (nI k), li (nI (sbs x k))]) d_T_goThere_130 rfl rfl rfl ?_
              refine Wp_iinc (z := nI (k + 1)) (ls2 := [lr 17, li (nI x), li (nI (dcost S D)), li (nI t), li (nI (lob x)), li (nI (rst x)), li (nI (2 ^ popc (rst x))), li (nI (prt (rst x) (k + 1))), li (nI (k + 1)), li (nI (sbs x k))]) d_T_goThere_132 rfl (nI_add k 1) rfl rfl rfl ?_
              refine Wp_goto d_T_goThere_135 ?_
              have f5 : fr [17, 18] w w120 := fr_tr hf (fr_tr (fr_Ur (by decide)) f4)
              refine ih (k + 1) L4 w120 (li (nI (sbs x k))) (by omega) f5 A4 L5 (fun i hi hxi => ?_) (by omega) (fun i m q hi hs hle => ?_) ?_
              · have hbi : (sbs x k).testBit i = false := by
                  cases z : (sbs x k).testBit i
                  · rfl
                  · rw [sub_tb g1 z] at hxi; exact absurd hxi (by decide)
                rw [m4 i hi (by rw [tb_ann, hxi]; rfl), met_no hbi]
                exact hK i hi hxi
              · by_cases e : i = k
                · subst e
                  have hs2 : sumP S (D ++ [sbs x i]) (ann x (sbs x i)) m q := ⟨hs.1.2.2.2, hs.2.1, by rw [List.append_assoc]; exact hs.2.2⟩
                  have := b2 m q hs2 (by rw [List.append_assoc]; exact hle)
                  rw [List.append_assoc] at this
                  exact this
                · have := hAl i m q (by omega) hs hle
                  omega
              · rcases b3 with b3 | ⟨m, q, m1, m2⟩
                · rw [b3]; exact hO
                · refine Or.inr ⟨sbs x k :: m, q, ⟨day_cons (by omega) (by omega) (by omega) g72 m1.1, m1.2.1, ?_⟩, ?_⟩
                  · have := m1.2.2; rw [List.append_assoc] at this; exact this
                  · rw [List.append_assoc] at m2; exact m2
          ·
            refine Wp_if_eq d_T_goThere_75 (fun _ => ?_) (fun q => absurd (by decide) q)
            refine Wp_iload d_T_goThere_123 rfl ?_
            refine Wp_iload d_T_goThere_125 rfl ?_
            refine Wp_ivs_d (As := [vi (nI (prt (rst x) k)), vi (nI (rst x))]) d_T_goThere_127 ln_T_67 mk_D_nextPart rfl rfl rfl (by omega) (t_D_nextPart E (d - 1) (by omega) v x k (by omega) (by omega) (by omega)) ?_
            refine Wp_istore (ls2 := [lr 17, li (nI x), li (nI (dcost S D)), li (nI t), li (nI (lob x)), li (nI (rst x)), li (nI (2 ^ popc (rst x))), li (nI (prt (rst x) (k + 1))), li (nI k), li (nI (sbs x k))]) d_T_goThere_130 rfl rfl rfl ?_
            refine Wp_iinc (z := nI (k + 1)) (ls2 := [lr 17, li (nI x), li (nI (dcost S D)), li (nI t), li (nI (lob x)), li (nI (rst x)), li (nI (2 ^ popc (rst x))), li (nI (prt (rst x) (k + 1))), li (nI (k + 1)), li (nI (sbs x k))]) d_T_goThere_132 rfl (nI_add k 1) rfl rfl rfl ?_
            refine Wp_goto d_T_goThere_135 ?_
            refine ih (k + 1) L2 v (li (nI (sbs x k))) (by omega) hf hA2 hL3 hK hLL (fun i m q hi hs hle => ?_) hO
            by_cases e : i = k
            · subst e
              first
              | exact absurd hs.1.2.2.1 g72
              | (have hm := hs.1.2.2.2
                 have hdc := day_DC hV m (ann x (sbs x i)) (by omega) hm
                 rw [if_neg hdc.1] at a1
                 rw [i_mul2 a3.1 a3.2, a1, ti (by omega)] at g92
                 rw [dcost_app] at hle ⊢
                 have e2 : dcost S (sbs x i :: m) = costS S (sbs x i) + dcost S m := rfl
                 omega)
            · exact hAl i m q (by omega) hs hle
      have hpr := popc_le (rst x)
      have hrx := (xor_lob x (by omega) (by omega)).2.2.2.1
      refine Wp_iload_n d_T_goThere_0 rfl ?_
      refine Wp_bipush (x := 20) d_T_goThere_1 (by decide) ?_
      refine Wp_icmp_le d_T_goThere_3 (fun h3 => ?_) (fun q => absurd (n_nle (b := 20) q (by omega) (by omega)) (by omega))
      refine Wp_iload_n d_T_goThere_7 rfl ?_
      refine Wp_if_ne d_T_goThere_8 (fun h8 => ?_) (fun q => (hx0 (n_eq (b := 0) q (by omega) (by omega))).elim)
      refine Wp_iload_n d_T_goThere_24 rfl ?_
      refine Wp_ivs_d (As := [vi (nI x)]) d_T_goThere_25 ln_T_44 mk_D_lowestBit rfl rfl rfl (by omega) (t_D_lowestBit E (d - 1) (by omega) w x (by omega) (by omega)) ?_
      refine Wp_istore (ls2 := [lr 17, li (nI x), li (nI (dcost S D)), li (nI t), li (nI (lob x)), lo, lo, lo, lo, lo]) d_T_goThere_28 rfl rfl rfl ?_
      refine Wp_iload_n d_T_goThere_30 rfl ?_
      refine Wp_iload d_T_goThere_31 rfl ?_
      refine Wp_ixor d_T_goThere_33 ?_
      refine Wp_eqi (x2 := nI (rst x)) (by rw [nI_xor, (xor_lob x (by omega) (by omega)).1]) ?_
      refine Wp_istore (ls2 := [lr 17, li (nI x), li (nI (dcost S D)), li (nI t), li (nI (lob x)), li (nI (rst x)), lo, lo, lo, lo]) d_T_goThere_34 rfl rfl rfl ?_
      refine Wp_iconst (x := 1) d_T_goThere_36 (by decide) ?_
      refine Wp_iload d_T_goThere_37 rfl ?_
      refine Wp_ivs_d (As := [vi (nI (rst x))]) d_T_goThere_39 ln_T_47 mk_J_bitCount rfl rfl rfl (by omega) (t_J_bitCount E (d - 1) (by omega) w (rst x) (by omega)) ?_
      refine Wp_ishl d_T_goThere_42 ?_
      refine Wp_eqi (x2 := nI (2 ^ (popc (rst x)))) (sh1 (by omega)) ?_
      refine Wp_istore (ls2 := [lr 17, li (nI x), li (nI (dcost S D)), li (nI t), li (nI (lob x)), li (nI (rst x)), li (nI (2 ^ (popc (rst x)))), lo, lo, lo]) d_T_goThere_43 rfl rfl rfl ?_
      refine Wp_iconst (x := 0) d_T_goThere_45 (by decide) ?_
      refine Wp_istore (ls2 := [lr 17, li (nI x), li (nI (dcost S D)), li (nI t), li (nI (lob x)), li (nI (rst x)), li (nI (2 ^ (popc (rst x)))), li 0, lo, lo]) d_T_goThere_46 rfl rfl rfl ?_
      refine Wp_iconst (x := 0) d_T_goThere_48 (by decide) ?_
      refine Wp_istore (ls2 := [lr 17, li (nI x), li (nI (dcost S D)), li (nI t), li (nI (lob x)), li (nI (rst x)), li (nI (2 ^ (popc (rst x)))), li 0, li 0, lo]) d_T_goThere_49 rfl rfl rfl ?_
      exact loop (lst x + 1) 0 L w none (Nat.zero_add _) fr_rf hA hL (fun i _ _ => rfl) (Nat.le_refl _) (fun i m q hi => absurd hi (Nat.not_lt_zero _)) (Or.inl rfl)
set_option maxRecDepth 100000 in
set_option maxHeartbeats 4000000 in
theorem t_T_leastThereAndBack (E : mE) (d : Nat) (hd : 25 ≤ d) (w : mw) (S : mw) (hV : VM S) (h8 : pN S ≤ 8) (hB : CDb w S (2 ^ pN S)) (h15 : ∀ x, x < 2 ^ pN S → w 15 x = enD (DC S x)) : Ti E d m_T_leastThereAndBack [vr 17, vi (nI (wh S))] w (fun r w1 => r = backR S ∧ fr [17, 18] w w1) := by
  refine ⟨Nat.le_of_ble_eq_true rfl, ?_⟩
  show Wp E d m_T_leastThereAndBack 0 [lr 17, li (nI (wh S))] [] w _
  have hp10 := (pN_ok S).1
  have h1024 := two10 hp10
  have hwl := wh_lt S
  have hpw := popc_le' hwl (show pN S ≤ 10 by omega)
  refine Wp_aload_n d_T_leastThereAndBack_0 rfl ?_
  refine Wp_getr d_T_leastThereAndBack_1 fd_T_15 rfl rfl rfl ?_
  refine Wp_iload_n d_T_leastThereAndBack_4 rfl ?_
  refine Wp_ivv_d (o := 12) (As := [vi (nI (wh S))]) d_T_leastThereAndBack_5 ln_T_19 mk_D_leastOf rfl rfl rfl rfl rfl (by omega) (t_D_leastOf E (d - 1) (by omega) w S hV (wh S) hwl (h15 _ hwl)) ?_
  refine Wp_iconst (x := (-1)) d_T_leastThereAndBack_8 (by decide) ?_
  refine Wp_icmp_eq d_T_leastThereAndBack_9 (fun h9 => ?_) (fun h9 => ?_)
  ·
    have g9 : (DC S (wh S)).2.2.2 = 0 := (dayR_n hV hwl).mp h9
    refine Wp_iconst (x := (-1)) d_T_leastThereAndBack_23 (by decide) ?_
    refine Wp_reti (ty := .int) d_T_leastThereAndBack_24 rfl rfl ?_
    refine ⟨isMin_u (bk_no hV ?_) (back_min hV h8), fr_rf⟩
    first
    | exact Or.inl g9
    | exact Or.inr g17
  ·
    have g9 : (DC S (wh S)).2.2.2 ≠ 0 := fun q => h9 ((dayR_n hV hwl).mpr q)
    refine Wp_aload_n d_T_leastThereAndBack_12 rfl ?_
    refine Wp_getr d_T_leastThereAndBack_13 fd_T_15 rfl rfl rfl ?_
    refine Wp_iload_n d_T_leastThereAndBack_16 rfl ?_
    refine Wp_ivv_b (o := 12) (As := [vi (nI (wh S))]) d_T_leastThereAndBack_17 ln_T_25 mk_D_anyMust rfl rfl rfl rfl rfl (by omega) (t_D_anyMust E (d - 1) (by omega) w S hV (wh S) (by omega) (fun h0 => (hB _ h0 hwl).2)) (fun g17 => ?_) (fun g17 => ?_)
    ·
      refine Wp_if_eq d_T_leastThereAndBack_20 (fun q => absurd q (by decide)) (fun _ => ?_)
      refine Wp_iconst (x := (-1)) d_T_leastThereAndBack_23 (by decide) ?_
      refine Wp_reti (ty := .int) d_T_leastThereAndBack_24 rfl rfl ?_
      refine ⟨isMin_u (bk_no hV ?_) (back_min hV h8), fr_rf⟩
      first
      | exact Or.inl g9
      | exact Or.inr g17
    ·
      refine Wp_if_eq d_T_leastThereAndBack_20 (fun _ => ?_) (fun q => absurd (by decide) q)
      refine Wp_aload_n d_T_leastThereAndBack_25 rfl ?_
      refine Wp_iload_n d_T_leastThereAndBack_26 rfl ?_
      refine Wp_puti d_T_leastThereAndBack_27 fp_T_29 rfl rfl rfl ?_
      refine Wp_aload_n d_T_leastThereAndBack_30 rfl ?_
      refine Wp_ldc (x := 2147483647) d_T_leastThereAndBack_31 kc_T_33 ?_
      refine Wp_puti d_T_leastThereAndBack_33 fp_T_34 rfl rfl rfl ?_
      refine Wp_aload_n d_T_leastThereAndBack_36 rfl ?_
      refine Wp_iload_n d_T_leastThereAndBack_37 rfl ?_
      refine Wp_iconst (x := 0) d_T_leastThereAndBack_38 (by decide) ?_
      refine Wp_iconst (x := 0) d_T_leastThereAndBack_39 (by decide) ?_
      refine Wp_ivs_v (As := [vr 17, vi (nI (wh S)), vi 0, vi 0]) d_T_leastThereAndBack_40 ln_T_37 mk_T_goThere rfl rfl rfl (by omega) (l_T_go E S hV h8 8 (d - 1) (mU (mU w 17 2 (nI (wh S))) 17 3 2147483647) (wh S) (fun _ => 0) 2147483647 0 [] (by omega) (by omega) hwl (CDb_fr hB (fr_tr (fr_U (L := [17]) (by decide)) (fr_U (by decide))) (by decide) (by decide)) (fun y hy => by rw [mU_ne (by decide), mU_ne (by decide)]; exact h15 y hy) (fun i hi hx => by rw [wh_tb hi] at hx; exact absurd hx (by decide)) (by rw [mU_at_ne (by decide), mU_at]) mU_at (Nat.le_refl _) (Nat.zero_le _) (by omega) onWay_0) (fun w40 c40 => ?_)
      obtain ⟨L1, f4, A4, L5, m4, b1, b2, b3⟩ := c40
      have f5 : fr [17, 18] w w40 := fr_tr (fr_U2 (fr_U (by decide)) (by decide)) f4
      have hmin : ∀ y, y = (if L1 = 2147483647 then -1 else nI L1) → y = backR S := fun y hy => isMin_u (bk_of hV b2 b3 hy) (back_min hV h8)
      refine Wp_aload_n d_T_leastThereAndBack_43 rfl ?_
      refine Wp_getf d_T_leastThereAndBack_44 fd_T_34 rfl rfl rfl ?_
      refine Wp_eqi (x2 := nI L1) L5 ?_
      refine Wp_ldc (x := 2147483647) d_T_leastThereAndBack_47 kc_T_33 ?_
      refine Wp_icmp_ne d_T_leastThereAndBack_49 (fun h49 => ?_) (fun h49 => ?_)
      ·
        have g49 : L1 ≠ 2147483647 := fun q => h49 (by rw [q]; rfl)
        refine Wp_aload_n d_T_leastThereAndBack_56 rfl ?_
        refine Wp_getf d_T_leastThereAndBack_57 fd_T_34 rfl rfl rfl ?_
        refine Wp_eqi (x2 := nI L1) L5 ?_
        refine Wp_reti (ty := .int) d_T_leastThereAndBack_60 rfl rfl ?_
        exact ⟨hmin _ (by rw [if_neg g49]), f5⟩
      ·
        have g49 : L1 = 2147483647 := n_eq (b := 2147483647) h49 (by omega) (by omega)
        refine Wp_iconst (x := (-1)) d_T_leastThereAndBack_52 (by decide) ?_
        refine Wp_goto d_T_leastThereAndBack_53 ?_
        refine Wp_reti (ty := .int) d_T_leastThereAndBack_60 rfl rfl ?_
        exact ⟨hmin _ (by rw [if_pos g49]), f5⟩
