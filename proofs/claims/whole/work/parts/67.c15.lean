set_option maxRecDepth 100000 in
set_option maxHeartbeats 4000000 in
theorem l_F_wi (E : mE) (d : Nat) (hd : 3 ≤ d) (w0 S : mw) (hV : VM S) (s : Nat) (h_s : s < 4) (hl : 0 ≤ (S 34 s).toInt) (T : mw) (hST : fr [36] S T) (x r b : Nat) (hb : b < 1024) (hr : r < 10) (Q : Option mv → mw → Prop) (hQ : ∀ w2, CC w2 (wrB T s (S 34 s) b r (wrN S s)) → fr [28 + s] w0 w2 → Wp E d m_F_writeBoats 71 [lr 0, lr (24 + s), li (nI x), li (nI r), li (nI b), li (nI (pN S))] [] w2 Q) : ∀ (m p : Nat) (w : mw), p + m = pN S → CC w (wrB T s (S 34 s) b r (min p (wrN S s))) → fr [28 + s] w0 w → Wp E d m_F_writeBoats 36 [lr 0, lr (24 + s), li (nI x), li (nI r), li (nI b), li (nI p)] [] w Q := by
  intro m
  have hp10 := (pN_ok S).1
  have hz := (VM_sz hV s h_s).2
  have hwn : wrN S s ≤ pN S ∧ wrN S s ≤ sSz S s ∧ (wrN S s = pN S ∨ wrN S s = sSz S s) := by unfold wrN; split <;> omega
  induction m with
  | zero =>
    intro p w hm hC hf
    have hpp : p = pN S := by omega
    subst hpp
    have hP := CC_PR hC
    rw [Nat.min_eq_right hwn.1] at hC
    have e17 : w 1 7 = nI (pN S) := by rw [hC.2.1.1, smD_pN (smD_36 (fr_tr hST (wrB_fr _)))]
    refine Wp_iload d_F_writeBoats_36 rfl ?_
    refine Wp_aload_n d_F_writeBoats_38 rfl ?_
    refine Wp_getr d_F_writeBoats_39 fd_F_10 rfl rfl rfl ?_
    refine Wp_getf d_F_writeBoats_42 fd_F_177 rfl rfl rfl ?_
    refine Wp_eqi (x2 := nI (pN S)) e17 ?_
    refine Wp_icmp_ge d_F_writeBoats_45 (fun h45 => ?_) (fun q => absurd (n_nle q (by omega) (by omega)) (by omega))
    exact hQ w hC hf
  | succ m ih =>
    intro p w hm hC hf
    have hVT : VM (wrB T s (S 34 s) b r (min p (wrN S s))) := VM_36 hV (fr_tr hST (wrB_fr _))
    have e17 : w 1 7 = nI (pN S) := by rw [hC.2.1.1, smD_pN (smD_36 (fr_tr hST (wrB_fr _)))]
    have e34 : wrB T s (S 34 s) b r (min p (wrN S s)) 34 s = S 34 s := by rw [(fr_tr hST (wrB_fr _)) 34 (by decide)]
    have ez : sSz (wrB T s (S 34 s) b r (min p (wrN S s))) s = sSz S s := by unfold sSz; rw [(fr_tr hST (wrB_fr _)) 35 (by decide)]
    have cz := CSh_z (CC_sh hC h_s) hVT h_s (by rw [e34]; omega)
    rw [e34, ez] at cz
    refine Wp_iload d_F_writeBoats_36 rfl ?_
    refine Wp_aload_n d_F_writeBoats_38 rfl ?_
    refine Wp_getr d_F_writeBoats_39 fd_F_10 rfl rfl rfl ?_
    refine Wp_getf d_F_writeBoats_42 fd_F_177 rfl rfl rfl ?_
    refine Wp_eqi (x2 := nI (pN S)) e17 ?_
    refine Wp_icmp_ge d_F_writeBoats_45 (fun q => absurd (n_le q (by omega) (by omega)) (by omega)) (fun h45 => ?_)
    refine Wp_iload d_F_writeBoats_48 rfl ?_
    refine Wp_iconst (x := 1) d_F_writeBoats_50 (by decide) ?_
    refine Wp_iload d_F_writeBoats_51 rfl ?_
    refine Wp_ishl d_F_writeBoats_53 ?_
    refine Wp_eqi (x2 := nI (2 ^ p)) (sh1 (by omega)) ?_
    refine Wp_iand d_F_writeBoats_54 ?_
    refine Wp_eqi (x2 := nI (b &&& (2 ^ p))) (nI_and b (2 ^ p)) ?_
    refine Wp_if_eq d_F_writeBoats_55 (fun h55 => ?_) (fun h55 => ?_)
    ·
      have tb : b.testBit p = false := bit0 (by omega) h55
      refine Wp_iinc (z := nI (p + 1)) (ls2 := [lr 0, lr (24 + s), li (nI x), li (nI r), li (nI b), li (nI (p + 1))]) d_F_writeBoats_65 rfl (nI_add p 1) rfl rfl rfl ?_
      refine Wp_goto d_F_writeBoats_68 ?_
      have hC3 : CC w (wrB T s (S 34 s) b r (min (p + 1) (wrN S s))) := by
        by_cases hps : p < wrN S s
        · rw [Nat.min_eq_left (by omega), wrB_s0 tb]
          rw [Nat.min_eq_left (by omega)] at hC; exact hC
        · rw [Nat.min_eq_right (by omega)]
          rw [Nat.min_eq_right (by omega)] at hC; exact hC
      exact ih (p + 1) w (by omega) hC3 hf
    ·
      have tb : b.testBit p = true := bit1 h55
      refine Wp_aload_n d_F_writeBoats_58 rfl ?_
      refine Wp_iload d_F_writeBoats_59 rfl ?_
      refine Wp_iload_n d_F_writeBoats_61 rfl ?_
      refine Wp_ivv_v (o := (24 + s)) (As := [vi (nI p), vi (nI r)]) d_F_writeBoats_62 ln_F_260 mk_S_store (mObj_sh h_s) rfl rfl rfl rfl (by omega) (t_S_store E (d - 1) (by omega) w s (sSz S s) p h_s cz.2.1 hz (by omega) (nI r)) (fun w62 c62 => ?_)
      rw [cz.1] at c62
      refine Wp_iinc (z := nI (p + 1)) (ls2 := [lr 0, lr (24 + s), li (nI x), li (nI r), li (nI b), li (nI (p + 1))]) d_F_writeBoats_65 rfl (nI_add p 1) rfl rfl rfl ?_
      refine Wp_goto d_F_writeBoats_68 ?_
      by_cases hps : p < sSz S s
      · rw [if_pos hps] at c62
        have hpn : min p (wrN S s) = p := Nat.min_eq_left (by omega)
        have hpn1 : min (p + 1) (wrN S s) = p + 1 := Nat.min_eq_left (by omega)
        have hC3 := CC_lay hC hVT h_s (i := p) (x := cutS (S 34 s) (nI r)) (by omega) (by rw [e34]; exact hl)
        rw [hpn, ← wrB_s1 tb, ← c62] at hC3
        exact ih (p + 1) w62 (by omega) (by rw [hpn1]; exact hC3) (by rw [c62]; exact fr_U2 hf (by simp))
      · rw [if_neg hps] at c62
        have hpn : min p (wrN S s) = wrN S s := Nat.min_eq_right (by omega)
        have hpn1 : min (p + 1) (wrN S s) = wrN S s := Nat.min_eq_right (by omega)
        rw [hpn, ← hpn1, ← c62] at hC
        exact ih (p + 1) w62 (by omega) hC (by rw [c62]; exact hf)
set_option maxRecDepth 100000 in
set_option maxHeartbeats 4000000 in
theorem l_F_wo (E : mE) (d : Nat) (hd : 3 ≤ d) (w0 S : mw) (hV : VM S) (s : Nat) (h_s : s < 4) (hl : 0 ≤ (S 34 s).toInt) (hF : (DC S (wh S)).2.2.2 ≠ 0) : ∀ (k r : Nat) (T w : mw) (u4 u5 : Option mv), r + k = 10 → fr [36] S T → CC w T → w 12 6 = 0 → fr [28 + s] w0 w → Wp E d m_F_writeBoats 10 [lr 0, lr (24 + s), li (nI (seqX S r)), li (nI r), u4, u5] [] w (mPv (fun w1 => CC w1 (wrS S s (wrN S s) (S 34 s) k (seqX S r) r T) ∧ fr [28 + s] w0 w1)) := by
  intro k
  have hp10 := (pN_ok S).1
  have h1024 := two10 hp10
  induction k with
  | zero =>
    intro r T w u4 u5 hk hST hC z2 hf
    have hrr : r = 10 := by omega
    subst hrr
    refine Wp_iload_n d_F_writeBoats_10 rfl ?_
    refine Wp_bipush (x := 10) d_F_writeBoats_11 (by decide) ?_
    refine Wp_icmp_ge d_F_writeBoats_13 (fun h13 => ?_) (fun q => absurd (n_nle (a := 10) q (by omega) (by omega)) (by omega))
    refine Wp_retv d_F_writeBoats_84 rfl ?_
    exact ⟨hC, hf⟩
  | succ k ih =>
    intro r T w u4 u5 hk hST hC z2 hf
    have hs := smD_36 hST
    have hVT := VM_36 hV hST
    have hx := (seqX_ok hV hF r).1
    have hB := dvB_1 (DC_okk hV hx)
    refine Wp_iload_n d_F_writeBoats_10 rfl ?_
    refine Wp_bipush (x := 10) d_F_writeBoats_11 (by decide) ?_
    refine Wp_icmp_ge d_F_writeBoats_13 (fun q => absurd (n_le (a := 10) q (by omega) (by omega)) (by omega)) (fun h13 => ?_)
    refine Wp_iload_n d_F_writeBoats_16 rfl ?_
    refine Wp_if_eq d_F_writeBoats_17 (fun h17 => ?_) (fun h17 => ?_)
    ·
      have g17 : seqX S r = 0 := n_eq (b := 0) h17 (by omega) (by omega)
      refine Wp_retv d_F_writeBoats_84 rfl ?_
      have e9 : wrS S s (wrN S s) (S 34 s) (k + 1) (seqX S r) r T = T := by rw [wrS, if_pos g17]
      rw [e9]; exact ⟨hC, hf⟩
    ·
      have g17 : seqX S r ≠ 0 := fun q => h17 (by rw [q]; rfl)
      obtain ⟨i, hi, e1, e2⟩ := low_of (x := seqX S r) (by omega) (by omega)
      obtain ⟨e3, hip⟩ := seqX_with hV hF (show r < 10 by omega) (by omega) e2
      refine Wp_aload_n d_F_writeBoats_20 rfl ?_
      refine Wp_getr d_F_writeBoats_21 fd_F_28 rfl rfl rfl ?_
      refine Wp_iload_n d_F_writeBoats_24 rfl ?_
      refine Wp_ivs_d (As := [vi (nI (seqX S r))]) d_F_writeBoats_25 ln_F_344 mk_D_lowestBit rfl rfl rfl (by omega) (t_D_lowestBit E (d - 1) (by omega) w (seqX S r) (by omega) (by omega)) ?_
      refine Wp_ivv_d (o := 12) (As := [vi (nI (lob (seqX S r)))]) d_F_writeBoats_28 ln_F_174 mk_D_boatWith rfl rfl rfl rfl rfl (by omega) (by have h := t_D_boatWith E (d - 1) (by omega) w T (CC_PR hC) hVT i (by rw [smD_pN hs]; exact hip) (fun x hx _ => FT_15 hC z2 x hx); rw [smD_with hs, e3] at h; rw [e1]; exact h) ?_
      refine Wp_istore (ls2 := [lr 0, lr (24 + s), li (nI (seqX S r)), li (nI r), li (nI (DC S (seqX S r)).2.2.1), u5]) d_F_writeBoats_31 rfl rfl rfl ?_
      refine Wp_iconst (x := 0) d_F_writeBoats_33 (by decide) ?_
      refine Wp_istore (ls2 := [lr 0, lr (24 + s), li (nI (seqX S r)), li (nI r), li (nI (DC S (seqX S r)).2.2.1), li 0]) d_F_writeBoats_34 rfl rfl rfl ?_
      refine l_F_wi E d (by omega) w0 S hV s h_s hl T hST (seqX S r) r (DC S (seqX S r)).2.2.1 hB.2.2.1 (by omega) _ (fun w2 hC2 f2 => ?_) (pN S) 0 w (Nat.zero_add _) (by rw [Nat.zero_min]; exact hC) hf
      refine Wp_iload_n d_F_writeBoats_71 rfl ?_
      refine Wp_iload d_F_writeBoats_72 rfl ?_
      refine Wp_iconst (x := (-1)) d_F_writeBoats_74 (by decide) ?_
      refine Wp_ixor d_F_writeBoats_75 ?_
      refine Wp_iand d_F_writeBoats_76 ?_
      refine Wp_eqi (x2 := nI (ann (seqX S r) (DC S (seqX S r)).2.2.1)) (anI (seqX S r) (DC S (seqX S r)).2.2.1) ?_
      refine Wp_istore_n (ls2 := [lr 0, lr (24 + s), li (nI (ann (seqX S r) (DC S (seqX S r)).2.2.1)), li (nI r), li (nI (DC S (seqX S r)).2.2.1), li (nI (pN S))]) d_F_writeBoats_77 rfl rfl rfl ?_
      refine Wp_iinc (z := nI (r + 1)) (ls2 := [lr 0, lr (24 + s), li (nI (ann (seqX S r) (DC S (seqX S r)).2.2.1)), li (nI (r + 1)), li (nI (DC S (seqX S r)).2.2.1), li (nI (pN S))]) d_F_writeBoats_78 rfl (nI_add r 1) rfl rfl rfl ?_
      refine Wp_goto d_F_writeBoats_81 ?_
      have z3 : w2 12 6 = 0 := by
        have e9 : w2 12 = w0 12 := f2 12 (by simp; omega)
        have e8 : w 12 = w0 12 := hf 12 (by simp; omega)
        rw [e9, ← e8]; exact z2
      have h9 := ih (r + 1) _ w2 (li (nI (DC S (seqX S r)).2.2.1)) (li (nI (pN S))) (by omega) (fr_tr hST (wrB_fr (wrN S s))) hC2 z3 f2
      have e9 : wrS S s (wrN S s) (S 34 s) (k + 1) (seqX S r) r T = wrS S s (wrN S s) (S 34 s) k (seqX S (r + 1)) (r + 1) (wrB T s (S 34 s) (DC S (seqX S r)).2.2.1 r (wrN S s)) := by rw [wrS, if_neg g17]; rfl
      rw [e9]
      exact h9
set_option maxRecDepth 100000 in
set_option maxHeartbeats 4000000 in
theorem t_F_writeBoats (E : mE) (d : Nat) (hd : 3 ≤ d) (w : mw) (S : mw) (hC : CC w S) (hV : VM S) (s : Nat) (h_s : s < 4) (hl : 0 ≤ (S 34 s).toInt) (hF : (DC S (wh S)).2.2.2 ≠ 0) (z2 : w 12 6 = 0) : Tv E d m_F_writeBoats [vr 0, vr (24 + s)] w (fun w1 => CC w1 (wrS S s (wrN S s) (S 34 s) 10 (wh S) 0 S) ∧ fr [28 + s] w w1) := by
  refine ⟨Nat.le_of_ble_eq_true rfl, ?_⟩
  show Wp E d m_F_writeBoats 0 [lr 0, lr (24 + s), lo, lo, lo, lo] [] w _
  refine Wp_aload_n d_F_writeBoats_0 rfl ?_
  refine Wp_getr d_F_writeBoats_1 fd_F_10 rfl rfl rfl ?_
  refine Wp_ivv_d (o := 1) (As := []) d_F_writeBoats_4 ln_F_180 mk_P_everyone rfl rfl rfl rfl rfl (by omega) (t_P_everyone E (d - 1) (by omega) w (pN S) hC.2.1.1 (pN_ok S).1) ?_
  refine Wp_istore_n (ls2 := [lr 0, lr (24 + s), li (nI (wh S)), lo, lo, lo]) d_F_writeBoats_7 rfl rfl rfl ?_
  refine Wp_iconst (x := 0) d_F_writeBoats_8 (by decide) ?_
  refine Wp_istore_n (ls2 := [lr 0, lr (24 + s), li (nI (wh S)), li 0, lo, lo]) d_F_writeBoats_9 rfl rfl rfl ?_
  exact l_F_wo E d (by omega) w S hV s h_s hl hF 10 0 S w _ _ rfl fr_rf hC z2 fr_rf
set_option maxRecDepth 100000 in
set_option maxHeartbeats 4000000 in
theorem t_F_write (E : mE) (d : Nat) (hd : 5 ≤ d) (w : mw) (S : mw) (hC : CC w S) (hV : VM S) (s : Int32) : Ti E d m_F_write [vr 0, vi s] w (fun r w1 => r = (oWrite S s).1 ∧ CC w1 (oWrite S s).2 ∧ fr cRows w w1) := by
  refine ⟨Nat.le_of_ble_eq_true rfl, ?_⟩
  show Wp E d m_F_write 0 [lr 0, li s] [] w _
  have hP := CC_PR hC
  have hp10 := (pN_ok S).1
  have h1024 := two10 hp10
  have hwl := wh_lt S
  have hwe := wh_1 S
  refine Wp_iload_n d_F_write_0 rfl ?_
  refine Wp_ivs_b (As := [vi s]) d_F_write_1 ln_F_115 mk_F_isSheet rfl rfl rfl (by omega) (t_F_isSheet E (d - 1) (by omega) w s) (fun g1 => ?_) (fun g1 => ?_)
  ·
    obtain ⟨s1, h_s1, rfl⟩ := sh_of g1
    have tS_s1 := ti (show s1 < 2147483648 by omega)
    refine Wp_if_ne d_F_write_4 (fun _ => ?_) (fun q => absurd q (by decide))
    refine Wp_aload_n d_F_write_10 rfl ?_
    refine Wp_getr d_F_write_11 fd_F_50 rfl rfl rfl ?_
    refine Wp_iload_n d_F_write_14 rfl ?_
    refine Wp_aaldN (j := s1) d_F_write_15 rfl rfl rfl rfl (by omega) ?_
    refine Wp_ivv_b (o := (24 + s1)) (As := []) d_F_write_16 ln_F_118 mk_S_isLost (mObj_sh h_s1) rfl rfl rfl rfl (by omega) (t_S_isLost2 E (d - 1) w S hC hV s1 h_s1) (fun g16 => ?_) (fun g16 => ?_)
    ·
      refine Wp_if_eq d_F_write_19 (fun q => absurd q (by decide)) (fun _ => ?_)
      refine Wp_aload_n d_F_write_22 rfl ?_
      refine Wp_iconst (x := 1) d_F_write_23 (by decide) ?_
      refine Wp_ivv_d (o := 0) (As := [vi 1]) d_F_write_24 ln_F_121 mk_F_find rfl rfl rfl rfl rfl (by omega) (t_F_find E (d - 1) (by omega) w 1 (-11) (by decide)) ?_
      refine Wp_reti (ty := .int) d_F_write_27 rfl rfl ?_
      have e9 : oWrite S (nI s1) = (-11, mU S 33 4 1) := by unfold oWrite; rw [if_neg (by omega), cl (by omega), if_pos (by omega)]
      rw [e9]; exact ⟨rfl, CC_fi hC 1, fr_U (by decide)⟩
    ·
      have cz_s1 := CSh_z (CC_sh hC h_s1) hV h_s1 g16
      refine Wp_if_eq d_F_write_19 (fun _ => ?_) (fun q => absurd (by decide) q)
      refine Wp_aload_n d_F_write_28 rfl ?_
      refine Wp_getr d_F_write_29 fd_F_28 rfl rfl rfl ?_
      refine Wp_ivv_v (o := 12) (As := []) d_F_write_32 ln_F_162 mk_D_bringUpToDate rfl rfl rfl rfl rfl (by omega) (t_D_bringUpToDate E (d - 1) (by omega) w S hC hV) (fun w32 c32 => ?_)
      obtain ⟨hC2, z2, fB⟩ := c32
      have hP2 := CC_PR hC2
      have h15 := FT_15 hC2 z2
      have h16 := FT_16 hC2 z2
      have fBc : fr cRows w w32 := fr_sub fB (by decide)
      refine Wp_aload_n d_F_write_35 rfl ?_
      refine Wp_getr d_F_write_36 fd_F_28 rfl rfl rfl ?_
      refine Wp_aload_n d_F_write_39 rfl ?_
      refine Wp_getr d_F_write_40 fd_F_10 rfl rfl rfl ?_
      refine Wp_ivv_d (o := 1) (As := []) d_F_write_43 ln_F_180 mk_P_everyone rfl rfl rfl rfl rfl (by omega) (t_P_everyone E (d - 1) (by omega) w32 (pN S) hP2.2.1.1 (pN_ok S).1) ?_
      refine Wp_ivv_d (o := 12) (As := [vi (nI (wh S))]) d_F_write_46 ln_F_165 mk_D_leastOf rfl rfl rfl rfl rfl (by omega) (t_D_leastOf E (d - 1) (by omega) w32 S hV (wh S) (by omega) (h15 _ (by omega))) ?_
      refine Wp_iconst (x := (-1)) d_F_write_49 (by decide) ?_
      refine Wp_icmp_ne d_F_write_50 (fun h50 => ?_) (fun h50 => ?_)
      ·
        have g50 : (DC S (wh S)).2.2.2 ≠ 0 := fun q => h50 ((dayR_n hV (wh_lt S)).mpr q)
        refine Wp_aload_n d_F_write_56 rfl ?_
        refine Wp_aload_n d_F_write_57 rfl ?_
        refine Wp_getr d_F_write_58 fd_F_50 rfl rfl rfl ?_
        refine Wp_iload_n d_F_write_61 rfl ?_
        refine Wp_aaldN (j := s1) d_F_write_62 rfl rfl rfl rfl (by omega) ?_
        refine Wp_ivv_v (o := 0) (As := [vr (24 + s1)]) d_F_write_63 ln_F_282 mk_F_writeBoats rfl rfl rfl rfl rfl (by omega) (t_F_writeBoats E (d - 1) (by omega) w32 S hC2 hV s1 h_s1 (by omega) g50 z2) (fun w63 c63 => ?_)
        obtain ⟨hC3, fW⟩ := c63
        have cz2 := CSh_z (CC_sh hC2 h_s1) hV h_s1 g16
        have e24 : w63 (24 + s1) 2 = nI (sSz S s1) := by rw [fW (24 + s1) (by simp)]; exact cz2.2.1
        have e17 : w63 1 7 = nI (pN S) := by rw [fW 1 (by simp; omega)]; exact hC2.2.1.1
        have hz1 := (VM_sz hV s1 h_s1).2
        refine Wp_aload_n d_F_write_66 rfl ?_
        refine Wp_getr d_F_write_67 fd_F_50 rfl rfl rfl ?_
        refine Wp_iload_n d_F_write_70 rfl ?_
        refine Wp_aaldN (j := s1) d_F_write_71 rfl rfl rfl rfl (by omega) ?_
        refine Wp_getf d_F_write_72 fd_F_124 (mObj_sh h_s1) rfl (mRef_sh2 h_s1) ?_
        refine Wp_eqi (x2 := nI (sSz S s1)) e24 ?_
        refine Wp_aload_n d_F_write_75 rfl ?_
        refine Wp_getr d_F_write_76 fd_F_10 rfl rfl rfl ?_
        refine Wp_getf d_F_write_79 fd_F_177 rfl rfl rfl ?_
        refine Wp_eqi (x2 := nI (pN S)) e17 ?_
        refine Wp_min d_F_write_82 ln_F_127 rfl (by omega) ?_
        refine Wp_eqi (x2 := nI (wrN S s1)) (mnI2 (by omega) (by omega)) ?_
        refine Wp_reti (ty := .int) d_F_write_85 rfl rfl ?_
        have e9 : oWrite S (nI s1) = (nI (wrN S s1), wrS S s1 (wrN S s1) (S 34 s1) 10 (wh S) 0 S) := by unfold oWrite; rw [if_neg (by omega), cl (by omega), if_neg (by omega), if_neg g50]
        rw [e9]; exact ⟨rfl, hC3, fr_tr fBc (fr_sub (fun k hk => fW k (fun q => hk (List.mem_cons_of_mem _ q))) (sh_subc h_s1))⟩
      ·
        have g50 : (DC S (wh S)).2.2.2 = 0 := (dayR_n hV (wh_lt S)).mp h50
        refine Wp_bipush (x := (-3)) d_F_write_53 (by decide) ?_
        refine Wp_reti (ty := .int) d_F_write_55 rfl rfl ?_
        have e9 : oWrite S (nI s1) = (-3, S) := by unfold oWrite; rw [if_neg (by omega), cl (by omega), if_neg (by omega), if_pos g50]
        rw [e9]; exact ⟨rfl, hC2, fBc⟩
  ·
    refine Wp_if_ne d_F_write_4 (fun q => absurd q (by decide)) (fun _ => ?_)
    refine Wp_bipush (x := (-2)) d_F_write_7 (by decide) ?_
    refine Wp_reti (ty := .int) d_F_write_9 rfl rfl ?_
    have e9 : oWrite S s = (-2, S) := by unfold oWrite; rw [if_pos (by omega)]
    rw [e9]; exact ⟨rfl, hC, fr_rf⟩
set_option maxRecDepth 100000 in
set_option maxHeartbeats 4000000 in
theorem l_D_rp1 (E : mE) (d : Nat) (hd : 4 ≤ d) (w0 S1 S2 : mw) (hP0 : PR w0 S2) (j : Nat) (v : Int32) (hV1 : VM S1) (hV2 : VM S2) (hj : j < pN S2) (h2 : S2 = mU S1 42 j v) (Q : Option mv → mw → Prop) (hQ : ∀ w2, fr [13] w0 w2 → (∀ x, 0 < x → x < 2 ^ pN S2 → w2 13 x = prI S2 x) → w2 13 0 = w0 13 0 → Wp E d m_D_replanAround 45 [lr 12, li (nI (2 ^ j)), li (nI (wh S2)), li (nI (2 ^ pN S2))] [] w2 Q) : ∀ (k b : Nat) (w : mw), b + k = 2 ^ pN S2 → 1 ≤ b → fr [13] w0 w → (∀ x, 0 < x → x < b → w 13 x = prI S2 x) → (∀ x, b ≤ x → x < 2 ^ pN S2 → w 13 x = prI S1 x) → w 13 0 = w0 13 0 → Wp E d m_D_replanAround 10 [lr 12, li (nI (2 ^ j)), li (nI (wh S2)), li (nI b)] [] w Q := by
  intro k
  have hp10 := (pN_ok S2).1
  have h1024 := two10 hp10
  have hwl := wh_lt S2
  have hwe := wh_1 S2
  have h2j : 2 ^ j < 2 ^ pN S2 := Nat.pow_lt_pow_right (by omega) hj
  have hj1 := Nat.one_le_two_pow (n := j)
  induction k with
  | zero =>
    intro b w hk h1 hf hA hB h0
    have hbb : b = 2 ^ pN S2 := by omega
    subst hbb
    refine Wp_iload_n d_D_replanAround_10 rfl ?_
    refine Wp_iload_n d_D_replanAround_11 rfl ?_
    refine Wp_icmp_gt d_D_replanAround_12 (fun h12 => ?_) (fun q => absurd (n_nlt q (by omega) (by omega)) (by omega))
    exact hQ w hf hA h0
  | succ k ih =>
    intro b w hk h1 hf hA hB h0
    refine Wp_iload_n d_D_replanAround_10 rfl ?_
    refine Wp_iload_n d_D_replanAround_11 rfl ?_
    refine Wp_icmp_gt d_D_replanAround_12 (fun q => absurd (n_lt q (by omega) (by omega)) (by omega)) (fun h12 => ?_)
    refine Wp_iload_n d_D_replanAround_15 rfl ?_
    refine Wp_sipush (x := 1024) d_D_replanAround_16 (by decide) ?_
    refine Wp_icmp_ge d_D_replanAround_19 (fun q => absurd (n_le (a := 1024) q (by omega) (by omega)) (by omega)) (fun h19 => ?_)
    refine Wp_iload_n d_D_replanAround_22 rfl ?_
    refine Wp_iload_n d_D_replanAround_23 rfl ?_
    refine Wp_iand d_D_replanAround_24 ?_
    refine Wp_eqi (x2 := nI (b &&& (2 ^ j))) (nI_and b (2 ^ j)) ?_
    refine Wp_if_eq d_D_replanAround_25 (fun h25 => ?_) (fun h25 => ?_)
    ·
      have tb : b.testBit j = false := bit0 (by omega) h25
      refine Wp_iinc (z := nI (b + 1)) (ls2 := [lr 12, li (nI (2 ^ j)), li (nI (wh S2)), li (nI (b + 1))]) d_D_replanAround_39 rfl (nI_add b 1) rfl rfl rfl ?_
      refine Wp_goto d_D_replanAround_42 ?_
      refine ih (b + 1) w (by omega) (by omega) hf (fun x hx hx2 => ?_) (fun x hx hx2 => hB x (by omega) hx2) h0
      by_cases hxb : x = b
      · subst hxb; rw [hB x (Nat.le_refl _) (by omega)]; unfold prI; rw [h2, ok_42, cost_42 tb]
      · exact hA x hx (by omega)
    ·
      have tb : b.testBit j = true := bit1 h25
      refine Wp_aload_n d_D_replanAround_28 rfl ?_
      refine Wp_getr d_D_replanAround_29 fd_D_11 rfl rfl rfl ?_
      refine Wp_iload_n d_D_replanAround_32 rfl ?_
      refine Wp_aload_n d_D_replanAround_33 rfl ?_
      refine Wp_iload_n d_D_replanAround_34 rfl ?_
      refine Wp_ivv_d (o := 12) (As := [vi (nI b)]) d_D_replanAround_35 ln_D_56 mk_D_priceOf rfl rfl rfl rfl rfl (by omega) (t_D_priceOf E (d - 1) (by omega) w S2 (PR_fr hP0 hf (by decide)) hV2 b (by omega)) ?_
      refine Wp_iastN (j := b) d_D_replanAround_38 rfl rfl rfl rfl (by omega) ?_
      refine Wp_iinc (z := nI (b + 1)) (ls2 := [lr 12, li (nI (2 ^ j)), li (nI (wh S2)), li (nI (b + 1))]) d_D_replanAround_39 rfl (nI_add b 1) rfl rfl rfl ?_
      refine Wp_goto d_D_replanAround_42 ?_
      refine ih (b + 1) _ (by omega) (by omega) (fr_U2 hf (by decide)) (fun x hx hx2 => ?_) (fun x hx hx2 => ?_) (by rw [mU_at_ne (by omega)]; exact h0)
      · by_cases hxb : x = b
        · subst hxb; exact mU_at
        · rw [mU_at_ne hxb]; exact hA x hx (by omega)
      · rw [mU_at_ne (by omega)]; exact hB x (by omega) hx2
set_option maxRecDepth 100000 in
set_option maxHeartbeats 4000000 in
theorem l_D_rp2 (E : mE) (d : Nat) (hd : 4 ≤ d) (w0 S1 S2 : mw) (j : Nat) (v : Int32) (hV1 : VM S1) (hV2 : VM S2) (hj : j < pN S2) (h2 : S2 = mU S1 42 j v) (hB0 : CDb w0 S2 (2 ^ pN S2)) : ∀ (k s : Nat) (w : mw), s + k = 2 ^ pN S2 → 1 ≤ s → fr [15, 16] w0 w → (∀ x, x < s → x < 2 ^ pN S2 → hot S2 x → w 15 x = enD (DC S2 x) ∧ w 16 x = m1v (DC S2 x).2.2.2) → (∀ x, s ≤ x → x < 2 ^ pN S2 → hot S2 x → w 15 x = enD (DC S1 x) ∧ w 16 x = m1v (DC S1 x).2.2.2) → (∀ x, ¬ hot S2 x → w 15 x = w0 15 x ∧ w 16 x = w0 16 x) → Wp E d m_D_replanAround 47 [lr 12, li (nI (2 ^ j)), li (nI (wh S2)), li (nI s)] [] w (mPv (fun w1 => fr [15, 16] w0 w1 ∧ (∀ x, x < 2 ^ pN S2 → hot S2 x → w1 15 x = enD (DC S2 x) ∧ w1 16 x = m1v (DC S2 x).2.2.2) ∧ (∀ x, ¬ hot S2 x → w1 15 x = w0 15 x ∧ w1 16 x = w0 16 x))) := by
  intro k
  have hp10 := (pN_ok S2).1
  have h1024 := two10 hp10
  have hwl := wh_lt S2
  have hwe := wh_1 S2
  have h2j : 2 ^ j < 2 ^ pN S2 := Nat.pow_lt_pow_right (by omega) hj
  have hj1 := Nat.one_le_two_pow (n := j)
  induction k with
  | zero =>
    intro s w hk h1 hf hA hB hN
    have hss : s = 2 ^ pN S2 := by omega
    subst hss
    refine Wp_iload_n d_D_replanAround_47 rfl ?_
    refine Wp_iload_n d_D_replanAround_48 rfl ?_
    refine Wp_icmp_gt d_D_replanAround_49 (fun h49 => ?_) (fun q => absurd (n_nlt q (by omega) (by omega)) (by omega))
    refine Wp_retv d_D_replanAround_87 rfl ?_
    exact ⟨hf, fun x hx hh => hA x hx hx hh, hN⟩
  | succ k ih =>
    intro s w hk h1 hf hA hB hN
    refine Wp_iload_n d_D_replanAround_47 rfl ?_
    refine Wp_iload_n d_D_replanAround_48 rfl ?_
    refine Wp_icmp_gt d_D_replanAround_49 (fun q => absurd (n_lt q (by omega) (by omega)) (by omega)) (fun h49 => ?_)
    refine Wp_iload_n d_D_replanAround_52 rfl ?_
    refine Wp_sipush (x := 1024) d_D_replanAround_53 (by decide) ?_
    refine Wp_icmp_ge d_D_replanAround_56 (fun q => absurd (n_le (a := 1024) q (by omega) (by omega)) (by omega)) (fun h56 => ?_)
    refine Wp_iload_n d_D_replanAround_59 rfl ?_
    refine Wp_iload_n d_D_replanAround_60 rfl ?_
    refine Wp_iand d_D_replanAround_61 ?_
    refine Wp_eqi (x2 := nI (s &&& (2 ^ j))) (nI_and s (2 ^ j)) ?_
    refine Wp_if_eq d_D_replanAround_62 (fun h62 => ?_) (fun h62 => ?_)
    ·
      have tb : s.testBit j = false := bit0 (by omega) h62
      refine Wp_iinc (z := nI (s + 1)) (ls2 := [lr 12, li (nI (2 ^ j)), li (nI (wh S2)), li (nI (s + 1))]) d_D_replanAround_81 rfl (nI_add s 1) rfl rfl rfl ?_
      refine Wp_goto d_D_replanAround_84 ?_
      refine ih (s + 1) w (by omega) (by omega) hf (fun x hx hx2 hq => ?_) (fun x hx hx2 hq => hB x (by omega) hx2 hq) hN
      by_cases hxs : x = s
      · subst hxs
        first
        | (rw [h2, DC_42 (x + 1) x (by omega) (by omega) tb]; exact hB x (Nat.le_refl _) hx2 hq)
        | exact absurd hq (fun q => q.elim n67 (fun q => by rw [n73] at q; exact absurd q (by decide)))
      · exact hA x (by omega) hx2 hq
    ·
      have tb : s.testBit j = true := bit1 h62
      refine Wp_iload_n d_D_replanAround_65 rfl ?_
      refine Wp_iload_n d_D_replanAround_66 rfl ?_
      refine Wp_icmp_eq d_D_replanAround_67 (fun h67 => ?_) (fun h67 => ?_)
      ·
        have hh : hot S2 s := Or.inl (n_eq h67 (by omega) (by omega))
        refine Wp_aload_n d_D_replanAround_76 rfl ?_
        refine Wp_iload_n d_D_replanAround_77 rfl ?_
        refine Wp_ivv_dv (o := 12) (As := [vi (nI s)]) d_D_replanAround_78 ln_D_59 mk_D_plan rfl rfl rfl rfl rfl (by omega) (t_D_plan E (d - 1) (by omega) w S2 hV2 s (by omega) (by omega) (CDb_fr hB0 hf (by decide) (by decide)) (fun k hk2 => by have hg := sbs_good (s := s) (k := k) (by omega) (by omega) hk2; exact hA _ hg.2.1 (by omega) (Or.inr (hot_left (j := j) hV2 (by omega) (by omega) hk2 (by omega) hh)))) ?_
        refine Wp_iinc (z := nI (s + 1)) (ls2 := [lr 12, li (nI (2 ^ j)), li (nI (wh S2)), li (nI (s + 1))]) d_D_replanAround_81 rfl (nI_add s 1) rfl rfl rfl ?_
        refine Wp_goto d_D_replanAround_84 ?_
        refine ih (s + 1) _ (by omega) (by omega) (fr_U2 (fr_U2 hf (by decide)) (by decide)) (fun x hx hx2 hq => ?_) (fun x hx hx2 hq => ?_) (fun x hq => ?_)
        · by_cases hxs : x = s
          · subst hxs; exact ⟨by rw [mU_ne (by decide)]; exact mU_at, mU_at⟩
          · have := hA x (by omega) hx2 hq
            exact ⟨by rw [mU_ne (by decide), mU_at_ne hxs]; exact this.1, by rw [mU_at_ne hxs, mU_ne (by decide)]; exact this.2⟩
        · have := hB x (by omega) hx2 hq
          exact ⟨by rw [mU_ne (by decide), mU_at_ne (by omega)]; exact this.1, by rw [mU_at_ne (by omega), mU_ne (by decide)]; exact this.2⟩
        · have hxs : x ≠ s := fun q => hq (by rw [q]; exact hh)
          have := hN x hq
          exact ⟨by rw [mU_ne (by decide), mU_at_ne hxs]; exact this.1, by rw [mU_at_ne hxs, mU_ne (by decide)]; exact this.2⟩
      ·
        have n67 : s ≠ wh S2 := n_ne h67 (by omega) (by omega)
        refine Wp_iload_n d_D_replanAround_70 rfl ?_
        refine Wp_iconst (x := 1) d_D_replanAround_71 (by decide) ?_
        refine Wp_iand d_D_replanAround_72 ?_
        refine Wp_eqi (x2 := nI (s &&& 1)) (nI_and s 1) ?_
        refine Wp_if_ne d_D_replanAround_73 (fun h73 => ?_) (fun h73 => ?_)
        ·
          have n73 : s.testBit 0 = true := bit1 (i := 0) h73
          refine Wp_iinc (z := nI (s + 1)) (ls2 := [lr 12, li (nI (2 ^ j)), li (nI (wh S2)), li (nI (s + 1))]) d_D_replanAround_81 rfl (nI_add s 1) rfl rfl rfl ?_
          refine Wp_goto d_D_replanAround_84 ?_
          refine ih (s + 1) w (by omega) (by omega) hf (fun x hx hx2 hq => ?_) (fun x hx hx2 hq => hB x (by omega) hx2 hq) hN
          by_cases hxs : x = s
          · subst hxs
            first
            | (rw [h2, DC_42 (x + 1) x (by omega) (by omega) tb]; exact hB x (Nat.le_refl _) hx2 hq)
            | exact absurd hq (fun q => q.elim n67 (fun q => by rw [n73] at q; exact absurd q (by decide)))
          · exact hA x (by omega) hx2 hq
        ·
          have hh : hot S2 s := Or.inr (bit0 (i := 0) (by omega) h73)
          refine Wp_aload_n d_D_replanAround_76 rfl ?_
          refine Wp_iload_n d_D_replanAround_77 rfl ?_
          refine Wp_ivv_dv (o := 12) (As := [vi (nI s)]) d_D_replanAround_78 ln_D_59 mk_D_plan rfl rfl rfl rfl rfl (by omega) (t_D_plan E (d - 1) (by omega) w S2 hV2 s (by omega) (by omega) (CDb_fr hB0 hf (by decide) (by decide)) (fun k hk2 => by have hg := sbs_good (s := s) (k := k) (by omega) (by omega) hk2; exact hA _ hg.2.1 (by omega) (Or.inr (hot_left (j := j) hV2 (by omega) (by omega) hk2 (by omega) hh)))) ?_
          refine Wp_iinc (z := nI (s + 1)) (ls2 := [lr 12, li (nI (2 ^ j)), li (nI (wh S2)), li (nI (s + 1))]) d_D_replanAround_81 rfl (nI_add s 1) rfl rfl rfl ?_
          refine Wp_goto d_D_replanAround_84 ?_
          refine ih (s + 1) _ (by omega) (by omega) (fr_U2 (fr_U2 hf (by decide)) (by decide)) (fun x hx hx2 hq => ?_) (fun x hx hx2 hq => ?_) (fun x hq => ?_)
          · by_cases hxs : x = s
            · subst hxs; exact ⟨by rw [mU_ne (by decide)]; exact mU_at, mU_at⟩
            · have := hA x (by omega) hx2 hq
              exact ⟨by rw [mU_ne (by decide), mU_at_ne hxs]; exact this.1, by rw [mU_at_ne hxs, mU_ne (by decide)]; exact this.2⟩
          · have := hB x (by omega) hx2 hq
            exact ⟨by rw [mU_ne (by decide), mU_at_ne (by omega)]; exact this.1, by rw [mU_at_ne (by omega), mU_ne (by decide)]; exact this.2⟩
          · have hxs : x ≠ s := fun q => hq (by rw [q]; exact hh)
            have := hN x hq
            exact ⟨by rw [mU_ne (by decide), mU_at_ne hxs]; exact this.1, by rw [mU_at_ne hxs, mU_ne (by decide)]; exact this.2⟩
set_option maxRecDepth 100000 in
set_option maxHeartbeats 4000000 in
theorem t_D_replanAround (E : mE) (d : Nat) (hd : 4 ≤ d) (w : mw) (S1 S2 : mw) (hP : PR w S2) (j : Nat) (v : Int32) (hV1 : VM S1) (hV2 : VM S2) (hj : j < pN S2) (h2 : S2 = mU S1 42 j v) (hB : ∀ x, 0 < x → x < 2 ^ pN S2 → w 13 x = prI S1 x ∧ w 14 x = nI (needS S1 x)) (hT : ∀ x, x < 2 ^ pN S2 → hot S2 x → w 15 x = enD (DC S1 x) ∧ w 16 x = m1v (DC S1 x).2.2.2) : Tv E d m_D_replanAround [vr 12, vi (nI (2 ^ j))] w (fun w1 => CDb w1 S2 (2 ^ pN S2) ∧ (∀ x, x < 2 ^ pN S2 → hot S2 x → w1 15 x = enD (DC S2 x) ∧ w1 16 x = m1v (DC S2 x).2.2.2) ∧ (∀ x, ¬ hot S2 x → w1 15 x = w 15 x ∧ w1 16 x = w 16 x) ∧ w1 13 0 = w 13 0 ∧ fr [13, 15, 16] w w1) := by
  refine ⟨Nat.le_of_ble_eq_true rfl, ?_⟩
  show Wp E d m_D_replanAround 0 [lr 12, li (nI (2 ^ j)), lo, lo] [] w _
  have hp10 := (pN_ok S2).1
  have h1024 := two10 hp10
  have hwl := wh_lt S2
  have hwe := wh_1 S2
  have h2j : 2 ^ j < 2 ^ pN S2 := Nat.pow_lt_pow_right (by omega) hj
  have hj1 := Nat.one_le_two_pow (n := j)
  refine Wp_aload_n d_D_replanAround_0 rfl ?_
  refine Wp_getr d_D_replanAround_1 fd_D_28 rfl rfl rfl ?_
  refine Wp_ivv_d (o := 1) (As := []) d_D_replanAround_4 ln_D_36 mk_P_everyone rfl rfl rfl rfl rfl (by omega) (t_P_everyone E (d - 1) (by omega) w (pN S2) hP.2.1.1 (pN_ok S2).1) ?_
  refine Wp_istore_n (ls2 := [lr 12, li (nI (2 ^ j)), li (nI (wh S2)), lo]) d_D_replanAround_7 rfl rfl rfl ?_
  refine Wp_iload_n d_D_replanAround_8 rfl ?_
  refine Wp_istore_n (ls2 := [lr 12, li (nI (2 ^ j)), li (nI (wh S2)), li (nI (2 ^ j))]) d_D_replanAround_9 rfl rfl rfl ?_
  have hp12 : pN S2 = pN S1 := by rw [h2, pN_42]
  refine l_D_rp1 E d (by omega) w S1 S2 hP j v hV1 hV2 hj h2 _ (fun w2 f2 b2 z2 => ?_) (2 ^ pN S2 - 2 ^ j) (2 ^ j) w (by omega) hj1 fr_rf (fun x hx hx2 => ?_) (fun x hx hx2 => (hB x (by omega) hx2).1) rfl
  ·
    refine Wp_iload_n d_D_replanAround_45 rfl ?_
    refine Wp_istore_n (ls2 := [lr 12, li (nI (2 ^ j)), li (nI (wh S2)), li (nI (2 ^ j))]) d_D_replanAround_46 rfl rfl rfl ?_
    have hB2 : CDb w2 S2 (2 ^ pN S2) := fun x hx hx2 => ⟨b2 x hx hx2, by rw [f2 14 (by decide), (hB x hx hx2).2, h2, need_42]⟩
    refine Wp_mv (l_D_rp2 E d (by omega) w2 S1 S2 j v hV1 hV2 hj h2 hB2 (2 ^ pN S2 - 2 ^ j) (2 ^ j) w2 (by omega) hj1 fr_rf (fun x hx hx2 hq => ?_) (fun x hx hx2 hq => ?_) (fun x _ => ⟨rfl, rfl⟩)) (fun w3 h => ?_)
    · rw [f2 15 (by decide), f2 16 (by decide), h2, DC_42 (x + 1) x (by omega) (by omega) (low_no hx)]; exact hT x hx2 hq
    · rw [f2 15 (by decide), f2 16 (by decide)]; exact hT x hx2 hq
    · obtain ⟨f3, t3, n3⟩ := h
      refine ⟨CDb_fr hB2 f3 (by decide) (by decide), t3, fun x hq => ?_, ?_, fr_tr (fr_sub f2 (by decide)) (fr_sub f3 (by decide))⟩
      · have := n3 x hq; rw [f2 15 (by decide), f2 16 (by decide)] at this; exact this
      · rw [f3 13 (by decide)]; exact z2
  · rw [(hB x hx (by omega)).1]; unfold prI; rw [h2, ok_42, cost_42 (low_no hx2)]
