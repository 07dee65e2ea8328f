set_option maxRecDepth 100000 in
set_option maxHeartbeats 4000000 in
theorem l_M_sh (E : mE) (d : Nat) (hd : 5 ≤ d) (w S : mw) (hB : MB w S) (hV : VM S) (hL : LsOk w S (2 ^ pN S)) (gF : Fe S (wh S)) (h6 : pN S ≤ 6) (j : Nat) (hj : j < pN S) (a : Int32) : ∀ (i k : Nat) (u : Option mv), k + i = 2 ^ pN S → Wp E d m_M_shareOf 33 [lr 33, li (nI j), li a, ll (shL S j k), lo, li (nI k), u] [] w (mPl (fun r w1 => r = partR (shL S j (wh S + 1)) (facS (pN S)) a ∧ w1 = w)) := by
  intro i
  have hp10 := (pN_ok S).1
  have hlt := two10 hp10
  have hwl := wh_lt S
  have hwe := wh_1 S
  have hfn := facS_le h6
  induction i with
  | zero =>
    intro k u hk
    have hin : k = wh S + 1 := by omega
    subst hin
    obtain ⟨z, ez, z1, z2⟩ := shL_of hV h6 hj gF (wh S + 1) (by omega)
    have hz : (shL S j (wh S + 1)).toInt = z := by rw [ez]; exact ofI_toInt (by omega) (by omega)
    refine Wp_iload d_M_shareOf_33 rfl ?_
    refine Wp_aload_n d_M_shareOf_35 rfl ?_
    refine Wp_ivv_d (o := 33) (As := []) d_M_shareOf_36 ln_M_184 mk_M_whole rfl rfl rfl rfl rfl (by omega) (t_M_whole E (d - 1) (by omega) w S hB.1 hV) ?_
    refine Wp_icmp_gt d_M_shareOf_39 (fun h39 => ?_) (fun q => absurd (n_nlt q (by omega) (by omega)) (by omega))
    refine Wp_lload_n d_M_shareOf_106 rfl ?_
    refine Wp_aload_n d_M_shareOf_107 rfl ?_
    refine Wp_getf d_M_shareOf_108 fd_M_125 rfl rfl rfl ?_
    refine Wp_eqi (x2 := nI (pN S)) hB.1.2.1 ?_
    refine Wp_ivs_dl (As := [vi (nI (pN S))]) d_M_shareOf_111 ln_M_240 mk_M_factorial rfl rfl rfl (by omega) (t_M_factorial E (d - 1) (by omega) w (pN S) (by omega)) ?_
    refine Wp_iload_n d_M_shareOf_114 rfl ?_
    refine Wp_ivs_dl (As := [vl (shL S j (wh S + 1)), vl (lN (facS (pN S))), vi a]) d_M_shareOf_115 ln_M_229 mk_M_part rfl rfl rfl (by omega) (t_M_part E (d - 1) (by omega) w (shL S j (wh S + 1)) (facS (pN S)) a (by omega) (by omega) (by omega) (by omega)) ?_
    refine Wp_retl d_M_shareOf_118 rfl ?_
    exact ⟨rfl, rfl⟩
  | succ i ih =>
    intro k u hk
    have hor := or_lt (show k < 2 ^ pN S by omega) hj
    refine Wp_iload d_M_shareOf_33 rfl ?_
    refine Wp_aload_n d_M_shareOf_35 rfl ?_
    refine Wp_ivv_d (o := 33) (As := []) d_M_shareOf_36 ln_M_184 mk_M_whole rfl rfl rfl rfl rfl (by omega) (t_M_whole E (d - 1) (by omega) w S hB.1 hV) ?_
    refine Wp_icmp_gt d_M_shareOf_39 (fun q => absurd (n_lt q (by omega) (by omega)) (by omega)) (fun h39 => ?_)
    refine Wp_iload d_M_shareOf_42 rfl ?_
    refine Wp_iload_n d_M_shareOf_44 rfl ?_
    refine Wp_ivs_b (As := [vi (nI k), vi (nI j)]) d_M_shareOf_45 ln_M_177 mk_M_isIn rfl rfl rfl (by omega) (t_M_isIn E (d - 1) (by omega) w k j (by omega) (by omega)) (fun g45 => ?_) (fun g45 => ?_)
    ·
      refine Wp_if_ne d_M_shareOf_48 (fun _ => ?_) (fun q => absurd q (by decide))
      refine Wp_iinc (z := nI (k + 1)) (ls2 := [lr 33, li (nI j), li a, ll (shL S j k), lo, li (nI (k + 1)), u]) d_M_shareOf_100 rfl (nI_add k 1) rfl rfl rfl ?_
      refine Wp_goto d_M_shareOf_103 ?_
      have h9 := ih (k + 1) u (by omega)
      rw [show shL S j (k + 1) = (if k.testBit j = true then shL S j k else shL S j k + lN (facS (popc k)) * lN (facS (pN S - 1 - popc k)) * (lDiff S j k).toInt64) from rfl, if_pos g45] at h9
      exact h9
    ·
      have hpn := popc_nj hj (show k < 2 ^ pN S by omega) g45
      refine Wp_if_ne d_M_shareOf_48 (fun q => absurd q (by decide)) (fun _ => ?_)
      refine Wp_iload d_M_shareOf_51 rfl ?_
      refine Wp_ivs_d (As := [vi (nI k)]) d_M_shareOf_53 ln_M_173 mk_M_ones rfl rfl rfl (by omega) (t_M_ones E (d - 1) (by omega) w k (by omega)) ?_
      refine Wp_istore (ls2 := [lr 33, li (nI j), li a, ll (shL S j k), lo, li (nI k), li (nI (popc k))]) d_M_shareOf_56 rfl rfl rfl ?_
      refine Wp_lload_n d_M_shareOf_58 rfl ?_
      refine Wp_iload d_M_shareOf_59 rfl ?_
      refine Wp_ivs_dl (As := [vi (nI (popc k))]) d_M_shareOf_61 ln_M_240 mk_M_factorial rfl rfl rfl (by omega) (t_M_factorial E (d - 1) (by omega) w (popc k) (by omega)) ?_
      refine Wp_aload_n d_M_shareOf_64 rfl ?_
      refine Wp_getf d_M_shareOf_65 fd_M_125 rfl rfl rfl ?_
      refine Wp_eqi (x2 := nI (pN S)) hB.1.2.1 ?_
      refine Wp_iconst (x := 1) d_M_shareOf_68 (by decide) ?_
      refine Wp_isub d_M_shareOf_69 ?_
      refine Wp_eqi (x2 := nI (pN S - 1)) (pk_sub (b := 1) (by omega)) ?_
      refine Wp_iload d_M_shareOf_70 rfl ?_
      refine Wp_isub d_M_shareOf_72 ?_
      refine Wp_eqi (x2 := nI (pN S - 1 - popc k)) (pk_sub hpn) ?_
      refine Wp_ivs_dl (As := [vi (nI (pN S - 1 - popc k))]) d_M_shareOf_73 ln_M_240 mk_M_factorial rfl rfl rfl (by omega) (t_M_factorial E (d - 1) (by omega) w (pN S - 1 - popc k) (by omega)) ?_
      refine Wp_lmul d_M_shareOf_76 ?_
      refine Wp_aload_n d_M_shareOf_77 rfl ?_
      refine Wp_getr d_M_shareOf_78 fd_M_68 rfl rfl rfl ?_
      refine Wp_iload d_M_shareOf_81 rfl ?_
      refine Wp_iconst (x := 1) d_M_shareOf_83 (by decide) ?_
      refine Wp_iload_n d_M_shareOf_84 rfl ?_
      refine Wp_ishl d_M_shareOf_85 ?_
      refine Wp_eqi (x2 := nI (2 ^ j)) (sh1 (by omega)) ?_
      refine Wp_ior d_M_shareOf_86 ?_
      refine Wp_eqi (x2 := nI (k ||| (2 ^ j))) (nI_or k (2 ^ j)) ?_
      refine Wp_ialdN (j := (k ||| (2 ^ j))) d_M_shareOf_87 rfl rfl rfl rfl (by omega) ?_
      refine Wp_eqi (x2 := nI (DC S (k ||| 2 ^ j)).1) ((hL _ hor).trans (dayR_f (Fe_all hV gF hor))) ?_
      refine Wp_aload_n d_M_shareOf_88 rfl ?_
      refine Wp_getr d_M_shareOf_89 fd_M_68 rfl rfl rfl ?_
      refine Wp_iload d_M_shareOf_92 rfl ?_
      refine Wp_ialdN (j := k) d_M_shareOf_94 rfl rfl rfl rfl (by omega) ?_
      refine Wp_eqi (x2 := nI (DC S k).1) ((hL k (by omega)).trans (dayR_f (Fe_all hV gF (by omega)))) ?_
      refine Wp_isub d_M_shareOf_95 ?_
      refine Wp_i2l d_M_shareOf_96 ?_
      refine Wp_lmul d_M_shareOf_97 ?_
      refine Wp_ladd d_M_shareOf_98 ?_
      refine Wp_lstore_n (ls2 := [lr 33, li (nI j), li a, ll ((shL S j k) + (((lN (facS (popc k))) * (lN (facS (pN S - 1 - popc k)))) * (((nI (DC S (k ||| 2 ^ j)).1) - (nI (DC S k).1)).toInt64))), lo, li (nI k), li (nI (popc k))]) d_M_shareOf_99 rfl rfl rfl ?_
      refine Wp_iinc (z := nI (k + 1)) (ls2 := [lr 33, li (nI j), li a, ll ((shL S j k) + (((lN (facS (popc k))) * (lN (facS (pN S - 1 - popc k)))) * (((nI (DC S (k ||| 2 ^ j)).1) - (nI (DC S k).1)).toInt64))), lo, li (nI (k + 1)), li (nI (popc k))]) d_M_shareOf_100 rfl (nI_add k 1) rfl rfl rfl ?_
      refine Wp_goto d_M_shareOf_103 ?_
      have h9 := ih (k + 1) (li (nI (popc k))) (by omega)
      rw [show shL S j (k + 1) = (if k.testBit j = true then shL S j k else shL S j k + lN (facS (popc k)) * lN (facS (pN S - 1 - popc k)) * (lDiff S j k).toInt64) from rfl, if_neg g45] at h9
      exact h9
set_option maxRecDepth 100000 in
set_option maxHeartbeats 4000000 in
theorem t_M_shareOf (E : mE) (d : Nat) (hd : 5 ≤ d) (w : mw) (S : mw) (hM : MP w S) (hV : VM S) (j : Nat) (hj : j < pN S) (a : Int32) : Tl E d m_M_shareOf [vr 33, vi (nI j), vi a] w (fun r w1 => r = shareR S j a ∧ fr (53 :: sRows) w w1) := by
  refine ⟨Nat.le_of_ble_eq_true rfl, ?_⟩
  show Wp E d m_M_shareOf 0 [lr 33, li (nI j), li a, lo, lo, lo, lo] [] w _
  have hp10 := (pN_ok S).1
  have hlt := two10 hp10
  have hwl := wh_lt S
  have hwe := wh_1 S
  refine Wp_aload_n d_M_shareOf_0 rfl ?_
  refine Wp_getf d_M_shareOf_1 fd_M_125 rfl rfl rfl ?_
  refine Wp_eqi (x2 := nI (pN S)) hM.2.1 ?_
  refine Wp_bipush (x := 6) d_M_shareOf_4 (by decide) ?_
  refine Wp_icmp_le d_M_shareOf_6 (fun h6 => ?_) (fun h6 => ?_)
  ·
    have g6 : (pN S) ≤ 6 := n_le h6 (by omega) (by omega)
    refine Wp_aload_n d_M_shareOf_15 rfl ?_
    refine Wp_ivv_i (o := 33) (As := []) d_M_shareOf_16 ln_M_237 mk_M_findLeasts rfl rfl rfl rfl rfl (by omega) (t_M_findLeasts E (d - 1) (by omega) w S hM hV) (fun r16 w16 c16 => ?_)
    obtain ⟨gF, hB, fL, hL⟩ := c16
    rcases gF with ⟨jF, gF⟩ | ⟨jF, gF⟩
    ·
      rw [jF]
      refine Wp_if_ne d_M_shareOf_19 (fun _ => ?_) (fun q => absurd q (by decide))
      refine Wp_lconst (x := 0) d_M_shareOf_28 (by decide) ?_
      refine Wp_lstore_n (ls2 := [lr 33, li (nI j), li a, ll 0, lo, lo, lo]) d_M_shareOf_29 rfl rfl rfl ?_
      refine Wp_iconst (x := 0) d_M_shareOf_30 (by decide) ?_
      refine Wp_istore (ls2 := [lr 33, li (nI j), li a, ll 0, lo, li 0, lo]) d_M_shareOf_31 rfl rfl rfl ?_
      refine Wp_ml (l_M_sh E d (by omega) w16 S hB hV hL gF (by omega) j hj a (2 ^ pN S) 0 none (by omega)) (fun r w1 h => ?_)
      rw [h.2]
      exact ⟨by rw [h.1]; unfold shareR; rw [if_neg (by omega), if_neg gF], fL⟩
    ·
      rw [jF]
      refine Wp_if_ne d_M_shareOf_19 (fun q => absurd q (by decide)) (fun _ => ?_)
      refine Wp_bipush (x := (-3)) d_M_shareOf_22 (by decide) ?_
      refine Wp_ivs_dl (As := [vi (-3)]) d_M_shareOf_24 ln_M_225 mk_M_no rfl rfl rfl (by omega) (t_M_noL E (d - 1) w16 (-3) (-9223372036854775805) (by decide)) ?_
      refine Wp_retl d_M_shareOf_27 rfl ?_
      exact ⟨by unfold shareR; rw [if_neg (by omega), if_pos (Classical.byContradiction gF)], fL⟩
  ·
    have g6 : 6 < (pN S) := n_nle h6 (by omega) (by omega)
    refine Wp_bipush (x := (-4)) d_M_shareOf_9 (by decide) ?_
    refine Wp_ivs_dl (As := [vi (-4)]) d_M_shareOf_11 ln_M_225 mk_M_no rfl rfl rfl (by omega) (t_M_noL E (d - 1) w (-4) (-9223372036854775804) (by decide)) ?_
    refine Wp_retl d_M_shareOf_14 rfl ?_
    exact ⟨by unfold shareR; rw [if_pos (by omega)], fr_rf⟩
set_option maxRecDepth 100000 in
set_option maxHeartbeats 4000000 in
theorem t_M_share (E : mE) (d : Nat) (hd : 6 ≤ d) (w : mw) (S : mw) (hM : MM w S) (hV : VM S) (p a : Int32) : Tl E d m_M_share [vr 33, vi p, vi a] w (fun r w1 => r = rShare S p a ∧ MP w1 S ∧ fr mRows w w1) := by
  refine ⟨Nat.le_of_ble_eq_true rfl, ?_⟩
  show Wp E d m_M_share 0 [lr 33, li p, li a] [] w _
  have hp10 := (pN_ok S).1
  have hlt := two10 hp10
  have hwl := wh_lt S
  have hwe := wh_1 S
  refine Wp_aload_n d_M_share_0 rfl ?_
  refine Wp_iload_n d_M_share_1 rfl ?_
  refine Wp_ivv_i (o := 33) (As := [vi p]) d_M_share_2 ln_M_148 mk_M_isPerson rfl rfl rfl rfl rfl (by omega) (t_M_isPerson E (d - 1) (by omega) w S hM hV p) (fun r2 w2 c2 => ?_)
  obtain ⟨gP, hP, fP⟩ := c2
  rcases gP with ⟨j2, gP⟩ | ⟨j2, gP⟩
  ·
    rw [j2]
    obtain ⟨j, hj, rfl⟩ : ∃ j, j < pN S ∧ p = nI j := i_nIof gP.1 gP.2
    refine Wp_if_eq d_M_share_5 (fun q => absurd q (by decide)) (fun _ => ?_)
    refine Wp_iload_n d_M_share_8 rfl ?_
    refine Wp_ivs_b (As := [vi a]) d_M_share_9 ln_M_151 mk_M_isTwo rfl rfl rfl (by omega) (t_M_isTwo E (d - 1) (by omega) w2 a) (fun g9 => ?_) (fun g9 => ?_)
    ·
      refine Wp_if_eq d_M_share_12 (fun q => absurd q (by decide)) (fun _ => ?_)
      refine Wp_aload_n d_M_share_15 rfl ?_
      refine Wp_iload_n d_M_share_16 rfl ?_
      refine Wp_iload_n d_M_share_17 rfl ?_
      refine Wp_ivv_l (o := 33) (As := [vi (nI j), vi a]) d_M_share_18 ln_M_243 mk_M_shareOf rfl rfl rfl rfl rfl (by omega) (t_M_shareOf E (d - 1) (by omega) w2 S hP hV j (by omega) a) (fun r18 w18 c18 => ?_)
      obtain ⟨rW, fW⟩ := c18
      rw [rW]
      refine Wp_goto d_M_share_21 ?_
      refine Wp_retl d_M_share_29 rfl ?_
      exact ⟨by unfold rShare; rw [if_pos ⟨gP, g9⟩, cl (by omega)], MP_fr hP fW (by decide), fr_tr (frF_m fP) (fr_sub fW (by decide))⟩
    ·
      refine Wp_if_eq d_M_share_12 (fun _ => ?_) (fun q => absurd (by decide) q)
      refine Wp_bipush (x := (-2)) d_M_share_24 (by decide) ?_
      refine Wp_ivs_dl (As := [vi (-2)]) d_M_share_26 ln_M_225 mk_M_no rfl rfl rfl (by omega) (t_M_noL E (d - 1) w2 (-2) (-9223372036854775806) (by decide)) ?_
      refine Wp_retl d_M_share_29 rfl ?_
      exact ⟨by unfold rShare; rw [if_neg (by first | exact fun q => gP q.1 | exact fun q => g9 q.2)], hP, frF_m fP⟩
  ·
    rw [j2]
    refine Wp_if_eq d_M_share_5 (fun _ => ?_) (fun q => absurd (by decide) q)
    refine Wp_bipush (x := (-2)) d_M_share_24 (by decide) ?_
    refine Wp_ivs_dl (As := [vi (-2)]) d_M_share_26 ln_M_225 mk_M_no rfl rfl rfl (by omega) (t_M_noL E (d - 1) w2 (-2) (-9223372036854775806) (by decide)) ?_
    refine Wp_retl d_M_share_29 rfl ?_
    exact ⟨by unfold rShare; rw [if_neg (by first | exact fun q => gP q.1 | exact fun q => g9 q.2)], hP, frF_m fP⟩
set_option maxRecDepth 100000 in
set_option maxHeartbeats 4000000 in
theorem l_M_ra2 (E : mE) (d : Nat) (hd : 5 ≤ d) (w S : mw) (hM : MP w S) (s k : Nat) (hs : s < 4) (hk : k < 1024) (Q : Option mv → mw → Prop) (hQ : Wp E d m_M_rather 84 [lr 33, li (nI s), li 0, li (nI k), ll (rsN S s k (pN S)), lo, li (nI (pN S))] [] w Q) : ∀ (i p : Nat), p + i = pN S → Wp E d m_M_rather 38 [lr 33, li (nI s), li 0, li (nI k), ll (rsN S s k p), lo, li (nI p)] [] w Q := by
  intro i
  have hp10 := (pN_ok S).1
  induction i with
  | zero =>
    intro p hp
    refine Wp_iload d_M_rather_38 rfl ?_
    refine Wp_aload_n d_M_rather_40 rfl ?_
    refine Wp_getf d_M_rather_41 fd_M_125 rfl rfl rfl ?_
    refine Wp_eqi (x2 := nI (pN S)) hM.2.1 ?_
    refine Wp_icmp_ge d_M_rather_44 (fun h44 => ?_) (fun q => absurd (n_nle q (by omega) (by omega)) (by omega))
    have hin : p = pN S := by omega
    subst hin
    exact hQ
  | succ i ih =>
    intro p hp
    refine Wp_iload d_M_rather_38 rfl ?_
    refine Wp_aload_n d_M_rather_40 rfl ?_
    refine Wp_getf d_M_rather_41 fd_M_125 rfl rfl rfl ?_
    refine Wp_eqi (x2 := nI (pN S)) hM.2.1 ?_
    refine Wp_icmp_ge d_M_rather_44 (fun q => absurd (n_le q (by omega) (by omega)) (by omega)) (fun h44 => ?_)
    refine Wp_lload d_M_rather_47 rfl ?_
    refine Wp_iload_n d_M_rather_49 rfl ?_
    refine Wp_iload d_M_rather_50 rfl ?_
    refine Wp_ivs_b (As := [vi (nI k), vi (nI p)]) d_M_rather_52 ln_M_177 mk_M_isIn rfl rfl rfl (by omega) (t_M_isIn E (d - 1) (by omega) w k p (by omega) (by omega)) (fun g52 => ?_) (fun g52 => ?_)
    ·
      refine Wp_if_eq d_M_rather_55 (fun q => absurd q (by decide)) (fun _ => ?_)
      refine Wp_aload_n d_M_rather_58 rfl ?_
      refine Wp_getr d_M_rather_59 fd_M_16 rfl rfl rfl ?_
      refine Wp_bipush (x := 60) d_M_rather_62 (by decide) ?_
      refine Wp_iload_n d_M_rather_64 rfl ?_
      refine Wp_imul d_M_rather_65 ?_
      refine Wp_eqi (x2 := nI (60 * s)) (pk_mul 60 s) ?_
      refine Wp_iload d_M_rather_66 rfl ?_
      refine Wp_iadd d_M_rather_68 ?_
      refine Wp_eqi (x2 := nI ((60 * s) + p)) (nI_add (60 * s) p) ?_
      refine Wp_ialdN (j := ((60 * s) + p)) d_M_rather_69 rfl rfl rfl rfl (by omega) ?_
      refine Wp_eqi (x2 := S 36 ((60 * s) + p)) (congrFun (hM.1.r 36) _) ?_
      refine Wp_i2l d_M_rather_70 ?_
      refine Wp_goto d_M_rather_71 ?_
      refine Wp_ladd d_M_rather_75 ?_
      refine Wp_lstore (ls2 := [lr 33, li (nI s), li 0, li (nI k), ll ((rsN S s k p) + ((S 36 ((60 * s) + p)).toInt64)), lo, li (nI p)]) d_M_rather_76 rfl rfl rfl ?_
      refine Wp_iinc (z := nI (p + 1)) (ls2 := [lr 33, li (nI s), li 0, li (nI k), ll ((rsN S s k p) + ((S 36 ((60 * s) + p)).toInt64)), lo, li (nI (p + 1))]) d_M_rather_78 rfl (nI_add p 1) rfl rfl rfl ?_
      refine Wp_goto d_M_rather_81 ?_
      have h9 := ih (p + 1) (by omega)
      rw [show rsN S s k (p + 1) = (if k.testBit p = true then rsN S s k p + (S 36 (60 * s + p)).toInt64 else rsN S s k p) from rfl, if_pos g52] at h9
      exact h9
    ·
      refine Wp_if_eq d_M_rather_55 (fun _ => ?_) (fun q => absurd (by decide) q)
      refine Wp_lconst (x := 0) d_M_rather_74 (by decide) ?_
      refine Wp_ladd d_M_rather_75 ?_
      refine Wp_eql (x2 := rsN S s k p) (Int64.add_zero _) ?_
      refine Wp_lstore (ls2 := [lr 33, li (nI s), li 0, li (nI k), ll (rsN S s k p), lo, li (nI p)]) d_M_rather_76 rfl rfl rfl ?_
      refine Wp_iinc (z := nI (p + 1)) (ls2 := [lr 33, li (nI s), li 0, li (nI k), ll (rsN S s k p), lo, li (nI (p + 1))]) d_M_rather_78 rfl (nI_add p 1) rfl rfl rfl ?_
      refine Wp_goto d_M_rather_81 ?_
      have h9 := ih (p + 1) (by omega)
      rw [show rsN S s k (p + 1) = (if k.testBit p = true then rsN S s k p + (S 36 (60 * s + p)).toInt64 else rsN S s k p) from rfl, if_neg g52] at h9
      exact h9
set_option maxRecDepth 100000 in
set_option maxHeartbeats 4000000 in
theorem l_M_ra1 (E : mE) (d : Nat) (hd : 5 ≤ d) (w S : mw) (hB : MB w S) (hV : VM S) (hL : LsOk w S (2 ^ pN S)) (gF : Fe S (wh S)) (s : Nat) (hs : s < 4) : ∀ (f k : Nat) (u4 u6 : Option mv), k + f = 2 ^ pN S → 1 ≤ k → Wp E d m_M_rather 24 [lr 33, li (nI s), li 0, li (nI k), u4, lo, u6] [] w (mPi (fun r w1 => r = ratF S s f k ∧ w1 = w)) := by
  intro f
  have hp10 := (pN_ok S).1
  have hlt := two10 hp10
  have hwl := wh_lt S
  have hwe := wh_1 S
  induction f with
  | zero =>
    intro k u4 u6 hk hk1
    refine Wp_iload_n d_M_rather_24 rfl ?_
    refine Wp_aload_n d_M_rather_25 rfl ?_
    refine Wp_ivv_d (o := 33) (As := []) d_M_rather_26 ln_M_184 mk_M_whole rfl rfl rfl rfl rfl (by omega) (t_M_whole E (d - 1) (by omega) w S hB.1 hV) ?_
    refine Wp_icmp_gt d_M_rather_29 (fun h29 => ?_) (fun q => absurd (n_nlt q (by omega) (by omega)) (by omega))
    refine Wp_iconst (x := (-1)) d_M_rather_105 (by decide) ?_
    refine Wp_reti (ty := .int) d_M_rather_106 rfl rfl ?_
    exact ⟨rfl, rfl⟩
  | succ f ih =>
    intro k u4 u6 hk hk1
    refine Wp_iload_n d_M_rather_24 rfl ?_
    refine Wp_aload_n d_M_rather_25 rfl ?_
    refine Wp_ivv_d (o := 33) (As := []) d_M_rather_26 ln_M_184 mk_M_whole rfl rfl rfl rfl rfl (by omega) (t_M_whole E (d - 1) (by omega) w S hB.1 hV) ?_
    refine Wp_icmp_gt d_M_rather_29 (fun q => absurd (n_lt q (by omega) (by omega)) (by omega)) (fun h29 => ?_)
    refine Wp_lconst (x := 0) d_M_rather_32 (by decide) ?_
    refine Wp_lstore (ls2 := [lr 33, li (nI s), li 0, li (nI k), ll 0, lo, u6]) d_M_rather_33 rfl rfl rfl ?_
    refine Wp_iconst (x := 0) d_M_rather_35 (by decide) ?_
    refine Wp_istore (ls2 := [lr 33, li (nI s), li 0, li (nI k), ll 0, lo, li 0]) d_M_rather_36 rfl rfl rfl ?_
    refine l_M_ra2 E d (by omega) w S hB.1 s k hs (by omega) _ ?_ (pN S) 0 (by omega)
    refine Wp_lload d_M_rather_84 rfl ?_
    refine Wp_aload_n d_M_rather_86 rfl ?_
    refine Wp_getr d_M_rather_87 fd_M_68 rfl rfl rfl ?_
    refine Wp_iload_n d_M_rather_90 rfl ?_
    refine Wp_ialdN (j := k) d_M_rather_91 rfl rfl rfl rfl (by omega) ?_
    refine Wp_eqi (x2 := nI (DC S k).1) ((hL k (by omega)).trans (dayR_f (Fe_all hV gF (by omega)))) ?_
    refine Wp_i2l d_M_rather_92 ?_
    refine Wp_lcmp d_M_rather_93 ?_
    refine Wp_if_le d_M_rather_94 (fun h94 => ?_) (fun h94 => ?_)
    ·
      have g94 := l_cmp_le h94
      refine Wp_iinc (z := nI (k + 1)) (ls2 := [lr 33, li (nI s), li 0, li (nI (k + 1)), ll (rsN S s k (pN S)), lo, li (nI (pN S))]) d_M_rather_99 rfl (nI_add k 1) rfl rfl rfl ?_
      refine Wp_goto d_M_rather_102 ?_
      rw [ratF, if_neg (by omega)]
      exact ih (k + 1) _ _ (by omega) (by omega)
    ·
      have g94 := l_cmp_nle h94
      refine Wp_iload_n d_M_rather_97 rfl ?_
      refine Wp_reti (ty := .int) d_M_rather_98 rfl rfl ?_
      refine ⟨?_, rfl⟩
      rw [ratF, if_pos g94]
set_option maxRecDepth 100000 in
set_option maxHeartbeats 4000000 in
theorem t_M_rather (E : mE) (d : Nat) (hd : 5 ≤ d) (w : mw) (S : mw) (hM : MM w S) (hV : VM S) (s : Int32) : Ti E d m_M_rather [vr 33, vi s] w (fun r w1 => r = (oRather S s).1 ∧ MM w1 (oRather S s).2 ∧ fr mRows w w1) := by
  refine ⟨Nat.le_of_ble_eq_true rfl, ?_⟩
  show Wp E d m_M_rather 0 [lr 33, li s, lo, lo, lo, lo, lo] [] w _
  refine Wp_aload_n d_M_rather_0 rfl ?_
  refine Wp_iload_n d_M_rather_1 rfl ?_
  refine Wp_ivv_i (o := 33) (As := [vi s]) d_M_rather_2 ln_M_219 mk_M_noDay rfl rfl rfl rfl rfl (by omega) (t_M_noDay E (d - 1) (by omega) w S hM hV s) (fun r2 w2 c2 => ?_)
  rcases c2 with ⟨j2, n1, n2⟩ | ⟨j2, n1, n2, n3⟩ | ⟨j2, n1, n2, n3, hP, fP⟩ | ⟨j2, n1, n2, n3, hP, fP⟩
  ·
    rw [j2, n2]
    refine Wp_istore_n (ls2 := [lr 33, li s, li (-2), lo, lo, lo, lo]) d_M_rather_5 rfl rfl rfl ?_
    refine Wp_iload_n d_M_rather_6 rfl ?_
    refine Wp_if_eq d_M_rather_7 (fun q => absurd q (by decide)) (fun _ => ?_)
    refine Wp_iload_n d_M_rather_10 rfl ?_
    refine Wp_reti (ty := .int) d_M_rather_11 rfl rfl ?_
    have e9 : oRather S s = (-2, S) := by unfold oRather; rw [if_pos n1]
    rw [e9]; exact ⟨rfl, hM, fr_rf⟩
  ·
    rw [j2, n3]
    refine Wp_istore_n (ls2 := [lr 33, li s, li (-11), lo, lo, lo, lo]) d_M_rather_5 rfl rfl rfl ?_
    refine Wp_iload_n d_M_rather_6 rfl ?_
    refine Wp_if_eq d_M_rather_7 (fun q => absurd q (by decide)) (fun _ => ?_)
    refine Wp_iload_n d_M_rather_10 rfl ?_
    refine Wp_reti (ty := .int) d_M_rather_11 rfl rfl ?_
    have e9 : oRather S s = (-11, mU S 33 4 1) := by unfold oRather; rw [if_neg (fun q => q n1), if_pos n2]
    rw [e9]; exact ⟨rfl, MM_f hM, fr_U (by decide)⟩
  ·
    rw [j2]
    refine Wp_istore_n (ls2 := [lr 33, li s, li (-3), lo, lo, lo, lo]) d_M_rather_5 rfl rfl rfl ?_
    refine Wp_iload_n d_M_rather_6 rfl ?_
    refine Wp_if_eq d_M_rather_7 (fun q => absurd q (by decide)) (fun _ => ?_)
    refine Wp_iload_n d_M_rather_10 rfl ?_
    refine Wp_reti (ty := .int) d_M_rather_11 rfl rfl ?_
    have e9 : oRather S s = (-3, S) := by unfold oRather; rw [if_neg (fun q => q n1), if_neg n2, if_pos (Or.inl n3)]
    rw [e9]; exact ⟨rfl, hP.1, frF_m fP⟩
  ·
    rw [j2]
    obtain ⟨s1, h_s1, rfl⟩ := sh_of n1
    rw [cl (by omega)] at n2 n3
    refine Wp_istore_n (ls2 := [lr 33, li (nI s1), li 0, lo, lo, lo, lo]) d_M_rather_5 rfl rfl rfl ?_
    refine Wp_iload_n d_M_rather_6 rfl ?_
    refine Wp_if_eq d_M_rather_7 (fun _ => ?_) (fun q => absurd (by decide) q)
    refine Wp_aload_n d_M_rather_12 rfl ?_
    refine Wp_ivv_i (o := 33) (As := []) d_M_rather_13 ln_M_237 mk_M_findLeasts rfl rfl rfl rfl rfl (by omega) (t_M_findLeasts E (d - 1) (by omega) w2 S hP hV) (fun r13 w13 c13 => ?_)
    obtain ⟨gF, hB, fL, hL⟩ := c13
    rcases gF with ⟨jF, gF⟩ | ⟨jF, gF⟩
    ·
      rw [jF]
      refine Wp_if_ne d_M_rather_16 (fun _ => ?_) (fun q => absurd q (by decide))
      refine Wp_iconst (x := 1) d_M_rather_22 (by decide) ?_
      refine Wp_istore_n (ls2 := [lr 33, li (nI s1), li 0, li 1, lo, lo, lo]) d_M_rather_23 rfl rfl rfl ?_
      have hwe := wh_1 S
      refine Wp_mi (l_M_ra1 E d (by omega) w13 S hB hV hL gF s1 (by omega) (wh S) 1 none none (by omega) (by omega)) (fun r w2 h => ?_)
      have e9 : oRather S (nI s1) = (ratF S s1 (wh S) 1, S) := by unfold oRather; rw [if_neg (fun q => q n1), cl (by omega), if_neg n2, if_neg (fun q => q.elim (fun q => by omega) (fun q => gF q))]
      rw [e9, h.2]; exact ⟨h.1, MM_fr hP.1 fL (by decide), fr_tr (frF_m fP) (fr_sub fL (by decide))⟩
    ·
      rw [jF]
      refine Wp_if_ne d_M_rather_16 (fun q => absurd q (by decide)) (fun _ => ?_)
      refine Wp_bipush (x := (-3)) d_M_rather_19 (by decide) ?_
      refine Wp_reti (ty := .int) d_M_rather_21 rfl rfl ?_
      have e9 : oRather S (nI s1) = (-3, S) := by unfold oRather; rw [if_neg (fun q => q n1), cl (by omega), if_neg n2, if_pos (Or.inr (Classical.byContradiction gF))]
      rw [e9]; exact ⟨rfl, MM_fr hP.1 fL (by decide), fr_tr (frF_m fP) (fr_sub fL (by decide))⟩
