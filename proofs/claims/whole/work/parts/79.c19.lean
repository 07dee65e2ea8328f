set_option maxRecDepth 100000 in
set_option maxHeartbeats 4000000 in
theorem t_F_back (E : mE) (d : Nat) (hd : 26 ≤ d) (w : mw) (S : mw) (hC : CC w S) (hV : VM S) : Ti E d m_F_back [vr 0] w (fun r w1 => r = backR S ∧ CC w1 S ∧ fr cRows w w1) := by
  refine ⟨Nat.le_of_ble_eq_true rfl, ?_⟩
  show Wp E d m_F_back 0 [lr 0] [] w _
  have hP := CC_PR hC
  have hp10 := (pN_ok S).1
  have h1024 := two10 hp10
  have hwl := wh_lt S
  have hwe := wh_1 S
  refine Wp_aload_n d_F_back_0 rfl ?_
  refine Wp_getr d_F_back_1 fd_F_10 rfl rfl rfl ?_
  refine Wp_getf d_F_back_4 fd_F_177 rfl rfl rfl ?_
  refine Wp_eqi (x2 := nI (pN S)) hP.2.1.1 ?_
  refine Wp_bipush (x := 8) d_F_back_7 (by decide) ?_
  refine Wp_icmp_le d_F_back_9 (fun h9 => ?_) (fun h9 => ?_)
  ·
    have g9 : (pN S) ≤ 8 := n_le h9 (by omega) (by omega)
    refine Wp_aload_n d_F_back_15 rfl ?_
    refine Wp_getr d_F_back_16 fd_F_28 rfl rfl rfl ?_
    refine Wp_ivv_v (o := 12) (As := []) d_F_back_19 ln_F_162 mk_D_bringUpToDate rfl rfl rfl rfl rfl (by omega) (t_D_bringUpToDate E (d - 1) (by omega) w S hC hV) (fun w19 c19 => ?_)
    obtain ⟨hC2, z2, fB⟩ := c19
    have hP2 := CC_PR hC2
    have h15 := FT_15 hC2 z2
    have h16 := FT_16 hC2 z2
    have fBc : fr cRows w w19 := fr_sub fB (by decide)
    refine Wp_aload_n d_F_back_22 rfl ?_
    refine Wp_getr d_F_back_23 fd_F_37 rfl rfl rfl ?_
    refine Wp_aload_n d_F_back_26 rfl ?_
    refine Wp_getr d_F_back_27 fd_F_10 rfl rfl rfl ?_
    refine Wp_ivv_d (o := 1) (As := []) d_F_back_30 ln_F_180 mk_P_everyone rfl rfl rfl rfl rfl (by omega) (t_P_everyone E (d - 1) (by omega) w19 (pN S) hP2.2.1.1 (pN_ok S).1) ?_
    refine Wp_ivv_i (o := 17) (As := [vi (nI (wh S))]) d_F_back_33 ln_F_223 mk_T_leastThereAndBack rfl rfl rfl rfl rfl (by omega) (t_T_leastThereAndBack E (d - 1) (by omega) w19 S hV (by omega) (FT_tab hC2 z2).2.1 h15) (fun r33 w33 c33 => ?_)
    obtain ⟨e1, f5⟩ := c33
    rw [e1]
    refine Wp_reti (ty := .int) d_F_back_36 rfl rfl ?_
    refine ⟨rfl, CC_d hC2 (fr_sub f5 (by decide)) (CDd_eq hC2.2.2.2.2.2.2 (fun k a b => f5 k (by simp; omega)) ⟨⟨rfl, rfl, rfl⟩, ⟨rfl, rfl⟩, rfl, rfl, rfl⟩), fr_tr fBc (fr_sub f5 (by decide))⟩
  ·
    have g9 : 8 < (pN S) := n_nle h9 (by omega) (by omega)
    refine Wp_bipush (x := (-4)) d_F_back_12 (by decide) ?_
    refine Wp_reti (ty := .int) d_F_back_14 rfl rfl ?_
    exact ⟨by unfold backR; rw [if_pos (by omega)], hC, fr_rf⟩
set_option maxRecDepth 100000 in
set_option maxHeartbeats 4000000 in
theorem l_F_dg (E : mE) (d : Nat) (hd : 27 ≤ d) (w S : mw) (hV : VM S) : ∀ (k p : Nat) (v : mw) (u4 : Option mv), p + k = pN S → CC v S → fr cRows w v → Wp E d m_F_digest 45 [lr 0, ll (dgL S p), lo, li (nI p), u4] [] v (mPl (fun r w1 => r = digS S ∧ CC w1 S ∧ fr cRows w w1)) := by
  intro k
  have hp10 := (pN_ok S).1
  induction k with
  | zero =>
    intro p v u4 hk hC hf
    have hpp : p = pN S := by omega
    subst hpp
    refine Wp_iload_n d_F_digest_45 rfl ?_
    refine Wp_aload_n d_F_digest_46 rfl ?_
    refine Wp_getr d_F_digest_47 fd_F_10 rfl rfl rfl ?_
    refine Wp_getf d_F_digest_50 fd_F_177 rfl rfl rfl ?_
    refine Wp_eqi (x2 := nI (pN S)) hC.2.1.1 ?_
    refine Wp_icmp_ge d_F_digest_53 (fun h53 => ?_) (fun q => absurd (n_nle q (by omega) (by omega)) (by omega))
    refine Wp_iconst (x := 0) d_F_digest_199 (by decide) ?_
    refine Wp_istore_n (ls2 := [lr 0, ll (dgL S (pN S)), lo, li 0, u4]) d_F_digest_200 rfl rfl rfl ?_
    refine Wp_iload_n d_F_digest_201 rfl ?_
    refine Wp_iconst (x := 2) d_F_digest_202 (by decide) ?_
    refine Wp_icmp_gt d_F_digest_203 (fun q => absurd q (by decide)) (fun _ => ?_)
    refine Wp_ldc2 (x := 31) d_F_digest_206 kl_F_300 ?_
    refine Wp_lload_n d_F_digest_209 rfl ?_
    refine Wp_lmul d_F_digest_210 ?_
    refine Wp_aload_n d_F_digest_211 rfl ?_
    refine Wp_aload_n d_F_digest_212 rfl ?_
    refine Wp_getr d_F_digest_213 fd_F_10 rfl rfl rfl ?_
    refine Wp_ivv_d (o := 1) (As := []) d_F_digest_216 ln_F_180 mk_P_everyone rfl rfl rfl rfl rfl (by omega) (t_P_everyone E (d - 1) (by omega) v (pN S) hC.2.1.1 (pN_ok S).1) ?_
    refine Wp_iload_n d_F_digest_219 rfl ?_
    refine Wp_ivv_i (o := 0) (As := [vi (nI (wh S)), vi 0]) d_F_digest_220 ln_F_324 mk_F_day rfl rfl rfl rfl rfl (by omega) (t_F_day E (d - 1) (by omega) v S hC hV (nI (wh S)) 0) (fun r220 v220_0 c220 => ?_)
    obtain ⟨e220_0, hC220_0, f220_0⟩ := c220
    have F220_0 : fr cRows w v220_0 := fr_tr hf f220_0
    rw [e220_0, rDay_w (by decide)]
    refine Wp_i2l d_F_digest_223 ?_
    refine Wp_ladd d_F_digest_224 ?_
    refine Wp_lstore_n (ls2 := [lr 0, ll ((31 * (dgL S (pN S))) + ((dayR S (wh S) 0).toInt64)), lo, li 0, u4]) d_F_digest_225 rfl rfl rfl ?_
    refine Wp_iinc (z := 1) (ls2 := [lr 0, ll ((31 * (dgL S (pN S))) + ((dayR S (wh S) 0).toInt64)), lo, li 1, u4]) d_F_digest_226 rfl (by decide) rfl rfl rfl ?_
    refine Wp_goto d_F_digest_229 ?_
    refine Wp_iload_n d_F_digest_201 rfl ?_
    refine Wp_iconst (x := 2) d_F_digest_202 (by decide) ?_
    refine Wp_icmp_gt d_F_digest_203 (fun q => absurd q (by decide)) (fun _ => ?_)
    refine Wp_ldc2 (x := 31) d_F_digest_206 kl_F_300 ?_
    refine Wp_lload_n d_F_digest_209 rfl ?_
    refine Wp_lmul d_F_digest_210 ?_
    refine Wp_aload_n d_F_digest_211 rfl ?_
    refine Wp_aload_n d_F_digest_212 rfl ?_
    refine Wp_getr d_F_digest_213 fd_F_10 rfl rfl rfl ?_
    refine Wp_ivv_d (o := 1) (As := []) d_F_digest_216 ln_F_180 mk_P_everyone rfl rfl rfl rfl rfl (by omega) (t_P_everyone E (d - 1) (by omega) v220_0 (pN S) hC220_0.2.1.1 (pN_ok S).1) ?_
    refine Wp_iload_n d_F_digest_219 rfl ?_
    refine Wp_ivv_i (o := 0) (As := [vi (nI (wh S)), vi 1]) d_F_digest_220 ln_F_324 mk_F_day rfl rfl rfl rfl rfl (by omega) (t_F_day E (d - 1) (by omega) v220_0 S hC220_0 hV (nI (wh S)) 1) (fun r220 v220_1 c220 => ?_)
    obtain ⟨e220_1, hC220_1, f220_1⟩ := c220
    have F220_1 : fr cRows w v220_1 := fr_tr F220_0 f220_1
    rw [e220_1, rDay_w (by decide)]
    refine Wp_i2l d_F_digest_223 ?_
    refine Wp_ladd d_F_digest_224 ?_
    refine Wp_lstore_n (ls2 := [lr 0, ll ((31 * ((31 * (dgL S (pN S))) + ((dayR S (wh S) 0).toInt64))) + ((dayR S (wh S) 1).toInt64)), lo, li 1, u4]) d_F_digest_225 rfl rfl rfl ?_
    refine Wp_iinc (z := 2) (ls2 := [lr 0, ll ((31 * ((31 * (dgL S (pN S))) + ((dayR S (wh S) 0).toInt64))) + ((dayR S (wh S) 1).toInt64)), lo, li 2, u4]) d_F_digest_226 rfl (by decide) rfl rfl rfl ?_
    refine Wp_goto d_F_digest_229 ?_
    refine Wp_iload_n d_F_digest_201 rfl ?_
    refine Wp_iconst (x := 2) d_F_digest_202 (by decide) ?_
    refine Wp_icmp_gt d_F_digest_203 (fun q => absurd q (by decide)) (fun _ => ?_)
    refine Wp_ldc2 (x := 31) d_F_digest_206 kl_F_300 ?_
    refine Wp_lload_n d_F_digest_209 rfl ?_
    refine Wp_lmul d_F_digest_210 ?_
    refine Wp_aload_n d_F_digest_211 rfl ?_
    refine Wp_aload_n d_F_digest_212 rfl ?_
    refine Wp_getr d_F_digest_213 fd_F_10 rfl rfl rfl ?_
    refine Wp_ivv_d (o := 1) (As := []) d_F_digest_216 ln_F_180 mk_P_everyone rfl rfl rfl rfl rfl (by omega) (t_P_everyone E (d - 1) (by omega) v220_1 (pN S) hC220_1.2.1.1 (pN_ok S).1) ?_
    refine Wp_iload_n d_F_digest_219 rfl ?_
    refine Wp_ivv_i (o := 0) (As := [vi (nI (wh S)), vi 2]) d_F_digest_220 ln_F_324 mk_F_day rfl rfl rfl rfl rfl (by omega) (t_F_day E (d - 1) (by omega) v220_1 S hC220_1 hV (nI (wh S)) 2) (fun r220 v220_2 c220 => ?_)
    obtain ⟨e220_2, hC220_2, f220_2⟩ := c220
    have F220_2 : fr cRows w v220_2 := fr_tr F220_1 f220_2
    rw [e220_2, rDay_w (by decide)]
    refine Wp_i2l d_F_digest_223 ?_
    refine Wp_ladd d_F_digest_224 ?_
    refine Wp_lstore_n (ls2 := [lr 0, ll ((31 * ((31 * ((31 * (dgL S (pN S))) + ((dayR S (wh S) 0).toInt64))) + ((dayR S (wh S) 1).toInt64))) + ((dayR S (wh S) 2).toInt64)), lo, li 2, u4]) d_F_digest_225 rfl rfl rfl ?_
    refine Wp_iinc (z := 3) (ls2 := [lr 0, ll ((31 * ((31 * ((31 * (dgL S (pN S))) + ((dayR S (wh S) 0).toInt64))) + ((dayR S (wh S) 1).toInt64))) + ((dayR S (wh S) 2).toInt64)), lo, li 3, u4]) d_F_digest_226 rfl (by decide) rfl rfl rfl ?_
    refine Wp_goto d_F_digest_229 ?_
    refine Wp_iload_n d_F_digest_201 rfl ?_
    refine Wp_iconst (x := 2) d_F_digest_202 (by decide) ?_
    refine Wp_icmp_gt d_F_digest_203 (fun _ => ?_) (fun q => absurd (by decide) q)
    refine Wp_ldc2 (x := 31) d_F_digest_232 kl_F_300 ?_
    refine Wp_lload_n d_F_digest_235 rfl ?_
    refine Wp_lmul d_F_digest_236 ?_
    refine Wp_aload_n d_F_digest_237 rfl ?_
    refine Wp_ivv_i (o := 0) (As := []) d_F_digest_238 ln_F_327 mk_F_odd rfl rfl rfl rfl rfl (by omega) (t_F_odd E (d - 1) (by omega) v220_2 S hC220_2 hV ) (fun r238 v238_3 c238 => ?_)
    obtain ⟨e238_3, hC238_3, f238_3⟩ := c238
    have F238_3 : fr cRows w v238_3 := fr_tr F220_2 f238_3
    rw [e238_3]
    refine Wp_i2l d_F_digest_241 ?_
    refine Wp_ladd d_F_digest_242 ?_
    refine Wp_lstore_n (ls2 := [lr 0, ll ((31 * ((31 * ((31 * ((31 * (dgL S (pN S))) + ((dayR S (wh S) 0).toInt64))) + ((dayR S (wh S) 1).toInt64))) + ((dayR S (wh S) 2).toInt64))) + ((oddR S).toInt64)), lo, li 3, u4]) d_F_digest_243 rfl rfl rfl ?_
    refine Wp_ldc2 (x := 31) d_F_digest_244 kl_F_300 ?_
    refine Wp_lload_n d_F_digest_247 rfl ?_
    refine Wp_lmul d_F_digest_248 ?_
    refine Wp_aload_n d_F_digest_249 rfl ?_
    refine Wp_ivv_i (o := 0) (As := []) d_F_digest_250 ln_F_330 mk_F_back rfl rfl rfl rfl rfl (by omega) (t_F_back E (d - 1) (by omega) v238_3 S hC238_3 hV ) (fun r250 v250_4 c250 => ?_)
    obtain ⟨e250_4, hC250_4, f250_4⟩ := c250
    have F250_4 : fr cRows w v250_4 := fr_tr F238_3 f250_4
    rw [e250_4]
    refine Wp_i2l d_F_digest_253 ?_
    refine Wp_ladd d_F_digest_254 ?_
    refine Wp_lstore_n (ls2 := [lr 0, ll ((31 * ((31 * ((31 * ((31 * ((31 * (dgL S (pN S))) + ((dayR S (wh S) 0).toInt64))) + ((dayR S (wh S) 1).toInt64))) + ((dayR S (wh S) 2).toInt64))) + ((oddR S).toInt64))) + ((backR S).toInt64)), lo, li 3, u4]) d_F_digest_255 rfl rfl rfl ?_
    refine Wp_ldc2 (x := 31) d_F_digest_256 kl_F_300 ?_
    refine Wp_lload_n d_F_digest_259 rfl ?_
    refine Wp_lmul d_F_digest_260 ?_
    refine Wp_aload_n d_F_digest_261 rfl ?_
    refine Wp_bipush (x := 7) d_F_digest_262 (by decide) ?_
    refine Wp_ivv_i (o := 0) (As := [vi 7]) d_F_digest_264 ln_F_333 mk_F_lot rfl rfl rfl rfl rfl (by omega) (t_F_lot E (d - 1) (by omega) v250_4 S hC250_4 hV 7) (fun r264 v264_5 c264 => ?_)
    obtain ⟨e264_5, hC264_5, f264_5⟩ := c264
    have F264_5 : fr cRows w v264_5 := fr_tr F250_4 f264_5
    rw [e264_5]
    refine Wp_i2l d_F_digest_267 ?_
    refine Wp_ladd d_F_digest_268 ?_
    refine Wp_retl d_F_digest_269 rfl ?_
    exact ⟨rfl, hC264_5, F264_5⟩
  | succ k ih =>
    intro p v u4 hk hC hf
    have hp : p < pN S := by omega
    refine Wp_iload_n d_F_digest_45 rfl ?_
    refine Wp_aload_n d_F_digest_46 rfl ?_
    refine Wp_getr d_F_digest_47 fd_F_10 rfl rfl rfl ?_
    refine Wp_getf d_F_digest_50 fd_F_177 rfl rfl rfl ?_
    refine Wp_eqi (x2 := nI (pN S)) hC.2.1.1 ?_
    refine Wp_icmp_ge d_F_digest_53 (fun q => absurd (n_le q (by omega) (by omega)) (by omega)) (fun h53 => ?_)
    refine Wp_ldc2 (x := 31) d_F_digest_56 kl_F_300 ?_
    refine Wp_lload_n d_F_digest_59 rfl ?_
    refine Wp_lmul d_F_digest_60 ?_
    refine Wp_aload_n d_F_digest_61 rfl ?_
    refine Wp_iload_n d_F_digest_62 rfl ?_
    refine Wp_iconst (x := 0) d_F_digest_63 (by decide) ?_
    refine Wp_ivv_d (o := 0) (As := [vi (nI p), vi 0]) d_F_digest_64 ln_F_307 mk_F_person rfl rfl rfl rfl rfl (by omega) (by have h := t_F_person E (d - 1) (by omega) v S (CC_PR hC) hV (nI p) 0; rw [rPerson_0 hp] at h; exact h) ?_
    refine Wp_i2l d_F_digest_67 ?_
    refine Wp_ladd d_F_digest_68 ?_
    refine Wp_lstore_n (ls2 := [lr 0, ll ((31 * (dgL S p)) + ((nI (pA S p)).toInt64)), lo, li (nI p), u4]) d_F_digest_69 rfl rfl rfl ?_
    refine Wp_ldc2 (x := 31) d_F_digest_70 kl_F_300 ?_
    refine Wp_lload_n d_F_digest_73 rfl ?_
    refine Wp_lmul d_F_digest_74 ?_
    refine Wp_aload_n d_F_digest_75 rfl ?_
    refine Wp_iload_n d_F_digest_76 rfl ?_
    refine Wp_iconst (x := 1) d_F_digest_77 (by decide) ?_
    refine Wp_ivv_d (o := 0) (As := [vi (nI p), vi 1]) d_F_digest_78 ln_F_307 mk_F_person rfl rfl rfl rfl rfl (by omega) (by have h := t_F_person E (d - 1) (by omega) v S (CC_PR hC) hV (nI p) 1; rw [rPerson_1 hp] at h; exact h) ?_
    refine Wp_i2l d_F_digest_81 ?_
    refine Wp_ladd d_F_digest_82 ?_
    refine Wp_lstore_n (ls2 := [lr 0, ll ((31 * ((31 * (dgL S p)) + ((nI (pA S p)).toInt64))) + ((nI (tld S p)).toInt64)), lo, li (nI p), u4]) d_F_digest_83 rfl rfl rfl ?_
    refine Wp_ldc2 (x := 31) d_F_digest_84 kl_F_300 ?_
    refine Wp_lload_n d_F_digest_87 rfl ?_
    refine Wp_lmul d_F_digest_88 ?_
    refine Wp_aload_n d_F_digest_89 rfl ?_
    refine Wp_iload_n d_F_digest_90 rfl ?_
    refine Wp_ivv_i (o := 0) (As := [vi (nI p)]) d_F_digest_91 ln_F_310 mk_F_with rfl rfl rfl rfl rfl (by omega) (t_F_with E (d - 1) (by omega) v S hC hV (nI p)) (fun r91 v91_0 c91 => ?_)
    obtain ⟨e91_0, hC91_0, f91_0⟩ := c91
    have F91_0 : fr cRows w v91_0 := fr_tr hf f91_0
    rw [e91_0, rWith_p hp]
    refine Wp_i2l d_F_digest_94 ?_
    refine Wp_ladd d_F_digest_95 ?_
    refine Wp_lstore_n (ls2 := [lr 0, ll ((31 * ((31 * ((31 * (dgL S p)) + ((nI (pA S p)).toInt64))) + ((nI (tld S p)).toInt64))) + ((withR S p).toInt64)), lo, li (nI p), u4]) d_F_digest_96 rfl rfl rfl ?_
    refine Wp_ldc2 (x := 31) d_F_digest_97 kl_F_300 ?_
    refine Wp_lload_n d_F_digest_100 rfl ?_
    refine Wp_lmul d_F_digest_101 ?_
    refine Wp_aload_n d_F_digest_102 rfl ?_
    refine Wp_iload_n d_F_digest_103 rfl ?_
    refine Wp_iconst (x := 0) d_F_digest_104 (by decide) ?_
    refine Wp_ivv_l (o := 0) (As := [vi (nI p), vi 0]) d_F_digest_105 ln_F_313 mk_F_pays rfl rfl rfl rfl rfl (by omega) (t_F_pays E (d - 1) (by omega) v91_0 S hC91_0 hV (nI p) 0) (fun r105 v105_1 c105 => ?_)
    obtain ⟨e105_1, hC105_1, f105_1⟩ := c105
    have F105_1 : fr cRows w v105_1 := fr_tr F91_0 f105_1
    rw [e105_1, rPays_p hp (by decide)]
    refine Wp_ladd d_F_digest_108 ?_
    refine Wp_lstore_n (ls2 := [lr 0, ll ((31 * ((31 * ((31 * ((31 * (dgL S p)) + ((nI (pA S p)).toInt64))) + ((nI (tld S p)).toInt64))) + ((withR S p).toInt64))) + (paysR S p 0)), lo, li (nI p), u4]) d_F_digest_109 rfl rfl rfl ?_
    refine Wp_ldc2 (x := 31) d_F_digest_110 kl_F_300 ?_
    refine Wp_lload_n d_F_digest_113 rfl ?_
    refine Wp_lmul d_F_digest_114 ?_
    refine Wp_aload_n d_F_digest_115 rfl ?_
    refine Wp_iload_n d_F_digest_116 rfl ?_
    refine Wp_iconst (x := 1) d_F_digest_117 (by decide) ?_
    refine Wp_ivv_l (o := 0) (As := [vi (nI p), vi 1]) d_F_digest_118 ln_F_313 mk_F_pays rfl rfl rfl rfl rfl (by omega) (t_F_pays E (d - 1) (by omega) v105_1 S hC105_1 hV (nI p) 1) (fun r118 v118_2 c118 => ?_)
    obtain ⟨e118_2, hC118_2, f118_2⟩ := c118
    have F118_2 : fr cRows w v118_2 := fr_tr F105_1 f118_2
    rw [e118_2, rPays_p hp (by decide)]
    refine Wp_ladd d_F_digest_121 ?_
    refine Wp_lstore_n (ls2 := [lr 0, ll ((31 * ((31 * ((31 * ((31 * ((31 * (dgL S p)) + ((nI (pA S p)).toInt64))) + ((nI (tld S p)).toInt64))) + ((withR S p).toInt64))) + (paysR S p 0))) + (paysR S p 1)), lo, li (nI p), u4]) d_F_digest_122 rfl rfl rfl ?_
    refine Wp_ldc2 (x := 31) d_F_digest_123 kl_F_300 ?_
    refine Wp_lload_n d_F_digest_126 rfl ?_
    refine Wp_lmul d_F_digest_127 ?_
    refine Wp_aload_n d_F_digest_128 rfl ?_
    refine Wp_iload_n d_F_digest_129 rfl ?_
    refine Wp_iconst (x := 0) d_F_digest_130 (by decide) ?_
    refine Wp_ivv_l (o := 0) (As := [vi (nI p), vi 0]) d_F_digest_131 ln_F_317 mk_F_share rfl rfl rfl rfl rfl (by omega) (t_F_share E (d - 1) (by omega) v118_2 S hC118_2 hV (nI p) 0) (fun r131 v131_3 c131 => ?_)
    obtain ⟨e131_3, hC131_3, f131_3⟩ := c131
    have F131_3 : fr cRows w v131_3 := fr_tr F118_2 f131_3
    rw [e131_3, rShare_p hp (by decide)]
    refine Wp_ladd d_F_digest_134 ?_
    refine Wp_lstore_n (ls2 := [lr 0, ll ((31 * ((31 * ((31 * ((31 * ((31 * ((31 * (dgL S p)) + ((nI (pA S p)).toInt64))) + ((nI (tld S p)).toInt64))) + ((withR S p).toInt64))) + (paysR S p 0))) + (paysR S p 1))) + (shareR S p 0)), lo, li (nI p), u4]) d_F_digest_135 rfl rfl rfl ?_
    refine Wp_ldc2 (x := 31) d_F_digest_136 kl_F_300 ?_
    refine Wp_lload_n d_F_digest_139 rfl ?_
    refine Wp_lmul d_F_digest_140 ?_
    refine Wp_aload_n d_F_digest_141 rfl ?_
    refine Wp_iload_n d_F_digest_142 rfl ?_
    refine Wp_iconst (x := 1) d_F_digest_143 (by decide) ?_
    refine Wp_ivv_l (o := 0) (As := [vi (nI p), vi 1]) d_F_digest_144 ln_F_317 mk_F_share rfl rfl rfl rfl rfl (by omega) (t_F_share E (d - 1) (by omega) v131_3 S hC131_3 hV (nI p) 1) (fun r144 v144_4 c144 => ?_)
    obtain ⟨e144_4, hC144_4, f144_4⟩ := c144
    have F144_4 : fr cRows w v144_4 := fr_tr F131_3 f144_4
    rw [e144_4, rShare_p hp (by decide)]
    refine Wp_ladd d_F_digest_147 ?_
    refine Wp_lstore_n (ls2 := [lr 0, ll ((31 * ((31 * ((31 * ((31 * ((31 * ((31 * ((31 * (dgL S p)) + ((nI (pA S p)).toInt64))) + ((nI (tld S p)).toInt64))) + ((withR S p).toInt64))) + (paysR S p 0))) + (paysR S p 1))) + (shareR S p 0))) + (shareR S p 1)), lo, li (nI p), u4]) d_F_digest_148 rfl rfl rfl ?_
    refine Wp_ldc2 (x := 31) d_F_digest_149 kl_F_300 ?_
    refine Wp_lload_n d_F_digest_152 rfl ?_
    refine Wp_lmul d_F_digest_153 ?_
    refine Wp_aload_n d_F_digest_154 rfl ?_
    refine Wp_iload_n d_F_digest_155 rfl ?_
    refine Wp_iconst (x := 3) d_F_digest_156 (by decide) ?_
    refine Wp_ivv_i (o := 0) (As := [vi (nI p), vi 3]) d_F_digest_157 ln_F_320 mk_F_lies rfl rfl rfl rfl rfl (by omega) (t_F_lies E (d - 1) (by omega) v144_4 S hC144_4 hV (nI p) 3) (fun r157 v157_5 c157 => ?_)
    obtain ⟨e157_5, hC157_5, f157_5⟩ := c157
    have F157_5 : fr cRows w v157_5 := fr_tr F144_4 f157_5
    rw [e157_5, rLies_p hp]
    refine Wp_i2l d_F_digest_160 ?_
    refine Wp_ladd d_F_digest_161 ?_
    refine Wp_lstore_n (ls2 := [lr 0, ll ((31 * ((31 * ((31 * ((31 * ((31 * ((31 * ((31 * ((31 * (dgL S p)) + ((nI (pA S p)).toInt64))) + ((nI (tld S p)).toInt64))) + ((withR S p).toInt64))) + (paysR S p 0))) + (paysR S p 1))) + (shareR S p 0))) + (shareR S p 1))) + ((liesR S p 3).toInt64)), lo, li (nI p), u4]) d_F_digest_162 rfl rfl rfl ?_
    refine Wp_iconst (x := 0) d_F_digest_163 (by decide) ?_
    refine Wp_istore (ls2 := [lr 0, ll ((31 * ((31 * ((31 * ((31 * ((31 * ((31 * ((31 * ((31 * (dgL S p)) + ((nI (pA S p)).toInt64))) + ((nI (tld S p)).toInt64))) + ((withR S p).toInt64))) + (paysR S p 0))) + (paysR S p 1))) + (shareR S p 0))) + (shareR S p 1))) + ((liesR S p 3).toInt64)), lo, li (nI p), li 0]) d_F_digest_164 rfl rfl rfl ?_
    refine Wp_iload d_F_digest_166 rfl ?_
    refine Wp_iconst (x := 2) d_F_digest_168 (by decide) ?_
    refine Wp_icmp_gt d_F_digest_169 (fun q => absurd q (by decide)) (fun _ => ?_)
    refine Wp_ldc2 (x := 31) d_F_digest_172 kl_F_300 ?_
    refine Wp_lload_n d_F_digest_175 rfl ?_
    refine Wp_lmul d_F_digest_176 ?_
    refine Wp_aload_n d_F_digest_177 rfl ?_
    refine Wp_iload_n d_F_digest_178 rfl ?_
    refine Wp_iload d_F_digest_179 rfl ?_
    refine Wp_ivv_d (o := 0) (As := [vi (nI p), vi 0]) d_F_digest_181 ln_F_322 mk_F_ages rfl rfl rfl rfl rfl (by omega) (by have h := t_F_ages E (d - 1) (by omega) v157_5 S hC157_5 hV (nI p) 0; rw [rAges_p hp (by decide)] at h; exact h) ?_
    refine Wp_i2l d_F_digest_184 ?_
    refine Wp_ladd d_F_digest_185 ?_
    refine Wp_lstore_n (ls2 := [lr 0, ll ((31 * ((31 * ((31 * ((31 * ((31 * ((31 * ((31 * ((31 * ((31 * (dgL S p)) + ((nI (pA S p)).toInt64))) + ((nI (tld S p)).toInt64))) + ((withR S p).toInt64))) + (paysR S p 0))) + (paysR S p 1))) + (shareR S p 0))) + (shareR S p 1))) + ((liesR S p 3).toInt64))) + ((agesR S p 0).toInt64)), lo, li (nI p), li 0]) d_F_digest_186 rfl rfl rfl ?_
    refine Wp_iinc (z := 1) (ls2 := [lr 0, ll ((31 * ((31 * ((31 * ((31 * ((31 * ((31 * ((31 * ((31 * ((31 * (dgL S p)) + ((nI (pA S p)).toInt64))) + ((nI (tld S p)).toInt64))) + ((withR S p).toInt64))) + (paysR S p 0))) + (paysR S p 1))) + (shareR S p 0))) + (shareR S p 1))) + ((liesR S p 3).toInt64))) + ((agesR S p 0).toInt64)), lo, li (nI p), li 1]) d_F_digest_187 rfl (by decide) rfl rfl rfl ?_
    refine Wp_goto d_F_digest_190 ?_
    refine Wp_iload d_F_digest_166 rfl ?_
    refine Wp_iconst (x := 2) d_F_digest_168 (by decide) ?_
    refine Wp_icmp_gt d_F_digest_169 (fun q => absurd q (by decide)) (fun _ => ?_)
    refine Wp_ldc2 (x := 31) d_F_digest_172 kl_F_300 ?_
    refine Wp_lload_n d_F_digest_175 rfl ?_
    refine Wp_lmul d_F_digest_176 ?_
    refine Wp_aload_n d_F_digest_177 rfl ?_
    refine Wp_iload_n d_F_digest_178 rfl ?_
    refine Wp_iload d_F_digest_179 rfl ?_
    refine Wp_ivv_d (o := 0) (As := [vi (nI p), vi 1]) d_F_digest_181 ln_F_322 mk_F_ages rfl rfl rfl rfl rfl (by omega) (by have h := t_F_ages E (d - 1) (by omega) v157_5 S hC157_5 hV (nI p) 1; rw [rAges_p hp (by decide)] at h; exact h) ?_
    refine Wp_i2l d_F_digest_184 ?_
    refine Wp_ladd d_F_digest_185 ?_
    refine Wp_lstore_n (ls2 := [lr 0, ll ((31 * ((31 * ((31 * ((31 * ((31 * ((31 * ((31 * ((31 * ((31 * ((31 * (dgL S p)) + ((nI (pA S p)).toInt64))) + ((nI (tld S p)).toInt64))) + ((withR S p).toInt64))) + (paysR S p 0))) + (paysR S p 1))) + (shareR S p 0))) + (shareR S p 1))) + ((liesR S p 3).toInt64))) + ((agesR S p 0).toInt64))) + ((agesR S p 1).toInt64)), lo, li (nI p), li 1]) d_F_digest_186 rfl rfl rfl ?_
    refine Wp_iinc (z := 2) (ls2 := [lr 0, ll ((31 * ((31 * ((31 * ((31 * ((31 * ((31 * ((31 * ((31 * ((31 * ((31 * (dgL S p)) + ((nI (pA S p)).toInt64))) + ((nI (tld S p)).toInt64))) + ((withR S p).toInt64))) + (paysR S p 0))) + (paysR S p 1))) + (shareR S p 0))) + (shareR S p 1))) + ((liesR S p 3).toInt64))) + ((agesR S p 0).toInt64))) + ((agesR S p 1).toInt64)), lo, li (nI p), li 2]) d_F_digest_187 rfl (by decide) rfl rfl rfl ?_
    refine Wp_goto d_F_digest_190 ?_
    refine Wp_iload d_F_digest_166 rfl ?_
    refine Wp_iconst (x := 2) d_F_digest_168 (by decide) ?_
    refine Wp_icmp_gt d_F_digest_169 (fun q => absurd q (by decide)) (fun _ => ?_)
    refine Wp_ldc2 (x := 31) d_F_digest_172 kl_F_300 ?_
    refine Wp_lload_n d_F_digest_175 rfl ?_
    refine Wp_lmul d_F_digest_176 ?_
    refine Wp_aload_n d_F_digest_177 rfl ?_
    refine Wp_iload_n d_F_digest_178 rfl ?_
    refine Wp_iload d_F_digest_179 rfl ?_
    refine Wp_ivv_d (o := 0) (As := [vi (nI p), vi 2]) d_F_digest_181 ln_F_322 mk_F_ages rfl rfl rfl rfl rfl (by omega) (by have h := t_F_ages E (d - 1) (by omega) v157_5 S hC157_5 hV (nI p) 2; rw [rAges_p hp (by decide)] at h; exact h) ?_
    refine Wp_i2l d_F_digest_184 ?_
    refine Wp_ladd d_F_digest_185 ?_
    refine Wp_lstore_n (ls2 := [lr 0, ll ((31 * ((31 * ((31 * ((31 * ((31 * ((31 * ((31 * ((31 * ((31 * ((31 * ((31 * (dgL S p)) + ((nI (pA S p)).toInt64))) + ((nI (tld S p)).toInt64))) + ((withR S p).toInt64))) + (paysR S p 0))) + (paysR S p 1))) + (shareR S p 0))) + (shareR S p 1))) + ((liesR S p 3).toInt64))) + ((agesR S p 0).toInt64))) + ((agesR S p 1).toInt64))) + ((agesR S p 2).toInt64)), lo, li (nI p), li 2]) d_F_digest_186 rfl rfl rfl ?_
    refine Wp_iinc (z := 3) (ls2 := [lr 0, ll ((31 * ((31 * ((31 * ((31 * ((31 * ((31 * ((31 * ((31 * ((31 * ((31 * ((31 * (dgL S p)) + ((nI (pA S p)).toInt64))) + ((nI (tld S p)).toInt64))) + ((withR S p).toInt64))) + (paysR S p 0))) + (paysR S p 1))) + (shareR S p 0))) + (shareR S p 1))) + ((liesR S p 3).toInt64))) + ((agesR S p 0).toInt64))) + ((agesR S p 1).toInt64))) + ((agesR S p 2).toInt64)), lo, li (nI p), li 3]) d_F_digest_187 rfl (by decide) rfl rfl rfl ?_
    refine Wp_goto d_F_digest_190 ?_
    refine Wp_iload d_F_digest_166 rfl ?_
    refine Wp_iconst (x := 2) d_F_digest_168 (by decide) ?_
    refine Wp_icmp_gt d_F_digest_169 (fun _ => ?_) (fun q => absurd (by decide) q)
    refine Wp_iinc (z := nI (p + 1)) (ls2 := [lr 0, ll ((31 * ((31 * ((31 * ((31 * ((31 * ((31 * ((31 * ((31 * ((31 * ((31 * ((31 * (dgL S p)) + ((nI (pA S p)).toInt64))) + ((nI (tld S p)).toInt64))) + ((withR S p).toInt64))) + (paysR S p 0))) + (paysR S p 1))) + (shareR S p 0))) + (shareR S p 1))) + ((liesR S p 3).toInt64))) + ((agesR S p 0).toInt64))) + ((agesR S p 1).toInt64))) + ((agesR S p 2).toInt64)), lo, li (nI (p + 1)), li 3]) d_F_digest_193 rfl (nI_add p 1) rfl rfl rfl ?_
    refine Wp_goto d_F_digest_196 ?_
    exact ih (p + 1) v157_5 _ (by omega) hC157_5 F157_5
set_option maxRecDepth 100000 in
set_option maxHeartbeats 4000000 in
theorem t_F_digest (E : mE) (d : Nat) (hd : 27 ≤ d) (w : mw) (S : mw) (hC : CC w S) (hV : VM S) : Tl E d m_F_digest [vr 0] w (fun r w1 => r = digS S ∧ CC w1 S ∧ fr cRows w w1) := by
  refine ⟨Nat.le_of_ble_eq_true rfl, ?_⟩
  show Wp E d m_F_digest 0 [lr 0, lo, lo, lo, lo] [] w _
  refine Wp_ldc2 (x := 17) d_F_digest_0 kl_F_298 ?_
  refine Wp_lstore_n (ls2 := [lr 0, ll 17, lo, lo, lo]) d_F_digest_3 rfl rfl rfl ?_
  refine Wp_iconst (x := 0) d_F_digest_4 (by decide) ?_
  refine Wp_istore_n (ls2 := [lr 0, ll 17, lo, li 0, lo]) d_F_digest_5 rfl rfl rfl ?_
  refine Wp_iload_n d_F_digest_6 rfl ?_
  refine Wp_bipush (x := 7) d_F_digest_7 (by decide) ?_
  refine Wp_icmp_gt d_F_digest_9 (fun q => absurd q (by decide)) (fun _ => ?_)
  refine Wp_ldc2 (x := 31) d_F_digest_12 kl_F_300 ?_
  refine Wp_lload_n d_F_digest_15 rfl ?_
  refine Wp_lmul d_F_digest_16 ?_
  refine Wp_aload_n d_F_digest_17 rfl ?_
  refine Wp_iload_n d_F_digest_18 rfl ?_
  refine Wp_ivv_d (o := 0) (As := [vi 0]) d_F_digest_19 ln_F_302 mk_F_count rfl rfl rfl rfl rfl (by omega) (by have h := t_F_count E (d - 1) (by omega) w S hC hV 0; exact h) ?_
  refine Wp_i2l d_F_digest_22 ?_
  refine Wp_ladd d_F_digest_23 ?_
  refine Wp_eql (x2 := dgC S 1) rfl ?_
  refine Wp_lstore_n (ls2 := [lr 0, ll (dgC S 1), lo, li 0, lo]) d_F_digest_24 rfl rfl rfl ?_
  refine Wp_iinc (z := 1) (ls2 := [lr 0, ll (dgC S 1), lo, li 1, lo]) d_F_digest_25 rfl (by decide) rfl rfl rfl ?_
  refine Wp_goto d_F_digest_28 ?_
  refine Wp_iload_n d_F_digest_6 rfl ?_
  refine Wp_bipush (x := 7) d_F_digest_7 (by decide) ?_
  refine Wp_icmp_gt d_F_digest_9 (fun q => absurd q (by decide)) (fun _ => ?_)
  refine Wp_ldc2 (x := 31) d_F_digest_12 kl_F_300 ?_
  refine Wp_lload_n d_F_digest_15 rfl ?_
  refine Wp_lmul d_F_digest_16 ?_
  refine Wp_aload_n d_F_digest_17 rfl ?_
  refine Wp_iload_n d_F_digest_18 rfl ?_
  refine Wp_ivv_d (o := 0) (As := [vi 1]) d_F_digest_19 ln_F_302 mk_F_count rfl rfl rfl rfl rfl (by omega) (by have h := t_F_count E (d - 1) (by omega) w S hC hV 1; exact h) ?_
  refine Wp_i2l d_F_digest_22 ?_
  refine Wp_ladd d_F_digest_23 ?_
  refine Wp_eql (x2 := dgC S 2) rfl ?_
  refine Wp_lstore_n (ls2 := [lr 0, ll (dgC S 2), lo, li 1, lo]) d_F_digest_24 rfl rfl rfl ?_
  refine Wp_iinc (z := 2) (ls2 := [lr 0, ll (dgC S 2), lo, li 2, lo]) d_F_digest_25 rfl (by decide) rfl rfl rfl ?_
  refine Wp_goto d_F_digest_28 ?_
  refine Wp_iload_n d_F_digest_6 rfl ?_
  refine Wp_bipush (x := 7) d_F_digest_7 (by decide) ?_
  refine Wp_icmp_gt d_F_digest_9 (fun q => absurd q (by decide)) (fun _ => ?_)
  refine Wp_ldc2 (x := 31) d_F_digest_12 kl_F_300 ?_
  refine Wp_lload_n d_F_digest_15 rfl ?_
  refine Wp_lmul d_F_digest_16 ?_
  refine Wp_aload_n d_F_digest_17 rfl ?_
  refine Wp_iload_n d_F_digest_18 rfl ?_
  refine Wp_ivv_d (o := 0) (As := [vi 2]) d_F_digest_19 ln_F_302 mk_F_count rfl rfl rfl rfl rfl (by omega) (by have h := t_F_count E (d - 1) (by omega) w S hC hV 2; exact h) ?_
  refine Wp_i2l d_F_digest_22 ?_
  refine Wp_ladd d_F_digest_23 ?_
  refine Wp_eql (x2 := dgC S 3) rfl ?_
  refine Wp_lstore_n (ls2 := [lr 0, ll (dgC S 3), lo, li 2, lo]) d_F_digest_24 rfl rfl rfl ?_
  refine Wp_iinc (z := 3) (ls2 := [lr 0, ll (dgC S 3), lo, li 3, lo]) d_F_digest_25 rfl (by decide) rfl rfl rfl ?_
  refine Wp_goto d_F_digest_28 ?_
  refine Wp_iload_n d_F_digest_6 rfl ?_
  refine Wp_bipush (x := 7) d_F_digest_7 (by decide) ?_
  refine Wp_icmp_gt d_F_digest_9 (fun q => absurd q (by decide)) (fun _ => ?_)
  refine Wp_ldc2 (x := 31) d_F_digest_12 kl_F_300 ?_
  refine Wp_lload_n d_F_digest_15 rfl ?_
  refine Wp_lmul d_F_digest_16 ?_
  refine Wp_aload_n d_F_digest_17 rfl ?_
  refine Wp_iload_n d_F_digest_18 rfl ?_
  refine Wp_ivv_d (o := 0) (As := [vi 3]) d_F_digest_19 ln_F_302 mk_F_count rfl rfl rfl rfl rfl (by omega) (by have h := t_F_count E (d - 1) (by omega) w S hC hV 3; exact h) ?_
  refine Wp_i2l d_F_digest_22 ?_
  refine Wp_ladd d_F_digest_23 ?_
  refine Wp_eql (x2 := dgC S 4) rfl ?_
  refine Wp_lstore_n (ls2 := [lr 0, ll (dgC S 4), lo, li 3, lo]) d_F_digest_24 rfl rfl rfl ?_
  refine Wp_iinc (z := 4) (ls2 := [lr 0, ll (dgC S 4), lo, li 4, lo]) d_F_digest_25 rfl (by decide) rfl rfl rfl ?_
  refine Wp_goto d_F_digest_28 ?_
  refine Wp_iload_n d_F_digest_6 rfl ?_
  refine Wp_bipush (x := 7) d_F_digest_7 (by decide) ?_
  refine Wp_icmp_gt d_F_digest_9 (fun q => absurd q (by decide)) (fun _ => ?_)
  refine Wp_ldc2 (x := 31) d_F_digest_12 kl_F_300 ?_
  refine Wp_lload_n d_F_digest_15 rfl ?_
  refine Wp_lmul d_F_digest_16 ?_
  refine Wp_aload_n d_F_digest_17 rfl ?_
  refine Wp_iload_n d_F_digest_18 rfl ?_
  refine Wp_ivv_d (o := 0) (As := [vi 4]) d_F_digest_19 ln_F_302 mk_F_count rfl rfl rfl rfl rfl (by omega) (by have h := t_F_count E (d - 1) (by omega) w S hC hV 4; exact h) ?_
  refine Wp_i2l d_F_digest_22 ?_
  refine Wp_ladd d_F_digest_23 ?_
  refine Wp_eql (x2 := dgC S 5) rfl ?_
  refine Wp_lstore_n (ls2 := [lr 0, ll (dgC S 5), lo, li 4, lo]) d_F_digest_24 rfl rfl rfl ?_
  refine Wp_iinc (z := 5) (ls2 := [lr 0, ll (dgC S 5), lo, li 5, lo]) d_F_digest_25 rfl (by decide) rfl rfl rfl ?_
  refine Wp_goto d_F_digest_28 ?_
  refine Wp_iload_n d_F_digest_6 rfl ?_
  refine Wp_bipush (x := 7) d_F_digest_7 (by decide) ?_
  refine Wp_icmp_gt d_F_digest_9 (fun q => absurd q (by decide)) (fun _ => ?_)
  refine Wp_ldc2 (x := 31) d_F_digest_12 kl_F_300 ?_
  refine Wp_lload_n d_F_digest_15 rfl ?_
  refine Wp_lmul d_F_digest_16 ?_
  refine Wp_aload_n d_F_digest_17 rfl ?_
  refine Wp_iload_n d_F_digest_18 rfl ?_
  refine Wp_ivv_d (o := 0) (As := [vi 5]) d_F_digest_19 ln_F_302 mk_F_count rfl rfl rfl rfl rfl (by omega) (by have h := t_F_count E (d - 1) (by omega) w S hC hV 5; exact h) ?_
  refine Wp_i2l d_F_digest_22 ?_
  refine Wp_ladd d_F_digest_23 ?_
  refine Wp_eql (x2 := dgC S 6) rfl ?_
  refine Wp_lstore_n (ls2 := [lr 0, ll (dgC S 6), lo, li 5, lo]) d_F_digest_24 rfl rfl rfl ?_
  refine Wp_iinc (z := 6) (ls2 := [lr 0, ll (dgC S 6), lo, li 6, lo]) d_F_digest_25 rfl (by decide) rfl rfl rfl ?_
  refine Wp_goto d_F_digest_28 ?_
  refine Wp_iload_n d_F_digest_6 rfl ?_
  refine Wp_bipush (x := 7) d_F_digest_7 (by decide) ?_
  refine Wp_icmp_gt d_F_digest_9 (fun q => absurd q (by decide)) (fun _ => ?_)
  refine Wp_ldc2 (x := 31) d_F_digest_12 kl_F_300 ?_
  refine Wp_lload_n d_F_digest_15 rfl ?_
  refine Wp_lmul d_F_digest_16 ?_
  refine Wp_aload_n d_F_digest_17 rfl ?_
  refine Wp_iload_n d_F_digest_18 rfl ?_
  refine Wp_ivv_d (o := 0) (As := [vi 6]) d_F_digest_19 ln_F_302 mk_F_count rfl rfl rfl rfl rfl (by omega) (by have h := t_F_count E (d - 1) (by omega) w S hC hV 6; exact h) ?_
  refine Wp_i2l d_F_digest_22 ?_
  refine Wp_ladd d_F_digest_23 ?_
  refine Wp_eql (x2 := dgC S 7) rfl ?_
  refine Wp_lstore_n (ls2 := [lr 0, ll (dgC S 7), lo, li 6, lo]) d_F_digest_24 rfl rfl rfl ?_
  refine Wp_iinc (z := 7) (ls2 := [lr 0, ll (dgC S 7), lo, li 7, lo]) d_F_digest_25 rfl (by decide) rfl rfl rfl ?_
  refine Wp_goto d_F_digest_28 ?_
  refine Wp_iload_n d_F_digest_6 rfl ?_
  refine Wp_bipush (x := 7) d_F_digest_7 (by decide) ?_
  refine Wp_icmp_gt d_F_digest_9 (fun q => absurd q (by decide)) (fun _ => ?_)
  refine Wp_ldc2 (x := 31) d_F_digest_12 kl_F_300 ?_
  refine Wp_lload_n d_F_digest_15 rfl ?_
  refine Wp_lmul d_F_digest_16 ?_
  refine Wp_aload_n d_F_digest_17 rfl ?_
  refine Wp_iload_n d_F_digest_18 rfl ?_
  refine Wp_ivv_d (o := 0) (As := [vi 7]) d_F_digest_19 ln_F_302 mk_F_count rfl rfl rfl rfl rfl (by omega) (by have h := t_F_count E (d - 1) (by omega) w S hC hV 7; exact h) ?_
  refine Wp_i2l d_F_digest_22 ?_
  refine Wp_ladd d_F_digest_23 ?_
  refine Wp_eql (x2 := dgC S 8) rfl ?_
  refine Wp_lstore_n (ls2 := [lr 0, ll (dgC S 8), lo, li 7, lo]) d_F_digest_24 rfl rfl rfl ?_
  refine Wp_iinc (z := 8) (ls2 := [lr 0, ll (dgC S 8), lo, li 8, lo]) d_F_digest_25 rfl (by decide) rfl rfl rfl ?_
  refine Wp_goto d_F_digest_28 ?_
  refine Wp_iload_n d_F_digest_6 rfl ?_
  refine Wp_bipush (x := 7) d_F_digest_7 (by decide) ?_
  refine Wp_icmp_gt d_F_digest_9 (fun _ => ?_) (fun q => absurd (by decide) q)
  refine Wp_ldc2 (x := 31) d_F_digest_31 kl_F_300 ?_
  refine Wp_lload_n d_F_digest_34 rfl ?_
  refine Wp_lmul d_F_digest_35 ?_
  refine Wp_aload_n d_F_digest_36 rfl ?_
  refine Wp_ivv_d (o := 0) (As := []) d_F_digest_37 ln_F_305 mk_F_fault rfl rfl rfl rfl rfl (by omega) (by have h := t_F_fault E (d - 1) (by omega) w S hC ; exact h) ?_
  refine Wp_i2l d_F_digest_40 ?_
  refine Wp_ladd d_F_digest_41 ?_
  refine Wp_eql (x2 := dgF S) rfl ?_
  refine Wp_lstore_n (ls2 := [lr 0, ll (dgF S), lo, li 8, lo]) d_F_digest_42 rfl rfl rfl ?_
  refine Wp_iconst (x := 0) d_F_digest_43 (by decide) ?_
  refine Wp_istore_n (ls2 := [lr 0, ll (dgF S), lo, li 0, lo]) d_F_digest_44 rfl rfl rfl ?_
  exact l_F_dg E d (by omega) w S hV (pN S) 0 w _ (Nat.zero_add _) hC fr_rf
