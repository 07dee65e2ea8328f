set_option maxRecDepth 100000 in
set_option maxHeartbeats 4000000 in
theorem l_M_fb2 (E : mE) (d : Nat) (hd : 3 ≤ d) (w0 S : mw) (hM : MP w0 S) (hV : VM S) (s : Nat) (hs : s < 2 ^ pN S) (Q : Option mv → mw → Prop) (hk : Wp E d m_M_findBoats 96 [lr 33, li (nI s), li (nI (pN S))] [] (mU w0 47 s (nI (orn (sMu S) s (pN S)))) Q) : ∀ (k i : Nat), i + k = pN S → Wp E d m_M_findBoats 55 [lr 33, li (nI s), li (nI i)] [] (mU w0 47 s (nI (orn (sMu S) s i))) Q := by
  intro k
  have hp := (pN_ok S).1
  have hlt := two10 hp
  induction k with
  | zero =>
    intro i hi
    refine Wp_iload_n d_M_findBoats_55 rfl ?_
    refine Wp_aload_n d_M_findBoats_56 rfl ?_
    refine Wp_getf d_M_findBoats_57 fd_M_125 rfl rfl rfl ?_
    refine Wp_eqi (x2 := w0 33 8) (by simp [mU, mUr, upd]) ?_
    refine Wp_eqi (x2 := nI (pN S)) hM.2.1 ?_
    refine Wp_icmp_ge d_M_findBoats_60 (fun h60 => ?_) (fun q => absurd (n_nle q (by omega) (by omega)) (by omega))
    have hin : i = pN S := by omega
    subst hin
    exact hk
  | succ k ih =>
    intro i hi
    refine Wp_iload_n d_M_findBoats_55 rfl ?_
    refine Wp_aload_n d_M_findBoats_56 rfl ?_
    refine Wp_getf d_M_findBoats_57 fd_M_125 rfl rfl rfl ?_
    refine Wp_eqi (x2 := w0 33 8) (by simp [mU, mUr, upd]) ?_
    refine Wp_eqi (x2 := nI (pN S)) hM.2.1 ?_
    refine Wp_icmp_ge d_M_findBoats_60 (fun q => absurd (n_le q (by omega) (by omega)) (by omega)) (fun h60 => ?_)
    refine Wp_aload_n d_M_findBoats_63 rfl ?_
    refine Wp_getr d_M_findBoats_64 fd_M_49 rfl rfl rfl ?_
    refine Wp_iload_n d_M_findBoats_67 rfl ?_
    refine Wp_dup2 d_M_findBoats_68 rfl rfl ?_
    refine Wp_ialdN (j := s) d_M_findBoats_69 rfl rfl rfl rfl (by omega) ?_
    refine Wp_eqi (x2 := nI (orn (sMu S) s i)) (by simp [mU, mUr, upd]) ?_
    refine Wp_iload_n d_M_findBoats_70 rfl ?_
    refine Wp_iload_n d_M_findBoats_71 rfl ?_
    refine Wp_ivs_b (As := [vi (nI s), vi (nI i)]) d_M_findBoats_72 ln_M_177 mk_M_isIn rfl rfl rfl (by omega) (t_M_isIn E (d - 1) (by omega) (mU w0 47 s (nI (orn (sMu S) s i))) s i (by omega) (by omega)) (fun g72 => ?_) (fun g72 => ?_)
    ·
      refine Wp_if_eq d_M_findBoats_75 (fun q => absurd q (by decide)) (fun _ => ?_)
      refine Wp_aload_n d_M_findBoats_78 rfl ?_
      refine Wp_getr d_M_findBoats_79 fd_M_43 rfl rfl rfl ?_
      refine Wp_iload_n d_M_findBoats_82 rfl ?_
      refine Wp_ialdN (j := i) d_M_findBoats_83 rfl rfl rfl rfl (by omega) ?_
      refine Wp_eqi (x2 := w0 45 i) (by simp [mU, mUr, upd]) ?_
      refine Wp_eqi (x2 := S 45 i) (congrFun (hM.1.r 45) _) ?_
      refine Wp_eqi (x2 := nI (sMu S i)) (VM_mu hV _ (by omega)).1 ?_
      refine Wp_goto d_M_findBoats_84 ?_
      refine Wp_ior d_M_findBoats_88 ?_
      refine Wp_eqi (x2 := nI ((orn (sMu S) s i) ||| (sMu S i))) (nI_or (orn (sMu S) s i) (sMu S i)) ?_
      refine Wp_iastN (j := s) d_M_findBoats_89 rfl rfl rfl rfl (by omega) ?_
      refine Wp_iinc (z := nI (i + 1)) (ls2 := [lr 33, li (nI s), li (nI (i + 1))]) d_M_findBoats_90 rfl (nI_add i 1) rfl rfl rfl ?_
      refine Wp_goto d_M_findBoats_93 ?_
      refine Wp_eqw mU_mU ?_
      have h9 := ih (i + 1) (by omega)
      rw [show orn (sMu S) s (i + 1) = (if s.testBit i = true then orn (sMu S) s i ||| sMu S i else orn (sMu S) s i) from rfl, if_pos g72] at h9
      exact h9
    ·
      refine Wp_if_eq d_M_findBoats_75 (fun _ => ?_) (fun q => absurd (by decide) q)
      refine Wp_iconst (x := 0) d_M_findBoats_87 (by decide) ?_
      refine Wp_ior d_M_findBoats_88 ?_
      refine Wp_eqi (x2 := nI ((orn (sMu S) s i) ||| 0)) (nI_or (orn (sMu S) s i) 0) ?_
      refine Wp_iastN (j := s) d_M_findBoats_89 rfl rfl rfl rfl (by omega) ?_
      refine Wp_iinc (z := nI (i + 1)) (ls2 := [lr 33, li (nI s), li (nI (i + 1))]) d_M_findBoats_90 rfl (nI_add i 1) rfl rfl rfl ?_
      refine Wp_goto d_M_findBoats_93 ?_
      refine Wp_eqw mU_mU ?_
      have h9 := ih (i + 1) (by omega)
      rw [show orn (sMu S) s (i + 1) = (if s.testBit i = true then orn (sMu S) s i ||| sMu S i else orn (sMu S) s i) from rfl, if_neg g72] at h9
      simpa using h9
theorem fb_step {w S : mw} {s : Nat} (hM : MP w S) (hb : bsOk w S s) (g : Bool) (c : Int32) (h1 : okS S s = g) (h2 : c = if g = true then nI (costS S s) else 100000000) : MP (mU (mU (mU w 48 s (bi g)) 46 s c) 47 s (nI (needS S s))) S ∧ bsOk (mU (mU (mU w 48 s (bi g)) 46 s c) 47 s (nI (needS S s))) S (s + 1) ∧ fr [46, 47, 48] w (mU (mU (mU w 48 s (bi g)) 46 s c) 47 s (nI (needS S s))) := by
  have hf : fr [46, 47, 48] w (mU (mU (mU w 48 s (bi g)) 46 s c) 47 s (nI (needS S s))) := fr_U2 (fr_U2 (fr_U (by decide)) (by decide)) (by decide)
  refine ⟨MP_fr hM hf (by decide), fun b h3 h4 => ?_, hf⟩
  by_cases hbs : b = s
  · subst hbs
    refine ⟨?_, ?_, mU_at⟩
    · rw [mU_ne (by decide), mU_ne (by decide), mU_at, h1]
    · rw [mU_ne (by decide), mU_at, h1, h2]
  · have h5 := hb b h3 (by omega)
    refine ⟨?_, ?_, ?_⟩
    · rw [mU_ne (by decide), mU_ne (by decide), mU_at_ne hbs]; exact h5.1
    · rw [mU_ne (by decide), mU_at_ne hbs, mU_ne (by decide)]; exact h5.2.1
    · rw [mU_at_ne hbs, mU_ne (by decide), mU_ne (by decide)]; exact h5.2.2
set_option maxRecDepth 100000 in
set_option maxHeartbeats 4000000 in
theorem l_M_fb1 (E : mE) (d : Nat) (hd : 3 ≤ d) (S : mw) (hV : VM S) : ∀ (k s : Nat) (w : mw) (u : Option mv), s + k = 2 ^ pN S → 1 ≤ s → MP w S → bsOk w S s → Wp E d m_M_findBoats 2 [lr 33, li (nI s), u] [] w (mPv (fun w1 => MB w1 S ∧ fr [46, 47, 48] w w1)) := by
  intro k
  have hp := (pN_ok S).1
  have hlt := two10 hp
  induction k with
  | zero =>
    intro s w u hk hs hM hb
    refine Wp_iload_n d_M_findBoats_2 rfl ?_
    refine Wp_aload_n d_M_findBoats_3 rfl ?_
    refine Wp_ivv_d (o := 33) (As := []) d_M_findBoats_4 ln_M_184 mk_M_whole rfl rfl rfl rfl rfl (by omega) (t_M_whole E (d - 1) (by omega) w S hM hV) ?_
    refine Wp_icmp_gt d_M_findBoats_7 (fun h7 => ?_) (fun q => absurd (n_nlt q (by omega) (by omega)) (by omega))
    refine Wp_retv d_M_findBoats_102 rfl ?_
    have hin : s = 2 ^ pN S := by omega
    subst hin
    exact ⟨⟨hM, hb⟩, fr_rf⟩
  | succ k ih =>
    intro s w u hk hs hM hb
    refine Wp_iload_n d_M_findBoats_2 rfl ?_
    refine Wp_aload_n d_M_findBoats_3 rfl ?_
    refine Wp_ivv_d (o := 33) (As := []) d_M_findBoats_4 ln_M_184 mk_M_whole rfl rfl rfl rfl rfl (by omega) (t_M_whole E (d - 1) (by omega) w S hM hV) ?_
    refine Wp_icmp_gt d_M_findBoats_7 (fun q => absurd (n_lt q (by omega) (by omega)) (by omega)) (fun h7 => ?_)
    refine Wp_aload_n d_M_findBoats_10 rfl ?_
    refine Wp_getr d_M_findBoats_11 fd_M_52 rfl rfl rfl ?_
    refine Wp_iload_n d_M_findBoats_14 rfl ?_
    refine Wp_aload_n d_M_findBoats_15 rfl ?_
    refine Wp_iload_n d_M_findBoats_16 rfl ?_
    refine Wp_ivv_b (o := 33) (As := [vi (nI s)]) d_M_findBoats_17 ln_M_187 mk_M_goTogether rfl rfl rfl rfl rfl (by omega) (t_M_goTogether E (d - 1) (by omega) w S hM hV s (by omega) (by omega)) (fun g17 => ?_) (fun g17 => ?_)
    ·
      refine Wp_zastN (j := s) d_M_findBoats_20 rfl rfl rfl rfl (by omega) rfl ?_
      refine Wp_aload_n d_M_findBoats_21 rfl ?_
      refine Wp_getr d_M_findBoats_22 fd_M_46 rfl rfl rfl ?_
      refine Wp_iload_n d_M_findBoats_25 rfl ?_
      refine Wp_aload_n d_M_findBoats_26 rfl ?_
      refine Wp_getr d_M_findBoats_27 fd_M_52 rfl rfl rfl ?_
      refine Wp_iload_n d_M_findBoats_30 rfl ?_
      refine Wp_zaldN (j := s) d_M_findBoats_31 rfl rfl rfl rfl (by omega) ?_
      refine Wp_eqi (x2 := 1) (by simp [mU, mUr, upd]) ?_
      refine Wp_if_eq d_M_findBoats_32 (fun q => absurd q (by decide)) (fun _ => ?_)
      refine Wp_aload_n d_M_findBoats_35 rfl ?_
      refine Wp_iload_n d_M_findBoats_36 rfl ?_
      refine Wp_ivv_d (o := 33) (As := [vi (nI s)]) d_M_findBoats_37 ln_M_190 mk_M_costOf rfl rfl rfl rfl rfl (by omega) (t_M_costOf E (d - 1) (by omega) (mU w 48 s 1) S (MP_fr (L := [48]) hM (fr_U (by decide)) (by decide)) hV s (by omega) (by omega)) ?_
      refine Wp_goto d_M_findBoats_40 ?_
      refine Wp_iastN (j := s) d_M_findBoats_45 rfl rfl rfl rfl (by omega) ?_
      refine Wp_aload_n d_M_findBoats_46 rfl ?_
      refine Wp_getr d_M_findBoats_47 fd_M_49 rfl rfl rfl ?_
      refine Wp_iload_n d_M_findBoats_50 rfl ?_
      refine Wp_iconst (x := 0) d_M_findBoats_51 (by decide) ?_
      refine Wp_iastN (j := s) d_M_findBoats_52 rfl rfl rfl rfl (by omega) ?_
      refine Wp_iconst (x := 0) d_M_findBoats_53 (by decide) ?_
      refine Wp_istore_n (ls2 := [lr 33, li (nI s), li 0]) d_M_findBoats_54 rfl rfl rfl ?_
      have hm2 : MP (mU (mU w 48 s 1) 46 s (nI (costS S s))) S := MP_fr (L := [46, 48]) hM (fr_U2 (fr_U (by decide)) (by decide)) (by decide)
      refine l_M_fb2 E d (by omega) (mU (mU w 48 s 1) 46 s (nI (costS S s))) S hm2 hV s (by omega) _ ?_ (pN S) 0 (by omega)
      have hnd : orn (sMu S) s (pN S) = needS S s := (top10 (orn_top (by omega)) hp).symm
      rw [hnd]
      refine Wp_iinc (z := nI (s + 1)) (ls2 := [lr 33, li (nI (s + 1)), li (nI (pN S))]) d_M_findBoats_96 rfl (nI_add s 1) rfl rfl rfl ?_
      refine Wp_goto d_M_findBoats_99 ?_
      obtain ⟨a1, a2, a3⟩ := fb_step hM hb true _ (by simpa using g17) rfl
      exact Wp_mv (ih (s + 1) _ _ (by omega) (by omega) a1 a2) (fun w1 h => ⟨h.1, fr_tr a3 h.2⟩)
    ·
      refine Wp_zastN (j := s) d_M_findBoats_20 rfl rfl rfl rfl (by omega) rfl ?_
      refine Wp_aload_n d_M_findBoats_21 rfl ?_
      refine Wp_getr d_M_findBoats_22 fd_M_46 rfl rfl rfl ?_
      refine Wp_iload_n d_M_findBoats_25 rfl ?_
      refine Wp_aload_n d_M_findBoats_26 rfl ?_
      refine Wp_getr d_M_findBoats_27 fd_M_52 rfl rfl rfl ?_
      refine Wp_iload_n d_M_findBoats_30 rfl ?_
      refine Wp_zaldN (j := s) d_M_findBoats_31 rfl rfl rfl rfl (by omega) ?_
      refine Wp_eqi (x2 := 0) (by simp [mU, mUr, upd]) ?_
      refine Wp_if_eq d_M_findBoats_32 (fun _ => ?_) (fun q => absurd (by decide) q)
      refine Wp_ldc (x := 100000000) d_M_findBoats_43 kc_M_176 ?_
      refine Wp_iastN (j := s) d_M_findBoats_45 rfl rfl rfl rfl (by omega) ?_
      refine Wp_aload_n d_M_findBoats_46 rfl ?_
      refine Wp_getr d_M_findBoats_47 fd_M_49 rfl rfl rfl ?_
      refine Wp_iload_n d_M_findBoats_50 rfl ?_
      refine Wp_iconst (x := 0) d_M_findBoats_51 (by decide) ?_
      refine Wp_iastN (j := s) d_M_findBoats_52 rfl rfl rfl rfl (by omega) ?_
      refine Wp_iconst (x := 0) d_M_findBoats_53 (by decide) ?_
      refine Wp_istore_n (ls2 := [lr 33, li (nI s), li 0]) d_M_findBoats_54 rfl rfl rfl ?_
      have hm2 : MP (mU (mU w 48 s 0) 46 s 100000000) S := MP_fr (L := [46, 48]) hM (fr_U2 (fr_U (by decide)) (by decide)) (by decide)
      refine l_M_fb2 E d (by omega) (mU (mU w 48 s 0) 46 s 100000000) S hm2 hV s (by omega) _ ?_ (pN S) 0 (by omega)
      have hnd : orn (sMu S) s (pN S) = needS S s := (top10 (orn_top (by omega)) hp).symm
      rw [hnd]
      refine Wp_iinc (z := nI (s + 1)) (ls2 := [lr 33, li (nI (s + 1)), li (nI (pN S))]) d_M_findBoats_96 rfl (nI_add s 1) rfl rfl rfl ?_
      refine Wp_goto d_M_findBoats_99 ?_
      obtain ⟨a1, a2, a3⟩ := fb_step hM hb false _ (by simpa using g17) rfl
      exact Wp_mv (ih (s + 1) _ _ (by omega) (by omega) a1 a2) (fun w1 h => ⟨h.1, fr_tr a3 h.2⟩)
set_option maxRecDepth 100000 in
set_option maxHeartbeats 4000000 in
theorem t_M_findBoats (E : mE) (d : Nat) (hd : 3 ≤ d) (w : mw) (S : mw) (hM : MP w S) (hV : VM S) : Tv E d m_M_findBoats [vr 33] w (fun w1 => MB w1 S ∧ fr [46, 47, 48] w w1) := by
  refine ⟨Nat.le_of_ble_eq_true rfl, ?_⟩
  show Wp E d m_M_findBoats 0 [lr 33, lo, lo] [] w _
  refine Wp_iconst (x := 1) d_M_findBoats_0 (by decide) ?_
  refine Wp_istore_n (ls2 := [lr 33, li 1, lo]) d_M_findBoats_1 rfl rfl rfl ?_
  exact l_M_fb1 E d (by omega) S hV (2 ^ pN S - 1) 1 w none (by have := Nat.one_le_two_pow (n := pN S); omega) (by omega) hM (fun b h1 h2 => by omega)
set_option maxRecDepth 100000 in
set_option maxHeartbeats 4000000 in
theorem t_M_tries (E : mE) (d : Nat) (hd : 0 ≤ d) (w : mw) (S : mw) (hM : MB w S) (hV : VM S) (al s b : Nat) (T : Nat → dv) (a : dv) (hs : s < 2 ^ pN S) (hb0 : 0 < b) (hbs : b ≤ s) (hal : al < 1024) (t : dv) (ht : T (ann s b) = t) (ha : rowIs w s a) (hl : rowIs w (ann s b) t) (da : dvB s a) (dl : dvB (ann s b) t) : Tv E d m_M_tries [vr 33, vi (nI s), vi (nI b), vi (nI al)] w (fun w1 => rowIs w1 s (tryS S al T s b a) ∧ fr4 s w w1) := by
  refine ⟨Nat.le_of_ble_eq_true rfl, ?_⟩
  show Wp E d m_M_tries 0 [lr 33, li (nI s), li (nI b), li (nI al), lo, lo, lo] [] w _
  have hp := (pN_ok S).1
  have hlt := two10 hp
  have hpl := popc_le s
  have hal2 := ann_le s b
  have hnd := needS_lt hV (b := b)
  have hna := ann_le (needS S b &&& al) b
  have hna2 : needS S b &&& al ≤ al := Nat.and_le_right
  have hcl := costS_le hV (b := b) (by omega) hb0
  have hpb := popc_le b
  have d1 := dvB_1 da
  have d2 := dvB_1 dl
  refine Wp_iload_n d_M_tries_0 rfl ?_
  refine Wp_iload_n d_M_tries_1 rfl ?_
  refine Wp_iconst (x := (-1)) d_M_tries_2 (by decide) ?_
  refine Wp_ixor d_M_tries_3 ?_
  refine Wp_iand d_M_tries_4 ?_
  refine Wp_eqi (x2 := nI (ann s b)) (anI s b) ?_
  refine Wp_istore (ls2 := [lr 33, li (nI s), li (nI b), li (nI al), li (nI (ann s b)), lo, lo]) d_M_tries_5 rfl rfl rfl ?_
  refine Wp_aload_n d_M_tries_7 rfl ?_
  refine Wp_getr d_M_tries_8 fd_M_52 rfl rfl rfl ?_
  refine Wp_iload_n d_M_tries_11 rfl ?_
  refine Wp_zaldN (j := b) d_M_tries_12 rfl rfl rfl rfl (by omega) ?_
  refine Wp_eqi (x2 := bi (okS S b)) (hM.2 b hb0 (by omega)).1 ?_
  refine Wp_if_eq d_M_tries_13 (fun h13 => ?_) (fun h13 => ?_)
  ·
    have hok : ¬ okS S b = true := fun q => by rw [q] at h13; exact absurd h13 (by decide)
    refine Wp_retv d_M_tries_41 rfl ?_
    have e9 : tryS S al T s b a = a := by unfold tryS; rw [ht, if_neg (by first | exact fun q => hok q.1 | exact fun q => g28 q.2.1 | exact fun q => q.2.2 hm)]
    rw [e9]; exact ⟨ha, fr4_rf⟩
  ·
    have hok : okS S b = true := by
      cases hq : okS S b
      · rw [hq] at h13; exact absurd rfl h13
      · rfl
    refine Wp_aload_n d_M_tries_16 rfl ?_
    refine Wp_getr d_M_tries_17 fd_M_49 rfl rfl rfl ?_
    refine Wp_iload_n d_M_tries_20 rfl ?_
    refine Wp_ialdN (j := b) d_M_tries_21 rfl rfl rfl rfl (by omega) ?_
    refine Wp_eqi (x2 := nI (needS S b)) (hM.2 b hb0 (by omega)).2.2 ?_
    refine Wp_iload_n d_M_tries_22 rfl ?_
    refine Wp_iand d_M_tries_23 ?_
    refine Wp_eqi (x2 := nI ((needS S b) &&& al)) (nI_and (needS S b) al) ?_
    refine Wp_iload_n d_M_tries_24 rfl ?_
    refine Wp_iconst (x := (-1)) d_M_tries_25 (by decide) ?_
    refine Wp_ixor d_M_tries_26 ?_
    refine Wp_iand d_M_tries_27 ?_
    refine Wp_eqi (x2 := nI (ann ((needS S b) &&& al) b)) (anI ((needS S b) &&& al) b) ?_
    refine Wp_if_ne d_M_tries_28 (fun h28 => ?_) (fun h28 => ?_)
    ·
      have g28 : (ann ((needS S b) &&& al) b) ≠ 0 := n_ne h28 (by omega) (by omega)
      refine Wp_retv d_M_tries_41 rfl ?_
      have e9 : tryS S al T s b a = a := by unfold tryS; rw [ht, if_neg (by first | exact fun q => hok q.1 | exact fun q => g28 q.2.1 | exact fun q => q.2.2 hm)]
      rw [e9]; exact ⟨ha, fr4_rf⟩
    ·
      have g28 : (ann ((needS S b) &&& al) b) = 0 := n_eq h28 (by omega) (by omega)
      refine Wp_aload_n d_M_tries_31 rfl ?_
      refine Wp_getr d_M_tries_32 fd_M_65 rfl rfl rfl ?_
      refine Wp_iload d_M_tries_35 rfl ?_
      refine Wp_ialdN (j := (ann s b)) d_M_tries_37 rfl rfl rfl rfl (by omega) ?_
      refine Wp_eqi (x2 := m1v t.2.2.2) hl.2.2.2 ?_
      refine Wp_if_ge d_M_tries_38 (fun h38 => ?_) (fun h38 => ?_)
      ·
        have hm : t.2.2.2 ≠ 0 := fun q => by have := (m1v_lt t.2.2.2 (by omega)).mpr q; have := i_le h38; have h0 : Int32.toInt 0 = 0 := rfl; omega
        have em : m1v t.2.2.2 = nI (t.2.2.2 - 1) := if_neg hm
        refine Wp_aload_n d_M_tries_42 rfl ?_
        refine Wp_getr d_M_tries_43 fd_M_46 rfl rfl rfl ?_
        refine Wp_iload_n d_M_tries_46 rfl ?_
        refine Wp_ialdN (j := b) d_M_tries_47 rfl rfl rfl rfl (by omega) ?_
        refine Wp_eqi (x2 := if okS S b = true then nI (costS S b) else 100000000) (hM.2 b hb0 (by omega)).2.1 ?_
        refine Wp_eqi (x2 := nI (costS S b)) (if_pos hok) ?_
        refine Wp_aload_n d_M_tries_48 rfl ?_
        refine Wp_getr d_M_tries_49 fd_M_56 rfl rfl rfl ?_
        refine Wp_iload d_M_tries_52 rfl ?_
        refine Wp_ialdN (j := (ann s b)) d_M_tries_54 rfl rfl rfl rfl (by omega) ?_
        refine Wp_eqi (x2 := nI t.1) hl.1 ?_
        refine Wp_iadd d_M_tries_55 ?_
        refine Wp_eqi (x2 := nI ((costS S b) + t.1)) (nI_add (costS S b) t.1) ?_
        refine Wp_istore (ls2 := [lr 33, li (nI s), li (nI b), li (nI al), li (nI (ann s b)), li (nI ((costS S b) + t.1)), lo]) d_M_tries_56 rfl rfl rfl ?_
        refine Wp_iconst (x := 1) d_M_tries_58 (by decide) ?_
        refine Wp_aload_n d_M_tries_59 rfl ?_
        refine Wp_getr d_M_tries_60 fd_M_59 rfl rfl rfl ?_
        refine Wp_iload d_M_tries_63 rfl ?_
        refine Wp_ialdN (j := (ann s b)) d_M_tries_65 rfl rfl rfl rfl (by omega) ?_
        refine Wp_eqi (x2 := nI t.2.1) hl.2.1 ?_
        refine Wp_iadd d_M_tries_66 ?_
        refine Wp_eqi (x2 := nI (1 + t.2.1)) (nI_add 1 t.2.1) ?_
        refine Wp_istore (ls2 := [lr 33, li (nI s), li (nI b), li (nI al), li (nI (ann s b)), li (nI ((costS S b) + t.1)), li (nI (1 + t.2.1))]) d_M_tries_67 rfl rfl rfl ?_
        refine Wp_iload d_M_tries_69 rfl ?_
        refine Wp_aload_n d_M_tries_71 rfl ?_
        refine Wp_getr d_M_tries_72 fd_M_56 rfl rfl rfl ?_
        refine Wp_iload_n d_M_tries_75 rfl ?_
        refine Wp_ialdN (j := s) d_M_tries_76 rfl rfl rfl rfl (by omega) ?_
        refine Wp_eqi (x2 := nI a.1) ha.1 ?_
        refine Wp_icmp_lt d_M_tries_77 (fun h77 => ?_) (fun h77 => ?_)
        ·
          have g77 : ((costS S b) + t.1) < a.1 := n_lt h77 (by omega) (by omega)
          refine Wp_aload_n d_M_tries_102 rfl ?_
          refine Wp_getr d_M_tries_103 fd_M_56 rfl rfl rfl ?_
          refine Wp_iload_n d_M_tries_106 rfl ?_
          refine Wp_iload d_M_tries_107 rfl ?_
          refine Wp_iastN (j := s) d_M_tries_109 rfl rfl rfl rfl (by omega) ?_
          refine Wp_aload_n d_M_tries_110 rfl ?_
          refine Wp_getr d_M_tries_111 fd_M_59 rfl rfl rfl ?_
          refine Wp_iload_n d_M_tries_114 rfl ?_
          refine Wp_iload d_M_tries_115 rfl ?_
          refine Wp_iastN (j := s) d_M_tries_117 rfl rfl rfl rfl (by omega) ?_
          refine Wp_aload_n d_M_tries_118 rfl ?_
          refine Wp_getr d_M_tries_119 fd_M_62 rfl rfl rfl ?_
          refine Wp_iload_n d_M_tries_122 rfl ?_
          refine Wp_iload_n d_M_tries_123 rfl ?_
          refine Wp_iastN (j := s) d_M_tries_124 rfl rfl rfl rfl (by omega) ?_
          refine Wp_aload_n d_M_tries_125 rfl ?_
          refine Wp_getr d_M_tries_126 fd_M_65 rfl rfl rfl ?_
          refine Wp_iload_n d_M_tries_129 rfl ?_
          refine Wp_aload_n d_M_tries_130 rfl ?_
          refine Wp_getr d_M_tries_131 fd_M_46 rfl rfl rfl ?_
          refine Wp_iload_n d_M_tries_134 rfl ?_
          refine Wp_ialdN (j := b) d_M_tries_135 rfl rfl rfl rfl (by omega) ?_
          refine Wp_eqi (x2 := w 46 b) (by simp [mU, mUr, upd]) ?_
          refine Wp_eqi (x2 := if okS S b = true then nI (costS S b) else 100000000) (hM.2 b hb0 (by omega)).2.1 ?_
          refine Wp_eqi (x2 := nI (costS S b)) (if_pos hok) ?_
          refine Wp_aload_n d_M_tries_136 rfl ?_
          refine Wp_getr d_M_tries_137 fd_M_65 rfl rfl rfl ?_
          refine Wp_iload d_M_tries_140 rfl ?_
          refine Wp_ialdN (j := (ann s b)) d_M_tries_142 rfl rfl rfl rfl (by omega) ?_
          refine Wp_eqi (x2 := w 52 (ann s b)) (by simp [mU, mUr, upd]) ?_
          refine Wp_eqi (x2 := m1v t.2.2.2) hl.2.2.2 ?_
          refine Wp_iadd d_M_tries_143 ?_
          refine Wp_eqi (x2 := nI (costS S b + (t.2.2.2 - 1))) (by rw [em, nI_add]) ?_
          refine Wp_aload_n d_M_tries_144 rfl ?_
          refine Wp_getr d_M_tries_145 fd_M_65 rfl rfl rfl ?_
          refine Wp_iload_n d_M_tries_148 rfl ?_
          refine Wp_ialdN (j := s) d_M_tries_149 rfl rfl rfl rfl (by omega) ?_
          refine Wp_eqi (x2 := w 52 s) (by simp [mU, mUr, upd]) ?_
          refine Wp_eqi (x2 := m1v a.2.2.2) ha.2.2.2 ?_
          refine Wp_icmp_le d_M_tries_150 (fun h150 => ?_) (fun h150 => ?_)
          ·
            have g150 : (nI (costS S b + (t.2.2.2 - 1))).toInt ≤ (m1v a.2.2.2).toInt := i_le h150
            rw [m1v_toInt (by omega), ti (by omega)] at g150
            refine Wp_aload_n d_M_tries_170 rfl ?_
            refine Wp_getr d_M_tries_171 fd_M_65 rfl rfl rfl ?_
            refine Wp_iload_n d_M_tries_174 rfl ?_
            refine Wp_ialdN (j := s) d_M_tries_175 rfl rfl rfl rfl (by omega) ?_
            refine Wp_eqi (x2 := w 52 s) (by simp [mU, mUr, upd]) ?_
            refine Wp_eqi (x2 := m1v a.2.2.2) ha.2.2.2 ?_
            refine Wp_iastN (j := s) d_M_tries_176 rfl rfl rfl rfl (by omega) ?_
            refine Wp_retv d_M_tries_177 rfl ?_
            have e9 : tryS S al T s b a = (costS S b + t.1, 1 + t.2.1, b, max a.2.2.2 (costS S b + t.2.2.2)) := by unfold tryS; rw [ht, if_pos ⟨hok, g28, hm⟩, if_pos (by omega)]
            rw [e9]
            refine ⟨⟨?_, ?_, ?_, ?_⟩, ?_⟩
            · simp [mU, mUr, upd]
            · simp [mU, mUr, upd]
            · simp [mU, mUr, upd]
            · rw [mU_at]; show m1v a.2.2.2 = m1v (max a.2.2.2 (costS S b + t.2.2.2)); congr 1; omega
            · exact fr4_tr (fr4_tr (fr4_tr (fr4_U (by decide)) (fr4_U (by decide))) (fr4_U (by decide))) (fr4_U (by decide))
          ·
            have g150 : (m1v a.2.2.2).toInt < (nI (costS S b + (t.2.2.2 - 1))).toInt := i_nle h150
            rw [m1v_toInt (by omega), ti (by omega)] at g150
            refine Wp_aload_n d_M_tries_153 rfl ?_
            refine Wp_getr d_M_tries_154 fd_M_46 rfl rfl rfl ?_
            refine Wp_iload_n d_M_tries_157 rfl ?_
            refine Wp_ialdN (j := b) d_M_tries_158 rfl rfl rfl rfl (by omega) ?_
            refine Wp_eqi (x2 := w 46 b) (by simp [mU, mUr, upd]) ?_
            refine Wp_eqi (x2 := if okS S b = true then nI (costS S b) else 100000000) (hM.2 b hb0 (by omega)).2.1 ?_
            refine Wp_eqi (x2 := nI (costS S b)) (if_pos hok) ?_
            refine Wp_aload_n d_M_tries_159 rfl ?_
            refine Wp_getr d_M_tries_160 fd_M_65 rfl rfl rfl ?_
            refine Wp_iload d_M_tries_163 rfl ?_
            refine Wp_ialdN (j := (ann s b)) d_M_tries_165 rfl rfl rfl rfl (by omega) ?_
            refine Wp_eqi (x2 := w 52 (ann s b)) (by simp [mU, mUr, upd]) ?_
            refine Wp_eqi (x2 := m1v t.2.2.2) hl.2.2.2 ?_
            refine Wp_iadd d_M_tries_166 ?_
            refine Wp_eqi (x2 := nI (costS S b + (t.2.2.2 - 1))) (by rw [em, nI_add]) ?_
            refine Wp_goto d_M_tries_167 ?_
            refine Wp_iastN (j := s) d_M_tries_176 rfl rfl rfl rfl (by omega) ?_
            refine Wp_retv d_M_tries_177 rfl ?_
            have e9 : tryS S al T s b a = (costS S b + t.1, 1 + t.2.1, b, max a.2.2.2 (costS S b + t.2.2.2)) := by unfold tryS; rw [ht, if_pos ⟨hok, g28, hm⟩, if_pos (by omega)]
            rw [e9]
            refine ⟨⟨?_, ?_, ?_, ?_⟩, ?_⟩
            · simp [mU, mUr, upd]
            · simp [mU, mUr, upd]
            · simp [mU, mUr, upd]
            · rw [mU_at]; unfold m1v; rw [if_neg (by show max a.2.2.2 (costS S b + t.2.2.2) ≠ 0; omega)]; congr 1; show _ = max a.2.2.2 (costS S b + t.2.2.2) - 1; omega
            · exact fr4_tr (fr4_tr (fr4_tr (fr4_U (by decide)) (fr4_U (by decide))) (fr4_U (by decide))) (fr4_U (by decide))
        ·
          have g77 : a.1 ≤ ((costS S b) + t.1) := n_nlt h77 (by omega) (by omega)
          refine Wp_iload d_M_tries_80 rfl ?_
          refine Wp_aload_n d_M_tries_82 rfl ?_
          refine Wp_getr d_M_tries_83 fd_M_56 rfl rfl rfl ?_
          refine Wp_iload_n d_M_tries_86 rfl ?_
          refine Wp_ialdN (j := s) d_M_tries_87 rfl rfl rfl rfl (by omega) ?_
          refine Wp_eqi (x2 := nI a.1) ha.1 ?_
          refine Wp_icmp_ne d_M_tries_88 (fun h88 => ?_) (fun h88 => ?_)
          ·
            have g88 : ((costS S b) + t.1) ≠ a.1 := n_ne h88 (by omega) (by omega)
            refine Wp_aload_n d_M_tries_125 rfl ?_
            refine Wp_getr d_M_tries_126 fd_M_65 rfl rfl rfl ?_
            refine Wp_iload_n d_M_tries_129 rfl ?_
            refine Wp_aload_n d_M_tries_130 rfl ?_
            refine Wp_getr d_M_tries_131 fd_M_46 rfl rfl rfl ?_
            refine Wp_iload_n d_M_tries_134 rfl ?_
            refine Wp_ialdN (j := b) d_M_tries_135 rfl rfl rfl rfl (by omega) ?_
            refine Wp_eqi (x2 := if okS S b = true then nI (costS S b) else 100000000) (hM.2 b hb0 (by omega)).2.1 ?_
            refine Wp_eqi (x2 := nI (costS S b)) (if_pos hok) ?_
            refine Wp_aload_n d_M_tries_136 rfl ?_
            refine Wp_getr d_M_tries_137 fd_M_65 rfl rfl rfl ?_
            refine Wp_iload d_M_tries_140 rfl ?_
            refine Wp_ialdN (j := (ann s b)) d_M_tries_142 rfl rfl rfl rfl (by omega) ?_
            refine Wp_eqi (x2 := m1v t.2.2.2) hl.2.2.2 ?_
            refine Wp_iadd d_M_tries_143 ?_
            refine Wp_eqi (x2 := nI (costS S b + (t.2.2.2 - 1))) (by rw [em, nI_add]) ?_
            refine Wp_aload_n d_M_tries_144 rfl ?_
            refine Wp_getr d_M_tries_145 fd_M_65 rfl rfl rfl ?_
            refine Wp_iload_n d_M_tries_148 rfl ?_
            refine Wp_ialdN (j := s) d_M_tries_149 rfl rfl rfl rfl (by omega) ?_
            refine Wp_eqi (x2 := m1v a.2.2.2) ha.2.2.2 ?_
            refine Wp_icmp_le d_M_tries_150 (fun h150 => ?_) (fun h150 => ?_)
            ·
              have g150 : (nI (costS S b + (t.2.2.2 - 1))).toInt ≤ (m1v a.2.2.2).toInt := i_le h150
              rw [m1v_toInt (by omega), ti (by omega)] at g150
              refine Wp_aload_n d_M_tries_170 rfl ?_
              refine Wp_getr d_M_tries_171 fd_M_65 rfl rfl rfl ?_
              refine Wp_iload_n d_M_tries_174 rfl ?_
              refine Wp_ialdN (j := s) d_M_tries_175 rfl rfl rfl rfl (by omega) ?_
              refine Wp_eqi (x2 := m1v a.2.2.2) ha.2.2.2 ?_
              refine Wp_iastN (j := s) d_M_tries_176 rfl rfl rfl rfl (by omega) ?_
              refine Wp_retv d_M_tries_177 rfl ?_
              have e9 : tryS S al T s b a = (a.1, a.2.1, a.2.2.1, max a.2.2.2 (costS S b + t.2.2.2)) := by unfold tryS; rw [ht, if_pos ⟨hok, g28, hm⟩, if_neg (by omega)]
              rw [e9]
              refine ⟨⟨?_, ?_, ?_, ?_⟩, ?_⟩
              · simp [mU, mUr, upd]; exact ha.1
              · simp [mU, mUr, upd]; exact ha.2.1
              · simp [mU, mUr, upd]; exact ha.2.2.1
              · rw [mU_at]; show m1v a.2.2.2 = m1v (max a.2.2.2 (costS S b + t.2.2.2)); congr 1; omega
              · exact fr4_U (by decide)
            ·
              have g150 : (m1v a.2.2.2).toInt < (nI (costS S b + (t.2.2.2 - 1))).toInt := i_nle h150
              rw [m1v_toInt (by omega), ti (by omega)] at g150
              refine Wp_aload_n d_M_tries_153 rfl ?_
              refine Wp_getr d_M_tries_154 fd_M_46 rfl rfl rfl ?_
              refine Wp_iload_n d_M_tries_157 rfl ?_
              refine Wp_ialdN (j := b) d_M_tries_158 rfl rfl rfl rfl (by omega) ?_
              refine Wp_eqi (x2 := if okS S b = true then nI (costS S b) else 100000000) (hM.2 b hb0 (by omega)).2.1 ?_
              refine Wp_eqi (x2 := nI (costS S b)) (if_pos hok) ?_
              refine Wp_aload_n d_M_tries_159 rfl ?_
              refine Wp_getr d_M_tries_160 fd_M_65 rfl rfl rfl ?_
              refine Wp_iload d_M_tries_163 rfl ?_
              refine Wp_ialdN (j := (ann s b)) d_M_tries_165 rfl rfl rfl rfl (by omega) ?_
              refine Wp_eqi (x2 := m1v t.2.2.2) hl.2.2.2 ?_
              refine Wp_iadd d_M_tries_166 ?_
              refine Wp_eqi (x2 := nI (costS S b + (t.2.2.2 - 1))) (by rw [em, nI_add]) ?_
              refine Wp_goto d_M_tries_167 ?_
              refine Wp_iastN (j := s) d_M_tries_176 rfl rfl rfl rfl (by omega) ?_
              refine Wp_retv d_M_tries_177 rfl ?_
              have e9 : tryS S al T s b a = (a.1, a.2.1, a.2.2.1, max a.2.2.2 (costS S b + t.2.2.2)) := by unfold tryS; rw [ht, if_pos ⟨hok, g28, hm⟩, if_neg (by omega)]
              rw [e9]
              refine ⟨⟨?_, ?_, ?_, ?_⟩, ?_⟩
              · simp [mU, mUr, upd]; exact ha.1
              · simp [mU, mUr, upd]; exact ha.2.1
              · simp [mU, mUr, upd]; exact ha.2.2.1
              · rw [mU_at]; unfold m1v; rw [if_neg (by show max a.2.2.2 (costS S b + t.2.2.2) ≠ 0; omega)]; congr 1; show _ = max a.2.2.2 (costS S b + t.2.2.2) - 1; omega
              · exact fr4_U (by decide)
          ·
            have g88 : ((costS S b) + t.1) = a.1 := n_eq h88 (by omega) (by omega)
            refine Wp_iload d_M_tries_91 rfl ?_
            refine Wp_aload_n d_M_tries_93 rfl ?_
            refine Wp_getr d_M_tries_94 fd_M_59 rfl rfl rfl ?_
            refine Wp_iload_n d_M_tries_97 rfl ?_
            refine Wp_ialdN (j := s) d_M_tries_98 rfl rfl rfl rfl (by omega) ?_
            refine Wp_eqi (x2 := nI a.2.1) ha.2.1 ?_
            refine Wp_icmp_ge d_M_tries_99 (fun h99 => ?_) (fun h99 => ?_)
            ·
              have g99 : a.2.1 ≤ (1 + t.2.1) := n_le h99 (by omega) (by omega)
              refine Wp_aload_n d_M_tries_125 rfl ?_
              refine Wp_getr d_M_tries_126 fd_M_65 rfl rfl rfl ?_
              refine Wp_iload_n d_M_tries_129 rfl ?_
              refine Wp_aload_n d_M_tries_130 rfl ?_
              refine Wp_getr d_M_tries_131 fd_M_46 rfl rfl rfl ?_
              refine Wp_iload_n d_M_tries_134 rfl ?_
              refine Wp_ialdN (j := b) d_M_tries_135 rfl rfl rfl rfl (by omega) ?_
              refine Wp_eqi (x2 := if okS S b = true then nI (costS S b) else 100000000) (hM.2 b hb0 (by omega)).2.1 ?_
              refine Wp_eqi (x2 := nI (costS S b)) (if_pos hok) ?_
              refine Wp_aload_n d_M_tries_136 rfl ?_
              refine Wp_getr d_M_tries_137 fd_M_65 rfl rfl rfl ?_
              refine Wp_iload d_M_tries_140 rfl ?_
              refine Wp_ialdN (j := (ann s b)) d_M_tries_142 rfl rfl rfl rfl (by omega) ?_
              refine Wp_eqi (x2 := m1v t.2.2.2) hl.2.2.2 ?_
              refine Wp_iadd d_M_tries_143 ?_
              refine Wp_eqi (x2 := nI (costS S b + (t.2.2.2 - 1))) (by rw [em, nI_add]) ?_
              refine Wp_aload_n d_M_tries_144 rfl ?_
              refine Wp_getr d_M_tries_145 fd_M_65 rfl rfl rfl ?_
              refine Wp_iload_n d_M_tries_148 rfl ?_
              refine Wp_ialdN (j := s) d_M_tries_149 rfl rfl rfl rfl (by omega) ?_
              refine Wp_eqi (x2 := m1v a.2.2.2) ha.2.2.2 ?_
              refine Wp_icmp_le d_M_tries_150 (fun h150 => ?_) (fun h150 => ?_)
              ·
                have g150 : (nI (costS S b + (t.2.2.2 - 1))).toInt ≤ (m1v a.2.2.2).toInt := i_le h150
                rw [m1v_toInt (by omega), ti (by omega)] at g150
                refine Wp_aload_n d_M_tries_170 rfl ?_
                refine Wp_getr d_M_tries_171 fd_M_65 rfl rfl rfl ?_
                refine Wp_iload_n d_M_tries_174 rfl ?_
                refine Wp_ialdN (j := s) d_M_tries_175 rfl rfl rfl rfl (by omega) ?_
                refine Wp_eqi (x2 := m1v a.2.2.2) ha.2.2.2 ?_
                refine Wp_iastN (j := s) d_M_tries_176 rfl rfl rfl rfl (by omega) ?_
                refine Wp_retv d_M_tries_177 rfl ?_
                have e9 : tryS S al T s b a = (a.1, a.2.1, a.2.2.1, max a.2.2.2 (costS S b + t.2.2.2)) := by unfold tryS; rw [ht, if_pos ⟨hok, g28, hm⟩, if_neg (by omega)]
                rw [e9]
                refine ⟨⟨?_, ?_, ?_, ?_⟩, ?_⟩
                · simp [mU, mUr, upd]; exact ha.1
                · simp [mU, mUr, upd]; exact ha.2.1
                · simp [mU, mUr, upd]; exact ha.2.2.1
                · rw [mU_at]; show m1v a.2.2.2 = m1v (max a.2.2.2 (costS S b + t.2.2.2)); congr 1; omega
                · exact fr4_U (by decide)
              ·
                have g150 : (m1v a.2.2.2).toInt < (nI (costS S b + (t.2.2.2 - 1))).toInt := i_nle h150
                rw [m1v_toInt (by omega), ti (by omega)] at g150
                refine Wp_aload_n d_M_tries_153 rfl ?_
                refine Wp_getr d_M_tries_154 fd_M_46 rfl rfl rfl ?_
                refine Wp_iload_n d_M_tries_157 rfl ?_
                refine Wp_ialdN (j := b) d_M_tries_158 rfl rfl rfl rfl (by omega) ?_
                refine Wp_eqi (x2 := if okS S b = true then nI (costS S b) else 100000000) (hM.2 b hb0 (by omega)).2.1 ?_
                refine Wp_eqi (x2 := nI (costS S b)) (if_pos hok) ?_
                refine Wp_aload_n d_M_tries_159 rfl ?_
                refine Wp_getr d_M_tries_160 fd_M_65 rfl rfl rfl ?_
                refine Wp_iload d_M_tries_163 rfl ?_
                refine Wp_ialdN (j := (ann s b)) d_M_tries_165 rfl rfl rfl rfl (by omega) ?_
                refine Wp_eqi (x2 := m1v t.2.2.2) hl.2.2.2 ?_
                refine Wp_iadd d_M_tries_166 ?_
                refine Wp_eqi (x2 := nI (costS S b + (t.2.2.2 - 1))) (by rw [em, nI_add]) ?_
                refine Wp_goto d_M_tries_167 ?_
                refine Wp_iastN (j := s) d_M_tries_176 rfl rfl rfl rfl (by omega) ?_
                refine Wp_retv d_M_tries_177 rfl ?_
                have e9 : tryS S al T s b a = (a.1, a.2.1, a.2.2.1, max a.2.2.2 (costS S b + t.2.2.2)) := by unfold tryS; rw [ht, if_pos ⟨hok, g28, hm⟩, if_neg (by omega)]
                rw [e9]
                refine ⟨⟨?_, ?_, ?_, ?_⟩, ?_⟩
                · simp [mU, mUr, upd]; exact ha.1
                · simp [mU, mUr, upd]; exact ha.2.1
                · simp [mU, mUr, upd]; exact ha.2.2.1
                · rw [mU_at]; unfold m1v; rw [if_neg (by show max a.2.2.2 (costS S b + t.2.2.2) ≠ 0; omega)]; congr 1; show _ = max a.2.2.2 (costS S b + t.2.2.2) - 1; omega
                · exact fr4_U (by decide)
            ·
              have g99 : (1 + t.2.1) < a.2.1 := n_nle h99 (by omega) (by omega)
              refine Wp_aload_n d_M_tries_102 rfl ?_
              refine Wp_getr d_M_tries_103 fd_M_56 rfl rfl rfl ?_
              refine Wp_iload_n d_M_tries_106 rfl ?_
              refine Wp_iload d_M_tries_107 rfl ?_
              refine Wp_iastN (j := s) d_M_tries_109 rfl rfl rfl rfl (by omega) ?_
              refine Wp_aload_n d_M_tries_110 rfl ?_
              refine Wp_getr d_M_tries_111 fd_M_59 rfl rfl rfl ?_
              refine Wp_iload_n d_M_tries_114 rfl ?_
              refine Wp_iload d_M_tries_115 rfl ?_
              refine Wp_iastN (j := s) d_M_tries_117 rfl rfl rfl rfl (by omega) ?_
              refine Wp_aload_n d_M_tries_118 rfl ?_
              refine Wp_getr d_M_tries_119 fd_M_62 rfl rfl rfl ?_
              refine Wp_iload_n d_M_tries_122 rfl ?_
              refine Wp_iload_n d_M_tries_123 rfl ?_
              refine Wp_iastN (j := s) d_M_tries_124 rfl rfl rfl rfl (by omega) ?_
              refine Wp_aload_n d_M_tries_125 rfl ?_
              refine Wp_getr d_M_tries_126 fd_M_65 rfl rfl rfl ?_
              refine Wp_iload_n d_M_tries_129 rfl ?_
              refine Wp_aload_n d_M_tries_130 rfl ?_
              refine Wp_getr d_M_tries_131 fd_M_46 rfl rfl rfl ?_
              refine Wp_iload_n d_M_tries_134 rfl ?_
              refine Wp_ialdN (j := b) d_M_tries_135 rfl rfl rfl rfl (by omega) ?_
              refine Wp_eqi (x2 := w 46 b) (by simp [mU, mUr, upd]) ?_
              refine Wp_eqi (x2 := if okS S b = true then nI (costS S b) else 100000000) (hM.2 b hb0 (by omega)).2.1 ?_
              refine Wp_eqi (x2 := nI (costS S b)) (if_pos hok) ?_
              refine Wp_aload_n d_M_tries_136 rfl ?_
              refine Wp_getr d_M_tries_137 fd_M_65 rfl rfl rfl ?_
              refine Wp_iload d_M_tries_140 rfl ?_
              refine Wp_ialdN (j := (ann s b)) d_M_tries_142 rfl rfl rfl rfl (by omega) ?_
              refine Wp_eqi (x2 := w 52 (ann s b)) (by simp [mU, mUr, upd]) ?_
              refine Wp_eqi (x2 := m1v t.2.2.2) hl.2.2.2 ?_
              refine Wp_iadd d_M_tries_143 ?_
              refine Wp_eqi (x2 := nI (costS S b + (t.2.2.2 - 1))) (by rw [em, nI_add]) ?_
              refine Wp_aload_n d_M_tries_144 rfl ?_
              refine Wp_getr d_M_tries_145 fd_M_65 rfl rfl rfl ?_
              refine Wp_iload_n d_M_tries_148 rfl ?_
              refine Wp_ialdN (j := s) d_M_tries_149 rfl rfl rfl rfl (by omega) ?_
              refine Wp_eqi (x2 := w 52 s) (by simp [mU, mUr, upd]) ?_
              refine Wp_eqi (x2 := m1v a.2.2.2) ha.2.2.2 ?_
              refine Wp_icmp_le d_M_tries_150 (fun h150 => ?_) (fun h150 => ?_)
              ·
                have g150 : (nI (costS S b + (t.2.2.2 - 1))).toInt ≤ (m1v a.2.2.2).toInt := i_le h150
                rw [m1v_toInt (by omega), ti (by omega)] at g150
                refine Wp_aload_n d_M_tries_170 rfl ?_
                refine Wp_getr d_M_tries_171 fd_M_65 rfl rfl rfl ?_
                refine Wp_iload_n d_M_tries_174 rfl ?_
                refine Wp_ialdN (j := s) d_M_tries_175 rfl rfl rfl rfl (by omega) ?_
                refine Wp_eqi (x2 := w 52 s) (by simp [mU, mUr, upd]) ?_
                refine Wp_eqi (x2 := m1v a.2.2.2) ha.2.2.2 ?_
                refine Wp_iastN (j := s) d_M_tries_176 rfl rfl rfl rfl (by omega) ?_
                refine Wp_retv d_M_tries_177 rfl ?_
                have e9 : tryS S al T s b a = (costS S b + t.1, 1 + t.2.1, b, max a.2.2.2 (costS S b + t.2.2.2)) := by unfold tryS; rw [ht, if_pos ⟨hok, g28, hm⟩, if_pos (by omega)]
                rw [e9]
                refine ⟨⟨?_, ?_, ?_, ?_⟩, ?_⟩
                · simp [mU, mUr, upd]
                · simp [mU, mUr, upd]
                · simp [mU, mUr, upd]
                · rw [mU_at]; show m1v a.2.2.2 = m1v (max a.2.2.2 (costS S b + t.2.2.2)); congr 1; omega
                · exact fr4_tr (fr4_tr (fr4_tr (fr4_U (by decide)) (fr4_U (by decide))) (fr4_U (by decide))) (fr4_U (by decide))
              ·
                have g150 : (m1v a.2.2.2).toInt < (nI (costS S b + (t.2.2.2 - 1))).toInt := i_nle h150
                rw [m1v_toInt (by omega), ti (by omega)] at g150
                refine Wp_aload_n d_M_tries_153 rfl ?_
                refine Wp_getr d_M_tries_154 fd_M_46 rfl rfl rfl ?_
                refine Wp_iload_n d_M_tries_157 rfl ?_
                refine Wp_ialdN (j := b) d_M_tries_158 rfl rfl rfl rfl (by omega) ?_
                refine Wp_eqi (x2 := w 46 b) (by simp [mU, mUr, upd]) ?_
                refine Wp_eqi (x2 := if okS S b = true then nI (costS S b) else 100000000) (hM.2 b hb0 (by omega)).2.1 ?_
                refine Wp_eqi (x2 := nI (costS S b)) (if_pos hok) ?_
                refine Wp_aload_n d_M_tries_159 rfl ?_
                refine Wp_getr d_M_tries_160 fd_M_65 rfl rfl rfl ?_
                refine Wp_iload d_M_tries_163 rfl ?_
                refine Wp_ialdN (j := (ann s b)) d_M_tries_165 rfl rfl rfl rfl (by omega) ?_
                refine Wp_eqi (x2 := w 52 (ann s b)) (by simp [mU, mUr, upd]) ?_
                refine Wp_eqi (x2 := m1v t.2.2.2) hl.2.2.2 ?_
                refine Wp_iadd d_M_tries_166 ?_
                refine Wp_eqi (x2 := nI (costS S b + (t.2.2.2 - 1))) (by rw [em, nI_add]) ?_
                refine Wp_goto d_M_tries_167 ?_
                refine Wp_iastN (j := s) d_M_tries_176 rfl rfl rfl rfl (by omega) ?_
                refine Wp_retv d_M_tries_177 rfl ?_
                have e9 : tryS S al T s b a = (costS S b + t.1, 1 + t.2.1, b, max a.2.2.2 (costS S b + t.2.2.2)) := by unfold tryS; rw [ht, if_pos ⟨hok, g28, hm⟩, if_pos (by omega)]
                rw [e9]
                refine ⟨⟨?_, ?_, ?_, ?_⟩, ?_⟩
                · simp [mU, mUr, upd]
                · simp [mU, mUr, upd]
                · simp [mU, mUr, upd]
                · rw [mU_at]; unfold m1v; rw [if_neg (by show max a.2.2.2 (costS S b + t.2.2.2) ≠ 0; omega)]; congr 1; show _ = max a.2.2.2 (costS S b + t.2.2.2) - 1; omega
                · exact fr4_tr (fr4_tr (fr4_tr (fr4_U (by decide)) (fr4_U (by decide))) (fr4_U (by decide))) (fr4_U (by decide))
      ·
        have hm : t.2.2.2 = 0 := (m1v_lt t.2.2.2 (by omega)).mp (by have := i_nle h38; have h0 : Int32.toInt 0 = 0 := rfl; omega)
        refine Wp_retv d_M_tries_41 rfl ?_
        have e9 : tryS S al T s b a = a := by unfold tryS; rw [ht, if_neg (by first | exact fun q => hok q.1 | exact fun q => g28 q.2.1 | exact fun q => q.2.2 hm)]
        rw [e9]; exact ⟨ha, fr4_rf⟩
theorem tb_ann (a b i : Nat) : (ann a b).testBit i = (a.testBit i && !b.testBit i) := by
  unfold ann; rw [Nat.testBit_xor, Nat.testBit_and]
  cases a.testBit i <;> cases b.testBit i <;> rfl
theorem ann_sub {s b al : Nat} (h : s &&& al = s) : ann s b &&& al = ann s b := by
  apply Nat.eq_of_testBit_eq
  intro i
  have h1 : (s &&& al).testBit i = s.testBit i := by rw [h]
  rw [Nat.testBit_and] at h1
  rw [Nat.testBit_and, tb_ann]
  revert h1
  cases s.testBit i <;> cases al.testBit i <;> cases b.testBit i <;> simp
theorem ann_0 {s al : Nat} : ann s al = 0 ↔ s &&& al = s := by
  constructor
  · intro h
    apply Nat.eq_of_testBit_eq
    intro i
    have h1 : (ann s al).testBit i = false := by rw [h]; exact Nat.zero_testBit i
    rw [tb_ann] at h1
    rw [Nat.testBit_and]
    revert h1
    cases s.testBit i <;> cases al.testBit i <;> simp
  · intro h
    unfold ann; rw [h, Nat.xor_self]
def MD (w S : mw) (al : Nat) : Prop := ∀ x, x ≤ al → x &&& al = x → rowIs w x (DD S al x)
theorem rowIs_fr {w w1 : mw} {s x : Nat} {v : dv} (hf : fr4 s w w1) (hx : x ≠ s) (h : rowIs w x v) : rowIs w1 x v := by
  unfold rowIs
  rw [hf.2 49 x hx, hf.2 50 x hx, hf.2 51 x hx, hf.2 52 x hx]
  exact h
theorem MB_fr4 {w w1 S : mw} {s : Nat} (h : MB w S) (hf : fr4 s w w1) : MB w1 S := MB_fr h hf.1 (by decide)
set_option maxRecDepth 100000 in
set_option maxHeartbeats 4000000 in
theorem l_M_fd2 (E : mE) (d : Nat) (hd : 1 ≤ d) (S : mw) (hV : VM S) (al s : Nat) (hal : al < 2 ^ pN S) (hs : s ≤ al) (hs0 : 0 < s) (hsa : s &&& al = s) (Q : Option mv → mw → Prop) : ∀ (j k : Nat) (w : mw), k + j = lst s → MB w S → (∀ x, x < s → x &&& al = x → rowIs w x (DD S al x)) → rowIs w s (cmpn S al (DD S al) s k) → (∀ w1, rowIs w1 s (cmpn S al (DD S al) s (lst s + 1)) → fr4 s w w1 → Wp E d m_M_findDay 116 [lr 33, li (nI al), li (nI s), li (nI (rst s)), li (nI (lob s)), li (-1)] [] w1 Q) → Wp E d m_M_findDay 75 [lr 33, li (nI al), li (nI s), li (nI (rst s)), li (nI (lob s)), li (nI (prt (rst s) k))] [] w Q := by
  intro j
  have hp := (pN_ok S).1
  have hlt := two10 hp
  induction j with
  | zero =>
    intro k w hk hB hT hr hQ
    have hkl : k = lst s := by omega
    have hg := sbs_good (s := s) (k := k) (by omega) hs0 (by omega)
    have hlast := (sbs_last (s := s) (k := k) (by omega) hs0 (by omega)).mpr hkl
    refine Wp_iload_n d_M_findDay_75 rfl ?_
    refine Wp_if_eq d_M_findDay_76 (fun q => absurd (n_eq (b := 0) q (by omega) (by omega)) (by omega)) (fun h76 => ?_)
    refine Wp_iload d_M_findDay_79 rfl ?_
    refine Wp_if_lt d_M_findDay_81 (fun q => absurd (n_lt (b := 0) q (by have := hg.2.2.2.2.2.2; omega) (by omega)) (by omega)) (fun h81 => ?_)
    refine Wp_aload_n d_M_findDay_84 rfl ?_
    refine Wp_iload_n d_M_findDay_85 rfl ?_
    refine Wp_iload d_M_findDay_86 rfl ?_
    refine Wp_iload d_M_findDay_88 rfl ?_
    refine Wp_ior d_M_findDay_90 ?_
    refine Wp_eqi (x2 := nI ((lob s) ||| (prt (rst s) k))) (nI_or (lob s) (prt (rst s) k)) ?_
    refine Wp_eqi (x2 := nI (sbs s k)) rfl ?_
    refine Wp_iload_n d_M_findDay_91 rfl ?_
    refine Wp_ivv_v (o := 33) (As := [vi (nI s), vi (nI (sbs s k)), vi (nI al)]) d_M_findDay_92 ln_M_193 mk_M_tries rfl rfl rfl rfl rfl (by omega) (t_M_tries E (d - 1) (by omega) w S hB hV al s (sbs s k) (DD S al) (cmpn S al (DD S al) s k) (by omega) hg.2.2.2.1 hg.2.2.2.2.1 (by omega) _ rfl hr (hT _ hg.2.1 (ann_sub hsa)) (cmpn_ok hV (by omega) hs0 (fun x hx => DD_okk hV (by omega)) k (by omega)) (DD_okk hV (by have := hg.2.1; omega))) (fun w92 c92 => ?_)
    obtain ⟨r1, f1⟩ := c92
    refine Wp_iload d_M_findDay_95 rfl ?_
    refine Wp_iload_n d_M_findDay_97 rfl ?_
    refine Wp_icmp_ne d_M_findDay_98 (fun q => absurd (congrArg nI hlast) q) (fun h98 => ?_)
    refine Wp_iconst (x := (-1)) d_M_findDay_101 (by decide) ?_
    refine Wp_goto d_M_findDay_102 ?_
    refine Wp_istore (ls2 := [lr 33, li (nI al), li (nI s), li (nI (rst s)), li (nI (lob s)), li (-1)]) d_M_findDay_111 rfl rfl rfl ?_
    refine Wp_goto d_M_findDay_113 ?_
    refine Wp_iload_n d_M_findDay_75 rfl ?_
    refine Wp_if_eq d_M_findDay_76 (fun q => absurd (n_eq (b := 0) q (by omega) (by omega)) (by omega)) (fun h76 => ?_)
    refine Wp_iload d_M_findDay_79 rfl ?_
    refine Wp_if_lt d_M_findDay_81 (fun _ => ?_) (fun q => absurd (by decide) q)
    exact hQ _ (by rw [← hkl]; exact r1) f1
  | succ j ih =>
    intro k w hk hB hT hr hQ
    have hkl : k ≠ lst s := by omega
    have hg := sbs_good (s := s) (k := k) (by omega) hs0 (by omega)
    have hlast : prt (rst s) k ≠ rst s := fun q => hkl ((sbs_last (s := s) (k := k) (by omega) hs0 (by omega)).mp q)
    have hrl : rst s ≤ s := Nat.and_le_left
    refine Wp_iload_n d_M_findDay_75 rfl ?_
    refine Wp_if_eq d_M_findDay_76 (fun q => absurd (n_eq (b := 0) q (by omega) (by omega)) (by omega)) (fun h76 => ?_)
    refine Wp_iload d_M_findDay_79 rfl ?_
    refine Wp_if_lt d_M_findDay_81 (fun q => absurd (n_lt (b := 0) q (by have := hg.2.2.2.2.2.2; omega) (by omega)) (by omega)) (fun h81 => ?_)
    refine Wp_aload_n d_M_findDay_84 rfl ?_
    refine Wp_iload_n d_M_findDay_85 rfl ?_
    refine Wp_iload d_M_findDay_86 rfl ?_
    refine Wp_iload d_M_findDay_88 rfl ?_
    refine Wp_ior d_M_findDay_90 ?_
    refine Wp_eqi (x2 := nI ((lob s) ||| (prt (rst s) k))) (nI_or (lob s) (prt (rst s) k)) ?_
    refine Wp_eqi (x2 := nI (sbs s k)) rfl ?_
    refine Wp_iload_n d_M_findDay_91 rfl ?_
    refine Wp_ivv_v (o := 33) (As := [vi (nI s), vi (nI (sbs s k)), vi (nI al)]) d_M_findDay_92 ln_M_193 mk_M_tries rfl rfl rfl rfl rfl (by omega) (t_M_tries E (d - 1) (by omega) w S hB hV al s (sbs s k) (DD S al) (cmpn S al (DD S al) s k) (by omega) hg.2.2.2.1 hg.2.2.2.2.1 (by omega) _ rfl hr (hT _ hg.2.1 (ann_sub hsa)) (cmpn_ok hV (by omega) hs0 (fun x hx => DD_okk hV (by omega)) k (by omega)) (DD_okk hV (by have := hg.2.1; omega))) (fun w92 c92 => ?_)
    obtain ⟨r1, f1⟩ := c92
    refine Wp_iload d_M_findDay_95 rfl ?_
    refine Wp_iload_n d_M_findDay_97 rfl ?_
    refine Wp_icmp_ne d_M_findDay_98 (fun h98 => ?_) (fun q => absurd (n_eq q (by have := hg.2.2.2.2.2.2; omega) (by omega)) hlast)
    refine Wp_iload d_M_findDay_105 rfl ?_
    refine Wp_iload_n d_M_findDay_107 rfl ?_
    refine Wp_isub d_M_findDay_108 ?_
    refine Wp_iload_n d_M_findDay_109 rfl ?_
    refine Wp_iand d_M_findDay_110 ?_
    refine Wp_eqi (x2 := nI (prt (rst s) (k + 1))) hg.2.2.2.2.2.1 ?_
    refine Wp_istore (ls2 := [lr 33, li (nI al), li (nI s), li (nI (rst s)), li (nI (lob s)), li (nI (prt (rst s) (k + 1)))]) d_M_findDay_111 rfl rfl rfl ?_
    refine Wp_goto d_M_findDay_113 ?_
    refine ih (k + 1) w92 (by omega) (MB_fr4 hB f1) (fun x hx hxa => rowIs_fr f1 (by omega) (hT x hx hxa)) r1 (fun w1 a1 a2 => hQ w1 a1 (fr4_tr f1 a2))
set_option maxRecDepth 100000 in
set_option maxHeartbeats 4000000 in
theorem l_M_fd1 (E : mE) (d : Nat) (hd : 1 ≤ d) (S : mw) (hV : VM S) (al : Nat) (hal : al < 2 ^ pN S) : ∀ (k s : Nat) (w : mw) (u3 u4 u5 : Option mv), s + k = al + 1 → MB w S → (∀ x, x < s → x &&& al = x → rowIs w x (DD S al x)) → Wp E d m_M_findDay 2 [lr 33, li (nI al), li (nI s), u3, u4, u5] [] w (mPv (fun w1 => MD w1 S al ∧ fr [49, 50, 51, 52] w w1)) := by
  intro k
  have hp := (pN_ok S).1
  have hlt := two10 hp
  induction k with
  | zero =>
    intro s w u3 u4 u5 hk hB hT
    refine Wp_iload_n d_M_findDay_2 rfl ?_
    refine Wp_iload_n d_M_findDay_3 rfl ?_
    refine Wp_icmp_gt d_M_findDay_4 (fun h4 => ?_) (fun q => absurd (n_nlt q (by omega) (by omega)) (by omega))
    refine Wp_retv d_M_findDay_122 rfl ?_
    exact ⟨fun x hx hxa => hT x (by omega) hxa, fr_rf⟩
  | succ k ih =>
    intro s w u3 u4 u5 hk hB hT
    rcases Nat.eq_zero_or_pos s with hs0 | hs0
    · subst hs0
      refine Wp_iload_n d_M_findDay_2 rfl ?_
      refine Wp_iload_n d_M_findDay_3 rfl ?_
      refine Wp_icmp_gt d_M_findDay_4 (fun q => absurd (n_lt (b := 0) q (by omega) (by omega)) (by omega)) (fun h4 => ?_)
      refine Wp_iload_n d_M_findDay_7 rfl ?_
      refine Wp_iload_n d_M_findDay_8 rfl ?_
      refine Wp_iconst (x := (-1)) d_M_findDay_9 (by decide) ?_
      refine Wp_ixor d_M_findDay_10 ?_
      refine Wp_iand d_M_findDay_11 ?_
      refine Wp_eqi (x2 := 0) (show (0 : Int32) &&& (nI al ^^^ (-1)) = 0 by rw [show (0 : Int32) = nI 0 from rfl, anI]; unfold ann; simp) ?_
      refine Wp_if_ne d_M_findDay_12 (fun q => absurd q (by decide)) (fun _ => ?_)
      refine Wp_aload_n d_M_findDay_15 rfl ?_
      refine Wp_getr d_M_findDay_16 fd_M_56 rfl rfl rfl ?_
      refine Wp_iload_n d_M_findDay_19 rfl ?_
      refine Wp_iload_n d_M_findDay_20 rfl ?_
      refine Wp_if_ne d_M_findDay_21 (fun q => absurd q (by decide)) (fun _ => ?_)
      refine Wp_iconst (x := 0) d_M_findDay_24 (by decide) ?_
      refine Wp_goto d_M_findDay_25 ?_
      refine Wp_iastN (j := 0) d_M_findDay_30 rfl rfl rfl rfl (by decide) ?_
      refine Wp_aload_n d_M_findDay_31 rfl ?_
      refine Wp_getr d_M_findDay_32 fd_M_59 rfl rfl rfl ?_
      refine Wp_iload_n d_M_findDay_35 rfl ?_
      refine Wp_iconst (x := 0) d_M_findDay_36 (by decide) ?_
      refine Wp_iastN (j := 0) d_M_findDay_37 rfl rfl rfl rfl (by decide) ?_
      refine Wp_aload_n d_M_findDay_38 rfl ?_
      refine Wp_getr d_M_findDay_39 fd_M_62 rfl rfl rfl ?_
      refine Wp_iload_n d_M_findDay_42 rfl ?_
      refine Wp_iconst (x := 0) d_M_findDay_43 (by decide) ?_
      refine Wp_iastN (j := 0) d_M_findDay_44 rfl rfl rfl rfl (by decide) ?_
      refine Wp_aload_n d_M_findDay_45 rfl ?_
      refine Wp_getr d_M_findDay_46 fd_M_65 rfl rfl rfl ?_
      refine Wp_iload_n d_M_findDay_49 rfl ?_
      refine Wp_iload_n d_M_findDay_50 rfl ?_
      refine Wp_if_ne d_M_findDay_51 (fun q => absurd q (by decide)) (fun _ => ?_)
      refine Wp_iconst (x := 0) d_M_findDay_54 (by decide) ?_
      refine Wp_goto d_M_findDay_55 ?_
      refine Wp_iastN (j := 0) d_M_findDay_59 rfl rfl rfl rfl (by decide) ?_
      refine Wp_iload_n d_M_findDay_60 rfl ?_
      refine Wp_iload_n d_M_findDay_61 rfl ?_
      refine Wp_iconst (x := 1) d_M_findDay_62 (by decide) ?_
      refine Wp_isub d_M_findDay_63 ?_
      refine Wp_eqi (x2 := (-1)) (by decide) ?_
      refine Wp_iand d_M_findDay_64 ?_
      refine Wp_eqi (x2 := 0) (by decide) ?_
      refine Wp_istore_n (ls2 := [lr 33, li (nI al), li 0, li 0, u4, u5]) d_M_findDay_65 rfl rfl rfl ?_
      refine Wp_iload_n d_M_findDay_66 rfl ?_
      refine Wp_iload_n d_M_findDay_67 rfl ?_
      refine Wp_ineg d_M_findDay_68 ?_
      refine Wp_iand d_M_findDay_69 ?_
      refine Wp_eqi (x2 := 0) (by decide) ?_
      refine Wp_istore (ls2 := [lr 33, li (nI al), li 0, li 0, li 0, u5]) d_M_findDay_70 rfl rfl rfl ?_
      refine Wp_iconst (x := 0) d_M_findDay_72 (by decide) ?_
      refine Wp_istore (ls2 := [lr 33, li (nI al), li 0, li 0, li 0, li 0]) d_M_findDay_73 rfl rfl rfl ?_
      refine Wp_iload_n d_M_findDay_75 rfl ?_
      refine Wp_if_eq d_M_findDay_76 (fun _ => ?_) (fun q => absurd (by decide) q)
      refine Wp_iinc (z := 1) (ls2 := [lr 33, li (nI al), li 1, li 0, li 0, li 0]) d_M_findDay_116 rfl (by decide) rfl rfl rfl ?_
      refine Wp_goto d_M_findDay_119 ?_
      have f1 : fr4 0 w (mU (mU (mU (mU w 49 0 0) 50 0 0) 51 0 0) 52 0 0) := fr4_tr (fr4_tr (fr4_tr (fr4_U (by decide)) (fr4_U (by decide))) (fr4_U (by decide))) (fr4_U (by decide))
      refine Wp_mv (ih 1 _ _ _ _ (by omega) (MB_fr4 hB f1) (fun x hx hxa => ?_)) (fun w1 h => ⟨h.1, fr_tr f1.1 h.2⟩)
      have hx0 : x = 0 := by omega
      subst hx0
      rw [DD_eq (by omega)]
      refine ⟨?_, ?_, ?_, ?_⟩ <;> (simp [mU, mUr, upd, comp, m1v]; try rfl)
    · have hal9 := ann_le s al
      refine Wp_iload_n d_M_findDay_2 rfl ?_
      refine Wp_iload_n d_M_findDay_3 rfl ?_
      refine Wp_icmp_gt d_M_findDay_4 (fun q => absurd (n_lt q (by omega) (by omega)) (by omega)) (fun h4 => ?_)
      refine Wp_iload_n d_M_findDay_7 rfl ?_
      refine Wp_iload_n d_M_findDay_8 rfl ?_
      refine Wp_iconst (x := (-1)) d_M_findDay_9 (by decide) ?_
      refine Wp_ixor d_M_findDay_10 ?_
      refine Wp_iand d_M_findDay_11 ?_
      refine Wp_eqi (x2 := nI (ann s al)) (anI s al) ?_
      refine Wp_if_ne d_M_findDay_12 (fun h12 => ?_) (fun h12 => ?_)
      ·
        have g12 : (ann s al) ≠ 0 := n_ne h12 (by omega) (by omega)
        refine Wp_iinc (z := nI (s + 1)) (ls2 := [lr 33, li (nI al), li (nI (s + 1)), u3, u4, u5]) d_M_findDay_116 rfl (nI_add s 1) rfl rfl rfl ?_
        refine Wp_goto d_M_findDay_119 ?_
        refine Wp_mv (ih (s + 1) w _ _ _ (by omega) hB (fun x hx hxa => ?_)) (fun w1 h => h)
        by_cases hxs : x = s
        · subst hxs; exact absurd (ann_0.mpr hxa) g12
        · exact hT x (by omega) hxa
      ·
        have g12 : (ann s al) = 0 := n_eq h12 (by omega) (by omega)
        refine Wp_aload_n d_M_findDay_15 rfl ?_
        refine Wp_getr d_M_findDay_16 fd_M_56 rfl rfl rfl ?_
        refine Wp_iload_n d_M_findDay_19 rfl ?_
        refine Wp_iload_n d_M_findDay_20 rfl ?_
        refine Wp_if_ne d_M_findDay_21 (fun h21 => ?_) (fun q => absurd (n_eq (b := 0) q (by omega) (by omega)) (by omega))
        refine Wp_ldc (x := 100000000) d_M_findDay_28 kc_M_176 ?_
        refine Wp_iastN (j := s) d_M_findDay_30 rfl rfl rfl rfl (by omega) ?_
        refine Wp_aload_n d_M_findDay_31 rfl ?_
        refine Wp_getr d_M_findDay_32 fd_M_59 rfl rfl rfl ?_
        refine Wp_iload_n d_M_findDay_35 rfl ?_
        refine Wp_iconst (x := 0) d_M_findDay_36 (by decide) ?_
        refine Wp_iastN (j := s) d_M_findDay_37 rfl rfl rfl rfl (by omega) ?_
        refine Wp_aload_n d_M_findDay_38 rfl ?_
        refine Wp_getr d_M_findDay_39 fd_M_62 rfl rfl rfl ?_
        refine Wp_iload_n d_M_findDay_42 rfl ?_
        refine Wp_iconst (x := 0) d_M_findDay_43 (by decide) ?_
        refine Wp_iastN (j := s) d_M_findDay_44 rfl rfl rfl rfl (by omega) ?_
        refine Wp_aload_n d_M_findDay_45 rfl ?_
        refine Wp_getr d_M_findDay_46 fd_M_65 rfl rfl rfl ?_
        refine Wp_iload_n d_M_findDay_49 rfl ?_
        refine Wp_iload_n d_M_findDay_50 rfl ?_
        refine Wp_if_ne d_M_findDay_51 (fun h51 => ?_) (fun q => absurd (n_eq (b := 0) q (by omega) (by omega)) (by omega))
        refine Wp_iconst (x := (-1)) d_M_findDay_58 (by decide) ?_
        refine Wp_iastN (j := s) d_M_findDay_59 rfl rfl rfl rfl (by omega) ?_
        refine Wp_iload_n d_M_findDay_60 rfl ?_
        refine Wp_iload_n d_M_findDay_61 rfl ?_
        refine Wp_iconst (x := 1) d_M_findDay_62 (by decide) ?_
        refine Wp_isub d_M_findDay_63 ?_
        refine Wp_eqi (x2 := nI (s - 1)) (pk_sub (a := s) (b := 1) (by omega)) ?_
        refine Wp_iand d_M_findDay_64 ?_
        refine Wp_eqi (x2 := nI (rst s)) (nI_and s (s - 1)) ?_
        refine Wp_istore_n (ls2 := [lr 33, li (nI al), li (nI s), li (nI (rst s)), u4, u5]) d_M_findDay_65 rfl rfl rfl ?_
        refine Wp_iload_n d_M_findDay_66 rfl ?_
        refine Wp_iload_n d_M_findDay_67 rfl ?_
        refine Wp_ineg d_M_findDay_68 ?_
        refine Wp_iand d_M_findDay_69 ?_
        refine Wp_eqi (x2 := nI (lob s)) (lobI s (by omega) hs0) ?_
        refine Wp_istore (ls2 := [lr 33, li (nI al), li (nI s), li (nI (rst s)), li (nI (lob s)), u5]) d_M_findDay_70 rfl rfl rfl ?_
        refine Wp_iconst (x := 0) d_M_findDay_72 (by decide) ?_
        refine Wp_istore (ls2 := [lr 33, li (nI al), li (nI s), li (nI (rst s)), li (nI (lob s)), li 0]) d_M_findDay_73 rfl rfl rfl ?_
        have f1 : fr4 s w (mU (mU (mU (mU w 49 s 100000000) 50 s 0) 51 s 0) 52 s (-1)) := fr4_tr (fr4_tr (fr4_tr (fr4_U (by decide)) (fr4_U (by decide))) (fr4_U (by decide))) (fr4_U (by decide))
        have hsa := ann_0.mp g12
        refine l_M_fd2 E d (by omega) S hV al s hal (by omega) hs0 hsa _ (lst s) 0 _ (by omega) (MB_fr4 hB f1) (fun x hx hxa => rowIs_fr f1 (by omega) (hT x hx hxa)) ?_ (fun w1 a1 a2 => ?_)
        · refine ⟨?_, ?_, ?_, ?_⟩ <;> (simp [mU, mUr, upd, cmpn, m1v]; try rfl)
        ·
          refine Wp_iinc (z := nI (s + 1)) (ls2 := [lr 33, li (nI al), li (nI (s + 1)), li (nI (rst s)), li (nI (lob s)), li (-1)]) d_M_findDay_116 rfl (nI_add s 1) rfl rfl rfl ?_
          refine Wp_goto d_M_findDay_119 ?_
          have f2 := fr4_tr f1 a2
          refine Wp_mv (ih (s + 1) _ _ _ _ (by omega) (MB_fr4 hB f2) (fun x hx hxa => ?_)) (fun w1 h => ⟨h.1, fr_tr f2.1 h.2⟩)
          by_cases hxs : x = s
          · subst hxs; rw [DD_eq (by omega)]; unfold comp; rw [if_neg (by omega)]; exact a1
          · exact rowIs_fr f2 hxs (hT x (by omega) hxa)
set_option maxRecDepth 100000 in
set_option maxHeartbeats 4000000 in
theorem t_M_findDay (E : mE) (d : Nat) (hd : 1 ≤ d) (w : mw) (S : mw) (hB : MB w S) (hV : VM S) (al : Nat) (hal : al < 2 ^ pN S) : Tv E d m_M_findDay [vr 33, vi (nI al)] w (fun w1 => MD w1 S al ∧ fr [49, 50, 51, 52] w w1) := by
  refine ⟨Nat.le_of_ble_eq_true rfl, ?_⟩
  show Wp E d m_M_findDay 0 [lr 33, li (nI al), lo, lo, lo, lo] [] w _
  refine Wp_iconst (x := 0) d_M_findDay_0 (by decide) ?_
  refine Wp_istore_n (ls2 := [lr 33, li (nI al), li 0, lo, lo, lo]) d_M_findDay_1 rfl rfl rfl ?_
  exact l_M_fd1 E d (by omega) S hV al hal (al + 1) 0 w none none none (by omega) hB (fun x hx _ => absurd hx (Nat.not_lt_zero _))
