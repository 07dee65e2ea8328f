set_option maxRecDepth 100000 in
set_option maxHeartbeats 4000000 in
theorem l_M_wr1 (E : mE) (d : Nat) (hd : 4 ≤ d) (w : mw) (s n r x b : Nat) (f : Int32) (hs : s < 4) (hn : n ≤ 10) (hx : x < 1024) (hb : b < 1024) (h51 : w 51 x = nI b) (h34 : w 34 s = f) (Q : Option mv → mw → Prop) (hQ : Wp E d m_M_write 164 [lr 33, li (nI s), li (nI n), li (nI r), li (nI x), li (nI n)] [] (wrB w s f b r n) Q) : ∀ (j p : Nat), p + j = n → Wp E d m_M_write 100 [lr 33, li (nI s), li (nI n), li (nI r), li (nI x), li (nI p)] [] (wrB w s f b r p) Q := by
  intro j
  induction j with
  | zero =>
    intro p hp
    have hin : n = p := by omega
    rw [hin] at hQ hn
    refine Wp_iload d_M_write_100 rfl ?_
    refine Wp_iload_n d_M_write_102 rfl ?_
    refine Wp_icmp_ge d_M_write_103 (fun h103 => ?_) (fun q => absurd (n_nle q (by omega) (by omega)) (by omega))
    rw [hin]
    exact hQ
  | succ j ih =>
    intro p hp
    have hF := wrB_fr (T := w) (s := s) (f := f) (b := b) (r := r) p
    refine Wp_iload d_M_write_100 rfl ?_
    refine Wp_iload_n d_M_write_102 rfl ?_
    refine Wp_icmp_ge d_M_write_103 (fun q => absurd (n_le q (by omega) (by omega)) (by omega)) (fun h103 => ?_)
    refine Wp_aload_n d_M_write_106 rfl ?_
    refine Wp_getr d_M_write_107 fd_M_16 rfl rfl rfl ?_
    refine Wp_bipush (x := 60) d_M_write_110 (by decide) ?_
    refine Wp_iload_n d_M_write_112 rfl ?_
    refine Wp_imul d_M_write_113 ?_
    refine Wp_eqi (x2 := nI (60 * s)) (pk_mul 60 s) ?_
    refine Wp_iload d_M_write_114 rfl ?_
    refine Wp_iadd d_M_write_116 ?_
    refine Wp_eqi (x2 := nI ((60 * s) + p)) (nI_add (60 * s) p) ?_
    refine Wp_aload_n d_M_write_117 rfl ?_
    refine Wp_getr d_M_write_118 fd_M_62 rfl rfl rfl ?_
    refine Wp_iload d_M_write_121 rfl ?_
    refine Wp_ialdN (j := x) d_M_write_123 rfl rfl rfl rfl (by omega) ?_
    refine Wp_eqi (x2 := nI b) ((congrFun (hF 51 (by decide)) x).trans h51) ?_
    refine Wp_iload d_M_write_124 rfl ?_
    refine Wp_ivs_b (As := [vi (nI b), vi (nI p)]) d_M_write_126 ln_M_177 mk_M_isIn rfl rfl rfl (by omega) (t_M_isIn E (d - 1) (by omega) (wrB w s f b r p) b p (by omega) (by omega)) (fun g126 => ?_) (fun g126 => ?_)
    ·
      refine Wp_if_eq d_M_write_129 (fun q => absurd q (by decide)) (fun _ => ?_)
      refine Wp_aload_n d_M_write_132 rfl ?_
      refine Wp_getr d_M_write_133 fd_M_7 rfl rfl rfl ?_
      refine Wp_iload_n d_M_write_136 rfl ?_
      refine Wp_ialdN (j := s) d_M_write_137 rfl rfl rfl rfl (by omega) ?_
      refine Wp_eqi (x2 := f) ((congrFun (hF 34 (by decide)) s).trans h34) ?_
      refine Wp_iload_n d_M_write_138 rfl ?_
      refine Wp_ivs_d (As := [vi f, vi (nI r)]) d_M_write_139 ln_M_112 mk_M_cut rfl rfl rfl (by omega) (t_M_cut E (d - 1) (by omega) (wrB w s f b r p) f (nI r)) ?_
      refine Wp_goto d_M_write_142 ?_
      refine Wp_iastN (j := ((60 * s) + p)) d_M_write_157 rfl rfl rfl rfl (by omega) ?_
      refine Wp_iinc (z := nI (p + 1)) (ls2 := [lr 33, li (nI s), li (nI n), li (nI r), li (nI x), li (nI (p + 1))]) d_M_write_158 rfl (nI_add p 1) rfl rfl rfl ?_
      refine Wp_goto d_M_write_161 ?_
      have e9 : wrB w s f b r (p + 1) = mU (wrB w s f b r p) 36 (60 * s + p) (cutS f (nI r)) := by rw [wrB, if_pos g126]
      have h9 := ih (p + 1) (by omega)
      rw [e9] at h9
      exact h9
    ·
      refine Wp_if_eq d_M_write_129 (fun _ => ?_) (fun q => absurd (by decide) q)
      refine Wp_aload_n d_M_write_145 rfl ?_
      refine Wp_getr d_M_write_146 fd_M_16 rfl rfl rfl ?_
      refine Wp_bipush (x := 60) d_M_write_149 (by decide) ?_
      refine Wp_iload_n d_M_write_151 rfl ?_
      refine Wp_imul d_M_write_152 ?_
      refine Wp_eqi (x2 := nI (60 * s)) (pk_mul 60 s) ?_
      refine Wp_iload d_M_write_153 rfl ?_
      refine Wp_iadd d_M_write_155 ?_
      refine Wp_eqi (x2 := nI ((60 * s) + p)) (nI_add (60 * s) p) ?_
      refine Wp_ialdN (j := ((60 * s) + p)) d_M_write_156 rfl rfl rfl rfl (by omega) ?_
      refine Wp_iastN (j := ((60 * s) + p)) d_M_write_157 rfl rfl rfl rfl (by omega) ?_
      refine Wp_iinc (z := nI (p + 1)) (ls2 := [lr 33, li (nI s), li (nI n), li (nI r), li (nI x), li (nI (p + 1))]) d_M_write_158 rfl (nI_add p 1) rfl rfl rfl ?_
      refine Wp_goto d_M_write_161 ?_
      have e9 : wrB w s f b r (p + 1) = wrB w s f b r p := by rw [wrB, if_neg g126]
      have h9 := ih (p + 1) (by omega)
      rw [e9] at h9
      rw [mU_same rfl]
      exact h9
set_option maxRecDepth 100000 in
set_option maxHeartbeats 4000000 in
theorem l_M_wr2 (E : mE) (d : Nat) (hd : 4 ≤ d) (w0 S : mw) (hV : VM S) (hD : MD w0 S (wh S)) (s n : Nat) (f : Int32) (hs : s < 4) (hn : n ≤ 10) (h34 : w0 34 s = f) : ∀ (k x r : Nat) (w : mw) (u5 : Option mv), popc x ≤ k → x < 2 ^ pN S → (DC S x).2.2.2 ≠ 0 → closed S (wh S) x → fr [36] w0 w → Wp E d m_M_write 92 [lr 33, li (nI s), li (nI n), li (nI r), li (nI x), u5] [] w (mPi (fun r2 w1 => r2 = nI n ∧ w1 = wrS S s n f k x r w)) := by
  intro k
  have hp10 := (pN_ok S).1
  have hlt := two10 hp10
  have hwl := wh_lt S
  have hwe := wh_1 S
  induction k with
  | zero =>
    intro x r w u5 hk hx h hc hf
    have h0 : x = 0 := by
      apply Classical.byContradiction
      intro q
      exact popc_pos x (by omega) (by omega) (by omega)
    subst h0
    refine Wp_iload d_M_write_92 rfl ?_
    refine Wp_if_eq d_M_write_94 (fun _ => ?_) (fun q => absurd (by decide) q)
    refine Wp_iload_n d_M_write_184 rfl ?_
    refine Wp_reti (ty := .int) d_M_write_185 rfl rfl ?_
    exact ⟨rfl, rfl⟩
  | succ k ih =>
    intro x r w u5 hk hx h hc hf
    refine Wp_iload d_M_write_92 rfl ?_
    refine Wp_if_eq d_M_write_94 (fun h94 => ?_) (fun h94 => ?_)
    ·
      have g94 : x = 0 := n_eq (b := 0) h94 (by omega) (by omega)
      refine Wp_iload_n d_M_write_184 rfl ?_
      refine Wp_reti (ty := .int) d_M_write_185 rfl rfl ?_
      exact ⟨rfl, by rw [wrS, if_pos g94]⟩
    ·
      have g94 : x ≠ 0 := n_ne (b := 0) h94 (by omega) (by omega)
      have h0 : 0 < x := by omega
      have hR := hD x (by omega) hc.1
      rw [DD_DC hV (x + 1) x (wh S) (by omega) (by omega) hc] at hR
      obtain ⟨hw, g1, g4, g2, g5⟩ := DC_fst hV hx h0 h
      have hdp := popc_drop (by omega) g1 g4 g5
      have e51 : w 51 x = nI (DC S x).2.2.1 := (congrFun (hf 51 (by decide)) x).trans hR.2.2.1
      have e34 : w 34 s = f := (congrFun (hf 34 (by decide)) s).trans h34
      refine Wp_iconst (x := 0) d_M_write_97 (by decide) ?_
      refine Wp_istore (ls2 := [lr 33, li (nI s), li (nI n), li (nI r), li (nI x), li 0]) d_M_write_98 rfl rfl rfl ?_
      refine l_M_wr1 E d (by omega) w s n r x (DC S x).2.2.1 f hs hn (by omega) (by omega) e51 e34 _ ?_ n 0 (Nat.zero_add _)
      refine Wp_iinc (z := nI (r + 1)) (ls2 := [lr 33, li (nI s), li (nI n), li (nI (r + 1)), li (nI x), li (nI n)]) d_M_write_164 rfl (nI_add r 1) rfl rfl rfl ?_
      refine Wp_iload d_M_write_167 rfl ?_
      refine Wp_aload_n d_M_write_169 rfl ?_
      refine Wp_getr d_M_write_170 fd_M_62 rfl rfl rfl ?_
      refine Wp_iload d_M_write_173 rfl ?_
      refine Wp_ialdN (j := x) d_M_write_175 rfl rfl rfl rfl (by omega) ?_
      refine Wp_eqi (x2 := nI (DC S x).2.2.1) ((congrFun (wrB_fr n 51 (by decide)) x).trans e51) ?_
      refine Wp_iconst (x := (-1)) d_M_write_176 (by decide) ?_
      refine Wp_ixor d_M_write_177 ?_
      refine Wp_iand d_M_write_178 ?_
      refine Wp_eqi (x2 := nI (ann x (DC S x).2.2.1)) (anI x (DC S x).2.2.1) ?_
      refine Wp_istore (ls2 := [lr 33, li (nI s), li (nI n), li (nI (r + 1)), li (nI (ann x (DC S x).2.2.1)), li (nI n)]) d_M_write_179 rfl rfl rfl ?_
      refine Wp_goto d_M_write_181 ?_
      have e9 : wrS S s n f (k + 1) x r w = wrS S s n f k (ann x (DC S x).2.2.1) (r + 1) (wrB w s f (DC S x).2.2.1 r n) := by rw [wrS, if_neg g94]
      rw [e9]
      exact ih _ _ _ _ (by omega) (by omega) hw.2.2.1 (closed_ann hV hc (by omega) (by omega) hw.2.1) (fr_tr hf (wrB_fr n))
set_option maxRecDepth 100000 in
set_option maxHeartbeats 4000000 in
theorem t_M_write (E : mE) (d : Nat) (hd : 4 ≤ d) (w : mw) (S : mw) (hM : MM w S) (hV : VM S) (s : Int32) : Ti E d m_M_write [vr 33, vi s] w (fun r w1 => r = (oWrite S s).1 ∧ MM w1 (oWrite S s).2 ∧ fr mRows w w1) := by
  refine ⟨Nat.le_of_ble_eq_true rfl, ?_⟩
  show Wp E d m_M_write 0 [lr 33, li s, lo, lo, lo, lo] [] w _
  have hp10 := (pN_ok S).1
  have hlt := two10 hp10
  have hwl := wh_lt S
  have hwe := wh_1 S
  refine Wp_iload_n d_M_write_0 rfl ?_
  refine Wp_ivs_b (As := [vi s]) d_M_write_1 ln_M_98 mk_M_isSheet rfl rfl rfl (by omega) (t_M_isSheet E (d - 1) (by omega) w s) (fun g1 => ?_) (fun g1 => ?_)
  ·
    obtain ⟨s1, h_s1, rfl⟩ := sh_of g1
    refine Wp_if_ne d_M_write_4 (fun _ => ?_) (fun q => absurd q (by decide))
    refine Wp_aload_n d_M_write_10 rfl ?_
    refine Wp_getr d_M_write_11 fd_M_7 rfl rfl rfl ?_
    refine Wp_iload_n d_M_write_14 rfl ?_
    refine Wp_ialdN (j := s1) d_M_write_15 rfl rfl rfl rfl (by omega) ?_
    refine Wp_eqi (x2 := S 34 s1) (congrFun (hM.r 34) _) ?_
    refine Wp_if_ge d_M_write_16 (fun h16 => ?_) (fun h16 => ?_)
    ·
      have g16 : 0 ≤ (S 34 s1).toInt := i_le h16
      refine Wp_aload_n d_M_write_25 rfl ?_
      refine Wp_ivv_i (o := 33) (As := []) d_M_write_26 ln_M_143 mk_M_reads rfl rfl rfl rfl rfl (by omega) (t_M_reads E (d - 1) (by omega) w S hM hV) (fun r26 w26 c26 => ?_)
      obtain ⟨hF, hP, fP⟩ := c26
      refine Wp_pop d_M_write_29 rfl ?_
      refine Wp_aload_n d_M_write_30 rfl ?_
      refine Wp_ivv_v (o := 33) (As := []) d_M_write_31 ln_M_201 mk_M_findBoats rfl rfl rfl rfl rfl (by omega) (t_M_findBoats E (d - 1) (by omega) w26 S hP hV) (fun w31 c31 => ?_)
      obtain ⟨hB, fB⟩ := c31
      refine Wp_aload_n d_M_write_34 rfl ?_
      refine Wp_aload_n d_M_write_35 rfl ?_
      refine Wp_ivv_d (o := 33) (As := []) d_M_write_36 ln_M_184 mk_M_whole rfl rfl rfl rfl rfl (by omega) (t_M_whole E (d - 1) (by omega) w31 S hB.1 hV) ?_
      refine Wp_ivv_v (o := 33) (As := [vi (nI (wh S))]) d_M_write_39 ln_M_197 mk_M_findDay rfl rfl rfl rfl rfl (by omega) (t_M_findDay E (d - 1) (by omega) w31 S hB hV (wh S) (by omega)) (fun w2 c39 => ?_)
      obtain ⟨hD, fD⟩ := c39
      have hP2 : MP w2 S := MP_s hB.1 (fr_sub fD (by decide))
      have hR := hD (wh S) (Nat.le_refl _) (Nat.and_self _)
      rw [DD_self hV (by omega)] at hR
      have hdb := (dvB_1 (DC_okk hV hwl)).2.2.2
      refine Wp_aload_n d_M_write_42 rfl ?_
      refine Wp_getr d_M_write_43 fd_M_65 rfl rfl rfl ?_
      refine Wp_aload_n d_M_write_46 rfl ?_
      refine Wp_ivv_d (o := 33) (As := []) d_M_write_47 ln_M_184 mk_M_whole rfl rfl rfl rfl rfl (by omega) (t_M_whole E (d - 1) (by omega) w2 S hP2 hV) ?_
      refine Wp_ialdN (j := (wh S)) d_M_write_50 rfl rfl rfl rfl (by omega) ?_
      refine Wp_eqi (x2 := m1v (DC S (wh S)).2.2.2) hR.2.2.2 ?_
      refine Wp_if_ge d_M_write_51 (fun h51 => ?_) (fun h51 => ?_)
      ·
        have hm : (DC S (wh S)).2.2.2 ≠ 0 := fun q => by have := (m1v_lt _ (by omega)).mpr q; have := i_le h51; have h0 : Int32.toInt 0 = 0 := rfl; omega
        have hz2 := (VM_sz hV s1 (by omega)).2
        refine Wp_aload_n d_M_write_57 rfl ?_
        refine Wp_getr d_M_write_58 fd_M_13 rfl rfl rfl ?_
        refine Wp_iload_n d_M_write_61 rfl ?_
        refine Wp_ialdN (j := s1) d_M_write_62 rfl rfl rfl rfl (by omega) ?_
        refine Wp_eqi (x2 := S 35 s1) (congrFun (hP2.1.r 35) _) ?_
        refine Wp_eqi (x2 := nI (sSz S s1)) (VM_sz hV _ (by omega)).1 ?_
        refine Wp_aload_n d_M_write_63 rfl ?_
        refine Wp_getf d_M_write_64 fd_M_125 rfl rfl rfl ?_
        refine Wp_eqi (x2 := nI (pN S)) hP2.2.1 ?_
        refine Wp_icmp_ge d_M_write_67 (fun h67 => ?_) (fun h67 => ?_)
        ·
          have g67 : (pN S) ≤ (sSz S s1) := n_le h67 (by omega) (by omega)
          refine Wp_aload_n d_M_write_79 rfl ?_
          refine Wp_getf d_M_write_80 fd_M_125 rfl rfl rfl ?_
          refine Wp_eqi (x2 := nI (pN S)) hP2.2.1 ?_
          refine Wp_istore_n (ls2 := [lr 33, li (nI s1), li (nI (pN S)), lo, lo, lo]) d_M_write_83 rfl rfl rfl ?_
          refine Wp_iconst (x := 0) d_M_write_84 (by decide) ?_
          refine Wp_istore_n (ls2 := [lr 33, li (nI s1), li (nI (pN S)), li 0, lo, lo]) d_M_write_85 rfl rfl rfl ?_
          refine Wp_aload_n d_M_write_86 rfl ?_
          refine Wp_ivv_d (o := 33) (As := []) d_M_write_87 ln_M_184 mk_M_whole rfl rfl rfl rfl rfl (by omega) (t_M_whole E (d - 1) (by omega) w2 S hP2 hV) ?_
          refine Wp_istore (ls2 := [lr 33, li (nI s1), li (nI (pN S)), li 0, li (nI (wh S)), lo]) d_M_write_90 rfl rfl rfl ?_
          have e8 : wrN S s1 = (pN S) := by unfold wrN; exact if_neg (by omega)
          have e9 : oWrite S (nI s1) = (nI (pN S), wrS S s1 (pN S) (S 34 s1) 10 (wh S) 0 S) := by unfold oWrite; rw [if_neg (fun q => q g1), cl (by omega), if_neg (by omega), if_neg hm, e8]
          refine Wp_mi (l_M_wr2 E d (by omega) w2 S hV hD s1 (pN S) (S 34 s1) (by omega) (by omega) (congrFun (MM.r hP2.1 34) s1) 10 (wh S) 0 w2 none (popc_le _) hwl hm closed_self fr_rf) (fun r w3 h => ?_)
          rw [e9, h.2]; exact ⟨h.1, wrS_MM _ _ _ _ _ hP2.1, fr_tr (fr_tr (frF_m fP) (fr_tr (fr_sub fB (by decide)) (fr_sub fD (by decide)))) (fr_sub (wrS_fr _ _ _ _) (by decide))⟩
        ·
          have g67 : (sSz S s1) < (pN S) := n_nle h67 (by omega) (by omega)
          refine Wp_aload_n d_M_write_70 rfl ?_
          refine Wp_getr d_M_write_71 fd_M_13 rfl rfl rfl ?_
          refine Wp_iload_n d_M_write_74 rfl ?_
          refine Wp_ialdN (j := s1) d_M_write_75 rfl rfl rfl rfl (by omega) ?_
          refine Wp_eqi (x2 := S 35 s1) (congrFun (hP2.1.r 35) _) ?_
          refine Wp_eqi (x2 := nI (sSz S s1)) (VM_sz hV _ (by omega)).1 ?_
          refine Wp_goto d_M_write_76 ?_
          refine Wp_istore_n (ls2 := [lr 33, li (nI s1), li (nI (sSz S s1)), lo, lo, lo]) d_M_write_83 rfl rfl rfl ?_
          refine Wp_iconst (x := 0) d_M_write_84 (by decide) ?_
          refine Wp_istore_n (ls2 := [lr 33, li (nI s1), li (nI (sSz S s1)), li 0, lo, lo]) d_M_write_85 rfl rfl rfl ?_
          refine Wp_aload_n d_M_write_86 rfl ?_
          refine Wp_ivv_d (o := 33) (As := []) d_M_write_87 ln_M_184 mk_M_whole rfl rfl rfl rfl rfl (by omega) (t_M_whole E (d - 1) (by omega) w2 S hP2 hV) ?_
          refine Wp_istore (ls2 := [lr 33, li (nI s1), li (nI (sSz S s1)), li 0, li (nI (wh S)), lo]) d_M_write_90 rfl rfl rfl ?_
          have e8 : wrN S s1 = (sSz S s1) := by unfold wrN; exact if_pos (by omega)
          have e9 : oWrite S (nI s1) = (nI (sSz S s1), wrS S s1 (sSz S s1) (S 34 s1) 10 (wh S) 0 S) := by unfold oWrite; rw [if_neg (fun q => q g1), cl (by omega), if_neg (by omega), if_neg hm, e8]
          refine Wp_mi (l_M_wr2 E d (by omega) w2 S hV hD s1 (sSz S s1) (S 34 s1) (by omega) (by omega) (congrFun (MM.r hP2.1 34) s1) 10 (wh S) 0 w2 none (popc_le _) hwl hm closed_self fr_rf) (fun r w3 h => ?_)
          rw [e9, h.2]; exact ⟨h.1, wrS_MM _ _ _ _ _ hP2.1, fr_tr (fr_tr (frF_m fP) (fr_tr (fr_sub fB (by decide)) (fr_sub fD (by decide)))) (fr_sub (wrS_fr _ _ _ _) (by decide))⟩
      ·
        have hm : (DC S (wh S)).2.2.2 = 0 := (m1v_lt _ (by omega)).mp (by have := i_nle h51; have h0 : Int32.toInt 0 = 0 := rfl; omega)
        refine Wp_bipush (x := (-3)) d_M_write_54 (by decide) ?_
        refine Wp_reti (ty := .int) d_M_write_56 rfl rfl ?_
        have e9 : oWrite S (nI s1) = (-3, S) := by unfold oWrite; rw [if_neg (fun q => q g1), cl (by omega), if_neg (by omega), if_pos hm]
        rw [e9]; exact ⟨rfl, hP2.1, fr_tr (frF_m fP) (fr_tr (fr_sub fB (by decide)) (fr_sub fD (by decide)))⟩
    ·
      have g16 : (S 34 s1).toInt < 0 := i_nle h16
      refine Wp_aload_n d_M_write_19 rfl ?_
      refine Wp_iconst (x := 1) d_M_write_20 (by decide) ?_
      refine Wp_ivv_d (o := 33) (As := [vi 1]) d_M_write_21 ln_M_104 mk_M_met rfl rfl rfl rfl rfl (by omega) (t_M_met E (d - 1) (by omega) w 1 (-11) (by decide)) ?_
      refine Wp_reti (ty := .int) d_M_write_24 rfl rfl ?_
      have e9 : oWrite S (nI s1) = (-11, mU S 33 4 1) := by unfold oWrite; rw [if_neg (fun q => q g1), cl (by omega), if_pos (by omega)]
      rw [e9]; exact ⟨rfl, MM_f hM, fr_U (by decide)⟩
  ·
    refine Wp_if_ne d_M_write_4 (fun q => absurd q (by decide)) (fun _ => ?_)
    refine Wp_bipush (x := (-2)) d_M_write_7 (by decide) ?_
    refine Wp_reti (ty := .int) d_M_write_9 rfl rfl ?_
    have e9 : oWrite S s = (-2, S) := by unfold oWrite; rw [if_pos g1]
    rw [e9]; exact ⟨rfl, hM, fr_rf⟩
