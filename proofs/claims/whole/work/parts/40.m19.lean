set_option maxRecDepth 100000 in
set_option maxHeartbeats 4000000 in
theorem l_M_dg (E : mE) (d : Nat) (hd : 6 ≤ d) (w0 S : mw) (hV : VM S) (Q : Option mv → mw → Prop) (hQ : ∀ w u, MP w S → fr mRows w0 w → Wp E d m_M_digest 201 [lr 33, ll (dgL S (pN S)), lo, li (nI (pN S)), u] [] w Q) : ∀ (k p : Nat) (w : mw) (u : Option mv), p + k = pN S → MP w S → fr mRows w0 w → Wp E d m_M_digest 45 [lr 33, ll (dgL S p), lo, li (nI p), u] [] w Q := by
  intro k
  have hp10 := (pN_ok S).1
  have hlt := two10 hp10
  have hwl := wh_lt S
  have hwe := wh_1 S
  induction k with
  | zero =>
    intro p w u hk hP fA
    have hin : pN S = p := by omega
    refine Wp_iload_n d_M_digest_45 rfl ?_
    refine Wp_aload_n d_M_digest_46 rfl ?_
    refine Wp_getf d_M_digest_47 fd_M_125 rfl rfl rfl ?_
    refine Wp_eqi (x2 := nI (pN S)) hP.2.1 ?_
    refine Wp_icmp_ge d_M_digest_50 (fun h50 => ?_) (fun q => absurd (n_nle q (by omega) (by omega)) (by omega))
    rw [hin] at hQ
    exact hQ w u hP fA
  | succ k ih =>
    intro p w u hk hP fA
    refine Wp_iload_n d_M_digest_45 rfl ?_
    refine Wp_aload_n d_M_digest_46 rfl ?_
    refine Wp_getf d_M_digest_47 fd_M_125 rfl rfl rfl ?_
    refine Wp_eqi (x2 := nI (pN S)) hP.2.1 ?_
    refine Wp_icmp_ge d_M_digest_50 (fun q => absurd (n_le q (by omega) (by omega)) (by omega)) (fun h50 => ?_)
    refine Wp_ldc2 (x := 31) d_M_digest_53 kl_M_282 ?_
    refine Wp_lload_n d_M_digest_56 rfl ?_
    refine Wp_lmul d_M_digest_57 ?_
    refine Wp_aload_n d_M_digest_58 rfl ?_
    refine Wp_getr d_M_digest_59 fd_M_25 rfl rfl rfl ?_
    refine Wp_iload_n d_M_digest_62 rfl ?_
    refine Wp_ialdN (j := p) d_M_digest_63 rfl rfl rfl rfl (by omega) ?_
    refine Wp_eqi (x2 := nI (pA S p)) (hP.2.2 _ (by omega)) ?_
    refine Wp_i2l d_M_digest_64 ?_
    refine Wp_ladd d_M_digest_65 ?_
    refine Wp_lstore_n (ls2 := [lr 33, ll ((31 * (dgL S p)) + ((nI (pA S p)).toInt64)), lo, li (nI p), u]) d_M_digest_66 rfl rfl rfl ?_
    refine Wp_ldc2 (x := 31) d_M_digest_67 kl_M_282 ?_
    refine Wp_lload_n d_M_digest_70 rfl ?_
    refine Wp_lmul d_M_digest_71 ?_
    refine Wp_aload_n d_M_digest_72 rfl ?_
    refine Wp_iload_n d_M_digest_73 rfl ?_
    refine Wp_ivv_d (o := 33) (As := [vi (nI p)]) d_M_digest_74 ln_M_154 mk_M_toldOf rfl rfl rfl rfl rfl (by omega) (t_M_toldOf E (d - 1) (by omega) w S hP hV p (by omega)) ?_
    refine Wp_i2l d_M_digest_77 ?_
    refine Wp_ladd d_M_digest_78 ?_
    refine Wp_lstore_n (ls2 := [lr 33, ll ((31 * ((31 * (dgL S p)) + ((nI (pA S p)).toInt64))) + ((nI (tld S p)).toInt64)), lo, li (nI p), u]) d_M_digest_79 rfl rfl rfl ?_
    refine Wp_ldc2 (x := 31) d_M_digest_80 kl_M_282 ?_
    refine Wp_lload_n d_M_digest_83 rfl ?_
    refine Wp_lmul d_M_digest_84 ?_
    refine Wp_aload_n d_M_digest_85 rfl ?_
    refine Wp_iload_n d_M_digest_86 rfl ?_
    refine Wp_ivv_i (o := 33) (As := [vi (nI p)]) d_M_digest_87 ln_M_210 mk_M_withOf rfl rfl rfl rfl rfl (by omega) (t_M_withOf E (d - 1) (by omega) w S hP hV p (by omega)) (fun r87 w87 c87 => ?_)
    obtain ⟨rW, fW⟩ := c87
    rw [rW]
    have hQ87 : MP w87 S := MP_s hP fW
    have fQ87 : fr mRows w0 w87 := fr_tr fA (fr_sub fW (by decide))
    clear hP fA
    have hP := hQ87
    have fA := fQ87
    clear hQ87 fQ87
    refine Wp_i2l d_M_digest_90 ?_
    refine Wp_ladd d_M_digest_91 ?_
    refine Wp_lstore_n (ls2 := [lr 33, ll ((31 * ((31 * ((31 * (dgL S p)) + ((nI (pA S p)).toInt64))) + ((nI (tld S p)).toInt64))) + ((withR S p).toInt64)), lo, li (nI p), u]) d_M_digest_92 rfl rfl rfl ?_
    refine Wp_iconst (x := 0) d_M_digest_93 (by decide) ?_
    refine Wp_istore (ls2 := [lr 33, ll ((31 * ((31 * ((31 * (dgL S p)) + ((nI (pA S p)).toInt64))) + ((nI (tld S p)).toInt64))) + ((withR S p).toInt64)), lo, li (nI p), li 0]) d_M_digest_94 rfl rfl rfl ?_
    refine Wp_iload d_M_digest_96 rfl ?_
    refine Wp_iconst (x := 2) d_M_digest_98 (by decide) ?_
    refine Wp_icmp_ge d_M_digest_99 (fun q => absurd q (by decide)) (fun _ => ?_)
    refine Wp_ldc2 (x := 31) d_M_digest_102 kl_M_282 ?_
    refine Wp_lload_n d_M_digest_105 rfl ?_
    refine Wp_lmul d_M_digest_106 ?_
    refine Wp_aload_n d_M_digest_107 rfl ?_
    refine Wp_iload_n d_M_digest_108 rfl ?_
    refine Wp_iload d_M_digest_109 rfl ?_
    refine Wp_ivv_l (o := 33) (As := [vi (nI p), vi 0]) d_M_digest_111 ln_M_233 mk_M_paysOf rfl rfl rfl rfl rfl (by omega) (t_M_paysOf E (d - 1) (by omega) w87 S hP hV p (by omega) 0) (fun r111 w111 c111 => ?_)
    obtain ⟨rW, fW⟩ := c111
    rw [rW]
    have hQ111 : MP w111 S := MP_s hP fW
    have fQ111 : fr mRows w0 w111 := fr_tr fA (fr_sub fW (by decide))
    clear hP fA
    have hP := hQ111
    have fA := fQ111
    clear hQ111 fQ111
    refine Wp_ladd d_M_digest_114 ?_
    refine Wp_lstore_n (ls2 := [lr 33, ll ((31 * ((31 * ((31 * ((31 * (dgL S p)) + ((nI (pA S p)).toInt64))) + ((nI (tld S p)).toInt64))) + ((withR S p).toInt64))) + (paysR S p 0)), lo, li (nI p), li 0]) d_M_digest_115 rfl rfl rfl ?_
    refine Wp_iinc (z := 1) (ls2 := [lr 33, ll ((31 * ((31 * ((31 * ((31 * (dgL S p)) + ((nI (pA S p)).toInt64))) + ((nI (tld S p)).toInt64))) + ((withR S p).toInt64))) + (paysR S p 0)), lo, li (nI p), li 1]) d_M_digest_116 rfl (by decide) rfl rfl rfl ?_
    refine Wp_goto d_M_digest_119 ?_
    refine Wp_iload d_M_digest_96 rfl ?_
    refine Wp_iconst (x := 2) d_M_digest_98 (by decide) ?_
    refine Wp_icmp_ge d_M_digest_99 (fun q => absurd q (by decide)) (fun _ => ?_)
    refine Wp_ldc2 (x := 31) d_M_digest_102 kl_M_282 ?_
    refine Wp_lload_n d_M_digest_105 rfl ?_
    refine Wp_lmul d_M_digest_106 ?_
    refine Wp_aload_n d_M_digest_107 rfl ?_
    refine Wp_iload_n d_M_digest_108 rfl ?_
    refine Wp_iload d_M_digest_109 rfl ?_
    refine Wp_ivv_l (o := 33) (As := [vi (nI p), vi 1]) d_M_digest_111 ln_M_233 mk_M_paysOf rfl rfl rfl rfl rfl (by omega) (t_M_paysOf E (d - 1) (by omega) w111 S hP hV p (by omega) 1) (fun r111 w111 c111 => ?_)
    obtain ⟨rW, fW⟩ := c111
    rw [rW]
    have hQ111 : MP w111 S := MP_s hP fW
    have fQ111 : fr mRows w0 w111 := fr_tr fA (fr_sub fW (by decide))
    clear hP fA
    have hP := hQ111
    have fA := fQ111
    clear hQ111 fQ111
    refine Wp_ladd d_M_digest_114 ?_
    refine Wp_lstore_n (ls2 := [lr 33, ll ((31 * ((31 * ((31 * ((31 * ((31 * (dgL S p)) + ((nI (pA S p)).toInt64))) + ((nI (tld S p)).toInt64))) + ((withR S p).toInt64))) + (paysR S p 0))) + (paysR S p 1)), lo, li (nI p), li 1]) d_M_digest_115 rfl rfl rfl ?_
    refine Wp_iinc (z := 2) (ls2 := [lr 33, ll ((31 * ((31 * ((31 * ((31 * ((31 * (dgL S p)) + ((nI (pA S p)).toInt64))) + ((nI (tld S p)).toInt64))) + ((withR S p).toInt64))) + (paysR S p 0))) + (paysR S p 1)), lo, li (nI p), li 2]) d_M_digest_116 rfl (by decide) rfl rfl rfl ?_
    refine Wp_goto d_M_digest_119 ?_
    refine Wp_iload d_M_digest_96 rfl ?_
    refine Wp_iconst (x := 2) d_M_digest_98 (by decide) ?_
    refine Wp_icmp_ge d_M_digest_99 (fun _ => ?_) (fun q => absurd (by decide) q)
    refine Wp_iconst (x := 0) d_M_digest_122 (by decide) ?_
    refine Wp_istore (ls2 := [lr 33, ll ((31 * ((31 * ((31 * ((31 * ((31 * (dgL S p)) + ((nI (pA S p)).toInt64))) + ((nI (tld S p)).toInt64))) + ((withR S p).toInt64))) + (paysR S p 0))) + (paysR S p 1)), lo, li (nI p), li 0]) d_M_digest_123 rfl rfl rfl ?_
    refine Wp_iload d_M_digest_125 rfl ?_
    refine Wp_iconst (x := 2) d_M_digest_127 (by decide) ?_
    refine Wp_icmp_ge d_M_digest_128 (fun q => absurd q (by decide)) (fun _ => ?_)
    refine Wp_ldc2 (x := 31) d_M_digest_131 kl_M_282 ?_
    refine Wp_lload_n d_M_digest_134 rfl ?_
    refine Wp_lmul d_M_digest_135 ?_
    refine Wp_aload_n d_M_digest_136 rfl ?_
    refine Wp_iload_n d_M_digest_137 rfl ?_
    refine Wp_iload d_M_digest_138 rfl ?_
    refine Wp_ivv_l (o := 33) (As := [vi (nI p), vi 0]) d_M_digest_140 ln_M_243 mk_M_shareOf rfl rfl rfl rfl rfl (by omega) (t_M_shareOf E (d - 1) (by omega) w111 S hP hV p (by omega) 0) (fun r140 w140 c140 => ?_)
    obtain ⟨rW, fW⟩ := c140
    rw [rW]
    have hQ140 : MP w140 S := MP_fr hP fW (by decide)
    have fQ140 : fr mRows w0 w140 := fr_tr fA (fr_sub fW (by decide))
    clear hP fA
    have hP := hQ140
    have fA := fQ140
    clear hQ140 fQ140
    refine Wp_ladd d_M_digest_143 ?_
    refine Wp_lstore_n (ls2 := [lr 33, ll ((31 * ((31 * ((31 * ((31 * ((31 * ((31 * (dgL S p)) + ((nI (pA S p)).toInt64))) + ((nI (tld S p)).toInt64))) + ((withR S p).toInt64))) + (paysR S p 0))) + (paysR S p 1))) + (shareR S p 0)), lo, li (nI p), li 0]) d_M_digest_144 rfl rfl rfl ?_
    refine Wp_iinc (z := 1) (ls2 := [lr 33, ll ((31 * ((31 * ((31 * ((31 * ((31 * ((31 * (dgL S p)) + ((nI (pA S p)).toInt64))) + ((nI (tld S p)).toInt64))) + ((withR S p).toInt64))) + (paysR S p 0))) + (paysR S p 1))) + (shareR S p 0)), lo, li (nI p), li 1]) d_M_digest_145 rfl (by decide) rfl rfl rfl ?_
    refine Wp_goto d_M_digest_148 ?_
    refine Wp_iload d_M_digest_125 rfl ?_
    refine Wp_iconst (x := 2) d_M_digest_127 (by decide) ?_
    refine Wp_icmp_ge d_M_digest_128 (fun q => absurd q (by decide)) (fun _ => ?_)
    refine Wp_ldc2 (x := 31) d_M_digest_131 kl_M_282 ?_
    refine Wp_lload_n d_M_digest_134 rfl ?_
    refine Wp_lmul d_M_digest_135 ?_
    refine Wp_aload_n d_M_digest_136 rfl ?_
    refine Wp_iload_n d_M_digest_137 rfl ?_
    refine Wp_iload d_M_digest_138 rfl ?_
    refine Wp_ivv_l (o := 33) (As := [vi (nI p), vi 1]) d_M_digest_140 ln_M_243 mk_M_shareOf rfl rfl rfl rfl rfl (by omega) (t_M_shareOf E (d - 1) (by omega) w140 S hP hV p (by omega) 1) (fun r140 w140 c140 => ?_)
    obtain ⟨rW, fW⟩ := c140
    rw [rW]
    have hQ140 : MP w140 S := MP_fr hP fW (by decide)
    have fQ140 : fr mRows w0 w140 := fr_tr fA (fr_sub fW (by decide))
    clear hP fA
    have hP := hQ140
    have fA := fQ140
    clear hQ140 fQ140
    refine Wp_ladd d_M_digest_143 ?_
    refine Wp_lstore_n (ls2 := [lr 33, ll ((31 * ((31 * ((31 * ((31 * ((31 * ((31 * ((31 * (dgL S p)) + ((nI (pA S p)).toInt64))) + ((nI (tld S p)).toInt64))) + ((withR S p).toInt64))) + (paysR S p 0))) + (paysR S p 1))) + (shareR S p 0))) + (shareR S p 1)), lo, li (nI p), li 1]) d_M_digest_144 rfl rfl rfl ?_
    refine Wp_iinc (z := 2) (ls2 := [lr 33, ll ((31 * ((31 * ((31 * ((31 * ((31 * ((31 * ((31 * (dgL S p)) + ((nI (pA S p)).toInt64))) + ((nI (tld S p)).toInt64))) + ((withR S p).toInt64))) + (paysR S p 0))) + (paysR S p 1))) + (shareR S p 0))) + (shareR S p 1)), lo, li (nI p), li 2]) d_M_digest_145 rfl (by decide) rfl rfl rfl ?_
    refine Wp_goto d_M_digest_148 ?_
    refine Wp_iload d_M_digest_125 rfl ?_
    refine Wp_iconst (x := 2) d_M_digest_127 (by decide) ?_
    refine Wp_icmp_ge d_M_digest_128 (fun _ => ?_) (fun q => absurd (by decide) q)
    refine Wp_ldc2 (x := 31) d_M_digest_151 kl_M_282 ?_
    refine Wp_lload_n d_M_digest_154 rfl ?_
    refine Wp_lmul d_M_digest_155 ?_
    refine Wp_aload_n d_M_digest_156 rfl ?_
    refine Wp_iload_n d_M_digest_157 rfl ?_
    refine Wp_iconst (x := 3) d_M_digest_158 (by decide) ?_
    refine Wp_ivv_i (o := 33) (As := [vi (nI p), vi 3]) d_M_digest_159 ln_M_246 mk_M_liesOf rfl rfl rfl rfl rfl (by omega) (t_M_liesOf E (d - 1) (by omega) w140 S hP hV p 3 (by omega) (by omega)) (fun r159 w159 c159 => ?_)
    obtain ⟨rL, hP2, fL⟩ := c159
    rw [rL]
    have hQ159 : MP w159 S := hP2
    have fQ159 : fr mRows w0 w159 := fr_tr fA (fr_sub fL (by decide))
    clear hP fA
    have hP := hQ159
    have fA := fQ159
    clear hQ159 fQ159
    refine Wp_i2l d_M_digest_162 ?_
    refine Wp_ladd d_M_digest_163 ?_
    refine Wp_lstore_n (ls2 := [lr 33, ll ((31 * ((31 * ((31 * ((31 * ((31 * ((31 * ((31 * ((31 * (dgL S p)) + ((nI (pA S p)).toInt64))) + ((nI (tld S p)).toInt64))) + ((withR S p).toInt64))) + (paysR S p 0))) + (paysR S p 1))) + (shareR S p 0))) + (shareR S p 1))) + ((liesR S p 3).toInt64)), lo, li (nI p), li 2]) d_M_digest_164 rfl rfl rfl ?_
    refine Wp_iconst (x := 0) d_M_digest_165 (by decide) ?_
    refine Wp_istore (ls2 := [lr 33, ll ((31 * ((31 * ((31 * ((31 * ((31 * ((31 * ((31 * ((31 * (dgL S p)) + ((nI (pA S p)).toInt64))) + ((nI (tld S p)).toInt64))) + ((withR S p).toInt64))) + (paysR S p 0))) + (paysR S p 1))) + (shareR S p 0))) + (shareR S p 1))) + ((liesR S p 3).toInt64)), lo, li (nI p), li 0]) d_M_digest_166 rfl rfl rfl ?_
    refine Wp_iload d_M_digest_168 rfl ?_
    refine Wp_iconst (x := 3) d_M_digest_170 (by decide) ?_
    refine Wp_icmp_ge d_M_digest_171 (fun q => absurd q (by decide)) (fun _ => ?_)
    refine Wp_ldc2 (x := 31) d_M_digest_174 kl_M_282 ?_
    refine Wp_lload_n d_M_digest_177 rfl ?_
    refine Wp_lmul d_M_digest_178 ?_
    refine Wp_aload_n d_M_digest_179 rfl ?_
    refine Wp_iload_n d_M_digest_180 rfl ?_
    refine Wp_iload d_M_digest_181 rfl ?_
    refine Wp_ivv_d (o := 33) (As := [vi (nI p), vi 0]) d_M_digest_183 ln_M_269 mk_M_agesOf rfl rfl rfl rfl rfl (by omega) (t_M_agesOf E (d - 1) (by omega) w159 S hP hV p (by omega) 0) ?_
    refine Wp_i2l d_M_digest_186 ?_
    refine Wp_ladd d_M_digest_187 ?_
    refine Wp_lstore_n (ls2 := [lr 33, ll ((31 * ((31 * ((31 * ((31 * ((31 * ((31 * ((31 * ((31 * ((31 * (dgL S p)) + ((nI (pA S p)).toInt64))) + ((nI (tld S p)).toInt64))) + ((withR S p).toInt64))) + (paysR S p 0))) + (paysR S p 1))) + (shareR S p 0))) + (shareR S p 1))) + ((liesR S p 3).toInt64))) + ((agesR S p 0).toInt64)), lo, li (nI p), li 0]) d_M_digest_188 rfl rfl rfl ?_
    refine Wp_iinc (z := 1) (ls2 := [lr 33, ll ((31 * ((31 * ((31 * ((31 * ((31 * ((31 * ((31 * ((31 * ((31 * (dgL S p)) + ((nI (pA S p)).toInt64))) + ((nI (tld S p)).toInt64))) + ((withR S p).toInt64))) + (paysR S p 0))) + (paysR S p 1))) + (shareR S p 0))) + (shareR S p 1))) + ((liesR S p 3).toInt64))) + ((agesR S p 0).toInt64)), lo, li (nI p), li 1]) d_M_digest_189 rfl (by decide) rfl rfl rfl ?_
    refine Wp_goto d_M_digest_192 ?_
    refine Wp_iload d_M_digest_168 rfl ?_
    refine Wp_iconst (x := 3) d_M_digest_170 (by decide) ?_
    refine Wp_icmp_ge d_M_digest_171 (fun q => absurd q (by decide)) (fun _ => ?_)
    refine Wp_ldc2 (x := 31) d_M_digest_174 kl_M_282 ?_
    refine Wp_lload_n d_M_digest_177 rfl ?_
    refine Wp_lmul d_M_digest_178 ?_
    refine Wp_aload_n d_M_digest_179 rfl ?_
    refine Wp_iload_n d_M_digest_180 rfl ?_
    refine Wp_iload d_M_digest_181 rfl ?_
    refine Wp_ivv_d (o := 33) (As := [vi (nI p), vi 1]) d_M_digest_183 ln_M_269 mk_M_agesOf rfl rfl rfl rfl rfl (by omega) (t_M_agesOf E (d - 1) (by omega) w159 S hP hV p (by omega) 1) ?_
    refine Wp_i2l d_M_digest_186 ?_
    refine Wp_ladd d_M_digest_187 ?_
    refine Wp_lstore_n (ls2 := [lr 33, ll ((31 * ((31 * ((31 * ((31 * ((31 * ((31 * ((31 * ((31 * ((31 * ((31 * (dgL S p)) + ((nI (pA S p)).toInt64))) + ((nI (tld S p)).toInt64))) + ((withR S p).toInt64))) + (paysR S p 0))) + (paysR S p 1))) + (shareR S p 0))) + (shareR S p 1))) + ((liesR S p 3).toInt64))) + ((agesR S p 0).toInt64))) + ((agesR S p 1).toInt64)), lo, li (nI p), li 1]) d_M_digest_188 rfl rfl rfl ?_
    refine Wp_iinc (z := 2) (ls2 := [lr 33, ll ((31 * ((31 * ((31 * ((31 * ((31 * ((31 * ((31 * ((31 * ((31 * ((31 * (dgL S p)) + ((nI (pA S p)).toInt64))) + ((nI (tld S p)).toInt64))) + ((withR S p).toInt64))) + (paysR S p 0))) + (paysR S p 1))) + (shareR S p 0))) + (shareR S p 1))) + ((liesR S p 3).toInt64))) + ((agesR S p 0).toInt64))) + ((agesR S p 1).toInt64)), lo, li (nI p), li 2]) d_M_digest_189 rfl (by decide) rfl rfl rfl ?_
    refine Wp_goto d_M_digest_192 ?_
    refine Wp_iload d_M_digest_168 rfl ?_
    refine Wp_iconst (x := 3) d_M_digest_170 (by decide) ?_
    refine Wp_icmp_ge d_M_digest_171 (fun q => absurd q (by decide)) (fun _ => ?_)
    refine Wp_ldc2 (x := 31) d_M_digest_174 kl_M_282 ?_
    refine Wp_lload_n d_M_digest_177 rfl ?_
    refine Wp_lmul d_M_digest_178 ?_
    refine Wp_aload_n d_M_digest_179 rfl ?_
    refine Wp_iload_n d_M_digest_180 rfl ?_
    refine Wp_iload d_M_digest_181 rfl ?_
    refine Wp_ivv_d (o := 33) (As := [vi (nI p), vi 2]) d_M_digest_183 ln_M_269 mk_M_agesOf rfl rfl rfl rfl rfl (by omega) (t_M_agesOf E (d - 1) (by omega) w159 S hP hV p (by omega) 2) ?_
    refine Wp_i2l d_M_digest_186 ?_
    refine Wp_ladd d_M_digest_187 ?_
    refine Wp_lstore_n (ls2 := [lr 33, ll ((31 * ((31 * ((31 * ((31 * ((31 * ((31 * ((31 * ((31 * ((31 * ((31 * ((31 * (dgL S p)) + ((nI (pA S p)).toInt64))) + ((nI (tld S p)).toInt64))) + ((withR S p).toInt64))) + (paysR S p 0))) + (paysR S p 1))) + (shareR S p 0))) + (shareR S p 1))) + ((liesR S p 3).toInt64))) + ((agesR S p 0).toInt64))) + ((agesR S p 1).toInt64))) + ((agesR S p 2).toInt64)), lo, li (nI p), li 2]) d_M_digest_188 rfl rfl rfl ?_
    refine Wp_iinc (z := 3) (ls2 := [lr 33, ll ((31 * ((31 * ((31 * ((31 * ((31 * ((31 * ((31 * ((31 * ((31 * ((31 * ((31 * (dgL S p)) + ((nI (pA S p)).toInt64))) + ((nI (tld S p)).toInt64))) + ((withR S p).toInt64))) + (paysR S p 0))) + (paysR S p 1))) + (shareR S p 0))) + (shareR S p 1))) + ((liesR S p 3).toInt64))) + ((agesR S p 0).toInt64))) + ((agesR S p 1).toInt64))) + ((agesR S p 2).toInt64)), lo, li (nI p), li 3]) d_M_digest_189 rfl (by decide) rfl rfl rfl ?_
    refine Wp_goto d_M_digest_192 ?_
    refine Wp_iload d_M_digest_168 rfl ?_
    refine Wp_iconst (x := 3) d_M_digest_170 (by decide) ?_
    refine Wp_icmp_ge d_M_digest_171 (fun _ => ?_) (fun q => absurd (by decide) q)
    refine Wp_iinc (z := nI (p + 1)) (ls2 := [lr 33, ll ((31 * ((31 * ((31 * ((31 * ((31 * ((31 * ((31 * ((31 * ((31 * ((31 * ((31 * (dgL S p)) + ((nI (pA S p)).toInt64))) + ((nI (tld S p)).toInt64))) + ((withR S p).toInt64))) + (paysR S p 0))) + (paysR S p 1))) + (shareR S p 0))) + (shareR S p 1))) + ((liesR S p 3).toInt64))) + ((agesR S p 0).toInt64))) + ((agesR S p 1).toInt64))) + ((agesR S p 2).toInt64)), lo, li (nI (p + 1)), li 3]) d_M_digest_195 rfl (nI_add p 1) rfl rfl rfl ?_
    refine Wp_goto d_M_digest_198 ?_
    exact ih (p + 1) _ _ (by omega) hP fA
set_option maxRecDepth 100000 in
set_option maxHeartbeats 4000000 in
theorem t_M_digest (E : mE) (d : Nat) (hd : 6 ≤ d) (w : mw) (S : mw) (hM : MM w S) (hV : VM S) : Tl E d m_M_digest [vr 33] w (fun r w1 => r = digS S ∧ MP w1 S ∧ fr mRows w w1) := by
  refine ⟨Nat.le_of_ble_eq_true rfl, ?_⟩
  show Wp E d m_M_digest 0 [lr 33, lo, lo, lo, lo] [] w _
  have hp10 := (pN_ok S).1
  have hlt := two10 hp10
  have hwl := wh_lt S
  have hwe := wh_1 S
  have hMM := hM
  have fA : fr mRows w w := fr_rf
  refine Wp_ldc2 (x := 17) d_M_digest_0 kl_M_280 ?_
  refine Wp_lstore_n (ls2 := [lr 33, ll 17, lo, lo, lo]) d_M_digest_3 rfl rfl rfl ?_
  refine Wp_iconst (x := 0) d_M_digest_4 (by decide) ?_
  refine Wp_istore_n (ls2 := [lr 33, ll 17, lo, li 0, lo]) d_M_digest_5 rfl rfl rfl ?_
  refine Wp_iload_n d_M_digest_6 rfl ?_
  refine Wp_bipush (x := 8) d_M_digest_7 (by decide) ?_
  refine Wp_icmp_ge d_M_digest_9 (fun q => absurd q (by decide)) (fun _ => ?_)
  refine Wp_ldc2 (x := 31) d_M_digest_12 kl_M_282 ?_
  refine Wp_lload_n d_M_digest_15 rfl ?_
  refine Wp_lmul d_M_digest_16 ?_
  refine Wp_aload_n d_M_digest_17 rfl ?_
  refine Wp_iload_n d_M_digest_18 rfl ?_
  refine Wp_ivv_i (o := 33) (As := [vi 0]) d_M_digest_19 ln_M_284 mk_M_count rfl rfl rfl rfl rfl (by omega) (t_M_count E (d - 1) (by omega) w S hMM hV 0) (fun r19 w19 c19 => ?_)
  obtain ⟨rC, hP0, fP⟩ := c19
  rw [rC]
  have hQ : MM w19 S := hP0.1
  have fQ : fr mRows w w19 := fr_tr fA (frF_m fP)
  clear hMM fA hP0 fP rC
  have hMM := hQ
  have fA := fQ
  clear hQ fQ
  refine Wp_i2l d_M_digest_22 ?_
  refine Wp_ladd d_M_digest_23 ?_
  refine Wp_eql (x2 := dgC S 1) rfl ?_
  refine Wp_lstore_n (ls2 := [lr 33, ll (dgC S 1), lo, li 0, lo]) d_M_digest_24 rfl rfl rfl ?_
  refine Wp_iinc (z := 1) (ls2 := [lr 33, ll (dgC S 1), lo, li 1, lo]) d_M_digest_25 rfl (by decide) rfl rfl rfl ?_
  refine Wp_goto d_M_digest_28 ?_
  refine Wp_iload_n d_M_digest_6 rfl ?_
  refine Wp_bipush (x := 8) d_M_digest_7 (by decide) ?_
  refine Wp_icmp_ge d_M_digest_9 (fun q => absurd q (by decide)) (fun _ => ?_)
  refine Wp_ldc2 (x := 31) d_M_digest_12 kl_M_282 ?_
  refine Wp_lload_n d_M_digest_15 rfl ?_
  refine Wp_lmul d_M_digest_16 ?_
  refine Wp_aload_n d_M_digest_17 rfl ?_
  refine Wp_iload_n d_M_digest_18 rfl ?_
  refine Wp_ivv_i (o := 33) (As := [vi 1]) d_M_digest_19 ln_M_284 mk_M_count rfl rfl rfl rfl rfl (by omega) (t_M_count E (d - 1) (by omega) w19 S hMM hV 1) (fun r19 w19 c19 => ?_)
  obtain ⟨rC, hP0, fP⟩ := c19
  rw [rC]
  have hQ : MM w19 S := hP0.1
  have fQ : fr mRows w w19 := fr_tr fA (frF_m fP)
  clear hMM fA hP0 fP rC
  have hMM := hQ
  have fA := fQ
  clear hQ fQ
  refine Wp_i2l d_M_digest_22 ?_
  refine Wp_ladd d_M_digest_23 ?_
  refine Wp_eql (x2 := dgC S 2) rfl ?_
  refine Wp_lstore_n (ls2 := [lr 33, ll (dgC S 2), lo, li 1, lo]) d_M_digest_24 rfl rfl rfl ?_
  refine Wp_iinc (z := 2) (ls2 := [lr 33, ll (dgC S 2), lo, li 2, lo]) d_M_digest_25 rfl (by decide) rfl rfl rfl ?_
  refine Wp_goto d_M_digest_28 ?_
  refine Wp_iload_n d_M_digest_6 rfl ?_
  refine Wp_bipush (x := 8) d_M_digest_7 (by decide) ?_
  refine Wp_icmp_ge d_M_digest_9 (fun q => absurd q (by decide)) (fun _ => ?_)
  refine Wp_ldc2 (x := 31) d_M_digest_12 kl_M_282 ?_
  refine Wp_lload_n d_M_digest_15 rfl ?_
  refine Wp_lmul d_M_digest_16 ?_
  refine Wp_aload_n d_M_digest_17 rfl ?_
  refine Wp_iload_n d_M_digest_18 rfl ?_
  refine Wp_ivv_i (o := 33) (As := [vi 2]) d_M_digest_19 ln_M_284 mk_M_count rfl rfl rfl rfl rfl (by omega) (t_M_count E (d - 1) (by omega) w19 S hMM hV 2) (fun r19 w19 c19 => ?_)
  obtain ⟨rC, hP0, fP⟩ := c19
  rw [rC]
  have hQ : MM w19 S := hP0.1
  have fQ : fr mRows w w19 := fr_tr fA (frF_m fP)
  clear hMM fA hP0 fP rC
  have hMM := hQ
  have fA := fQ
  clear hQ fQ
  refine Wp_i2l d_M_digest_22 ?_
  refine Wp_ladd d_M_digest_23 ?_
  refine Wp_eql (x2 := dgC S 3) rfl ?_
  refine Wp_lstore_n (ls2 := [lr 33, ll (dgC S 3), lo, li 2, lo]) d_M_digest_24 rfl rfl rfl ?_
  refine Wp_iinc (z := 3) (ls2 := [lr 33, ll (dgC S 3), lo, li 3, lo]) d_M_digest_25 rfl (by decide) rfl rfl rfl ?_
  refine Wp_goto d_M_digest_28 ?_
  refine Wp_iload_n d_M_digest_6 rfl ?_
  refine Wp_bipush (x := 8) d_M_digest_7 (by decide) ?_
  refine Wp_icmp_ge d_M_digest_9 (fun q => absurd q (by decide)) (fun _ => ?_)
  refine Wp_ldc2 (x := 31) d_M_digest_12 kl_M_282 ?_
  refine Wp_lload_n d_M_digest_15 rfl ?_
  refine Wp_lmul d_M_digest_16 ?_
  refine Wp_aload_n d_M_digest_17 rfl ?_
  refine Wp_iload_n d_M_digest_18 rfl ?_
  refine Wp_ivv_i (o := 33) (As := [vi 3]) d_M_digest_19 ln_M_284 mk_M_count rfl rfl rfl rfl rfl (by omega) (t_M_count E (d - 1) (by omega) w19 S hMM hV 3) (fun r19 w19 c19 => ?_)
  obtain ⟨rC, hP0, fP⟩ := c19
  rw [rC]
  have hQ : MM w19 S := hP0.1
  have fQ : fr mRows w w19 := fr_tr fA (frF_m fP)
  clear hMM fA hP0 fP rC
  have hMM := hQ
  have fA := fQ
  clear hQ fQ
  refine Wp_i2l d_M_digest_22 ?_
  refine Wp_ladd d_M_digest_23 ?_
  refine Wp_eql (x2 := dgC S 4) rfl ?_
  refine Wp_lstore_n (ls2 := [lr 33, ll (dgC S 4), lo, li 3, lo]) d_M_digest_24 rfl rfl rfl ?_
  refine Wp_iinc (z := 4) (ls2 := [lr 33, ll (dgC S 4), lo, li 4, lo]) d_M_digest_25 rfl (by decide) rfl rfl rfl ?_
  refine Wp_goto d_M_digest_28 ?_
  refine Wp_iload_n d_M_digest_6 rfl ?_
  refine Wp_bipush (x := 8) d_M_digest_7 (by decide) ?_
  refine Wp_icmp_ge d_M_digest_9 (fun q => absurd q (by decide)) (fun _ => ?_)
  refine Wp_ldc2 (x := 31) d_M_digest_12 kl_M_282 ?_
  refine Wp_lload_n d_M_digest_15 rfl ?_
  refine Wp_lmul d_M_digest_16 ?_
  refine Wp_aload_n d_M_digest_17 rfl ?_
  refine Wp_iload_n d_M_digest_18 rfl ?_
  refine Wp_ivv_i (o := 33) (As := [vi 4]) d_M_digest_19 ln_M_284 mk_M_count rfl rfl rfl rfl rfl (by omega) (t_M_count E (d - 1) (by omega) w19 S hMM hV 4) (fun r19 w19 c19 => ?_)
  obtain ⟨rC, hP0, fP⟩ := c19
  rw [rC]
  have hQ : MM w19 S := hP0.1
  have fQ : fr mRows w w19 := fr_tr fA (frF_m fP)
  clear hMM fA hP0 fP rC
  have hMM := hQ
  have fA := fQ
  clear hQ fQ
  refine Wp_i2l d_M_digest_22 ?_
  refine Wp_ladd d_M_digest_23 ?_
  refine Wp_eql (x2 := dgC S 5) rfl ?_
  refine Wp_lstore_n (ls2 := [lr 33, ll (dgC S 5), lo, li 4, lo]) d_M_digest_24 rfl rfl rfl ?_
  refine Wp_iinc (z := 5) (ls2 := [lr 33, ll (dgC S 5), lo, li 5, lo]) d_M_digest_25 rfl (by decide) rfl rfl rfl ?_
  refine Wp_goto d_M_digest_28 ?_
  refine Wp_iload_n d_M_digest_6 rfl ?_
  refine Wp_bipush (x := 8) d_M_digest_7 (by decide) ?_
  refine Wp_icmp_ge d_M_digest_9 (fun q => absurd q (by decide)) (fun _ => ?_)
  refine Wp_ldc2 (x := 31) d_M_digest_12 kl_M_282 ?_
  refine Wp_lload_n d_M_digest_15 rfl ?_
  refine Wp_lmul d_M_digest_16 ?_
  refine Wp_aload_n d_M_digest_17 rfl ?_
  refine Wp_iload_n d_M_digest_18 rfl ?_
  refine Wp_ivv_i (o := 33) (As := [vi 5]) d_M_digest_19 ln_M_284 mk_M_count rfl rfl rfl rfl rfl (by omega) (t_M_count E (d - 1) (by omega) w19 S hMM hV 5) (fun r19 w19 c19 => ?_)
  obtain ⟨rC, hP0, fP⟩ := c19
  rw [rC]
  have hQ : MM w19 S := hP0.1
  have fQ : fr mRows w w19 := fr_tr fA (frF_m fP)
  clear hMM fA hP0 fP rC
  have hMM := hQ
  have fA := fQ
  clear hQ fQ
  refine Wp_i2l d_M_digest_22 ?_
  refine Wp_ladd d_M_digest_23 ?_
  refine Wp_eql (x2 := dgC S 6) rfl ?_
  refine Wp_lstore_n (ls2 := [lr 33, ll (dgC S 6), lo, li 5, lo]) d_M_digest_24 rfl rfl rfl ?_
  refine Wp_iinc (z := 6) (ls2 := [lr 33, ll (dgC S 6), lo, li 6, lo]) d_M_digest_25 rfl (by decide) rfl rfl rfl ?_
  refine Wp_goto d_M_digest_28 ?_
  refine Wp_iload_n d_M_digest_6 rfl ?_
  refine Wp_bipush (x := 8) d_M_digest_7 (by decide) ?_
  refine Wp_icmp_ge d_M_digest_9 (fun q => absurd q (by decide)) (fun _ => ?_)
  refine Wp_ldc2 (x := 31) d_M_digest_12 kl_M_282 ?_
  refine Wp_lload_n d_M_digest_15 rfl ?_
  refine Wp_lmul d_M_digest_16 ?_
  refine Wp_aload_n d_M_digest_17 rfl ?_
  refine Wp_iload_n d_M_digest_18 rfl ?_
  refine Wp_ivv_i (o := 33) (As := [vi 6]) d_M_digest_19 ln_M_284 mk_M_count rfl rfl rfl rfl rfl (by omega) (t_M_count E (d - 1) (by omega) w19 S hMM hV 6) (fun r19 w19 c19 => ?_)
  obtain ⟨rC, hP0, fP⟩ := c19
  rw [rC]
  have hQ : MM w19 S := hP0.1
  have fQ : fr mRows w w19 := fr_tr fA (frF_m fP)
  clear hMM fA hP0 fP rC
  have hMM := hQ
  have fA := fQ
  clear hQ fQ
  refine Wp_i2l d_M_digest_22 ?_
  refine Wp_ladd d_M_digest_23 ?_
  refine Wp_eql (x2 := dgC S 7) rfl ?_
  refine Wp_lstore_n (ls2 := [lr 33, ll (dgC S 7), lo, li 6, lo]) d_M_digest_24 rfl rfl rfl ?_
  refine Wp_iinc (z := 7) (ls2 := [lr 33, ll (dgC S 7), lo, li 7, lo]) d_M_digest_25 rfl (by decide) rfl rfl rfl ?_
  refine Wp_goto d_M_digest_28 ?_
  refine Wp_iload_n d_M_digest_6 rfl ?_
  refine Wp_bipush (x := 8) d_M_digest_7 (by decide) ?_
  refine Wp_icmp_ge d_M_digest_9 (fun q => absurd q (by decide)) (fun _ => ?_)
  refine Wp_ldc2 (x := 31) d_M_digest_12 kl_M_282 ?_
  refine Wp_lload_n d_M_digest_15 rfl ?_
  refine Wp_lmul d_M_digest_16 ?_
  refine Wp_aload_n d_M_digest_17 rfl ?_
  refine Wp_iload_n d_M_digest_18 rfl ?_
  refine Wp_ivv_i (o := 33) (As := [vi 7]) d_M_digest_19 ln_M_284 mk_M_count rfl rfl rfl rfl rfl (by omega) (t_M_count E (d - 1) (by omega) w19 S hMM hV 7) (fun r19 w19 c19 => ?_)
  obtain ⟨rC, hP0, fP⟩ := c19
  rw [rC]
  have hQ : MM w19 S := hP0.1
  have fQ : fr mRows w w19 := fr_tr fA (frF_m fP)
  clear hMM fA hP0 fP rC
  have hMM := hQ
  have fA := fQ
  clear hQ fQ
  refine Wp_i2l d_M_digest_22 ?_
  refine Wp_ladd d_M_digest_23 ?_
  refine Wp_eql (x2 := dgC S 8) rfl ?_
  refine Wp_lstore_n (ls2 := [lr 33, ll (dgC S 8), lo, li 7, lo]) d_M_digest_24 rfl rfl rfl ?_
  refine Wp_iinc (z := 8) (ls2 := [lr 33, ll (dgC S 8), lo, li 8, lo]) d_M_digest_25 rfl (by decide) rfl rfl rfl ?_
  refine Wp_goto d_M_digest_28 ?_
  refine Wp_iload_n d_M_digest_6 rfl ?_
  refine Wp_bipush (x := 8) d_M_digest_7 (by decide) ?_
  refine Wp_icmp_ge d_M_digest_9 (fun _ => ?_) (fun q => absurd (by decide) q)
  refine Wp_ldc2 (x := 31) d_M_digest_31 kl_M_282 ?_
  refine Wp_lload_n d_M_digest_34 rfl ?_
  refine Wp_lmul d_M_digest_35 ?_
  refine Wp_aload_n d_M_digest_36 rfl ?_
  refine Wp_ivv_i (o := 33) (As := []) d_M_digest_37 ln_M_143 mk_M_reads rfl rfl rfl rfl rfl (by omega) (t_M_reads E (d - 1) (by omega) w19 S hMM hV) (fun r37 w37 c37 => ?_)
  obtain ⟨hF, hP, fP⟩ := c37
  rw [hF]
  have fQ : fr mRows w w37 := fr_tr fA (frF_m fP)
  clear fA
  have fA := fQ
  clear fQ
  refine Wp_i2l d_M_digest_40 ?_
  refine Wp_ladd d_M_digest_41 ?_
  refine Wp_eql (x2 := dgL S 0) rfl ?_
  refine Wp_lstore_n (ls2 := [lr 33, ll (dgL S 0), lo, li 8, lo]) d_M_digest_42 rfl rfl rfl ?_
  refine Wp_iconst (x := 0) d_M_digest_43 (by decide) ?_
  refine Wp_istore_n (ls2 := [lr 33, ll (dgL S 0), lo, li 0, lo]) d_M_digest_44 rfl rfl rfl ?_
  refine l_M_dg E d (by omega) w S hV _ (fun w9 u hP9 f9 => ?_) (pN S) 0 w37 lo (Nat.zero_add _) hP fA
  clear hP fA
  have hP := hP9
  have fA := f9
  refine Wp_aload_n d_M_digest_201 rfl ?_
  refine Wp_ivv_v (o := 33) (As := []) d_M_digest_202 ln_M_201 mk_M_findBoats rfl rfl rfl rfl rfl (by omega) (t_M_findBoats E (d - 1) (by omega) w9 S hP hV) (fun w202 c202 => ?_)
  obtain ⟨hB, fB⟩ := c202
  have fQ : fr mRows w w202 := fr_tr fA (fr_sub fB (by decide))
  clear fA
  have fA := fQ
  clear fQ
  refine Wp_iconst (x := 0) d_M_digest_205 (by decide) ?_
  refine Wp_istore_n (ls2 := [lr 33, ll (dgL S (pN S)), lo, li 0, u]) d_M_digest_206 rfl rfl rfl ?_
  refine Wp_iload_n d_M_digest_207 rfl ?_
  refine Wp_iconst (x := 3) d_M_digest_208 (by decide) ?_
  refine Wp_icmp_ge d_M_digest_209 (fun q => absurd q (by decide)) (fun _ => ?_)
  refine Wp_ldc2 (x := 31) d_M_digest_212 kl_M_282 ?_
  refine Wp_lload_n d_M_digest_215 rfl ?_
  refine Wp_lmul d_M_digest_216 ?_
  refine Wp_aload_n d_M_digest_217 rfl ?_
  refine Wp_aload_n d_M_digest_218 rfl ?_
  refine Wp_ivv_d (o := 33) (As := []) d_M_digest_219 ln_M_184 mk_M_whole rfl rfl rfl rfl rfl (by omega) (t_M_whole E (d - 1) (by omega) w202 S hB.1 hV) ?_
  refine Wp_iload_n d_M_digest_222 rfl ?_
  refine Wp_ivv_i (o := 33) (As := [vi (nI (wh S)), vi 0]) d_M_digest_223 ln_M_204 mk_M_dayOf rfl rfl rfl rfl rfl (by omega) (t_M_dayOf E (d - 1) (by omega) w202 S hB hV (wh S) (by omega) 0) (fun r223 w223 c223 => ?_)
  obtain ⟨rD, fD⟩ := c223
  rw [rD]
  have hQ : MB w223 S := MB_fr hB fD (by decide)
  have fQ : fr mRows w w223 := fr_tr fA (fr_sub fD (by decide))
  clear hB fA fD
  have hB := hQ
  have fA := fQ
  clear hQ fQ
  refine Wp_i2l d_M_digest_226 ?_
  refine Wp_ladd d_M_digest_227 ?_
  refine Wp_eql (x2 := dgD S 1) rfl ?_
  refine Wp_lstore_n (ls2 := [lr 33, ll (dgD S 1), lo, li 0, u]) d_M_digest_228 rfl rfl rfl ?_
  refine Wp_iinc (z := 1) (ls2 := [lr 33, ll (dgD S 1), lo, li 1, u]) d_M_digest_229 rfl (by decide) rfl rfl rfl ?_
  refine Wp_goto d_M_digest_232 ?_
  refine Wp_iload_n d_M_digest_207 rfl ?_
  refine Wp_iconst (x := 3) d_M_digest_208 (by decide) ?_
  refine Wp_icmp_ge d_M_digest_209 (fun q => absurd q (by decide)) (fun _ => ?_)
  refine Wp_ldc2 (x := 31) d_M_digest_212 kl_M_282 ?_
  refine Wp_lload_n d_M_digest_215 rfl ?_
  refine Wp_lmul d_M_digest_216 ?_
  refine Wp_aload_n d_M_digest_217 rfl ?_
  refine Wp_aload_n d_M_digest_218 rfl ?_
  refine Wp_ivv_d (o := 33) (As := []) d_M_digest_219 ln_M_184 mk_M_whole rfl rfl rfl rfl rfl (by omega) (t_M_whole E (d - 1) (by omega) w223 S hB.1 hV) ?_
  refine Wp_iload_n d_M_digest_222 rfl ?_
  refine Wp_ivv_i (o := 33) (As := [vi (nI (wh S)), vi 1]) d_M_digest_223 ln_M_204 mk_M_dayOf rfl rfl rfl rfl rfl (by omega) (t_M_dayOf E (d - 1) (by omega) w223 S hB hV (wh S) (by omega) 1) (fun r223 w223 c223 => ?_)
  obtain ⟨rD, fD⟩ := c223
  rw [rD]
  have hQ : MB w223 S := MB_fr hB fD (by decide)
  have fQ : fr mRows w w223 := fr_tr fA (fr_sub fD (by decide))
  clear hB fA fD
  have hB := hQ
  have fA := fQ
  clear hQ fQ
  refine Wp_i2l d_M_digest_226 ?_
  refine Wp_ladd d_M_digest_227 ?_
  refine Wp_eql (x2 := dgD S 2) rfl ?_
  refine Wp_lstore_n (ls2 := [lr 33, ll (dgD S 2), lo, li 1, u]) d_M_digest_228 rfl rfl rfl ?_
  refine Wp_iinc (z := 2) (ls2 := [lr 33, ll (dgD S 2), lo, li 2, u]) d_M_digest_229 rfl (by decide) rfl rfl rfl ?_
  refine Wp_goto d_M_digest_232 ?_
  refine Wp_iload_n d_M_digest_207 rfl ?_
  refine Wp_iconst (x := 3) d_M_digest_208 (by decide) ?_
  refine Wp_icmp_ge d_M_digest_209 (fun q => absurd q (by decide)) (fun _ => ?_)
  refine Wp_ldc2 (x := 31) d_M_digest_212 kl_M_282 ?_
  refine Wp_lload_n d_M_digest_215 rfl ?_
  refine Wp_lmul d_M_digest_216 ?_
  refine Wp_aload_n d_M_digest_217 rfl ?_
  refine Wp_aload_n d_M_digest_218 rfl ?_
  refine Wp_ivv_d (o := 33) (As := []) d_M_digest_219 ln_M_184 mk_M_whole rfl rfl rfl rfl rfl (by omega) (t_M_whole E (d - 1) (by omega) w223 S hB.1 hV) ?_
  refine Wp_iload_n d_M_digest_222 rfl ?_
  refine Wp_ivv_i (o := 33) (As := [vi (nI (wh S)), vi 2]) d_M_digest_223 ln_M_204 mk_M_dayOf rfl rfl rfl rfl rfl (by omega) (t_M_dayOf E (d - 1) (by omega) w223 S hB hV (wh S) (by omega) 2) (fun r223 w223 c223 => ?_)
  obtain ⟨rD, fD⟩ := c223
  rw [rD]
  have hQ : MB w223 S := MB_fr hB fD (by decide)
  have fQ : fr mRows w w223 := fr_tr fA (fr_sub fD (by decide))
  clear hB fA fD
  have hB := hQ
  have fA := fQ
  clear hQ fQ
  refine Wp_i2l d_M_digest_226 ?_
  refine Wp_ladd d_M_digest_227 ?_
  refine Wp_eql (x2 := dgD S 3) rfl ?_
  refine Wp_lstore_n (ls2 := [lr 33, ll (dgD S 3), lo, li 2, u]) d_M_digest_228 rfl rfl rfl ?_
  refine Wp_iinc (z := 3) (ls2 := [lr 33, ll (dgD S 3), lo, li 3, u]) d_M_digest_229 rfl (by decide) rfl rfl rfl ?_
  refine Wp_goto d_M_digest_232 ?_
  refine Wp_iload_n d_M_digest_207 rfl ?_
  refine Wp_iconst (x := 3) d_M_digest_208 (by decide) ?_
  refine Wp_icmp_ge d_M_digest_209 (fun _ => ?_) (fun q => absurd (by decide) q)
  refine Wp_ldc2 (x := 31) d_M_digest_235 kl_M_282 ?_
  refine Wp_lload_n d_M_digest_238 rfl ?_
  refine Wp_lmul d_M_digest_239 ?_
  refine Wp_aload_n d_M_digest_240 rfl ?_
  refine Wp_ivv_i (o := 33) (As := []) d_M_digest_241 ln_M_213 mk_M_oddNow rfl rfl rfl rfl rfl (by omega) (t_M_oddNow E (d - 1) (by omega) w223 S hB.1 hV) (fun r241 w241 c241 => ?_)
  obtain ⟨rO, fO⟩ := c241
  rw [rO]
  have hP6 : MP w241 S := MP_s hB.1 fO
  refine Wp_i2l d_M_digest_244 ?_
  refine Wp_ladd d_M_digest_245 ?_
  refine Wp_lstore_n (ls2 := [lr 33, ll ((31 * (dgD S 3)) + ((oddR S).toInt64)), lo, li 3, u]) d_M_digest_246 rfl rfl rfl ?_
  refine Wp_ldc2 (x := 31) d_M_digest_247 kl_M_282 ?_
  refine Wp_lload_n d_M_digest_250 rfl ?_
  refine Wp_lmul d_M_digest_251 ?_
  refine Wp_aload_n d_M_digest_252 rfl ?_
  refine Wp_ivv_i (o := 33) (As := []) d_M_digest_253 ln_M_258 mk_M_backNow rfl rfl rfl rfl rfl (by omega) (t_M_backNow E (d - 1) (by omega) w241 S hP6 hV) (fun r253 w253 c253 => ?_)
  obtain ⟨rB, fBk, hP7⟩ := c253
  rw [rB]
  refine Wp_i2l d_M_digest_256 ?_
  refine Wp_ladd d_M_digest_257 ?_
  refine Wp_lstore_n (ls2 := [lr 33, ll ((31 * ((31 * (dgD S 3)) + ((oddR S).toInt64))) + ((backR S).toInt64)), lo, li 3, u]) d_M_digest_258 rfl rfl rfl ?_
  refine Wp_ldc2 (x := 31) d_M_digest_259 kl_M_282 ?_
  refine Wp_lload_n d_M_digest_262 rfl ?_
  refine Wp_lmul d_M_digest_263 ?_
  refine Wp_aload_n d_M_digest_264 rfl ?_
  refine Wp_bipush (x := 7) d_M_digest_265 (by decide) ?_
  refine Wp_ivv_i (o := 33) (As := [vi 7]) d_M_digest_267 ln_M_273 mk_M_lotOf rfl rfl rfl rfl rfl (by omega) (t_M_lotOf E (d - 1) (by omega) w253 S hP7 hV 7) (fun r267 w267 c267 => ?_)
  obtain ⟨rT, fT⟩ := c267
  rw [rT]
  refine Wp_i2l d_M_digest_270 ?_
  refine Wp_ladd d_M_digest_271 ?_
  refine Wp_retl d_M_digest_272 rfl ?_
  exact ⟨rfl, MP_fr hP7 fT (by decide), fr_tr fA (fr_tr (fr_sub fO (by decide)) (fr_tr (fr_sub fBk (by decide)) (fr_sub fT (by decide))))⟩
