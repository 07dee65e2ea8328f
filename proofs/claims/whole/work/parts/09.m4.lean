set_option maxRecDepth 100000 in
set_option maxHeartbeats 4000000 in
theorem t_M_here (E : mE) (d : Nat) (hd : 0 ≤ d) (w : mw) (n p : Nat) (hp : w 33 7 = nI p) (hn : w 33 6 = nI n) (hn2 : n ≤ 40) (hp2 : p ≤ n) : Td E d m_M_here [vr 33] w (if p < n then w 38 p else -1) w := by
  refine ⟨Nat.le_of_ble_eq_true rfl, ?_⟩
  show Wp E d m_M_here 0 [lr 33] [] w _
  refine Wp_aload_n d_M_here_0 rfl ?_
  refine Wp_getf d_M_here_1 fd_M_122 rfl rfl rfl ?_
  refine Wp_eqi (x2 := nI p) hp ?_
  refine Wp_aload_n d_M_here_4 rfl ?_
  refine Wp_getf d_M_here_5 fd_M_119 rfl rfl rfl ?_
  refine Wp_eqi (x2 := nI n) hn ?_
  refine Wp_icmp_ge d_M_here_8 (fun h8 => ?_) (fun h8 => ?_)
  ·
    have g8 : n ≤ p := n_le h8 (by omega) (by omega)
    refine Wp_iconst (x := (-1)) d_M_here_23 (by decide) ?_
    refine Wp_reti (ty := .int) d_M_here_24 rfl rfl ?_
    exact ⟨(if_neg (by omega)).symm, rfl⟩
  ·
    have g8 : p < n := n_nle h8 (by omega) (by omega)
    refine Wp_aload_n d_M_here_11 rfl ?_
    refine Wp_getr d_M_here_12 fd_M_22 rfl rfl rfl ?_
    refine Wp_aload_n d_M_here_15 rfl ?_
    refine Wp_getf d_M_here_16 fd_M_122 rfl rfl rfl ?_
    refine Wp_eqi (x2 := nI p) hp ?_
    refine Wp_ialdN (j := p) d_M_here_19 rfl rfl rfl rfl (by omega) ?_
    refine Wp_goto d_M_here_20 ?_
    refine Wp_reti (ty := .int) d_M_here_24 rfl rfl ?_
    exact ⟨(if_pos (by omega)).symm, rfl⟩
theorem agv_s {t : Nat → Int32} {f k : Nat} (h : dig (t (f + k)) = true) : 10 * nI (agv t f k) + t (f + k) - 48 = nI (agv t f (k + 1)) := by
  have h1 := dig_of h
  have e1 : t (f + k) = nI (t (f + k)).toInt.toNat := i_nI (by omega)
  rw [e1, show (10 : Int32) = nI 10 from rfl, pk_mul, nI_add, show (48 : Int32) = nI 48 from rfl, pk_sub (by omega)]
  congr 1
  show _ = 10 * agv t f k + ((t (f + k)).toInt.toNat - 48)
  omega
set_option maxRecDepth 100000 in
set_option maxHeartbeats 4000000 in
theorem l_M_readsPart (E : mE) (d : Nat) (hd : 1 ≤ d) (w0 : mw) (n f : Nat) (hn : w0 33 6 = nI n) (hn2 : n ≤ 40) (Q : Option mv → mw → Prop) (hk : Wp E d m_M_readsPart 71 [lr 33, li (nI f), li (nI (agv (w0 38) f (efr (w0 38) n f 3 - f)))] [] (mU w0 33 7 (nI (efr (w0 38) n f 3))) Q) : ∀ (m k : Nat), k + m = 3 → f + k ≤ n → efr (w0 38) n f 3 = efr (w0 38) n (f + k) m → Wp E d m_M_readsPart 18 [lr 33, li (nI f), li (nI (agv (w0 38) f k))] [] (mU w0 33 7 (nI (f + k))) Q := by
  intro m
  induction m with
  | zero =>
    intro k hm hfk he
    refine Wp_aload_n d_M_readsPart_18 rfl ?_
    refine Wp_getf d_M_readsPart_19 fd_M_122 rfl rfl rfl ?_
    refine Wp_eqi (x2 := nI (f + k)) (by simp [mU, mUr, upd]) ?_
    refine Wp_iload_n d_M_readsPart_22 rfl ?_
    refine Wp_iconst (x := 3) d_M_readsPart_23 (by decide) ?_
    refine Wp_iadd d_M_readsPart_24 ?_
    refine Wp_eqi (x2 := nI (f + 3)) (nI_add f 3) ?_
    refine Wp_icmp_ge d_M_readsPart_25 (fun h25 => ?_) (fun q => absurd (n_nle q (by omega) (by omega)) (by omega))
    have h9 : efr (w0 38) n f 3 = f + k := he.trans rfl
    rw [h9, Nat.add_sub_cancel_left] at hk
    exact hk
  | succ m ih =>
    intro k hm hfk he
    refine Wp_aload_n d_M_readsPart_18 rfl ?_
    refine Wp_getf d_M_readsPart_19 fd_M_122 rfl rfl rfl ?_
    refine Wp_eqi (x2 := nI (f + k)) (by simp [mU, mUr, upd]) ?_
    refine Wp_iload_n d_M_readsPart_22 rfl ?_
    refine Wp_iconst (x := 3) d_M_readsPart_23 (by decide) ?_
    refine Wp_iadd d_M_readsPart_24 ?_
    refine Wp_eqi (x2 := nI (f + 3)) (nI_add f 3) ?_
    refine Wp_icmp_ge d_M_readsPart_25 (fun q => absurd (n_le q (by omega) (by omega)) (by omega)) (fun h25 => ?_)
    refine Wp_aload_n d_M_readsPart_28 rfl ?_
    refine Wp_ivv_d (o := 33) (As := []) d_M_readsPart_29 ln_M_128 mk_M_here rfl rfl rfl rfl rfl (by omega) (t_M_here E (d - 1) (by omega) (mU w0 33 7 (nI (f + k))) n (f + k) (by rw [mU_at]) (by rw [mU_at_ne (by decide)]; exact hn) (by omega) (by omega)) ?_
    refine Wp_i2l d_M_readsPart_32 ?_
    refine Wp_ldc2 (x := 48) d_M_readsPart_33 kl_M_132 ?_
    refine Wp_ldc2 (x := 57) d_M_readsPart_36 kl_M_134 ?_
    refine Wp_ivs_b (As := [vl ((if f + k < n then mU w0 33 7 (nI (f + k)) 38 (f + k) else -1).toInt64), vl 48, vl 57]) d_M_readsPart_39 ln_M_88 mk_M_in rfl rfl rfl (by omega) (t_M_inI E (d - 1) (mU w0 33 7 (nI (f + k))) (x := (if f + k < n then mU w0 33 7 (nI (f + k)) 38 (f + k) else -1)) (lo := 48) (hi := 57) (by decide) (by decide)) (fun g39 => ?_) (fun g39 => ?_)
    ·
      have hfn : f + k < n := by
        by_cases h7 : f + k < n
        · exact h7
        · rw [if_neg h7] at g39; exact absurd g39 (by decide)
      rw [if_pos hfn, mU_ne (by decide)] at g39
      have hdg : dig (w0 38 (f + k)) = true := decide_eq_true g39
      refine Wp_if_eq d_M_readsPart_42 (fun q => absurd q (by decide)) (fun _ => ?_)
      refine Wp_bipush (x := 10) d_M_readsPart_45 (by decide) ?_
      refine Wp_iload_n d_M_readsPart_47 rfl ?_
      refine Wp_imul d_M_readsPart_48 ?_
      refine Wp_eqi (x2 := nI (10 * (agv (w0 38) f k))) (pk_mul 10 (agv (w0 38) f k)) ?_
      refine Wp_aload_n d_M_readsPart_49 rfl ?_
      refine Wp_ivv_d (o := 33) (As := []) d_M_readsPart_50 ln_M_128 mk_M_here rfl rfl rfl rfl rfl (by omega) (t_M_here E (d - 1) (by omega) (mU w0 33 7 (nI (f + k))) n (f + k) (by rw [mU_at]) (by rw [mU_at_ne (by decide)]; exact hn) (by omega) (by omega)) ?_
      refine Wp_iadd d_M_readsPart_53 ?_
      refine Wp_eqi (x2 := 10 * nI (agv (w0 38) f k) + w0 38 (f + k)) (by rw [if_pos hfn, mU_ne (by decide), show (10 : Int32) = nI 10 from rfl, pk_mul]) ?_
      refine Wp_bipush (x := 48) d_M_readsPart_54 (by decide) ?_
      refine Wp_isub d_M_readsPart_56 ?_
      refine Wp_eqi (x2 := nI (agv (w0 38) f (k + 1))) (agv_s hdg) ?_
      refine Wp_istore_n (ls2 := [lr 33, li (nI f), li (nI (agv (w0 38) f (k + 1)))]) d_M_readsPart_57 rfl rfl rfl ?_
      refine Wp_aload_n d_M_readsPart_58 rfl ?_
      refine Wp_dup d_M_readsPart_59 rfl ?_
      refine Wp_getf d_M_readsPart_60 fd_M_122 rfl rfl rfl ?_
      refine Wp_eqi (x2 := nI (f + k)) (by simp [mU, mUr, upd]) ?_
      refine Wp_iconst (x := 1) d_M_readsPart_63 (by decide) ?_
      refine Wp_iadd d_M_readsPart_64 ?_
      refine Wp_eqi (x2 := nI ((f + k) + 1)) (nI_add (f + k) 1) ?_
      refine Wp_puti d_M_readsPart_65 fp_M_122 rfl rfl rfl ?_
      refine Wp_goto d_M_readsPart_68 ?_
      refine Wp_eqw (mU_mU) ?_
      rw [show f + k + 1 = f + (k + 1) by omega]
      refine ih (k + 1) (by omega) (by omega) ?_
      rw [he]
      show efr (w0 38) n (f + k) (m + 1) = efr (w0 38) n (f + k + 1) m
      rw [efr, if_pos ⟨hfn, hdg⟩]
    ·
      refine Wp_if_eq d_M_readsPart_42 (fun _ => ?_) (fun q => absurd (by decide) q)
      have h8 : ¬ (f + k < n ∧ dig (w0 38 (f + k)) = true) := by
        intro q
        have q2 := dig_of q.2
        rw [if_pos q.1, mU_ne (by decide)] at g39
        exact g39 q2
      have h9 : efr (w0 38) n f 3 = f + k := by rw [he]; unfold efr; rw [if_neg h8]
      rw [h9, Nat.add_sub_cancel_left] at hk
      exact hk
def rpOk (t : Nat → Int32) (n f r : Nat) : Prop := r ≠ 10 ∧ efr t n f 3 ≠ f ∧ agv t f (efr t n f 3 - f) ≤ 120
set_option maxRecDepth 100000 in
set_option maxHeartbeats 4000000 in
theorem t_M_readsPart (E : mE) (d : Nat) (hd : 1 ≤ d) (w : mw) (n f r : Nat) (hf : w 33 7 = nI f) (hn : w 33 6 = nI n) (hr : w 33 8 = nI r) (hn2 : n ≤ 40) (hf2 : f ≤ n) (hr2 : r ≤ 10) : Ti E d m_M_readsPart [vr 33] w (fun q w1 => (q = 0 ∧ ¬ rpOk (w 38) n f r ∧ w1 = w) ∨ (q = 1 ∧ rpOk (w 38) n f r ∧ w1 = mU (mU (mU w 33 7 (nI (efr (w 38) n f 3))) 39 r (nI (agv (w 38) f (efr (w 38) n f 3 - f)))) 33 8 (nI (r + 1)))) := by
  refine ⟨Nat.le_of_ble_eq_true rfl, ?_⟩
  show Wp E d m_M_readsPart 0 [lr 33, lo, lo] [] w _
  refine Wp_aload_n d_M_readsPart_0 rfl ?_
  refine Wp_getf d_M_readsPart_1 fd_M_125 rfl rfl rfl ?_
  refine Wp_eqi (x2 := nI r) hr ?_
  refine Wp_bipush (x := 10) d_M_readsPart_4 (by decide) ?_
  refine Wp_icmp_ne d_M_readsPart_6 (fun h6 => ?_) (fun h6 => ?_)
  ·
    have g6 : r ≠ 10 := n_ne h6 (by omega) (by omega)
    refine Wp_aload_n d_M_readsPart_11 rfl ?_
    refine Wp_getf d_M_readsPart_12 fd_M_122 rfl rfl rfl ?_
    refine Wp_eqi (x2 := nI f) hf ?_
    refine Wp_istore_n (ls2 := [lr 33, li (nI f), lo]) d_M_readsPart_15 rfl rfl rfl ?_
    refine Wp_iconst (x := 0) d_M_readsPart_16 (by decide) ?_
    refine Wp_istore_n (ls2 := [lr 33, li (nI f), li 0]) d_M_readsPart_17 rfl rfl rfl ?_
    have hb1 := efr_ge (t := w 38) (n := n) 3 f
    have hb2 : (agv (w 38) f (efr (w 38) n f 3 - f)) < 1000 := by
      have h2 := agv_lt (t := w 38) (e := f) ((efr (w 38) n f 3) - f) (fun j h3 h4 => efr_dig (n := n) 3 f j h3 (by omega))
      have h3 : 10 ^ ((efr (w 38) n f 3) - f) ≤ 10 ^ 3 := Nat.pow_le_pow_right (by omega) (by omega)
      omega
    have e7 : w = mU w 33 7 (nI (f + 0)) := (mU_same hf).symm
    refine Wp_eqw e7 ?_
    refine l_M_readsPart E d (by omega) w n f hn hn2 _ ?_ 3 0 rfl (by omega) rfl
    refine Wp_aload_n d_M_readsPart_71 rfl ?_
    refine Wp_getf d_M_readsPart_72 fd_M_122 rfl rfl rfl ?_
    refine Wp_eqi (x2 := nI (efr (w 38) n f 3)) (by simp [mU, mUr, upd]) ?_
    refine Wp_iload_n d_M_readsPart_75 rfl ?_
    refine Wp_icmp_eq d_M_readsPart_76 (fun h76 => ?_) (fun h76 => ?_)
    ·
      have g76 : (efr (w 38) n f 3) = f := n_eq h76 (by omega) (by omega)
      refine Wp_aload_n d_M_readsPart_85 rfl ?_
      refine Wp_iload_n d_M_readsPart_86 rfl ?_
      refine Wp_puti d_M_readsPart_87 fp_M_122 rfl rfl rfl ?_
      refine Wp_iconst (x := 0) d_M_readsPart_90 (by decide) ?_
      refine Wp_reti (ty := .boolean) d_M_readsPart_91 rfl rfl ?_
      exact Or.inl ⟨rfl, fun q => by unfold rpOk at q; omega, by rw [mU_mU, mU_same hf]⟩
    ·
      have g76 : (efr (w 38) n f 3) ≠ f := n_ne h76 (by omega) (by omega)
      refine Wp_iload_n d_M_readsPart_79 rfl ?_
      refine Wp_bipush (x := 120) d_M_readsPart_80 (by decide) ?_
      refine Wp_icmp_le d_M_readsPart_82 (fun h82 => ?_) (fun h82 => ?_)
      ·
        have g82 : (agv (w 38) f (efr (w 38) n f 3 - f)) ≤ 120 := n_le h82 (by omega) (by omega)
        refine Wp_aload_n d_M_readsPart_92 rfl ?_
        refine Wp_getr d_M_readsPart_93 fd_M_25 rfl rfl rfl ?_
        refine Wp_aload_n d_M_readsPart_96 rfl ?_
        refine Wp_getf d_M_readsPart_97 fd_M_125 rfl rfl rfl ?_
        refine Wp_eqi (x2 := w 33 8) (by simp [mU, mUr, upd]) ?_
        refine Wp_eqi (x2 := nI r) hr ?_
        refine Wp_iload_n d_M_readsPart_100 rfl ?_
        refine Wp_iastN (j := r) d_M_readsPart_101 rfl rfl rfl rfl (by omega) ?_
        refine Wp_aload_n d_M_readsPart_102 rfl ?_
        refine Wp_dup d_M_readsPart_103 rfl ?_
        refine Wp_getf d_M_readsPart_104 fd_M_125 rfl rfl rfl ?_
        refine Wp_eqi (x2 := w 33 8) (by simp [mU, mUr, upd]) ?_
        refine Wp_eqi (x2 := nI r) hr ?_
        refine Wp_iconst (x := 1) d_M_readsPart_107 (by decide) ?_
        refine Wp_iadd d_M_readsPart_108 ?_
        refine Wp_eqi (x2 := nI (r + 1)) (nI_add r 1) ?_
        refine Wp_puti d_M_readsPart_109 fp_M_125 rfl rfl rfl ?_
        refine Wp_iconst (x := 1) d_M_readsPart_112 (by decide) ?_
        refine Wp_reti (ty := .boolean) d_M_readsPart_113 rfl rfl ?_
        exact Or.inr ⟨rfl, ⟨by omega, by omega, by omega⟩, rfl⟩
      ·
        have g82 : 120 < (agv (w 38) f (efr (w 38) n f 3 - f)) := n_nle h82 (by omega) (by omega)
        refine Wp_aload_n d_M_readsPart_85 rfl ?_
        refine Wp_iload_n d_M_readsPart_86 rfl ?_
        refine Wp_puti d_M_readsPart_87 fp_M_122 rfl rfl rfl ?_
        refine Wp_iconst (x := 0) d_M_readsPart_90 (by decide) ?_
        refine Wp_reti (ty := .boolean) d_M_readsPart_91 rfl rfl ?_
        exact Or.inl ⟨rfl, fun q => by unfold rpOk at q; omega, by rw [mU_mU, mU_same hf]⟩
  ·
    have g6 : r = 10 := n_eq h6 (by omega) (by omega)
    refine Wp_iconst (x := 0) d_M_readsPart_9 (by decide) ?_
    refine Wp_reti (ty := .boolean) d_M_readsPart_10 rfl rfl ?_
    exact Or.inl ⟨rfl, fun q => by unfold rpOk at q; omega, rfl⟩
def ReadQ (S w : mw) (f r : Nat) (q : Int32) (w1 : mw) : Prop := q = (pgo (S 38) (sLen S) f r).1 ∧ MM w1 S ∧ w1 33 8 = nI (pgo (S 38) (sLen S) f r).2 ∧ (∀ i, i < (pgo (S 38) (sLen S) f r).2 → w1 39 i = nI (pAge (S 38) (sLen S) i)) ∧ frF w w1
set_option maxRecDepth 100000 in
set_option maxHeartbeats 4000000 in
theorem l_M_reads (E : mE) (d : Nat) (hd : 2 ≤ d) (S : mw) (hV : VM S) : ∀ (f r : Nat) (w : mw), r + f = 10 → MM w S → w 33 7 = nI (pos (S 38) (sLen S) r) → w 33 8 = nI r → pos (S 38) (sLen S) r ≤ sLen S → (∀ i, i < r → w 39 i = nI (pAge (S 38) (sLen S) i)) → Wp E d m_M_reads 23 [lr 33, li 1] [] w (mPi (ReadQ S w f r)) := by
  intro f
  induction f with
  | zero =>
    intro r w hf hM hp hr hpn hi
    have hlen := (VM_len hV).2
    refine Wp_iload_n d_M_reads_23 rfl ?_
    refine Wp_if_eq d_M_reads_24 (fun q => absurd q (by decide)) (fun _ => ?_)
    refine Wp_aload_n d_M_reads_27 rfl ?_
    refine Wp_ivv_i (o := 33) (As := []) d_M_reads_28 ln_M_136 mk_M_readsPart rfl rfl rfl rfl rfl (by omega) (t_M_readsPart E (d - 1) (by omega) w (sLen S) (pos (S 38) (sLen S) r) r hp (hM.2.1.trans (VM_len hV).1) hr hlen hpn (by omega)) (fun r28 w28 c28 => ?_)
    rw [hM.r 38] at c28
    rcases c28 with ⟨j28, k28, v28⟩ | ⟨j28, k28, v28⟩
    ·
      rw [j28, v28]
      refine Wp_if_ne d_M_reads_31 (fun q => absurd q (by decide)) (fun _ => ?_)
      refine Wp_aload_n d_M_reads_34 rfl ?_
      refine Wp_ivv_d (o := 33) (As := []) d_M_reads_35 ln_M_140 mk_M_nobody rfl rfl rfl rfl rfl (by omega) (t_M_nobody E (d - 1) (by omega) w) ?_
      refine Wp_reti (ty := .int) d_M_reads_38 rfl rfl ?_
      refine ⟨hp, MM_sf hM (by decide), mU_at, fun i h => absurd h (Nat.not_lt_zero _), frF_8⟩
    ·
      exact absurd (by omega) k28.1
  | succ f ih =>
    intro r w hf hM hp hr hpn hi
    have hlen := (VM_len hV).2
    refine Wp_iload_n d_M_reads_23 rfl ?_
    refine Wp_if_eq d_M_reads_24 (fun q => absurd q (by decide)) (fun _ => ?_)
    refine Wp_aload_n d_M_reads_27 rfl ?_
    refine Wp_ivv_i (o := 33) (As := []) d_M_reads_28 ln_M_136 mk_M_readsPart rfl rfl rfl rfl rfl (by omega) (t_M_readsPart E (d - 1) (by omega) w (sLen S) (pos (S 38) (sLen S) r) r hp (hM.2.1.trans (VM_len hV).1) hr hlen hpn (by omega)) (fun r28 w28 c28 => ?_)
    rw [hM.r 38] at c28
    rcases c28 with ⟨j28, k28, v28⟩ | ⟨j28, k28, v28⟩
    ·
      rw [j28, v28]
      refine Wp_if_ne d_M_reads_31 (fun q => absurd q (by decide)) (fun _ => ?_)
      refine Wp_aload_n d_M_reads_34 rfl ?_
      refine Wp_ivv_d (o := 33) (As := []) d_M_reads_35 ln_M_140 mk_M_nobody rfl rfl rfl rfl rfl (by omega) (t_M_nobody E (d - 1) (by omega) w) ?_
      refine Wp_eqi (x2 := nI (pos (S 38) (sLen S) r)) hp ?_
      refine Wp_reti (ty := .int) d_M_reads_38 rfl rfl ?_
      have hpg : pgo (S 38) (sLen S) (f + 1) r = (nI (pos (S 38) (sLen S) r), 0) := by
        unfold pgo; rw [if_pos (by have k1 := k28; unfold rpOk at k1; unfold pEnd pAge pEnd; omega)]
      exact ⟨by rw [hpg]; try exact hp, MM_sf hM (by decide), by rw [hpg]; try exact mU_at, fun i h => by rw [hpg] at h; exact absurd h (Nat.not_lt_zero _), frF_8⟩
    ·
      rw [j28, v28]
      have hb := efr_ge (t := S 38) (n := sLen S) 3 (pos (S 38) (sLen S) r)
      have hb3 := hb.2.2 hpn
      have hb2 : pEnd (S 38) (sLen S) r ≤ sLen S := hb3
      have hb1 : pos (S 38) (sLen S) r ≤ pEnd (S 38) (sLen S) r := hb.1
      show Wp _ _ _ _ _ [vi 1] (mU (mU (mU w 33 7 (nI (pEnd (S 38) (sLen S) r))) 39 r (nI (pAge (S 38) (sLen S) r))) 33 8 (nI (r + 1))) _
      have hF3 : frF w (mU (mU (mU w 33 7 (nI (pEnd (S 38) (sLen S) r))) 39 r (nI (pAge (S 38) (sLen S) r))) 33 8 (nI (r + 1))) := frF_tr (frF_tr frF_7 frF_a) frF_8
      have hM3 : MM (mU (mU (mU w 33 7 (nI (pEnd (S 38) (sLen S) r))) 39 r (nI (pAge (S 38) (sLen S) r))) 33 8 (nI (r + 1))) S := frF_MM hM hF3
      have h37 : (mU (mU (mU w 33 7 (nI (pEnd (S 38) (sLen S) r))) 39 r (nI (pAge (S 38) (sLen S) r))) 33 8 (nI (r + 1))) 33 7 = nI (pEnd (S 38) (sLen S) r) := by simp [mU, mUr, upd]
      have h3r : (mU (mU (mU w 33 7 (nI (pEnd (S 38) (sLen S) r))) 39 r (nI (pAge (S 38) (sLen S) r))) 33 8 (nI (r + 1))) 33 8 = nI (r + 1) := mU_at
      have h3i : ∀ i, i < r + 1 → (mU (mU (mU w 33 7 (nI (pEnd (S 38) (sLen S) r))) 39 r (nI (pAge (S 38) (sLen S) r))) 33 8 (nI (r + 1))) 39 i = nI (pAge (S 38) (sLen S) i) := by
        intro i h
        rw [mU_ne (by decide)]
        by_cases h1 : i = r
        · subst h1; exact mU_at
        · rw [mU_at_ne h1, mU_ne (by decide)]; exact hi i (by omega)
      refine Wp_if_ne d_M_reads_31 (fun _ => ?_) (fun q => absurd q (by decide))
      refine Wp_aload_n d_M_reads_39 rfl ?_
      refine Wp_getf d_M_reads_40 fd_M_122 rfl rfl rfl ?_
      refine Wp_eqi (x2 := nI (pEnd (S 38) (sLen S) r)) (by simp [mU, mUr, upd]) ?_
      refine Wp_aload_n d_M_reads_43 rfl ?_
      refine Wp_getf d_M_reads_44 fd_M_119 rfl rfl rfl ?_
      refine Wp_eqi (x2 := w 33 6) (by simp [mU, mUr, upd]) ?_
      refine Wp_eqi (x2 := S 33 6) hM.2.1 ?_
      refine Wp_eqi (x2 := nI (sLen S)) (VM_len hV).1 ?_
      refine Wp_icmp_ge d_M_reads_47 (fun h47 => ?_) (fun h47 => ?_)
      ·
        have g47 : (sLen S) ≤ (pEnd (S 38) (sLen S) r) := n_le h47 (by omega) (by omega)
        refine Wp_iconst (x := 0) d_M_reads_54 (by decide) ?_
        refine Wp_istore_n (ls2 := [lr 33, li 0]) d_M_reads_55 rfl rfl rfl ?_
        refine Wp_iload_n d_M_reads_56 rfl ?_
        refine Wp_if_eq d_M_reads_57 (fun _ => ?_) (fun q => absurd (by decide) q)
        refine Wp_aload_n d_M_reads_74 rfl ?_
        refine Wp_dup d_M_reads_75 rfl ?_
        refine Wp_getf d_M_reads_76 fd_M_122 rfl rfl rfl ?_
        refine Wp_eqi (x2 := nI (pEnd (S 38) (sLen S) r)) (by simp [mU, mUr, upd]) ?_
        refine Wp_iload_n d_M_reads_79 rfl ?_
        refine Wp_if_eq d_M_reads_80 (fun _ => ?_) (fun q => absurd (by decide) q)
        refine Wp_iconst (x := 0) d_M_reads_87 (by decide) ?_
        refine Wp_iadd d_M_reads_88 ?_
        refine Wp_eqi (x2 := nI ((pEnd (S 38) (sLen S) r) + 0)) (nI_add (pEnd (S 38) (sLen S) r) 0) ?_
        refine Wp_puti d_M_reads_89 fp_M_122 rfl rfl rfl ?_
        refine Wp_goto d_M_reads_92 ?_
        refine Wp_iload_n d_M_reads_23 rfl ?_
        refine Wp_if_eq d_M_reads_24 (fun _ => ?_) (fun q => absurd (by decide) q)
        refine Wp_iconst (x := (-1)) d_M_reads_95 (by decide) ?_
        refine Wp_reti (ty := .int) d_M_reads_96 rfl rfl ?_
        have hpg : pgo (S 38) (sLen S) (f + 1) r = (-1, r + 1) := by
          have k1 : ¬ (pEnd (S 38) (sLen S) r = pos (S 38) (sLen S) r ∨ 120 < pAge (S 38) (sLen S) r) := fun q => by have a := k28.2.1; have b := k28.2.2; unfold pEnd pAge pEnd at q; omega
          unfold pgo; rw [if_neg k1, if_pos (by omega)]
        exact ⟨by rw [hpg], MM_sf hM3 (by decide), by rw [hpg, mU_at_ne (by decide)]; try exact h3r, by rw [hpg]; intro i h; rw [mU_ne (by decide)]; exact h3i i h, frF_tr hF3 frF_7⟩
      ·
        have g47 : (pEnd (S 38) (sLen S) r) < (sLen S) := n_nle h47 (by omega) (by omega)
        refine Wp_iconst (x := 1) d_M_reads_50 (by decide) ?_
        refine Wp_goto d_M_reads_51 ?_
        refine Wp_istore_n (ls2 := [lr 33, li 1]) d_M_reads_55 rfl rfl rfl ?_
        refine Wp_iload_n d_M_reads_56 rfl ?_
        refine Wp_if_eq d_M_reads_57 (fun q => absurd q (by decide)) (fun _ => ?_)
        refine Wp_aload_n d_M_reads_60 rfl ?_
        refine Wp_ivv_d (o := 33) (As := []) d_M_reads_61 ln_M_128 mk_M_here rfl rfl rfl rfl rfl (by omega) (t_M_here E (d - 1) (by omega) (mU (mU (mU w 33 7 (nI (pEnd (S 38) (sLen S) r))) 39 r (nI (pAge (S 38) (sLen S) r))) 33 8 (nI (r + 1))) (sLen S) (pEnd (S 38) (sLen S) r) h37 (hM3.2.1.trans (VM_len hV).1) hlen hb2) ?_
        refine Wp_eqi (x2 := S 38 (pEnd (S 38) (sLen S) r)) (by rw [if_pos (by omega)]; exact congrFun (hM3.r 38) _) ?_
        refine Wp_bipush (x := 59) d_M_reads_64 (by decide) ?_
        refine Wp_icmp_eq d_M_reads_66 (fun h66 => ?_) (fun h66 => ?_)
        ·
          refine Wp_aload_n d_M_reads_74 rfl ?_
          refine Wp_dup d_M_reads_75 rfl ?_
          refine Wp_getf d_M_reads_76 fd_M_122 rfl rfl rfl ?_
          refine Wp_eqi (x2 := nI (pEnd (S 38) (sLen S) r)) (by simp [mU, mUr, upd]) ?_
          refine Wp_iload_n d_M_reads_79 rfl ?_
          refine Wp_if_eq d_M_reads_80 (fun q => absurd q (by decide)) (fun _ => ?_)
          refine Wp_iconst (x := 1) d_M_reads_83 (by decide) ?_
          refine Wp_goto d_M_reads_84 ?_
          refine Wp_iadd d_M_reads_88 ?_
          refine Wp_eqi (x2 := nI ((pEnd (S 38) (sLen S) r) + 1)) (nI_add (pEnd (S 38) (sLen S) r) 1) ?_
          refine Wp_puti d_M_reads_89 fp_M_122 rfl rfl rfl ?_
          refine Wp_goto d_M_reads_92 ?_
          have hpg : pgo (S 38) (sLen S) (f + 1) r = pgo (S 38) (sLen S) f (r + 1) := by
            have k1 : ¬ (pEnd (S 38) (sLen S) r = pos (S 38) (sLen S) r ∨ 120 < pAge (S 38) (sLen S) r) := fun q => by have a := k28.2.1; have b := k28.2.2; unfold pEnd pAge pEnd at q; omega
            rw [pgo, if_neg k1, if_neg (by omega), if_pos h66]
          refine Wp_mi (ih (r + 1) _ (by omega) (MM_sf hM3 (by decide)) ?_ ?_ ?_ ?_) (fun q w1 h => ?_)
          · rw [mU_at]; rfl
          · rw [mU_at_ne (by decide)]; exact h3r
          · show pEnd (S 38) (sLen S) r + 1 ≤ _; omega
          · intro i h; rw [mU_ne (by decide)]; exact h3i i h
          · obtain ⟨a1, a2, a3, a4, a5⟩ := h
            exact ⟨by rw [hpg]; try exact a1, a2, by rw [hpg]; try exact a3, by rw [hpg]; try exact a4, frF_tr (frF_tr hF3 frF_7) a5⟩
        ·
          have g66 : (S 38 (pEnd (S 38) (sLen S) r)).toInt ≠ 59 := i_ne h66
          refine Wp_aload_n d_M_reads_69 rfl ?_
          refine Wp_ivv_d (o := 33) (As := []) d_M_reads_70 ln_M_140 mk_M_nobody rfl rfl rfl rfl rfl (by omega) (t_M_nobody E (d - 1) (by omega) (mU (mU (mU w 33 7 (nI (pEnd (S 38) (sLen S) r))) 39 r (nI (pAge (S 38) (sLen S) r))) 33 8 (nI (r + 1)))) ?_
          refine Wp_reti (ty := .int) d_M_reads_73 rfl rfl ?_
          have hpg : pgo (S 38) (sLen S) (f + 1) r = (nI (pEnd (S 38) (sLen S) r), 0) := by
            have k1 : ¬ (pEnd (S 38) (sLen S) r = pos (S 38) (sLen S) r ∨ 120 < pAge (S 38) (sLen S) r) := fun q => by have a := k28.2.1; have b := k28.2.2; unfold pEnd pAge pEnd at q; omega
            unfold pgo; rw [if_neg k1, if_neg (by omega), if_neg h66]
          exact ⟨by rw [hpg]; try exact h37, MM_sf hM3 (by decide), by rw [hpg]; try exact mU_at, fun i h => by rw [hpg] at h; exact absurd h (Nat.not_lt_zero _), frF_tr hF3 frF_8⟩
set_option maxRecDepth 100000 in
set_option maxHeartbeats 4000000 in
theorem t_M_reads (E : mE) (d : Nat) (hd : 2 ≤ d) (w : mw) (S : mw) (hM : MM w S) (hV : VM S) : Ti E d m_M_reads [vr 33] w (fun q w1 => q = pF S ∧ MP w1 S ∧ frF w w1) := by
  refine ⟨Nat.le_of_ble_eq_true rfl, ?_⟩
  show Wp E d m_M_reads 0 [lr 33, lo] [] w _
  have hlen := (VM_len hV).2
  refine Wp_aload_n d_M_reads_0 rfl ?_
  refine Wp_iconst (x := 0) d_M_reads_1 (by decide) ?_
  refine Wp_puti d_M_reads_2 fp_M_122 rfl rfl rfl ?_
  refine Wp_aload_n d_M_reads_5 rfl ?_
  refine Wp_iconst (x := 0) d_M_reads_6 (by decide) ?_
  refine Wp_puti d_M_reads_7 fp_M_125 rfl rfl rfl ?_
  refine Wp_aload_n d_M_reads_10 rfl ?_
  refine Wp_getf d_M_reads_11 fd_M_119 rfl rfl rfl ?_
  refine Wp_eqi (x2 := w 33 6) (by simp [mU, mUr, upd]) ?_
  refine Wp_eqi (x2 := S 33 6) hM.2.1 ?_
  refine Wp_eqi (x2 := nI (sLen S)) (VM_len hV).1 ?_
  refine Wp_if_le d_M_reads_14 (fun h14 => ?_) (fun h14 => ?_)
  ·
    have g14 : (sLen S) ≤ 0 := n_le h14 (by omega) (by omega)
    refine Wp_iconst (x := 0) d_M_reads_21 (by decide) ?_
    refine Wp_istore_n (ls2 := [lr 33, li 0]) d_M_reads_22 rfl rfl rfl ?_
    refine Wp_iload_n d_M_reads_23 rfl ?_
    refine Wp_if_eq d_M_reads_24 (fun _ => ?_) (fun q => absurd (by decide) q)
    refine Wp_iconst (x := (-1)) d_M_reads_95 (by decide) ?_
    refine Wp_reti (ty := .int) d_M_reads_96 rfl rfl ?_
    have hpr : pres (S 38) (sLen S) = (-1, 0) := if_pos (by omega)
    unfold MP pF pN pA
    rw [hpr]
    exact ⟨rfl, ⟨MM_sf (MM_sf hM (by decide)) (by decide), mU_at, fun i h => absurd h (Nat.not_lt_zero _)⟩, frF_tr frF_7 frF_8⟩
  ·
    have g14 : 0 < (sLen S) := n_nle h14 (by omega) (by omega)
    refine Wp_iconst (x := 1) d_M_reads_17 (by decide) ?_
    refine Wp_goto d_M_reads_18 ?_
    refine Wp_istore_n (ls2 := [lr 33, li 1]) d_M_reads_22 rfl rfl rfl ?_
    have hpr : pres (S 38) (sLen S) = pgo (S 38) (sLen S) 10 0 := if_neg (by omega)
    have hM2 : MM (mU (mU w 33 7 0) 33 8 0) S := MM_sf (MM_sf hM (by decide)) (by decide)
    refine Wp_mi (l_M_reads E d (by omega) S hV 10 0 _ rfl hM2 ?_ ?_ (Nat.zero_le _) (fun i h => absurd h (Nat.not_lt_zero _))) (fun q w1 h => ?_)
    · rw [mU_at_ne (by decide), mU_at]; rfl
    · exact mU_at
    · obtain ⟨a1, a2, a3, a4, a5⟩ := h
      unfold MP pF pN pA
      rw [hpr]
      exact ⟨a1, ⟨a2, a3, a4⟩, frF_tr (frF_tr frF_7 frF_8) a5⟩
