set_option maxRecDepth 100000 in
set_option maxHeartbeats 4000000 in
theorem l_M_so (E : mE) (d : Nat) (hd : 1 ≤ d) (w S : mw) (hM : MP w S) (hV : VM S) (p t : Nat) (hp : p < pN S) (ht : t ≤ 150) : ∀ (i k : Nat) (g : Bool) (u5 u6 u7 : Option mv), k + i = sSn S → soS S p (nI t) k = g → Wp E d m_M_isSo 5 [lr 33, li (nI p), li (nI t), li (bi g), li (nI k), u5, u6, u7] [] w (mPi (fun r w1 => ((r = 1 ∧ soS S p (nI t) (sSn S) = true) ∨ (r = 0 ∧ ¬ soS S p (nI t) (sSn S) = true)) ∧ w1 = w)) := by
  intro i
  have hp10 := (pN_ok S).1
  have hsn := (VM_sn hV).2
  induction i with
  | zero =>
    intro k g u5 u6 u7 hk hg
    have hin : sSn S = k := by omega
    cases g
    · show Wp E d m_M_isSo 5 [lr 33, li (nI p), li (nI t), li 0, li (nI k), u5, u6, u7] [] w _
      refine Wp_iload d_M_isSo_5 rfl ?_
      refine Wp_aload_n d_M_isSo_7 rfl ?_
      refine Wp_getf d_M_isSo_8 fd_M_263 rfl rfl rfl ?_
      refine Wp_eqi (x2 := S 33 28) hM.1.2.2.1 ?_
      refine Wp_eqi (x2 := nI (sSn S)) (VM_sn hV).1 ?_
      refine Wp_icmp_ge d_M_isSo_11 (fun h11 => ?_) (fun q => absurd (n_nle q (by omega) (by omega)) (by omega))
      refine Wp_iload_n d_M_isSo_132 rfl ?_
      refine Wp_reti (ty := .boolean) d_M_isSo_133 rfl rfl ?_
      rw [hin]
      exact ⟨Or.inr ⟨rfl, fun q => absurd (hg.symm.trans q) (by decide)⟩, rfl⟩
    · show Wp E d m_M_isSo 5 [lr 33, li (nI p), li (nI t), li 1, li (nI k), u5, u6, u7] [] w _
      refine Wp_iload d_M_isSo_5 rfl ?_
      refine Wp_aload_n d_M_isSo_7 rfl ?_
      refine Wp_getf d_M_isSo_8 fd_M_263 rfl rfl rfl ?_
      refine Wp_eqi (x2 := S 33 28) hM.1.2.2.1 ?_
      refine Wp_eqi (x2 := nI (sSn S)) (VM_sn hV).1 ?_
      refine Wp_icmp_ge d_M_isSo_11 (fun h11 => ?_) (fun q => absurd (n_nle q (by omega) (by omega)) (by omega))
      refine Wp_iload_n d_M_isSo_132 rfl ?_
      refine Wp_reti (ty := .boolean) d_M_isSo_133 rfl rfl ?_
      rw [hin]
      exact ⟨Or.inl ⟨rfl, hg⟩, rfl⟩
  | succ i ih =>
    intro k g u5 u6 u7 hk hg
    obtain ⟨⟨a, b, ea, eb, ha, hb, hab⟩, h0, h2⟩ := VM_se hV k (by omega)
    cases g
    · show Wp E d m_M_isSo 5 [lr 33, li (nI p), li (nI t), li 0, li (nI k), u5, u6, u7] [] w _
      refine Wp_iload d_M_isSo_5 rfl ?_
      refine Wp_aload_n d_M_isSo_7 rfl ?_
      refine Wp_getf d_M_isSo_8 fd_M_263 rfl rfl rfl ?_
      refine Wp_eqi (x2 := S 33 28) hM.1.2.2.1 ?_
      refine Wp_eqi (x2 := nI (sSn S)) (VM_sn hV).1 ?_
      refine Wp_icmp_ge d_M_isSo_11 (fun q => absurd (n_le q (by omega) (by omega)) (by omega)) (fun h11 => ?_)
      refine Wp_aload_n d_M_isSo_14 rfl ?_
      refine Wp_getr d_M_isSo_15 fd_M_80 rfl rfl rfl ?_
      refine Wp_iconst (x := 3) d_M_isSo_18 (by decide) ?_
      refine Wp_iload d_M_isSo_19 rfl ?_
      refine Wp_imul d_M_isSo_21 ?_
      refine Wp_eqi (x2 := nI (3 * k)) (pk_mul 3 k) ?_
      refine Wp_ialdN (j := (3 * k)) d_M_isSo_22 rfl rfl rfl rfl (by omega) ?_
      refine Wp_eqi (x2 := S 57 (3 * k)) (congrFun (hM.1.r 57) _) ?_
      refine Wp_eqi (x2 := nI a) ea ?_
      refine Wp_istore (ls2 := [lr 33, li (nI p), li (nI t), li 0, li (nI k), li (nI a), u6, u7]) d_M_isSo_23 rfl rfl rfl ?_
      refine Wp_aload_n d_M_isSo_25 rfl ?_
      refine Wp_getr d_M_isSo_26 fd_M_80 rfl rfl rfl ?_
      refine Wp_iconst (x := 3) d_M_isSo_29 (by decide) ?_
      refine Wp_iload d_M_isSo_30 rfl ?_
      refine Wp_imul d_M_isSo_32 ?_
      refine Wp_eqi (x2 := nI (3 * k)) (pk_mul 3 k) ?_
      refine Wp_iconst (x := 1) d_M_isSo_33 (by decide) ?_
      refine Wp_iadd d_M_isSo_34 ?_
      refine Wp_eqi (x2 := nI ((3 * k) + 1)) (nI_add (3 * k) 1) ?_
      refine Wp_ialdN (j := ((3 * k) + 1)) d_M_isSo_35 rfl rfl rfl rfl (by omega) ?_
      refine Wp_eqi (x2 := S 57 ((3 * k) + 1)) (congrFun (hM.1.r 57) _) ?_
      refine Wp_eqi (x2 := nI b) eb ?_
      refine Wp_istore (ls2 := [lr 33, li (nI p), li (nI t), li 0, li (nI k), li (nI a), li (nI b), u7]) d_M_isSo_36 rfl rfl rfl ?_
      refine Wp_iload d_M_isSo_38 rfl ?_
      refine Wp_iload_n d_M_isSo_40 rfl ?_
      refine Wp_icmp_ne d_M_isSo_41 (fun h41 => ?_) (fun h41 => ?_)
      ·
        have g41 : a ≠ p := n_ne h41 (by omega) (by omega)
        refine Wp_iload d_M_isSo_53 rfl ?_
        refine Wp_iload_n d_M_isSo_55 rfl ?_
        refine Wp_icmp_ne d_M_isSo_56 (fun h56 => ?_) (fun h56 => ?_)
        ·
          have g56 : b ≠ p := n_ne h56 (by omega) (by omega)
          refine Wp_iinc (z := nI (k + 1)) (ls2 := [lr 33, li (nI p), li (nI t), li 0, li (nI (k + 1)), li (nI a), li (nI b), u7]) d_M_isSo_126 rfl (nI_add k 1) rfl rfl rfl ?_
          refine Wp_goto d_M_isSo_129 ?_
          have e9 : soS S p (nI t) (k + 1) = false := (so_3 ea eb (by omega) (by omega) hb ha (by omega)).trans hg
          exact ih (k + 1) false (li (nI a)) (li (nI b)) u7 (by omega) e9
        ·
          have g56 : b = p := n_eq h56 (by omega) (by omega)
          refine Wp_iload d_M_isSo_59 rfl ?_
          refine Wp_aload_n d_M_isSo_61 rfl ?_
          refine Wp_getf d_M_isSo_62 fd_M_125 rfl rfl rfl ?_
          refine Wp_eqi (x2 := nI (pN S)) hM.2.1 ?_
          refine Wp_icmp_ge d_M_isSo_65 (fun h65 => ?_) (fun h65 => ?_)
          ·
            have g65 : (pN S) ≤ a := n_le h65 (by omega) (by omega)
            refine Wp_iinc (z := nI (k + 1)) (ls2 := [lr 33, li (nI p), li (nI t), li 0, li (nI (k + 1)), li (nI a), li (nI b), u7]) d_M_isSo_126 rfl (nI_add k 1) rfl rfl rfl ?_
            refine Wp_goto d_M_isSo_129 ?_
            have e9 : soS S p (nI t) (k + 1) = false := (so_3 ea eb (by omega) (by omega) hb ha (by omega)).trans hg
            exact ih (k + 1) false (li (nI a)) (li (nI b)) u7 (by omega) e9
          ·
            have g65 : a < (pN S) := n_nle h65 (by omega) (by omega)
            refine Wp_iload_n d_M_isSo_68 rfl ?_
            refine Wp_aload_n d_M_isSo_69 rfl ?_
            refine Wp_iload d_M_isSo_70 rfl ?_
            refine Wp_iload_n d_M_isSo_72 rfl ?_
            refine Wp_icmp_ne d_M_isSo_73 (fun _ => ?_) (fun q => absurd q h41)
            refine Wp_iload d_M_isSo_81 rfl ?_
            refine Wp_ivv_d (o := 33) (As := [vi (nI a)]) d_M_isSo_83 ln_M_154 mk_M_toldOf rfl rfl rfl rfl rfl (by omega) (t_M_toldOf E (d - 1) (by omega) w S hM hV a (by omega)) ?_
            refine Wp_isub d_M_isSo_86 ?_
            refine Wp_istore (ls2 := [lr 33, li (nI p), li (nI t), li 0, li (nI k), li (nI a), li (nI b), li ((nI t) - (nI (tld S a)))]) d_M_isSo_87 rfl rfl rfl ?_
            refine Wp_iload_n d_M_isSo_89 rfl ?_
            refine Wp_if_eq d_M_isSo_90 (fun _ => ?_) (fun q => absurd (by decide) q)
            refine Wp_iconst (x := 0) d_M_isSo_124 (by decide) ?_
            refine Wp_istore_n (ls2 := [lr 33, li (nI p), li (nI t), li 0, li (nI k), li (nI a), li (nI b), li ((nI t) - (nI (tld S a)))]) d_M_isSo_125 rfl rfl rfl ?_
            refine Wp_iinc (z := nI (k + 1)) (ls2 := [lr 33, li (nI p), li (nI t), li 0, li (nI (k + 1)), li (nI a), li (nI b), li ((nI t) - (nI (tld S a)))]) d_M_isSo_126 rfl (nI_add k 1) rfl rfl rfl ?_
            refine Wp_goto d_M_isSo_129 ?_
            have e9 : soS S p (nI t) (k + 1) = false := by
              rw [so_2 ea eb (by omega) (by omega) (by omega) hb ha, hg]
              rfl
            exact ih (k + 1) false (li (nI a)) (li (nI b)) (li ((nI t) - (nI (tld S a)))) (by omega) e9
      ·
        have g41 : a = p := n_eq h41 (by omega) (by omega)
        refine Wp_iload d_M_isSo_44 rfl ?_
        refine Wp_aload_n d_M_isSo_46 rfl ?_
        refine Wp_getf d_M_isSo_47 fd_M_125 rfl rfl rfl ?_
        refine Wp_eqi (x2 := nI (pN S)) hM.2.1 ?_
        refine Wp_icmp_lt d_M_isSo_50 (fun h50 => ?_) (fun h50 => ?_)
        ·
          have g50 : b < (pN S) := n_lt h50 (by omega) (by omega)
          refine Wp_iload_n d_M_isSo_68 rfl ?_
          refine Wp_aload_n d_M_isSo_69 rfl ?_
          refine Wp_iload d_M_isSo_70 rfl ?_
          refine Wp_iload_n d_M_isSo_72 rfl ?_
          refine Wp_icmp_ne d_M_isSo_73 (fun q => absurd h41 q) (fun _ => ?_)
          refine Wp_iload d_M_isSo_76 rfl ?_
          refine Wp_goto d_M_isSo_78 ?_
          refine Wp_ivv_d (o := 33) (As := [vi (nI b)]) d_M_isSo_83 ln_M_154 mk_M_toldOf rfl rfl rfl rfl rfl (by omega) (t_M_toldOf E (d - 1) (by omega) w S hM hV b (by omega)) ?_
          refine Wp_isub d_M_isSo_86 ?_
          refine Wp_istore (ls2 := [lr 33, li (nI p), li (nI t), li 0, li (nI k), li (nI a), li (nI b), li ((nI t) - (nI (tld S b)))]) d_M_isSo_87 rfl rfl rfl ?_
          refine Wp_iload_n d_M_isSo_89 rfl ?_
          refine Wp_if_eq d_M_isSo_90 (fun _ => ?_) (fun q => absurd (by decide) q)
          refine Wp_iconst (x := 0) d_M_isSo_124 (by decide) ?_
          refine Wp_istore_n (ls2 := [lr 33, li (nI p), li (nI t), li 0, li (nI k), li (nI a), li (nI b), li ((nI t) - (nI (tld S b)))]) d_M_isSo_125 rfl rfl rfl ?_
          refine Wp_iinc (z := nI (k + 1)) (ls2 := [lr 33, li (nI p), li (nI t), li 0, li (nI (k + 1)), li (nI a), li (nI b), li ((nI t) - (nI (tld S b)))]) d_M_isSo_126 rfl (nI_add k 1) rfl rfl rfl ?_
          refine Wp_goto d_M_isSo_129 ?_
          have e9 : soS S p (nI t) (k + 1) = false := by
            rw [so_1 ea eb (by omega) (by omega) hb, hg]
            rfl
          exact ih (k + 1) false (li (nI a)) (li (nI b)) (li ((nI t) - (nI (tld S b)))) (by omega) e9
        ·
          have g50 : (pN S) ≤ b := n_nlt h50 (by omega) (by omega)
          refine Wp_iload d_M_isSo_53 rfl ?_
          refine Wp_iload_n d_M_isSo_55 rfl ?_
          refine Wp_icmp_ne d_M_isSo_56 (fun h56 => ?_) (fun h56 => ?_)
          ·
            have g56 : b ≠ p := n_ne h56 (by omega) (by omega)
            refine Wp_iinc (z := nI (k + 1)) (ls2 := [lr 33, li (nI p), li (nI t), li 0, li (nI (k + 1)), li (nI a), li (nI b), u7]) d_M_isSo_126 rfl (nI_add k 1) rfl rfl rfl ?_
            refine Wp_goto d_M_isSo_129 ?_
            have e9 : soS S p (nI t) (k + 1) = false := (so_3 ea eb (by omega) (by omega) hb ha (by omega)).trans hg
            exact ih (k + 1) false (li (nI a)) (li (nI b)) u7 (by omega) e9
          ·
            have g56 : b = p := n_eq h56 (by omega) (by omega)
            refine Wp_iload d_M_isSo_59 rfl ?_
            refine Wp_aload_n d_M_isSo_61 rfl ?_
            refine Wp_getf d_M_isSo_62 fd_M_125 rfl rfl rfl ?_
            refine Wp_eqi (x2 := nI (pN S)) hM.2.1 ?_
            refine Wp_icmp_ge d_M_isSo_65 (fun h65 => ?_) (fun h65 => ?_)
            ·
              have g65 : (pN S) ≤ a := n_le h65 (by omega) (by omega)
              refine Wp_iinc (z := nI (k + 1)) (ls2 := [lr 33, li (nI p), li (nI t), li 0, li (nI (k + 1)), li (nI a), li (nI b), u7]) d_M_isSo_126 rfl (nI_add k 1) rfl rfl rfl ?_
              refine Wp_goto d_M_isSo_129 ?_
              have e9 : soS S p (nI t) (k + 1) = false := (so_3 ea eb (by omega) (by omega) hb ha (by omega)).trans hg
              exact ih (k + 1) false (li (nI a)) (li (nI b)) u7 (by omega) e9
            ·
              have g65 : a < (pN S) := n_nle h65 (by omega) (by omega)
              refine Wp_iload_n d_M_isSo_68 rfl ?_
              refine Wp_aload_n d_M_isSo_69 rfl ?_
              refine Wp_iload d_M_isSo_70 rfl ?_
              refine Wp_iload_n d_M_isSo_72 rfl ?_
              refine Wp_icmp_ne d_M_isSo_73 (fun q => absurd h41 q) (fun _ => ?_)
              refine Wp_iload d_M_isSo_76 rfl ?_
              refine Wp_goto d_M_isSo_78 ?_
              refine Wp_ivv_d (o := 33) (As := [vi (nI b)]) d_M_isSo_83 ln_M_154 mk_M_toldOf rfl rfl rfl rfl rfl (by omega) (t_M_toldOf E (d - 1) (by omega) w S hM hV b (by omega)) ?_
              refine Wp_isub d_M_isSo_86 ?_
              refine Wp_istore (ls2 := [lr 33, li (nI p), li (nI t), li 0, li (nI k), li (nI a), li (nI b), li ((nI t) - (nI (tld S b)))]) d_M_isSo_87 rfl rfl rfl ?_
              refine Wp_iload_n d_M_isSo_89 rfl ?_
              refine Wp_if_eq d_M_isSo_90 (fun _ => ?_) (fun q => absurd (by decide) q)
              refine Wp_iconst (x := 0) d_M_isSo_124 (by decide) ?_
              refine Wp_istore_n (ls2 := [lr 33, li (nI p), li (nI t), li 0, li (nI k), li (nI a), li (nI b), li ((nI t) - (nI (tld S b)))]) d_M_isSo_125 rfl rfl rfl ?_
              refine Wp_iinc (z := nI (k + 1)) (ls2 := [lr 33, li (nI p), li (nI t), li 0, li (nI (k + 1)), li (nI a), li (nI b), li ((nI t) - (nI (tld S b)))]) d_M_isSo_126 rfl (nI_add k 1) rfl rfl rfl ?_
              refine Wp_goto d_M_isSo_129 ?_
              have e9 : soS S p (nI t) (k + 1) = false := by
                rw [so_1 ea eb (by omega) (by omega) hb, hg]
                rfl
              exact ih (k + 1) false (li (nI a)) (li (nI b)) (li ((nI t) - (nI (tld S b)))) (by omega) e9
    · show Wp E d m_M_isSo 5 [lr 33, li (nI p), li (nI t), li 1, li (nI k), u5, u6, u7] [] w _
      refine Wp_iload d_M_isSo_5 rfl ?_
      refine Wp_aload_n d_M_isSo_7 rfl ?_
      refine Wp_getf d_M_isSo_8 fd_M_263 rfl rfl rfl ?_
      refine Wp_eqi (x2 := S 33 28) hM.1.2.2.1 ?_
      refine Wp_eqi (x2 := nI (sSn S)) (VM_sn hV).1 ?_
      refine Wp_icmp_ge d_M_isSo_11 (fun q => absurd (n_le q (by omega) (by omega)) (by omega)) (fun h11 => ?_)
      refine Wp_aload_n d_M_isSo_14 rfl ?_
      refine Wp_getr d_M_isSo_15 fd_M_80 rfl rfl rfl ?_
      refine Wp_iconst (x := 3) d_M_isSo_18 (by decide) ?_
      refine Wp_iload d_M_isSo_19 rfl ?_
      refine Wp_imul d_M_isSo_21 ?_
      refine Wp_eqi (x2 := nI (3 * k)) (pk_mul 3 k) ?_
      refine Wp_ialdN (j := (3 * k)) d_M_isSo_22 rfl rfl rfl rfl (by omega) ?_
      refine Wp_eqi (x2 := S 57 (3 * k)) (congrFun (hM.1.r 57) _) ?_
      refine Wp_eqi (x2 := nI a) ea ?_
      refine Wp_istore (ls2 := [lr 33, li (nI p), li (nI t), li 1, li (nI k), li (nI a), u6, u7]) d_M_isSo_23 rfl rfl rfl ?_
      refine Wp_aload_n d_M_isSo_25 rfl ?_
      refine Wp_getr d_M_isSo_26 fd_M_80 rfl rfl rfl ?_
      refine Wp_iconst (x := 3) d_M_isSo_29 (by decide) ?_
      refine Wp_iload d_M_isSo_30 rfl ?_
      refine Wp_imul d_M_isSo_32 ?_
      refine Wp_eqi (x2 := nI (3 * k)) (pk_mul 3 k) ?_
      refine Wp_iconst (x := 1) d_M_isSo_33 (by decide) ?_
      refine Wp_iadd d_M_isSo_34 ?_
      refine Wp_eqi (x2 := nI ((3 * k) + 1)) (nI_add (3 * k) 1) ?_
      refine Wp_ialdN (j := ((3 * k) + 1)) d_M_isSo_35 rfl rfl rfl rfl (by omega) ?_
      refine Wp_eqi (x2 := S 57 ((3 * k) + 1)) (congrFun (hM.1.r 57) _) ?_
      refine Wp_eqi (x2 := nI b) eb ?_
      refine Wp_istore (ls2 := [lr 33, li (nI p), li (nI t), li 1, li (nI k), li (nI a), li (nI b), u7]) d_M_isSo_36 rfl rfl rfl ?_
      refine Wp_iload d_M_isSo_38 rfl ?_
      refine Wp_iload_n d_M_isSo_40 rfl ?_
      refine Wp_icmp_ne d_M_isSo_41 (fun h41 => ?_) (fun h41 => ?_)
      ·
        have g41 : a ≠ p := n_ne h41 (by omega) (by omega)
        refine Wp_iload d_M_isSo_53 rfl ?_
        refine Wp_iload_n d_M_isSo_55 rfl ?_
        refine Wp_icmp_ne d_M_isSo_56 (fun h56 => ?_) (fun h56 => ?_)
        ·
          have g56 : b ≠ p := n_ne h56 (by omega) (by omega)
          refine Wp_iinc (z := nI (k + 1)) (ls2 := [lr 33, li (nI p), li (nI t), li 1, li (nI (k + 1)), li (nI a), li (nI b), u7]) d_M_isSo_126 rfl (nI_add k 1) rfl rfl rfl ?_
          refine Wp_goto d_M_isSo_129 ?_
          have e9 : soS S p (nI t) (k + 1) = true := (so_3 ea eb (by omega) (by omega) hb ha (by omega)).trans hg
          exact ih (k + 1) true (li (nI a)) (li (nI b)) u7 (by omega) e9
        ·
          have g56 : b = p := n_eq h56 (by omega) (by omega)
          refine Wp_iload d_M_isSo_59 rfl ?_
          refine Wp_aload_n d_M_isSo_61 rfl ?_
          refine Wp_getf d_M_isSo_62 fd_M_125 rfl rfl rfl ?_
          refine Wp_eqi (x2 := nI (pN S)) hM.2.1 ?_
          refine Wp_icmp_ge d_M_isSo_65 (fun h65 => ?_) (fun h65 => ?_)
          ·
            have g65 : (pN S) ≤ a := n_le h65 (by omega) (by omega)
            refine Wp_iinc (z := nI (k + 1)) (ls2 := [lr 33, li (nI p), li (nI t), li 1, li (nI (k + 1)), li (nI a), li (nI b), u7]) d_M_isSo_126 rfl (nI_add k 1) rfl rfl rfl ?_
            refine Wp_goto d_M_isSo_129 ?_
            have e9 : soS S p (nI t) (k + 1) = true := (so_3 ea eb (by omega) (by omega) hb ha (by omega)).trans hg
            exact ih (k + 1) true (li (nI a)) (li (nI b)) u7 (by omega) e9
          ·
            have g65 : a < (pN S) := n_nle h65 (by omega) (by omega)
            refine Wp_iload_n d_M_isSo_68 rfl ?_
            refine Wp_aload_n d_M_isSo_69 rfl ?_
            refine Wp_iload d_M_isSo_70 rfl ?_
            refine Wp_iload_n d_M_isSo_72 rfl ?_
            refine Wp_icmp_ne d_M_isSo_73 (fun _ => ?_) (fun q => absurd q h41)
            refine Wp_iload d_M_isSo_81 rfl ?_
            refine Wp_ivv_d (o := 33) (As := [vi (nI a)]) d_M_isSo_83 ln_M_154 mk_M_toldOf rfl rfl rfl rfl rfl (by omega) (t_M_toldOf E (d - 1) (by omega) w S hM hV a (by omega)) ?_
            refine Wp_isub d_M_isSo_86 ?_
            refine Wp_istore (ls2 := [lr 33, li (nI p), li (nI t), li 1, li (nI k), li (nI a), li (nI b), li ((nI t) - (nI (tld S a)))]) d_M_isSo_87 rfl rfl rfl ?_
            refine Wp_iload_n d_M_isSo_89 rfl ?_
            refine Wp_if_eq d_M_isSo_90 (fun q => absurd q (by decide)) (fun _ => ?_)
            refine Wp_iload d_M_isSo_93 rfl ?_
            refine Wp_if_ge d_M_isSo_95 (fun h95 => ?_) (fun h95 => ?_)
            ·
              have g95 : 0 ≤ ((nI t) - (nI (tld S a))).toInt := i_le h95
              refine Wp_iload d_M_isSo_104 rfl ?_
              refine Wp_aload_n d_M_isSo_106 rfl ?_
              refine Wp_getr d_M_isSo_107 fd_M_80 rfl rfl rfl ?_
              refine Wp_iconst (x := 3) d_M_isSo_110 (by decide) ?_
              refine Wp_iload d_M_isSo_111 rfl ?_
              refine Wp_imul d_M_isSo_113 ?_
              refine Wp_eqi (x2 := nI (3 * k)) (pk_mul 3 k) ?_
              refine Wp_iconst (x := 2) d_M_isSo_114 (by decide) ?_
              refine Wp_iadd d_M_isSo_115 ?_
              refine Wp_eqi (x2 := nI ((3 * k) + 2)) (nI_add (3 * k) 2) ?_
              refine Wp_ialdN (j := ((3 * k) + 2)) d_M_isSo_116 rfl rfl rfl rfl (by omega) ?_
              refine Wp_eqi (x2 := S 57 ((3 * k) + 2)) (congrFun (hM.1.r 57) _) ?_
              refine Wp_icmp_ne d_M_isSo_117 (fun h117 => ?_) (fun h117 => ?_)
              ·
                have g117 : ((nI t) - (nI (tld S a))).toInt ≠ (S 57 ((3 * k) + 2)).toInt := i_ne h117
                refine Wp_iconst (x := 0) d_M_isSo_124 (by decide) ?_
                refine Wp_istore_n (ls2 := [lr 33, li (nI p), li (nI t), li 0, li (nI k), li (nI a), li (nI b), li ((nI t) - (nI (tld S a)))]) d_M_isSo_125 rfl rfl rfl ?_
                refine Wp_iinc (z := nI (k + 1)) (ls2 := [lr 33, li (nI p), li (nI t), li 0, li (nI (k + 1)), li (nI a), li (nI b), li ((nI t) - (nI (tld S a)))]) d_M_isSo_126 rfl (nI_add k 1) rfl rfl rfl ?_
                refine Wp_goto d_M_isSo_129 ?_
                have e9 : soS S p (nI t) (k + 1) = false := by
                  rw [so_2 ea eb (by omega) (by omega) (by omega) hb ha, hg]
                  rw [Bool.true_and, if_neg (by have := i_le h95; have e0 : Int32.toInt 0 = 0 := rfl; omega)]
                  exact decide_eq_false h117
                exact ih (k + 1) false (li (nI a)) (li (nI b)) (li ((nI t) - (nI (tld S a)))) (by omega) e9
              ·
                refine Wp_iconst (x := 1) d_M_isSo_120 (by decide) ?_
                refine Wp_goto d_M_isSo_121 ?_
                refine Wp_istore_n (ls2 := [lr 33, li (nI p), li (nI t), li 1, li (nI k), li (nI a), li (nI b), li ((nI t) - (nI (tld S a)))]) d_M_isSo_125 rfl rfl rfl ?_
                refine Wp_iinc (z := nI (k + 1)) (ls2 := [lr 33, li (nI p), li (nI t), li 1, li (nI (k + 1)), li (nI a), li (nI b), li ((nI t) - (nI (tld S a)))]) d_M_isSo_126 rfl (nI_add k 1) rfl rfl rfl ?_
                refine Wp_goto d_M_isSo_129 ?_
                have e9 : soS S p (nI t) (k + 1) = true := by
                  rw [so_2 ea eb (by omega) (by omega) (by omega) hb ha, hg]
                  rw [Bool.true_and, if_neg (by have := i_le h95; have e0 : Int32.toInt 0 = 0 := rfl; omega)]
                  exact decide_eq_true h117
                exact ih (k + 1) true (li (nI a)) (li (nI b)) (li ((nI t) - (nI (tld S a)))) (by omega) e9
            ·
              have g95 : ((nI t) - (nI (tld S a))).toInt < 0 := i_nle h95
              refine Wp_iload d_M_isSo_98 rfl ?_
              refine Wp_ineg d_M_isSo_100 ?_
              refine Wp_goto d_M_isSo_101 ?_
              refine Wp_aload_n d_M_isSo_106 rfl ?_
              refine Wp_getr d_M_isSo_107 fd_M_80 rfl rfl rfl ?_
              refine Wp_iconst (x := 3) d_M_isSo_110 (by decide) ?_
              refine Wp_iload d_M_isSo_111 rfl ?_
              refine Wp_imul d_M_isSo_113 ?_
              refine Wp_eqi (x2 := nI (3 * k)) (pk_mul 3 k) ?_
              refine Wp_iconst (x := 2) d_M_isSo_114 (by decide) ?_
              refine Wp_iadd d_M_isSo_115 ?_
              refine Wp_eqi (x2 := nI ((3 * k) + 2)) (nI_add (3 * k) 2) ?_
              refine Wp_ialdN (j := ((3 * k) + 2)) d_M_isSo_116 rfl rfl rfl rfl (by omega) ?_
              refine Wp_eqi (x2 := S 57 ((3 * k) + 2)) (congrFun (hM.1.r 57) _) ?_
              refine Wp_icmp_ne d_M_isSo_117 (fun h117 => ?_) (fun h117 => ?_)
              ·
                have g117 : (-((nI t) - (nI (tld S a)))).toInt ≠ (S 57 ((3 * k) + 2)).toInt := i_ne h117
                refine Wp_iconst (x := 0) d_M_isSo_124 (by decide) ?_
                refine Wp_istore_n (ls2 := [lr 33, li (nI p), li (nI t), li 0, li (nI k), li (nI a), li (nI b), li ((nI t) - (nI (tld S a)))]) d_M_isSo_125 rfl rfl rfl ?_
                refine Wp_iinc (z := nI (k + 1)) (ls2 := [lr 33, li (nI p), li (nI t), li 0, li (nI (k + 1)), li (nI a), li (nI b), li ((nI t) - (nI (tld S a)))]) d_M_isSo_126 rfl (nI_add k 1) rfl rfl rfl ?_
                refine Wp_goto d_M_isSo_129 ?_
                have e9 : soS S p (nI t) (k + 1) = false := by
                  rw [so_2 ea eb (by omega) (by omega) (by omega) hb ha, hg]
                  rw [Bool.true_and, if_pos (by have := i_nle h95; have e0 : Int32.toInt 0 = 0 := rfl; omega)]
                  exact decide_eq_false h117
                exact ih (k + 1) false (li (nI a)) (li (nI b)) (li ((nI t) - (nI (tld S a)))) (by omega) e9
              ·
                refine Wp_iconst (x := 1) d_M_isSo_120 (by decide) ?_
                refine Wp_goto d_M_isSo_121 ?_
                refine Wp_istore_n (ls2 := [lr 33, li (nI p), li (nI t), li 1, li (nI k), li (nI a), li (nI b), li ((nI t) - (nI (tld S a)))]) d_M_isSo_125 rfl rfl rfl ?_
                refine Wp_iinc (z := nI (k + 1)) (ls2 := [lr 33, li (nI p), li (nI t), li 1, li (nI (k + 1)), li (nI a), li (nI b), li ((nI t) - (nI (tld S a)))]) d_M_isSo_126 rfl (nI_add k 1) rfl rfl rfl ?_
                refine Wp_goto d_M_isSo_129 ?_
                have e9 : soS S p (nI t) (k + 1) = true := by
                  rw [so_2 ea eb (by omega) (by omega) (by omega) hb ha, hg]
                  rw [Bool.true_and, if_pos (by have := i_nle h95; have e0 : Int32.toInt 0 = 0 := rfl; omega)]
                  exact decide_eq_true h117
                exact ih (k + 1) true (li (nI a)) (li (nI b)) (li ((nI t) - (nI (tld S a)))) (by omega) e9
      ·
        have g41 : a = p := n_eq h41 (by omega) (by omega)
        refine Wp_iload d_M_isSo_44 rfl ?_
        refine Wp_aload_n d_M_isSo_46 rfl ?_
        refine Wp_getf d_M_isSo_47 fd_M_125 rfl rfl rfl ?_
        refine Wp_eqi (x2 := nI (pN S)) hM.2.1 ?_
        refine Wp_icmp_lt d_M_isSo_50 (fun h50 => ?_) (fun h50 => ?_)
        ·
          have g50 : b < (pN S) := n_lt h50 (by omega) (by omega)
          refine Wp_iload_n d_M_isSo_68 rfl ?_
          refine Wp_aload_n d_M_isSo_69 rfl ?_
          refine Wp_iload d_M_isSo_70 rfl ?_
          refine Wp_iload_n d_M_isSo_72 rfl ?_
          refine Wp_icmp_ne d_M_isSo_73 (fun q => absurd h41 q) (fun _ => ?_)
          refine Wp_iload d_M_isSo_76 rfl ?_
          refine Wp_goto d_M_isSo_78 ?_
          refine Wp_ivv_d (o := 33) (As := [vi (nI b)]) d_M_isSo_83 ln_M_154 mk_M_toldOf rfl rfl rfl rfl rfl (by omega) (t_M_toldOf E (d - 1) (by omega) w S hM hV b (by omega)) ?_
          refine Wp_isub d_M_isSo_86 ?_
          refine Wp_istore (ls2 := [lr 33, li (nI p), li (nI t), li 1, li (nI k), li (nI a), li (nI b), li ((nI t) - (nI (tld S b)))]) d_M_isSo_87 rfl rfl rfl ?_
          refine Wp_iload_n d_M_isSo_89 rfl ?_
          refine Wp_if_eq d_M_isSo_90 (fun q => absurd q (by decide)) (fun _ => ?_)
          refine Wp_iload d_M_isSo_93 rfl ?_
          refine Wp_if_ge d_M_isSo_95 (fun h95 => ?_) (fun h95 => ?_)
          ·
            have g95 : 0 ≤ ((nI t) - (nI (tld S b))).toInt := i_le h95
            refine Wp_iload d_M_isSo_104 rfl ?_
            refine Wp_aload_n d_M_isSo_106 rfl ?_
            refine Wp_getr d_M_isSo_107 fd_M_80 rfl rfl rfl ?_
            refine Wp_iconst (x := 3) d_M_isSo_110 (by decide) ?_
            refine Wp_iload d_M_isSo_111 rfl ?_
            refine Wp_imul d_M_isSo_113 ?_
            refine Wp_eqi (x2 := nI (3 * k)) (pk_mul 3 k) ?_
            refine Wp_iconst (x := 2) d_M_isSo_114 (by decide) ?_
            refine Wp_iadd d_M_isSo_115 ?_
            refine Wp_eqi (x2 := nI ((3 * k) + 2)) (nI_add (3 * k) 2) ?_
            refine Wp_ialdN (j := ((3 * k) + 2)) d_M_isSo_116 rfl rfl rfl rfl (by omega) ?_
            refine Wp_eqi (x2 := S 57 ((3 * k) + 2)) (congrFun (hM.1.r 57) _) ?_
            refine Wp_icmp_ne d_M_isSo_117 (fun h117 => ?_) (fun h117 => ?_)
            ·
              have g117 : ((nI t) - (nI (tld S b))).toInt ≠ (S 57 ((3 * k) + 2)).toInt := i_ne h117
              refine Wp_iconst (x := 0) d_M_isSo_124 (by decide) ?_
              refine Wp_istore_n (ls2 := [lr 33, li (nI p), li (nI t), li 0, li (nI k), li (nI a), li (nI b), li ((nI t) - (nI (tld S b)))]) d_M_isSo_125 rfl rfl rfl ?_
              refine Wp_iinc (z := nI (k + 1)) (ls2 := [lr 33, li (nI p), li (nI t), li 0, li (nI (k + 1)), li (nI a), li (nI b), li ((nI t) - (nI (tld S b)))]) d_M_isSo_126 rfl (nI_add k 1) rfl rfl rfl ?_
              refine Wp_goto d_M_isSo_129 ?_
              have e9 : soS S p (nI t) (k + 1) = false := by
                rw [so_1 ea eb (by omega) (by omega) hb, hg]
                rw [Bool.true_and, if_neg (by have := i_le h95; have e0 : Int32.toInt 0 = 0 := rfl; omega)]
                exact decide_eq_false h117
              exact ih (k + 1) false (li (nI a)) (li (nI b)) (li ((nI t) - (nI (tld S b)))) (by omega) e9
            ·
              refine Wp_iconst (x := 1) d_M_isSo_120 (by decide) ?_
              refine Wp_goto d_M_isSo_121 ?_
              refine Wp_istore_n (ls2 := [lr 33, li (nI p), li (nI t), li 1, li (nI k), li (nI a), li (nI b), li ((nI t) - (nI (tld S b)))]) d_M_isSo_125 rfl rfl rfl ?_
              refine Wp_iinc (z := nI (k + 1)) (ls2 := [lr 33, li (nI p), li (nI t), li 1, li (nI (k + 1)), li (nI a), li (nI b), li ((nI t) - (nI (tld S b)))]) d_M_isSo_126 rfl (nI_add k 1) rfl rfl rfl ?_
              refine Wp_goto d_M_isSo_129 ?_
              have e9 : soS S p (nI t) (k + 1) = true := by
                rw [so_1 ea eb (by omega) (by omega) hb, hg]
                rw [Bool.true_and, if_neg (by have := i_le h95; have e0 : Int32.toInt 0 = 0 := rfl; omega)]
                exact decide_eq_true h117
              exact ih (k + 1) true (li (nI a)) (li (nI b)) (li ((nI t) - (nI (tld S b)))) (by omega) e9
          ·
            have g95 : ((nI t) - (nI (tld S b))).toInt < 0 := i_nle h95
            refine Wp_iload d_M_isSo_98 rfl ?_
            refine Wp_ineg d_M_isSo_100 ?_
            refine Wp_goto d_M_isSo_101 ?_
            refine Wp_aload_n d_M_isSo_106 rfl ?_
            refine Wp_getr d_M_isSo_107 fd_M_80 rfl rfl rfl ?_
            refine Wp_iconst (x := 3) d_M_isSo_110 (by decide) ?_
            refine Wp_iload d_M_isSo_111 rfl ?_
            refine Wp_imul d_M_isSo_113 ?_
            refine Wp_eqi (x2 := nI (3 * k)) (pk_mul 3 k) ?_
            refine Wp_iconst (x := 2) d_M_isSo_114 (by decide) ?_
            refine Wp_iadd d_M_isSo_115 ?_
            refine Wp_eqi (x2 := nI ((3 * k) + 2)) (nI_add (3 * k) 2) ?_
            refine Wp_ialdN (j := ((3 * k) + 2)) d_M_isSo_116 rfl rfl rfl rfl (by omega) ?_
            refine Wp_eqi (x2 := S 57 ((3 * k) + 2)) (congrFun (hM.1.r 57) _) ?_
            refine Wp_icmp_ne d_M_isSo_117 (fun h117 => ?_) (fun h117 => ?_)
            ·
              have g117 : (-((nI t) - (nI (tld S b)))).toInt ≠ (S 57 ((3 * k) + 2)).toInt := i_ne h117
              refine Wp_iconst (x := 0) d_M_isSo_124 (by decide) ?_
              refine Wp_istore_n (ls2 := [lr 33, li (nI p), li (nI t), li 0, li (nI k), li (nI a), li (nI b), li ((nI t) - (nI (tld S b)))]) d_M_isSo_125 rfl rfl rfl ?_
              refine Wp_iinc (z := nI (k + 1)) (ls2 := [lr 33, li (nI p), li (nI t), li 0, li (nI (k + 1)), li (nI a), li (nI b), li ((nI t) - (nI (tld S b)))]) d_M_isSo_126 rfl (nI_add k 1) rfl rfl rfl ?_
              refine Wp_goto d_M_isSo_129 ?_
              have e9 : soS S p (nI t) (k + 1) = false := by
                rw [so_1 ea eb (by omega) (by omega) hb, hg]
                rw [Bool.true_and, if_pos (by have := i_nle h95; have e0 : Int32.toInt 0 = 0 := rfl; omega)]
                exact decide_eq_false h117
              exact ih (k + 1) false (li (nI a)) (li (nI b)) (li ((nI t) - (nI (tld S b)))) (by omega) e9
            ·
              refine Wp_iconst (x := 1) d_M_isSo_120 (by decide) ?_
              refine Wp_goto d_M_isSo_121 ?_
              refine Wp_istore_n (ls2 := [lr 33, li (nI p), li (nI t), li 1, li (nI k), li (nI a), li (nI b), li ((nI t) - (nI (tld S b)))]) d_M_isSo_125 rfl rfl rfl ?_
              refine Wp_iinc (z := nI (k + 1)) (ls2 := [lr 33, li (nI p), li (nI t), li 1, li (nI (k + 1)), li (nI a), li (nI b), li ((nI t) - (nI (tld S b)))]) d_M_isSo_126 rfl (nI_add k 1) rfl rfl rfl ?_
              refine Wp_goto d_M_isSo_129 ?_
              have e9 : soS S p (nI t) (k + 1) = true := by
                rw [so_1 ea eb (by omega) (by omega) hb, hg]
                rw [Bool.true_and, if_pos (by have := i_nle h95; have e0 : Int32.toInt 0 = 0 := rfl; omega)]
                exact decide_eq_true h117
              exact ih (k + 1) true (li (nI a)) (li (nI b)) (li ((nI t) - (nI (tld S b)))) (by omega) e9
        ·
          have g50 : (pN S) ≤ b := n_nlt h50 (by omega) (by omega)
          refine Wp_iload d_M_isSo_53 rfl ?_
          refine Wp_iload_n d_M_isSo_55 rfl ?_
          refine Wp_icmp_ne d_M_isSo_56 (fun h56 => ?_) (fun h56 => ?_)
          ·
            have g56 : b ≠ p := n_ne h56 (by omega) (by omega)
            refine Wp_iinc (z := nI (k + 1)) (ls2 := [lr 33, li (nI p), li (nI t), li 1, li (nI (k + 1)), li (nI a), li (nI b), u7]) d_M_isSo_126 rfl (nI_add k 1) rfl rfl rfl ?_
            refine Wp_goto d_M_isSo_129 ?_
            have e9 : soS S p (nI t) (k + 1) = true := (so_3 ea eb (by omega) (by omega) hb ha (by omega)).trans hg
            exact ih (k + 1) true (li (nI a)) (li (nI b)) u7 (by omega) e9
          ·
            have g56 : b = p := n_eq h56 (by omega) (by omega)
            refine Wp_iload d_M_isSo_59 rfl ?_
            refine Wp_aload_n d_M_isSo_61 rfl ?_
            refine Wp_getf d_M_isSo_62 fd_M_125 rfl rfl rfl ?_
            refine Wp_eqi (x2 := nI (pN S)) hM.2.1 ?_
            refine Wp_icmp_ge d_M_isSo_65 (fun h65 => ?_) (fun h65 => ?_)
            ·
              have g65 : (pN S) ≤ a := n_le h65 (by omega) (by omega)
              refine Wp_iinc (z := nI (k + 1)) (ls2 := [lr 33, li (nI p), li (nI t), li 1, li (nI (k + 1)), li (nI a), li (nI b), u7]) d_M_isSo_126 rfl (nI_add k 1) rfl rfl rfl ?_
              refine Wp_goto d_M_isSo_129 ?_
              have e9 : soS S p (nI t) (k + 1) = true := (so_3 ea eb (by omega) (by omega) hb ha (by omega)).trans hg
              exact ih (k + 1) true (li (nI a)) (li (nI b)) u7 (by omega) e9
            ·
              have g65 : a < (pN S) := n_nle h65 (by omega) (by omega)
              refine Wp_iload_n d_M_isSo_68 rfl ?_
              refine Wp_aload_n d_M_isSo_69 rfl ?_
              refine Wp_iload d_M_isSo_70 rfl ?_
              refine Wp_iload_n d_M_isSo_72 rfl ?_
              refine Wp_icmp_ne d_M_isSo_73 (fun q => absurd h41 q) (fun _ => ?_)
              refine Wp_iload d_M_isSo_76 rfl ?_
              refine Wp_goto d_M_isSo_78 ?_
              refine Wp_ivv_d (o := 33) (As := [vi (nI b)]) d_M_isSo_83 ln_M_154 mk_M_toldOf rfl rfl rfl rfl rfl (by omega) (t_M_toldOf E (d - 1) (by omega) w S hM hV b (by omega)) ?_
              refine Wp_isub d_M_isSo_86 ?_
              refine Wp_istore (ls2 := [lr 33, li (nI p), li (nI t), li 1, li (nI k), li (nI a), li (nI b), li ((nI t) - (nI (tld S b)))]) d_M_isSo_87 rfl rfl rfl ?_
              refine Wp_iload_n d_M_isSo_89 rfl ?_
              refine Wp_if_eq d_M_isSo_90 (fun q => absurd q (by decide)) (fun _ => ?_)
              refine Wp_iload d_M_isSo_93 rfl ?_
              refine Wp_if_ge d_M_isSo_95 (fun h95 => ?_) (fun h95 => ?_)
              ·
                have g95 : 0 ≤ ((nI t) - (nI (tld S b))).toInt := i_le h95
                refine Wp_iload d_M_isSo_104 rfl ?_
                refine Wp_aload_n d_M_isSo_106 rfl ?_
                refine Wp_getr d_M_isSo_107 fd_M_80 rfl rfl rfl ?_
                refine Wp_iconst (x := 3) d_M_isSo_110 (by decide) ?_
                refine Wp_iload d_M_isSo_111 rfl ?_
                refine Wp_imul d_M_isSo_113 ?_
                refine Wp_eqi (x2 := nI (3 * k)) (pk_mul 3 k) ?_
                refine Wp_iconst (x := 2) d_M_isSo_114 (by decide) ?_
                refine Wp_iadd d_M_isSo_115 ?_
                refine Wp_eqi (x2 := nI ((3 * k) + 2)) (nI_add (3 * k) 2) ?_
                refine Wp_ialdN (j := ((3 * k) + 2)) d_M_isSo_116 rfl rfl rfl rfl (by omega) ?_
                refine Wp_eqi (x2 := S 57 ((3 * k) + 2)) (congrFun (hM.1.r 57) _) ?_
                refine Wp_icmp_ne d_M_isSo_117 (fun h117 => ?_) (fun h117 => ?_)
                ·
                  have g117 : ((nI t) - (nI (tld S b))).toInt ≠ (S 57 ((3 * k) + 2)).toInt := i_ne h117
                  refine Wp_iconst (x := 0) d_M_isSo_124 (by decide) ?_
                  refine Wp_istore_n (ls2 := [lr 33, li (nI p), li (nI t), li 0, li (nI k), li (nI a), li (nI b), li ((nI t) - (nI (tld S b)))]) d_M_isSo_125 rfl rfl rfl ?_
                  refine Wp_iinc (z := nI (k + 1)) (ls2 := [lr 33, li (nI p), li (nI t), li 0, li (nI (k + 1)), li (nI a), li (nI b), li ((nI t) - (nI (tld S b)))]) d_M_isSo_126 rfl (nI_add k 1) rfl rfl rfl ?_
                  refine Wp_goto d_M_isSo_129 ?_
                  have e9 : soS S p (nI t) (k + 1) = false := by
                    rw [so_1 ea eb (by omega) (by omega) hb, hg]
                    rw [Bool.true_and, if_neg (by have := i_le h95; have e0 : Int32.toInt 0 = 0 := rfl; omega)]
                    exact decide_eq_false h117
                  exact ih (k + 1) false (li (nI a)) (li (nI b)) (li ((nI t) - (nI (tld S b)))) (by omega) e9
                ·
                  refine Wp_iconst (x := 1) d_M_isSo_120 (by decide) ?_
                  refine Wp_goto d_M_isSo_121 ?_
                  refine Wp_istore_n (ls2 := [lr 33, li (nI p), li (nI t), li 1, li (nI k), li (nI a), li (nI b), li ((nI t) - (nI (tld S b)))]) d_M_isSo_125 rfl rfl rfl ?_
                  refine Wp_iinc (z := nI (k + 1)) (ls2 := [lr 33, li (nI p), li (nI t), li 1, li (nI (k + 1)), li (nI a), li (nI b), li ((nI t) - (nI (tld S b)))]) d_M_isSo_126 rfl (nI_add k 1) rfl rfl rfl ?_
                  refine Wp_goto d_M_isSo_129 ?_
                  have e9 : soS S p (nI t) (k + 1) = true := by
                    rw [so_1 ea eb (by omega) (by omega) hb, hg]
                    rw [Bool.true_and, if_neg (by have := i_le h95; have e0 : Int32.toInt 0 = 0 := rfl; omega)]
                    exact decide_eq_true h117
                  exact ih (k + 1) true (li (nI a)) (li (nI b)) (li ((nI t) - (nI (tld S b)))) (by omega) e9
              ·
                have g95 : ((nI t) - (nI (tld S b))).toInt < 0 := i_nle h95
                refine Wp_iload d_M_isSo_98 rfl ?_
                refine Wp_ineg d_M_isSo_100 ?_
                refine Wp_goto d_M_isSo_101 ?_
                refine Wp_aload_n d_M_isSo_106 rfl ?_
                refine Wp_getr d_M_isSo_107 fd_M_80 rfl rfl rfl ?_
                refine Wp_iconst (x := 3) d_M_isSo_110 (by decide) ?_
                refine Wp_iload d_M_isSo_111 rfl ?_
                refine Wp_imul d_M_isSo_113 ?_
                refine Wp_eqi (x2 := nI (3 * k)) (pk_mul 3 k) ?_
                refine Wp_iconst (x := 2) d_M_isSo_114 (by decide) ?_
                refine Wp_iadd d_M_isSo_115 ?_
                refine Wp_eqi (x2 := nI ((3 * k) + 2)) (nI_add (3 * k) 2) ?_
                refine Wp_ialdN (j := ((3 * k) + 2)) d_M_isSo_116 rfl rfl rfl rfl (by omega) ?_
                refine Wp_eqi (x2 := S 57 ((3 * k) + 2)) (congrFun (hM.1.r 57) _) ?_
                refine Wp_icmp_ne d_M_isSo_117 (fun h117 => ?_) (fun h117 => ?_)
                ·
                  have g117 : (-((nI t) - (nI (tld S b)))).toInt ≠ (S 57 ((3 * k) + 2)).toInt := i_ne h117
                  refine Wp_iconst (x := 0) d_M_isSo_124 (by decide) ?_
                  refine Wp_istore_n (ls2 := [lr 33, li (nI p), li (nI t), li 0, li (nI k), li (nI a), li (nI b), li ((nI t) - (nI (tld S b)))]) d_M_isSo_125 rfl rfl rfl ?_
                  refine Wp_iinc (z := nI (k + 1)) (ls2 := [lr 33, li (nI p), li (nI t), li 0, li (nI (k + 1)), li (nI a), li (nI b), li ((nI t) - (nI (tld S b)))]) d_M_isSo_126 rfl (nI_add k 1) rfl rfl rfl ?_
                  refine Wp_goto d_M_isSo_129 ?_
                  have e9 : soS S p (nI t) (k + 1) = false := by
                    rw [so_1 ea eb (by omega) (by omega) hb, hg]
                    rw [Bool.true_and, if_pos (by have := i_nle h95; have e0 : Int32.toInt 0 = 0 := rfl; omega)]
                    exact decide_eq_false h117
                  exact ih (k + 1) false (li (nI a)) (li (nI b)) (li ((nI t) - (nI (tld S b)))) (by omega) e9
                ·
                  refine Wp_iconst (x := 1) d_M_isSo_120 (by decide) ?_
                  refine Wp_goto d_M_isSo_121 ?_
                  refine Wp_istore_n (ls2 := [lr 33, li (nI p), li (nI t), li 1, li (nI k), li (nI a), li (nI b), li ((nI t) - (nI (tld S b)))]) d_M_isSo_125 rfl rfl rfl ?_
                  refine Wp_iinc (z := nI (k + 1)) (ls2 := [lr 33, li (nI p), li (nI t), li 1, li (nI (k + 1)), li (nI a), li (nI b), li ((nI t) - (nI (tld S b)))]) d_M_isSo_126 rfl (nI_add k 1) rfl rfl rfl ?_
                  refine Wp_goto d_M_isSo_129 ?_
                  have e9 : soS S p (nI t) (k + 1) = true := by
                    rw [so_1 ea eb (by omega) (by omega) hb, hg]
                    rw [Bool.true_and, if_pos (by have := i_nle h95; have e0 : Int32.toInt 0 = 0 := rfl; omega)]
                    exact decide_eq_true h117
                  exact ih (k + 1) true (li (nI a)) (li (nI b)) (li ((nI t) - (nI (tld S b)))) (by omega) e9
set_option maxRecDepth 100000 in
set_option maxHeartbeats 4000000 in
theorem t_M_isSo (E : mE) (d : Nat) (hd : 1 ≤ d) (w : mw) (S : mw) (hM : MP w S) (hV : VM S) (p t : Nat) (hp : p < pN S) (ht : t ≤ 150) : Tb E d m_M_isSo [vr 33, vi (nI p), vi (nI t)] w (soS S p (nI t) (sSn S) = true) := by
  refine ⟨Nat.le_of_ble_eq_true rfl, ?_⟩
  show Wp E d m_M_isSo 0 [lr 33, li (nI p), li (nI t), lo, lo, lo, lo, lo] [] w _
  refine Wp_iconst (x := 1) d_M_isSo_0 (by decide) ?_
  refine Wp_istore_n (ls2 := [lr 33, li (nI p), li (nI t), li 1, lo, lo, lo, lo]) d_M_isSo_1 rfl rfl rfl ?_
  refine Wp_iconst (x := 0) d_M_isSo_2 (by decide) ?_
  refine Wp_istore (ls2 := [lr 33, li (nI p), li (nI t), li 1, li 0, lo, lo, lo]) d_M_isSo_3 rfl rfl rfl ?_
  exact l_M_so E d (by omega) w S hM hV p t hp ht (sSn S) 0 true none none none (by omega) rfl
set_option maxRecDepth 100000 in
set_option maxHeartbeats 4000000 in
theorem l_M_ag (E : mE) (d : Nat) (hd : 2 ≤ d) (w S : mw) (hM : MP w S) (hV : VM S) (p : Nat) (hp : p < pN S) (c : Int32) : ∀ (i a : Nat) (u7 : Option mv), a + i = 121 → Wp E d m_M_agesOf 11 [lr 33, li (nI p), li c, li (nI (agN S p a).1), li (agN S p a).2.1, li (agN S p a).2.2, li (nI a), u7] [] w (mPi (fun r w1 => r = agesR S p c ∧ w1 = w)) := by
  intro i
  have hp10 := (pN_ok S).1
  induction i with
  | zero =>
    intro a u7 hk
    have hin : a = 121 := by omega
    subst hin
    refine Wp_iload d_M_agesOf_11 rfl ?_
    refine Wp_bipush (x := 120) d_M_agesOf_13 (by decide) ?_
    refine Wp_icmp_gt d_M_agesOf_15 (fun h15 => ?_) (fun q => absurd (n_nlt (a := 120) q (by omega) (by omega)) (by omega))
    refine Wp_iload_n d_M_agesOf_83 rfl ?_
    refine Wp_if_ne d_M_agesOf_84 (fun h84 => ?_) (fun h84 => ?_)
    ·
      refine Wp_iload_n d_M_agesOf_91 rfl ?_
      refine Wp_iconst (x := 1) d_M_agesOf_92 (by decide) ?_
      refine Wp_icmp_ne d_M_agesOf_93 (fun h93 => ?_) (fun h93 => ?_)
      ·
        refine Wp_iload d_M_agesOf_101 rfl ?_
        refine Wp_reti (ty := .int) d_M_agesOf_103 rfl rfl ?_
        refine ⟨?_, rfl⟩
        unfold agesR; rw [if_neg h84, if_neg h93]
      ·
        refine Wp_iload d_M_agesOf_96 rfl ?_
        refine Wp_goto d_M_agesOf_98 ?_
        refine Wp_reti (ty := .int) d_M_agesOf_103 rfl rfl ?_
        refine ⟨?_, rfl⟩
        unfold agesR; rw [if_neg h84, if_pos h93]
    ·
      refine Wp_iload_n d_M_agesOf_87 rfl ?_
      refine Wp_goto d_M_agesOf_88 ?_
      refine Wp_reti (ty := .int) d_M_agesOf_103 rfl rfl ?_
      refine ⟨?_, rfl⟩
      unfold agesR; rw [if_pos h84]
  | succ i ih =>
    intro a u7 hk
    have hl := VM_li hV p (by omega)
    have hle := agN_le (S := S) (p := p) a
    have ht : tdA S p a ≤ 150 := by unfold tdA; omega
    refine Wp_iload d_M_agesOf_11 rfl ?_
    refine Wp_bipush (x := 120) d_M_agesOf_13 (by decide) ?_
    refine Wp_icmp_gt d_M_agesOf_15 (fun q => absurd (n_lt (a := 120) q (by omega) (by omega)) (by omega)) (fun h15 => ?_)
    refine Wp_iload d_M_agesOf_18 rfl ?_
    refine Wp_aload_n d_M_agesOf_20 rfl ?_
    refine Wp_getr d_M_agesOf_21 fd_M_34 rfl rfl rfl ?_
    refine Wp_iload_n d_M_agesOf_24 rfl ?_
    refine Wp_ialdN (j := p) d_M_agesOf_25 rfl rfl rfl rfl (by omega) ?_
    refine Wp_eqi (x2 := S 42 p) (congrFun (hM.1.r 42) _) ?_
    refine Wp_iadd d_M_agesOf_26 ?_
    refine Wp_if_ge d_M_agesOf_27 (fun h27 => ?_) (fun h27 => ?_)
    ·
      have g27 : 0 ≤ ((nI a) + (S 42 p)).toInt := i_le h27
      refine Wp_iload d_M_agesOf_34 rfl ?_
      refine Wp_aload_n d_M_agesOf_36 rfl ?_
      refine Wp_getr d_M_agesOf_37 fd_M_34 rfl rfl rfl ?_
      refine Wp_iload_n d_M_agesOf_40 rfl ?_
      refine Wp_ialdN (j := p) d_M_agesOf_41 rfl rfl rfl rfl (by omega) ?_
      refine Wp_eqi (x2 := S 42 p) (congrFun (hM.1.r 42) _) ?_
      refine Wp_iadd d_M_agesOf_42 ?_
      refine Wp_eqi (x2 := nI (tdA S p a)) (tdA_1 hV (by omega) (by omega) g27) ?_
      refine Wp_istore (ls2 := [lr 33, li (nI p), li c, li (nI (agN S p a).1), li (agN S p a).2.1, li (agN S p a).2.2, li (nI a), li (nI (tdA S p a))]) d_M_agesOf_43 rfl rfl rfl ?_
      refine Wp_aload_n d_M_agesOf_45 rfl ?_
      refine Wp_iload_n d_M_agesOf_46 rfl ?_
      refine Wp_iload d_M_agesOf_47 rfl ?_
      refine Wp_ivv_b (o := 33) (As := [vi (nI p), vi (nI (tdA S p a))]) d_M_agesOf_49 ln_M_266 mk_M_isSo rfl rfl rfl rfl rfl (by omega) (t_M_isSo E (d - 1) (by omega) w S hM hV p (tdA S p a) (by omega) (by omega)) (fun g49 => ?_) (fun g49 => ?_)
      ·
        refine Wp_if_eq d_M_agesOf_52 (fun q => absurd q (by decide)) (fun _ => ?_)
        refine Wp_iinc (z := nI ((agN S p a).1 + 1)) (ls2 := [lr 33, li (nI p), li c, li (nI ((agN S p a).1 + 1)), li (agN S p a).2.1, li (agN S p a).2.2, li (nI a), li (nI (tdA S p a))]) d_M_agesOf_55 rfl (nI_add (agN S p a).1 1) rfl rfl rfl ?_
        refine Wp_iload d_M_agesOf_58 rfl ?_
        refine Wp_iconst (x := (-1)) d_M_agesOf_60 (by decide) ?_
        refine Wp_icmp_ne d_M_agesOf_61 (fun h61 => ?_) (fun h61 => ?_)
        ·
          refine Wp_iload d_M_agesOf_69 rfl ?_
          refine Wp_istore (ls2 := [lr 33, li (nI p), li c, li (nI ((agN S p a).1 + 1)), li (agN S p a).2.1, li (agN S p a).2.2, li (nI a), li (nI (tdA S p a))]) d_M_agesOf_71 rfl rfl rfl ?_
          refine Wp_iload d_M_agesOf_73 rfl ?_
          refine Wp_istore (ls2 := [lr 33, li (nI p), li c, li (nI ((agN S p a).1 + 1)), li (agN S p a).2.1, li (nI a), li (nI a), li (nI (tdA S p a))]) d_M_agesOf_75 rfl rfl rfl ?_
          refine Wp_iinc (z := nI (a + 1)) (ls2 := [lr 33, li (nI p), li c, li (nI ((agN S p a).1 + 1)), li (agN S p a).2.1, li (nI a), li (nI (a + 1)), li (nI (tdA S p a))]) d_M_agesOf_77 rfl (nI_add a 1) rfl rfl rfl ?_
          refine Wp_goto d_M_agesOf_80 ?_
          have e9 : agN S p (a + 1) = ((agN S p a).1 + 1, (agN S p a).2.1, nI a) := (agN_1 g49).trans (by rw [if_neg h61])
          have h9 := ih (a + 1) (li (nI (tdA S p a))) (by omega)
          rw [e9] at h9
          exact h9
        ·
          refine Wp_iload d_M_agesOf_64 rfl ?_
          refine Wp_goto d_M_agesOf_66 ?_
          refine Wp_istore (ls2 := [lr 33, li (nI p), li c, li (nI ((agN S p a).1 + 1)), li (nI a), li (agN S p a).2.2, li (nI a), li (nI (tdA S p a))]) d_M_agesOf_71 rfl rfl rfl ?_
          refine Wp_iload d_M_agesOf_73 rfl ?_
          refine Wp_istore (ls2 := [lr 33, li (nI p), li c, li (nI ((agN S p a).1 + 1)), li (nI a), li (nI a), li (nI a), li (nI (tdA S p a))]) d_M_agesOf_75 rfl rfl rfl ?_
          refine Wp_iinc (z := nI (a + 1)) (ls2 := [lr 33, li (nI p), li c, li (nI ((agN S p a).1 + 1)), li (nI a), li (nI a), li (nI (a + 1)), li (nI (tdA S p a))]) d_M_agesOf_77 rfl (nI_add a 1) rfl rfl rfl ?_
          refine Wp_goto d_M_agesOf_80 ?_
          have e9 : agN S p (a + 1) = ((agN S p a).1 + 1, nI a, nI a) := (agN_1 g49).trans (by rw [if_pos h61])
          have h9 := ih (a + 1) (li (nI (tdA S p a))) (by omega)
          rw [e9] at h9
          exact h9
      ·
        refine Wp_if_eq d_M_agesOf_52 (fun _ => ?_) (fun q => absurd (by decide) q)
        refine Wp_iinc (z := nI (a + 1)) (ls2 := [lr 33, li (nI p), li c, li (nI (agN S p a).1), li (agN S p a).2.1, li (agN S p a).2.2, li (nI (a + 1)), li (nI (tdA S p a))]) d_M_agesOf_77 rfl (nI_add a 1) rfl rfl rfl ?_
        refine Wp_goto d_M_agesOf_80 ?_
        have e9 : agN S p (a + 1) = agN S p a := agN_0 g49
        have h9 := ih (a + 1) (li (nI (tdA S p a))) (by omega)
        rw [e9] at h9
        exact h9
    ·
      have g27 : ((nI a) + (S 42 p)).toInt < 0 := i_nle h27
      refine Wp_iconst (x := 0) d_M_agesOf_30 (by decide) ?_
      refine Wp_goto d_M_agesOf_31 ?_
      refine Wp_istore (ls2 := [lr 33, li (nI p), li c, li (nI (agN S p a).1), li (agN S p a).2.1, li (agN S p a).2.2, li (nI a), li 0]) d_M_agesOf_43 rfl rfl rfl ?_
      refine Wp_aload_n d_M_agesOf_45 rfl ?_
      refine Wp_iload_n d_M_agesOf_46 rfl ?_
      refine Wp_iload d_M_agesOf_47 rfl ?_
      refine Wp_ivv_b (o := 33) (As := [vi (nI p), vi 0]) d_M_agesOf_49 ln_M_266 mk_M_isSo rfl rfl rfl rfl rfl (by omega) (t_M_isSo E (d - 1) (by omega) w S hM hV p 0 (by omega) (by omega)) (fun g49 => ?_) (fun g49 => ?_)
      ·
        refine Wp_if_eq d_M_agesOf_52 (fun q => absurd q (by decide)) (fun _ => ?_)
        refine Wp_iinc (z := nI ((agN S p a).1 + 1)) (ls2 := [lr 33, li (nI p), li c, li (nI ((agN S p a).1 + 1)), li (agN S p a).2.1, li (agN S p a).2.2, li (nI a), li 0]) d_M_agesOf_55 rfl (nI_add (agN S p a).1 1) rfl rfl rfl ?_
        refine Wp_iload d_M_agesOf_58 rfl ?_
        refine Wp_iconst (x := (-1)) d_M_agesOf_60 (by decide) ?_
        refine Wp_icmp_ne d_M_agesOf_61 (fun h61 => ?_) (fun h61 => ?_)
        ·
          refine Wp_iload d_M_agesOf_69 rfl ?_
          refine Wp_istore (ls2 := [lr 33, li (nI p), li c, li (nI ((agN S p a).1 + 1)), li (agN S p a).2.1, li (agN S p a).2.2, li (nI a), li 0]) d_M_agesOf_71 rfl rfl rfl ?_
          refine Wp_iload d_M_agesOf_73 rfl ?_
          refine Wp_istore (ls2 := [lr 33, li (nI p), li c, li (nI ((agN S p a).1 + 1)), li (agN S p a).2.1, li (nI a), li (nI a), li 0]) d_M_agesOf_75 rfl rfl rfl ?_
          refine Wp_iinc (z := nI (a + 1)) (ls2 := [lr 33, li (nI p), li c, li (nI ((agN S p a).1 + 1)), li (agN S p a).2.1, li (nI a), li (nI (a + 1)), li 0]) d_M_agesOf_77 rfl (nI_add a 1) rfl rfl rfl ?_
          refine Wp_goto d_M_agesOf_80 ?_
          have e0 := tdA_0 hV (by omega) (by omega) g27
          have e9 : agN S p (a + 1) = ((agN S p a).1 + 1, (agN S p a).2.1, nI a) := (agN_1 (by rw [e0]; exact g49)).trans (by rw [if_neg h61])
          have h9 := ih (a + 1) (li 0) (by omega)
          rw [e9] at h9
          exact h9
        ·
          refine Wp_iload d_M_agesOf_64 rfl ?_
          refine Wp_goto d_M_agesOf_66 ?_
          refine Wp_istore (ls2 := [lr 33, li (nI p), li c, li (nI ((agN S p a).1 + 1)), li (nI a), li (agN S p a).2.2, li (nI a), li 0]) d_M_agesOf_71 rfl rfl rfl ?_
          refine Wp_iload d_M_agesOf_73 rfl ?_
          refine Wp_istore (ls2 := [lr 33, li (nI p), li c, li (nI ((agN S p a).1 + 1)), li (nI a), li (nI a), li (nI a), li 0]) d_M_agesOf_75 rfl rfl rfl ?_
          refine Wp_iinc (z := nI (a + 1)) (ls2 := [lr 33, li (nI p), li c, li (nI ((agN S p a).1 + 1)), li (nI a), li (nI a), li (nI (a + 1)), li 0]) d_M_agesOf_77 rfl (nI_add a 1) rfl rfl rfl ?_
          refine Wp_goto d_M_agesOf_80 ?_
          have e0 := tdA_0 hV (by omega) (by omega) g27
          have e9 : agN S p (a + 1) = ((agN S p a).1 + 1, nI a, nI a) := (agN_1 (by rw [e0]; exact g49)).trans (by rw [if_pos h61])
          have h9 := ih (a + 1) (li 0) (by omega)
          rw [e9] at h9
          exact h9
      ·
        refine Wp_if_eq d_M_agesOf_52 (fun _ => ?_) (fun q => absurd (by decide) q)
        refine Wp_iinc (z := nI (a + 1)) (ls2 := [lr 33, li (nI p), li c, li (nI (agN S p a).1), li (agN S p a).2.1, li (agN S p a).2.2, li (nI (a + 1)), li 0]) d_M_agesOf_77 rfl (nI_add a 1) rfl rfl rfl ?_
        refine Wp_goto d_M_agesOf_80 ?_
        have e0 := tdA_0 hV (by omega) (by omega) g27
        have e9 : agN S p (a + 1) = agN S p a := agN_0 (by rw [e0]; exact g49)
        have h9 := ih (a + 1) (li 0) (by omega)
        rw [e9] at h9
        exact h9
set_option maxRecDepth 100000 in
set_option maxHeartbeats 4000000 in
theorem t_M_agesOf (E : mE) (d : Nat) (hd : 2 ≤ d) (w : mw) (S : mw) (hM : MP w S) (hV : VM S) (p : Nat) (hp : p < pN S) (c : Int32) : Td E d m_M_agesOf [vr 33, vi (nI p), vi c] w (agesR S p c) w := by
  refine ⟨Nat.le_of_ble_eq_true rfl, ?_⟩
  show Wp E d m_M_agesOf 0 [lr 33, li (nI p), li c, lo, lo, lo, lo, lo] [] w _
  refine Wp_iconst (x := 0) d_M_agesOf_0 (by decide) ?_
  refine Wp_istore_n (ls2 := [lr 33, li (nI p), li c, li 0, lo, lo, lo, lo]) d_M_agesOf_1 rfl rfl rfl ?_
  refine Wp_iconst (x := (-1)) d_M_agesOf_2 (by decide) ?_
  refine Wp_istore (ls2 := [lr 33, li (nI p), li c, li 0, li (-1), lo, lo, lo]) d_M_agesOf_3 rfl rfl rfl ?_
  refine Wp_iconst (x := (-1)) d_M_agesOf_5 (by decide) ?_
  refine Wp_istore (ls2 := [lr 33, li (nI p), li c, li 0, li (-1), li (-1), lo, lo]) d_M_agesOf_6 rfl rfl rfl ?_
  refine Wp_iconst (x := 0) d_M_agesOf_8 (by decide) ?_
  refine Wp_istore (ls2 := [lr 33, li (nI p), li c, li 0, li (-1), li (-1), li 0, lo]) d_M_agesOf_9 rfl rfl rfl ?_
  exact l_M_ag E d (by omega) w S hM hV p hp c 121 0 none (by omega)
set_option maxRecDepth 100000 in
set_option maxHeartbeats 4000000 in
theorem t_M_ages (E : mE) (d : Nat) (hd : 4 ≤ d) (w : mw) (S : mw) (hM : MM w S) (hV : VM S) (p a : Int32) : Ti E d m_M_ages [vr 33, vi p, vi a] w (fun r w1 => r = rAges S p a ∧ MP w1 S ∧ frF w w1) := by
  refine ⟨Nat.le_of_ble_eq_true rfl, ?_⟩
  show Wp E d m_M_ages 0 [lr 33, li p, li a] [] w _
  have hp10 := (pN_ok S).1
  have hlt := two10 hp10
  have hwl := wh_lt S
  have hwe := wh_1 S
  refine Wp_aload_n d_M_ages_0 rfl ?_
  refine Wp_iload_n d_M_ages_1 rfl ?_
  refine Wp_ivv_i (o := 33) (As := [vi p]) d_M_ages_2 ln_M_148 mk_M_isPerson rfl rfl rfl rfl rfl (by omega) (t_M_isPerson E (d - 1) (by omega) w S hM hV p) (fun r2 w2 c2 => ?_)
  obtain ⟨gP, hP, fP⟩ := c2
  rcases gP with ⟨j2, gP⟩ | ⟨j2, gP⟩
  ·
    rw [j2]
    obtain ⟨j, hj, rfl⟩ : ∃ j, j < pN S ∧ p = nI j := i_nIof gP.1 gP.2
    refine Wp_if_eq d_M_ages_5 (fun q => absurd q (by decide)) (fun _ => ?_)
    refine Wp_iload_n d_M_ages_8 rfl ?_
    refine Wp_i2l d_M_ages_9 ?_
    refine Wp_lconst (x := 0) d_M_ages_10 (by decide) ?_
    refine Wp_ldc2 (x := 2) d_M_ages_11 kl_M_102 ?_
    refine Wp_ivs_b (As := [vl a.toInt64, vl 0, vl 2]) d_M_ages_14 ln_M_88 mk_M_in rfl rfl rfl (by omega) (t_M_inI E (d - 1) w2 (x := a) (lo := 0) (hi := 2) (by decide) (by decide)) (fun g14 => ?_) (fun g14 => ?_)
    ·
      refine Wp_if_eq d_M_ages_17 (fun q => absurd q (by decide)) (fun _ => ?_)
      refine Wp_aload_n d_M_ages_20 rfl ?_
      refine Wp_iload_n d_M_ages_21 rfl ?_
      refine Wp_iload_n d_M_ages_22 rfl ?_
      refine Wp_ivv_d (o := 33) (As := [vi (nI j), vi a]) d_M_ages_23 ln_M_269 mk_M_agesOf rfl rfl rfl rfl rfl (by omega) (t_M_agesOf E (d - 1) (by omega) w2 S hP hV j (by omega) a) ?_
      refine Wp_goto d_M_ages_26 ?_
      refine Wp_reti (ty := .int) d_M_ages_31 rfl rfl ?_
      exact ⟨by unfold rAges; rw [if_pos ⟨gP, g14⟩, cl (by omega)], hP, fP⟩
    ·
      refine Wp_if_eq d_M_ages_17 (fun _ => ?_) (fun q => absurd (by decide) q)
      refine Wp_bipush (x := (-2)) d_M_ages_29 (by decide) ?_
      refine Wp_reti (ty := .int) d_M_ages_31 rfl rfl ?_
      exact ⟨by unfold rAges; rw [if_neg (by first | exact fun q => gP q.1 | exact fun q => g14 q.2)], hP, fP⟩
  ·
    rw [j2]
    refine Wp_if_eq d_M_ages_5 (fun _ => ?_) (fun q => absurd (by decide) q)
    refine Wp_bipush (x := (-2)) d_M_ages_29 (by decide) ?_
    refine Wp_reti (ty := .int) d_M_ages_31 rfl rfl ?_
    exact ⟨by unfold rAges; rw [if_neg (by first | exact fun q => gP q.1 | exact fun q => g14 q.2)], hP, fP⟩
