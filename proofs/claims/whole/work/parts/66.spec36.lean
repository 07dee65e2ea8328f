theorem smD_wh {S S2 : mw} (h : smD S S2) : wh S2 = wh S := by unfold wh; rw [smD_pN h]
theorem smD_bwS {S S2 : mw} (h : smD S S2) (p : Nat) : ∀ f x, bwS S2 p f x = bwS S p f x
  | 0, _ => rfl
  | f + 1, x => by unfold bwS; rw [smD_DC h, smD_bwS h p f]
theorem smD_with {S S2 : mw} (h : smD S S2) (p : Nat) : withR S2 p = withR S p := by
  unfold withR bwR; rw [smD_DC h, smD_wh h, smD_bwS h]
theorem mxb_cg {f g : Nat → Nat} {b : Nat} : ∀ n, (∀ i, i < n → b.testBit i = true → f i = g i) → mxb f b n = mxb g b n
  | 0, _ => rfl
  | n + 1, h => by
    have ih := mxb_cg (f := f) (g := g) (b := b) n (fun i hi => h i (by omega))
    unfold mxb
    split
    · next hb => rw [ih, h n (by omega) hb]
    · exact ih
theorem mnb_cg {f g : Nat → Nat} {b M : Nat} : ∀ n, (∀ i, i < n → b.testBit i = true → f i = g i) → mnb f b M n = mnb g b M n
  | 0, _ => rfl
  | n + 1, h => by
    have ih := mnb_cg (f := f) (g := g) (b := b) (M := M) n (fun i hi => h i (by omega))
    unfold mnb
    split
    · next hb => rw [ih, h n (by omega) hb]
    · exact ih
theorem e42 {S : mw} {j : Nat} {v : Int32} : ∀ k, k ≠ 42 → mU S 42 j v k = S k := fun _ hk => mU_ne hk
theorem tld_42 {S : mw} {j i : Nat} {v : Int32} (h : i ≠ j) : tld (mU S 42 j v) i = tld S i := by
  unfold tld; rw [pA_42, mU_at_ne h]
theorem ok_42 {S : mw} {j : Nat} {v : Int32} : okS (mU S 42 j v) = okS S := by
  have h1 : ∀ b n, okw (mU S 42 j v) b n = okw S b n := fun b n => by
    induction n with
    | zero => rfl
    | succ n ih => unfold okw sWo; rw [ih, e42 44 (by decide)]
  funext b; unfold okS sSet; rw [e42 43 (by decide), h1]
theorem need_42 {S : mw} {j : Nat} {v : Int32} : needS (mU S 42 j v) = needS S := by
  have h : sMu (mU S 42 j v) = sMu S := by funext i; unfold sMu; rw [e42 45 (by decide)]
  funext b; unfold needS; rw [h]
theorem cost_42 {S : mw} {j b : Nat} {v : Int32} (hb : b.testBit j = false) : costS (mU S 42 j v) b = costS S b := by
  have ht : ∀ i, i < 10 → b.testBit i = true → tld (mU S 42 j v) i = tld S i := fun i _ hi => tld_42 (fun q => by rw [q, hb] at hi; exact absurd hi (by decide))
  have h1 : sSet (mU S 42 j v) = sSet S := by funext i; unfold sSet; rw [e42 43 (by decide)]
  have h2 : sWt (mU S 42 j v) = sWt S := by funext i; unfold sWt; rw [e42 40 (by decide)]
  have h3 : sHr (mU S 42 j v) = sHr S := by funext i; unfold sHr; rw [e42 41 (by decide)]
  unfold costS fareS
  rw [h1, h2, h3, mxb_cg 10 ht, mnb_cg 10 ht]
theorem tryS_42 {S : mw} {j : Nat} {v : Int32} {al s b : Nat} {T T2 : Nat → dv} {a : dv} (hb : b.testBit j = false) (hT : T (ann s b) = T2 (ann s b)) : tryS (mU S 42 j v) al T s b a = tryS S al T2 s b a := by
  unfold tryS
  rw [ok_42, need_42, cost_42 hb, hT]
theorem cmpn_0 {S : mw} {al s : Nat} {T : Nat → dv} : cmpn S al T s 0 = (100000000, 0, 0, 0) := rfl
theorem DC_42 {S : mw} {j : Nat} {v : Int32} (n : Nat) : ∀ x, x < n → x < 1024 → x.testBit j = false → DC (mU S 42 j v) x = DC S x := by
  induction n with
  | zero => intro x h; exact absurd h (Nat.not_lt_zero _)
  | succ n ihn =>
    intro x h hx hj
    rw [DC_eq hx, DC_eq hx]
    unfold comp
    by_cases h0 : x = 0
    · rw [if_pos h0, if_pos h0]
    · rw [if_neg h0, if_neg h0]
      have key : ∀ k, k ≤ lst x + 1 → cmpn (mU S 42 j v) x (DC (mU S 42 j v)) x k = cmpn S x (DC S) x k := by
        intro k
        induction k with
        | zero => intro _; rw [cmpn_0, cmpn_0]
        | succ k ih =>
          intro hk
          obtain ⟨g1, g2, g3, g4, g5, -, -⟩ := sbs_good (s := x) (k := k) hx (by omega) (by omega)
          have hbj : (sbs x k).testBit j = false := by
            cases q : (sbs x k).testBit j
            · rfl
            · have := sub_tb g1 q; rw [hj] at this; exact absurd this (by decide)
          have hd := ihn (ann x (sbs x k)) (by omega) (by omega) (by rw [tb_ann, hj]; rfl)
          have hk1 : k ≤ lst x + 1 := Nat.le_of_succ_le hk
          have hi := ih hk1
          show tryS (mU S 42 j v) x (DC (mU S 42 j v)) x (sbs x k) (cmpn (mU S 42 j v) x (DC (mU S 42 j v)) x k) = tryS S x (DC S) x (sbs x k) (cmpn S x (DC S) x k)
          rw [hi]
          exact tryS_42 hbj hd
      exact key _ (Nat.le_refl _)
theorem back_42 {S : mw} {j : Nat} {v : Int32} : mU (mU S 42 j v) 42 j (S 42 j) = S := by rw [mU_mU]; exact mU_same rfl
theorem Fe_42 {S : mw} {j : Nat} {v : Int32} (hV : VM S) : ∀ n x, x < n → x < 2 ^ pN S → Fe S x → Fe (mU S 42 j v) x
  | 0, x, h, _, _ => absurd h (Nat.not_lt_zero _)
  | n + 1, x, h, hx, hF => by
    have hp := (pN_ok S).1
    have h10 := two10 hp
    by_cases h0 : x = 0
    · subst h0; exact Fe_0
    · obtain ⟨c, i, hl, c1, c2, c3, c4, c5, c6⟩ := Fe_to hV hx (by omega) hF
      exact Fe_of (by omega) (by omega) hl c1 c2 (by rw [ok_42]; exact c3) (by rw [need_42]; exact c4) (Fe_42 hV n _ (by omega) (by omega) c5)
theorem ls_bw {S : mw} (hV : VM S) {j k : Nat} (hj : j < pN S) (hk : k < 61) (hF : Fe S (wh S)) : bwR (lieS S j k) j ≠ 0 := by
  have hl := lieV_ok k hk
  have hV2 : VM (lieS S j k) := VM_42 hV hl.1 hl.2
  have hp : pN (lieS S j k) = pN S := pN_42
  intro q
  have h1 := (bwR_0 hV2 (by rw [hp]; exact hj)).mp q
  have h2 : Fe (lieS S j k) (wh S) := Fe_42 hV (wh S + 1) (wh S) (by omega) (wh_lt S) hF
  rw [show wh (lieS S j k) = wh S from wh_42] at h1
  exact h2 h1
theorem ls_pos {S : mw} (hV : VM S) {j : Nat} (hj : j < pN S) (hF : Fe S (wh S)) : ∀ k, k < 61 → (lsN S j (k + 1)).2.2 ≠ 0 := by
  intro k
  induction k with
  | zero =>
    intro hk
    have hb := ls_bw hV hj hk hF
    have hl := lieV_ok 0 hk
    have hV2 : VM (lieS S j 0) := VM_42 hV hl.1 hl.2
    have hp : pN (lieS S j 0) = pN S := pN_42
    have hbo := bwR_ok hV2 (p := j) (by rw [hp]; exact hj) hb
    have h10 := two10 (pN_ok (lieS S j 0)).1
    rw [lsN, if_pos ⟨hb, Or.inl rfl⟩]
    exact popc_pos _ (by omega) hbo.2.2.2.1
  | succ k ih =>
    intro hk
    have hb := ls_bw hV hj hk hF
    have hl := lieV_ok (k + 1) hk
    have hV2 : VM (lieS S j (k + 1)) := VM_42 hV hl.1 hl.2
    have hp : pN (lieS S j (k + 1)) = pN S := pN_42
    have hbo := bwR_ok hV2 (p := j) (by rw [hp]; exact hj) hb
    have h10 := two10 (pN_ok (lieS S j (k + 1))).1
    rw [lsN]
    split
    · exact popc_pos _ (by omega) hbo.2.2.2.1
    · exact ih (by omega)
def prI (S : mw) (b : Nat) : Int32 := if okS S b = true then nI (costS S b) else -1
abbrev hot (S : mw) (x : Nat) : Prop := x = wh S ∨ x.testBit 0 = false
/-- the tables while one person's lie is tried -/
def LI (w0 w S : mw) (j : Nat) (v : Int32) : Prop := PR w (mU S 42 j v) ∧ CDb w (mU S 42 j v) (2 ^ pN S) ∧ (∀ x, x < 2 ^ pN S → hot S x → w 15 x = enD (DC (mU S 42 j v) x) ∧ w 16 x = m1v (DC (mU S 42 j v) x).2.2.2) ∧ (∀ x, ¬ hot S x → w 15 x = w0 15 x ∧ w 16 x = w0 16 x) ∧ w 13 0 = w0 13 0 ∧ fr [4, 7, 13, 15, 16] w0 w
theorem LI_0 {w S : mw} {j : Nat} (hC : CC w S) (z : w 12 6 = 0) : LI w w S j (S 42 j) := by
  have e : mU S 42 j (S 42 j) = S := mU_same rfl
  unfold LI
  rw [e]
  exact ⟨CC_PR hC, (FT_tab hC z).2.1, fun x hx _ => ⟨FT_15 hC z x hx, FT_16 hC z x hx⟩, fun _ _ => ⟨rfl, rfl⟩, rfl, fr_rf⟩
theorem PR_lie {w S : mw} {j : Nat} {v u : Int32} (h : PR w (mU S 42 j v)) (hj : j < 10) (h1 : -30 ≤ u.toInt) (h2 : u.toInt ≤ 30) : PR (mU (mU w 7 j u) 4 j (pos0 (w 3 j + u))) (mU S 42 j u) := by
  obtain ⟨⟨a1, a2, a3, a4, a5⟩, ⟨b1, b2, b3⟩, c1, c2, c3⟩ := h
  have f : ∀ k, k ≠ 7 → k ≠ 4 → mU (mU w 7 j u) 4 j (pos0 (w 3 j + u)) k = w k := fun k a b => by rw [mU_ne b, mU_ne a]
  have g : ∀ k, k ≠ 42 → mU S 42 j u k = mU S 42 j v k := fun k hk => by rw [e42 k hk, e42 k hk]
  refine ⟨⟨?_, ?_, ?_, ?_, ?_⟩, ⟨?_, ?_, fun i hi => ?_⟩, ?_, ?_, ?_⟩
  · rw [f 2 (by decide) (by decide), g 38 (by decide)]; exact a1
  · rw [f 5 (by decide) (by decide), g 40 (by decide)]; exact a2
  · rw [f 6 (by decide) (by decide), g 41 (by decide)]; exact a3
  · rw [mU_ne (by decide)]
    funext i
    rw [mU_k, mU_k, a4, mU_k]
    by_cases hij : i = j
    · rw [if_pos hij, if_pos hij]
    · rw [if_neg hij, if_neg hij, if_neg hij]
  · rw [f 1 (by decide) (by decide), g 33 (by decide)]; exact a5
  · rw [f 1 (by decide) (by decide), pN_42]; rw [pN_42] at b1; exact b1
  · rw [f 1 (by decide) (by decide)]
    have e : pF (mU S 42 j u) = pF (mU S 42 j v) := by unfold pF sLen; rw [g 38 (by decide), g 33 (by decide)]
    rw [e]; exact b2
  · rw [pN_42] at hi
    have ha := (pN_ok S).2 i hi
    have c := b3 i (by rw [pN_42]; exact hi)
    rw [pA_42] at c
    rw [f 3 (by decide) (by decide), pA_42]
    refine ⟨c.1, ?_⟩
    rw [mU_k]
    by_cases hij : i = j
    · subst hij
      rw [if_pos rfl, c.1]
      unfold tld
      rw [pA_42, mU_at]
      exact mx0 (by omega) h1 h2
    · rw [if_neg hij, mU_ne (by decide), tld_42 hij]
      rw [tld_42 hij] at c
      exact c.2
  · rw [f 9 (by decide) (by decide), g 43 (by decide)]; exact c1
  · rw [f 10 (by decide) (by decide), g 44 (by decide)]; exact c2
  · rw [f 11 (by decide) (by decide), g 45 (by decide)]; exact c3
theorem low_no {x j : Nat} (h : x < 2 ^ j) : x.testBit j = false := Nat.testBit_lt_two_pow h
theorem hot_left {S : mw} (hV : VM S) {s k j : Nat} (hs : s < 2 ^ pN S) (h0 : 0 < s) (hk : k ≤ lst s) (hp0 : 0 < pN S) (hh : hot S s) : (ann s (sbs s k)).testBit 0 = false := by
  have hp := (pN_ok S).1
  have h10 := two10 hp
  rcases hh with hh | hh
  · obtain ⟨i, hi, e1, e2, e3⟩ := low_ex s (by omega) h0
    have hi0 : i = 0 := by
      apply Classical.byContradiction
      intro q
      have := e3 0 (by omega)
      rw [hh, wh_tb hp0] at this
      exact absurd this (by decide)
    have : (sbs s k).testBit 0 = true := by
      unfold sbs
      rw [Nat.testBit_or, e1, hi0]; rfl
    rw [tb_ann, this]; simp
  · rw [tb_ann, hh]; rfl
