/-- states that agree in all that days rest on -/
def smD (S S2 : mw) : Prop := (S2 38 = S 38 ∧ S2 33 6 = S 33 6 ∧ S2 42 = S 42) ∧ (S2 40 = S 40 ∧ S2 41 = S 41) ∧ S2 43 = S 43 ∧ S2 44 = S 44 ∧ S2 45 = S 45
theorem ppl_eq {S S2 : mw} (h38 : S2 38 = S 38) (h6 : S2 33 6 = S 33 6) (h42 : S2 42 = S 42) : pN S2 = pN S ∧ pF S2 = pF S ∧ (∀ i, pA S2 i = pA S i) ∧ ∀ i, tld S2 i = tld S i := by
  have hl : sLen S2 = sLen S := by unfold sLen; rw [h6]
  have ha : ∀ i, pA S2 i = pA S i := fun i => by unfold pA; rw [h38, hl]
  refine ⟨by unfold pN; rw [h38, hl], by unfold pF; rw [h38, hl], ha, fun i => by unfold tld; rw [ha i, h42]⟩
theorem CPp_eq {w w1 S S2 : mw} (h : CPp w S) (h1 : w1 1 7 = w 1 7) (h8 : w1 1 8 = w 1 8) (h3 : w1 3 = w 3) (h4 : w1 4 = w 4) (e : pN S2 = pN S ∧ pF S2 = pF S ∧ (∀ i, pA S2 i = pA S i) ∧ ∀ i, tld S2 i = tld S i) : CPp w1 S2 := by
  obtain ⟨e1, e2, e3, e4⟩ := e
  refine ⟨by rw [e1, h1]; exact h.1, by rw [e2, h8]; exact h.2.1, fun i hi => ?_⟩
  rw [e1] at hi
  rw [e3, e4, h3, h4]
  exact h.2.2 i hi
theorem smD_tld {S S2 : mw} (h : smD S S2) : tld S2 = tld S := funext (ppl_eq h.1.1 h.1.2.1 h.1.2.2).2.2.2
theorem smD_set {S S2 : mw} (h : smD S S2) : sSet S2 = sSet S := by funext i; unfold sSet; rw [h.2.2.1]
theorem smD_wt {S S2 : mw} (h : smD S S2) : sWt S2 = sWt S := by funext i; unfold sWt; rw [h.2.1.1]
theorem smD_hr {S S2 : mw} (h : smD S S2) : sHr S2 = sHr S := by funext i; unfold sHr; rw [h.2.1.2]
theorem smD_wo {S S2 : mw} (h : smD S S2) : sWo S2 = sWo S := by funext i; unfold sWo; rw [h.2.2.2.1]
theorem smD_mu {S S2 : mw} (h : smD S S2) : sMu S2 = sMu S := by funext i; unfold sMu; rw [h.2.2.2.2]
theorem smD_fare {S S2 : mw} (h : smD S S2) : fareS S2 = fareS S := by
  funext b; unfold fareS; rw [smD_tld h, smD_set h, smD_wt h]
theorem smD_cost {S S2 : mw} (h : smD S S2) : costS S2 = costS S := by
  funext b; unfold costS; rw [smD_fare h, smD_set h, smD_hr h]
theorem smD_ok {S S2 : mw} (h : smD S S2) : okS S2 = okS S := by
  have h1 : ∀ b n, okw S2 b n = okw S b n := fun b n => by
    induction n with
    | zero => rfl
    | succ n ih => unfold okw; rw [ih, smD_wo h]
  funext b; unfold okS; rw [smD_set h, h1]
theorem smD_need {S S2 : mw} (h : smD S S2) : needS S2 = needS S := by
  funext b; unfold needS; rw [smD_mu h]
theorem smD_try {S S2 : mw} (h : smD S S2) : tryS S2 = tryS S := by
  funext al T s b a; unfold tryS; rw [smD_ok h, smD_need h, smD_cost h]
theorem smD_cmpn {S S2 : mw} (h : smD S S2) (al : Nat) (T : Nat → dv) (s : Nat) : ∀ k, cmpn S2 al T s k = cmpn S al T s k
  | 0 => rfl
  | k + 1 => by unfold cmpn; rw [smD_cmpn h al T s k, smD_try h]
theorem smD_comp {S S2 : mw} (h : smD S S2) (al : Nat) (T : Nat → dv) (s : Nat) : comp S2 al T s = comp S al T s := by
  unfold comp; rw [smD_cmpn h]
theorem smD_tabC {S S2 : mw} (h : smD S S2) : ∀ n, tabC S2 n = tabC S n
  | 0 => rfl
  | n + 1 => by funext x; unfold tabC; rw [smD_tabC h n, smD_comp h]
theorem smD_DC {S S2 : mw} (h : smD S S2) : DC S2 = DC S := by
  funext s; unfold DC; rw [smD_tabC h, smD_comp h]
theorem smD_pN {S S2 : mw} (h : smD S S2) : pN S2 = pN S := (ppl_eq h.1.1 h.1.2.1 h.1.2.2).1
theorem CDd_eq {w w1 S S2 : mw} (h : CDd w S) (hw : ∀ k, 12 ≤ k → k < 17 → w1 k = w k) (hs : smD S S2) : CDd w1 S2 := by
  unfold CDd CD0 CDb CDt at h ⊢
  rw [hw 12 (by omega) (by omega), hw 13 (by omega) (by omega), hw 14 (by omega) (by omega), hw 15 (by omega) (by omega), hw 16 (by omega) (by omega), smD_pN hs, smD_ok hs, smD_cost hs, smD_need hs, smD_DC hs]
  exact h
theorem CPt_eq {w w1 S S2 : mw} (h : CPt w S) (hw : w1 2 = w 2 ∧ w1 5 = w 5 ∧ w1 6 = w 6 ∧ w1 7 = w 7 ∧ w1 1 = w 1) (hs : smD S S2) : CPt w1 S2 := by
  obtain ⟨a1, a2, a3, a4, a5⟩ := hw
  unfold CPt
  rw [a1, a2, a3, a4, a5, hs.1.1, hs.1.2.1, hs.1.2.2, hs.2.1.1, hs.2.1.2]
  exact h
/-- behind a call that leaves people, rules and days alone -/
def gRows : List Nat := [0, 17, 18, 19, 20, 21, 22, 24, 25, 26, 27, 28, 29, 30, 31, 32]
theorem CC_g {w w1 S S2 : mw} (h : CC w S) (hf : fr gRows w w1) (hs : smD S S2) (hg : CGs w1 S2) (hsh : ∀ s, s < 4 → CSh w1 S2 s) (h4 : w1 0 7 = S2 33 4) : CC w1 S2 := by
  obtain ⟨c1, c2, c3, c4, c5, c6, c7⟩ := h
  refine ⟨CPt_eq c1 ⟨hf 2 (by decide), hf 5 (by decide), hf 6 (by decide), hf 7 (by decide), hf 1 (by decide)⟩ hs, CPp_eq c2 (by rw [hf 1 (by decide)]) (by rw [hf 1 (by decide)]) (hf 3 (by decide)) (hf 4 (by decide)) (ppl_eq hs.1.1 hs.1.2.1 hs.1.2.2), ?_, hg, hsh, h4, CDd_eq c7 (fun k h1 h2 => hf k ?_) hs⟩
  · unfold CRr
    rw [hf 9 (by decide), hf 10 (by decide), hf 11 (by decide), hs.2.2.1, hs.2.2.2.1, hs.2.2.2.2]
    exact c3
  · rcases (show k = 12 ∨ k = 13 ∨ k = 14 ∨ k = 15 ∨ k = 16 by omega) with rfl | rfl | rfl | rfl | rfl <;> decide
/-- behind a call that changes rules alone -/
theorem CC_r {w w1 S S2 : mw} (h : CC w S) (hf : fr [9, 10, 11, 12] w w1) (h12 : w1 12 6 = 1) (hr : CRr w1 S2) (hs : ∀ k, k ≠ 43 → k ≠ 44 → k ≠ 45 → S2 k = S k) : CC w1 S2 := by
  obtain ⟨c1, c2, c3, c4, c5, c6, c7⟩ := h
  have hn : ∀ k, 17 ≤ k → k ∉ [9, 10, 11, 12] := by
    intro k hk q
    simp at q
    omega
  have e : ∀ k, k ∈ [33, 34, 35, 36, 38, 40, 41, 42, 57] → S2 k = S k := fun k hk => hs k (fun q => absurd (q ▸ hk) (by decide)) (fun q => absurd (q ▸ hk) (by decide)) (fun q => absurd (q ▸ hk) (by decide))
  refine ⟨?_, CPp_eq c2 (by rw [hf 1 (by decide)]) (by rw [hf 1 (by decide)]) (hf 3 (by decide)) (hf 4 (by decide)) (ppl_eq (e 38 (by decide)) (by rw [e 33 (by decide)]) (e 42 (by decide))), hr, ?_, fun s hs4 => ?_, ?_, ?_, Or.inl h12⟩
  · unfold CPt
    rw [hf 2 (by decide), hf 5 (by decide), hf 6 (by decide), hf 7 (by decide), hf 1 (by decide), e 38 (by decide), e 40 (by decide), e 41 (by decide), e 42 (by decide), e 33 (by decide)]
    exact c1
  · unfold CGs sSn
    rw [hf 19 (by decide), hf 20 (by decide), hf 21 (by decide), hf 22 (by decide), e 33 (by decide), e 57 (by decide)]
    exact c4
  · unfold CSh sSz
    rw [hf (24 + s) (hn _ (by omega)), hf (28 + s) (hn _ (by omega)), e 34 (by decide), e 35 (by decide), e 36 (by decide)]
    exact c5 s hs4
  · rw [hf 0 (by decide), e 33 (by decide)]; exact c6
  · unfold CD0
    rw [hf 13 (by decide), hf 14 (by decide), hf 15 (by decide), hf 16 (by decide)]
    exact c7.1
/-- behind a call that makes days anew alone -/
def dRows : List Nat := [12, 13, 14, 15, 16, 17, 18, 32]
theorem CC_d {w w1 S : mw} (h : CC w S) (hf : fr dRows w w1) (hd : CDd w1 S) : CC w1 S := by
  obtain ⟨c1, c2, c3, c4, c5, c6, c7⟩ := h
  have hn : ∀ k, 19 ≤ k → k < 32 → k ∉ dRows := by
    intro k hk hk2 q
    simp [dRows] at q
    omega
  refine ⟨?_, CPp_eq c2 (by rw [hf 1 (by decide)]) (by rw [hf 1 (by decide)]) (hf 3 (by decide)) (hf 4 (by decide)) ⟨rfl, rfl, fun _ => rfl, fun _ => rfl⟩, ?_, ?_, fun s hs4 => ?_, ?_, hd⟩
  · unfold CPt
    rw [hf 2 (by decide), hf 5 (by decide), hf 6 (by decide), hf 7 (by decide), hf 1 (by decide)]
    exact c1
  · unfold CRr
    rw [hf 9 (by decide), hf 10 (by decide), hf 11 (by decide)]
    exact c3
  · unfold CGs
    rw [hf 19 (by decide), hf 20 (by decide), hf 21 (by decide), hf 22 (by decide)]
    exact c4
  · unfold CSh
    rw [hf (24 + s) (hn _ (by omega) (by omega)), hf (28 + s) (hn _ (by omega) (by omega))]
    exact c5 s hs4
  · rw [hf 0 (by decide)]; exact c6
theorem CSh_o {w w1 S S2 : mw} {s : Nat} (h : CSh w S s) (h1 : w1 (24 + s) = w (24 + s)) (h2 : w1 (28 + s) = w (28 + s)) (e1 : S2 34 s = S 34 s) (e2 : S2 35 s = S 35 s) (hz : sSz S s ≤ 60) (e3 : ∀ i, i < 60 → S2 36 (60 * s + i) = S 36 (60 * s + i)) : CSh w1 S2 s := by
  have ez : sSz S2 s = sSz S s := by unfold sSz; rw [e2]
  unfold CSh
  rw [h1, h2, e1, e2, ez]
  exact ⟨h.1, fun q => ⟨(h.2 q).1, (h.2 q).2.1, fun i hi => by rw [e3 i (by omega)]; exact (h.2 q).2.2 i hi⟩⟩
theorem smD_k {S S2 : mw} (h : ∀ k, k ≠ 33 → k ≠ 34 → k ≠ 35 → k ≠ 36 → k ≠ 57 → S2 k = S k) (h6 : S2 33 6 = S 33 6) : smD S S2 :=
  ⟨⟨h 38 (by decide) (by decide) (by decide) (by decide) (by decide), h6, h 42 (by decide) (by decide) (by decide) (by decide) (by decide)⟩, ⟨h 40 (by decide) (by decide) (by decide) (by decide) (by decide), h 41 (by decide) (by decide) (by decide) (by decide) (by decide)⟩, h 43 (by decide) (by decide) (by decide) (by decide) (by decide), h 44 (by decide) (by decide) (by decide) (by decide) (by decide), h 45 (by decide) (by decide) (by decide) (by decide) (by decide)⟩
/-- behind a finding -/
theorem CC_fi {w S : mw} (h : CC w S) (x : Int32) : CC (mU w 0 7 x) (mU S 33 4 x) := by
  have h2 : ∀ k, k ≠ 0 → mU w 0 7 x k = w k := fun k hk => mU_ne hk
  have e : ∀ k, k ≠ 33 → mU S 33 4 x k = S k := fun k hk => mU_ne hk
  have e28 : mU S 33 4 x 33 28 = S 33 28 := mU_at_ne (by decide)
  refine CC_g h (fr_U (by decide)) (smD_k (fun k h _ _ _ _ => e k h) (mU_at_ne (by decide))) ?_ (fun s hs => ?_) (mU_at.trans mU_at.symm)
  · unfold CGs sSn
    rw [h2 19 (by decide), h2 20 (by decide), h2 21 (by decide), h2 22 (by decide), e28, e 57 (by decide)]
    exact h.2.2.2.1
  · unfold CSh sSz
    rw [h2 (24 + s) (by omega), h2 (28 + s) (by omega), e 34 (by decide), e 35 (by decide), e 36 (by decide)]
    exact h.2.2.2.2.1 s hs
theorem CC_fg {w S : mw} (h : CC w S) : CC (mU w 19 3 0) (mU S 33 28 0) := by
  have h2 : ∀ k, k ≠ 19 → mU w 19 3 0 k = w k := fun k hk => mU_ne hk
  have e : ∀ k, k ≠ 33 → mU S 33 28 0 k = S k := fun k hk => mU_ne hk
  refine CC_g h (fr_U (by decide)) (smD_k (fun k h _ _ _ _ => e k h) (mU_at_ne (by decide))) ⟨mU_at.trans mU_at.symm, fun k hk => ?_⟩ (fun s hs => ?_) ?_
  · have h0 : sSn (mU S 33 28 0) = 0 := by
      show ((mU S 33 28 0) 33 28).toNatClampNeg = 0
      rw [mU_at]; rfl
    rw [h0] at hk
    exact absurd hk (Nat.not_lt_zero _)
  · unfold CSh sSz
    rw [h2 (24 + s) (by omega), h2 (28 + s) (by omega), e 34 (by decide), e 35 (by decide), e 36 (by decide)]
    exact h.2.2.2.2.1 s hs
  · rw [h2 0 (by decide), mU_at_ne (by decide)]; exact h.2.2.2.2.2.1
/-- behind seen -/
def seS (S : mw) (a b f : Int32) : mw := mU (mU (mU (mU S 57 (3 * sSn S) a) 57 (3 * sSn S + 1) b) 57 (3 * sSn S + 2) f) 33 28 (nI (sSn S + 1))
def seW (w : mw) (n : Nat) (a b f : Int32) : mw := mU (mU (mU (mU w 20 n a) 21 n b) 22 n f) 19 3 (nI (n + 1))
theorem CC_se {w S : mw} (h : CC w S) (hV : VM S) (a b f : Int32) : CC (seW w (sSn S) a b f) (seS S a b f) := by
  have hsn := (VM_sn hV).2
  have h2 : ∀ k, k ≠ 19 → k ≠ 20 → k ≠ 21 → k ≠ 22 → seW w (sSn S) a b f k = w k := fun k a1 a2 a3 a4 => by unfold seW; rw [mU_ne a1, mU_ne a4, mU_ne a3, mU_ne a2]
  have e : ∀ k, k ≠ 33 → k ≠ 57 → seS S a b f k = S k := fun k a1 a2 => by unfold seS; rw [mU_ne a1, mU_ne a2, mU_ne a2, mU_ne a2]
  have e33 : ∀ j, j ≠ 28 → seS S a b f 33 j = S 33 j := fun j hj => by unfold seS; rw [mU_at_ne hj, mU_ne (by decide), mU_ne (by decide), mU_ne (by decide)]
  have hn1 : sSn (seS S a b f) = sSn S + 1 := by
    show ((seS S a b f) 33 28).toNatClampNeg = _
    unfold seS; rw [mU_at, cl (by omega)]
  refine CC_g h (fr_tr (fr_tr (fr_tr (fr_U (by decide)) (fr_U (by decide))) (fr_U (by decide))) (fr_U (by decide))) (smD_k (fun k h _ _ _ h5 => e k h h5) (e33 6 (by decide))) ⟨?_, fun k hk => ?_⟩ (fun s hs => ?_) ?_
  · unfold seW seS; rw [mU_at, mU_at]
  · rw [hn1] at hk
    have c := h.2.2.2.1.2 k
    have e20 : seW w (sSn S) a b f 20 k = if k = sSn S then a else w 20 k := by unfold seW; rw [mU_ne (by decide), mU_ne (by decide), mU_ne (by decide), mU_k]
    have e21 : seW w (sSn S) a b f 21 k = if k = sSn S then b else w 21 k := by unfold seW; rw [mU_ne (by decide), mU_ne (by decide), mU_k, mU_ne (by decide)]
    have e22 : seW w (sSn S) a b f 22 k = if k = sSn S then f else w 22 k := by unfold seW; rw [mU_ne (by decide), mU_k, mU_ne (by decide), mU_ne (by decide)]
    have e57 : ∀ j, seS S a b f 57 j = if j = 3 * sSn S + 2 then f else if j = 3 * sSn S + 1 then b else if j = 3 * sSn S then a else S 57 j := fun j => by unfold seS; rw [mU_ne (by decide), mU_k, mU_k, mU_k]
    rw [e20, e21, e22, e57, e57, e57]
    by_cases hks : k = sSn S
    · subst hks
      rw [if_pos rfl, if_pos rfl, if_pos rfl, if_neg (by omega), if_neg (by omega), if_pos rfl, if_neg (by omega), if_pos rfl, if_pos rfl]
      exact ⟨rfl, rfl, rfl⟩
    · rw [if_neg hks, if_neg hks, if_neg hks, if_neg (by omega), if_neg (by omega), if_neg (by omega), if_neg (by omega), if_neg (by omega), if_neg (by omega), if_neg (by omega), if_neg (by omega), if_neg (by omega)]
      exact c (by omega)
  · unfold CSh sSz
    rw [h2 (24 + s) (by omega) (by omega) (by omega) (by omega), h2 (28 + s) (by omega) (by omega) (by omega) (by omega), e 34 (by decide) (by decide), e 35 (by decide) (by decide), e 36 (by decide) (by decide)]
    exact h.2.2.2.2.1 s hs
  · rw [h2 0 (by decide) (by decide) (by decide) (by decide), e33 4 (by decide)]; exact h.2.2.2.2.2.1
