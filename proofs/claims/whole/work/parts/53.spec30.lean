theorem fo_eq {S : mw} (hV : VM S) {s : Nat} (hs : s < 4) (h : (S 34 s).toInt < 0) : S 34 s = -1 := by
  refine i_eq ?_
  have h1 := VM_fo hV s hs
  have e : Int32.toInt (-1) = -1 := rfl
  omega
theorem CSh_lost {w S : mw} {s : Nat} (hc : CSh w S s) (hV : VM S) (hs : s < 4) : w (24 + s) 2 = -1 ↔ (S 34 s).toInt < 0 := by
  constructor
  · intro h
    apply Classical.byContradiction
    intro q
    have h1 := (hc.2 (by omega)).2.1
    rw [h] at h1
    have hz := VM_sz hV s hs
    exact nI_nm (show sSz S s < 2147483648 by omega) (hz.1.symm.trans h1.symm)
  · exact hc.1
theorem CSh_z {w S : mw} {s : Nat} (hc : CSh w S s) (hV : VM S) (hs : s < 4) (h : ¬ (S 34 s).toInt < 0) : w (24 + s) 1 = S 34 s ∧ w (24 + s) 2 = nI (sSz S s) ∧ ∀ i, i < sSz S s → w (28 + s) i = S 36 (60 * s + i) :=
  ⟨(hc.2 (by omega)).1, (hc.2 (by omega)).2.1.trans (VM_sz hV s hs).1, (hc.2 (by omega)).2.2⟩
theorem CC_sh {w S : mw} (h : CC w S) {s : Nat} (hs : s < 4) : CSh w S s := h.2.2.2.2.1 s hs
theorem sh_sub {s : Nat} (hs : s < 4) : ∀ k ∈ [24 + s, 28 + s], k ∈ gRows := by
  rcases (show s = 0 ∨ s = 1 ∨ s = 2 ∨ s = 3 by omega) with rfl | rfl | rfl | rfl <;> decide
theorem sh_subc {s : Nat} (hs : s < 4) : ∀ k ∈ [24 + s, 28 + s], k ∈ cRows := by
  rcases (show s = 0 ∨ s = 1 ∨ s = 2 ∨ s = 3 by omega) with rfl | rfl | rfl | rfl <;> decide
theorem CC_s {w w1 S S2 : mw} {s : Nat} (h : CC w S) (hV : VM S) (hs : s < 4) (hf : fr [24 + s, 28 + s] w w1) (e : ∀ k, k ≠ 34 → k ≠ 35 → k ≠ 36 → S2 k = S k) (e4 : ∀ t, t < 4 → t ≠ s → S2 34 t = S 34 t ∧ S2 35 t = S 35 t ∧ ∀ i, i < 60 → S2 36 (60 * t + i) = S 36 (60 * t + i)) (hn : CSh w1 S2 s) : CC w1 S2 := by
  have hne : ∀ k, k < 24 ∨ (k ≠ 24 + s ∧ k ≠ 28 + s) → w1 k = w k := fun k hk => hf k (fun q => by
    rcases List.mem_cons.mp q with q | q
    · omega
    · rcases List.mem_cons.mp q with q | q
      · omega
      · exact absurd q List.not_mem_nil)
  refine CC_g h (fr_sub hf (sh_sub hs)) (smD_k (fun k _ h34 h35 h36 _ => e k h34 h35 h36) (by rw [e 33 (by decide) (by decide) (by decide)])) ?_ (fun t ht => ?_) ?_
  · unfold CGs sSn
    rw [hne 19 (by omega), hne 20 (by omega), hne 21 (by omega), hne 22 (by omega), e 33 (by decide) (by decide) (by decide), e 57 (by decide) (by decide) (by decide)]
    exact h.2.2.2.1
  · by_cases hts : t = s
    · subst hts; exact hn
    · obtain ⟨a1, a2, a3⟩ := e4 t ht hts
      exact CSh_o (CC_sh h ht) (hne _ (by omega)) (hne _ (by omega)) a1 a2 (VM_sz hV t ht).2 a3
  · rw [hne 0 (by omega), e 33 (by decide) (by decide) (by decide)]; exact h.2.2.2.2.2.1
def shS (S : mw) (s n : Nat) (f : Int32) : mw := mUr (mU (mU S 34 s f) 35 s (nI n)) 36 (clr (S 36) s n)
def shW (w : mw) (s n : Nat) (f : Int32) : mw := mUr (mU (mU w (24 + s) 1 f) (24 + s) 2 (nI n)) (28 + s) (clrF (w (28 + s)) 0 n)
theorem m2 {k a b : Nat} : k ∉ [a, b] ↔ k ≠ a ∧ k ≠ b := by simp
theorem fr2_U {a b j : Nat} {w : mw} {x : Int32} : fr [a, b] w (mU w a j x) := fr_U (by simp)
theorem fr2_Ub {a b j : Nat} {w : mw} {x : Int32} : fr [a, b] w (mU w b j x) := fr_U (by simp)
theorem fr2_Rb {a b : Nat} {w : mw} {f : Nat → Int32} : fr [a, b] w (mUr w b f) := fr_Ur (by simp)
theorem CC_sheet {w S : mw} (h : CC w S) (hV : VM S) {s n : Nat} {f : Int32} (hs : s < 4) (hn : n ≤ 60) (hf : 0 ≤ f.toInt) : CC (shW w s n f) (shS S s n f) := by
  refine CC_s h hV hs (fr_tr (fr_tr fr2_U fr2_U) fr2_Rb) (fun k h1 h2 h3 => by unfold shS; rw [mUr_ne h3, mU_ne h2, mU_ne h1]) (fun t ht hts => ?_) ?_
  · unfold shS
    refine ⟨?_, ?_, fun i hi => ?_⟩
    · rw [mUr_ne (by decide), mU_ne (by decide), mU_at_ne hts]
    · rw [mUr_ne (by decide), mU_at_ne hts, mU_ne (by decide)]
    · rw [mUr_eq]; unfold clr; rw [if_neg (by omega)]
  · have e1 : (shS S s n f) 34 s = f := by unfold shS; rw [mUr_ne (by decide), mU_ne (by decide), mU_at]
    have e2 : (shS S s n f) 35 s = nI n := by unfold shS; rw [mUr_ne (by decide), mU_at]
    have ez : sSz (shS S s n f) s = n := by unfold sSz; rw [e2, cl (by omega)]
    unfold CSh
    rw [e1, e2, ez]
    refine ⟨fun q => by omega, fun _ => ?_⟩
    unfold shW shS
    rw [mUr_ne (by omega), mU_at, mU_at_ne (by decide), mU_at, mUr_eq, mUr_eq]
    refine ⟨rfl, rfl, fun i hi => ?_⟩
    unfold clrF clr
    rw [if_pos (by omega), if_pos (by omega)]
theorem CC_lose {w S : mw} (h : CC w S) (hV : VM S) {s : Nat} (hs : s < 4) : CC (mU w (24 + s) 2 (-1)) (mU S 34 s (-1)) := by
  refine CC_s h hV hs fr2_U (fun k h1 _ _ => mU_ne h1) (fun t ht hts => ⟨mU_at_ne hts, by rw [mU_ne (by decide)], fun i _ => by rw [mU_ne (by decide)]⟩) ?_
  unfold CSh
  rw [mU_at]
  exact ⟨fun _ => mU_at, fun q => absurd q (by decide)⟩
theorem CC_lay {w S : mw} (h : CC w S) (hV : VM S) {s i : Nat} {x : Int32} (hs : s < 4) (hi : i < 60) (hl : 0 ≤ (S 34 s).toInt) : CC (mU w (28 + s) i x) (mU S 36 (60 * s + i) x) := by
  refine CC_s h hV hs fr2_Ub (fun k _ _ h3 => mU_ne h3) (fun t ht hts => ⟨by rw [mU_ne (by decide)], by rw [mU_ne (by decide)], fun j hj => mU_at_ne (by omega)⟩) ?_
  have c := CC_sh h hs
  unfold CSh sSz at c ⊢
  rw [mU_ne (k := 36) (by decide), mU_ne (k := 36) (by decide), mU_ne (k := 28 + s) (by omega)]
  refine ⟨c.1, fun q => ⟨(c.2 q).1, (c.2 q).2.1, fun j hj => ?_⟩⟩
  rw [mU_k, mU_k]
  by_cases hji : j = i
  · rw [if_pos hji, if_pos (by omega)]
  · rw [if_neg hji, if_neg (by omega)]; exact (c.2 q).2.2 j hj
theorem CC_copy {w S : mw} (h : CC w S) (hV : VM S) {s t i j n : Nat} (hs : s < 4) (ht : t < 4) (hls : 0 ≤ (S 34 s).toInt) (hi : i + n ≤ sSz S s) (hj : j + n ≤ sSz S t) : CC (mUr w (28 + t) (va_cpy (w (28 + s)) (w (28 + t)) i j n)) (mUr S 36 (va_cpy (S 36) (S 36) (60 * s + i) (60 * t + j) n)) := by
  have hzt := (VM_sz hV t ht).2
  refine CC_s h hV ht fr2_Rb (fun k _ _ h3 => mUr_ne h3) (fun u hu hut => ⟨by rw [mUr_ne (by decide)], by rw [mUr_ne (by decide)], fun a ha => ?_⟩) ?_
  · rw [mUr_eq]; unfold va_cpy; rw [if_neg (by omega)]
  · have c := CC_sh h ht
    have cs := ((CC_sh h hs).2 hls).2.2
    unfold CSh sSz at c ⊢
    rw [mUr_ne (k := 36) (by decide), mUr_ne (k := 36) (by decide), mUr_ne (k := 28 + t) (by omega)]
    refine ⟨c.1, fun q => ⟨(c.2 q).1, (c.2 q).2.1, fun a ha => ?_⟩⟩
    rw [mUr_eq, mUr_eq]
    unfold va_cpy
    by_cases hb : j ≤ a ∧ a < j + n
    · rw [if_pos hb, if_pos (by omega), cs _ (by omega)]; congr 1; omega
    · rw [if_neg hb, if_neg (by omega)]; exact (c.2 q).2.2 a ha
theorem i_sub {x y : Int32} (h1 : -2147483648 ≤ x.toInt - y.toInt) (h2 : x.toInt - y.toInt ≤ 2147483647) : (x - y).toInt = x.toInt - y.toInt := by
  rw [Int32.toInt_sub]; apply Int.bmod_eq_of_le <;> omega
def pRowsC : List Nat := [1, 2, 3, 4, 5, 6, 7, 12]
theorem CC_w {w S : mw} (h : CC w S) (x : Nat → Int32) : CC (mUr (mU w 12 6 1) 5 x) (mUr S 40 x) := by
  have f : ∀ k, k ≠ 12 → k ≠ 5 → mUr (mU w 12 6 1) 5 x k = w k := fun k a b => by rw [mUr_ne b, mU_ne a]
  have e : ∀ k, k ≠ 40 → mUr S 40 x k = S k := fun k a => mUr_ne a
  refine CC_t h ⟨?_, ?_, ?_, ?_, ?_⟩ (CPp_eq h.2.1 (by rw [f 1 (by decide) (by decide)]) (by rw [f 1 (by decide) (by decide)]) (f 3 (by decide) (by decide)) (f 4 (by decide) (by decide)) (ppl_eq (e 38 (by decide)) (by rw [e 33 (by decide)]) (e 42 (by decide)))) (fr_Ur2 (fr_U (by decide)) (by decide)) (by rw [mUr_ne (by decide), mU_at]) (fun k _ _ h40 _ _ => e k h40) (by rw [e 33 (by decide)]) (by rw [e 33 (by decide)])
  · rw [f 2 (by decide) (by decide), e 38 (by decide)]; exact h.1.1
  · rw [mUr_eq, mUr_eq]
  · rw [f 6 (by decide) (by decide), e 41 (by decide)]; exact h.1.2.2.1
  · rw [f 7 (by decide) (by decide), e 42 (by decide)]; exact h.1.2.2.2.1
  · rw [f 1 (by decide) (by decide), e 33 (by decide)]; exact h.1.2.2.2.2
theorem CC_h {w S : mw} (h : CC w S) (x : Nat → Int32) : CC (mUr (mU w 12 6 1) 6 x) (mUr S 41 x) := by
  have f : ∀ k, k ≠ 12 → k ≠ 6 → mUr (mU w 12 6 1) 6 x k = w k := fun k a b => by rw [mUr_ne b, mU_ne a]
  have e : ∀ k, k ≠ 41 → mUr S 41 x k = S k := fun k a => mUr_ne a
  refine CC_t h ⟨?_, ?_, ?_, ?_, ?_⟩ (CPp_eq h.2.1 (by rw [f 1 (by decide) (by decide)]) (by rw [f 1 (by decide) (by decide)]) (f 3 (by decide) (by decide)) (f 4 (by decide) (by decide)) (ppl_eq (e 38 (by decide)) (by rw [e 33 (by decide)]) (e 42 (by decide)))) (fr_Ur2 (fr_U (by decide)) (by decide)) (by rw [mUr_ne (by decide), mU_at]) (fun k _ _ _ h41 _ => e k h41) (by rw [e 33 (by decide)]) (by rw [e 33 (by decide)])
  · rw [f 2 (by decide) (by decide), e 38 (by decide)]; exact h.1.1
  · rw [f 5 (by decide) (by decide), e 40 (by decide)]; exact h.1.2.1
  · rw [mUr_eq, mUr_eq]
  · rw [f 7 (by decide) (by decide), e 42 (by decide)]; exact h.1.2.2.2.1
  · rw [f 1 (by decide) (by decide), e 33 (by decide)]; exact h.1.2.2.2.2
def pos0 (x : Int32) : Int32 := if 0 < x then x else 0
theorem CC_lie {w S : mw} (h : CC w S) {j : Nat} {v : Int32} (hj : j < 10) (h1 : -30 ≤ v.toInt) (h2 : v.toInt ≤ 30) : CC (mU (mU (mU w 12 6 1) 7 j v) 4 j (pos0 (w 3 j + v))) (mU S 42 j v) := by
  have f : ∀ k, k ≠ 12 → k ≠ 7 → k ≠ 4 → mU (mU (mU w 12 6 1) 7 j v) 4 j (pos0 (w 3 j + v)) k = w k := fun k a b c => by rw [mU_ne c, mU_ne b, mU_ne a]
  have e : ∀ k, k ≠ 42 → mU S 42 j v k = S k := fun k a => mU_ne a
  refine CC_t h ⟨?_, ?_, ?_, ?_, ?_⟩ ⟨?_, ?_, fun i hi => ?_⟩ (fr_U2 (fr_U2 (fr_U (by decide)) (by decide)) (by decide)) (by rw [mU_ne (by decide), mU_ne (by decide), mU_at]) (fun k _ _ _ _ h42 => e k h42) (by rw [e 33 (by decide)]) (by rw [e 33 (by decide)])
  · rw [f 2 (by decide) (by decide) (by decide), e 38 (by decide)]; exact h.1.1
  · rw [f 5 (by decide) (by decide) (by decide), e 40 (by decide)]; exact h.1.2.1
  · rw [f 6 (by decide) (by decide) (by decide), e 41 (by decide)]; exact h.1.2.2.1
  · rw [mU_ne (by decide)]
    funext i
    rw [mU_k, mU_k, mU_ne (by decide), h.1.2.2.2.1]
  · rw [f 1 (by decide) (by decide) (by decide), e 33 (by decide)]; exact h.1.2.2.2.2
  · rw [f 1 (by decide) (by decide) (by decide), pN_42]; exact h.2.1.1
  · rw [f 1 (by decide) (by decide) (by decide)]
    have : pF (mU S 42 j v) = pF S := by unfold pF sLen; rw [e 38 (by decide), e 33 (by decide)]
    rw [this]; exact h.2.1.2.1
  · rw [pN_42] at hi
    have ha := (pN_ok S).2 i hi
    have c := h.2.1.2.2 i hi
    rw [f 3 (by decide) (by decide) (by decide), pA_42]
    refine ⟨c.1, ?_⟩
    unfold tld
    rw [pA_42, mU_k, mU_k]
    by_cases hij : i = j
    · subst hij
      rw [if_pos rfl, if_pos rfl, c.1]
      exact mx0 (by omega) h1 h2
    · rw [if_neg hij, if_neg hij, mU_ne (by decide), mU_ne (by decide)]
      exact c.2
theorem CC_set {w S : mw} (h : CC w S) {j : Nat} {v : Int32} : CC (mU (mU w 12 6 1) 9 j v) (mU S 43 j v) := by
  refine CC_r h (fr_U2 (fr_U (by decide)) (by decide)) (by rw [mU_ne (by decide), mU_at]) ⟨?_, ?_, ?_⟩ (fun k h1 _ _ => mU_ne h1)
  · funext i
    rw [mU_k, mU_k, mU_ne (by decide), h.2.2.1.1]
  · rw [mU_ne (by decide), mU_ne (by decide), mU_ne (by decide)]; exact h.2.2.1.2.1
  · rw [mU_ne (by decide), mU_ne (by decide), mU_ne (by decide)]; exact h.2.2.1.2.2
theorem CC_wo {w S : mw} (h : CC w S) {x : Nat → Int32} : CC (mUr (mU w 12 6 1) 10 x) (mUr S 44 x) := by
  refine CC_r h (fr_Ur2 (fr_U (by decide)) (by decide)) (by rw [mUr_ne (by decide), mU_at]) ⟨?_, ?_, ?_⟩ (fun k _ h1 _ => mUr_ne h1)
  · rw [mUr_ne (by decide), mU_ne (by decide), mUr_ne (by decide)]; exact h.2.2.1.1
  · rw [mUr_eq, mUr_eq]
  · rw [mUr_ne (by decide), mU_ne (by decide), mUr_ne (by decide)]; exact h.2.2.1.2.2
theorem CC_mu {w S : mw} (h : CC w S) {x : Nat → Int32} : CC (mUr (mU w 12 6 1) 11 x) (mUr S 45 x) := by
  refine CC_r h (fr_Ur2 (fr_U (by decide)) (by decide)) (by rw [mUr_ne (by decide), mU_at]) ⟨?_, ?_, ?_⟩ (fun k _ _ h1 => mUr_ne h1)
  · rw [mUr_ne (by decide), mU_ne (by decide), mUr_ne (by decide)]; exact h.2.2.1.1
  · rw [mUr_ne (by decide), mU_ne (by decide), mUr_ne (by decide)]; exact h.2.2.1.2.1
  · rw [mUr_eq, mUr_eq]
