/-- the trip on its way: boats D so far, x left -/
def onWay (S : mw) (D : List Nat) (x : Nat) (M : Nat → Nat) : Prop := (∀ l, isDay S l x → isDay S (D ++ l) (wh S)) ∧ (∀ c, c ∈ D → ∀ i, c.testBit i = true → M i = ann c (2 ^ i)) ∧ ∀ c, c ∈ D → ∀ i, c.testBit i = true → x.testBit i = false
theorem onWay_0 {S : mw} {M : Nat → Nat} : onWay S [] (wh S) M := ⟨fun _ h => h, fun _ hc => absurd hc List.not_mem_nil, fun _ hc => absurd hc List.not_mem_nil⟩
theorem onWay_M {S : mw} {D : List Nat} {x : Nat} {M M2 : Nat → Nat} (h : onWay S D x M) (e : ∀ i, x.testBit i = false → M2 i = M i) : onWay S D x M2 :=
  ⟨h.1, fun c hc i hi => (e i (h.2.2 c hc i hi)).trans (h.2.1 c hc i hi), h.2.2⟩
def metM (M : Nat → Nat) (b : Nat) : Nat → Nat := fun i => if b.testBit i = true then ann b (2 ^ i) else M i
theorem onWay_s {S : mw} {D : List Nat} {x k : Nat} {M : Nat → Nat} (hx : x < 1024) (h0 : 0 < x) (hk : k ≤ lst x) (h : onWay S D x M) (hb : okB S x (sbs x k)) : onWay S (D ++ [sbs x k]) (ann x (sbs x k)) (metM M (sbs x k)) := by
  have g1 := (sbs_good hx h0 hk).1
  refine ⟨fun l hl => ?_, fun c hc i hi => ?_, fun c hc i hi => ?_⟩
  · rw [List.append_assoc]
    exact h.1 _ (day_cons hx h0 hk hb hl)
  · rcases List.mem_append.mp hc with hc | hc
    · have := h.2.2 c hc i hi
      have hbi : (sbs x k).testBit i = false := by
        cases q : (sbs x k).testBit i
        · rfl
        · rw [sub_tb g1 q] at this; exact absurd this (by decide)
      show (if (sbs x k).testBit i = true then _ else M i) = _
      rw [hbi, if_neg (by decide)]
      exact h.2.1 c hc i hi
    · have : c = sbs x k := List.mem_singleton.mp hc
      subst this
      show (if (sbs x k).testBit i = true then _ else M i) = _
      rw [if_pos hi]
  · rw [tb_ann]
    rcases List.mem_append.mp hc with hc | hc
    · rw [h.2.2 c hc i hi]; rfl
    · have : c = sbs x k := List.mem_singleton.mp hc
      subst this
      rw [hi]; simp
theorem dcost_1 {S : mw} {D : List Nat} {b : Nat} : dcost S (D ++ [b]) = dcost S D + costS S b := by
  rw [dcost_app]; rfl
def sumP (S : mw) (D : List Nat) (x : Nat) (l k : List Nat) : Prop := isDay S l x ∧ isDay S k (wh S) ∧ compat (D ++ l) k
theorem met_18 {w v : mw} {n x b : Nat} {M : Nat → Nat} (hn : n ≤ 10) (hb : b < 1024) (hM : ∀ i, i < n → x.testBit i = false → w 18 i = nI (M i) ∧ M i < 1024) (hK : ∀ i, i < n → x.testBit i = false → v 18 i = w 18 i) : ∀ i, i < n → (ann x b).testBit i = false → metW v b 10 18 i = nI (metM M b i) ∧ metM M b i < 1024 := by
  intro i hi hx
  unfold metW metM
  rw [mUr_eq]
  by_cases h : b.testBit i = true
  · rw [if_pos ⟨h, by omega⟩, if_pos h]
    exact ⟨rfl, Nat.lt_of_le_of_lt (ann_le _ _) hb⟩
  · rw [if_neg (fun q => h q.1), if_neg h]
    have hxi : x.testBit i = false := by
      rw [tb_ann] at hx
      simpa [h] using hx
    rw [hK i hi hxi]
    exact hM i hi hxi
theorem met_no {v : mw} {b i : Nat} (h : b.testBit i = false) : metW v b 10 18 i = v 18 i := by
  unfold metW
  rw [mUr_eq, if_neg (fun q => by rw [h] at q; exact absurd q.1 (by decide))]
theorem nil_day {S : mw} {l : List Nat} (h : isDay S l 0) : l = [] := by
  cases l with
  | nil => rfl
  | cons b m =>
    obtain ⟨_, ⟨i, hi, _⟩, _⟩ := h
    have := low_pos hi
    omega
theorem bk_of {S : mw} (hV : VM S) {y : Int32} {L : Nat} (h1 : ∀ l k, sumP S [] (wh S) l k → dcost S l ≤ dcost S k → L ≤ dcost S l + dcost S k) (h2 : L = 2147483647 ∨ ∃ l k, sumP S [] (wh S) l k ∧ L = dcost S l + dcost S k) (hy : y = if L = 2147483647 then -1 else nI L) : isMin (bkP S) y := by
  have hw := wh_lt S
  have hpw := popc_le (wh S)
  have all : ∀ m, bkP S m → L ≤ m ∧ m < 1000000 := by
    rintro m ⟨l, k, d1, d2, hc, hm⟩
    have e1 := day_le hV l _ hw d1
    have e2 := day_le hV k _ hw d2
    rcases Nat.le_total (dcost S l) (dcost S k) with q | q
    · have := h1 l k ⟨d1, d2, hc⟩ q; omega
    · have := h1 k l ⟨d2, d1, compat_sy hc⟩ q; omega
  by_cases hL : L = 2147483647
  · rw [if_pos hL] at hy
    exact Or.inl ⟨hy, fun m hm => by have := all m hm; omega⟩
  · rw [if_neg hL] at hy
    obtain ⟨l, k, ⟨d1, d2, hc⟩, e⟩ := h2.resolve_left hL
    have hb : bkP S L := ⟨l, k, d1, d2, hc, e⟩
    exact Or.inr ⟨L, hy, (all L hb).2, hb, fun m hm => (all m hm).1⟩
theorem bk_no {S : mw} (hV : VM S) (h : (DC S (wh S)).2.2.2 = 0 ∨ (0 < wh S ∧ needS S (wh S) &&& wh S ≠ 0)) : isMin (bkP S) (-1) := by
  have hw := wh_lt S
  have h10 := two10 (pN_ok S).1
  refine Or.inl ⟨rfl, ?_⟩
  rintro m ⟨l, k, d1, d2, hc, _⟩
  rcases h with h | ⟨_, h⟩
  · exact (day_DC hV l _ hw d1).1 h
  · obtain ⟨j, hj⟩ : ∃ j, (needS S (wh S) &&& wh S).testBit j = true := Nat.exists_testBit_of_ne_zero h
    rw [Nat.testBit_and, Bool.and_eq_true] at hj
    obtain ⟨i, hi, hwi, hm⟩ := needS_tb.mp hj.1
    have hj10 := tb10 (show wh S < 1024 by omega) hj.2
    have hij : i ≠ j := fun q => by
      subst q
      rw [(VM_sy hV).2 i hi] at hm
      exact absurd hm (by decide)
    exact hc i j hij (day_must hV hi hj10 hm l _ d1 hwi hj.2) (day_must hV hi hj10 hm k _ d2 hwi hj.2)
