theorem absI (x : Int32) : (if 0 ≤ x then x else 0 - x) = (if x.toInt < 0 then -x else x) := by
  have e : Int32.toInt 0 = 0 := rfl
  by_cases h : 0 ≤ x
  · have := i_le h
    rw [if_pos h, if_neg (by omega)]
  · have := i_nle h
    rw [if_neg h, if_pos (by omega), Int32.zero_sub]
theorem so_mono {S : mw} {p : Nat} {t : Int32} : ∀ m k, soS S p t (k + m) = true → soS S p t k = true
  | 0, _, h => h
  | m + 1, k, h => by
    have h2 : soS S p t (k + m + 1) = true := h
    unfold soS at h2
    rw [Bool.and_eq_true] at h2
    exact so_mono m k h2.1
theorem so_fail {S : mw} {p k n : Nat} {t : Int32} (hk : k < n) (h : soS S p t (k + 1) = false) : ¬ soS S p t n = true := by
  intro q
  have := so_mono (n - (k + 1)) (k + 1) (by rw [show k + 1 + (n - (k + 1)) = n by omega]; exact q)
  rw [h] at this
  exact absurd this (by decide)
/-- the sets that are left, one boat after the other -/
def seqX (S : mw) : Nat → Nat
  | 0 => wh S
  | k + 1 => ann (seqX S k) (DC S (seqX S k)).2.2.1
theorem seqX_ok {S : mw} (hV : VM S) (hF : (DC S (wh S)).2.2.2 ≠ 0) : ∀ k, seqX S k < 2 ^ pN S ∧ (DC S (seqX S k)).2.2.2 ≠ 0
  | 0 => ⟨wh_lt S, hF⟩
  | k + 1 => by
    obtain ⟨h1, h2⟩ := seqX_ok hV hF k
    show ann _ _ < _ ∧ (DC S (ann _ _)).2.2.2 ≠ 0
    by_cases h0 : seqX S k = 0
    · rw [h0, (enD_0 S).2.2]
      have e : ann 0 (0, 0, 0, 1).2.2.1 = 0 := rfl
      show ann 0 0 < _ ∧ (DC S (ann 0 0)).2.2.2 ≠ 0
      rw [show ann 0 0 = 0 from rfl, (enD_0 S).2.2]
      exact ⟨Nat.one_le_two_pow, by decide⟩
    · obtain ⟨hw, g1, g4, g2, g5⟩ := DC_fst hV h1 (by omega) h2
      exact ⟨by omega, hw.2.2.1⟩
theorem seqX_pop {S : mw} (hV : VM S) (hF : (DC S (wh S)).2.2.2 ≠ 0) : ∀ k, seqX S k = 0 ∨ popc (seqX S k) + k ≤ 10
  | 0 => Or.inr (by have := popc_le (seqX S 0); omega)
  | k + 1 => by
    have hp := (pN_ok S).1
    have h10 := two10 hp
    obtain ⟨h1, h2⟩ := seqX_ok hV hF k
    rcases seqX_pop hV hF k with h | h
    · left
      show ann _ _ = 0
      rw [h]
      have := ann_le 0 (DC S 0).2.2.1
      omega
    · by_cases h0 : seqX S k = 0
      · left
        show ann _ _ = 0
        rw [h0]
        have := ann_le 0 (DC S 0).2.2.1
        omega
      · right
        obtain ⟨hw, g1, g4, g2, g5⟩ := DC_fst hV h1 (by omega) h2
        have hd := popc_drop (show seqX S k < 1024 by omega) g1 g4 g5
        show popc (ann _ _) + (k + 1) ≤ 10
        omega
theorem seqX_bw {S : mw} {p : Nat} : ∀ k f, (seqX S k).testBit p = true → bwS S p (f + k) (wh S) = bwS S p f (seqX S k)
  | 0, f, _ => rfl
  | k + 1, f, h => by
    have h0 : (seqX S (k + 1)).testBit p = ((seqX S k).testBit p && !(DC S (seqX S k)).2.2.1.testBit p) := tb_ann _ _ _
    rw [h0, Bool.and_eq_true] at h
    have ih := seqX_bw (S := S) (p := p) k (f + 1) h.1
    rw [show f + (k + 1) = f + 1 + k by omega, ih]
    show bwS S p (f + 1) (seqX S k) = _
    rw [bwS, if_neg (by have := h.2; simp at this; rw [this]; decide)]
    rfl
theorem low_of {x : Nat} (hx : x < 1024) (h0 : 0 < x) : ∃ i, i < 10 ∧ lob x = 2 ^ i ∧ isLow x i := by
  obtain ⟨i, h1, h2, h3, h4⟩ := low_ex x hx h0
  exact ⟨i, h1, h2, h3, h4⟩
theorem seqX_with {S : mw} (hV : VM S) (hF : (DC S (wh S)).2.2.2 ≠ 0) {k i : Nat} (hk : k < 10) (h0 : 0 < seqX S k) (hl : isLow (seqX S k) i) : withR S i = nI (DC S (seqX S k)).2.2.1 ∧ i < pN S := by
  have hp := (pN_ok S).1
  have h10 := two10 hp
  obtain ⟨h1, h2⟩ := seqX_ok hV hF k
  have hip : i < pN S := by
    apply Nat.lt_of_not_le
    intro q
    have := hl.1
    rw [tb_lt h1 q] at this
    exact absurd this (by decide)
  obtain ⟨j, hj, hw⟩ := DC_wit hV h1 h0 h2
  obtain ⟨i2, q1, q2, q3⟩ := low_of (x := seqX S k) (by omega) h0
  have hii := isLow_u hl q3
  have hb : (DC S (seqX S k)).2.2.1.testBit i = true := by
    rw [hw.2.2.2.2.2]; unfold sbs
    rw [Nat.testBit_or, q2, hii, Nat.testBit_two_pow]; simp
  have e : bwS S i 10 (wh S) = (DC S (seqX S k)).2.2.1 := by
    have e1 := seqX_bw (S := S) (p := i) k (10 - k) hl.1
    rw [show 10 - k + k = 10 by omega, show 10 - k = (10 - k - 1) + 1 by omega] at e1
    rw [e1, bwS, if_pos hb]
  refine ⟨?_, hip⟩
  rw [← bw_with hV hip, e, if_pos hb]
theorem VM_36 {S T : mw} (hV : VM S) (hf : fr [36] S T) : VM T := by
  have e : ∀ k, k ≠ 36 → T k = S k := fun k hk => hf k (by simpa using hk)
  unfold VM sLen sWt sHr sSet sWo sMu sSn sSz
  rw [e 33 (by decide), e 40 (by decide), e 41 (by decide), e 42 (by decide), e 43 (by decide), e 44 (by decide), e 45 (by decide), e 57 (by decide), e 34 (by decide), e 35 (by decide)]
  exact hV
theorem smD_36 {S T : mw} (hf : fr [36] S T) : smD S T := by
  have e : ∀ k, k ≠ 36 → T k = S k := fun k hk => hf k (by simpa using hk)
  exact smD_k (fun k _ _ _ h36 _ => e k h36) (by rw [e 33 (by decide)])
theorem wrB_s1 {T : mw} {s b r p : Nat} {f : Int32} (h : b.testBit p = true) : wrB T s f b r (p + 1) = mU (wrB T s f b r p) 36 (60 * s + p) (cutS f (nI r)) := by rw [wrB, if_pos h]
theorem wrB_s0 {T : mw} {s b r p : Nat} {f : Int32} (h : b.testBit p = false) : wrB T s f b r (p + 1) = wrB T s f b r p := by rw [wrB, if_neg (by rw [h]; decide)]
theorem mnI2 {z n : Nat} (hz : z < 2147483648) (hn : n < 2147483648) : (if nI n < nI z then nI n else nI z) = nI (if z < n then z else n) := by
  by_cases h : n < z
  · rw [if_pos ((nI_ltI hn hz).mpr h), if_neg (by omega)]
  · rw [if_neg (fun q => h ((nI_ltI hn hz).mp q))]
    by_cases h2 : z < n
    · rw [if_pos h2]
    · rw [if_neg h2]; congr 1; omega
