def tbN (S : mw) (s : Nat) (x : Int32) : Nat → Nat
  | 0 => 0
  | p + 1 => if S 36 (60 * s + p) = x then tbN S s x p ||| 2 ^ p else tbN S s x p
def tbS (S : mw) (s : Nat) (x : Int32) : Nat := tbN S s x (pN S)
theorem tbN_lt {S : mw} {s : Nat} {x : Int32} : ∀ n, tbN S s x n < 2 ^ n
  | 0 => by show 0 < 1; decide
  | n + 1 => by
    have h := tbN_lt (S := S) (s := s) (x := x) n
    have h2 : 2 ^ n < 2 ^ (n + 1) := Nat.pow_lt_pow_right (by omega) (by omega)
    unfold tbN; split
    · exact Nat.or_lt_two_pow (Nat.lt_trans h h2) h2
    · exact Nat.lt_trans h h2
theorem tbN_tb {S : mw} {s : Nat} {x : Int32} {i : Nat} : ∀ n, (tbN S s x n).testBit i = true ↔ i < n ∧ S 36 (60 * s + i) = x
  | 0 => by
    unfold tbN; rw [Nat.zero_testBit]
    exact ⟨fun h => absurd h (by decide), fun h => absurd h.1 (Nat.not_lt_zero _)⟩
  | n + 1 => by
    have ih := tbN_tb (S := S) (s := s) (x := x) (i := i) n
    unfold tbN
    by_cases hx : S 36 (60 * s + n) = x
    · rw [if_pos hx, Nat.testBit_or, Bool.or_eq_true, ih, Nat.testBit_two_pow, decide_eq_true_eq]
      constructor
      · rintro (h | h)
        · exact ⟨by omega, h.2⟩
        · subst h; exact ⟨by omega, hx⟩
      · rintro ⟨h1, h2⟩
        by_cases hi : i = n
        · exact Or.inr hi.symm
        · exact Or.inl ⟨by omega, h2⟩
    · rw [if_neg hx, ih]
      constructor
      · rintro ⟨h1, h2⟩; exact ⟨by omega, h2⟩
      · rintro ⟨h1, h2⟩
        by_cases hi : i = n
        · subst hi; exact absurd h2 hx
        · exact ⟨by omega, h2⟩
/-- the boat of one is against something -/
def bad (S : mw) (s p : Nat) : Prop := ¬ (0 ≤ (S 36 (60 * s + p)).toInt ∧ (S 36 (60 * s + p)).toInt ≤ 9) ∨ ¬ okS S (tbS S s (S 36 (60 * s + p))) = true ∨ ann (needS S (tbS S s (S 36 (60 * s + p))) &&& wh S) (tbS S s (S 36 (60 * s + p))) ≠ 0
noncomputable def jdF (S : mw) (s : Nat) : Nat → Nat → Int32
  | 0, _ => -1
  | k + 1, p => @ite _ (bad S s p) (Classical.propDecidable _) (nI p) (jdF S s k (p + 1))
noncomputable def jdS (S : mw) (s : Nat) : Int32 := jdF S s (pN S) 0
theorem jdF_bad {S : mw} {s k p : Nat} (h : bad S s p) : jdF S s (k + 1) p = nI p := by unfold jdF; exact if_pos h
theorem jdF_ok {S : mw} {s k p : Nat} (h : ¬ bad S s p) : jdF S s (k + 1) p = jdF S s k (p + 1) := by rw [jdF]; exact if_neg h
theorem jdF_none {S : mw} {s : Nat} : ∀ k p, p + k ≤ 10 → jdF S s k p = -1 → ∀ i, p ≤ i → i < p + k → ¬ bad S s i
  | 0, p, _, _, i, h1, h2 => by omega
  | k + 1, p, hk, h, i, h1, h2 => by
    by_cases hb : bad S s p
    · rw [jdF_bad hb] at h
      have := congrArg Int32.toInt h
      rw [ti (by omega)] at this
      have e : (-1 : Int32).toInt = -1 := rfl
      omega
    · rw [jdF_ok hb] at h
      by_cases hi : i = p
      · subst hi; exact hb
      · exact jdF_none k (p + 1) (by omega) h i (by omega) (by omega)
def cstN (S : mw) (s : Nat) : Nat → Nat
  | 0 => 0
  | k + 1 => cstN S s k + (if tbS S s (nI k) = 0 then 0 else costS S (tbS S s (nI k)))
noncomputable def oJudged (S : mw) (s : Int32) : Int32 × mw := if ¬ (0 ≤ s.toInt ∧ s.toInt ≤ 3) then (-2, S) else if (S 34 s.toNatClampNeg).toInt < 0 then (-11, mU S 33 4 1) else if sSz S s.toNatClampNeg < pN S then (-3, S) else (jdS S s.toNatClampNeg, S)
noncomputable def oCosts (S : mw) (s : Int32) : Int32 × mw := if ¬ (0 ≤ s.toInt ∧ s.toInt ≤ 3) then (-2, S) else if (S 34 s.toNatClampNeg).toInt < 0 then (-11, mU S 33 4 1) else if sSz S s.toNatClampNeg < pN S ∨ jdS S s.toNatClampNeg ≠ -1 then (-3, S) else (nI (cstN S s.toNatClampNeg 10), S)
/-- if nobody is judged, every told boat may go -/
theorem jd_boat {S : mw} {s : Nat} {x : Int32} (h : jdS S s = -1) (hb : tbS S s x ≠ 0) : okS S (tbS S s x) = true := by
  have hp := (pN_ok S).1
  have hl : tbS S s x < 2 ^ pN S := tbN_lt _
  obtain ⟨i, hi⟩ : ∃ i, (tbS S s x).testBit i = true := Nat.exists_testBit_of_ne_zero hb
  have h1 := (tbN_tb (S := S) (s := s) (x := x) (i := i) (pN S)).mp hi
  have h2 := jdF_none (pN S) 0 (by omega) h i (Nat.zero_le _) (by omega)
  apply Classical.byContradiction
  intro q
  exact h2 (Or.inr (Or.inl (by rw [h1.2]; exact q)))
theorem cstN_le {S : mw} (hV : VM S) {s : Nat} : ∀ k, cstN S s k ≤ k * 9200
  | 0 => Nat.le_refl _
  | k + 1 => by
    have ih := cstN_le hV (s := s) k
    unfold cstN
    rw [Nat.add_mul, Nat.one_mul]
    split
    · rw [Nat.add_zero]; exact Nat.le_trans ih (Nat.le_add_right _ _)
    · next h =>
      have hl : tbS S s (nI k) < 2 ^ pN S := tbN_lt _
      have := costS_le hV hl (by omega)
      have := popc_le (tbS S s (nI k))
      omega
