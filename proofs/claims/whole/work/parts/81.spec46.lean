theorem and31 (x : Int32) : 0 ≤ (x &&& 31).toInt ∧ (x &&& 31).toInt ≤ 31 := by
  have h1 : (x &&& 31).toBitVec.toNat = x.toBitVec.toNat % 32 := by
    rw [Int32.toBitVec_and, BitVec.toNat_and]
    have e : (Int32.toBitVec 31).toNat = 2 ^ 5 - 1 := by decide
    rw [e, Nat.and_two_pow_sub_one_eq_mod]
  have h2 : (x &&& 31).toInt = (x &&& 31).toBitVec.toInt := rfl
  rw [h2, BitVec.toInt_eq_toNat_cond, h1]
  have := Nat.mod_lt x.toBitVec.toNat (show 32 > 0 by decide)
  rw [if_pos (by omega)]
  omega
theorem lcs (x : Int64) : lg_cmp x x = 0 := by
  unfold lg_cmp
  rw [if_neg (by intro h2; have := Int64.lt_iff_toInt_lt.mp h2; omega), if_pos rfl]
theorem CC_m {w w1 S : mw} (h : CC w S) (hf : fr mRows w w1) : CC w1 S := by
  have hn : ∀ k, k < 33 → k ∉ mRows := by
    intro k hk q
    simp [mRows] at q
    omega
  have e : ∀ k, k < 33 → w1 k = w k := fun k hk => hf k (hn k hk)
  obtain ⟨c1, c2, c3, c4, c5, c6, c7⟩ := h
  refine ⟨?_, ?_, ?_, ?_, fun s hs => ?_, ?_, ?_⟩
  · unfold CPt; rw [e 2 (by omega), e 5 (by omega), e 6 (by omega), e 7 (by omega), e 1 (by omega)]; exact c1
  · unfold CPp; rw [e 1 (by omega), e 3 (by omega), e 4 (by omega)]; exact c2
  · unfold CRr; rw [e 9 (by omega), e 10 (by omega), e 11 (by omega)]; exact c3
  · unfold CGs; rw [e 19 (by omega), e 20 (by omega), e 21 (by omega), e 22 (by omega)]; exact c4
  · unfold CSh; rw [e (24 + s) (by omega), e (28 + s) (by omega)]; exact c5 s hs
  · rw [e 0 (by omega)]; exact c6
  · unfold CDd CD0 CDb CDt at c7 ⊢
    rw [e 12 (by omega), e 13 (by omega), e 14 (by omega), e 15 (by omega), e 16 (by omega)]; exact c7
theorem MM_c {w w1 S : mw} (h : MM w S) (hf : fr cRows w w1) : MM w1 S := MM_fr h hf (by decide)
/-- class and check hold the same -/
def INV (w : mw) : Prop := ∃ S, CC w S ∧ MM w S ∧ VM S
