/-- people and rules of the class as the check has them -/
def PR (w S : mw) : Prop := CPt w S ∧ CPp w S ∧ CRr w S
theorem CC_PR {w S : mw} (h : CC w S) : PR w S := ⟨h.1, h.2.1, h.2.2.1⟩
theorem PR_fr {L : List Nat} {w w1 S : mw} (h : PR w S) (hf : fr L w w1) (hL : ∀ k ∈ L, 12 ≤ k) : PR w1 S := by
  have e : ∀ k, k < 12 → w1 k = w k := fun k hk => hf k (fun q => by have := hL k q; omega)
  obtain ⟨a, b, c⟩ := h
  refine ⟨?_, ?_, ?_⟩
  · unfold CPt; rw [e 2 (by omega), e 5 (by omega), e 6 (by omega), e 7 (by omega), e 1 (by omega)]; exact a
  · unfold CPp; rw [e 1 (by omega), e 3 (by omega), e 4 (by omega)]; exact b
  · unfold CRr; rw [e 9 (by omega), e 10 (by omega), e 11 (by omega)]; exact c
theorem tb2 {x : Int32} {n : Nat} (hn : n ≤ 10) : x &&& (nI (2 ^ n - 1) ^^^ (-1)) = 0 ↔ 0 ≤ x.toInt ∧ x.toInt ≤ (2 ^ n - 1 : Nat) := by
  have h10 := two10 hn
  have hx := x.toBitVec.isLt
  have e1 : (Int32.toBitVec (-1)) = BitVec.allOnes 32 := by decide
  have hm : (nI (2 ^ n - 1)).toBitVec = BitVec.ofNat 32 (2 ^ n - 1) := by
    show (Int32.ofNat (2 ^ n - 1)).toBitVec = _
    rw [Int32.toBitVec_ofNat']
  have key : x &&& (nI (2 ^ n - 1) ^^^ (-1)) = 0 ↔ ∀ i, i < 32 → n ≤ i → x.toBitVec.getLsbD i = false := by
    constructor
    · intro h i hi hni
      have h1 := congrArg (fun z : Int32 => z.toBitVec.getLsbD i) h
      simp only [Int32.toBitVec_and, Int32.toBitVec_xor, BitVec.getLsbD_and, BitVec.getLsbD_xor, e1, BitVec.getLsbD_allOnes, hm, BitVec.getLsbD_ofNat, Nat.testBit_two_pow_sub_one] at h1
      have h2 : (Int32.toBitVec 0).getLsbD i = false := by
        have : Int32.toBitVec 0 = 0#32 := by decide
        rw [this]; simp
      rw [h2] at h1
      cases hb : x.toBitVec.getLsbD i
      · rfl
      · rw [hb] at h1
        have h3 : ¬ i < n := by omega
        simp [hi, h3] at h1
    · intro h
      apply Int32.toBitVec_inj.mp
      apply BitVec.eq_of_getLsbD_eq
      intro i hi
      have h2 : (Int32.toBitVec 0).getLsbD i = false := by
        have : Int32.toBitVec 0 = 0#32 := by decide
        rw [this]; simp
      rw [h2]
      simp only [Int32.toBitVec_and, Int32.toBitVec_xor, BitVec.getLsbD_and, BitVec.getLsbD_xor, e1, BitVec.getLsbD_allOnes, hm, BitVec.getLsbD_ofNat, Nat.testBit_two_pow_sub_one]
      by_cases hni : n ≤ i
      · rw [h i hi hni]; simp
      · have : i < n := by omega
        simp [hi, this]
  rw [key]
  have hlt : (∀ i, i < 32 → n ≤ i → x.toBitVec.getLsbD i = false) ↔ x.toBitVec.toNat < 2 ^ n := by
    constructor
    · intro h
      apply Nat.lt_pow_two_of_testBit
      intro i hi
      by_cases h32 : i < 32
      · exact h i h32 hi
      · exact BitVec.getLsbD_of_ge _ _ (by omega)
    · intro h i _ hi
      exact Nat.testBit_lt_two_pow (Nat.lt_of_lt_of_le h (Nat.pow_le_pow_right (by omega) hi))
  rw [hlt]
  have ht : x.toInt = x.toBitVec.toInt := rfl
  rw [ht, BitVec.toInt_eq_toNat_cond]
  have h1 := Nat.one_le_two_pow (n := n)
  constructor
  · intro h; rw [if_pos (by omega)]; omega
  · intro h
    split at h
    · omega
    · omega
theorem mnI {z : Nat} (hz : z < 2147483648) : (if nI z < 10 then nI z else (10 : Int32)) = nI (min 10 z) := by
  rw [show (10 : Int32) = nI 10 from rfl]
  by_cases h : z < 10
  · rw [if_pos ((nI_ltI (a := z) (b := 10) (by omega) (by omega)).mpr h), Nat.min_eq_right (by omega)]
  · rw [if_neg (fun q => h ((nI_ltI (a := z) (b := 10) (by omega) (by omega)).mp q)), Nat.min_eq_left (by omega)]
