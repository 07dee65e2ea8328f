theorem absN {x : Int64} (h1 : -4611686018427387904 ≤ x.toInt) : (if 0 < x then x else -x) = lN x.toInt.natAbs := by
  by_cases h : 0 < x
  · rw [if_pos h]
    have := Int64.lt_iff_toInt_lt.mp h
    have e : Int64.toInt 0 = 0 := rfl
    exact lN_abs1 (by omega)
  · rw [if_neg h]
    have h2 : ¬ 0 < x.toInt := fun q => h (Int64.lt_iff_toInt_lt.mpr (by have e : Int64.toInt 0 = 0 := rfl; omega))
    by_cases h0 : x.toInt = 0
    · have hx : x = 0 := Int64.toInt_inj.mp h0
      rw [hx]; rfl
    · exact lN_abs2 (by omega) h1
theorem half {m n j : Nat} (h0 : 0 < n) (hnm : n ≤ m) (h : m * n < 2 ^ (j + 1)) : n * (m % n) < 2 ^ j := by
  have h1 := Nat.div_add_mod m n
  have h2 := Nat.mod_lt m h0
  have h3 : 1 ≤ m / n := (Nat.le_div_iff_mul_le h0).mpr (by omega)
  have h4 : n * 1 ≤ n * (m / n) := Nat.mul_le_mul_left _ h3
  have h5 : 2 * (m % n) < m := by omega
  have h6 : n * (2 * (m % n)) < n * m := Nat.mul_lt_mul_of_pos_left h5 h0
  rw [Nat.mul_comm n m, ← Nat.mul_assoc, Nat.mul_comm n 2, Nat.mul_assoc] at h6
  rw [Nat.pow_succ] at h
  omega
theorem withR_n {S : mw} {j : Nat} (hb : bwR S j < 1024) : withR S j = -1 ↔ bwR S j = 0 := by
  unfold withR
  by_cases h : bwR S j = 0
  · rw [if_pos h]; exact ⟨fun _ => h, fun _ => rfl⟩
  · rw [if_neg h]; exact ⟨fun q => absurd q (nI_nm (by omega)), fun q => absurd q h⟩
theorem withR_e {S : mw} {j : Nat} (h : bwR S j ≠ 0) : withR S j = nI (bwR S j) := if_neg h
theorem bwR_lt {S : mw} {j : Nat} (hV : VM S) (hj : j < pN S) : bwR S j < 1024 := by
  have hp := (pN_ok S).1
  have h10 := two10 hp
  by_cases h : bwR S j = 0
  · omega
  · have := (bwR_ok hV hj h).2.1; omega
theorem tbS_in {S : mw} {s p : Nat} (hp : p < pN S) : 0 < tbS S s (S 36 (60 * s + p)) ∧ tbS S s (S 36 (60 * s + p)) < 2 ^ pN S := by
  refine ⟨?_, tbN_lt _⟩
  have h : (tbS S s (S 36 (60 * s + p))).testBit p = true := (tbN_tb (pN S)).mpr ⟨hp, rfl⟩
  apply Nat.pos_of_ne_zero
  intro q
  rw [q, Nat.zero_testBit] at h
  exact absurd h (by decide)
theorem rsN_s {S : mw} {s k p : Nat} (h : k.testBit p = true) : rsN S s k (p + 1) = rsN S s k p + (S 36 (60 * s + p)).toInt64 := by rw [rsN, if_pos h]
theorem rsN_n {S : mw} {s k p : Nat} (h : k.testBit p = false) : rsN S s k (p + 1) = rsN S s k p := by rw [rsN, if_neg (by rw [h]; decide)]
theorem shL_b {S : mw} (hV : VM S) (h6 : pN S ≤ 6) {j : Nat} (hj : j < pN S) (hF : Fe S (wh S)) : -4611686018427387904 ≤ (shL S j (2 ^ pN S)).toInt ∧ (shL S j (2 ^ pN S)).toInt ≤ 4611686018427387904 := by
  obtain ⟨z, e, z1, z2⟩ := shL_of hV h6 hj hF (2 ^ pN S) (Nat.le_refl _)
  have h2 : 2 ^ pN S ≤ 2 ^ 6 := Nat.pow_le_pow_right (by omega) h6
  have h3 : (2 : Nat) ^ 6 = 64 := rfl
  rw [e, ofI_toInt (by omega) (by omega)]
  omega
theorem cz_fr {L : List Nat} {w w1 S : mw} {s : Nat} (h : w (24 + s) 1 = S 34 s ∧ w (24 + s) 2 = nI (sSz S s) ∧ ∀ i, i < sSz S s → w (28 + s) i = S 36 (60 * s + i)) (hf : fr L w w1) (h1 : 24 + s ∉ L) (h2 : 28 + s ∉ L) : w1 (24 + s) 1 = S 34 s ∧ w1 (24 + s) 2 = nI (sSz S s) ∧ ∀ i, i < sSz S s → w1 (28 + s) i = S 36 (60 * s + i) := by
  rw [hf _ h1, hf _ h2]; exact h
theorem sh_dRows {s : Nat} (hs : s < 4) : 24 + s ∉ dRows ∧ 28 + s ∉ dRows := by
  rcases (show s = 0 ∨ s = 1 ∨ s = 2 ∨ s = 3 by omega) with rfl | rfl | rfl | rfl <;> decide
