theorem l_cmp_eq {x z : Int64} (h : lg_cmp x z = 0) : x = z := by
  unfold lg_cmp at h
  by_cases h1 : x > z
  · rw [if_pos h1] at h; exact absurd h (by decide)
  · rw [if_neg h1] at h
    by_cases h2 : x = z
    · exact h2
    · rw [if_neg h2] at h; exact absurd h (by decide)
theorem l_cmp_ne {x z : Int64} (h : ¬ lg_cmp x z = 0) : x ≠ z := by
  intro q
  apply h
  unfold lg_cmp
  rw [q, if_neg (by intro h2; have := Int64.lt_iff_toInt_lt.mp h2; omega), if_pos rfl]
theorem l_cmp_ge {x z : Int64} (h : 0 ≤ lg_cmp x z) : z.toInt ≤ x.toInt := l_cmp_nlt (fun q => by have h1 := i_le h; have h2 := i_lt q; omega)
theorem l_cmp_nge {x z : Int64} (h : ¬ 0 ≤ lg_cmp x z) : x.toInt < z.toInt := l_cmp_lt (by have := i_nle h; exact Int32.lt_iff_toInt_lt.mpr this)
def pw62 : Nat := 4611686018427387904
theorem lN_abs1 {x : Int64} (h : 0 ≤ x.toInt) : x = lN x.toInt.natAbs := by
  have h2 := Int64.toInt_lt x
  apply Int64.toInt_inj.mp
  rw [pk_lT (by omega)]; omega
theorem lN_abs2 {x : Int64} (h : x.toInt < 0) (h1 : -4611686018427387904 ≤ x.toInt) : -x = lN x.toInt.natAbs := by
  apply Int64.toInt_inj.mp
  rw [pk_lT (by omega), Int64.toInt_neg, Int.bmod_eq_of_le (by omega) (by omega)]; omega
def partR (x : Int64) (b : Nat) (a : Int32) : Int64 := (if a = 0 then x else lN b) / lN (Nat.gcd x.toInt.natAbs b)
def facS : Nat → Nat
  | 0 => 1
  | n + 1 => (n + 1) * facS n
theorem facS_le {n : Nat} (h : n ≤ 6) : 1 ≤ facS n ∧ facS n ≤ 720 := by
  rcases (show n = 0 ∨ n = 1 ∨ n = 2 ∨ n = 3 ∨ n = 4 ∨ n = 5 ∨ n = 6 by omega) with rfl | rfl | rfl | rfl | rfl | rfl | rfl <;> decide
def paysR (S : mw) (j : Nat) (a : Int32) : Int64 := if bwR S j = 0 then -9223372036854775805 else partR (lN (costS S (bwR S j))) (popc (bwR S j)) a
def rPays (S : mw) (p a : Int32) : Int64 := if (0 ≤ p.toInt ∧ p.toInt < pN S) ∧ 0 ≤ a.toInt ∧ a.toInt ≤ 1 then paysR S p.toNatClampNeg a else -9223372036854775806
def lDiff (S : mw) (j k : Nat) : Int32 := nI (DC S (k ||| 2 ^ j)).1 - nI (DC S k).1
def shL (S : mw) (j : Nat) : Nat → Int64
  | 0 => 0
  | k + 1 => if k.testBit j = true then shL S j k else shL S j k + lN (facS (popc k)) * lN (facS (pN S - 1 - popc k)) * (lDiff S j k).toInt64
def shareR (S : mw) (j : Nat) (a : Int32) : Int64 := if 6 < pN S then -9223372036854775804 else if (DC S (wh S)).2.2.2 = 0 then -9223372036854775805 else partR (shL S j (wh S + 1)) (facS (pN S)) a
def rShare (S : mw) (p a : Int32) : Int64 := if (0 ≤ p.toInt ∧ p.toInt < pN S) ∧ 0 ≤ a.toInt ∧ a.toInt ≤ 1 then shareR S p.toNatClampNeg a else -9223372036854775806
theorem toInt64_of (x : Int32) : x.toInt64 = Int64.ofInt x.toInt := by
  apply Int64.toInt_inj.mp
  have h1 := Int32.toInt_lt x
  have h2 := Int32.le_toInt x
  have hsz : ((Int64.size : Nat) : Int) = 18446744073709551616 := rfl
  rw [Int32.toInt_toInt64, Int64.toInt_ofInt]
  exact (Int.bmod_eq_of_le (by omega) (by omega)).symm
theorem lN_of (n : Nat) : lN n = Int64.ofInt n := rfl
theorem ofI_add (a b : Int) : Int64.ofInt a + Int64.ofInt b = Int64.ofInt (a + b) := (Int64.ofInt_add ..).symm
theorem ofI_mul (a b : Int) : Int64.ofInt a * Int64.ofInt b = Int64.ofInt (a * b) := (Int64.ofInt_mul ..).symm
theorem ofI_toInt {z : Int} (h1 : -4611686018427387904 ≤ z) (h2 : z ≤ 4611686018427387904) : (Int64.ofInt z).toInt = z := by
  have hsz : ((Int64.size : Nat) : Int) = 18446744073709551616 := rfl
  rw [Int64.toInt_ofInt]
  exact Int.bmod_eq_of_le (by omega) (by omega)
theorem or_lt {k j n : Nat} (hk : k < 2 ^ n) (hj : j < n) : k ||| 2 ^ j < 2 ^ n := Nat.or_lt_two_pow hk (Nat.pow_lt_pow_right (by omega) hj)
theorem popc_nj {S : mw} {j k : Nat} (hj : j < pN S) (hk : k < 2 ^ pN S) (h : ¬ k.testBit j = true) : popc k ≤ pN S - 1 := by
  have hp := (pN_ok S).1
  have h10 := two10 hp
  have h1 : k &&& (k ||| 2 ^ j) = k := sub_of (fun i hi => by rw [Nat.testBit_or, hi]; rfl)
  have h2 := popc_ann h1
  have h3 := popc_le' (or_lt hk hj) hp
  have h4 : 0 < ann (k ||| 2 ^ j) k := by
    apply Nat.pos_of_ne_zero
    intro q
    have : (ann (k ||| 2 ^ j) k).testBit j = true := by rw [tb_ann, Nat.testBit_or, Nat.testBit_two_pow]; simpa using h
    rw [q, Nat.zero_testBit] at this; exact absurd this (by decide)
  have h5 := ann_le (k ||| 2 ^ j) k
  have h6 := or_lt hk hj
  have h7 := popc_pos (ann (k ||| 2 ^ j) k) (by omega) h4
  omega
theorem shL_of {S : mw} (hV : VM S) (h6 : pN S ≤ 6) {j : Nat} (hj : j < pN S) (hF : Fe S (wh S)) : ∀ k, k ≤ 2 ^ pN S → ∃ z : Int, shL S j k = Int64.ofInt z ∧ -((k : Int) * 6000000000) ≤ z ∧ z ≤ (k : Int) * 6000000000
  | 0, _ => ⟨0, rfl, by omega, by omega⟩
  | k + 1, hk => by
    obtain ⟨z, e, z1, z2⟩ := shL_of hV h6 hj hF k (by omega)
    unfold shL
    by_cases hb : k.testBit j = true
    · rw [if_pos hb]; exact ⟨z, e, by omega, by omega⟩
    · rw [if_neg hb]
      have hp1 := popc_nj hj (by omega) hb
      have f1 := facS_le (n := popc k) (by omega)
      have f2 := facS_le (n := pN S - 1 - popc k) (by omega)
      have d1 := (DC_okk hV (or_lt (show k < 2 ^ pN S by omega) hj)).2.2.2.1 (Fe_all hV hF (or_lt (show k < 2 ^ pN S by omega) hj))
      have d2 := (DC_okk hV (show k < 2 ^ pN S by omega)).2.2.2.1 (Fe_all hV hF (show k < 2 ^ pN S by omega))
      have p1 := popc_le (k ||| 2 ^ j)
      have p2 := popc_le k
      have e2 : (lDiff S j k).toInt = ((DC S (k ||| 2 ^ j)).1 : Int) - (DC S k).1 := pk_sub_toInt (by omega) (by omega)
      rw [e, lN_of, lN_of, toInt64_of, e2, ofI_mul, ofI_mul, ofI_add]
      refine ⟨_, rfl, ?_⟩
      have m1 : facS (popc k) * facS (pN S - 1 - popc k) ≤ 720 * 720 := Nat.mul_le_mul f1.2 f2.2
      generalize hD : ((DC S (k ||| 2 ^ j)).1 : Int) - (DC S k).1 = D
      have hD1 : -11400 ≤ D ∧ D ≤ 11400 := by omega
      generalize hM : facS (popc k) * facS (pN S - 1 - popc k) = M at m1
      have hM2 : ((facS (popc k) : Nat) : Int) * ((facS (pN S - 1 - popc k) : Nat) : Int) = (M : Int) := by rw [← hM]; push_cast; rfl
      rw [hM2]
      have b1 : (M : Int) * D ≤ (M : Int) * 11400 := Int.mul_le_mul_of_nonneg_left hD1.2 (by omega)
      have b2 : (M : Int) * (-11400) ≤ (M : Int) * D := Int.mul_le_mul_of_nonneg_left hD1.1 (by omega)
      omega
