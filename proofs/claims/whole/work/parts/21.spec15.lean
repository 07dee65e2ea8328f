def rsN (S : mw) (s k : Nat) : Nat → Int64
  | 0 => 0
  | p + 1 => if k.testBit p = true then rsN S s k p + (S 36 (60 * s + p)).toInt64 else rsN S s k p
def ratF (S : mw) (s : Nat) : Nat → Nat → Int32
  | 0, _ => -1
  | f + 1, k => if (nI (DC S k).1).toInt64.toInt < (rsN S s k (pN S)).toInt then nI k else ratF S s f (k + 1)
def oRather (S : mw) (s : Int32) : Int32 × mw := if ¬ (0 ≤ s.toInt ∧ s.toInt ≤ 3) then (-2, S) else if (S 34 s.toNatClampNeg).toInt < 0 then (-11, mU S 33 4 1) else if sSz S s.toNatClampNeg < pN S ∨ (DC S (wh S)).2.2.2 = 0 then (-3, S) else (ratF S s.toNatClampNeg (wh S) 1, S)
/-- the k-th lie that is tried: 0, -1, 1, -2, 2 .. -/
def lieV (k : Nat) : Int32 := if k % 2 = 1 then -(nI (k + 1)) / 2 else nI (k / 2)
def lieS (S : mw) (j k : Nat) : mw := mU S 42 j (lieV k)
def lsN (S : mw) (j : Nat) : Nat → Int32 × Nat × Nat
  | 0 => (0, 0, 0)
  | k + 1 => if bwR (lieS S j k) j ≠ 0 ∧ ((lsN S j k).2.2 = 0 ∨ costS (lieS S j k) (bwR (lieS S j k) j) * (lsN S j k).2.2 < (lsN S j k).2.1 * popc (bwR (lieS S j k) j)) then (lieV k, costS (lieS S j k) (bwR (lieS S j k) j), popc (bwR (lieS S j k) j)) else lsN S j k
def liesR (S : mw) (j m : Nat) : Int32 := if (lsN S j (2 * m + 1)).2.2 = 0 then -1003 else (lsN S j (2 * m + 1)).1
def rLies (S : mw) (p m : Int32) : Int32 := if (0 ≤ p.toInt ∧ p.toInt < pN S) ∧ 0 ≤ m.toInt ∧ m.toInt ≤ 30 then liesR S p.toNatClampNeg m.toNatClampNeg else -1002
theorem lieV_ok : ∀ k, k < 61 → -30 ≤ (lieV k).toInt ∧ (lieV k).toInt ≤ 30 := by decide +kernel
theorem lieV_1 : ∀ k, k < 61 → k % 2 = 1 → lieV k = -(nI (k + 1)) / 2 := fun k _ h => if_pos h
theorem lieV_0 : ∀ k, k < 61 → ¬ k % 2 = 1 → lieV k = nI (k / 2) := fun k _ h => if_neg h
theorem VM_42 {S : mw} {j : Nat} {x : Int32} (hV : VM S) (h1 : -30 ≤ x.toInt) (h2 : x.toInt ≤ 30) : VM (mU S 42 j x) := by
  have e : ∀ k, k ≠ 42 → mU S 42 j x k = S k := fun k hk => mU_ne hk
  unfold VM sLen sWt sHr sSet sWo sMu sSn sSz
  rw [e 33 (by decide), e 40 (by decide), e 41 (by decide), e 43 (by decide), e 44 (by decide), e 45 (by decide), e 57 (by decide), e 34 (by decide), e 35 (by decide)]
  obtain ⟨a1, a2, a3, a4, a5⟩ := hV
  refine ⟨a1, a2, a3, fun i hi => ?_, a5⟩
  rw [mU_k]
  split
  · exact ⟨h1, h2⟩
  · exact a4 i hi
theorem pN_42 {S : mw} {j : Nat} {x : Int32} : pN (mU S 42 j x) = pN S := by
  unfold pN sLen; rw [mU_ne (by decide), mU_ne (by decide)]
theorem pA_42 {S : mw} {j i : Nat} {x : Int32} : pA (mU S 42 j x) i = pA S i := by
  unfold pA sLen; rw [mU_ne (by decide), mU_ne (by decide)]
theorem MP_42 {w S : mw} {j : Nat} {x : Int32} (h : MP w S) : MP (mU w 42 j x) (mU S 42 j x) := by
  refine ⟨MM_p h.1 (by decide), ?_, fun i hi => ?_⟩
  · rw [mU_ne (by decide), pN_42]; exact h.2.1
  · rw [pN_42] at hi; rw [mU_ne (by decide), pA_42]; exact h.2.2 i hi
theorem wh_42 {S : mw} {j : Nat} {x : Int32} : wh (mU S 42 j x) = wh S := by unfold wh; rw [pN_42]
theorem lsN_ok {S : mw} {j : Nat} (hV : VM S) (hj : j < pN S) : ∀ k, k ≤ 61 → (lsN S j k).2.1 ≤ 9200 ∧ (lsN S j k).2.2 ≤ 10
  | 0, _ => ⟨Nat.zero_le _, Nat.zero_le _⟩
  | k + 1, hk => by
    have ih := lsN_ok hV hj k (by omega)
    unfold lsN
    split
    · next h =>
      have hl := lieV_ok k (by omega)
      have hV2 : VM (lieS S j k) := VM_42 hV hl.1 hl.2
      have hp : pN (lieS S j k) = pN S := pN_42
      have hb := bwR_ok hV2 (p := j) (by rw [hp]; exact hj) h.1
      have hc := costS_le hV2 hb.2.1 hb.2.2.2.1
      have hpp := popc_le (bwR (lieS S j k) j)
      exact ⟨by show costS _ _ ≤ _; omega, hpp⟩
    · exact ih
def soS (S : mw) (p : Nat) (t : Int32) : Nat → Bool
  | 0 => true
  | k + 1 => soS S p t k && (if S 57 (3 * k) = nI p ∧ (S 57 (3 * k + 1)).toInt < pN S then decide ((if (t - nI (tld S (S 57 (3 * k + 1)).toNatClampNeg)).toInt < 0 then -(t - nI (tld S (S 57 (3 * k + 1)).toNatClampNeg)) else t - nI (tld S (S 57 (3 * k + 1)).toNatClampNeg)) = S 57 (3 * k + 2)) else if S 57 (3 * k + 1) = nI p ∧ (S 57 (3 * k)).toInt < pN S then decide ((if (t - nI (tld S (S 57 (3 * k)).toNatClampNeg)).toInt < 0 then -(t - nI (tld S (S 57 (3 * k)).toNatClampNeg)) else t - nI (tld S (S 57 (3 * k)).toNatClampNeg)) = S 57 (3 * k + 2)) else true)
/-- told by an age -/
def tdA (S : mw) (p a : Nat) : Nat := ((a : Int) + (S 42 p).toInt).toNat
def agN (S : mw) (p : Nat) : Nat → Nat × Int32 × Int32
  | 0 => (0, -1, -1)
  | a + 1 => if soS S p (nI (tdA S p a)) (sSn S) = true then ((agN S p a).1 + 1, (if (agN S p a).2.1 = -1 then nI a else (agN S p a).2.1), nI a) else agN S p a
def agesR (S : mw) (p : Nat) (a : Int32) : Int32 := if a = 0 then nI (agN S p 121).1 else if a = 1 then (agN S p 121).2.1 else (agN S p 121).2.2
def rAges (S : mw) (p a : Int32) : Int32 := if (0 ≤ p.toInt ∧ p.toInt < pN S) ∧ 0 ≤ a.toInt ∧ a.toInt ≤ 2 then agesR S p.toNatClampNeg a else -2
