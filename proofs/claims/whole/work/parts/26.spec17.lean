def lotX (x : Int32) : Nat → Int32
  | 0 => x
  | k + 1 => 1103515245 * lotX x k + 12345
/-- the number that the k-th one draws -/
def lotH (x : Int32) (k : Nat) : Nat := ((lotX x (k + 1)).toUInt32 >>> 16).toNat
def nthB (L : Nat) : Nat → Nat → Nat → Nat
  | 0, j, _ => j
  | f + 1, j, r => if L.testBit j = true then (if r = 0 then j else nthB L f (j + 1) (r - 1)) else nthB L f (j + 1) r
def lotS (S : mw) (x : Int32) : Nat → Nat × (Nat → Nat)
  | 0 => (wh S, fun _ => 0)
  | k + 1 => (ann (lotS S x k).1 (2 ^ nthB (lotS S x k).1 10 0 (lotH x k % (pN S - k))), fun i => if i = nthB (lotS S x k).1 10 0 (lotH x k % (pN S - k)) / sSet S 0 then (lotS S x k).2 i ||| 2 ^ k else (lotS S x k).2 i)
def lotJ (S : mw) (x : Int32) (k : Nat) : Nat := nthB (lotS S x k).1 10 0 (lotH x k % (pN S - k))
def lotC (S : mw) (x : Int32) : Nat → Nat
  | 0 => 0
  | i + 1 => if (lotS S x (pN S)).2 i = 0 then lotC S x i else lotC S x i + costS S ((lotS S x (pN S)).2 i)
theorem ushr16 (y : Int32) : (y.toUInt32 >>> (Int32.toUInt32 16 &&& Int32.toUInt32 31)).toInt32 = nI (y.toUInt32 >>> 16).toNat := by
  rw [show Int32.toUInt32 16 &&& Int32.toUInt32 31 = 16 from by decide]
  refine Int32.toBitVec_inj.mp ?_
  show (y.toUInt32 >>> 16).toBitVec = (Int32.ofNat (y.toUInt32 >>> 16).toNat).toBitVec
  rw [Int32.toBitVec_ofNat']
  have h := BitVec.ofNat_toNat 32 (y.toUInt32 >>> 16).toBitVec
  rw [BitVec.setWidth_eq] at h
  exact h.symm
theorem lotH_lt (x : Int32) (k : Nat) : lotH x k < 65536 := by
  unfold lotH
  rw [UInt32.toNat_shiftRight]
  have h := (lotX x (k + 1)).toUInt32.toNat_lt
  rw [Nat.shiftRight_eq_div_pow]
  have e : (16 : UInt32).toNat % 32 = 16 := rfl
  rw [e]
  omega
theorem nth_ok : ∀ L, L < 1024 → ∀ r, r < popc L → nthB L 10 0 r < 10 ∧ L.testBit (nthB L 10 0 r) = true := by decide +kernel
theorem ann_pop : ∀ L, L < 1024 → ∀ j, j < 10 → L.testBit j = true → popc (ann L (2 ^ j)) + 1 = popc L ∧ ann L (2 ^ j) < 1024 := by decide +kernel
theorem popc_wh : ∀ n, n ≤ 10 → popc (2 ^ n - 1) = n := by decide +kernel
theorem lotS_ok {S : mw} {x : Int32} : ∀ k, k ≤ pN S → popc (lotS S x k).1 + k = pN S ∧ (lotS S x k).1 < 1024 ∧ ∀ i, (lotS S x k).2 i < 2 ^ k
  | 0, _ => by
    have hp := (pN_ok S).1
    have := wh_lt S
    have := two10 hp
    have e : popc (wh S) = pN S := by unfold wh; exact popc_wh _ hp
    exact ⟨by show popc (wh S) + 0 = pN S; rw [Nat.add_zero]; exact e, by show wh S < 1024; omega, fun i => Nat.zero_lt_one⟩
  | k + 1, hk => by
    obtain ⟨h1, h2, h3⟩ := lotS_ok (S := S) (x := x) k (by omega)
    have hr : lotH x k % (pN S - k) < popc (lotS S x k).1 := by
      have := Nat.mod_lt (lotH x k) (show 0 < pN S - k by omega); omega
    obtain ⟨n1, n2⟩ := nth_ok _ h2 _ hr
    obtain ⟨a1, a2⟩ := ann_pop _ h2 _ n1 n2
    refine ⟨?_, a2, fun i => ?_⟩
    · show popc (ann _ _) + (k + 1) = _; omega
    · show (if _ then _ else _) < _
      have hi := h3 i
      have e : 2 ^ k < 2 ^ (k + 1) := Nat.pow_lt_pow_right (by omega) (by omega)
      split
      · exact Nat.or_lt_two_pow (by omega) e
      · omega
theorem lotJ_ok {S : mw} {x : Int32} {k : Nat} (hk : k < pN S) : lotJ S x k < 10 := by
  obtain ⟨h1, h2, _⟩ := lotS_ok (S := S) (x := x) k (by omega)
  exact (nth_ok _ h2 _ (by have := Nat.mod_lt (lotH x k) (show 0 < pN S - k by omega); omega)).1
theorem lotC_le {S : mw} (hV : VM S) (x : Int32) : ∀ i, i ≤ 10 → lotC S x i ≤ 9200 * i
  | 0, _ => Nat.le_refl _
  | i + 1, h => by
    have ih := lotC_le hV x i (by omega)
    have hb := (lotS_ok (S := S) (x := x) (pN S) (Nat.le_refl _)).2.2 i
    unfold lotC
    split
    · omega
    · next h0 =>
      have := costS_le hV hb (by omega)
      have := popc_le ((lotS S x (pN S)).2 i)
      omega
def lotV (S : mw) (x : Int32) : Int32 := nI (lotC S x 10)
