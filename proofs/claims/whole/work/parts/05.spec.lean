theorem i_lt {x z : Int32} (h : x < z) : x.toInt < z.toInt := Int32.lt_iff_toInt_lt.mp h
theorem i_nlt {x z : Int32} (h : ¬ x < z) : z.toInt ≤ x.toInt := by
  have : ¬ x.toInt < z.toInt := fun q => h (Int32.lt_iff_toInt_lt.mpr q)
  omega
theorem i_le {x z : Int32} (h : x ≤ z) : x.toInt ≤ z.toInt := Int32.le_iff_toInt_le.mp h
theorem i_nle {x z : Int32} (h : ¬ x ≤ z) : z.toInt < x.toInt := by
  have : ¬ x.toInt ≤ z.toInt := fun q => h (Int32.le_iff_toInt_le.mpr q)
  omega
theorem i_ne {x z : Int32} (h : ¬ x = z) : x.toInt ≠ z.toInt := fun q => h (Int32.toInt_inj.mp q)
theorem i_eq {x z : Int32} (h : x.toInt = z.toInt) : x = z := Int32.toInt_inj.mp h
theorem n_lt {a b : Nat} (h : nI a < nI b) (ha : a < 2147483648) (hb : b < 2147483648) : a < b := (nI_ltI ha hb).mp h
theorem n_nlt {a b : Nat} (h : ¬ nI a < nI b) (ha : a < 2147483648) (hb : b < 2147483648) : b ≤ a := by
  have : ¬ a < b := fun q => h ((nI_ltI ha hb).mpr q)
  omega
theorem n_le {a b : Nat} (h : nI a ≤ nI b) (ha : a < 2147483648) (hb : b < 2147483648) : a ≤ b := (nI_leI ha hb).mp h
theorem n_nle {a b : Nat} (h : ¬ nI a ≤ nI b) (ha : a < 2147483648) (hb : b < 2147483648) : b < a := by
  have : ¬ a ≤ b := fun q => h ((nI_leI ha hb).mpr q)
  omega
theorem n_eq {a b : Nat} (h : nI a = nI b) (ha : a < 2147483648) (hb : b < 2147483648) : a = b := (nI_eq ha hb).mp h
theorem n_ne {a b : Nat} (h : ¬ nI a = nI b) (ha : a < 2147483648) (hb : b < 2147483648) : a ≠ b := fun q => h ((nI_eq ha hb).mpr q)
theorem i_nI {x : Int32} (h : 0 ≤ x.toInt) : x = nI x.toNatClampNeg := by
  apply Int32.toInt_inj.mp
  have h1 : x.toNatClampNeg = x.toInt.toNat := rfl
  have h2 := Int32.toInt_lt x
  rw [nI_toInt (by omega)]
  omega
theorem i_nIof {x : Int32} {n : Nat} (h : 0 ≤ x.toInt) (h2 : x.toInt < n) : ∃ j, j < n ∧ x = nI j := ⟨x.toNatClampNeg, by have h1 : x.toNatClampNeg = x.toInt.toNat := rfl; omega, i_nI h⟩
theorem l_cmp_lt {x z : Int64} (h : lg_cmp x z < 0) : x.toInt < z.toInt := by
  unfold lg_cmp at h
  by_cases h1 : x > z
  · rw [if_pos h1] at h; exact absurd h (by decide)
  · rw [if_neg h1] at h
    by_cases h2 : x = z
    · rw [if_pos h2] at h; exact absurd h (by decide)
    · have h3 : ¬ z.toInt < x.toInt := fun q => h1 (Int64.lt_iff_toInt_lt.mpr q)
      have h4 : x.toInt ≠ z.toInt := fun q => h2 (Int64.toInt_inj.mp q)
      omega
theorem l_cmp_nlt {x z : Int64} (h : ¬ lg_cmp x z < 0) : z.toInt ≤ x.toInt := by
  unfold lg_cmp at h
  by_cases h1 : x > z
  · have h3 : z.toInt < x.toInt := Int64.lt_iff_toInt_lt.mp h1
    omega
  · rw [if_neg h1] at h
    by_cases h2 : x = z
    · rw [h2]; exact Int.le_refl _
    · rw [if_neg h2] at h; exact absurd (by decide) h
theorem l_cmp_gt {x z : Int64} (h : 0 < lg_cmp x z) : z.toInt < x.toInt := by
  unfold lg_cmp at h
  by_cases h1 : x > z
  · exact Int64.lt_iff_toInt_lt.mp h1
  · rw [if_neg h1] at h
    by_cases h2 : x = z
    · rw [if_pos h2] at h; exact absurd h (by decide)
    · rw [if_neg h2] at h; exact absurd h (by decide)
theorem l_cmp_ngt {x z : Int64} (h : ¬ 0 < lg_cmp x z) : x.toInt ≤ z.toInt := by
  unfold lg_cmp at h
  by_cases h1 : x > z
  · rw [if_pos h1] at h; exact absurd (by decide) h
  · have h3 : ¬ z.toInt < x.toInt := fun q => h1 (Int64.lt_iff_toInt_lt.mpr q)
    omega
theorem l_cmp_le {x z : Int64} (h : lg_cmp x z ≤ 0) : x.toInt ≤ z.toInt := l_cmp_ngt (fun q => by have h1 := i_le h; have h2 := i_lt q; omega)
theorem l_cmp_nle {x z : Int64} (h : ¬ lg_cmp x z ≤ 0) : z.toInt < x.toInt := l_cmp_gt (by have := i_nle h; exact Int32.lt_iff_toInt_lt.mpr this)
/-- rows that stay -/
def fr (L : List Nat) (w w1 : mw) : Prop := ∀ k, k ∉ L → w1 k = w k
theorem fr_rf {L : List Nat} {w : mw} : fr L w w := fun _ _ => rfl
theorem fr_tr {L : List Nat} {w w1 w2 : mw} (h : fr L w w1) (h2 : fr L w1 w2) : fr L w w2 := fun k hk => (h2 k hk).trans (h k hk)
theorem fr_sub {L L2 : List Nat} {w w1 : mw} (h : fr L w w1) (hs : ∀ k ∈ L, k ∈ L2) : fr L2 w w1 := fun k hk => h k (fun q => hk (hs k q))
theorem fr_U {L : List Nat} {w : mw} {k j : Nat} {x : Int32} (h : k ∈ L) : fr L w (mU w k j x) := fun a ha => mUr_ne (fun q => ha (q ▸ h))
theorem mU_ne {w : mw} {k j a : Nat} {x : Int32} (h : a ≠ k) : mU w k j x a = w a := mUr_ne h
theorem mU_at {w : mw} {k j : Nat} {x : Int32} : mU w k j x k j = x := by unfold mU; rw [mUr_eq]; exact pk_us
theorem mU_at_ne {w : mw} {k j i : Nat} {x : Int32} (h : i ≠ j) : mU w k j x k i = w k i := by unfold mU; rw [mUr_eq]; exact pk_un h
theorem mU_k {w : mw} {k j i : Nat} {x : Int32} : mU w k j x k i = if i = j then x else w k i := by unfold mU; rw [mUr_eq]; rfl
theorem mk31 : ∀ k, k < 32 → ((nI k &&& 31).toBitVec.smod 32).toNat = k := by decide +kernel
theorem sh1 {k : Nat} (h : k < 31) : (1 : Int32) <<< (nI k &&& 31) = nI (2 ^ k) := by
  have h1 := pk_shlN (n := 1) (nI k &&& 31) k (mk31 k (by omega)) (by rw [Nat.one_mul]; exact Nat.pow_lt_pow_right (by omega) (by omega))
  rw [Nat.one_mul] at h1
  exact h1
theorem shr {b k : Nat} (hb : b < 2147483648) (h : k < 32) : nI b >>> (nI k &&& 31) = nI (b / 2 ^ k) := pk_shrN hb (nI k &&& 31) k (mk31 k h)
theorem and1 {b : Nat} (hb : b < 2147483648) : nI b &&& 1 = nI (b % 2) := pk_andN (n := b) (by omega) (m := 1) 1 rfl
theorem tb_div {b k : Nat} : (b / 2 ^ k % 2 = 1) ↔ b.testBit k = true := by rw [Nat.testBit_eq_decide_div_mod_eq]; simp
theorem two_lt {k n : Nat} (h : k < n) (hn : n ≤ 10) : 2 ^ k < 1024 := Nat.lt_of_lt_of_le (Nat.pow_lt_pow_right (by omega) (show k < 10 by omega)) (Nat.le_refl _)
/-- the state as the check's rows have it -/
def sLen (S : mw) : Nat := (S 33 6).toNatClampNeg
def sWt (S : mw) (i : Nat) : Nat := (S 40 i).toNatClampNeg
def sHr (S : mw) (i : Nat) : Nat := (S 41 i).toNatClampNeg
def sSet (S : mw) (i : Nat) : Nat := (S 43 i).toNatClampNeg
def sWo (S : mw) (i : Nat) : Nat := (S 44 i).toNatClampNeg
def sMu (S : mw) (i : Nat) : Nat := (S 45 i).toNatClampNeg
def sSn (S : mw) : Nat := (S 33 28).toNatClampNeg
def sSz (S : mw) (s : Nat) : Nat := (S 35 s).toNatClampNeg
def sHi (i : Nat) : Nat := match i with | 0 => 4 | 1 => 2 | 2 => 99 | _ => 9
def VM (S : mw) : Prop :=
  (S 33 6 = nI (sLen S) ∧ sLen S ≤ 40) ∧
  (∀ i, i < 10 → S 40 i = nI (sWt S i) ∧ sWt S i ≤ 99) ∧
  (∀ i, i < 10 → S 41 i = nI (sHr S i) ∧ sHr S i ≤ 99) ∧
  (∀ i, i < 10 → -30 ≤ (S 42 i).toInt ∧ (S 42 i).toInt ≤ 30) ∧
  ((∀ i, i < 4 → S 43 i = nI (sSet S i) ∧ sSet S i ≤ sHi i) ∧ 1 ≤ sSet S 0) ∧
  (∀ i, i < 10 → S 44 i = nI (sWo S i) ∧ sWo S i < 1024) ∧
  (∀ i, i < 10 → S 45 i = nI (sMu S i) ∧ sMu S i < 1024) ∧
  ((∀ i j, i < 10 → j < 10 → (sMu S i).testBit j = (sMu S j).testBit i) ∧ ∀ i, i < 10 → (sMu S i).testBit i = false) ∧
  (S 33 28 = nI (sSn S) ∧ sSn S ≤ 8) ∧
  (∀ k, k < sSn S → (∃ a b, S 57 (3 * k) = nI a ∧ S 57 (3 * k + 1) = nI b ∧ a < 10 ∧ b < 10 ∧ a ≠ b) ∧ 0 ≤ (S 57 (3 * k + 2)).toInt ∧ (S 57 (3 * k + 2)).toInt ≤ 200) ∧
  (∀ s, s < 4 → -1 ≤ (S 34 s).toInt ∧ (S 34 s).toInt ≤ 2) ∧
  (∀ s, s < 4 → S 35 s = nI (sSz S s) ∧ sSz S s ≤ 60)
def pRows : List Nat := [34, 35, 36, 38, 40, 41, 42, 43, 44, 45, 57]
def MM (w S : mw) : Prop := w 33 4 = S 33 4 ∧ w 33 6 = S 33 6 ∧ w 33 28 = S 33 28 ∧ ∀ k, k ∈ pRows → w k = S k
theorem MM.r {w S : mw} (h : MM w S) (k : Nat) (hk : k ∈ pRows := by decide) : w k = S k := h.2.2.2 k hk
/-- the people, out of the text -/
def dig (x : Int32) : Bool := decide (48 ≤ x.toInt ∧ x.toInt ≤ 57)
def efr (t : Nat → Int32) (n e : Nat) : Nat → Nat
  | 0 => e
  | k + 1 => if e < n ∧ dig (t e) = true then efr t n (e + 1) k else e
def agv (t : Nat → Int32) (e : Nat) : Nat → Nat
  | 0 => 0
  | k + 1 => 10 * agv t e k + ((t (e + k)).toInt.toNat - 48)
def pos (t : Nat → Int32) (n : Nat) : Nat → Nat
  | 0 => 0
  | r + 1 => efr t n (pos t n r) 3 + 1
def pEnd (t : Nat → Int32) (n r : Nat) : Nat := efr t n (pos t n r) 3
def pAge (t : Nat → Int32) (n r : Nat) : Nat := agv t (pos t n r) (pEnd t n r - pos t n r)
def pgo (t : Nat → Int32) (n : Nat) : Nat → Nat → Int32 × Nat
  | 0, r => (nI (pos t n r), 0)
  | f + 1, r => if pEnd t n r = pos t n r ∨ 120 < pAge t n r then (nI (pos t n r), 0) else if n ≤ pEnd t n r then (-1, r + 1) else if t (pEnd t n r) = 59 then pgo t n f (r + 1) else (nI (pEnd t n r), 0)
def pres (t : Nat → Int32) (n : Nat) : Int32 × Nat := if n = 0 then (-1, 0) else pgo t n 10 0
def pF (S : mw) : Int32 := (pres (S 38) (sLen S)).1
def pN (S : mw) : Nat := (pres (S 38) (sLen S)).2
def pA (S : mw) (i : Nat) : Nat := pAge (S 38) (sLen S) i
def tld (S : mw) (i : Nat) : Nat := ((pA S i : Int) + (S 42 i).toInt).toNat
/-- the check, behind its reading of the text -/
def MP (w S : mw) : Prop := MM w S ∧ w 33 8 = nI (pN S) ∧ ∀ i, i < pN S → w 39 i = nI (pA S i)
