def ann (a b : Nat) : Nat := a ^^^ (a &&& b)
theorem anI (a b : Nat) : nI a &&& (nI b ^^^ (-1)) = nI (ann a b) := by
  unfold ann
  rw [← nI_xor, ← nI_and]
  apply Int32.toBitVec_inj.mp
  rw [Int32.toBitVec_and, Int32.toBitVec_xor, Int32.toBitVec_xor, Int32.toBitVec_and]
  apply BitVec.eq_of_getLsbD_eq
  intro i hi
  have h1 : (Int32.toBitVec (-1)).getLsbD i = true := by
    have h2 : (Int32.toBitVec (-1)) = BitVec.allOnes 32 := by decide
    rw [h2, BitVec.getLsbD_allOnes]; simp [hi]
  simp only [BitVec.getLsbD_and, BitVec.getLsbD_xor, h1]
  cases (nI a).toBitVec.getLsbD i <;> cases (nI b).toBitVec.getLsbD i <;> rfl
def rst (s : Nat) : Nat := s &&& (s - 1)
def lob (s : Nat) : Nat := s - (s &&& (s - 1))
def nxp (p r : Nat) : Nat := (p + (1024 - r)) &&& r
def prt (r : Nat) : Nat → Nat
  | 0 => 0
  | k + 1 => nxp (prt r k) r
theorem lobI : ∀ s, s < 1024 → 0 < s → nI s &&& -(nI s) = nI (lob s) := by decide +kernel
def good (s p : Nat) : Bool := decide ((lob s ||| p) &&& s = (lob s ||| p)) && decide (ann s (lob s ||| p) < s) && decide (ann s (lob s ||| p) = s ^^^ (lob s ||| p)) && decide (0 < (lob s ||| p)) && decide ((lob s ||| p) ≤ s) && decide ((nI p - nI (rst s)) &&& nI (rst s) = nI (nxp p (rst s))) && decide (p < 1024)
def chk (s : Nat) : Nat → Nat → Bool
  | 0, p => decide (p = rst s) && good s p
  | n + 1, p => decide (p ≠ rst s) && good s p && decide ((lob s ||| p) < (lob s ||| nxp p (rst s))) && chk s n (nxp p (rst s))
theorem chk_all : ∀ s, s < 1024 → 0 < s → chk s (2 ^ popc (rst s) - 1) 0 = true := by decide +kernel
def lst (s : Nat) : Nat := 2 ^ popc (rst s) - 1
def sbs (s k : Nat) : Nat := lob s ||| prt (rst s) k
theorem chk_at {s : Nat} (h : s < 1024) (h0 : 0 < s) : ∀ k, k ≤ lst s → chk s (lst s - k) (prt (rst s) k) = true
  | 0, _ => chk_all s h h0
  | k + 1, hk => by
    have ih := chk_at h h0 k (by omega)
    rw [show lst s - k = (lst s - (k + 1)) + 1 by omega] at ih
    unfold chk at ih
    simp only [Bool.and_eq_true] at ih
    exact ih.2
theorem chk_good {s p : Nat} : ∀ n, chk s n p = true → good s p = true
  | 0, h => by unfold chk at h; simp only [Bool.and_eq_true] at h; exact h.2
  | n + 1, h => by unfold chk at h; simp only [Bool.and_eq_true] at h; exact h.1.1.2
theorem sbs_good {s k : Nat} (h : s < 1024) (h0 : 0 < s) (hk : k ≤ lst s) : sbs s k &&& s = sbs s k ∧ ann s (sbs s k) < s ∧ ann s (sbs s k) = s ^^^ sbs s k ∧ 0 < sbs s k ∧ sbs s k ≤ s ∧ (nI (prt (rst s) k) - nI (rst s)) &&& nI (rst s) = nI (prt (rst s) (k + 1)) ∧ prt (rst s) k < 1024 := by
  have h1 := chk_good _ (chk_at h h0 k hk)
  unfold good at h1
  simp only [Bool.and_eq_true, decide_eq_true_eq] at h1
  obtain ⟨⟨⟨⟨⟨⟨a1, a2⟩, a3⟩, a4⟩, a5⟩, a6⟩, a7⟩ := h1
  exact ⟨a1, a2, a3, a4, a5, a6, a7⟩
theorem sbs_last {s k : Nat} (h : s < 1024) (h0 : 0 < s) (hk : k ≤ lst s) : prt (rst s) k = rst s ↔ k = lst s := by
  have h1 := chk_at h h0 k hk
  constructor
  · intro e
    by_cases hl : k = lst s
    · exact hl
    · rw [show lst s - k = (lst s - k - 1) + 1 by omega] at h1
      unfold chk at h1
      simp only [Bool.and_eq_true, decide_eq_true_eq] at h1
      exact absurd e h1.1.1.1
  · intro e
    rw [e, Nat.sub_self] at h1
    unfold chk at h1
    simp only [Bool.and_eq_true, decide_eq_true_eq] at h1
    rw [e]; exact h1.1
theorem sbs_asc {s k : Nat} (h : s < 1024) (h0 : 0 < s) (hk : k < lst s) : sbs s k < sbs s (k + 1) := by
  have h1 := chk_at h h0 k (by omega)
  rw [show lst s - k = (lst s - k - 1) + 1 by omega] at h1
  unfold chk at h1
  simp only [Bool.and_eq_true, decide_eq_true_eq] at h1
  exact h1.1.2
theorem lst_1 {s : Nat} : lst s + 1 = 2 ^ popc (rst s) := by unfold lst; have := Nat.one_le_two_pow (n := popc (rst s)); omega
