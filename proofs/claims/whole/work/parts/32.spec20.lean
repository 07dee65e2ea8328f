theorem nI_dn (a : Nat) : nI (a + 1) + (-1) = nI a := by
  rw [← nI_add a 1, Int32.add_assoc]
  exact Int32.add_zero _
/-- rows: of each one the number of its boat -/
def mxR (r : List Nat) : Nat → Nat
  | 0 => 0
  | j + 1 => if mxR r j ≤ r.getD j 0 then r.getD j 0 + 1 else mxR r j
def cyc : Nat → List Nat → Bool × List Nat
  | 0, r => (false, r)
  | i + 1, r => if r.getD (i + 1) 0 < mxR r (i + 1) then (true, r.set (i + 1) (r.getD (i + 1) 0 + 1)) else cyc i (r.set (i + 1) 0)
theorem mxR_le {r : List Nat} (h : ∀ i, r.getD i 0 ≤ i) : ∀ j, mxR r j ≤ j
  | 0 => Nat.zero_le _
  | j + 1 => by
    have ih := mxR_le h j
    have := h j
    unfold mxR
    split <;> omega
theorem getD_set {r : List Nat} {i j v : Nat} (hi : i < r.length) : (r.set i v).getD j 0 = if j = i then v else r.getD j 0 := by
  rw [List.getD_eq_getElem?_getD, List.getD_eq_getElem?_getD, List.getElem?_set]
  by_cases h : i = j
  · subst h; rw [if_pos rfl, if_pos rfl, if_pos hi]; rfl
  · rw [if_neg h, if_neg (fun q => h q.symm)]
def Row (w : mw) (r : List Nat) : Prop := r.length = 9 ∧ (∀ i, i < 9 → w 54 i = nI (r.getD i 0)) ∧ ∀ i, r.getD i 0 ≤ i
theorem Row_set {w : mw} {r : List Nat} (h : Row w r) {i v : Nat} (hi : i < 9) (hv : v ≤ i) : Row (mU w 54 i (nI v)) (r.set i v) := by
  obtain ⟨h1, h2, h3⟩ := h
  refine ⟨by rw [List.length_set]; exact h1, fun j hj => ?_, fun j => ?_⟩
  · rw [mU_k, getD_set (by omega)]
    split
    · rfl
    · exact h2 j hj
  · rw [getD_set (by omega)]
    split
    · next e => rw [e]; exact hv
    · exact h3 j
