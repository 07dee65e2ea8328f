def eqR : List Nat → List Nat → Bool
  | [], [] => true
  | a :: l, b :: m => (Nat.beq a b) && eqR l m
  | _, _ => false
def eqL : List (List Nat) → List (List Nat) → Bool
  | [], [] => true
  | a :: l, b :: m => (eqR a b) && eqL l m
  | _, _ => false
theorem eqR_eq : ∀ l m, eqR l m = true → l = m
  | [], [], _ => rfl
  | [], _ :: _, h => absurd (show false = true from h) (by decide)
  | _ :: _, [], h => absurd (show false = true from h) (by decide)
  | a :: l, b :: m, h => by
    unfold eqR at h
    rw [Bool.and_eq_true] at h
    rw [Nat.eq_of_beq_eq_true h.1, eqR_eq l m h.2]
theorem eqL_eq : ∀ l m, eqL l m = true → l = m
  | [], [], _ => rfl
  | [], _ :: _, h => absurd (show false = true from h) (by decide)
  | _ :: _, [], h => absurd (show false = true from h) (by decide)
  | a :: l, b :: m, h => by
    unfold eqL at h
    rw [Bool.and_eq_true] at h
    rw [eqR_eq a b h.1, eqL_eq l m h.2]
theorem rows_chk : ∀ n, n ≤ 8 → eqL (rowsF n 4140 z9) ((genR n).map pad9) = true := by decide +kernel
theorem rows_gen (n : Nat) (h : n ≤ 8) : rowsF n 4140 z9 = (genR n).map pad9 := eqL_eq _ _ (rows_chk n h)
