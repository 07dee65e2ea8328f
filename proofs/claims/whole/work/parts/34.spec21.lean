/-- those of the g-th boat of a row -/
def grp (r : List Nat) (g : Nat) : Nat → Nat
  | 0 => 0
  | p + 1 => if r.getD p 0 = g then grp r g p ||| 2 ^ p else grp r g p
abbrev gOk (S : mw) (b : Nat) : Prop := okS S b = true ∧ ann (needS S b) b &&& wh S = 0
def wayF (S : mw) (r : List Nat) : Nat → Nat → Nat → Option Nat
  | 0, _, c => some c
  | f + 1, g, c => if grp r g (pN S) = 0 then wayF S r f (g + 1) c else if gOk S (grp r g (pN S)) then wayF S r f (g + 1) (c + costS S (grp r g (pN S))) else none
def prJ (r : List Nat) (i : Nat) : Nat → Nat × Nat → Nat × Nat
  | 0, t => t
  | j + 1, t => (if r.getD i 0 = r.getD j 0 then (prJ r i j t).1 ||| 2 ^ (prJ r i j t).2 else (prJ r i j t).1, (prJ r i j t).2 + 1)
def pI (r : List Nat) : Nat → Nat × Nat
  | 0 => (0, 0)
  | i + 1 => prJ r i i (pI r i)
def tri : Nat → Nat
  | 0 => 0
  | i + 1 => tri i + i
theorem grp_lt {r : List Nat} {g : Nat} : ∀ n, grp r g n < 2 ^ n
  | 0 => Nat.zero_lt_one
  | n + 1 => by
    have ih := grp_lt (r := r) (g := g) n
    have e : 2 ^ n < 2 ^ (n + 1) := Nat.pow_lt_pow_right (by omega) (by omega)
    unfold grp
    split
    · exact Nat.or_lt_two_pow (by omega) e
    · omega
theorem prJ_2 {r : List Nat} {i : Nat} {t : Nat × Nat} : ∀ j, (prJ r i j t).2 = t.2 + j
  | 0 => rfl
  | j + 1 => by
    have ih := prJ_2 (r := r) (i := i) (t := t) j
    show (prJ r i j t).2 + 1 = _
    omega
theorem prJ_1 {r : List Nat} {i : Nat} {t : Nat × Nat} (h : t.1 < 2 ^ t.2) : ∀ j, (prJ r i j t).1 < 2 ^ (prJ r i j t).2
  | 0 => h
  | j + 1 => by
    have ih := prJ_1 (r := r) (i := i) h j
    have e : 2 ^ (prJ r i j t).2 < 2 ^ ((prJ r i j t).2 + 1) := Nat.pow_lt_pow_right (by omega) (by omega)
    show (if _ then _ else _) < 2 ^ ((prJ r i j t).2 + 1)
    split
    · exact Nat.or_lt_two_pow (by omega) e
    · omega
theorem pI_2 {r : List Nat} : ∀ i, (pI r i).2 = tri i
  | 0 => rfl
  | i + 1 => by
    have ih := pI_2 (r := r) i
    show (prJ r i i (pI r i)).2 = _
    rw [prJ_2, ih]; rfl
theorem pI_1 {r : List Nat} : ∀ i, (pI r i).1 < 2 ^ (pI r i).2
  | 0 => Nat.zero_lt_one
  | i + 1 => prJ_1 (pI_1 i) i
theorem tri_le : ∀ i, i ≤ 8 → tri i ≤ 28 := by decide
/-- the pairs and the cost of a way -/
def wayO (S : mw) (r : List Nat) : Option (Nat × Nat) := (wayF S r (pN S) 0 0).map (fun c => ((pI r (pN S)).1, c))
theorem wayF_le {S : mw} (hV : VM S) {r : List Nat} : ∀ f g c z, wayF S r f g c = some z → z ≤ c + 9200 * f
  | 0, g, c, z, h => by
    have h2 : some c = some z := h
    cases h2; omega
  | f + 1, g, c, z, h => by
    have hb := grp_lt (r := r) (g := g) (pN S)
    unfold wayF at h
    split at h
    · have := wayF_le hV f _ _ _ h; omega
    · next h0 =>
      split at h
      · have h1 := wayF_le hV f _ _ _ h
        have h2 := costS_le hV hb (by omega)
        have h3 := popc_le (grp r g (pN S))
        omega
      · exact absurd h (by simp)
