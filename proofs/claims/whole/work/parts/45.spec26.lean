/-- the class, in the check's words -/
def CPt (w S : mw) : Prop := w 2 = S 38 ∧ w 5 = S 40 ∧ w 6 = S 41 ∧ w 7 = S 42 ∧ w 1 6 = S 33 6
def CPp (w S : mw) : Prop := w 1 7 = nI (pN S) ∧ w 1 8 = pF S ∧ ∀ i, i < pN S → w 3 i = nI (pA S i) ∧ w 4 i = nI (tld S i)
def CRr (w S : mw) : Prop := w 9 = S 43 ∧ w 10 = S 44 ∧ w 11 = S 45
def CGs (w S : mw) : Prop := w 19 3 = S 33 28 ∧ ∀ k, k < sSn S → w 20 k = S 57 (3 * k) ∧ w 21 k = S 57 (3 * k + 1) ∧ w 22 k = S 57 (3 * k + 2)
def CSh (w S : mw) (s : Nat) : Prop := ((S 34 s).toInt < 0 → w (24 + s) 2 = -1) ∧ (0 ≤ (S 34 s).toInt → w (24 + s) 1 = S 34 s ∧ w (24 + s) 2 = S 35 s ∧ ∀ i, i < sSz S s → w (28 + s) i = S 36 (60 * s + i))
def enD (v : dv) : Int32 := if v.2.2.2 = 0 then 2147483647 else nI ((v.1 * 16 + v.2.1) * 1024 + v.2.2.1)
def CD0 (w : mw) : Prop := w 13 0 = 0 ∧ w 14 0 = 0 ∧ w 15 0 = 0 ∧ w 16 0 = 0
def CDb (w S : mw) (n : Nat) : Prop := ∀ b, 0 < b → b < n → w 13 b = (if okS S b = true then nI (costS S b) else -1) ∧ w 14 b = nI (needS S b)
def CDt (w S : mw) (n : Nat) : Prop := ∀ b, 0 < b → b < n → w 15 b = enD (DC S b) ∧ w 16 b = m1v (DC S b).2.2.2
def CDd (w S : mw) : Prop := CD0 w ∧ (w 12 6 = 1 ∨ (w 12 6 = 0 ∧ CDb w S (2 ^ pN S) ∧ CDt w S (2 ^ pN S)))
def CC (w S : mw) : Prop := CPt w S ∧ CPp w S ∧ CRr w S ∧ CGs w S ∧ (∀ s, s < 4 → CSh w S s) ∧ w 0 7 = S 33 4 ∧ CDd w S
def cRows : List Nat := [0, 1, 2, 3, 4, 5, 6, 7, 8, 9, 10, 11, 12, 13, 14, 15, 16, 17, 18, 19, 20, 21, 22, 23, 24, 25, 26, 27, 28, 29, 30, 31, 32]
theorem CPp_ok {w S : mw} (h : CPp w S) (hV : VM S) : pN S ≤ 10 := (pN_ok S).1
/-- behind understand -/
theorem CPp_un {w0 w S : mw} {n : Nat} (e2 : w0 2 = S 38) (e7 : w0 7 = S 42) (hn : n = sLen S) (h7 : w 1 7 = nI (pres (w0 2) n).2) (h8 : w 1 8 = (pres (w0 2) n).1) (h3 : ∀ i, i < (pres (w0 2) n).2 → w 3 i = nI (pAge (w0 2) n i) ∧ w 4 i = nI (((pAge (w0 2) n i : Nat) + (w0 7 i).toInt).toNat)) : CPp w S := by
  subst hn
  rw [e2] at h7 h8 h3
  rw [e7] at h3
  exact ⟨h7, h8, h3⟩
