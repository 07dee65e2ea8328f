/-- those of a boat get its number -/
def wrB (T : mw) (s : Nat) (f : Int32) (b r : Nat) : Nat → mw
  | 0 => T
  | p + 1 => if b.testBit p = true then mU (wrB T s f b r p) 36 (60 * s + p) (cutS f (nI r)) else wrB T s f b r p
def wrS (S : mw) (s n : Nat) (f : Int32) : Nat → Nat → Nat → mw → mw
  | 0, _, _, T => T
  | k + 1, x, r, T => if x = 0 then T else wrS S s n f k (ann x (DC S x).2.2.1) (r + 1) (wrB T s f (DC S x).2.2.1 r n)
def wrN (S : mw) (s : Nat) : Nat := if sSz S s < pN S then sSz S s else pN S
def oWrite (S : mw) (s : Int32) : Int32 × mw := if ¬ (0 ≤ s.toInt ∧ s.toInt ≤ 3) then (-2, S) else if (S 34 s.toNatClampNeg).toInt < 0 then (-11, mU S 33 4 1) else if (DC S (wh S)).2.2.2 = 0 then (-3, S) else (nI (wrN S s.toNatClampNeg), wrS S s.toNatClampNeg (wrN S s.toNatClampNeg) (S 34 s.toNatClampNeg) 10 (wh S) 0 S)
theorem wrB_fr {T : mw} {s : Nat} {f : Int32} {b r : Nat} : ∀ p, fr [36] T (wrB T s f b r p)
  | 0 => fr_rf
  | p + 1 => by
    unfold wrB
    split
    · exact fr_U2 (wrB_fr p) (by decide)
    · exact wrB_fr p
theorem wrS_fr {S : mw} {s n : Nat} {f : Int32} : ∀ k x r T, fr [36] T (wrS S s n f k x r T)
  | 0, _, _, _ => fr_rf
  | k + 1, x, r, T => by
    unfold wrS
    split
    · exact fr_rf
    · exact fr_tr (wrB_fr n) (wrS_fr k _ _ _)
theorem wrB_MM {w T : mw} {s : Nat} {f : Int32} {b r : Nat} (h : MM w T) : ∀ p, MM (wrB w s f b r p) (wrB T s f b r p)
  | 0 => h
  | p + 1 => by
    unfold wrB
    split
    · exact MM_p (wrB_MM h p) (by decide)
    · exact wrB_MM h p
theorem wrS_MM {S : mw} {s n : Nat} {f : Int32} : ∀ k x r (w T : mw), MM w T → MM (wrS S s n f k x r w) (wrS S s n f k x r T)
  | 0, _, _, _, _, h => h
  | k + 1, x, r, w, T, h => by
    unfold wrS
    split
    · exact h
    · exact wrS_MM k _ _ _ _ (wrB_MM h n)
