def prS (f : Nat → Nat) : Nat → Nat
  | 0 => 0
  | i + 1 => prS f i + popc (f i)
def agS (S : mw) : Nat → Nat
  | 0 => 0
  | i + 1 => agS S i + pA S i
def liN (S : mw) : Nat → Nat
  | 0 => 0
  | i + 1 => if S 42 i = 0 then liN S i else liN S i + 1
def cntS (S : mw) (x : Int32) : Int32 := if x.toInt = 0 then nI (pN S) else if x.toInt = 1 then nI (sLen S) else if x.toInt = 2 then nI (agS S (pN S)) else if x.toInt = 3 then nI (liN S (pN S)) else if x.toInt = 4 then nI (prS (sWo S) 10 / 2) else if x.toInt = 5 then nI (prS (sMu S) 10 / 2) else if x.toInt = 6 then nI (sSn S) else if x.toInt = 7 then nI (sSet S 0) else if x.toInt = 8 then S 33 4 else -2
theorem prS_le {f : Nat → Nat} : ∀ i, prS f i ≤ 10 * i
  | 0 => Nat.le_refl _
  | i + 1 => by
    have ih := prS_le (f := f) i
    have := popc_le (f i)
    show prS f i + popc (f i) ≤ _
    omega
