def dgC (S : mw) : Nat → Int64
  | 0 => 17
  | k + 1 => 31 * dgC S k + (cntS S (nI k)).toInt64
def dgF (S : mw) : Int64 := 31 * dgC S 8 + (pF S).toInt64
def dgO (S : mw) (h : Int64) (p : Nat) : Int64 := 31 * (31 * (31 * (31 * (31 * (31 * (31 * (31 * (31 * (31 * (31 * h + (nI (pA S p)).toInt64) + (nI (tld S p)).toInt64) + (withR S p).toInt64) + paysR S p 0) + paysR S p 1) + shareR S p 0) + shareR S p 1) + (liesR S p 3).toInt64) + (agesR S p 0).toInt64) + (agesR S p 1).toInt64) + (agesR S p 2).toInt64
def dgL (S : mw) : Nat → Int64
  | 0 => dgF S
  | p + 1 => dgO S (dgL S p) p
def dgD (S : mw) : Nat → Int64
  | 0 => dgL S (pN S)
  | k + 1 => 31 * dgD S k + (dayR S (wh S) (nI k)).toInt64
def digS (S : mw) : Int64 := 31 * (31 * (31 * dgD S 3 + (oddR S).toInt64) + (backR S).toInt64) + (lotV S 7).toInt64
