def tyS (S : mw) (b : Int32) : mw := mU (mU S 38 (sLen S) b) 33 6 (nI (sLen S + 1))
theorem tyS_len {S : mw} {b : Int32} (h : sLen S < 2147483647) : sLen (tyS S b) = sLen S + 1 := by
  show ((tyS S b) 33 6).toNatClampNeg = _
  unfold tyS
  rw [mU_at, cl (by omega)]
theorem tyS_38 {w S : mw} {b x : Int32} (h : w 2 = S 38) : (mU (mU w 2 (sLen S) b) 1 6 x) 2 = (tyS S b) 38 := by
  unfold tyS
  rw [mU_ne (k := 1) (a := 2) (by decide), mU_ne (k := 33) (a := 38) (by decide)]
  funext j
  rw [mU_k, mU_k, h]
theorem tyS_k {S : mw} {b : Int32} {k : Nat} (h1 : k ≠ 38) (h2 : k ≠ 33) : (tyS S b) k = S k := by
  unfold tyS; rw [mU_ne h2, mU_ne h1]
