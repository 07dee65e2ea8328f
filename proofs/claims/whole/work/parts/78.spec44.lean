theorem p_ok {S : mw} {p : Nat} (hp : p < pN S) : 0 ≤ (nI p).toInt ∧ (nI p).toInt < pN S := by
  have := (pN_ok S).1
  rw [ti (by omega)]; omega
theorem p_cl {S : mw} {p : Nat} (hp : p < pN S) : (nI p).toNatClampNeg = p := cl (by have := (pN_ok S).1; omega)
theorem rPerson_0 {S : mw} {p : Nat} (hp : p < pN S) : rPerson S (nI p) 0 = nI (pA S p) := by
  unfold rPerson; rw [if_pos ⟨p_ok hp, by decide⟩, if_pos rfl, p_cl hp]
theorem rPerson_1 {S : mw} {p : Nat} (hp : p < pN S) : rPerson S (nI p) 1 = nI (tld S p) := by
  unfold rPerson; rw [if_pos ⟨p_ok hp, by decide⟩, if_neg (by decide), p_cl hp]
theorem rWith_p {S : mw} {p : Nat} (hp : p < pN S) : rWith S (nI p) = withR S p := by
  unfold rWith; rw [if_pos (p_ok hp), p_cl hp]
theorem rPays_p {S : mw} {p : Nat} {a : Int32} (hp : p < pN S) (ha : 0 ≤ a.toInt ∧ a.toInt ≤ 1) : rPays S (nI p) a = paysR S p a := by
  unfold rPays; rw [if_pos ⟨p_ok hp, ha⟩, p_cl hp]
theorem rShare_p {S : mw} {p : Nat} {a : Int32} (hp : p < pN S) (ha : 0 ≤ a.toInt ∧ a.toInt ≤ 1) : rShare S (nI p) a = shareR S p a := by
  unfold rShare; rw [if_pos ⟨p_ok hp, ha⟩, p_cl hp]
theorem rLies_p {S : mw} {p : Nat} (hp : p < pN S) : rLies S (nI p) 3 = liesR S p 3 := by
  unfold rLies; rw [if_pos ⟨p_ok hp, by decide⟩, p_cl hp]; rfl
theorem rAges_p {S : mw} {p : Nat} {a : Int32} (hp : p < pN S) (ha : 0 ≤ a.toInt ∧ a.toInt ≤ 2) : rAges S (nI p) a = agesR S p a := by
  unfold rAges; rw [if_pos ⟨p_ok hp, ha⟩, p_cl hp]
theorem rDay_w {S : mw} {a : Int32} (ha : 0 ≤ a.toInt ∧ a.toInt ≤ 2) : rDay S (nI (wh S)) a = dayR S (wh S) a := by
  have h1 := wh_lt S
  have h2 := two10 (pN_ok S).1
  unfold rDay
  rw [if_pos ⟨by rw [ti (by omega)]; omega, ha⟩, cl (by omega)]
