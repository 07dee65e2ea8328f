theorem so_1 {S : mw} {p t k a b : Nat} (ea : S 57 (3 * k) = nI a) (eb : S 57 (3 * k + 1) = nI b) (hap : a = p) (hbn : b < pN S) (hb : b < 10) : soS S p (nI t) (k + 1) = (soS S p (nI t) k && decide ((if (nI t - nI (tld S b)).toInt < 0 then -(nI t - nI (tld S b)) else nI t - nI (tld S b)) = S 57 (3 * k + 2))) := by
  subst hap
  have h : (nI b).toInt = b := ti (by omega)
  rw [soS, if_pos ⟨ea, by rw [eb, h]; omega⟩, eb, cl (by omega)]
theorem so_2 {S : mw} {p t k a b : Nat} (ea : S 57 (3 * k) = nI a) (eb : S 57 (3 * k + 1) = nI b) (hn : ¬ (a = p ∧ b < pN S)) (hap : b = p) (hbn : a < pN S) (hb : b < 10) (ha : a < 10) : soS S p (nI t) (k + 1) = (soS S p (nI t) k && decide ((if (nI t - nI (tld S a)).toInt < 0 then -(nI t - nI (tld S a)) else nI t - nI (tld S a)) = S 57 (3 * k + 2))) := by
  subst hap
  have h : (nI b).toInt = b := ti (by omega)
  have h2 : (nI a).toInt = a := ti (by omega)
  rw [soS, if_neg (fun q => hn ⟨n_eq (ea.symm.trans q.1) (by omega) (by omega), by have := q.2; rw [eb, h] at this; omega⟩), if_pos ⟨eb, by rw [ea, h2]; omega⟩, ea, cl (by omega)]
theorem so_3 {S : mw} {p t k a b : Nat} (ea : S 57 (3 * k) = nI a) (eb : S 57 (3 * k + 1) = nI b) (hn : ¬ (a = p ∧ b < pN S)) (hn2 : ¬ (b = p ∧ a < pN S)) (hb : b < 10) (ha : a < 10) (hp : p < 10) : soS S p (nI t) (k + 1) = soS S p (nI t) k := by
  have h : (nI b).toInt = b := ti (by omega)
  have h2 : (nI a).toInt = a := ti (by omega)
  rw [soS, if_neg (fun q => hn ⟨n_eq (ea.symm.trans q.1) (by omega) (by omega), by have := q.2; rw [eb, h] at this; omega⟩), if_neg (fun q => hn2 ⟨n_eq (eb.symm.trans q.1) (by omega) (by omega), by have := q.2; rw [ea, h2] at this; omega⟩), Bool.and_true]
theorem agN_1 {S : mw} {p a : Nat} (h : soS S p (nI (tdA S p a)) (sSn S) = true) : agN S p (a + 1) = ((agN S p a).1 + 1, (if (agN S p a).2.1 = -1 then nI a else (agN S p a).2.1), nI a) := by rw [agN, if_pos h]
theorem agN_0 {S : mw} {p a : Nat} (h : ¬ soS S p (nI (tdA S p a)) (sSn S) = true) : agN S p (a + 1) = agN S p a := by rw [agN, if_neg h]
theorem agN_le {S : mw} {p : Nat} : ∀ a, (agN S p a).1 ≤ a
  | 0 => Nat.le_refl _
  | a + 1 => by
    have ih := agN_le (S := S) (p := p) a
    unfold agN
    split
    · exact Nat.succ_le_succ ih
    · omega
theorem tdA_t {S : mw} {p a : Nat} (hV : VM S) (hp : p < 10) (ha : a ≤ 120) : (nI a + S 42 p).toInt = a + (S 42 p).toInt := by
  have hl := VM_li hV p hp
  rw [i_add (by rw [ti (by omega)]; omega) (by rw [ti (by omega)]; omega), ti (by omega)]
theorem tdA_0 {S : mw} {p a : Nat} (hV : VM S) (hp : p < 10) (ha : a ≤ 120) (h : (nI a + S 42 p).toInt < 0) : tdA S p a = 0 := by
  have h1 := tdA_t hV hp ha
  unfold tdA; omega
theorem tdA_1 {S : mw} {p a : Nat} (hV : VM S) (hp : p < 10) (ha : a ≤ 120) (h : 0 ≤ (nI a + S 42 p).toInt) : nI a + S 42 p = nI (tdA S p a) := by
  have h1 := tdA_t hV hp ha
  have hl := VM_li hV p hp
  refine i_eq ?_
  rw [h1, ti (by unfold tdA; omega)]; unfold tdA; omega
