def Ways (w : mw) (l : List (Nat × Nat)) : Prop := w 33 27 = nI l.length ∧ ∀ k, k < l.length → (w 55 k = nI (l.getD k (0, 0)).1 ∧ w 56 k = nI (l.getD k (0, 0)).2) ∧ (l.getD k (0, 0)).1 < 268435456 ∧ (l.getD k (0, 0)).2 ≤ 73600
def endF (n : Nat) : Nat → List Nat → Bool
  | 0, _ => false
  | f + 1, r => if (cyc (n - 1) r).1 = true then endF n f (cyc (n - 1) r).2 else true
def rowsF (n : Nat) : Nat → List Nat → List (List Nat)
  | 0, _ => []
  | f + 1, r => r :: (if (cyc (n - 1) r).1 = true then rowsF n f (cyc (n - 1) r).2 else [])
def z9 : List Nat := [0, 0, 0, 0, 0, 0, 0, 0, 0]
def wysS (S : mw) : List (Nat × Nat) := (rowsF (pN S) 4140 z9).filterMap (wayO S)
def stp (l : List (Nat × Nat)) (a b : Nat) (y : Int32) : Int32 := if (y = -1 ∨ (nI ((l.getD a (0, 0)).2 + (l.getD b (0, 0)).2)).toInt < y.toInt) ∧ (l.getD a (0, 0)).1 &&& (l.getD b (0, 0)).1 = 0 then nI ((l.getD a (0, 0)).2 + (l.getD b (0, 0)).2) else y
def bkJ (l : List (Nat × Nat)) (a : Nat) : Nat → Int32 → Int32
  | 0, x => x
  | j + 1, x => stp l a (a + j) (bkJ l a j x)
def bkI (l : List (Nat × Nat)) : Nat → Int32
  | 0 => -1
  | a + 1 => bkJ l a (l.length - a) (bkI l a)
def backR (S : mw) : Int32 := if 8 < pN S then -4 else bkI (wysS S) (wysS S).length
theorem MB_27 {w S : mw} {z : Int32} (h : MB w S) : MB (mU w 33 27 z) S := by
  have e : ∀ j, j ≠ 27 → mU w 33 27 z 33 j = w 33 j := fun j hj => mU_at_ne hj
  have e2 : ∀ k, k ≠ 33 → mU w 33 27 z k = w k := fun k hk => mU_ne hk
  obtain ⟨⟨⟨a1, a2, a3, a4⟩, b1, b2⟩, c1⟩ := h
  refine ⟨⟨⟨(e 4 (by decide)).trans a1, (e 6 (by decide)).trans a2, (e 28 (by decide)).trans a3, fun k hk => (e2 k (fun q => absurd (q ▸ hk) (by decide))).trans (a4 k hk)⟩, (e 8 (by decide)).trans b1, fun i hi => by rw [e2 39 (by decide)]; exact b2 i hi⟩, fun b h1 h2 => ?_⟩
  rw [e2 48 (by decide), e2 46 (by decide), e2 47 (by decide)]
  exact c1 b h1 h2
theorem getD_app {l : List (Nat × Nat)} {q : Nat × Nat} {k : Nat} : (l ++ [q]).getD k (0, 0) = if k < l.length then l.getD k (0, 0) else if k = l.length then q else (0, 0) := by
  rw [List.getD_eq_getElem?_getD, List.getD_eq_getElem?_getD]
  by_cases h : k < l.length
  · rw [if_pos h, List.getElem?_append_left h]
  · rw [if_neg h, List.getElem?_append_right (by omega)]
    by_cases h2 : k = l.length
    · rw [if_pos h2, h2, Nat.sub_self]; rfl
    · rw [if_neg h2]
      obtain ⟨z, hz⟩ : ∃ z, k - l.length = z + 1 := ⟨k - l.length - 1, by omega⟩
      rw [hz]; rfl
theorem Ways_add {w : mw} {l : List (Nat × Nat)} {x c : Nat} (h : Ways w l) (hx : x < 268435456) (hc : c ≤ 73600) : Ways (mU (mU (mU w 55 l.length (nI x)) 56 l.length (nI c)) 33 27 (nI (l.length + 1))) (l ++ [(x, c)]) := by
  obtain ⟨h1, h2⟩ := h
  refine ⟨by rw [mU_at, List.length_append]; rfl, fun k hk => ?_⟩
  rw [List.length_append] at hk
  have hk2 : k < l.length + 1 := hk
  have e5 : mU (mU (mU w 55 l.length (nI x)) 56 l.length (nI c)) 33 27 (nI (l.length + 1)) 55 k = if k = l.length then nI x else w 55 k := by
    rw [mU_ne (by decide), mU_ne (by decide), mU_k]
  have e6 : mU (mU (mU w 55 l.length (nI x)) 56 l.length (nI c)) 33 27 (nI (l.length + 1)) 56 k = if k = l.length then nI c else w 56 k := by
    rw [mU_ne (by decide), mU_k, mU_ne (by decide)]
  rw [getD_app, e5, e6]
  by_cases hkl : k < l.length
  · rw [if_pos hkl, if_neg (by omega), if_neg (by omega)]; exact h2 k hkl
  · rw [if_neg hkl, if_pos (by omega), if_pos (by omega), if_pos (by omega)]; exact ⟨⟨rfl, rfl⟩, hx, hc⟩
theorem Row_fr {L : List Nat} {w w1 : mw} {r : List Nat} (h : Row w r) (hf : fr L w w1) (hL : 54 ∉ L) : Row w1 r := ⟨h.1, fun i hi => by rw [hf 54 hL]; exact h.2.1 i hi, h.2.2⟩
theorem Ways_fr {L : List Nat} {w w1 : mw} {l : List (Nat × Nat)} (h : Ways w l) (hf : fr L w w1) (h3 : 33 ∉ L) (h5 : 55 ∉ L) (h6 : 56 ∉ L) : Ways w1 l := by
  refine ⟨by rw [hf 33 h3]; exact h.1, fun k hk => ?_⟩
  rw [hf 55 h5, hf 56 h6]
  exact h.2 k hk
theorem stp_ok {l : List (Nat × Nat)} {a b : Nat} {y : Int32} (hy : -1 ≤ y.toInt) (h : ∀ k, (l.getD k (0, 0)).2 ≤ 73600) : -1 ≤ (stp l a b y).toInt := by
  unfold stp
  have h1 := h a
  have h2 := h b
  split
  · rw [ti (by omega)]; omega
  · exact hy
