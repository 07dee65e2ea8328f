theorem frU1 {w : mw} {k j : Nat} {x : Int32} : fr [k] w (mU w k j x) := fr_U (List.mem_cons_self)
/-- the class, of the people's row but for what understand makes -/
def frP (w w1 : mw) : Prop := fr [1, 3] w w1 ∧ ∀ j, j ≠ 8 → w1 1 j = w 1 j
theorem frP_rf {w : mw} : frP w w := ⟨fr_rf, fun _ _ => rfl⟩
theorem frP_tr {w w1 w2 : mw} (h : frP w w1) (h2 : frP w1 w2) : frP w w2 := ⟨fr_tr h.1 h2.1, fun j h8 => (h2.2 j h8).trans (h.2 j h8)⟩
theorem frP_8 {w : mw} {x : Int32} : frP w (mU w 1 8 x) := ⟨fr_U (by decide), fun j h8 => mU_at_ne h8⟩
theorem frP_a {w : mw} {j : Nat} {x : Int32} : frP w (mU w 3 j x) := ⟨fr_U (by decide), fun _ _ => by rw [mU_ne (by decide)]⟩
