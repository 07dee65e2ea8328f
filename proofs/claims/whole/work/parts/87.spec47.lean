/-- the fresh world -/
def k50 : Nat → Int32 := upd (upd (upd (upd (upd (upd (upd (upd (upd (upd (fun _ => 0) 0 50) 1 50) 2 50) 3 50) 4 50) 5 50) 6 50) 7 50) 8 50) 9 50
def kS4 : Nat → Int32 := upd (fun _ => 0) 0 2
def kF4 : Nat → Int32 := upd (upd (upd (upd (fun _ => 0) 0 (-1)) 1 (-1)) 2 (-1)) 3 (-1)
def kw0 : mw := fun k => match k with
  | 1 => upd (fun _ => 0) 8 (-1)
  | 5 => k50
  | 9 => kS4
  | 12 => upd (fun _ => 0) 6 1
  | 24 => upd (fun _ => 0) 2 (-1)
  | 25 => upd (fun _ => 0) 2 (-1)
  | 26 => upd (fun _ => 0) 2 (-1)
  | 27 => upd (fun _ => 0) 2 (-1)
  | 34 => kF4
  | 40 => k50
  | 43 => kS4
  | _ => fun _ => 0
theorem kw0_pN : pN kw0 = 0 := by decide +kernel
theorem kw0_VM : VM kw0 := by
  refine ⟨⟨by decide +kernel, by decide +kernel⟩, by decide +kernel, by decide +kernel, by decide +kernel, ⟨by decide +kernel, by decide +kernel⟩, by decide +kernel, by decide +kernel, ⟨fun i j _ _ => ?_, fun i _ => ?_⟩, ⟨by decide +kernel, by decide +kernel⟩, fun k hk => ?_, by decide +kernel, by decide +kernel⟩
  · show (0 : Nat).testBit j = (0 : Nat).testBit i
    rw [Nat.zero_testBit, Nat.zero_testBit]
  · show (0 : Nat).testBit i = false
    rw [Nat.zero_testBit]
  · have h0 : sSn kw0 = 0 := by decide +kernel
    omega
theorem kw0_INV : INV kw0 := by
  refine ⟨kw0, ⟨⟨rfl, rfl, rfl, rfl, rfl⟩, ⟨?_, ?_, fun i hi => ?_⟩, ⟨rfl, rfl, rfl⟩, ⟨rfl, fun k hk => ?_⟩, fun s hs => ?_, rfl, ⟨⟨rfl, rfl, rfl, rfl⟩, Or.inl rfl⟩⟩, ⟨rfl, rfl, rfl, fun _ _ => rfl⟩, kw0_VM⟩
  · rw [kw0_pN]; rfl
  · decide +kernel
  · rw [kw0_pN] at hi; omega
  · have h0 : sSn kw0 = 0 := by decide +kernel
    omega
  · refine ⟨fun _ => ?_, fun h => ?_⟩
    · match s, hs with
      | 0, _ => rfl
      | 1, _ => rfl
      | 2, _ => rfl
      | 3, _ => rfl
      | n + 4, h => omega
    · exfalso
      match s, hs with
      | 0, _ => exact absurd h (by decide +kernel)
      | 1, _ => exact absurd h (by decide +kernel)
      | 2, _ => exact absurd h (by decide +kernel)
      | 3, _ => exact absurd h (by decide +kernel)
      | n + 4, h => omega
