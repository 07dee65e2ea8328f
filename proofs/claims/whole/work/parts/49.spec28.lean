theorem CC_t {w w1 S S2 : mw} (h : CC w S) (h1 : CPt w1 S2) (h2 : CPp w1 S2) (hf : fr [1, 2, 3, 4, 5, 6, 7, 12] w w1) (h12 : w1 12 6 = 1) (hS : ∀ k, k ≠ 38 → k ≠ 33 → k ≠ 40 → k ≠ 41 → k ≠ 42 → S2 k = S k) (h4 : S2 33 4 = S 33 4) (h28 : S2 33 28 = S 33 28) : CC w1 S2 := by
  obtain ⟨_, _, c3, c4, c5, c6, c7⟩ := h
  have hn : ∀ k, 17 ≤ k → k ∉ [1, 2, 3, 4, 5, 6, 7, 12] := by
    intro k hk q
    simp at q
    omega
  have hs : ∀ k, k ∈ [34, 35, 36, 43, 44, 45, 57] → S2 k = S k := fun k hk => hS k (fun q => absurd (q ▸ hk) (by decide)) (fun q => absurd (q ▸ hk) (by decide)) (fun q => absurd (q ▸ hk) (by decide)) (fun q => absurd (q ▸ hk) (by decide)) (fun q => absurd (q ▸ hk) (by decide))
  refine ⟨h1, h2, ?_, ?_, fun s hs4 => ?_, ?_, ?_⟩
  · unfold CRr
    rw [hf 9 (by decide), hf 10 (by decide), hf 11 (by decide), hs 43 (by decide), hs 44 (by decide), hs 45 (by decide)]
    exact c3
  · unfold CGs sSn
    rw [hf 19 (by decide), hf 20 (by decide), hf 21 (by decide), hf 22 (by decide), h28, hs 57 (by decide)]
    exact c4
  · unfold CSh sSz
    rw [hf (24 + s) (hn _ (by omega)), hf (28 + s) (hn _ (by omega)), hs 34 (by decide), hs 35 (by decide), hs 36 (by decide)]
    exact c5 s hs4
  · rw [hf 0 (by decide), h4]; exact c6
  · refine ⟨?_, Or.inl h12⟩
    unfold CD0
    rw [hf 13 (by decide), hf 14 (by decide), hf 15 (by decide), hf 16 (by decide)]
    exact c7.1
theorem tyS_33 {S : mw} {b : Int32} {j : Nat} (h : j ≠ 6) : (tyS S b) 33 j = S 33 j := by
  unfold tyS
  rw [mU_at_ne h, mU_ne (by decide)]
