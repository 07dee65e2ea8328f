abbrev tlW (w : mw) (j : Nat) (u : Int32) : mw := mU (mU w 7 j u) 4 j (pos0 (w 3 j + u))
theorem tlW_k {w : mw} {j : Nat} {u : Int32} {k : Nat} (h7 : k ≠ 7) (h4 : k ≠ 4) : tlW w j u k = w k := (mU_ne h4).trans (mU_ne h7)
theorem LI_step {w0 w w1 S : mw} {j : Nat} {v u : Int32} (h : LI w0 w S j v) (hj : j < 10) (hu1 : -30 ≤ u.toInt) (hu2 : u.toInt ≤ 30)
    (q1 : CDb w1 (mU S 42 j u) (2 ^ pN (mU S 42 j u))) (q2 : ∀ x, x < 2 ^ pN (mU S 42 j u) → hot (mU S 42 j u) x → w1 15 x = enD (DC (mU S 42 j u) x) ∧ w1 16 x = m1v (DC (mU S 42 j u) x).2.2.2)
    (q3 : ∀ x, ¬ hot (mU S 42 j u) x → w1 15 x = tlW w j u 15 x ∧ w1 16 x = tlW w j u 16 x) (q4 : w1 13 0 = tlW w j u 13 0) (q5 : fr [13, 15, 16] (tlW w j u) w1) : LI w0 w1 S j u := by
  obtain ⟨a1, a2, a3, a4, a5, a6⟩ := h
  have hp : pN (mU S 42 j u) = pN S := pN_42
  have hw : wh (mU S 42 j u) = wh S := wh_42
  unfold hot at q2 q3
  rw [hp] at q1 q2
  rw [hw] at q2 q3
  refine ⟨PR_fr (PR_lie a1 hj hu1 hu2) q5 (by decide), q1, q2, fun x hx => ?_, ?_, ?_⟩
  · have := q3 x hx
    rw [tlW_k (by decide) (by decide), tlW_k (by decide) (by decide)] at this
    exact ⟨this.1.trans (a4 x hx).1, this.2.trans (a4 x hx).2⟩
  · rw [q4, tlW_k (by decide) (by decide)]; exact a5
  · exact fr_tr a6 (fr_tr (fr_U2 (fr_U (by decide)) (by decide)) (fr_sub q5 (by decide)))
theorem LI_B {w0 w S : mw} {j : Nat} {v u : Int32} (h : LI w0 w S j v) : ∀ x, 0 < x → x < 2 ^ pN (mU S 42 j u) → tlW w j u 13 x = prI (mU S 42 j v) x ∧ tlW w j u 14 x = nI (needS (mU S 42 j v) x) := by
  intro x h0 hx
  rw [pN_42] at hx
  rw [tlW_k (by decide) (by decide), tlW_k (by decide) (by decide)]
  exact h.2.1 x h0 hx
theorem LI_T {w0 w S : mw} {j : Nat} {v u : Int32} (h : LI w0 w S j v) : ∀ x, x < 2 ^ pN (mU S 42 j u) → hot (mU S 42 j u) x → tlW w j u 15 x = enD (DC (mU S 42 j v) x) ∧ tlW w j u 16 x = m1v (DC (mU S 42 j v) x).2.2.2 := by
  intro x hx hh
  rw [pN_42] at hx
  unfold hot at hh
  rw [wh_42] at hh
  rw [tlW_k (by decide) (by decide), tlW_k (by decide) (by decide)]
  exact h.2.2.1 x hx hh
theorem LI_back {w0 w1 S : mw} {j : Nat} (hC : CC w0 S) (z : w0 12 6 = 0) (h : LI w0 w1 S j (S 42 j)) : CC w1 S ∧ w1 12 6 = 0 := by
  have e : mU S 42 j (S 42 j) = S := mU_same rfl
  unfold LI at h
  rw [e] at h
  obtain ⟨a1, a2, a3, a4, a5, a6⟩ := h
  have hn : ∀ k, 17 ≤ k → k ∉ [4, 7, 13, 15, 16] := by
    intro k hk q
    simp at q
    omega
  have hz : w1 12 6 = 0 := by rw [a6 12 (by decide)]; exact z
  have h0 := (FT_tab hC z).1
  have hh0 : hot S 0 := Or.inr (Nat.zero_testBit 0)
  have t0 := a3 0 Nat.one_le_two_pow hh0
  rw [(enD_0 S).1, (enD_0 S).2.1] at t0
  refine ⟨⟨a1.1, a1.2.1, a1.2.2, ?_, fun s hs => ?_, ?_, ⟨⟨?_, ?_, t0.1, t0.2⟩, Or.inr ⟨hz, a2, fun x hx hx2 => ?_⟩⟩⟩, hz⟩
  · unfold CGs
    rw [a6 19 (by decide), a6 20 (by decide), a6 21 (by decide), a6 22 (by decide)]
    exact hC.2.2.2.1
  · unfold CSh
    rw [a6 (24 + s) (hn _ (by omega)), a6 (28 + s) (hn _ (by omega))]
    exact CC_sh hC hs
  · rw [a6 0 (by decide)]; exact hC.2.2.2.2.2.1
  · rw [a5]; exact h0.1
  · rw [a6 14 (by decide)]; exact h0.2.1
  · by_cases hq : hot S x
    · exact a3 x hx2 hq
    · have := a4 x hq
      exact ⟨this.1.trans (FT_15 hC z x hx2), this.2.trans (FT_16 hC z x hx2)⟩
theorem ls_1 {S : mw} {j k : Nat} (hb : bwR (lieS S j k) j ≠ 0) (h : k = 0 ∨ costS (lieS S j k) (bwR (lieS S j k) j) * (lsN S j k).2.2 < (lsN S j k).2.1 * popc (bwR (lieS S j k) j)) : lsN S j (k + 1) = (lieV k, costS (lieS S j k) (bwR (lieS S j k) j), popc (bwR (lieS S j k) j)) := by
  have hc : (lsN S j k).2.2 = 0 ∨ costS (lieS S j k) (bwR (lieS S j k) j) * (lsN S j k).2.2 < (lsN S j k).2.1 * popc (bwR (lieS S j k) j) := by
    rcases h with h | h
    · left; rw [h]; rfl
    · exact Or.inr h
  rw [lsN, if_pos ⟨hb, hc⟩]
theorem ls_0 {S : mw} {j k : Nat} (h0 : (lsN S j k).2.2 ≠ 0) (h : (lsN S j k).2.1 * popc (bwR (lieS S j k) j) ≤ costS (lieS S j k) (bwR (lieS S j k) j) * (lsN S j k).2.2) : lsN S j (k + 1) = lsN S j k := by
  rw [lsN, if_neg (fun q => q.2.elim h0 (fun q => by omega))]
