/-- y is the least of the numbers with P, or -1 -/
def isMin (P : Nat → Prop) (y : Int32) : Prop := (y = -1 ∧ ∀ m, ¬ P m) ∨ ∃ m, y = nI m ∧ m < 1000000 ∧ P m ∧ ∀ k, P k → m ≤ k
theorem isMin_u {P : Nat → Prop} {y z : Int32} (h : isMin P y) (h2 : isMin P z) : y = z := by
  rcases h with ⟨a, b⟩ | ⟨m, a, _, b, c⟩
  · rcases h2 with ⟨a2, _⟩ | ⟨m2, _, _, b2, _⟩
    · rw [a, a2]
    · exact absurd b2 (b m2)
  · rcases h2 with ⟨_, b2⟩ | ⟨m2, a2, _, b2, c2⟩
    · exact absurd b (b2 m)
    · have h1 := c m2 b2
      have h2 := c2 m b
      rw [a, a2, show m = m2 by omega]
theorem isMin_cg {P Q : Nat → Prop} {y : Int32} (h : isMin P y) (e : ∀ m, P m ↔ Q m) : isMin Q y := by
  rcases h with ⟨a, b⟩ | ⟨m, a, a2, b, c⟩
  · exact Or.inl ⟨a, fun m q => b m ((e m).mpr q)⟩
  · exact Or.inr ⟨m, a, a2, (e m).mp b, fun k q => c k ((e k).mpr q)⟩
def prOk (l : List (Nat × Nat)) (a b m : Nat) : Prop := (l.getD a (0, 0)).1 &&& (l.getD b (0, 0)).1 = 0 ∧ m = (l.getD a (0, 0)).2 + (l.getD b (0, 0)).2
theorem stp_min {l : List (Nat × Nat)} {a b : Nat} {y : Int32} {P : Nat → Prop} (hl : ∀ k, (l.getD k (0, 0)).2 ≤ 73600) (h : isMin P y) : isMin (fun m => P m ∨ prOk l a b m) (stp l a b y) := by
  have h1 := hl a
  have h2 := hl b
  unfold stp
  by_cases hd : (l.getD a (0, 0)).1 &&& (l.getD b (0, 0)).1 = 0
  · by_cases hc : y = -1 ∨ (nI ((l.getD a (0, 0)).2 + (l.getD b (0, 0)).2)).toInt < y.toInt
    · rw [if_pos ⟨hc, hd⟩]
      refine Or.inr ⟨_, rfl, by omega, Or.inr ⟨hd, rfl⟩, fun k hk => ?_⟩
      rcases hk with hk | hk
      · rcases h with ⟨_, q⟩ | ⟨m, e, e2, _, q⟩
        · exact absurd hk (q k)
        · rcases hc with hc | hc
          · rw [hc] at e; exact absurd e.symm (nI_nm (by omega))
          · rw [e, ti (by omega), ti (by omega)] at hc
            have := q k hk
            omega
      · have := hk.2; omega
    · rw [if_neg (fun q => hc q.1)]
      rcases h with ⟨q, _⟩ | ⟨m, e, e2, p, q⟩
      · exact absurd (Or.inl q) hc
      · refine Or.inr ⟨m, e, e2, Or.inl p, fun k hk => ?_⟩
        rcases hk with hk | hk
        · exact q k hk
        · have h3 : ¬ (nI ((l.getD a (0, 0)).2 + (l.getD b (0, 0)).2)).toInt < y.toInt := fun z => hc (Or.inr z)
          rw [e, ti (by omega), ti (by omega)] at h3
          have := hk.2
          omega
  · rw [if_neg (fun q => hd q.2)]
    exact isMin_cg h (fun m => ⟨fun q => Or.inl q, fun q => q.elim id (fun q => absurd q.1 hd)⟩)
theorem bkJ_min {l : List (Nat × Nat)} {a : Nat} {P : Nat → Prop} (hl : ∀ k, (l.getD k (0, 0)).2 ≤ 73600) : ∀ (j : Nat) (x : Int32), isMin P x → isMin (fun m => P m ∨ ∃ k, k < j ∧ prOk l a (a + k) m) (bkJ l a j x)
  | 0, x, h => isMin_cg h (fun m => ⟨fun q => Or.inl q, fun q => q.elim id (fun ⟨k, hk, _⟩ => absurd hk (Nat.not_lt_zero _))⟩)
  | j + 1, x, h => by
    have ih := bkJ_min (a := a) hl j x h
    refine isMin_cg (stp_min (a := a) (b := a + j) hl ih) (fun m => ⟨?_, ?_⟩)
    · rintro ((q | ⟨k, hk, q⟩) | q)
      · exact Or.inl q
      · exact Or.inr ⟨k, by omega, q⟩
      · exact Or.inr ⟨j, by omega, q⟩
    · rintro (q | ⟨k, hk, q⟩)
      · exact Or.inl (Or.inl q)
      · by_cases e : k = j
        · subst e; exact Or.inr q
        · exact Or.inl (Or.inr ⟨k, by omega, q⟩)
theorem bkI_min {l : List (Nat × Nat)} (hl : ∀ k, (l.getD k (0, 0)).2 ≤ 73600) : ∀ n, n ≤ l.length → isMin (fun m => ∃ a b, a < n ∧ a ≤ b ∧ b < l.length ∧ prOk l a b m) (bkI l n)
  | 0, _ => Or.inl ⟨rfl, fun m ⟨a, _, h, _⟩ => absurd h (Nat.not_lt_zero _)⟩
  | n + 1, hn => by
    have ih := bkI_min hl n (by omega)
    refine isMin_cg (bkJ_min (a := n) hl (l.length - n) _ ih) (fun m => ⟨?_, ?_⟩)
    · rintro (⟨a, b, h1, h2, h3, h4⟩ | ⟨k, hk, q⟩)
      · exact ⟨a, b, by omega, h2, h3, h4⟩
      · exact ⟨n, n + k, by omega, by omega, by omega, q⟩
    · rintro ⟨a, b, h1, h2, h3, h4⟩
      by_cases e : a = n
      · subst e
        exact Or.inr ⟨b - a, by omega, by rw [show a + (b - a) = b by omega]; exact h4⟩
      · exact Or.inl ⟨a, b, by omega, h2, h3, h4⟩
/-- what there and back cost together -/
def bkP (S : mw) (m : Nat) : Prop := ∃ l k, isDay S l (wh S) ∧ isDay S k (wh S) ∧ compat l k ∧ m = dcost S l + dcost S k
theorem wys_le {S : mw} (hV : VM S) (h8 : pN S ≤ 8) : ∀ k, ((wysS S).getD k (0, 0)).2 ≤ 73600 := by
  intro k
  rw [List.getD_eq_getElem?_getD]
  by_cases h : k < (wysS S).length
  · rw [List.getElem?_eq_getElem h]
    show ((wysS S)[k]).2 ≤ 73600
    have hm : (wysS S)[k] ∈ (rowsF (pN S) 4140 z9).filterMap (wayO S) := List.getElem_mem h
    obtain ⟨r, _, hr⟩ := List.mem_filterMap.mp hm
    unfold wayO at hr
    cases hw : wayF S r (pN S) 0 0 with
    | none => rw [hw] at hr; exact absurd hr (by simp)
    | some z =>
      rw [hw] at hr
      have e : ((pI r (pN S)).1, z) = (wysS S)[k] := Option.some.inj hr
      rw [← e]
      have := wayF_le hV (pN S) 0 0 z hw
      show z ≤ 73600
      omega
  · rw [List.getElem?_eq_none (by omega)]
    exact Nat.zero_le _
theorem wys_to {S : mw} (h8 : pN S ≤ 8) {k : Nat} (h : k < (wysS S).length) : ∃ l r, isDay S l (wh S) ∧ ((wysS S).getD k (0, 0)).2 = dcost S l ∧ ((wysS S).getD k (0, 0)).1 = (pI r (pN S)).1 ∧ ∀ p q, p < pN S → q < pN S → (same l p q ↔ r.getD p 0 = r.getD q 0) := by
  have e0 : (wysS S).getD k (0, 0) = (wysS S)[k] := by rw [List.getD_eq_getElem?_getD, List.getElem?_eq_getElem h]; rfl
  have hm : (wysS S)[k] ∈ (rowsF (pN S) 4140 z9).filterMap (wayO S) := List.getElem_mem h
  obtain ⟨r, hr0, hr⟩ := List.mem_filterMap.mp hm
  unfold wayO at hr
  cases hw : wayF S r (pN S) 0 0 with
  | none => rw [hw] at hr; exact absurd hr (by simp)
  | some z =>
    rw [hw] at hr
    have e : ((pI r (pN S)).1, z) = (wysS S)[k] := Option.some.inj hr
    obtain ⟨l, h1, h2, h3⟩ := row_to h8 hr0 hw
    refine ⟨l, r, h1, ?_, ?_, h3⟩
    · rw [e0, ← e]; exact h2
    · rw [e0, ← e]
theorem wys_of {S : mw} (hV : VM S) (h8 : pN S ≤ 8) {l : List Nat} (h : isDay S l (wh S)) : ∃ k, k < (wysS S).length ∧ (wysS S).getD k (0, 0) = ((pI (rowOf l (pN S)) (pN S)).1, dcost S l) := by
  have hm : ((pI (rowOf l (pN S)) (pN S)).1, dcost S l) ∈ wysS S := by
    unfold wysS
    refine List.mem_filterMap.mpr ⟨_, rowOf_mem h8 h, ?_⟩
    unfold wayO
    rw [day_row hV h]
    rfl
  obtain ⟨k, hk, e⟩ := List.getElem_of_mem hm
  exact ⟨k, hk, by rw [List.getD_eq_getElem?_getD, List.getElem?_eq_getElem hk]; exact e⟩
theorem back_min {S : mw} (hV : VM S) (h8 : pN S ≤ 8) : isMin (bkP S) (backR S) := by
  unfold backR
  rw [if_neg (by omega)]
  refine isMin_cg (bkI_min (wys_le hV h8) _ (Nat.le_refl _)) (fun m => ⟨?_, ?_⟩)
  · rintro ⟨a, b, h1, h2, h3, h4, h5⟩
    obtain ⟨l, r, d1, d2, d3, d4⟩ := wys_to h8 h1
    obtain ⟨k, r2, f1, f2, f3, f4⟩ := wys_to h8 h3
    refine ⟨l, k, d1, f1, (compat_pI d1 f1 d4 f4).mpr ?_, by rw [h5, d2, f2]⟩
    rw [← d3, ← f3]; exact h4
  · rintro ⟨l, k, d1, f1, hc, hm⟩
    obtain ⟨a, ha, ea⟩ := wys_of hV h8 d1
    obtain ⟨b, hb, eb⟩ := wys_of hV h8 f1
    have hp := (compat_pI d1 f1 (fun p q hp hq => day_same d1 hp hq) (fun p q hp hq => day_same f1 hp hq)).mp hc
    rcases Nat.le_total a b with q | q
    · refine ⟨a, b, ha, q, hb, ?_, ?_⟩
      · rw [ea, eb]; exact hp
      · rw [ea, eb]; exact hm
    · refine ⟨b, a, hb, q, ha, ?_, ?_⟩
      · rw [ea, eb, Nat.and_comm]; exact hp
      · rw [ea, eb, Nat.add_comm]; exact hm
