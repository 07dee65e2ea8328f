theorem row_mem {S : mw} {r : List Nat} (h8 : pN S ≤ 8) : r ∈ rowsF (pN S) 4140 z9 ↔ ∃ l, l.length = pN S ∧ rgs l (pN S) ∧ r = pad9 l := by
  rw [rows_gen _ h8, List.mem_map]
  constructor
  · rintro ⟨l, hl, rfl⟩
    obtain ⟨h1, h2⟩ := (gen_mem _ l).mp hl
    exact ⟨l, h1, h2, rfl⟩
  · rintro ⟨l, h1, h2, rfl⟩
    exact ⟨l, (gen_mem _ l).mpr ⟨h1, h2⟩, rfl⟩
theorem row_rgs {r : List Nat} {l : List Nat} {n : Nat} (h2 : rgs l n) (e : r = pad9 l) : rgs r n := by
  intro p hp
  rw [e, pad_getD, mxR_cg p (fun i _ => pad_getD)]
  exact h2 p hp
/-- a row's boats -/
def dl (r : List Nat) (n : Nat) : Nat → Nat → List Nat
  | 0, _ => []
  | f + 1, g => if grp r g n = 0 then dl r n f (g + 1) else grp r g n :: dl r n f (g + 1)
theorem dl_mem {r : List Nat} {n c : Nat} : ∀ f g, c ∈ dl r n f g → ∃ h, g ≤ h ∧ h < g + f ∧ c = grp r h n
  | 0, _, h => absurd h List.not_mem_nil
  | f + 1, g, h => by
    unfold dl at h
    split at h
    · obtain ⟨k, h1, h2, h3⟩ := dl_mem f (g + 1) h
      exact ⟨k, by omega, by omega, h3⟩
    · rcases List.mem_cons.mp h with h | h
      · exact ⟨g, Nat.le_refl _, by omega, h⟩
      · obtain ⟨k, h1, h2, h3⟩ := dl_mem f (g + 1) h
        exact ⟨k, by omega, by omega, h3⟩
theorem dl_in {r : List Nat} {n h : Nat} (h0 : grp r h n ≠ 0) : ∀ f g, g ≤ h → h < g + f → grp r h n ∈ dl r n f g
  | 0, g, h1, h2 => by omega
  | f + 1, g, h1, h2 => by
    unfold dl
    by_cases hg : g = h
    · subst hg
      rw [if_neg h0]
      exact List.mem_cons_self
    · split
      · exact dl_in h0 f (g + 1) (by omega) (by omega)
      · exact List.mem_cons_of_mem _ (dl_in h0 f (g + 1) (by omega) (by omega))
theorem mxR_lt {r : List Nat} {g : Nat} : ∀ p, (∀ q, q < p → r.getD q 0 < g) → mxR r p ≤ g
  | 0, _ => Nat.zero_le _
  | p + 1, h => by
    have ih := mxR_lt (r := r) (g := g) p (fun q hq => h q (by omega))
    have := h p (by omega)
    unfold mxR
    split <;> omega
/-- those whose number is g at least -/
def geS (r : List Nat) (n g x : Nat) : Prop := x < 2 ^ n ∧ ∀ p, x.testBit p = true ↔ p < n ∧ g ≤ r.getD p 0
theorem low_get {x : Nat} (h : x < 1024) (h0 : 0 < x) : ∃ i, isLow x i := by
  obtain ⟨i, _, _, h1, h2⟩ := low_ex x h h0
  exact ⟨i, h1, h2⟩
theorem row_day {S : mw} {r : List Nat} (hR : rgs r (pN S)) : ∀ f g c z x, f + g = pN S → geS r (pN S) g x → wayF S r f g c = some z → isDay S (dl r (pN S) f g) x ∧ z = c + dcost S (dl r (pN S) f g)
  | 0, g, c, z, x, hf, hx, h => by
    have h : some c = some z := h
    cases h
    refine ⟨?_, rfl⟩
    show x = 0
    apply Nat.eq_of_testBit_eq
    intro p
    rw [Nat.zero_testBit]
    cases hb : x.testBit p
    · rfl
    · have := (hx.2 p).mp hb
      have h1 := hR p this.1
      have h2 := mxR_lt (r := r) (g := p) p (fun q hq => by
        have : ∀ m, m ≤ p → ∀ q, q < m → r.getD q 0 < m := by
          intro m
          induction m with
          | zero => intro _ q hq; exact absurd hq (Nat.not_lt_zero _)
          | succ m ihm =>
            intro hm q hq
            have i1 := ihm (by omega)
            by_cases e : q = m
            · subst e
              have a1 := hR q (by omega)
              have a2 := mxR_lt (r := r) (g := q) q (fun t ht => i1 t ht)
              omega
            · have := i1 q (by omega); omega
        exact this p (Nat.le_refl _) q hq)
      omega
  | f + 1, g, c, z, x, hf, hx, h => by
    have hp := (pN_ok S).1
    have h10 := two10 hp
    unfold wayF at h
    unfold dl
    by_cases h0 : grp r g (pN S) = 0
    · rw [if_pos h0] at h ⊢
      refine row_day hR f (g + 1) c z x (by omega) ⟨hx.1, fun p => ?_⟩ h
      rw [hx.2 p]
      constructor
      · rintro ⟨q1, q2⟩
        refine ⟨q1, ?_⟩
        apply Classical.byContradiction
        intro q3
        have : (grp r g (pN S)).testBit p = true := (grp_tb _).mpr ⟨q1, by omega⟩
        rw [h0, Nat.zero_testBit] at this
        exact absurd this (by decide)
      · rintro ⟨q1, q2⟩; exact ⟨q1, by omega⟩
    · rw [if_neg h0] at h ⊢
      split at h
      · next hok =>
        have hsub : grp r g (pN S) &&& x = grp r g (pN S) := sub_of (fun i hi => by
          have := (grp_tb _).mp hi
          exact (hx.2 i).mpr ⟨this.1, by omega⟩)
        have hx0 : 0 < x := by
          apply Nat.pos_of_ne_zero
          intro q
          rw [q, Nat.and_zero] at hsub
          exact h0 hsub.symm
        have hann : geS r (pN S) (g + 1) (ann x (grp r g (pN S))) := by
          refine ⟨Nat.lt_of_le_of_lt (ann_le _ _) hx.1, fun p => ?_⟩
          rw [tb_ann, Bool.and_eq_true, hx.2 p]
          constructor
          · rintro ⟨⟨q1, q2⟩, q3⟩
            refine ⟨q1, ?_⟩
            apply Classical.byContradiction
            intro q4
            have : (grp r g (pN S)).testBit p = true := (grp_tb _).mpr ⟨q1, by omega⟩
            rw [this] at q3
            exact absurd q3 (by decide)
          · rintro ⟨q1, q2⟩
            refine ⟨⟨q1, by omega⟩, ?_⟩
            cases hb : (grp r g (pN S)).testBit p
            · rfl
            · have := (grp_tb _).mp hb; omega
        obtain ⟨i1, i2⟩ := row_day hR f (g + 1) _ z _ (by omega) hann h
        refine ⟨⟨hsub, ?_, ⟨hok.1, ?_⟩, i1⟩, ?_⟩
        · obtain ⟨lo, hlo⟩ := low_get (x := x) (by have := hx.1; omega) hx0
          refine ⟨lo, hlo, (grp_tb _).mpr ?_⟩
          have h1 := (hx.2 lo).mp hlo.1
          refine ⟨h1.1, ?_⟩
          have h2 := hR lo h1.1
          have h3 := mxR_lt (r := r) (g := g) lo (fun q hq => by
            apply Classical.byContradiction
            intro q2
            have := hlo.2 q hq
            rw [(hx.2 q).mpr ⟨by omega, by omega⟩] at this
            exact absurd this (by decide))
          omega
        · rw [ann_0]
          apply sub_of
          intro j hj
          rw [Nat.testBit_and, Bool.and_eq_true] at hj
          cases hb : (grp r g (pN S)).testBit j
          · have h2 : (ann (needS S (grp r g (pN S))) (grp r g (pN S)) &&& wh S).testBit j = true := by
              rw [Nat.testBit_and, tb_ann, hj.1, hb, wh_tb ((hx.2 j).mp hj.2).1]; rfl
            rw [hok.2, Nat.zero_testBit] at h2
            exact absurd h2 (by decide)
          · rfl
        · rw [i2]
          show c + costS S _ + dcost S _ = c + (costS S _ + dcost S _)
          omega
      · exact absurd h (by simp)
theorem geS_0 {S : mw} {r : List Nat} : geS r (pN S) 0 (wh S) := by
  refine ⟨wh_lt S, fun p => ?_⟩
  unfold wh
  rw [Nat.testBit_two_pow_sub_one]
  simp
/-- from a row to a day -/
theorem row_to {S : mw} {r : List Nat} (h8 : pN S ≤ 8) (hr : r ∈ rowsF (pN S) 4140 z9) {z : Nat} (hw : wayF S r (pN S) 0 0 = some z) : ∃ l, isDay S l (wh S) ∧ z = dcost S l ∧ ∀ p q, p < pN S → q < pN S → (same l p q ↔ r.getD p 0 = r.getD q 0) := by
  obtain ⟨l0, _, h2, e⟩ := (row_mem h8).mp hr
  have hR := row_rgs h2 e
  obtain ⟨h3, h4⟩ := row_day hR (pN S) 0 0 z (wh S) rfl geS_0 hw
  refine ⟨_, h3, by rw [h4, Nat.zero_add], fun p q hp hq => ?_⟩
  constructor
  · rintro ⟨c, hc, c1, c2⟩
    obtain ⟨g, _, _, rfl⟩ := dl_mem _ _ hc
    rw [((grp_tb _).mp c1).2, ((grp_tb _).mp c2).2]
  · intro h
    have hb : (grp r (r.getD p 0) (pN S)).testBit p = true := (grp_tb _).mpr ⟨hp, rfl⟩
    have hb2 : (grp r (r.getD p 0) (pN S)).testBit q = true := (grp_tb _).mpr ⟨hq, h.symm⟩
    obtain ⟨c, hc, hcp⟩ := day_cov _ _ p h3 (wh_tb hp)
    obtain ⟨g, g1, g2, rfl⟩ := dl_mem _ _ hc
    have hg := ((grp_tb _).mp hcp).2
    exact ⟨_, hc, hcp, by rw [hg] at hb2; exact hb2⟩
/-- from a day to a row -/
def rowOf (l : List Nat) (n : Nat) : List Nat := pad9 ((List.range n).map (idx l))
theorem rowOf_getD {l : List Nat} {n p : Nat} (hp : p < n) : (rowOf l n).getD p 0 = idx l p := by
  unfold rowOf
  rw [pad_getD, List.getD_eq_getElem?_getD, List.getElem?_map, List.getElem?_range hp]
  rfl
theorem mxR_ge {r : List Nat} {i : Nat} : ∀ p, i < p → r.getD i 0 < mxR r p
  | 0, h => absurd h (Nat.not_lt_zero _)
  | p + 1, h => by
    unfold mxR
    by_cases e : i = p
    · subst e
      split <;> omega
    · have := mxR_ge (r := r) (i := i) p (by omega)
      split <;> omega
theorem rowOf_rgs {S : mw} {l : List Nat} (h : isDay S l (wh S)) : rgs (rowOf l (pN S)) (pN S) := by
  intro p hp
  rw [rowOf_getD hp]
  cases hg : idx l p with
  | zero => exact Nat.zero_le _
  | succ g =>
    obtain ⟨i, h1, h2, h3⟩ := idx_low l _ p g h (wh_tb hp) hg
    have := mxR_ge (r := rowOf l (pN S)) (i := i) p h1
    rw [rowOf_getD (by omega), h3] at this
    omega
theorem rowOf_mem {S : mw} {l : List Nat} (h8 : pN S ≤ 8) (h : isDay S l (wh S)) : rowOf l (pN S) ∈ rowsF (pN S) 4140 z9 := by
  refine (row_mem h8).mpr ⟨(List.range (pN S)).map (idx l), by rw [List.length_map, List.length_range], fun p hp => ?_, rfl⟩
  have := rowOf_rgs h p hp
  unfold rowOf at this
  rw [pad_getD, mxR_cg p (fun i _ => pad_getD)] at this
  exact this
theorem rowOf_grp {S : mw} {l : List Nat} (h : isDay S l (wh S)) (g : Nat) : grp (rowOf l (pN S)) g (pN S) = l.getD g 0 := by
  apply Nat.eq_of_testBit_eq
  intro p
  rw [Bool.eq_iff_iff, grp_tb]
  constructor
  · rintro ⟨q1, q2⟩
    rw [rowOf_getD q1] at q2
    exact (idx_at l _ p g h (wh_tb q1)).mp q2
  · intro hb
    have hm : l.getD g 0 ∈ l := by
      by_cases hg : g < l.length
      · rw [List.getD_eq_getElem?_getD, List.getElem?_eq_getElem hg]
        exact List.getElem_mem hg
      · rw [List.getD_eq_getElem?_getD, List.getElem?_eq_none (by omega)] at hb
        exact absurd hb (by rw [show (none : Option Nat).getD 0 = 0 from rfl, Nat.zero_testBit]; decide)
    have hx := day_sub l _ _ p h hm hb
    have hp : p < pN S := by
      apply Nat.lt_of_not_le
      intro q
      rw [tb_lt (wh_lt S) q] at hx
      exact absurd hx (by decide)
    exact ⟨hp, by rw [rowOf_getD hp]; exact (idx_at l _ p g h (wh_tb hp)).mpr hb⟩
theorem wayF_day {S : mw} {r l : List Nat} (hg : ∀ g, grp r g (pN S) = l.getD g 0) (hb : ∀ b, b ∈ l → 0 < b ∧ gOk S b) : ∀ f g c, l.length ≤ g + f → wayF S r f g c = some (c + dcost S (l.drop g))
  | 0, g, c, h => by
    rw [List.drop_eq_nil_of_le (by omega)]
    rfl
  | f + 1, g, c, h => by
    unfold wayF
    by_cases hl : g < l.length
    · have e : l.getD g 0 = l[g] := by rw [List.getD_eq_getElem?_getD, List.getElem?_eq_getElem hl]; rfl
      have hm := hb _ (List.getElem_mem hl)
      rw [hg g, e, if_neg (by omega), if_pos hm.2, wayF_day hg hb f (g + 1) _ (by omega), List.drop_eq_getElem_cons hl]
      show some (c + costS S l[g] + dcost S (l.drop (g + 1))) = some (c + (costS S l[g] + dcost S (l.drop (g + 1))))
      rw [Nat.add_assoc]
    · have e : l.getD g 0 = 0 := by rw [List.getD_eq_getElem?_getD, List.getElem?_eq_none (by omega)]; rfl
      rw [hg g, e, if_pos rfl, wayF_day hg hb f (g + 1) c (by omega), List.drop_eq_nil_of_le (by omega), List.drop_eq_nil_of_le (by omega)]
theorem day_row {S : mw} (hV : VM S) {l : List Nat} (h : isDay S l (wh S)) : wayF S (rowOf l (pN S)) (pN S) 0 0 = some (dcost S l) := by
  have hp := (pN_ok S).1
  have h10 := two10 hp
  have hlen := day_len hV l _ (wh_lt S) h
  have hpl := popc_le' (wh_lt S) hp
  have hb : ∀ b, b ∈ l → 0 < b ∧ gOk S b := by
    intro b hb
    obtain ⟨q1, q2, q3⟩ := day_gOk hV l _ b (wh_lt S) h hb
    refine ⟨q2, q1, ?_⟩
    apply Nat.eq_of_testBit_eq
    intro j
    rw [Nat.zero_testBit]
    cases hj : (ann (needS S b) b &&& wh S).testBit j
    · rfl
    · rw [Nat.testBit_and, tb_ann, Bool.and_eq_true, Bool.and_eq_true] at hj
      obtain ⟨i, hi, hbi, hm⟩ := needS_tb.mp hj.1.1
      have hj10 : j < 10 := tb10 (by have := wh_lt S; omega) hj.2
      have := q3 i j hi hj10 hbi hm hj.2
      have h9 := hj.1.2
      rw [this] at h9
      exact absurd h9 (by decide)
  have := wayF_day (S := S) (rowOf_grp h) hb (pN S) 0 0 (by omega)
  rw [this, Nat.zero_add, List.drop_zero]
theorem day_same {S : mw} {l : List Nat} (h : isDay S l (wh S)) {p q : Nat} (hp : p < pN S) (hq : q < pN S) : same l p q ↔ (rowOf l (pN S)).getD p 0 = (rowOf l (pN S)).getD q 0 := by
  rw [rowOf_getD hp, rowOf_getD hq]
  constructor
  · rintro ⟨c, hc, c1, c2⟩
    obtain ⟨g, hg, rfl⟩ := List.getElem_of_mem hc
    have e : l.getD g 0 = l[g] := by rw [List.getD_eq_getElem?_getD, List.getElem?_eq_getElem hg]; rfl
    rw [(idx_at l _ p g h (wh_tb hp)).mpr (by rw [e]; exact c1), (idx_at l _ q g h (wh_tb hq)).mpr (by rw [e]; exact c2)]
  · intro e
    obtain ⟨c, hc, hcp⟩ := day_cov l _ p h (wh_tb hp)
    obtain ⟨g, hg, rfl⟩ := List.getElem_of_mem hc
    have e2 : l.getD g 0 = l[g] := by rw [List.getD_eq_getElem?_getD, List.getElem?_eq_getElem hg]; rfl
    have h1 := (idx_at l _ p g h (wh_tb hp)).mpr (by rw [e2]; exact hcp)
    have h2 := (idx_at l _ q g h (wh_tb hq)).mp (by rw [← e]; exact h1)
    exact ⟨_, hc, hcp, by rw [e2] at h2; exact h2⟩
/-- the pairs of a row, as bits -/
theorem prJ_tb {r : List Nat} {i : Nat} {t : Nat × Nat} (ht : t.1 < 2 ^ t.2) {m : Nat} : ∀ j, (prJ r i j t).1.testBit m = true ↔ (t.1.testBit m = true ∨ ∃ k, k < j ∧ m = t.2 + k ∧ r.getD i 0 = r.getD k 0)
  | 0 => ⟨fun h => Or.inl h, fun h => h.elim id (fun ⟨k, hk, _⟩ => absurd hk (Nat.not_lt_zero _))⟩
  | j + 1 => by
    have ih := prJ_tb (r := r) (i := i) ht (m := m) j
    have e2 := prJ_2 (r := r) (i := i) (t := t) j
    show (if r.getD i 0 = r.getD j 0 then (prJ r i j t).1 ||| 2 ^ (prJ r i j t).2 else (prJ r i j t).1).testBit m = true ↔ _
    by_cases h : r.getD i 0 = r.getD j 0
    · rw [if_pos h, Nat.testBit_or, Bool.or_eq_true, ih, Nat.testBit_two_pow, e2]
      constructor
      · rintro ((q | ⟨k, k1, k2, k3⟩) | q)
        · exact Or.inl q
        · exact Or.inr ⟨k, by omega, k2, k3⟩
        · have e9 : t.2 + j = m := by simpa using q
          exact Or.inr ⟨j, by omega, e9.symm, h⟩
      · rintro (q | ⟨k, k1, k2, k3⟩)
        · exact Or.inl (Or.inl q)
        · by_cases e : k = j
          · subst e; right; simp [k2]
          · exact Or.inl (Or.inr ⟨k, by omega, k2, k3⟩)
    · rw [if_neg h, ih]
      constructor
      · rintro (q | ⟨k, k1, k2, k3⟩)
        · exact Or.inl q
        · exact Or.inr ⟨k, by omega, k2, k3⟩
      · rintro (q | ⟨k, k1, k2, k3⟩)
        · exact Or.inl q
        · by_cases e : k = j
          · subst e; exact absurd k3 h
          · exact Or.inr ⟨k, by omega, k2, k3⟩
theorem pI_tb {r : List Nat} {m : Nat} : ∀ n, (pI r n).1.testBit m = true ↔ ∃ i j, i < n ∧ j < i ∧ m = tri i + j ∧ r.getD i 0 = r.getD j 0
  | 0 => by
    show (0 : Nat).testBit m = true ↔ _
    rw [Nat.zero_testBit]
    exact ⟨fun h => absurd h (by decide), fun ⟨i, j, h, _⟩ => absurd h (Nat.not_lt_zero _)⟩
  | n + 1 => by
    have ih := pI_tb (r := r) (m := m) n
    have h := prJ_tb (r := r) (i := n) (t := pI r n) (pI_1 n) (m := m) n
    show (prJ r n n (pI r n)).1.testBit m = true ↔ _
    rw [h, ih, pI_2]
    constructor
    · rintro (⟨i, j, h1, h2, h3, h4⟩ | ⟨k, h1, h2, h3⟩)
      · exact ⟨i, j, by omega, h2, h3, h4⟩
      · exact ⟨n, k, by omega, h1, h2, h3⟩
    · rintro ⟨i, j, h1, h2, h3, h4⟩
      by_cases e : i = n
      · subst e; exact Or.inr ⟨j, h2, h3, h4⟩
      · exact Or.inl ⟨i, j, by omega, h2, h3, h4⟩
theorem tri_add (a : Nat) : ∀ k, tri a + a ≤ tri (a + 1 + k)
  | 0 => Nat.le_refl _
  | k + 1 => by
    have := tri_add a k
    show _ ≤ tri (a + 1 + k) + (a + 1 + k)
    omega
theorem tri_inj {i j i2 j2 : Nat} (h : j < i) (h2 : j2 < i2) (e : tri i + j = tri i2 + j2) : i = i2 ∧ j = j2 := by
  rcases Nat.lt_trichotomy i i2 with q | q | q
  · have := tri_add i (i2 - i - 1)
    rw [show i + 1 + (i2 - i - 1) = i2 by omega] at this
    omega
  · subst q; exact ⟨rfl, by omega⟩
  · have := tri_add i2 (i - i2 - 1)
    rw [show i2 + 1 + (i - i2 - 1) = i by omega] at this
    omega
theorem pI_and {r r2 : List Nat} {n : Nat} : (pI r n).1 &&& (pI r2 n).1 = 0 ↔ ∀ i j, i < n → j < i → ¬ (r.getD i 0 = r.getD j 0 ∧ r2.getD i 0 = r2.getD j 0) := by
  constructor
  · rintro h i j hi hj ⟨h1, h2⟩
    have : ((pI r n).1 &&& (pI r2 n).1).testBit (tri i + j) = true := by
      rw [Nat.testBit_and, (pI_tb n).mpr ⟨i, j, hi, hj, rfl, h1⟩, (pI_tb n).mpr ⟨i, j, hi, hj, rfl, h2⟩]; rfl
    rw [h, Nat.zero_testBit] at this
    exact absurd this (by decide)
  · intro h
    apply Nat.eq_of_testBit_eq
    intro m
    rw [Nat.zero_testBit]
    cases hb : ((pI r n).1 &&& (pI r2 n).1).testBit m
    · rfl
    · rw [Nat.testBit_and, Bool.and_eq_true] at hb
      obtain ⟨i, j, h1, h2, h3, h4⟩ := (pI_tb n).mp hb.1
      obtain ⟨i2, j2, g1, g2, g3, g4⟩ := (pI_tb n).mp hb.2
      obtain ⟨rfl, rfl⟩ := tri_inj h2 g2 (h3.symm.trans g3)
      exact absurd ⟨h4, g4⟩ (h i j h1 h2)
theorem same_lt {S : mw} {l : List Nat} (h : isDay S l (wh S)) {p q : Nat} (hs : same l p q) : p < pN S ∧ q < pN S := by
  obtain ⟨c, hc, c1, c2⟩ := hs
  have h1 := day_sub l _ c p h hc c1
  have h2 := day_sub l _ c q h hc c2
  constructor
  · apply Nat.lt_of_not_le
    intro q
    rw [tb_lt (wh_lt S) q] at h1
    exact absurd h1 (by decide)
  · apply Nat.lt_of_not_le
    intro q
    rw [tb_lt (wh_lt S) q] at h2
    exact absurd h2 (by decide)
theorem compat_pI {S : mw} {l m : List Nat} (hl : isDay S l (wh S)) (hm : isDay S m (wh S)) {r r2 : List Nat} (h1 : ∀ p q, p < pN S → q < pN S → (same l p q ↔ r.getD p 0 = r.getD q 0)) (h2 : ∀ p q, p < pN S → q < pN S → (same m p q ↔ r2.getD p 0 = r2.getD q 0)) : compat l m ↔ (pI r (pN S)).1 &&& (pI r2 (pN S)).1 = 0 := by
  rw [pI_and]
  constructor
  · rintro h i j hi hj ⟨a, b⟩
    exact h i j (by omega) ((h1 i j hi (by omega)).mpr a) ((h2 i j hi (by omega)).mpr b)
  · intro h p q hpq a b
    obtain ⟨p1, q1⟩ := same_lt hl a
    have a := (h1 p q p1 q1).mp a
    have b := (h2 p q p1 q1).mp b
    rcases Nat.lt_or_gt_of_ne hpq with c | c
    · exact h q p q1 c ⟨a.symm, b.symm⟩
    · exact h p q p1 c ⟨a, b⟩
