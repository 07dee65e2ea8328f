def newD (M : Nat → Nat) (l : List Nat) : Prop := ∀ b, b ∈ l → ∀ i, i < 10 → b.testBit i = true → M i &&& b = 0
theorem newD_cons {M : Nat → Nat} {b : Nat} {l : List Nat} : newD M (b :: l) ↔ (∀ i, i < 10 → b.testBit i = true → M i &&& b = 0) ∧ newD M l := by
  constructor
  · intro h; exact ⟨h b List.mem_cons_self, fun c hc => h c (List.mem_cons_of_mem _ hc)⟩
  · rintro ⟨h1, h2⟩ c hc
    rcases List.mem_cons.mp hc with rfl | hc
    · exact h1
    · exact h2 c hc
theorem dcost_app {S : mw} {l m : List Nat} : dcost S (l ++ m) = dcost S l + dcost S m := by
  induction l with
  | nil => show _ = 0 + _; rw [Nat.zero_add]; rfl
  | cons b l ih => show costS S b + dcost S (l ++ m) = costS S b + dcost S l + dcost S m; rw [ih, Nat.add_assoc]
theorem day_le {S : mw} (hV : VM S) (l : List Nat) : ∀ x, x < 2 ^ pN S → isDay S l x → dcost S l ≤ 1140 * popc x := by
  induction l with
  | nil => intro x _ _; exact Nat.zero_le _
  | cons b l ih =>
    intro x hx h
    have h10 := two10 (pN_ok S).1
    obtain ⟨h1, ⟨lo, hlo, hb⟩, h3, h4⟩ := h
    have hal := ann_le x b
    have hi := ih (ann x b) (by omega) h4
    have hbx : b ≤ x := by have : b &&& x ≤ x := Nat.and_le_right; rw [h1] at this; exact this
    have hb0 : 0 < b := by
      apply Nat.pos_of_ne_zero
      intro q
      rw [q, Nat.zero_testBit] at hb
      exact absurd hb (by decide)
    have hc := costS_le hV (show b < 2 ^ pN S by omega) hb0
    have hp := popc_pos b (by omega) hb0
    have ha := popc_ann h1
    show costS S b + dcost S l ≤ _
    omega
theorem newD_compat {S : mw} {M : Nat → Nat} {D k : List Nat} (hD : isDay S D (wh S)) (hM : ∀ c, c ∈ D → ∀ i, c.testBit i = true → M i = ann c (2 ^ i)) (hk : isDay S k (wh S)) : newD M k ↔ compat D k := by
  have hp := (pN_ok S).1
  have hlt := wh_lt S
  have h10 := two10 hp
  have hin : ∀ i, (wh S).testBit i = true → i < 10 := fun i hi => tb10 (by omega) hi
  constructor
  · rintro h p q hpq ⟨c, hc, c1, c2⟩ ⟨b, hb, b1, b2⟩
    have hp10 := hin p (day_sub k _ b p hk hb b1)
    have h1 := h b hb p hp10 b1
    have h2 : (M p &&& b).testBit q = true := by
      rw [Nat.testBit_and, hM c hc p c1, tb_ann, c2, b2, Nat.testBit_two_pow]
      simp [hpq]
    rw [h1, Nat.zero_testBit] at h2
    exact absurd h2 (by decide)
  · intro h b hb i hi hbi
    have hiw := day_sub k _ b i hk hb hbi
    obtain ⟨c, hc, hci⟩ := day_cov D _ i hD hiw
    apply Nat.eq_of_testBit_eq
    intro j
    rw [Nat.zero_testBit]
    cases hj : (M i &&& b).testBit j
    · rfl
    · rw [Nat.testBit_and, hM c hc i hci, tb_ann, Bool.and_eq_true, Bool.and_eq_true, Nat.testBit_two_pow] at hj
      exact (h i j (by have := hj.1.2; simpa using this) ⟨c, hc, hci, hj.1.1⟩ ⟨b, hb, hbi, hj.2⟩).elim
theorem i_mul2 {x : Int32} (h1 : -1000000 ≤ x.toInt) (h2 : x.toInt ≤ 1000000) : (2 * x).toInt = 2 * x.toInt := by
  rw [Int32.toInt_mul]
  have e : Int32.toInt 2 = 2 := rfl
  rw [e]
  apply Int.bmod_eq_of_le <;> omega
def metW (w : mw) (b n : Nat) : mw := mUr w 18 (fun i => if b.testBit i = true ∧ i < n then nI (ann b (2 ^ i)) else w 18 i)
theorem metW_0 {w : mw} {b : Nat} : metW w b 0 = w := by
  unfold metW
  have : (fun i => if b.testBit i = true ∧ i < 0 then nI (ann b (2 ^ i)) else w 18 i) = w 18 := by
    funext i; rw [if_neg (by omega)]
  rw [this]; exact mUr_self
theorem metW_1 {w : mw} {b n : Nat} (h : b.testBit n = true) : mU (metW w b n) 18 n (nI (ann b (2 ^ n))) = metW w b (n + 1) := by
  unfold mU metW
  rw [mUr_eq, mUr_mUr]
  congr 1
  funext i
  unfold upd
  by_cases e : i = n
  · subst e; rw [if_pos rfl, if_pos ⟨h, by omega⟩]
  · rw [if_neg e]
    show (if b.testBit i = true ∧ i < n then nI (ann b (2 ^ i)) else w 18 i) = _
    by_cases q : b.testBit i = true ∧ i < n
    · rw [if_pos q, if_pos ⟨q.1, by omega⟩]
    · rw [if_neg q, if_neg (fun z => q ⟨z.1, by omega⟩)]
theorem metW_n {w : mw} {b n : Nat} (h : b.testBit n = false) : metW w b n = metW w b (n + 1) := by
  unfold metW
  congr 1
  funext i
  by_cases q : b.testBit i = true ∧ i < n
  · rw [if_pos q, if_pos ⟨q.1, by omega⟩]
  · rw [if_neg q, if_neg (fun z => q ⟨z.1, by
      apply Classical.byContradiction
      intro z2
      have : i = n := by omega
      rw [this, h] at z
      exact absurd z.1 (by decide)⟩)]
/-- a day that begins with the k-th boat -/
theorem day_first {S : mw} {x : Nat} (hx : x < 1024) (h0 : 0 < x) {l : List Nat} (h : isDay S l x) : ∃ k m, k ≤ lst x ∧ l = sbs x k :: m := by
  cases l with
  | nil => exact absurd (show x = 0 from h) (by omega)
  | cons b m =>
    obtain ⟨h1, ⟨i, hi, hb⟩, h3, h4⟩ := h
    obtain ⟨k, hk, e⟩ := sbs_all hx h0 h1 hi hb
    exact ⟨k, m, hk, by rw [e]⟩
theorem day_cons {S : mw} {x k : Nat} (hx : x < 1024) (h0 : 0 < x) (hk : k ≤ lst x) {m : List Nat} (hb : okB S x (sbs x k)) (h : isDay S m (ann x (sbs x k))) : isDay S (sbs x k :: m) x := by
  obtain ⟨g1, g2, g3, g4, g5, -, -⟩ := sbs_good hx h0 hk
  obtain ⟨i, _, e, hl⟩ := low_of hx h0
  refine ⟨g1, ⟨i, hl, ?_⟩, hb, h⟩
  unfold sbs
  rw [Nat.testBit_or, e, Nat.testBit_two_pow]; simp
theorem nmn {a b : Nat} (ha : a < 2147483648) (hb : b < 2147483648) : (if nI a < nI b then nI a else nI b) = nI (if a < b then a else b) := by
  by_cases q : a < b
  · rw [if_pos q, if_pos ((nI_ltI ha hb).mpr q)]
  · rw [if_neg q, if_neg (fun z => q ((nI_ltI ha hb).mp z))]
theorem tbl {b n i : Nat} (hb : b < 2 ^ n) (h : b.testBit i = true) : i < n := by
  apply Nat.lt_of_not_le
  intro q
  rw [tb_lt hb q] at h
  exact absurd h (by decide)
