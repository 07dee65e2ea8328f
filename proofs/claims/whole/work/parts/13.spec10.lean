/-- the same, MUST looked at within the set alone (as the class does) -/
def tabC (S : mw) : Nat → Nat → dv
  | 0 => fun _ => (0, 0, 0, 0)
  | k + 1 => fun x => if x = k then comp S k (tabC S k) k else tabC S k x
def DC (S : mw) (s : Nat) : dv := comp S s (tabC S s) s
theorem tabC_DC {S : mw} : ∀ n x, x < n → tabC S n x = DC S x
  | 0, x, h => absurd h (Nat.not_lt_zero _)
  | n + 1, x, h => by
    unfold tabC
    by_cases hx : x = n
    · subst hx; rw [if_pos rfl]; rfl
    · rw [if_neg hx]; exact tabC_DC n x (by omega)
theorem DC_eq {S : mw} {s : Nat} (hs : s < 1024) : DC S s = comp S s (DC S) s := by
  unfold DC comp
  by_cases h0 : s = 0
  · rw [if_pos h0, if_pos h0]
  · rw [if_neg h0, if_neg h0]
    exact cmpn_congr hs (by omega) (fun x hx => tabC_DC s x hx) _ (Nat.le_refl _)
theorem DC_ok {S : mw} (hV : VM S) : ∀ n s, s < n → s < 2 ^ pN S → dvB s (DC S s)
  | 0, s, h, _ => absurd h (Nat.not_lt_zero _)
  | n + 1, s, h, hs => by
    have hp := (pN_ok S).1
    have h10 := two10 hp
    rw [DC_eq (by omega)]
    unfold comp
    by_cases h0 : s = 0
    · rw [if_pos h0]; exact ⟨Nat.zero_le _, by show 0 < 1024; decide, by show 1 ≤ _; omega, fun _ => Nat.zero_le _, fun q => absurd q (by decide)⟩
    · rw [if_neg h0]
      exact cmpn_ok hV hs (by omega) (fun x hx => DC_ok hV n x (by omega) (by omega)) _ (Nat.le_refl _)
theorem DC_okk {S : mw} {s : Nat} (hV : VM S) (hs : s < 2 ^ pN S) : dvB s (DC S s) := DC_ok hV (s + 1) s (by omega) hs
theorem orn_tb {f : Nat → Nat} {b j : Nat} : ∀ n, (orn f b n).testBit j = true ↔ ∃ i, i < n ∧ b.testBit i = true ∧ (f i).testBit j = true
  | 0 => by
    unfold orn
    rw [Nat.zero_testBit]
    exact ⟨fun h => absurd h (by decide), fun ⟨i, h, _⟩ => absurd h (Nat.not_lt_zero _)⟩
  | n + 1 => by
    have ih := orn_tb (f := f) (b := b) (j := j) n
    unfold orn
    by_cases hb : b.testBit n = true
    · rw [if_pos hb, Nat.testBit_or, Bool.or_eq_true, ih]
      constructor
      · rintro (⟨i, h1, h2, h3⟩ | h)
        · exact ⟨i, by omega, h2, h3⟩
        · exact ⟨n, by omega, hb, h⟩
      · rintro ⟨i, h1, h2, h3⟩
        by_cases hi : i = n
        · subst hi; exact Or.inr h3
        · exact Or.inl ⟨i, by omega, h2, h3⟩
    · rw [if_neg hb, ih]
      constructor
      · rintro ⟨i, h1, h2, h3⟩; exact ⟨i, by omega, h2, h3⟩
      · rintro ⟨i, h1, h2, h3⟩
        by_cases hi : i = n
        · subst hi; exact absurd h2 hb
        · exact ⟨i, by omega, h2, h3⟩
theorem tb10 {b i : Nat} (hb : b < 1024) (h : b.testBit i = true) : i < 10 := by
  apply Nat.lt_of_not_le
  intro q
  rw [tb_lt (n := 10) hb q] at h
  exact absurd h (by decide)
/-- who MUST go with one of x is in x, of those of al -/
def closed (S : mw) (al x : Nat) : Prop := x &&& al = x ∧ ∀ i j, x.testBit i = true → (sMu S i).testBit j = true → al.testBit j = true → x.testBit j = true
theorem closed_self {S : mw} {x : Nat} : closed S x x := ⟨Nat.and_self x, fun _ _ _ _ h => h⟩
theorem sub_tb {a b i : Nat} (h : a &&& b = a) (hi : a.testBit i = true) : b.testBit i = true := by
  have h1 : (a &&& b).testBit i = a.testBit i := by rw [h]
  rw [Nat.testBit_and, hi] at h1
  simpa using h1
theorem sub_of {a b : Nat} (h : ∀ i, a.testBit i = true → b.testBit i = true) : a &&& b = a := by
  apply Nat.eq_of_testBit_eq
  intro i
  rw [Nat.testBit_and]
  cases ha : a.testBit i
  · rfl
  · rw [h i ha]; rfl
theorem ann_0i {a b : Nat} (h : ann a b = 0) {i : Nat} (hi : a.testBit i = true) : b.testBit i = true := sub_tb (ann_0.mp h) hi
theorem needS_tb {S : mw} {b j : Nat} : (needS S b).testBit j = true ↔ ∃ i, i < 10 ∧ b.testBit i = true ∧ (sMu S i).testBit j = true := orn_tb 10
theorem need_cl {S : mw} {al x b : Nat} (hx : closed S al x) (hb : b &&& x = b) (hb10 : b < 1024) : needS S b &&& al = needS S b &&& x := by
  apply Nat.eq_of_testBit_eq
  intro j
  rw [Nat.testBit_and, Nat.testBit_and]
  cases hn : (needS S b).testBit j
  · rfl
  · obtain ⟨i, hi, hbi, hm⟩ := needS_tb.mp hn
    rw [Bool.true_and, Bool.true_and]
    cases ha : al.testBit j
    · cases hxj : x.testBit j
      · rfl
      · rw [sub_tb hx.1 hxj] at ha; exact absurd ha (by decide)
    · exact (hx.2 i j (sub_tb hb hbi) hm ha).symm
theorem closed_ann {S : mw} {al x b : Nat} (hV : VM S) (hx : closed S al x) (hx10 : x < 1024) (hb10 : b < 1024) (hn : ann (needS S b &&& x) b = 0) : closed S al (ann x b) := by
  refine ⟨ann_sub hx.1, fun i j hi hm ha => ?_⟩
  rw [tb_ann, Bool.and_eq_true] at hi
  have hxj := hx.2 i j hi.1 hm ha
  rw [tb_ann, hxj]
  cases hbj : b.testBit j
  · rfl
  · have hi10 := tb10 hx10 hi.1
    have hj10 := tb10 hb10 hbj
    have h1 : (sMu S j).testBit i = true := by rw [← (VM_sy hV).1 i j hi10 hj10]; exact hm
    have h2 : (needS S b).testBit i = true := needS_tb.mpr ⟨j, hj10, hbj, h1⟩
    have h3 : (needS S b &&& x).testBit i = true := by rw [Nat.testBit_and, h2, hi.1]; rfl
    have h4 := ann_0i hn h3
    rw [h4] at hi
    exact absurd hi.2 (by decide)
theorem tryS_cl {S : mw} {al x b : Nat} {T T2 : Nat → dv} {a : dv} (hx : closed S al x) (hb : b &&& x = b) (hb10 : b < 1024) (hT : ann (needS S b &&& x) b = 0 → T (ann x b) = T2 (ann x b)) : tryS S al T x b a = tryS S x T2 x b a := by
  unfold tryS
  rw [need_cl hx hb hb10]
  by_cases h : ann (needS S b &&& x) b = 0
  · rw [hT h]
  · rw [if_neg (fun q => h q.2.1), if_neg (fun q => h q.2.1)]
theorem DD_DC {S : mw} (hV : VM S) : ∀ n x al, x < n → x < 1024 → closed S al x → DD S al x = DC S x
  | 0, x, al, h, _, _ => absurd h (Nat.not_lt_zero _)
  | n + 1, x, al, h, hx10, hx => by
    rw [DD_eq hx10, DC_eq hx10]
    unfold comp
    by_cases h0 : x = 0
    · rw [if_pos h0, if_pos h0]
    · rw [if_neg h0, if_neg h0]
      have key : ∀ k, k ≤ lst x + 1 → cmpn S al (DD S al) x k = cmpn S x (DC S) x k := by
        intro k
        induction k with
        | zero => intro _; rfl
        | succ k ih =>
          intro hk
          obtain ⟨g1, g2, g3, g4, g5, -, -⟩ := sbs_good (s := x) (k := k) hx10 (by omega) (by omega)
          unfold cmpn
          rw [ih (by omega)]
          exact tryS_cl hx g1 (by omega) (fun hn => DD_DC hV n _ _ (by omega) (by omega) (closed_ann hV hx hx10 (by omega) hn))
      exact key _ (Nat.le_refl _)
theorem DD_self {S : mw} (hV : VM S) {s : Nat} (hs : s < 1024) : DD S s s = DC S s := DD_DC hV (s + 1) s s (by omega) hs closed_self
/-- what a day tells -/
def dayR (S : mw) (s : Nat) (a : Int32) : Int32 := if (DC S s).2.2.2 = 0 then -1 else if a = 0 then nI (DC S s).1 else if a = 1 then nI (DC S s).2.1 else nI ((DC S s).2.2.2 - 1)
/-- the boat that one goes in, on the best day of all, walked from a set on -/
def bwS (S : mw) (p : Nat) : Nat → Nat → Nat
  | 0, _ => 0
  | f + 1, x => if (DC S x).2.2.1.testBit p = true then (DC S x).2.2.1 else bwS S p f (ann x (DC S x).2.2.1)
def wh (S : mw) : Nat := 2 ^ pN S - 1
/-- 0: no day -/
def bwR (S : mw) (p : Nat) : Nat := if (DC S (wh S)).2.2.2 = 0 then 0 else bwS S p 10 (wh S)
