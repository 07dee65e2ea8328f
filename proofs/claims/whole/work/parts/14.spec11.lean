theorem tryS_wit {S : mw} {al s b : Nat} {T : Nat → dv} {a : dv} (h : (tryS S al T s b a).2.2.2 ≠ 0) : (tryS S al T s b a = a ∧ a.2.2.2 ≠ 0) ∨ (a.2.2.2 ≠ 0 ∧ (tryS S al T s b a).1 = a.1 ∧ (tryS S al T s b a).2.1 = a.2.1 ∧ (tryS S al T s b a).2.2.1 = a.2.2.1) ∨ (okS S b = true ∧ ann (needS S b &&& al) b = 0 ∧ (T (ann s b)).2.2.2 ≠ 0 ∧ (((tryS S al T s b a).1 = costS S b + (T (ann s b)).1 ∧ (tryS S al T s b a).2.1 = 1 + (T (ann s b)).2.1 ∧ (tryS S al T s b a).2.2.1 = b) ∨ a.2.2.2 = 0)) := by
  unfold tryS at h ⊢
  by_cases hc : okS S b = true ∧ ann (needS S b &&& al) b = 0 ∧ (T (ann s b)).2.2.2 ≠ 0
  · rw [if_pos hc] at h ⊢
    split
    · exact Or.inr (Or.inr ⟨hc.1, hc.2.1, hc.2.2, Or.inl ⟨rfl, rfl, rfl⟩⟩)
    · by_cases h0 : a.2.2.2 = 0
      · exact Or.inr (Or.inr ⟨hc.1, hc.2.1, hc.2.2, Or.inr h0⟩)
      · exact Or.inr (Or.inl ⟨h0, rfl, rfl, rfl⟩)
  · rw [if_neg hc] at h ⊢
    exact Or.inl ⟨rfl, h⟩
/-- a day's first boat -/
def fstB (S : mw) (T : Nat → dv) (s : Nat) (v : dv) (b : Nat) : Prop := okS S b = true ∧ ann (needS S b &&& s) b = 0 ∧ (T (ann s b)).2.2.2 ≠ 0 ∧ v.1 = costS S b + (T (ann s b)).1 ∧ v.2.1 = 1 + (T (ann s b)).2.1 ∧ v.2.2.1 = b
theorem cmpn_wit {S : mw} {s : Nat} {T : Nat → dv} (hV : VM S) (hs : s < 2 ^ pN S) (h0 : 0 < s) (hT : ∀ x, x < s → dvB x (T x)) (k : Nat) : k ≤ lst s + 1 → (cmpn S s T s k).2.2.2 ≠ 0 → ∃ j, j < k ∧ fstB S T s (cmpn S s T s k) (sbs s j) := by
  induction k with
  | zero =>
    intro _ h
    have h2 : cmpn S s T s 0 = (100000000, 0, 0, 0) := rfl
    rw [h2] at h
    exact (h rfl).elim
  | succ k ih =>
    intro hk h
    have hp := (pN_ok S).1
    have h10 := two10 hp
    have hok := cmpn_ok (al := s) hV hs h0 hT k (by omega)
    have hg := sbs_good (s := s) (k := k) (by omega) h0 (by omega)
    have e : cmpn S s T s (k + 1) = tryS S s T s (sbs s k) (cmpn S s T s k) := rfl
    rw [e] at h ⊢
    rcases tryS_wit h with ⟨h1, h2⟩ | ⟨h1, h2, h3, h4⟩ | ⟨h1, h2, h3, h4⟩
    · obtain ⟨j, hj, hw⟩ := ih (by omega) h2
      exact ⟨j, by omega, by rw [h1]; exact hw⟩
    · obtain ⟨j, hj, a1, a2, a3, a4, a5, a6⟩ := ih (by omega) h1
      exact ⟨j, by omega, a1, a2, a3, by rw [h2]; exact a4, by rw [h3]; exact a5, by rw [h4]; exact a6⟩
    · refine ⟨k, by omega, h1, h2, h3, ?_⟩
      rcases h4 with h4 | h4
      · exact h4
      · have h5 := hok.2.2.2.2 h4
        unfold tryS
        rw [if_pos ⟨h1, h2, h3⟩, h5, if_pos]
        · exact ⟨rfl, rfl, rfl⟩
        · left
          show _ < 100000000
          have hc := costS_le hV (b := sbs s k) (by omega) hg.2.2.2.1
          have hd := (dvB_1 (hT _ hg.2.1)).1
          have hd2 := (hT _ hg.2.1).2.2.2.1 h3
          have := popc_le (sbs s k)
          have := popc_le (ann s (sbs s k))
          omega
theorem DC_wit {S : mw} {s : Nat} (hV : VM S) (hs : s < 2 ^ pN S) (h0 : 0 < s) (h : (DC S s).2.2.2 ≠ 0) : ∃ j, j ≤ lst s ∧ fstB S (DC S) s (DC S s) (sbs s j) := by
  have hp := (pN_ok S).1
  have h10 := two10 hp
  rw [DC_eq (by omega)] at h ⊢
  unfold comp at h ⊢
  rw [if_neg (by omega)] at h ⊢
  obtain ⟨j, hj, hw⟩ := cmpn_wit hV hs h0 (fun x hx => DC_okk hV (by omega)) _ (Nat.le_refl _) h
  exact ⟨j, by omega, hw⟩
theorem DC_fst {S : mw} {s : Nat} (hV : VM S) (hs : s < 2 ^ pN S) (h0 : 0 < s) (h : (DC S s).2.2.2 ≠ 0) : fstB S (DC S) s (DC S s) (DC S s).2.2.1 ∧ (DC S s).2.2.1 &&& s = (DC S s).2.2.1 ∧ 0 < (DC S s).2.2.1 ∧ ann s (DC S s).2.2.1 < s ∧ (DC S s).2.2.1 ≤ s := by
  have hp := (pN_ok S).1
  have h10 := two10 hp
  obtain ⟨j, hj, hw⟩ := DC_wit hV hs h0 h
  obtain ⟨g1, g2, g3, g4, g5, -, -⟩ := sbs_good (s := s) (k := j) (by omega) h0 (by omega)
  have e : (DC S s).2.2.1 = sbs s j := hw.2.2.2.2.2
  rw [e]
  exact ⟨hw, g1, g4, g2, g5⟩
theorem popc_drop {s b : Nat} (hs : s < 1024) (h : b &&& s = b) (h0 : 0 < b) (hb : b ≤ s) : popc (ann s b) < popc s := by
  have h1 := popc_ann h
  have h2 := popc_pos b (by omega) h0
  omega
theorem bwS_ok {S : mw} {p : Nat} (hV : VM S) : ∀ f x, popc x ≤ f → x < 2 ^ pN S → x.testBit p = true → (DC S x).2.2.2 ≠ 0 → (bwS S p f x).testBit p = true ∧ bwS S p f x ≤ x ∧ okS S (bwS S p f x) = true
  | 0, x, hf, hx, hb, h => by
    have hp := (pN_ok S).1
    have h10 := two10 hp
    exfalso
    by_cases h0 : 0 < x
    · exact popc_pos x (by omega) h0 (by omega)
    · rw [show x = 0 by omega, Nat.zero_testBit] at hb; exact absurd hb (by decide)
  | f + 1, x, hf, hx, hb, h => by
    have hp := (pN_ok S).1
    have h10 := two10 hp
    have h0 : 0 < x := by
      apply Nat.pos_of_ne_zero
      intro q
      rw [q, Nat.zero_testBit] at hb; exact absurd hb (by decide)
    obtain ⟨hw, g1, g4, g2, g5⟩ := DC_fst hV hx h0 h
    unfold bwS
    by_cases ht : (DC S x).2.2.1.testBit p = true
    · rw [if_pos ht]; exact ⟨ht, g5, hw.1⟩
    · rw [if_neg ht]
      have hd := popc_drop (by omega) g1 g4 g5
      have h1 := bwS_ok hV f (ann x (DC S x).2.2.1) (by omega) (by omega) (by rw [tb_ann, hb]; simpa using ht) hw.2.2.1
      exact ⟨h1.1, by omega, h1.2.2⟩
theorem wh_lt (S : mw) : wh S < 2 ^ pN S := by unfold wh; have := Nat.one_le_two_pow (n := pN S); omega
theorem wh_tb {S : mw} {p : Nat} (hp : p < pN S) : (wh S).testBit p = true := by
  unfold wh; rw [Nat.testBit_two_pow_sub_one]; simpa using hp
theorem wh_sub {S : mw} {x : Nat} (h : x < 2 ^ pN S) : x &&& wh S = x := by
  unfold wh; rw [Nat.and_two_pow_sub_one_eq_mod]; exact Nat.mod_eq_of_lt h
theorem bwR_ok {S : mw} {p : Nat} (hV : VM S) (hp : p < pN S) (h : bwR S p ≠ 0) : (bwR S p).testBit p = true ∧ bwR S p < 2 ^ pN S ∧ okS S (bwR S p) = true ∧ 0 < bwR S p ∧ (DC S (wh S)).2.2.2 ≠ 0 := by
  unfold bwR at h ⊢
  by_cases h0 : (DC S (wh S)).2.2.2 = 0
  · rw [if_pos h0] at h; exact absurd rfl h
  · rw [if_neg h0] at h ⊢
    have := bwS_ok hV 10 (wh S) (popc_le _) (wh_lt S) (wh_tb hp) h0
    exact ⟨this.1, Nat.lt_of_le_of_lt this.2.1 (wh_lt S), this.2.2, Nat.pos_of_ne_zero h, h0⟩
theorem bwR_0 {S : mw} {p : Nat} (hV : VM S) (hp : p < pN S) : bwR S p = 0 ↔ (DC S (wh S)).2.2.2 = 0 := by
  constructor
  · intro h
    unfold bwR at h
    by_cases h0 : (DC S (wh S)).2.2.2 = 0
    · exact h0
    · rw [if_neg h0] at h
      have := (bwS_ok hV 10 (wh S) (popc_le _) (wh_lt S) (wh_tb hp) h0).1
      rw [h, Nat.zero_testBit] at this; exact absurd this (by decide)
  · intro h; unfold bwR; rw [if_pos h]
def withR (S : mw) (p : Nat) : Int32 := if bwR S p = 0 then -1 else nI (bwR S p)
def oddN (S : mw) : Nat → Int32 × Int32
  | 0 => (-1, 0)
  | p + 1 => if dayR S (ann (wh S) (2 ^ p)) 0 ≠ -1 ∧ ((oddN S p).1 = -1 ∨ (dayR S (ann (wh S) (2 ^ p)) 0).toInt < (oddN S p).2.toInt) then (nI p, dayR S (ann (wh S) (2 ^ p)) 0) else oddN S p
def oddR (S : mw) : Int32 := (oddN S (pN S)).1
def perOk (S : mw) (p : Int32) : Prop := 0 ≤ p.toInt ∧ p.toInt < pN S
def rPerson (S : mw) (p a : Int32) : Int32 := if (0 ≤ p.toInt ∧ p.toInt < pN S) ∧ 0 ≤ a.toInt ∧ a.toInt ≤ 1 then (if a = 0 then nI (pA S p.toNatClampNeg) else nI (tld S p.toNatClampNeg)) else -2
def rWith (S : mw) (p : Int32) : Int32 := if 0 ≤ p.toInt ∧ p.toInt < pN S then withR S p.toNatClampNeg else -2
def rBoat (S : mw) (b a : Int32) : Int32 := if (1 ≤ b.toInt ∧ b.toInt ≤ wh S) ∧ 0 ≤ a.toInt ∧ a.toInt ≤ 1 then (if a = 0 then nI (costS S b.toNatClampNeg) else nI (fareS S b.toNatClampNeg)) else -2
def rDay (S : mw) (b a : Int32) : Int32 := if (0 ≤ b.toInt ∧ b.toInt ≤ wh S) ∧ 0 ≤ a.toInt ∧ a.toInt ≤ 2 then dayR S b.toNatClampNeg a else -2
theorem frF_m {w w1 : mw} (h : frF w w1) : fr mRows w w1 := fr_sub h.1 (by decide)
def sRows : List Nat := [46, 47, 48, 49, 50, 51, 52]
theorem MP_s {w w1 S : mw} (h : MP w S) (hf : fr sRows w w1) : MP w1 S := MP_fr h hf (by decide)
theorem wh_1 (S : mw) : wh S + 1 = 2 ^ pN S := by unfold wh; have := Nat.one_le_two_pow (n := pN S); omega
