def bsOk (w S : mw) (n : Nat) : Prop := ∀ b, 1 ≤ b → b < n → w 48 b = bi (okS S b) ∧ w 46 b = (if okS S b = true then nI (costS S b) else 100000000) ∧ w 47 b = nI (needS S b)
def MB (w S : mw) : Prop := MP w S ∧ bsOk w S (2 ^ pN S)
theorem MP_fr {L : List Nat} {w w1 S : mw} (h : MP w S) (hf : fr L w w1) (hL : ∀ k ∈ L, k ∉ pRows ∧ k ≠ 33 ∧ k ≠ 39) : MP w1 S := by
  refine ⟨MM_fr h.1 hf (fun k hk => ⟨(hL k hk).1, (hL k hk).2.1⟩), ?_, fun i hi => ?_⟩
  · rw [hf 33 (fun q => (hL 33 q).2.1 rfl)]; exact h.2.1
  · rw [hf 39 (fun q => (hL 39 q).2.2 rfl)]; exact h.2.2 i hi
theorem MB_fr {L : List Nat} {w w1 S : mw} (h : MB w S) (hf : fr L w w1) (hL : ∀ k ∈ L, k ∉ pRows ∧ k ≠ 33 ∧ k ≠ 39 ∧ k ≠ 46 ∧ k ≠ 47 ∧ k ≠ 48) : MB w1 S := by
  refine ⟨MP_fr h.1 hf (fun k hk => ⟨(hL k hk).1, (hL k hk).2.1, (hL k hk).2.2.1⟩), fun b h1 h2 => ?_⟩
  rw [hf 48 (fun q => (hL 48 q).2.2.2.2.2 rfl), hf 46 (fun q => (hL 46 q).2.2.2.1 rfl), hf 47 (fun q => (hL 47 q).2.2.2.2.1 rfl)]
  exact h.2 b h1 h2
def m1v (m : Nat) : Int32 := if m = 0 then -1 else nI (m - 1)
def rowIs (w : mw) (x : Nat) (v : dv) : Prop := w 49 x = nI v.1 ∧ w 50 x = nI v.2.1 ∧ w 51 x = nI v.2.2.1 ∧ w 52 x = m1v v.2.2.2
theorem orn_lt {f : Nat → Nat} {b : Nat} : ∀ n, (∀ i, i < n → f i < 1024) → orn f b n < 1024
  | 0, _ => by show 0 < 1024; decide
  | n + 1, h => by
    have h1 := orn_lt (f := f) (b := b) n (fun i q => h i (by omega))
    have h2 := h n (by omega)
    unfold orn; split
    · exact Nat.or_lt_two_pow (n := 10) h1 h2
    · exact h1
theorem needS_lt {S : mw} (hV : VM S) {b : Nat} : needS S b < 1024 := orn_lt 10 (fun i q => (VM_mu hV i q).2)
def fr4 (s : Nat) (w w1 : mw) : Prop := fr [49, 50, 51, 52] w w1 ∧ ∀ k x, x ≠ s → w1 k x = w k x
theorem fr4_rf {s : Nat} {w : mw} : fr4 s w w := ⟨fr_rf, fun _ _ _ => rfl⟩
theorem fr4_tr {s : Nat} {w w1 w2 : mw} (h : fr4 s w w1) (h2 : fr4 s w1 w2) : fr4 s w w2 := ⟨fr_tr h.1 h2.1, fun k x hx => (h2.2 k x hx).trans (h.2 k x hx)⟩
theorem fr4_U {s k : Nat} {w : mw} {x : Int32} (hk : k ∈ [49, 50, 51, 52]) : fr4 s w (mU w k s x) := ⟨fr_U hk, fun a i hi => by
  rw [mU_row]; split
  · next h => subst h; exact pk_un hi
  · rfl⟩
theorem ann_le (a b : Nat) : ann a b ≤ a := by
  apply Nat.le_of_not_lt
  intro h
  have h1 : ann a b &&& a = ann a b := by
    apply Nat.eq_of_testBit_eq
    intro i
    unfold ann
    rw [Nat.testBit_and, Nat.testBit_xor, Nat.testBit_and]
    cases a.testBit i <;> cases b.testBit i <;> rfl
  have h2 : ann a b &&& a ≤ a := Nat.and_le_right
  omega
theorem m1v_lt (m : Nat) (hm : m < 2000000000) : (m1v m).toInt < 0 ↔ m = 0 := by
  unfold m1v
  by_cases h : m = 0
  · rw [if_pos h]; exact ⟨fun _ => h, fun _ => by decide⟩
  · rw [if_neg h, ti (by omega)]; exact ⟨fun q => by omega, fun q => absurd q h⟩
theorem m1v_toInt {m : Nat} (hm : m < 2000000000) : (m1v m).toInt = (m : Int) - 1 := by
  unfold m1v
  by_cases h : m = 0
  · rw [if_pos h, h]; rfl
  · rw [if_neg h, ti (by omega)]; omega
theorem pcn_ann {a b : Nat} : ∀ n, pcn (a &&& b) n + pcn (ann a b) n = pcn a n
  | 0 => rfl
  | n + 1 => by
    have h := pcn_ann (a := a) (b := b) n
    unfold pcn
    have h1 : (ann a b).testBit n = (a.testBit n && !b.testBit n) := by
      unfold ann; rw [Nat.testBit_xor, Nat.testBit_and]
      cases a.testBit n <;> cases b.testBit n <;> rfl
    rw [h1, Nat.testBit_and]
    cases a.testBit n <;> cases b.testBit n <;> simp <;> omega
theorem popc_ann {s b : Nat} (h : b &&& s = b) : popc b + popc (ann s b) = popc s := by
  have := pcn_ann (a := s) (b := b) 10
  rw [Nat.and_comm, h] at this
  exact this
/-- the bounds of what a DAY costs -/
def dvB (s : Nat) (v : dv) : Prop := v.2.1 ≤ popc s ∧ v.2.2.1 < 1024 ∧ v.2.2.2 ≤ 1140 * popc s + 1 ∧ (v.2.2.2 ≠ 0 → v.1 ≤ 1140 * popc s) ∧ (v.2.2.2 = 0 → v = (100000000, 0, 0, 0))
theorem dvB_1 {s : Nat} {v : dv} (h : dvB s v) : v.1 ≤ 100000000 ∧ v.2.1 ≤ 10 ∧ v.2.2.1 < 1024 ∧ v.2.2.2 ≤ 11401 := by
  have hp := popc_le s
  obtain ⟨a1, a2, a3, a4, a5⟩ := h
  refine ⟨?_, by omega, a2, by omega⟩
  by_cases h0 : v.2.2.2 = 0
  · rw [a5 h0]; exact Nat.le_refl _
  · have := a4 h0; omega
theorem tryS_ok {S : mw} {al s b : Nat} {T : Nat → dv} {a : dv} (hV : VM S) (hs : s < 2 ^ pN S) (hb0 : 0 < b) (hbs : b ≤ s) (hsub : b &&& s = b) (hT : dvB (ann s b) (T (ann s b))) (ha : dvB s a) : dvB s (tryS S al T s b a) := by
  unfold tryS
  by_cases h : okS S b = true ∧ ann (needS S b &&& al) b = 0 ∧ (T (ann s b)).2.2.2 ≠ 0
  · rw [if_pos h]
    have hc := costS_le hV (b := b) (by omega) hb0
    have hpp := popc_ann hsub
    have hp := (pN_ok S).1
    have h10 := two10 hp
    have hb1 := popc_pos b (by omega) hb0
    obtain ⟨t1, t2, t3, t4, t5⟩ := hT
    have t4 := t4 h.2.2
    obtain ⟨a1, a2, a3, a4, a5⟩ := ha
    split
    · refine ⟨by show 1 + _ ≤ _; omega, by show b < 1024; omega, by show max _ _ ≤ _; exact Nat.max_le.mpr ⟨a3, by omega⟩, fun _ => by show costS S b + _ ≤ _; omega, fun q => ?_⟩
      have q : max a.2.2.2 (costS S b + (T (ann s b)).2.2.2) = 0 := q
      have := Nat.le_max_right a.2.2.2 (costS S b + (T (ann s b)).2.2.2)
      omega
    · next hn =>
      refine ⟨a1, a2, by show max _ _ ≤ _; exact Nat.max_le.mpr ⟨a3, by omega⟩, fun _ => ?_, fun q => ?_⟩
      · by_cases h0 : a.2.2.2 = 0
        · exact absurd (Or.inl (by rw [a5 h0]; show _ < 100000000; have := popc_le s; omega)) hn
        · exact a4 h0
      · have q : max a.2.2.2 (costS S b + (T (ann s b)).2.2.2) = 0 := q
        have := Nat.le_max_right a.2.2.2 (costS S b + (T (ann s b)).2.2.2)
        omega
  · rw [if_neg h]; exact ha
theorem cmpn_ok {S : mw} {al s : Nat} {T : Nat → dv} (hV : VM S) (hs : s < 2 ^ pN S) (h0 : 0 < s) (hT : ∀ x, x < s → dvB x (T x)) : ∀ k, k ≤ lst s + 1 → dvB s (cmpn S al T s k)
  | 0, _ => ⟨Nat.zero_le _, by show 0 < 1024; decide, Nat.zero_le _, fun q => absurd rfl q, fun _ => rfl⟩
  | k + 1, hk => by
    have ih := cmpn_ok (al := al) hV hs h0 hT k (by omega)
    have hp := (pN_ok S).1
    have h10 := two10 hp
    obtain ⟨g1, g2, g3, g4, g5, -, -⟩ := sbs_good (s := s) (k := k) (by omega) h0 (by omega)
    exact tryS_ok hV hs g4 g5 g1 (hT _ g2) ih
theorem DD_ok {S : mw} {al : Nat} (hV : VM S) : ∀ n s, s < n → s < 2 ^ pN S → dvB s (DD S al s)
  | 0, s, h, _ => absurd h (Nat.not_lt_zero _)
  | n + 1, s, h, hs => by
    have hp := (pN_ok S).1
    have h10 := two10 hp
    rw [DD_eq (by omega)]
    unfold comp
    by_cases h0 : s = 0
    · rw [if_pos h0]; exact ⟨Nat.zero_le _, by show 0 < 1024; decide, by show 1 ≤ _; omega, fun _ => Nat.zero_le _, fun q => absurd q (by decide)⟩
    · rw [if_neg h0]
      exact cmpn_ok hV hs (by omega) (fun x hx => DD_ok hV n x (by omega) (by omega)) _ (Nat.le_refl _)
theorem DD_okk {S : mw} {al s : Nat} (hV : VM S) (hs : s < 2 ^ pN S) : dvB s (DD S al s) := DD_ok hV (s + 1) s (by omega) hs
