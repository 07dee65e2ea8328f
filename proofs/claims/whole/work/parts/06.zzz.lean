/-- the best DAY of a set: what it costs (100000000: none), boats, first boat, the MOST and one more (0: none) -/
abbrev dv : Type := Nat × Nat × Nat × Nat
def tryS (S : mw) (al : Nat) (T : Nat → dv) (s b : Nat) (a : dv) : dv :=
  if okS S b = true ∧ ann (needS S b &&& al) b = 0 ∧ (T (ann s b)).2.2.2 ≠ 0 then
    (if costS S b + (T (ann s b)).1 < a.1 ∨ (costS S b + (T (ann s b)).1 = a.1 ∧ 1 + (T (ann s b)).2.1 < a.2.1) then (costS S b + (T (ann s b)).1, 1 + (T (ann s b)).2.1, b, max a.2.2.2 (costS S b + (T (ann s b)).2.2.2)) else (a.1, a.2.1, a.2.2.1, max a.2.2.2 (costS S b + (T (ann s b)).2.2.2)))
  else a
def cmpn (S : mw) (al : Nat) (T : Nat → dv) (s : Nat) : Nat → dv
  | 0 => (100000000, 0, 0, 0)
  | k + 1 => tryS S al T s (sbs s k) (cmpn S al T s k)
def comp (S : mw) (al : Nat) (T : Nat → dv) (s : Nat) : dv := if s = 0 then (0, 0, 0, 1) else cmpn S al T s (lst s + 1)
def tab (S : mw) (al : Nat) : Nat → Nat → dv
  | 0 => fun _ => (0, 0, 0, 0)
  | k + 1 => fun x => if x = k then comp S al (tab S al k) k else tab S al k x
def DD (S : mw) (al s : Nat) : dv := comp S al (tab S al s) s
theorem tab_DD {S : mw} {al : Nat} : ∀ n x, x < n → tab S al n x = DD S al x
  | 0, x, h => absurd h (Nat.not_lt_zero _)
  | n + 1, x, h => by
    unfold tab
    by_cases hx : x = n
    · subst hx; rw [if_pos rfl]; rfl
    · rw [if_neg hx]; exact tab_DD n x (by omega)
theorem cmpn_congr {S : mw} {al s : Nat} {T T2 : Nat → dv} (hs : s < 1024) (h0 : 0 < s) (h : ∀ x, x < s → T x = T2 x) : ∀ k, k ≤ lst s + 1 → cmpn S al T s k = cmpn S al T2 s k
  | 0, _ => rfl
  | k + 1, hk => by
    have ih := cmpn_congr (S := S) (al := al) hs h0 h k (by omega)
    have hl := (sbs_good hs h0 (show k ≤ lst s by omega)).2.1
    unfold cmpn
    rw [ih]
    unfold tryS
    rw [h _ hl]
theorem DD_eq {S : mw} {al s : Nat} (hs : s < 1024) : DD S al s = comp S al (DD S al) s := by
  unfold DD comp
  by_cases h0 : s = 0
  · rw [if_pos h0, if_pos h0]
  · rw [if_neg h0, if_neg h0]
    exact cmpn_congr hs (by omega) (fun x hx => tab_DD s x hx) _ (Nat.le_refl _)
theorem costS_le {S : mw} (hV : VM S) {b : Nat} (hb : b < 2 ^ pN S) (hb0 : 0 < b) : costS S b ≤ 249 + 891 * popc b := by
  have hp := (pN_ok S).1
  rw [costS_pN hb]
  have h1 : fareS S b ≤ 249 := by
    by_cases h1 : popc b = 1
    · unfold fareS; rw [if_pos h1]; have := ((VM_set hV).1 2 (by omega)).2; have : sHi 2 = 99 := rfl; omega
    · rw [fareS_pN hb h1 (by omega)]
      have a1 := mxb_le (f := tld S) (b := b) (pN S) (fun j q => tld_le hV q)
      have a2 := mxb_le (f := sWt S) (b := b) (pN S) (fun j q => (VM_wt hV j (by omega)).2)
      split <;> split <;> omega
  have h2 := mxb_le (f := sHr S) (b := b) (pN S) (fun j q => (VM_hr hV j (by omega)).2)
  have h3 : popc b * mxb (sHr S) b (pN S) ≤ popc b * 99 := Nat.mul_le_mul_left _ h2
  have h4 : sSet S 3 ≤ 9 := ((VM_set hV).1 3 (by omega)).2
  have h5 : sSet S 3 * (popc b * mxb (sHr S) b (pN S) - smb (sHr S) b (pN S)) ≤ 9 * (popc b * 99) := Nat.mul_le_mul h4 (by omega)
  omega
