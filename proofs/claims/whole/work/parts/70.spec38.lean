/-- a DAY of a set: its boats, each with the least of those left -/
def isDay (S : mw) : List Nat → Nat → Prop
  | [], x => x = 0
  | b :: l, x => b &&& x = b ∧ (∃ i, isLow x i ∧ b.testBit i = true) ∧ okB S x b ∧ isDay S l (ann x b)
def dcost (S : mw) : List Nat → Nat
  | [] => 0
  | b :: l => costS S b + dcost S l
def same (l : List Nat) (p q : Nat) : Prop := ∃ c, c ∈ l ∧ c.testBit p = true ∧ c.testBit q = true
def compat (l m : List Nat) : Prop := ∀ p q, p ≠ q → same l p q → same m p q → False
theorem compat_sy {l m : List Nat} (h : compat l m) : compat m l := fun p q hpq h1 h2 => h p q hpq h2 h1
theorem tryS_le1 {S : mw} {al s b : Nat} {T : Nat → dv} {a : dv} : (tryS S al T s b a).1 ≤ a.1 := by
  unfold tryS
  split
  · split
    · next h => show costS S b + (T (ann s b)).1 ≤ a.1; omega
    · exact Nat.le_refl _
  · exact Nat.le_refl _
theorem cmpn_min {S : mw} {s j : Nat} {T : Nat → dv} (h : okB S s (sbs s j)) (hf : (T (ann s (sbs s j))).2.2.2 ≠ 0) : ∀ m, (cmpn S s T s (j + 1 + m)).1 ≤ costS S (sbs s j) + (T (ann s (sbs s j))).1
  | 0 => by
    show (tryS S s T s (sbs s j) (cmpn S s T s j)).1 ≤ _
    unfold tryS
    rw [if_pos ⟨h.1, h.2, hf⟩]
    split
    · exact Nat.le_refl _
    · next q =>
      show (cmpn S s T s j).1 ≤ _
      omega
  | m + 1 => by
    have ih := cmpn_min h hf m
    have h1 := tryS_le1 (S := S) (al := s) (s := s) (b := sbs s (j + 1 + m)) (T := T) (a := cmpn S s T s (j + 1 + m))
    show (tryS S s T s (sbs s (j + 1 + m)) (cmpn S s T s (j + 1 + m))).1 ≤ _
    omega
theorem low_pos {x i : Nat} (h : isLow x i) : 0 < x := by
  apply Nat.pos_of_ne_zero
  intro q
  have := h.1
  rw [q, Nat.zero_testBit] at this
  exact absurd this (by decide)
theorem day_DC {S : mw} (hV : VM S) (l : List Nat) : ∀ x, x < 2 ^ pN S → isDay S l x → (DC S x).2.2.2 ≠ 0 ∧ (DC S x).1 ≤ dcost S l := by
  induction l with
  | nil =>
    intro x hx h
    have h : x = 0 := h
    subst h
    rw [(enD_0 S).2.2]
    exact ⟨by decide, Nat.le_refl _⟩
  | cons b l ih =>
    intro x hx h
    obtain ⟨h1, ⟨i, hi, hb⟩, h3, h4⟩ := h
    have h10 := two10 (pN_ok S).1
    have h0 := low_pos hi
    have hal := ann_le x b
    obtain ⟨i1, i2⟩ := ih (ann x b) (by omega) h4
    obtain ⟨k, hk, rfl⟩ := sbs_all (by omega) h0 h1 hi hb
    have hm := cmpn_min (S := S) (s := x) (T := DC S) h3 i1 (lst x - k)
    have hsm := cmpn_some (S := S) (al := x) (T := DC S) h3.1 h3.2 i1 (lst x - k)
    rw [show k + 1 + (lst x - k) = lst x + 1 by omega, ← DC_cmpn (by omega) h0] at hm hsm
    refine ⟨hsm, ?_⟩
    show _ ≤ costS S (sbs x k) + dcost S l
    omega
theorem day_sub {S : mw} (l : List Nat) : ∀ x c i, isDay S l x → c ∈ l → c.testBit i = true → x.testBit i = true := by
  induction l with
  | nil => intro x c i _ hc; exact absurd hc List.not_mem_nil
  | cons b l ih =>
    intro x c i h hc hi
    obtain ⟨h1, _, _, h4⟩ := h
    rcases List.mem_cons.mp hc with rfl | hc
    · exact sub_tb h1 hi
    · have := ih _ c i h4 hc hi
      rw [tb_ann, Bool.and_eq_true] at this
      exact this.1
theorem day_cov {S : mw} (l : List Nat) : ∀ x i, isDay S l x → x.testBit i = true → ∃ c, c ∈ l ∧ c.testBit i = true := by
  induction l with
  | nil =>
    intro x i h hi
    have h : x = 0 := h
    rw [h, Nat.zero_testBit] at hi
    exact absurd hi (by decide)
  | cons b l ih =>
    intro x i h hi
    obtain ⟨h1, _, _, h4⟩ := h
    cases hb : b.testBit i
    · obtain ⟨c, hc, hci⟩ := ih (ann x b) i h4 (by rw [tb_ann, hi, hb]; rfl)
      exact ⟨c, List.mem_cons_of_mem _ hc, hci⟩
    · exact ⟨b, List.mem_cons_self, hb⟩
theorem okB_in {S : mw} {x b i j : Nat} (h : okB S x b) (hi : i < 10) (hb : b.testBit i = true) (hm : (sMu S i).testBit j = true) (hx : x.testBit j = true) : b.testBit j = true :=
  ann_0i h.2 (by rw [Nat.testBit_and, needS_tb.mpr ⟨i, hi, hb, hm⟩, hx]; rfl)
theorem day_must {S : mw} (hV : VM S) {i j : Nat} (hi : i < 10) (hj : j < 10) (hm : (sMu S i).testBit j = true) (l : List Nat) : ∀ x, isDay S l x → x.testBit i = true → x.testBit j = true → same l i j := by
  have hm2 : (sMu S j).testBit i = true := by rw [← (VM_sy hV).1 i j hi hj]; exact hm
  induction l with
  | nil =>
    intro x h hxi
    have h : x = 0 := h
    rw [h, Nat.zero_testBit] at hxi
    exact absurd hxi (by decide)
  | cons b l ih =>
    intro x h hxi hxj
    obtain ⟨h1, _, h3, h4⟩ := h
    cases hbi : b.testBit i
    · cases hbj : b.testBit j
      · obtain ⟨c, hc, c1, c2⟩ := ih (ann x b) h4 (by rw [tb_ann, hxi, hbi]; rfl) (by rw [tb_ann, hxj, hbj]; rfl)
        exact ⟨c, List.mem_cons_of_mem _ hc, c1, c2⟩
      · have := okB_in h3 hj hbj hm2 hxi
        rw [this] at hbi; exact absurd hbi (by decide)
    · exact ⟨b, List.mem_cons_self, hbi, okB_in h3 hi hbi hm hxj⟩
/-- of a boat of a day all with whom one MUST go -/
theorem day_gOk {S : mw} (hV : VM S) (l : List Nat) : ∀ x b, x < 2 ^ pN S → isDay S l x → b ∈ l → okS S b = true ∧ 0 < b ∧ ∀ i j, i < 10 → j < 10 → b.testBit i = true → (sMu S i).testBit j = true → x.testBit j = true → b.testBit j = true := by
  induction l with
  | nil => intro x b _ _ hb; exact absurd hb List.not_mem_nil
  | cons c l ih =>
    intro x b hx h hb
    obtain ⟨h1, ⟨lo, _, h2⟩, h3, h4⟩ := h
    have hal := ann_le x c
    rcases List.mem_cons.mp hb with rfl | hb
    · refine ⟨h3.1, ?_, fun i j hi hj hbi hm hxj => okB_in h3 hi hbi hm hxj⟩
      apply Nat.pos_of_ne_zero
      intro q
      rw [q, Nat.zero_testBit] at h2
      exact absurd h2 (by decide)
    · obtain ⟨q1, q2, q3⟩ := ih (ann x c) b (by omega) h4 hb
      refine ⟨q1, q2, fun i j hi hj hbi hm hxj => ?_⟩
      have hxi := day_sub l (ann x c) b i h4 hb hbi
      rw [tb_ann, Bool.and_eq_true] at hxi
      cases hcj : c.testBit j
      · exact q3 i j hi hj hbi hm (by rw [tb_ann, hxj, hcj]; rfl)
      · have hm2 : (sMu S j).testBit i = true := by rw [← (VM_sy hV).1 i j hi hj]; exact hm
        have := okB_in h3 hj hcj hm2 hxi.1
        have h9 := hxi.2
        rw [this] at h9
        exact absurd h9 (by decide)
/-- of a day's row: the number of one's boat -/
def idx : List Nat → Nat → Nat
  | [], _ => 0
  | b :: l, p => if b.testBit p = true then 0 else idx l p + 1
theorem idx_low {S : mw} (l : List Nat) : ∀ x p g, isDay S l x → x.testBit p = true → idx l p = g + 1 → ∃ i, i < p ∧ x.testBit i = true ∧ idx l i = g := by
  induction l with
  | nil =>
    intro x p g h hp
    have h : x = 0 := h
    rw [h, Nat.zero_testBit] at hp
    exact absurd hp (by decide)
  | cons b l ih =>
    intro x p g h hp hg
    obtain ⟨h1, ⟨lo, hlo, hb⟩, h3, h4⟩ := h
    unfold idx at hg
    by_cases hbp : b.testBit p = true
    · rw [if_pos hbp] at hg; omega
    · rw [if_neg hbp] at hg
      have hbp2 : b.testBit p = false := by simpa using hbp
      cases g with
      | zero =>
        refine ⟨lo, ?_, hlo.1, by unfold idx; rw [if_pos hb]⟩
        apply Nat.lt_of_not_le
        intro q
        by_cases e : p = lo
        · rw [e] at hbp; exact hbp hb
        · have := hlo.2 p (by omega)
          rw [hp] at this; exact absurd this (by decide)
      | succ g =>
        obtain ⟨i, q1, q2, q3⟩ := ih (ann x b) p g h4 (by rw [tb_ann, hp, hbp2]; rfl) (by omega)
        rw [tb_ann, Bool.and_eq_true] at q2
        refine ⟨i, q1, q2.1, ?_⟩
        unfold idx
        rw [if_neg (by have := q2.2; simp at this; rw [this]; decide)]
        omega
theorem idx_at {S : mw} (l : List Nat) : ∀ x p g, isDay S l x → x.testBit p = true → (idx l p = g ↔ (l.getD g 0).testBit p = true) := by
  induction l with
  | nil =>
    intro x p g h hp
    have h : x = 0 := h
    rw [h, Nat.zero_testBit] at hp
    exact absurd hp (by decide)
  | cons b l ih =>
    intro x p g h hp
    have hd := h
    obtain ⟨h1, ⟨lo, hlo, hb⟩, h3, h4⟩ := h
    unfold idx
    by_cases hbp : b.testBit p = true
    · rw [if_pos hbp]
      cases g with
      | zero => exact ⟨fun _ => hbp, fun _ => rfl⟩
      | succ g =>
        refine ⟨fun q => by omega, fun q => ?_⟩
        have q : (l.getD g 0).testBit p = true := q
        by_cases hg : g < l.length
        · have hm : l.getD g 0 ∈ l := by
            rw [List.getD_eq_getElem?_getD, List.getElem?_eq_getElem hg]
            exact List.getElem_mem hg
          have := day_sub l (ann x b) _ p h4 hm q
          rw [tb_ann, hbp] at this
          simp at this
        · rw [List.getD_eq_getElem?_getD, List.getElem?_eq_none (by omega)] at q
          exact absurd q (by rw [show (none : Option Nat).getD 0 = 0 from rfl, Nat.zero_testBit]; decide)
    · rw [if_neg hbp]
      have hbp2 : b.testBit p = false := by simpa using hbp
      cases g with
      | zero => exact ⟨fun q => by omega, fun q => absurd q hbp⟩
      | succ g =>
        have := ih (ann x b) p g h4 (by rw [tb_ann, hp, hbp2]; rfl)
        show _ ↔ (l.getD g 0).testBit p = true
        rw [← this]
        omega
theorem day_len {S : mw} (hV : VM S) (l : List Nat) : ∀ x, x < 2 ^ pN S → isDay S l x → l.length ≤ popc x := by
  induction l with
  | nil => intro x _ _; exact Nat.zero_le _
  | cons b l ih =>
    intro x hx h
    have h10 := two10 (pN_ok S).1
    obtain ⟨h1, ⟨lo, hlo, hb⟩, h3, h4⟩ := h
    have hal := ann_le x b
    have hi := ih (ann x b) (by omega) h4
    have hbx : b ≤ x := by have : b &&& x ≤ x := Nat.and_le_right; rw [h1] at this; exact this
    have hb0 : 0 < b := by
      apply Nat.pos_of_ne_zero
      intro q
      rw [q, Nat.zero_testBit] at hb
      exact absurd hb (by decide)
    have := popc_drop (show x < 1024 by omega) h1 hb0 hbx
    show l.length + 1 ≤ _
    omega
theorem grp_tb {r : List Nat} {g p : Nat} : ∀ n, (grp r g n).testBit p = true ↔ p < n ∧ r.getD p 0 = g
  | 0 => by
    show (0 : Nat).testBit p = true ↔ _
    rw [Nat.zero_testBit]
    exact ⟨fun h => absurd h (by decide), fun h => absurd h.1 (Nat.not_lt_zero _)⟩
  | n + 1 => by
    have ih := grp_tb (r := r) (g := g) (p := p) n
    unfold grp
    by_cases h : r.getD n 0 = g
    · rw [if_pos h, Nat.testBit_or, Bool.or_eq_true, ih, Nat.testBit_two_pow]
      constructor
      · rintro (q | q)
        · exact ⟨by omega, q.2⟩
        · have : n = p := by simpa using q
          subst this; exact ⟨by omega, h⟩
      · rintro ⟨q1, q2⟩
        by_cases hp : p = n
        · subst hp; right; simp
        · left; exact ⟨by omega, q2⟩
    · rw [if_neg h, ih]
      constructor
      · rintro ⟨q1, q2⟩; exact ⟨by omega, q2⟩
      · rintro ⟨q1, q2⟩
        by_cases hp : p = n
        · subst hp; exact absurd q2 h
        · exact ⟨by omega, q2⟩
/-- rows of growing numbers -/
def rgs (r : List Nat) (n : Nat) : Prop := ∀ p, p < n → r.getD p 0 ≤ mxR r p
def genR : Nat → List (List Nat)
  | 0 => [[]]
  | p + 1 => (genR p).flatMap (fun l => (List.range (mxR l p + 1)).map (fun v => l ++ [v]))
def pad9 (l : List Nat) : List Nat := l ++ List.replicate (9 - l.length) 0
theorem mxR_cg {r r2 : List Nat} : ∀ n, (∀ i, i < n → r.getD i 0 = r2.getD i 0) → mxR r n = mxR r2 n
  | 0, _ => rfl
  | n + 1, h => by
    have ih := mxR_cg (r := r) (r2 := r2) n (fun i hi => h i (by omega))
    unfold mxR
    rw [ih, h n (by omega)]
theorem gD_app {l : List Nat} {v p : Nat} : (l ++ [v]).getD p 0 = if p < l.length then l.getD p 0 else if p = l.length then v else 0 := by
  rw [List.getD_eq_getElem?_getD, List.getD_eq_getElem?_getD]
  by_cases h : p < l.length
  · rw [if_pos h, List.getElem?_append_left h]
  · rw [if_neg h, List.getElem?_append_right (by omega)]
    by_cases h2 : p = l.length
    · rw [if_pos h2, h2, Nat.sub_self]; rfl
    · rw [if_neg h2]
      obtain ⟨z, hz⟩ : ∃ z, p - l.length = z + 1 := ⟨p - l.length - 1, by omega⟩
      rw [hz]; rfl
theorem gen_mem : ∀ (n : Nat) (l : List Nat), l ∈ genR n ↔ l.length = n ∧ rgs l n := by
  intro n
  induction n with
  | zero =>
    intro l
    constructor
    · intro h
      have : l = [] := by simpa [genR] using h
      subst this
      exact ⟨rfl, fun p hp => absurd hp (Nat.not_lt_zero _)⟩
    · rintro ⟨h, _⟩
      have : l = [] := List.length_eq_zero_iff.mp h
      subst this
      exact List.mem_singleton.mpr rfl
  | succ n ih =>
    intro l
    unfold genR
    rw [List.mem_flatMap]
    constructor
    · rintro ⟨a, ha, hl⟩
      obtain ⟨v, hv, rfl⟩ := List.mem_map.mp hl
      have hv := List.mem_range.mp hv
      obtain ⟨h1, h2⟩ := (ih a).mp ha
      refine ⟨by rw [List.length_append, h1]; rfl, fun p hp => ?_⟩
      have hm : mxR (a ++ [v]) p = mxR a p := mxR_cg p (fun i hi => by rw [gD_app, if_pos (by omega)])
      rw [hm, gD_app]
      by_cases hpn : p < n
      · rw [if_pos (by omega)]; exact h2 p hpn
      · have : p = n := by omega
        subst this
        rw [if_neg (by omega), if_pos h1.symm]; omega
    · rintro ⟨h1, h2⟩
      refine ⟨l.take n, (ih _).mpr ⟨by rw [List.length_take]; omega, fun p hp => ?_⟩, List.mem_map.mpr ⟨l.getD n 0, List.mem_range.mpr ?_, ?_⟩⟩
      · have hg : ∀ i, i < n → (l.take n).getD i 0 = l.getD i 0 := fun i hi => by
          rw [List.getD_eq_getElem?_getD, List.getD_eq_getElem?_getD, List.getElem?_take, if_pos hi]
        rw [hg p hp, mxR_cg p (fun i hi => hg i (by omega))]
        exact h2 p (by omega)
      · have hg : ∀ i, i < n → (l.take n).getD i 0 = l.getD i 0 := fun i hi => by
          rw [List.getD_eq_getElem?_getD, List.getD_eq_getElem?_getD, List.getElem?_take, if_pos hi]
        rw [mxR_cg n hg]
        have := h2 n (by omega)
        omega
      · have hn : n < l.length := by omega
        have e : l.getD n 0 = l[n] := by rw [List.getD_eq_getElem?_getD, List.getElem?_eq_getElem hn]; rfl
        rw [e, List.take_append_getElem]
        exact List.take_of_length_le (by omega)
theorem pad_getD {l : List Nat} {p : Nat} : (pad9 l).getD p 0 = l.getD p 0 := by
  unfold pad9
  rw [List.getD_eq_getElem?_getD, List.getD_eq_getElem?_getD]
  by_cases h : p < l.length
  · rw [List.getElem?_append_left h]
  · rw [List.getElem?_append_right (by omega), List.getElem?_eq_none (l := l) (by omega), List.getElem?_replicate]
    split <;> rfl
