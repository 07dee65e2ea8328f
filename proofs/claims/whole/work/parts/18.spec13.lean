def sbL (r : Nat) : Nat → List Nat
  | 0 => [0]
  | n + 1 => if r.testBit n = true then sbL r n ++ (sbL r n).map (· + 2 ^ n) else sbL r n
def itL (r : Nat) : Nat → Nat → List Nat
  | 0, _ => []
  | n + 1, p => p :: itL r n (nxp p r)
theorem it_sb : ∀ r, r < 1024 → itL r (2 ^ popc r) 0 = sbL r 10 := by decide +kernel
theorem itL_mem {r p : Nat} : ∀ n m, p ∈ itL r n (prt r m) → ∃ k, k < n ∧ p = prt r (m + k)
  | 0, m, h => by unfold itL at h; exact absurd h List.not_mem_nil
  | n + 1, m, h => by
    unfold itL at h
    rcases List.mem_cons.mp h with h | h
    · exact ⟨0, by omega, h⟩
    · obtain ⟨k, hk, e⟩ := itL_mem n (m + 1) h
      exact ⟨k + 1, by omega, by rw [e]; congr 1; omega⟩
theorem sbL_mem {r : Nat} : ∀ n p, p < 2 ^ n → (∀ i, i < n → p.testBit i = true → r.testBit i = true) → p ∈ sbL r n
  | 0, p, hp, _ => by
    have : p = 0 := by have : 2 ^ 0 = 1 := rfl; omega
    subst this; exact List.mem_singleton.mpr rfl
  | n + 1, p, hp, h => by
    unfold sbL
    by_cases hl : p < 2 ^ n
    · have ih := sbL_mem n p hl (fun i hi => h i (by omega))
      split
      · exact List.mem_append_left _ ih
      · exact ih
    · have e : p = 2 ^ n + (p - 2 ^ n) := by omega
      have h2 : 2 ^ (n + 1) = 2 ^ n + 2 ^ n := by rw [Nat.pow_succ]; omega
      have hq : p - 2 ^ n < 2 ^ n := by omega
      have hb : p.testBit n = true := by
        rw [e, Nat.testBit_two_pow_add_eq, Nat.testBit_lt_two_pow hq]; rfl
      rw [if_pos (h n (by omega) hb)]
      refine List.mem_append_right _ (List.mem_map.mpr ⟨p - 2 ^ n, sbL_mem n _ hq (fun i hi hi2 => h i (by omega) ?_), by omega⟩)
      rw [e, Nat.testBit_two_pow_add_gt hi]; exact hi2
def isLow (s i : Nat) : Prop := s.testBit i = true ∧ ∀ j, j < i → s.testBit j = false
theorem low_ex : ∀ s, s < 1024 → 0 < s → ∃ i, i < 10 ∧ lob s = 2 ^ i ∧ s.testBit i = true ∧ ∀ j, j < i → s.testBit j = false := by decide +kernel
theorem lob_or : ∀ s, s < 1024 → lob s ||| rst s = s ∧ rst s ≤ s := by decide +kernel
theorem isLow_u {s i j : Nat} (h : isLow s i) (h2 : isLow s j) : i = j := by
  rcases Nat.lt_trichotomy i j with q | q | q
  · have := h2.2 i q; rw [h.1] at this; exact absurd this (by decide)
  · exact q
  · have := h.2 j q; rw [h2.1] at this; exact absurd this (by decide)
theorem isLow_sub {s x i : Nat} (h : isLow s i) (hx : x &&& s = x) (hi : x.testBit i = true) : isLow x i := by
  refine ⟨hi, fun j hj => ?_⟩
  cases hb : x.testBit j
  · rfl
  · have := h.2 j hj; rw [sub_tb hx hb] at this; exact absurd this (by decide)
/-- every set of some with the least of all is met -/
theorem sbs_all {s c i : Nat} (h : s < 1024) (h0 : 0 < s) (hc : c &&& s = c) (hl : isLow s i) (hi : c.testBit i = true) : ∃ k, k ≤ lst s ∧ sbs s k = c := by
  obtain ⟨i2, hi2, e1, e2, e3⟩ := low_ex s h h0
  have hii : i = i2 := isLow_u hl ⟨e2, e3⟩
  subst hii
  have hr := lob_or s h
  have hm : c &&& rst s ∈ itL (rst s) (2 ^ popc (rst s)) (prt (rst s) 0) := by
    show c &&& rst s ∈ itL (rst s) (2 ^ popc (rst s)) 0
    rw [it_sb _ (by omega)]
    have hle : c &&& rst s ≤ rst s := Nat.and_le_right
    refine sbL_mem 10 _ (by show _ < 1024; omega) (fun j _ hj => ?_)
    rw [Nat.testBit_and, Bool.and_eq_true] at hj
    exact hj.2
  obtain ⟨k, hk, e⟩ := itL_mem _ 0 hm
  rw [Nat.zero_add] at e
  refine ⟨k, by have := lst_1 (s := s); omega, ?_⟩
  unfold sbs
  rw [← e, e1]
  apply Nat.eq_of_testBit_eq
  intro j
  rw [Nat.testBit_or, Nat.testBit_and, Nat.testBit_two_pow]
  have hs : s.testBit j = ((decide (i = j)) || (rst s).testBit j) := by rw [← Nat.testBit_two_pow, ← e1, ← Nat.testBit_or, hr.1]
  cases hcj : c.testBit j
  · by_cases hij : i = j
    · subst hij; rw [hi] at hcj; exact absurd hcj (by decide)
    · simp [hij]
  · have := sub_tb hc hcj
    rw [hs] at this
    simpa using this
def Fe (S : mw) (x : Nat) : Prop := (DC S x).2.2.2 ≠ 0
theorem tryS_mono {S : mw} {al s b : Nat} {T : Nat → dv} {a : dv} : a.2.2.2 ≤ (tryS S al T s b a).2.2.2 := by
  unfold tryS
  split
  · split
    · exact Nat.le_max_left _ _
    · exact Nat.le_max_left _ _
  · exact Nat.le_refl _
theorem cmpn_some {S : mw} {al s j : Nat} {T : Nat → dv} (h1 : okS S (sbs s j) = true) (h2 : ann (needS S (sbs s j) &&& al) (sbs s j) = 0) (h3 : (T (ann s (sbs s j))).2.2.2 ≠ 0) : ∀ k, (cmpn S al T s (j + 1 + k)).2.2.2 ≠ 0
  | 0 => by
    have e : cmpn S al T s (j + 1) = tryS S al T s (sbs s j) (cmpn S al T s j) := rfl
    rw [Nat.add_zero, e]
    unfold tryS
    rw [if_pos ⟨h1, h2, h3⟩]
    have := Nat.le_max_right (cmpn S al T s j).2.2.2 (costS S (sbs s j) + (T (ann s (sbs s j))).2.2.2)
    split
    · show max _ _ ≠ 0; omega
    · show max _ _ ≠ 0; omega
  | k + 1 => by
    have ih := cmpn_some h1 h2 h3 k
    have hm := tryS_mono (S := S) (al := al) (s := s) (b := sbs s (j + 1 + k)) (T := T) (a := cmpn S al T s (j + 1 + k))
    show (tryS S al T s (sbs s (j + 1 + k)) (cmpn S al T s (j + 1 + k))).2.2.2 ≠ 0
    omega
theorem Fe_0 {S : mw} : Fe S 0 := by
  unfold Fe DC comp
  rw [if_pos rfl]
  decide
theorem Fe_of {S : mw} {x c i : Nat} (hx : x < 1024) (h0 : 0 < x) (hl : isLow x i) (hc : c &&& x = c) (hi : c.testBit i = true) (h1 : okS S c = true) (h2 : ann (needS S c &&& x) c = 0) (h3 : Fe S (ann x c)) : Fe S x := by
  obtain ⟨k, hk, rfl⟩ := sbs_all hx h0 hc hl hi
  unfold Fe
  rw [DC_eq hx]
  unfold comp
  rw [if_neg (by omega)]
  have := cmpn_some (S := S) (al := x) (T := DC S) h1 h2 h3 (lst x - k)
  rwa [show k + 1 + (lst x - k) = lst x + 1 by omega] at this
theorem Fe_to {S : mw} {x : Nat} (hV : VM S) (hx : x < 2 ^ pN S) (h0 : 0 < x) (h : Fe S x) : ∃ c i, isLow x i ∧ c &&& x = c ∧ c.testBit i = true ∧ okS S c = true ∧ ann (needS S c &&& x) c = 0 ∧ Fe S (ann x c) ∧ ann x c < x := by
  have hp := (pN_ok S).1
  have h10 := two10 hp
  obtain ⟨j, hj, hw⟩ := DC_wit hV hx h0 h
  obtain ⟨g1, g2, g3, g4, g5, -, -⟩ := sbs_good (s := x) (k := j) (by omega) h0 (by omega)
  obtain ⟨i, hi, e1, e2, e3⟩ := low_ex x (by omega) h0
  refine ⟨sbs x j, i, ⟨e2, e3⟩, g1, ?_, hw.1, hw.2.1, hw.2.2.1, g2⟩
  unfold sbs
  rw [Nat.testBit_or, e1, Nat.testBit_two_pow]; simp
theorem ann_c {x b c : Nat} : ann (ann x b) c = ann (ann x c) b := by
  apply Nat.eq_of_testBit_eq; intro i
  rw [tb_ann, tb_ann, tb_ann, tb_ann]
  cases x.testBit i <;> cases b.testBit i <;> cases c.testBit i <;> rfl
theorem Fe_add {S : mw} (hV : VM S) : ∀ n x b, x < n → x < 2 ^ pN S → b &&& x = b → okS S b = true → ann (needS S b &&& x) b = 0 → Fe S (ann x b) → Fe S x
  | 0, x, b, h, _, _, _, _, _ => absurd h (Nat.not_lt_zero _)
  | n + 1, x, b, h, hx, hb, hok, hn, hF => by
    have hp := (pN_ok S).1
    have h10 := two10 hp
    by_cases h0 : x = 0
    · subst h0; exact Fe_0
    · obtain ⟨i, hi, e1, e2, e3⟩ := low_ex x (by omega) (by omega)
      have hlow : isLow x i := ⟨e2, e3⟩
      by_cases hbi : b.testBit i = true
      · exact Fe_of (by omega) (by omega) hlow hb hbi hok hn hF
      · have hai : (ann x b).testBit i = true := by rw [tb_ann, e2]; simpa using hbi
        have hle := ann_le x b
        have hl0 : 0 < ann x b := by
          apply Nat.pos_of_ne_zero
          intro q; rw [q, Nat.zero_testBit] at hai; exact absurd hai (by decide)
        have hsub : ann x b &&& x = ann x b := ann_sub (Nat.and_self x)
        obtain ⟨c, i2, hl2, c1, c2, c3, c4, c5, c6⟩ := Fe_to hV (by omega) hl0 hF
        have hii : i = i2 := isLow_u (isLow_sub hlow hsub hai) hl2
        subst hii
        have cx : c &&& x = c := sub_of (fun j hj => sub_tb hsub (sub_tb c1 hj))
        have cb : ∀ j, c.testBit j = true → b.testBit j = false := fun j hj => by
          have := sub_tb c1 hj
          rw [tb_ann, Bool.and_eq_true] at this
          simpa using this.2
        have hc10 : c < 1024 := by have : c &&& x ≤ x := Nat.and_le_right; rw [cx] at this; omega
        have hb10 : b < 1024 := by have : b &&& x ≤ x := Nat.and_le_right; rw [hb] at this; omega
        have cn : ann (needS S c &&& x) c = 0 := by
          rw [ann_0]
          apply sub_of
          intro j hj
          rw [Nat.testBit_and, Bool.and_eq_true] at hj
          cases hbj : b.testBit j
          · have hal : (ann x b).testBit j = true := by rw [tb_ann, hj.2, hbj]; rfl
            exact ann_0i c4 (by rw [Nat.testBit_and, hj.1, hal]; rfl)
          · obtain ⟨k, hk, hck, hm⟩ := needS_tb.mp hj.1
            have hj10 := tb10 hb10 hbj
            have h1 : (needS S b).testBit k = true := needS_tb.mpr ⟨j, hj10, hbj, by rw [← (VM_sy hV).1 k j hk hj10]; exact hm⟩
            have h2 := ann_0i hn (show (needS S b &&& x).testBit k = true by rw [Nat.testBit_and, h1, sub_tb cx hck]; rfl)
            rw [cb k hck] at h2; exact absurd h2 (by decide)
        have hlt : ann x c < x := by
          have hle2 := ann_le x c
          apply Nat.lt_of_le_of_ne hle2
          intro q
          have : (ann x c).testBit i = true := by rw [q]; exact e2
          rw [tb_ann, c2] at this; simp at this
        have hF2 : Fe S (ann x c) := by
          refine Fe_add hV n (ann x c) b (by omega) (by omega) ?_ hok ?_ (by rw [ann_c]; exact c5)
          · apply sub_of
            intro j hj
            rw [tb_ann, sub_tb hb hj]
            cases hcj : c.testBit j
            · rfl
            · rw [cb j hcj] at hj; exact absurd hj (by decide)
          · rw [ann_0]
            apply sub_of
            intro j hj
            rw [Nat.testBit_and, Bool.and_eq_true, tb_ann, Bool.and_eq_true] at hj
            exact ann_0i hn (by rw [Nat.testBit_and, hj.1, hj.2.1]; rfl)
        exact Fe_of (by omega) (by omega) hlow cx c2 c3 cn hF2
theorem okw_iff {S : mw} {b : Nat} : ∀ n, okw S b n = true ↔ ∀ i, i < n → b.testBit i = true → sWo S i &&& b = 0
  | 0 => ⟨fun _ i h => absurd h (Nat.not_lt_zero _), fun _ => rfl⟩
  | n + 1 => by
    have ih := okw_iff (S := S) (b := b) n
    unfold okw
    rw [Bool.and_eq_true, ih]
    constructor
    · rintro ⟨h1, h2⟩ i hi hb
      by_cases hin : i = n
      · subst hin; rw [hb] at h2; simpa using h2
      · exact h1 i (by omega) hb
    · intro h
      refine ⟨fun i hi => h i (by omega), ?_⟩
      cases hb : b.testBit n
      · rfl
      · have := h n (by omega) hb; simp [this]
theorem okS_sub {S : mw} {b c : Nat} (h : okS S c = true) (hb : b &&& c = b) : okS S b = true := by
  unfold okS at h ⊢
  rw [Bool.and_eq_true, decide_eq_true_eq, okw_iff] at h ⊢
  have h1 := popc_ann hb
  refine ⟨by omega, fun i hi hbi => ?_⟩
  have h2 := h.2 i hi (sub_tb hb hbi)
  apply Nat.eq_of_testBit_eq
  intro j
  rw [Nat.zero_testBit, Nat.testBit_and]
  cases hw : (sWo S i).testBit j
  · rfl
  · cases hbj : b.testBit j
    · rfl
    · have h3 : (sWo S i &&& c).testBit j = true := by rw [Nat.testBit_and, hw, sub_tb hb hbj]; rfl
      rw [h2, Nat.zero_testBit] at h3; exact absurd h3 (by decide)
theorem Fe_mono {S : mw} (hV : VM S) : ∀ n s x, s < n → s < 2 ^ pN S → Fe S s → x &&& s = x → Fe S x
  | 0, s, x, h, _, _, _ => absurd h (Nat.not_lt_zero _)
  | n + 1, s, x, h, hs, hF, hx => by
    have hxs : x ≤ s := by have : x &&& s ≤ s := Nat.and_le_right; rwa [hx] at this
    by_cases h0 : s = 0
    · have : x = 0 := by omega
      subst this; exact Fe_0
    · obtain ⟨c, i, hl, c1, c2, c3, c4, c5, c6⟩ := Fe_to hV hs (by omega) hF
      have hbc : (c &&& x) &&& c = c &&& x := sub_of (fun j hj => by rw [Nat.testBit_and, Bool.and_eq_true] at hj; exact hj.1)
      have e : ann x (c &&& x) = ann x c := by
        apply Nat.eq_of_testBit_eq; intro j
        rw [tb_ann, tb_ann, Nat.testBit_and]
        cases x.testBit j <;> cases c.testBit j <;> rfl
      refine Fe_add hV (x + 1) x (c &&& x) (by omega) (by omega) (sub_of (fun j hj => by rw [Nat.testBit_and, Bool.and_eq_true] at hj; exact hj.2)) (okS_sub c3 hbc) ?_ ?_
      · rw [ann_0]
        apply sub_of
        intro j hj
        rw [Nat.testBit_and, Bool.and_eq_true] at hj
        obtain ⟨k, hk, hck, hm⟩ := needS_tb.mp hj.1
        have h1 : (needS S c).testBit j = true := needS_tb.mpr ⟨k, hk, sub_tb hbc hck, hm⟩
        have h2 := ann_0i c4 (show (needS S c &&& s).testBit j = true by rw [Nat.testBit_and, h1, sub_tb hx hj.2]; rfl)
        rw [Nat.testBit_and, h2, hj.2]; rfl
      · rw [e]
        refine Fe_mono hV n (ann s c) (ann x c) (by omega) (by omega) c5 (sub_of (fun j hj => ?_))
        rw [tb_ann, Bool.and_eq_true] at hj
        rw [tb_ann, sub_tb hx hj.1, hj.2]; rfl
/-- if all can go, any of them can -/
theorem Fe_all {S : mw} (hV : VM S) (h : Fe S (wh S)) {x : Nat} (hx : x < 2 ^ pN S) : Fe S x := Fe_mono hV (wh S + 1) (wh S) x (by omega) (wh_lt S) h (wh_sub hx)
theorem dayR_0 {S : mw} (hV : VM S) {x : Nat} (hx : x < 2 ^ pN S) : dayR S x 0 = -1 ↔ ¬ Fe S x := by
  unfold dayR Fe
  by_cases h : (DC S x).2.2.2 = 0
  · rw [if_pos h]; exact ⟨fun _ q => q h, fun _ => rfl⟩
  · rw [if_neg h, if_pos rfl]
    have := (dvB_1 (DC_okk hV hx)).1
    refine ⟨fun q => ?_, fun q => absurd h q⟩
    have e := congrArg Int32.toInt q
    rw [ti (by omega)] at e
    have e2 : (-1 : Int32).toInt = -1 := rfl
    omega
theorem dayR_f {S : mw} {x : Nat} (h : Fe S x) : dayR S x 0 = nI (DC S x).1 := by
  unfold dayR
  rw [if_neg h, if_pos rfl]
