theorem and_tb {b i : Nat} : b &&& 2 ^ i = 0 ↔ b.testBit i = false := by
  constructor
  · intro h
    have h1 : (b &&& 2 ^ i).testBit i = false := by rw [h, Nat.zero_testBit]
    rw [Nat.testBit_and, Nat.testBit_two_pow] at h1
    simpa using h1
  · intro h
    apply Nat.eq_of_testBit_eq
    intro j
    rw [Nat.testBit_and, Nat.testBit_two_pow, Nat.zero_testBit]
    by_cases hij : i = j
    · subst hij; rw [h]; rfl
    · simp [hij]
theorem and_le1 (b i : Nat) : b &&& 2 ^ i ≤ b := Nat.and_le_left
theorem bit0 {b i : Nat} (hb : b < 2147483648) (h : nI (b &&& 2 ^ i) = 0) : b.testBit i = false := by
  have h1 := and_le1 b i
  exact and_tb.mp (n_eq (b := 0) h (by omega) (by omega))
theorem bit1 {b i : Nat} (h : ¬ nI (b &&& 2 ^ i) = 0) : b.testBit i = true := by
  cases hb : b.testBit i
  · exact absurd (by rw [and_tb.mpr hb]; rfl) h
  · rfl
theorem nmax {a b : Nat} (ha : a < 2147483648) (hb : b < 2147483648) : (if nI a < nI b then nI b else nI a) = nI (max a b) := by
  by_cases h : a < b
  · rw [if_pos ((nI_ltI ha hb).mpr h), Nat.max_eq_right (by omega)]
  · rw [if_neg (fun q => h ((nI_ltI ha hb).mp q)), Nat.max_eq_left (by omega)]
def mxI (f : Nat → Nat) (b i : Nat) : Int32 := if pcn b i = 0 then -2147483648 else nI (mxb f b i)
def miI (f : Nat → Nat) (b i : Nat) : Int32 := if pcn b i = 0 then 2147483647 else nI (mnb f b 100000000 i)
theorem mxb_0 {f : Nat → Nat} {b : Nat} : ∀ n, pcn b n = 0 → mxb f b n = 0
  | 0, _ => rfl
  | n + 1, h => by
    unfold pcn at h
    unfold mxb
    split at h
    · omega
    · next hb => rw [if_neg hb]; exact mxb_0 n (by omega)
theorem mnb_0 {f : Nat → Nat} {b M : Nat} : ∀ n, pcn b n = 0 → mnb f b M n = M
  | 0, _ => rfl
  | n + 1, h => by
    unfold pcn at h
    unfold mnb
    split at h
    · omega
    · next hb => rw [if_neg hb]; exact mnb_0 n (by omega)
theorem pcn_s {b i : Nat} (h : b.testBit i = true) : pcn b (i + 1) = pcn b i + 1 := by rw [pcn, if_pos h]
theorem pcn_n {b i : Nat} (h : b.testBit i = false) : pcn b (i + 1) = pcn b i := by rw [pcn, if_neg (by rw [h]; decide)]; rfl
theorem mnb_s {f : Nat → Nat} {b i M : Nat} (h : b.testBit i = true) : mnb f b M (i + 1) = min (mnb f b M i) (f i) := by rw [mnb, if_pos h]
theorem mnb_n {f : Nat → Nat} {b i M : Nat} (h : b.testBit i = false) : mnb f b M (i + 1) = mnb f b M i := by rw [mnb, if_neg (by rw [h]; decide)]
theorem mxb_s {f : Nat → Nat} {b i : Nat} (h : b.testBit i = true) : mxb f b (i + 1) = max (mxb f b i) (f i) := by rw [mxb, if_pos h]
theorem mxb_n {f : Nat → Nat} {b i : Nat} (h : b.testBit i = false) : mxb f b (i + 1) = mxb f b i := by rw [mxb, if_neg (by rw [h]; decide)]
theorem mxI_n {f : Nat → Nat} {b i : Nat} (h : b.testBit i = false) : mxI f b (i + 1) = mxI f b i := by
  unfold mxI; rw [pcn_n h, mxb_n h]
theorem miI_n {f : Nat → Nat} {b i : Nat} (h : b.testBit i = false) : miI f b (i + 1) = miI f b i := by
  unfold miI; rw [pcn_n h, mnb_n h]
theorem mxI_s {f : Nat → Nat} {b i : Nat} (h : b.testBit i = true) (hf : f i ≤ 1000000) (hm : mxb f b i ≤ 1000000) : (if mxI f b i < nI (f i) then nI (f i) else mxI f b i) = mxI f b (i + 1) := by
  have e : mxI f b (i + 1) = nI (max (mxb f b i) (f i)) := by
    unfold mxI; rw [pcn_s h, mxb_s h, if_neg (by omega)]
  rw [e]
  by_cases h0 : pcn b i = 0
  · have e2 : mxI f b i = -2147483648 := if_pos h0
    rw [e2, mxb_0 i h0, if_pos, Nat.max_eq_right (by omega)]
    refine Int32.lt_iff_toInt_lt.mpr ?_
    rw [ti (by omega)]
    have e3 : Int32.toInt (-2147483648) = -2147483648 := rfl
    omega
  · have e2 : mxI f b i = nI (mxb f b i) := if_neg h0
    rw [e2]; exact nmax (by omega) (by omega)
theorem miI_s {f : Nat → Nat} {b i : Nat} (h : b.testBit i = true) (hf : f i ≤ 1000000) : (if nI (f i) < miI f b i then nI (f i) else miI f b i) = miI f b (i + 1) := by
  have e : miI f b (i + 1) = nI (min (mnb f b 100000000 i) (f i)) := by
    unfold miI; rw [pcn_s h, mnb_s h, if_neg (by omega)]
  have hm := mnb_le (f := f) (b := b) (M := 100000000) i
  rw [e]
  by_cases h0 : pcn b i = 0
  · have e2 : miI f b i = 2147483647 := if_pos h0
    rw [e2, mnb_0 i h0, if_pos, Nat.min_eq_right (by omega)]
    refine Int32.lt_iff_toInt_lt.mpr ?_
    rw [ti (by omega)]
    have e3 : Int32.toInt 2147483647 = 2147483647 := rfl
    omega
  · have e2 : miI f b i = nI (mnb f b 100000000 i) := if_neg h0
    rw [e2]
    by_cases h1 : f i < mnb f b 100000000 i
    · rw [if_pos ((nI_ltI (by omega) (by omega)).mpr h1), Nat.min_eq_right (by omega)]
    · rw [if_neg (fun q => h1 ((nI_ltI (by omega) (by omega)).mp q)), Nat.min_eq_left (by omega)]
theorem mxI_e {f : Nat → Nat} {b i : Nat} (h : pcn b i ≠ 0) : mxI f b i = nI (mxb f b i) := if_neg h
theorem miI_e {f : Nat → Nat} {b i : Nat} (h : pcn b i ≠ 0) : miI f b i = nI (mnb f b 100000000 i) := if_neg h
theorem mx_mi {f : Nat → Nat} {b i : Nat} (h : pcn b i ≠ 0) : mxI f b i - miI f b i = nI (mxb f b i - mnb f b 100000000 i) := by
  rw [mxI_e h, miI_e h]; exact pk_sub (mn_mx i h)
theorem smb_s {f : Nat → Nat} {b i : Nat} (h : b.testBit i = true) : smb f b (i + 1) = smb f b i + f i := by rw [smb, if_pos h]
theorem smb_n {f : Nat → Nat} {b i : Nat} (h : b.testBit i = false) : smb f b (i + 1) = smb f b i := by rw [smb, if_neg (by rw [h]; decide)]
theorem okw_s {S : mw} {b i : Nat} (h : okw S b i = true) (hb : b.testBit i = false ∨ sWo S i &&& b = 0) : okw S b (i + 1) = true := by
  unfold okw; rw [h]
  rcases hb with hb | hb
  · rw [hb]; rfl
  · rw [hb]; simp
theorem okw_f {S : mw} {b i : Nat} (hb : b.testBit i = true) (h : sWo S i &&& b ≠ 0) (hi : i < 10) : ¬ okw S b 10 = true := fun q => h ((okw_iff 10).mp q i hi hb)
/-- the best day as one number -/
def enc (v : dv) : Nat := (v.1 * 16 + v.2.1) * 1024 + v.2.2.1
theorem enD_n {v : dv} (h : v.2.2.2 = 0) : enD v = 2147483647 := if_pos h
theorem enD_s {v : dv} (h : v.2.2.2 ≠ 0) : enD v = nI (enc v) := if_neg h
theorem enc_lt {s : Nat} {v : dv} (h : dvB s v) (h0 : v.2.2.2 ≠ 0) : v.1 ≤ 11400 ∧ v.2.1 ≤ 10 ∧ v.2.2.1 < 1024 ∧ enc v < 200000000 := by
  have hp := popc_le s
  obtain ⟨a1, a2, a3, a4, a5⟩ := h
  have := a4 h0
  refine ⟨by omega, by omega, a2, ?_⟩
  unfold enc; omega
theorem enD_q {s : Nat} {v : dv} (h : dvB s v) : enD v = 2147483647 ↔ v.2.2.2 = 0 := by
  constructor
  · intro q
    apply Classical.byContradiction
    intro h0
    have h1 := enc_lt h h0
    rw [enD_s h0] at q
    have := n_eq (b := 2147483647) q (by omega) (by omega)
    omega
  · exact enD_n
theorem enD_14 {s : Nat} {v : dv} (h : dvB s v) (h0 : v.2.2.2 ≠ 0) : enD v >>> ((14 : Int32) &&& 31) = nI v.1 := by
  have h1 := enc_lt h h0
  rw [enD_s h0, show (14 : Int32) = nI 14 from rfl, shr (k := 14) (by omega) (by omega)]
  congr 1
  unfold enc
  have : (2 : Nat) ^ 14 = 16384 := rfl
  omega
theorem enD_10 {s : Nat} {v : dv} (h : dvB s v) (h0 : v.2.2.2 ≠ 0) : enD v >>> ((10 : Int32) &&& 31) = nI (v.1 * 16 + v.2.1) := by
  have h1 := enc_lt h h0
  rw [enD_s h0, show (10 : Int32) = nI 10 from rfl, shr (k := 10) (by omega) (by omega)]
  congr 1
  unfold enc
  have : (2 : Nat) ^ 10 = 1024 := rfl
  omega
theorem enD_15 {s : Nat} {v : dv} (h : dvB s v) (h0 : v.2.2.2 ≠ 0) : nI (v.1 * 16 + v.2.1) &&& 15 = nI v.2.1 := by
  have h1 := enc_lt h h0
  rw [pk_andN (by omega) 4 rfl]
  congr 1
  have : (2 : Nat) ^ 4 = 16 := rfl
  omega
theorem enD_1023 {s : Nat} {v : dv} (h : dvB s v) (h0 : v.2.2.2 ≠ 0) : enD v &&& 1023 = nI v.2.2.1 := by
  have h1 := enc_lt h h0
  rw [enD_s h0, pk_andN (by omega) 10 rfl]
  congr 1
  unfold enc
  have : (2 : Nat) ^ 10 = 1024 := rfl
  omega
theorem xor_lob : ∀ s, s < 1024 → 0 < s → s ^^^ lob s = rst s ∧ lob s < 1024 ∧ 0 < lob s ∧ rst s < s ∧ popc (lob s - 1) < 10 := by decide +kernel
theorem low_pc : ∀ s, s < 1024 → 0 < s → s.testBit (popc (lob s - 1)) = true ∧ ∀ i, i < 10 → (s.testBit i = true ↔ ((rst s).testBit i = true ∨ i = popc (lob s - 1))) := by decide +kernel
theorem needS_0 (S : mw) : needS S 0 = 0 := by
  apply Nat.eq_of_testBit_eq
  intro j
  rw [Nat.zero_testBit]
  cases h : (needS S 0).testBit j
  · rfl
  · obtain ⟨i, _, hb, _⟩ := needS_tb.mp h
    rw [Nat.zero_testBit] at hb; exact absurd hb (by decide)
theorem need_rec {S : mw} {b : Nat} (hb : b < 1024) (h0 : 0 < b) : needS S (rst b) ||| sMu S (popc (lob b - 1)) = needS S b := by
  have hl := low_pc b hb h0
  have hi := (xor_lob b hb h0).2.2.2.2
  apply Nat.eq_of_testBit_eq
  intro j
  rw [Nat.testBit_or, Bool.eq_iff_iff, Bool.or_eq_true, needS_tb, needS_tb]
  constructor
  · rintro (⟨i, h1, h2, h3⟩ | h)
    · exact ⟨i, h1, (hl.2 i h1).mpr (Or.inl h2), h3⟩
    · exact ⟨_, hi, hl.1, h⟩
  · rintro ⟨i, h1, h2, h3⟩
    rcases (hl.2 i h1).mp h2 with h4 | h4
    · exact Or.inl ⟨i, h1, h4, h3⟩
    · subst h4; exact Or.inr h3
theorem sbs_lt {s j : Nat} (h : s < 1024) (h0 : 0 < s) : ∀ m, j + m + 1 ≤ lst s → sbs s j < sbs s (j + m + 1)
  | 0, hk => sbs_asc h h0 (by omega)
  | m + 1, hk => by
    have ih := sbs_lt h h0 (j := j) m (by omega)
    have h1 := sbs_asc h h0 (show j + m + 1 < lst s by omega)
    exact Nat.lt_trans ih h1
theorem cmpn_fb {S : mw} {s k : Nat} (hV : VM S) (hs : s < 2 ^ pN S) (h0 : 0 < s) (hk : k ≤ lst s) (h : (cmpn S s (DC S) s k).2.2.2 ≠ 0) : (cmpn S s (DC S) s k).2.2.1 < sbs s k := by
  have hp := (pN_ok S).1
  have h10 := two10 hp
  obtain ⟨j, hj, hw⟩ := cmpn_wit hV hs h0 (fun x hx => DC_okk hV (by omega)) k (by omega) h
  rw [hw.2.2.2.2.2]
  have := sbs_lt (s := s) (j := j) (by omega) h0 (k - j - 1) (by omega)
  rwa [show j + (k - j - 1) + 1 = k by omega] at this
theorem or_add {x b : Nat} (hb : b < 1024) : x * 1024 ||| b = x * 1024 + b := by
  have h := Nat.shiftLeft_add_eq_or_of_lt (i := 10) (b := b) (by omega) x
  rw [Nat.shiftLeft_eq] at h
  exact h.symm
theorem shl4 {c : Nat} (h : c < 100000) : nI c <<< ((4 : Int32) &&& 31) = nI (c * 16) := by
  rw [pk_shlN (n := c) _ 4 (by decide) (by have : (2 : Nat) ^ 4 = 16 := rfl; omega)]
theorem shl10 {c : Nat} (h : c < 1000000) : nI c <<< ((10 : Int32) &&& 31) = nI (c * 1024) := by
  rw [pk_shlN (n := c) _ 10 (by decide) (by have : (2 : Nat) ^ 10 = 1024 := rfl; omega)]
def okB (S : mw) (s b : Nat) : Prop := okS S b = true ∧ ann (needS S b &&& s) b = 0
theorem pl_no {S : mw} {s k : Nat} (h : ¬ (okB S s (sbs s k) ∧ (DC S (ann s (sbs s k))).2.2.2 ≠ 0)) : cmpn S s (DC S) s (k + 1) = cmpn S s (DC S) s k := by
  show tryS S s (DC S) s (sbs s k) (cmpn S s (DC S) s k) = _
  unfold tryS
  rw [if_neg (fun q => h ⟨⟨q.1, q.2.1⟩, q.2.2⟩)]
theorem pl_yes {S : mw} {s k : Nat} (hV : VM S) (hs : s < 2 ^ pN S) (h0 : 0 < s) (hk : k ≤ lst s) (h : okB S s (sbs s k)) (hf : (DC S (ann s (sbs s k))).2.2.2 ≠ 0) :
    (if nI (((DC S (ann s (sbs s k))).1 * 16 + (DC S (ann s (sbs s k))).2.1 + costS S (sbs s k) * 16 + 1) * 1024 ||| sbs s k) < enD (cmpn S s (DC S) s k) then nI (((DC S (ann s (sbs s k))).1 * 16 + (DC S (ann s (sbs s k))).2.1 + costS S (sbs s k) * 16 + 1) * 1024 ||| sbs s k) else enD (cmpn S s (DC S) s k)) = enD (cmpn S s (DC S) s (k + 1)) ∧
    (if m1v (cmpn S s (DC S) s k).2.2.2 < nI (costS S (sbs s k) + ((DC S (ann s (sbs s k))).2.2.2 - 1)) then nI (costS S (sbs s k) + ((DC S (ann s (sbs s k))).2.2.2 - 1)) else m1v (cmpn S s (DC S) s k).2.2.2) = m1v (cmpn S s (DC S) s (k + 1)).2.2.2 := by
  have hp := (pN_ok S).1
  have h10 := two10 hp
  obtain ⟨g1, g2, g3, g4, g5, -, -⟩ := sbs_good (s := s) (k := k) (by omega) h0 hk
  have ht := DC_okk (S := S) hV (show ann s (sbs s k) < 2 ^ pN S by omega)
  have hte := enc_lt ht hf
  have hc := costS_le hV (b := sbs s k) (by omega) g4
  have hpb := popc_le (sbs s k)
  have ha := cmpn_ok (al := s) (T := DC S) hV hs h0 (fun x hx => DC_okk hV (by omega)) k (by omega)
  have hfb := cmpn_fb hV hs h0 hk
  have hb10 : sbs s k < 1024 := by omega
  have e : cmpn S s (DC S) s (k + 1) = tryS S s (DC S) s (sbs s k) (cmpn S s (DC S) s k) := rfl
  have htm := ht.2.2.1
  have hpa := popc_le (ann s (sbs s k))
  have ham := ha.2.2.1
  have hps := popc_le s
  rw [e, or_add hb10]
  generalize hA : cmpn S s (DC S) s k = a at *
  generalize hB : sbs s k = b at *
  generalize hT : DC S (ann s b) = t at *
  have eT : tryS S s (DC S) s b a = if costS S b + t.1 < a.1 ∨ (costS S b + t.1 = a.1 ∧ 1 + t.2.1 < a.2.1) then (costS S b + t.1, 1 + t.2.1, b, max a.2.2.2 (costS S b + t.2.2.2)) else (a.1, a.2.1, a.2.2.1, max a.2.2.2 (costS S b + t.2.2.2)) := by
    unfold tryS; rw [hT]; exact if_pos ⟨h.1, h.2, hf⟩
  rw [eT]
  have hmx : max a.2.2.2 (costS S b + t.2.2.2) ≠ 0 := by have := Nat.le_max_right a.2.2.2 (costS S b + t.2.2.2); omega
  have hen : enc (costS S b + t.1, 1 + t.2.1, b, max a.2.2.2 (costS S b + t.2.2.2)) = (t.1 * 16 + t.2.1 + costS S b * 16 + 1) * 1024 + b := by
    show ((costS S b + t.1) * 16 + (1 + t.2.1)) * 1024 + b = _
    omega
  refine ⟨?_, ?_⟩
  · by_cases h0a : a.2.2.2 = 0
    · have h1 := ha.2.2.2.2 h0a
      rw [enD_n h0a, if_pos, if_pos]
      · rw [enD_s (by exact hmx), hen]
      · left; rw [h1]; show _ < 100000000; omega
      · refine (nI_ltI (b := 2147483647) (by omega) (by omega)).mpr (by omega)
    · have hae := enc_lt ha h0a
      have hfb := hfb h0a
      rw [enD_s h0a]
      by_cases hcmp : costS S b + t.1 < a.1 ∨ (costS S b + t.1 = a.1 ∧ 1 + t.2.1 < a.2.1)
      · rw [if_pos hcmp, if_pos]
        · rw [enD_s (by exact hmx), hen]
        · refine (nI_ltI (by omega) (by omega)).mpr ?_
          unfold enc; omega
      · rw [if_neg hcmp, if_neg]
        · rw [enD_s (by exact hmx)]; rfl
        · intro q
          have q := (nI_ltI (by omega) (by omega)).mp q
          unfold enc at q
          omega
  · have key : (if m1v a.2.2.2 < nI (costS S b + (t.2.2.2 - 1)) then nI (costS S b + (t.2.2.2 - 1)) else m1v a.2.2.2) = m1v (max a.2.2.2 (costS S b + t.2.2.2)) := by
      have h2 : m1v (max a.2.2.2 (costS S b + t.2.2.2)) = nI (max a.2.2.2 (costS S b + t.2.2.2) - 1) := if_neg hmx
      rw [h2]
      have h3 := m1v_toInt (m := a.2.2.2) (by omega)
      by_cases hl : m1v a.2.2.2 < nI (costS S b + (t.2.2.2 - 1))
      · rw [if_pos hl]
        have h4 := i_lt hl
        rw [h3, ti (by omega)] at h4
        rw [Nat.max_eq_right (by omega)]
        congr 1; omega
      · rw [if_neg hl]
        have h4 := i_nlt hl
        rw [h3, ti (by omega)] at h4
        rw [Nat.max_eq_left (by omega)]
        exact if_neg (by omega)
    by_cases hcmp : costS S b + t.1 < a.1 ∨ (costS S b + t.1 = a.1 ∧ 1 + t.2.1 < a.2.1)
    · rw [if_pos hcmp]; exact key
    · rw [if_neg hcmp]; exact key
theorem m1v_s {m : Nat} (h : m ≠ 0) : m1v m = nI (m - 1) := if_neg h
theorem DC_cmpn {S : mw} {s : Nat} (hs : s < 1024) (h0 : 0 < s) : DC S s = cmpn S s (DC S) s (lst s + 1) := by
  rw [DC_eq hs]; unfold comp; rw [if_neg (by omega)]
theorem dayR0 (S : mw) (s : Nat) : dayR S s 0 = if (DC S s).2.2.2 = 0 then -1 else nI (DC S s).1 := by
  unfold dayR; split
  · rfl
  · rfl
theorem dayR1 (S : mw) (s : Nat) : dayR S s 1 = if (DC S s).2.2.2 = 0 then -1 else nI (DC S s).2.1 := by
  unfold dayR; split
  · rfl
  · rw [if_neg (by decide), if_pos rfl]
theorem dayR2 (S : mw) (s : Nat) : dayR S s 2 = m1v (DC S s).2.2.2 := by
  unfold dayR m1v; split
  · rfl
  · rw [if_neg (by decide), if_neg (by decide)]
/-- a part of s keeps s's lowest bit -/
theorem wh_fb {S : mw} (hV : VM S) (hp0 : 0 < pN S) (h : (DC S (wh S)).2.2.2 ≠ 0) : (DC S (wh S)).2.2.1.testBit 0 = true := by
  have hp := (pN_ok S).1
  have h10 := two10 hp
  have hw1 := wh_1 S
  have h2 : 2 ≤ 2 ^ pN S := Nat.pow_le_pow_right (n := 2) (i := 1) (by omega) hp0
  have hlt := wh_lt S
  obtain ⟨j, hj, hw⟩ := DC_wit hV hlt (by omega) h
  rw [hw.2.2.2.2.2]
  obtain ⟨i, hi, e1, e2, e3⟩ := low_ex (wh S) (by omega) (by omega)
  have hi0 : i = 0 := by
    apply Classical.byContradiction
    intro q
    have := e3 0 (by omega)
    rw [wh_tb hp0] at this
    exact absurd this (by decide)
  unfold sbs
  rw [Nat.testBit_or, e1, hi0]
  rfl
theorem enD_0 (S : mw) : enD (DC S 0) = 0 ∧ m1v (DC S 0).2.2.2 = 0 ∧ DC S 0 = (0, 0, 0, 1) := by
  have e : DC S 0 = (0, 0, 0, 1) := by unfold DC comp; exact if_pos rfl
  rw [e]; exact ⟨rfl, rfl, rfl⟩
