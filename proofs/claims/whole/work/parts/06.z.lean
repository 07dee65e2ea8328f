theorem VM_len {S : mw} (h : VM S) : S 33 6 = nI (sLen S) ∧ sLen S ≤ 40 := h.1
theorem VM_wt {S : mw} (h : VM S) : ∀ i, i < 10 → S 40 i = nI (sWt S i) ∧ sWt S i ≤ 99 := h.2.1
theorem VM_hr {S : mw} (h : VM S) : ∀ i, i < 10 → S 41 i = nI (sHr S i) ∧ sHr S i ≤ 99 := h.2.2.1
theorem VM_li {S : mw} (h : VM S) : ∀ i, i < 10 → -30 ≤ (S 42 i).toInt ∧ (S 42 i).toInt ≤ 30 := h.2.2.2.1
theorem VM_set {S : mw} (h : VM S) : (∀ i, i < 4 → S 43 i = nI (sSet S i) ∧ sSet S i ≤ sHi i) ∧ 1 ≤ sSet S 0 := h.2.2.2.2.1
theorem VM_wo {S : mw} (h : VM S) : ∀ i, i < 10 → S 44 i = nI (sWo S i) ∧ sWo S i < 1024 := h.2.2.2.2.2.1
theorem VM_mu {S : mw} (h : VM S) : ∀ i, i < 10 → S 45 i = nI (sMu S i) ∧ sMu S i < 1024 := h.2.2.2.2.2.2.1
theorem VM_sy {S : mw} (h : VM S) : (∀ i j, i < 10 → j < 10 → (sMu S i).testBit j = (sMu S j).testBit i) ∧ ∀ i, i < 10 → (sMu S i).testBit i = false := h.2.2.2.2.2.2.2.1
theorem VM_sn {S : mw} (h : VM S) : S 33 28 = nI (sSn S) ∧ sSn S ≤ 8 := h.2.2.2.2.2.2.2.2.1
theorem VM_se {S : mw} (h : VM S) : ∀ k, k < sSn S → (∃ a b, S 57 (3 * k) = nI a ∧ S 57 (3 * k + 1) = nI b ∧ a < 10 ∧ b < 10 ∧ a ≠ b) ∧ 0 ≤ (S 57 (3 * k + 2)).toInt ∧ (S 57 (3 * k + 2)).toInt ≤ 200 := h.2.2.2.2.2.2.2.2.2.1
theorem VM_fo {S : mw} (h : VM S) : ∀ s, s < 4 → -1 ≤ (S 34 s).toInt ∧ (S 34 s).toInt ≤ 2 := h.2.2.2.2.2.2.2.2.2.2.1
theorem VM_sz {S : mw} (h : VM S) : ∀ s, s < 4 → S 35 s = nI (sSz S s) ∧ sSz S s ≤ 60 := h.2.2.2.2.2.2.2.2.2.2.2
theorem mU_row {w : mw} {k j a : Nat} {x : Int32} : mU w k j x a = if a = k then upd (w k) j x else w a := rfl
theorem MM_p {w S : mw} {k j : Nat} {x : Int32} (h : MM w S) (hk : k ∈ pRows) : MM (mU w k j x) (mU S k j x) := by
  have h33 : 33 ≠ k := fun q => by subst q; exact absurd hk (by decide)
  obtain ⟨h1, h2, h3, h4⟩ := h
  refine ⟨by rw [mU_ne h33, mU_ne h33]; exact h1, by rw [mU_ne h33, mU_ne h33]; exact h2, by rw [mU_ne h33, mU_ne h33]; exact h3, fun a ha => ?_⟩
  rw [mU_row, mU_row, h4 k hk, h4 a ha]
theorem MM_f {w S : mw} {j : Nat} {x : Int32} (h : MM w S) : MM (mU w 33 j x) (mU S 33 j x) := by
  obtain ⟨h1, h2, h3, h4⟩ := h
  refine ⟨by rw [mU_k, mU_k, h1], by rw [mU_k, mU_k, h2], by rw [mU_k, mU_k, h3], fun a ha => ?_⟩
  have h33 : a ≠ 33 := fun q => by subst q; exact absurd ha (by decide)
  rw [mU_ne h33, mU_ne h33, h4 a ha]
theorem MM_s {w S : mw} {k j : Nat} {x : Int32} (h : MM w S) (hk : k ∉ pRows) (h33 : 33 ≠ k) : MM (mU w k j x) S := by
  obtain ⟨h1, h2, h3, h4⟩ := h
  refine ⟨by rw [mU_ne h33]; exact h1, by rw [mU_ne h33]; exact h2, by rw [mU_ne h33]; exact h3, fun a ha => ?_⟩
  have hak : a ≠ k := fun q => hk (by rw [← q]; exact ha)
  rw [mU_ne hak, h4 a ha]
theorem MM_sf {w S : mw} {j : Nat} {x : Int32} (h : MM w S) (hj : 4 ≠ j ∧ 6 ≠ j ∧ 28 ≠ j) : MM (mU w 33 j x) S := by
  obtain ⟨h1, h2, h3, h4⟩ := h
  refine ⟨by rw [mU_at_ne hj.1]; exact h1, by rw [mU_at_ne hj.2.1]; exact h2, by rw [mU_at_ne hj.2.2]; exact h3, fun a ha => ?_⟩
  rw [mU_ne (fun q => by subst q; exact absurd ha (by decide)), h4 a ha]
theorem MM_fr {L : List Nat} {w w1 S : mw} (h : MM w S) (hf : fr L w w1) (hL : ∀ k ∈ L, k ∉ pRows ∧ k ≠ 33) : MM w1 S := by
  obtain ⟨h1, h2, h3, h4⟩ := h
  have h33 : w1 33 = w 33 := hf 33 (fun q => (hL 33 q).2 rfl)
  exact ⟨by rw [h33]; exact h1, by rw [h33]; exact h2, by rw [h33]; exact h3, fun a ha => by rw [hf a (fun q => (hL a q).1 ha)]; exact h4 a ha⟩
def mRows : List Nat := [33, 34, 35, 36, 37, 38, 39, 40, 41, 42, 43, 44, 45, 46, 47, 48, 49, 50, 51, 52, 53, 54, 55, 56, 57, 58]
/-- what a call answers, and the state behind it -/
def oType (S : mw) (b : Int32) : Int32 × mw := if ¬ (0 ≤ b.toInt ∧ b.toInt ≤ 255) then (-2, S) else if sLen S = 40 then (-4, S) else (nI (sLen S + 1), mU (mU S 38 (sLen S) b) 33 6 (nI (sLen S + 1)))
def oWipe (S : mw) : Int32 × mw := (nI (sLen S), mU S 33 6 0)
def oPut (S : mw) (k a v : Int32) : Int32 × mw := if ¬ (0 ≤ k.toInt ∧ k.toInt ≤ 9) ∨ ¬ (0 ≤ a.toInt ∧ a.toInt ≤ 1) ∨ ¬ (0 ≤ v.toInt ∧ v.toInt ≤ 99) then (-2, S) else if a = 0 then (S 40 k.toNatClampNeg, mU S 40 k.toNatClampNeg v) else (S 41 k.toNatClampNeg, mU S 41 k.toNatClampNeg v)
def oLie (S : mw) (k v : Int32) : Int32 × mw := if ¬ (0 ≤ k.toInt ∧ k.toInt ≤ 9) ∨ ¬ (-30 ≤ v.toInt ∧ v.toInt ≤ 30) then (-1002, S) else (S 42 k.toNatClampNeg, mU S 42 k.toNatClampNeg v)
def oSet (S : mw) (a v : Int32) : Int32 × mw := if ¬ (0 ≤ a.toInt ∧ a.toInt ≤ 3) ∨ ¬ ((if a = 0 then 1 else 0) ≤ v.toInt ∧ v.toInt ≤ sHi a.toNatClampNeg) then (-2, S) else (S 43 a.toNatClampNeg, mU S 43 a.toNatClampNeg v)
def tieR (r : Nat → Int32) (a b : Nat) (v : Int32) : Nat → Int32 := upd (upd r a ((r a &&& ((1 <<< (nI b &&& 31)) ^^^ (-1))) ||| (v <<< (nI b &&& 31)))) b ((upd r a ((r a &&& ((1 <<< (nI b &&& 31)) ^^^ (-1))) ||| (v <<< (nI b &&& 31))) b &&& ((1 <<< (nI a &&& 31)) ^^^ (-1))) ||| (v <<< (nI a &&& 31)))
def tieA (r : Nat → Int32) (a b : Nat) : Int32 := (r a >>> (nI b &&& 31)) &&& 1
def oPair (S : mw) (k a b v : Int32) : Int32 × mw := if ¬ (0 ≤ k.toInt ∧ k.toInt ≤ 1) ∨ ¬ (0 ≤ a.toInt ∧ a.toInt ≤ 9) ∨ ¬ (0 ≤ b.toInt ∧ b.toInt ≤ 9) ∨ a.toInt = b.toInt ∨ ¬ (0 ≤ v.toInt ∧ v.toInt ≤ 1) then (-2, S) else if k = 0 then (tieA (S 44) a.toNatClampNeg b.toNatClampNeg, mUr S 44 (tieR (S 44) a.toNatClampNeg b.toNatClampNeg v)) else (tieA (S 45) a.toNatClampNeg b.toNatClampNeg, mUr S 45 (tieR (S 45) a.toNatClampNeg b.toNatClampNeg v))
def oSeen (S : mw) (a b f : Int32) : Int32 × mw := if ¬ (0 ≤ a.toInt ∧ a.toInt ≤ 9) ∨ ¬ (0 ≤ b.toInt ∧ b.toInt ≤ 9) ∨ a.toInt = b.toInt ∨ ¬ (0 ≤ f.toInt ∧ f.toInt ≤ 200) then (-2, S) else if sSn S = 8 then (-4, S) else (nI (sSn S + 1), mU (mU (mU (mU S 57 (3 * sSn S) a) 57 (3 * sSn S + 1) b) 57 (3 * sSn S + 2) f) 33 28 (nI (sSn S + 1)))
def oForget (S : mw) : Int32 × mw := (S 33 28, mU S 33 28 0)
def shOk (s : Int32) : Prop := 0 ≤ s.toInt ∧ s.toInt ≤ 3
def clr (r : Nat → Int32) (s n : Nat) : Nat → Int32 := fun j => if 60 * s ≤ j ∧ j < 60 * s + n then 0 else r j
def oSheet (S : mw) (s f n : Int32) : Int32 × mw := if ¬ (0 ≤ s.toInt ∧ s.toInt ≤ 3) ∨ ¬ (0 ≤ f.toInt ∧ f.toInt ≤ 2) ∨ 60 < n.toInt then (-2, S) else if n.toInt < 0 then (-15, mU S 33 4 5) else (n, mUr (mU (mU S 34 s.toNatClampNeg f) 35 s.toNatClampNeg n) 36 (clr (S 36) s.toNatClampNeg n.toNatClampNeg))
def oLose (S : mw) (s : Int32) : Int32 × mw := if ¬ (0 ≤ s.toInt ∧ s.toInt ≤ 3) then (-2, S) else if (S 34 s.toNatClampNeg).toInt < 0 then (-11, mU S 33 4 1) else (S 35 s.toNatClampNeg, mU S 34 s.toNatClampNeg (-1))
/-- what a sheet's item is refused with: 0 NULL 1, CAST 3, INDEX 2 -/
def lckS (S : mw) (s : Nat) (f i : Int32) : Int32 := if (S 34 s).toInt < 0 then 1 else if S 34 s ≠ f then 3 else if 0 ≤ i.toInt ∧ i.toInt < sSz S s then 0 else 2
def oLay (S : mw) (s f i v : Int32) : Int32 × mw := if ¬ (0 ≤ s.toInt ∧ s.toInt ≤ 3) ∨ ¬ (0 ≤ f.toInt ∧ f.toInt ≤ 2) then (-2, S) else if lckS S s.toNatClampNeg f i ≠ 0 then (-10 - lckS S s.toNatClampNeg f i, mU S 33 4 (lckS S s.toNatClampNeg f i)) else (1, mU S 36 (60 * s.toNatClampNeg + i.toNatClampNeg) (cutS f v))
def oGet (S : mw) (s f i : Int32) : Int32 × mw := if ¬ (0 ≤ s.toInt ∧ s.toInt ≤ 3) ∨ ¬ (0 ≤ f.toInt ∧ f.toInt ≤ 2) then (-2147483648, S) else if lckS S s.toNatClampNeg f i ≠ 0 then (-2147483648, mU S 33 4 (lckS S s.toNatClampNeg f i)) else (S 36 (60 * s.toNatClampNeg + i.toNatClampNeg), S)
def oCopy (S : mw) (s i t j n : Int32) : Int32 × mw := if ¬ (0 ≤ s.toInt ∧ s.toInt ≤ 3) ∨ ¬ (0 ≤ t.toInt ∧ t.toInt ≤ 3) then (-2, S) else if (S 34 s.toNatClampNeg).toInt < 0 ∨ (S 34 t.toNatClampNeg).toInt < 0 then (-11, mU S 33 4 1) else if S 34 s.toNatClampNeg ≠ S 34 t.toNatClampNeg then (-14, mU S 33 4 4) else if i.toInt < 0 ∨ j.toInt < 0 ∨ n.toInt < 0 ∨ sSz S s.toNatClampNeg < i.toInt + n.toInt ∨ sSz S t.toNatClampNeg < j.toInt + n.toInt then (-12, mU S 33 4 2) else (1, mUr S 36 (va_cpy (S 36) (S 36) (60 * s.toNatClampNeg + i.toNatClampNeg) (60 * t.toNatClampNeg + j.toNatClampNeg) n.toNatClampNeg))
def itOk (x : Int32) : Bool := decide (0 ≤ x.toInt ∧ x.toInt ≤ 99)
def rdn (S : mw) (s : Nat) : Nat → Nat
  | 0 => 0
  | k + 1 => if rdn S s k = k ∧ k < sSz S s ∧ itOk (S 36 (60 * s + k)) = true then k + 1 else rdn S s k
def rdr (S : mw) (s n : Nat) : Nat → Int32 := fun j => if j < n then S 36 (60 * s + j) else S 40 j
def oRead (S : mw) (s : Int32) : Int32 × mw := if ¬ (0 ≤ s.toInt ∧ s.toInt ≤ 3) then (-2, S) else if (S 34 s.toNatClampNeg).toInt < 0 then (-11, mU S 33 4 1) else (nI (rdn S s.toNatClampNeg 10), mUr S 40 (rdr S s.toNatClampNeg (rdn S s.toNatClampNeg 10)))
theorem sh_of {s : Int32} (h : 0 ≤ s.toInt ∧ s.toInt ≤ 3) : ∃ j, j < 4 ∧ s = nI j := i_nIof h.1 (by omega)
theorem nu_of {s : Int32} (h : 0 ≤ s.toInt ∧ s.toInt ≤ 9) : ∃ j, j < 10 ∧ s = nI j := i_nIof h.1 (by omega)
theorem cl {j : Nat} (h : j < 2147483648) : (nI j).toNatClampNeg = j := nI_clamp h
theorem ti {j : Nat} (h : j < 2147483648) : (nI j).toInt = (j : Int) := nI_toInt h
theorem mUr_mUr {w : mw} {k : Nat} {f g : Nat → Int32} : mUr (mUr w k f) k g = mUr w k g := by
  funext a; unfold mUr; split <;> rfl
theorem MM_pr {w S : mw} {k : Nat} {f : Nat → Int32} (h : MM w S) (hk : k ∈ pRows) : MM (mUr w k f) (mUr S k f) := by
  have h33 : 33 ≠ k := fun q => by subst q; exact absurd hk (by decide)
  obtain ⟨h1, h2, h3, h4⟩ := h
  refine ⟨by rw [mUr_ne h33, mUr_ne h33]; exact h1, by rw [mUr_ne h33, mUr_ne h33]; exact h2, by rw [mUr_ne h33, mUr_ne h33]; exact h3, fun a ha => ?_⟩
  unfold mUr
  rw [h4 a ha]
theorem fr_Ur {L : List Nat} {w : mw} {k : Nat} {f : Nat → Int32} (h : k ∈ L) : fr L w (mUr w k f) := fun a ha => mUr_ne (fun q => ha (q ▸ h))
theorem fr_U2 {L : List Nat} {w w1 : mw} {k j : Nat} {x : Int32} (h0 : fr L w w1) (h : k ∈ L) : fr L w (mU w1 k j x) := fr_tr h0 (fr_U h)
theorem fr_Ur2 {L : List Nat} {w w1 : mw} {k : Nat} {f : Nat → Int32} (h0 : fr L w w1) (h : k ∈ L) : fr L w (mUr w1 k f) := fr_tr h0 (fr_Ur h)
theorem four {a : Int32} (h : 0 ≤ a.toInt ∧ a.toInt ≤ 3) : a = 0 ∨ a = 1 ∨ a = 2 ∨ a = 3 := by
  obtain ⟨j, hj, rfl⟩ := sh_of h
  rcases (show j = 0 ∨ j = 1 ∨ j = 2 ∨ j = 3 by omega) with rfl | rfl | rfl | rfl
  · exact Or.inl rfl
  · exact Or.inr (Or.inl rfl)
  · exact Or.inr (Or.inr (Or.inl rfl))
  · exact Or.inr (Or.inr (Or.inr rfl))
theorem Wp_mi {E : mE} {d : Nat} {y : mM} {pc : Nat} {ls : List (Option mv)} {st : List mv} {w : mw} {P P2 : Int32 → mw → Prop} (k : Wp E d y pc ls st w (mPi P)) (h : ∀ r w1, P r w1 → P2 r w1) : Wp E d y pc ls st w (mPi P2) :=
  Wp_mono (fun v w1 q => by obtain ⟨r, hr, q⟩ := q; exact ⟨r, hr, h r w1 q⟩) k
theorem Wp_ml {E : mE} {d : Nat} {y : mM} {pc : Nat} {ls : List (Option mv)} {st : List mv} {w : mw} {P P2 : Int64 → mw → Prop} (k : Wp E d y pc ls st w (mPl P)) (h : ∀ r w1, P r w1 → P2 r w1) : Wp E d y pc ls st w (mPl P2) :=
  Wp_mono (fun v w1 q => by obtain ⟨r, hr, q⟩ := q; exact ⟨r, hr, h r w1 q⟩) k
theorem Wp_mv {E : mE} {d : Nat} {y : mM} {pc : Nat} {ls : List (Option mv)} {st : List mv} {w : mw} {P P2 : mw → Prop} (k : Wp E d y pc ls st w (mPv P)) (h : ∀ w1, P w1 → P2 w1) : Wp E d y pc ls st w (mPv P2) :=
  Wp_mono (fun v w1 q => ⟨q.1, h w1 q.2⟩) k
theorem Tr_mi {E : mE} {d : Nat} {y : mM} {As : List mv} {w : mw} {P P2 : Int32 → mw → Prop} (k : Ti E d y As w P) (h : ∀ r w1, P r w1 → P2 r w1) : Ti E d y As w P2 := ⟨k.1, Wp_mi k.2 h⟩
theorem Tr_ml {E : mE} {d : Nat} {y : mM} {As : List mv} {w : mw} {P P2 : Int64 → mw → Prop} (k : Tl E d y As w P) (h : ∀ r w1, P r w1 → P2 r w1) : Tl E d y As w P2 := ⟨k.1, Wp_ml k.2 h⟩
theorem Tr_mv {E : mE} {d : Nat} {y : mM} {As : List mv} {w : mw} {P P2 : mw → Prop} (k : Tv E d y As w P) (h : ∀ w1, P w1 → P2 w1) : Tv E d y As w P2 := ⟨k.1, Wp_mv k.2 h⟩
def clrF (r : Nat → Int32) (a b : Nat) : Nat → Int32 := fun j => if a ≤ j ∧ j < b then 0 else r j
theorem clrF_e {r : Nat → Int32} {a : Nat} : clrF r a a = r := by
  funext j; unfold clrF; rw [if_neg (by omega)]
theorem clrF_s {r : Nat → Int32} {a b : Nat} (h : a < b) : clrF (upd r a 0) (a + 1) b = clrF r a b := by
  funext j; unfold clrF upd
  by_cases h1 : j = a
  · subst h1; rw [if_neg (by omega), if_pos rfl, if_pos (by omega)]
  · by_cases h2 : a ≤ j ∧ j < b
    · rw [if_pos (by omega), if_pos h2]
    · rw [if_neg (by omega), if_neg h1, if_neg h2]
theorem mUr_self {w : mw} {k : Nat} : mUr w k (w k) = w := by
  funext a; unfold mUr; split
  · next h => rw [h]
  · rfl
theorem clr_F {r : Nat → Int32} {s n : Nat} : clr r s n = clrF r (60 * s) (60 * s + n) := rfl
def cpF (f g : Nat → Int32) (a b i n : Nat) : Nat → Int32 := fun j => if b + i ≤ j ∧ j < b + n then f (a + (j - b)) else g j
theorem cpF_e {f g : Nat → Int32} {a b n : Nat} : cpF f g a b n n = g := by
  funext j; unfold cpF; rw [if_neg (by omega)]
theorem cpF_s {f g : Nat → Int32} {a b i n : Nat} (h : i < n) : cpF f (upd g (b + i) (f (a + i))) a b (i + 1) n = cpF f g a b i n := by
  funext j; unfold cpF upd
  by_cases h1 : j = b + i
  · subst h1; rw [if_neg (by omega), if_pos rfl, if_pos (by omega)]; congr 1; omega
  · by_cases h2 : b + i ≤ j ∧ j < b + n
    · rw [if_pos (by omega), if_pos h2]
    · rw [if_neg (by omega), if_neg h1, if_neg h2]
theorem cpF_cpy {f : Nat → Int32} {g : Nat → Int32} {a b n : Nat} : cpF f g a b 0 n = va_cpy f g a b n := by
  funext j; unfold cpF va_cpy; simp
/-- copying by way of another row is copying -/
theorem cpF_two {f m : Nat → Int32} {a b n : Nat} : cpF (cpF f m a 0 0 n) f 0 b 0 n = va_cpy f f a b n := by
  funext j; unfold cpF va_cpy
  by_cases h2 : b ≤ j ∧ j < b + n
  · rw [if_pos (by omega), if_pos (by omega), if_pos h2]; congr 1; omega
  · rw [if_neg (by omega), if_neg h2]
theorem lg_cmp_add {x y : Int32} (hx : 0 ≤ x.toInt) (hy : 0 ≤ y.toInt) : (x.toInt64 + y.toInt64).toInt = x.toInt + y.toInt := by
  have h1 := Int32.toInt_lt x
  have h2 := Int32.toInt_lt y
  rw [Int64.toInt_add, Int32.toInt_toInt64, Int32.toInt_toInt64]
  apply Int.bmod_eq_of_le <;> omega
theorem MM_sr {w S : mw} {k : Nat} {f : Nat → Int32} (h : MM w S) (hk : k ∉ pRows) (h33 : 33 ≠ k) : MM (mUr w k f) S := by
  obtain ⟨h1, h2, h3, h4⟩ := h
  refine ⟨by rw [mUr_ne h33]; exact h1, by rw [mUr_ne h33]; exact h2, by rw [mUr_ne h33]; exact h3, fun a ha => ?_⟩
  have hak : a ≠ k := fun q => hk (by rw [← q]; exact ha)
  rw [mUr_ne hak, h4 a ha]
theorem rdn_le {S : mw} {s : Nat} : ∀ k, rdn S s k ≤ k
  | 0 => Nat.le_refl _
  | k + 1 => by
    unfold rdn
    split
    · exact Nat.le_refl _
    · have := rdn_le (S := S) (s := s) k; omega
theorem rdn_stop {S : mw} {s n : Nat} (h : rdn S s n = n) (hs : ¬ (n < sSz S s ∧ itOk (S 36 (60 * s + n)) = true)) : ∀ k, rdn S s (n + k) = n
  | 0 => h
  | k + 1 => by
    have ih := rdn_stop h hs k
    show rdn S s (n + k + 1) = n
    unfold rdn
    rw [ih, if_neg]
    intro q
    have : n = n + k := q.1
    rw [← this] at q
    exact hs q.2
theorem rdn_go {S : mw} {s n : Nat} (h : rdn S s n = n) (hs : n < sSz S s ∧ itOk (S 36 (60 * s + n)) = true) : rdn S s (n + 1) = n + 1 := by
  unfold rdn; rw [if_pos ⟨h, hs⟩]
theorem rdr_s {S : mw} {s n : Nat} : upd (rdr S s n) n (S 36 (60 * s + n)) = rdr S s (n + 1) := by
  funext j; unfold rdr upd
  by_cases h1 : j = n
  · subst h1; rw [if_pos rfl, if_pos (by omega)]
  · by_cases h2 : j < n
    · rw [if_neg h1]; simp only []; rw [if_pos h2, if_pos (by omega)]
    · rw [if_neg h1]; simp only []; rw [if_neg h2, if_neg (by omega)]
theorem rdr_0 {S : mw} {s : Nat} : rdr S s 0 = S 40 := by
  funext j; unfold rdr; rw [if_neg (by omega)]
theorem mU_mU {w : mw} {k j : Nat} {x z : Int32} : mU (mU w k j x) k j z = mU w k j z := by
  unfold mU
  rw [mUr_eq, mUr_mUr]
  congr 1
  funext i; unfold upd; split <;> rfl
theorem mU_same {w : mw} {k j : Nat} {x : Int32} (h : w k j = x) : mU w k j x = w := by
  funext a i
  rw [mU_row]
  split
  · next h1 => subst h1; unfold upd; split
               · next h2 => subst h2; exact h.symm
               · rfl
  · rfl
theorem efr_ge {t : Nat → Int32} {n : Nat} : ∀ (k e : Nat), e ≤ efr t n e k ∧ efr t n e k ≤ e + k ∧ (e ≤ n → efr t n e k ≤ n)
  | 0, e => ⟨Nat.le_refl _, Nat.le_refl _, fun h => h⟩
  | k + 1, e => by
    unfold efr
    split
    · next h => have := efr_ge (t := t) (n := n) k (e + 1); exact ⟨by omega, by omega, fun _ => this.2.2 (by omega)⟩
    · exact ⟨Nat.le_refl _, by omega, fun h => h⟩
theorem efr_dig {t : Nat → Int32} {n : Nat} : ∀ (k e j : Nat), e ≤ j → j < efr t n e k → dig (t j) = true
  | 0, e, j, h1, h2 => by unfold efr at h2; omega
  | k + 1, e, j, h1, h2 => by
    unfold efr at h2
    split at h2
    · next h =>
      by_cases hj : j = e
      · subst hj; exact h.2
      · exact efr_dig k (e + 1) j (by omega) h2
    · omega
theorem dig_of {x : Int32} (h : dig x = true) : 48 ≤ x.toInt ∧ x.toInt ≤ 57 := of_decide_eq_true h
theorem agv_lt {t : Nat → Int32} {e : Nat} : ∀ k, (∀ j, e ≤ j → j < e + k → dig (t j) = true) → agv t e k < 10 ^ k
  | 0, _ => by show 0 < 1; decide
  | k + 1, h => by
    have ih := agv_lt (t := t) (e := e) k (fun j h1 h2 => h j h1 (by omega))
    have h1 := dig_of (h (e + k) (by omega) (by omega))
    unfold agv
    rw [Nat.pow_succ]
    omega
theorem pAge_lt {t : Nat → Int32} {n r : Nat} : pAge t n r < 1000 := by
  have h1 := efr_ge (t := t) (n := n) 3 (pos t n r)
  have h2 := agv_lt (t := t) (e := pos t n r) (pEnd t n r - pos t n r) (fun j h3 h4 => efr_dig (n := n) 3 (pos t n r) j h3 (by unfold pEnd at h4; omega))
  have h3 : 10 ^ (pEnd t n r - pos t n r) ≤ 10 ^ 3 := Nat.pow_le_pow_right (by omega) (by unfold pEnd; omega)
  unfold pAge
  omega
theorem pgo_ok {t : Nat → Int32} {n : Nat} : ∀ f r, r + f = 10 → (∀ i, i < r → pAge t n i ≤ 120) → (pgo t n f r).2 ≤ 10 ∧ ∀ i, i < (pgo t n f r).2 → pAge t n i ≤ 120
  | 0, r, _, _ => ⟨Nat.zero_le _, fun i h => absurd h (Nat.not_lt_zero _)⟩
  | f + 1, r, hr, hi => by
    unfold pgo
    split
    · exact ⟨Nat.zero_le _, fun i h => absurd h (Nat.not_lt_zero _)⟩
    · next h =>
      have h0 : ∀ i, i < r + 1 → pAge t n i ≤ 120 := fun i q => by
        by_cases hir : i = r
        · subst hir; omega
        · exact hi i (by omega)
      split
      · exact ⟨by show r + 1 ≤ 10; omega, h0⟩
      · split
        · exact pgo_ok f (r + 1) (by omega) h0
        · exact ⟨Nat.zero_le _, fun i h => absurd h (Nat.not_lt_zero _)⟩
theorem pN_ok (S : mw) : pN S ≤ 10 ∧ ∀ i, i < pN S → pA S i ≤ 120 := by
  unfold pN pA pres
  split
  · exact ⟨Nat.zero_le _, fun i h => absurd h (Nat.not_lt_zero _)⟩
  · exact pgo_ok 10 0 rfl (fun i h => absurd h (Nat.not_lt_zero _))
def frF (w w1 : mw) : Prop := fr [33, 39] w w1 ∧ ∀ j, j ≠ 7 → j ≠ 8 → w1 33 j = w 33 j
theorem frF_MM {w w1 S : mw} (h : MM w S) (hf : frF w w1) : MM w1 S := by
  obtain ⟨h1, h2, h3, h4⟩ := h
  refine ⟨by rw [hf.2 4 (by decide) (by decide)]; exact h1, by rw [hf.2 6 (by decide) (by decide)]; exact h2, by rw [hf.2 28 (by decide) (by decide)]; exact h3, fun a ha => ?_⟩
  rw [hf.1 a (fun q => by
    have : a = 33 ∨ a = 39 := by simpa using q
    rcases this with rfl | rfl <;> exact absurd ha (by decide))]
  exact h4 a ha
theorem frF_rf {w : mw} : frF w w := ⟨fr_rf, fun _ _ _ => rfl⟩
theorem frF_tr {w w1 w2 : mw} (h : frF w w1) (h2 : frF w1 w2) : frF w w2 := ⟨fr_tr h.1 h2.1, fun j h7 h8 => (h2.2 j h7 h8).trans (h.2 j h7 h8)⟩
theorem frF_7 {w : mw} {x : Int32} : frF w (mU w 33 7 x) := ⟨fr_U (by decide), fun j h7 _ => mU_at_ne h7⟩
theorem frF_8 {w : mw} {x : Int32} : frF w (mU w 33 8 x) := ⟨fr_U (by decide), fun j _ h8 => mU_at_ne h8⟩
theorem frF_a {w : mw} {j : Nat} {x : Int32} : frF w (mU w 39 j x) := ⟨fr_U (by decide), fun _ _ _ => by rw [mU_ne (by decide)]⟩
def pcn (b : Nat) : Nat → Nat
  | 0 => 0
  | i + 1 => pcn b i + (if b.testBit i = true then 1 else 0)
def popc (b : Nat) : Nat := pcn b 10
theorem popc_step : ∀ x, x < 1024 → 0 < x → popc (x &&& (x - 1)) + 1 = popc x := by decide +kernel
theorem pcn_le {b : Nat} : ∀ n, pcn b n ≤ n
  | 0 => Nat.le_refl _
  | n + 1 => by have := pcn_le (b := b) n; unfold pcn; split <;> omega
theorem popc_le (b : Nat) : popc b ≤ 10 := pcn_le 10
theorem tb_lt {b n i : Nat} (hb : b < 2 ^ n) (hi : n ≤ i) : b.testBit i = false := Nat.testBit_lt_two_pow (Nat.lt_of_lt_of_le hb (Nat.pow_le_pow_right (by omega) hi))
def mxb (f : Nat → Nat) (b : Nat) : Nat → Nat
  | 0 => 0
  | i + 1 => if b.testBit i = true then max (mxb f b i) (f i) else mxb f b i
def mnb (f : Nat → Nat) (b M : Nat) : Nat → Nat
  | 0 => M
  | i + 1 => if b.testBit i = true then min (mnb f b M i) (f i) else mnb f b M i
def smb (f : Nat → Nat) (b : Nat) : Nat → Nat
  | 0 => 0
  | i + 1 => if b.testBit i = true then smb f b i + f i else smb f b i
def orn (f : Nat → Nat) (b : Nat) : Nat → Nat
  | 0 => 0
  | i + 1 => if b.testBit i = true then orn f b i ||| f i else orn f b i
theorem mxb_top {f : Nat → Nat} {b n : Nat} (hb : b < 2 ^ n) : ∀ k, mxb f b (n + k) = mxb f b n
  | 0 => rfl
  | k + 1 => by show (if b.testBit (n + k) = true then _ else _) = _; rw [tb_lt hb (by omega), if_neg (by decide)]; exact mxb_top hb k
theorem mnb_top {f : Nat → Nat} {b n M : Nat} (hb : b < 2 ^ n) : ∀ k, mnb f b M (n + k) = mnb f b M n
  | 0 => rfl
  | k + 1 => by show (if b.testBit (n + k) = true then _ else _) = _; rw [tb_lt hb (by omega), if_neg (by decide)]; exact mnb_top hb k
theorem smb_top {f : Nat → Nat} {b n : Nat} (hb : b < 2 ^ n) : ∀ k, smb f b (n + k) = smb f b n
  | 0 => rfl
  | k + 1 => by show (if b.testBit (n + k) = true then _ else _) = _; rw [tb_lt hb (by omega), if_neg (by decide)]; exact smb_top hb k
theorem orn_top {f : Nat → Nat} {b n : Nat} (hb : b < 2 ^ n) : ∀ k, orn f b (n + k) = orn f b n
  | 0 => rfl
  | k + 1 => by show (if b.testBit (n + k) = true then _ else _) = _; rw [tb_lt hb (by omega), if_neg (by decide)]; exact orn_top hb k
theorem top10 {α : Type} {F : Nat → α} {n : Nat} (h : ∀ k, F (n + k) = F n) (hn : n ≤ 10) : F 10 = F n := by
  have := h (10 - n); rwa [show n + (10 - n) = 10 by omega] at this
theorem mxb_le {f : Nat → Nat} {b B : Nat} : ∀ n, (∀ i, i < n → f i ≤ B) → mxb f b n ≤ B
  | 0, _ => Nat.zero_le _
  | n + 1, h => by
    have h1 := mxb_le (f := f) (b := b) n (fun i q => h i (by omega))
    have h2 := h n (by omega)
    unfold mxb; split
    · exact Nat.max_le.mpr ⟨h1, h2⟩
    · exact h1
theorem mnb_le {f : Nat → Nat} {b M : Nat} : ∀ n, mnb f b M n ≤ M
  | 0 => Nat.le_refl _
  | n + 1 => by
    have h1 := mnb_le (f := f) (b := b) (M := M) n
    unfold mnb; split
    · exact Nat.le_trans (Nat.min_le_left _ _) h1
    · exact h1
theorem mn_mx {f : Nat → Nat} {b M : Nat} : ∀ n, pcn b n ≠ 0 → mnb f b M n ≤ mxb f b n
  | 0, h => absurd rfl h
  | n + 1, h => by
    unfold pcn at h
    unfold mnb mxb
    by_cases hb : b.testBit n = true
    · rw [if_pos hb, if_pos hb]
      exact Nat.le_trans (Nat.min_le_right _ _) (Nat.le_max_right _ _)
    · rw [if_neg hb] at h
      rw [if_neg hb, if_neg hb]
      exact mn_mx n h
theorem smb_mx {f : Nat → Nat} {b : Nat} : ∀ n, smb f b n ≤ pcn b n * mxb f b n
  | 0 => Nat.le_refl _
  | n + 1 => by
    have h1 := smb_mx (f := f) (b := b) n
    unfold smb pcn mxb
    by_cases hb : b.testBit n = true
    · rw [if_pos hb, if_pos hb, if_pos hb]
      have h2 : pcn b n * mxb f b n ≤ pcn b n * max (mxb f b n) (f n) := Nat.mul_le_mul_left _ (Nat.le_max_left _ _)
      have h3 := Nat.le_max_right (mxb f b n) (f n)
      rw [Nat.add_mul, Nat.one_mul]
      omega
    · rw [if_neg hb, if_neg hb, if_neg hb]; exact h1
theorem smb_le {f : Nat → Nat} {b B : Nat} : ∀ n, (∀ i, i < n → f i ≤ B) → smb f b n ≤ n * B
  | 0, _ => by show 0 ≤ _; omega
  | n + 1, h => by
    have h1 := smb_le (f := f) (b := b) n (fun i q => h i (by omega))
    have h2 := h n (by omega)
    unfold smb; rw [Nat.add_mul, Nat.one_mul]; split <;> omega
def fareS (S : mw) (b : Nat) : Nat := if popc b = 1 then sSet S 2 else if b = 0 then 0 else (if sSet S 1 = 1 then 0 else mxb (tld S) b 10 - mnb (tld S) b 100000000 10) + (if sSet S 1 = 0 then 0 else mxb (sWt S) b 10 - mnb (sWt S) b 100000000 10)
def costS (S : mw) (b : Nat) : Nat := fareS S b + sSet S 3 * (popc b * mxb (sHr S) b 10 - smb (sHr S) b 10)
def okw (S : mw) (b : Nat) : Nat → Bool
  | 0 => true
  | i + 1 => okw S b i && (!(b.testBit i) || (sWo S i &&& b) == 0)
def okS (S : mw) (b : Nat) : Bool := decide (popc b ≤ sSet S 0) && okw S b 10
def needS (S : mw) (b : Nat) : Nat := orn (sMu S) b 10
theorem okw_top {S : mw} {b n : Nat} (hb : b < 2 ^ n) : ∀ k, okw S b (n + k) = okw S b n
  | 0 => rfl
  | k + 1 => by show (okw S b (n + k) && (!(b.testBit (n + k)) || (sWo S (n + k) &&& b) == 0)) = _; rw [tb_lt (i := n + k) hb (by omega), okw_top hb k]; simp
theorem tld_le {S : mw} (hV : VM S) {i : Nat} (hi : i < pN S) : tld S i ≤ 150 := by
  have h1 := (pN_ok S).2 i hi
  have h0 := (pN_ok S).1
  have h2 := VM_li hV i (by omega)
  unfold tld; omega
theorem i_add {x y : Int32} (h1 : -2147483648 ≤ x.toInt + y.toInt) (h2 : x.toInt + y.toInt ≤ 2147483647) : (x + y).toInt = x.toInt + y.toInt := by
  rw [Int32.toInt_add]; apply Int.bmod_eq_of_le <;> omega
theorem popc_pos : ∀ b, b < 1024 → 0 < b → popc b ≠ 0 := by decide +kernel
theorem popc_le' {b n : Nat} (hb : b < 2 ^ n) (hn : n ≤ 10) : popc b ≤ n := by
  have h : ∀ k, pcn b (n + k) = pcn b n := by
    intro k
    induction k with
    | zero => rfl
    | succ k ih => show pcn b (n + k) + (if b.testBit (n + k) = true then 1 else 0) = _; rw [tb_lt hb (by omega), ih]; rfl
  unfold popc
  rw [top10 h hn]
  exact pcn_le n
theorem two10 {n : Nat} (h : n ≤ 10) : 2 ^ n ≤ 1024 := Nat.pow_le_pow_right (n := 2) (by omega) h
theorem fareS_pN {S : mw} {b : Nat} (hb : b < 2 ^ pN S) (h1 : popc b ≠ 1) (h0 : b ≠ 0) : fareS S b = (if sSet S 1 = 1 then 0 else mxb (tld S) b (pN S) - mnb (tld S) b 100000000 (pN S)) + (if sSet S 1 = 0 then 0 else mxb (sWt S) b (pN S) - mnb (sWt S) b 100000000 (pN S)) := by
  have hp := (pN_ok S).1
  unfold fareS
  rw [if_neg h1, if_neg h0, top10 (mxb_top hb) hp, top10 (mnb_top hb) hp, top10 (mxb_top hb) hp, top10 (mnb_top hb) hp]
theorem pcn_top {b n : Nat} (hb : b < 2 ^ n) : ∀ k, pcn b (n + k) = pcn b n
  | 0 => rfl
  | k + 1 => by show pcn b (n + k) + (if b.testBit (n + k) = true then 1 else 0) = _; rw [tb_lt hb (by omega), pcn_top hb k]; rfl
theorem popc_pN {n b : Nat} (hb : b < 2 ^ n) (hp : n ≤ 10) : popc b = pcn b n := top10 (pcn_top hb) hp
theorem costS_pN {S : mw} {b : Nat} (hb : b < 2 ^ pN S) : costS S b = fareS S b + sSet S 3 * (popc b * mxb (sHr S) b (pN S) - smb (sHr S) b (pN S)) := by
  have hp := (pN_ok S).1
  unfold costS
  rw [top10 (mxb_top hb) hp, top10 (smb_top hb) hp]
