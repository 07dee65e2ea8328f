theorem FT_tab {w S : mw} (h : CC w S) (z : w 12 6 = 0) : CD0 w ∧ CDb w S (2 ^ pN S) ∧ CDt w S (2 ^ pN S) := by
  have h7 := h.2.2.2.2.2.2
  refine ⟨h7.1, ?_⟩
  rcases h7.2 with q | q
  · rw [z] at q; exact absurd q (by decide)
  · exact q.2
theorem FT_15 {w S : mw} (h : CC w S) (z : w 12 6 = 0) : ∀ x, x < 2 ^ pN S → w 15 x = enD (DC S x) := by
  intro x hx
  obtain ⟨a, b, c⟩ := FT_tab h z
  by_cases h0 : x = 0
  · subst h0; rw [a.2.2.1, (enD_0 S).1]
  · exact (c x (by omega) hx).1
theorem FT_16 {w S : mw} (h : CC w S) (z : w 12 6 = 0) : ∀ x, x < 2 ^ pN S → w 16 x = m1v (DC S x).2.2.2 := by
  intro x hx
  obtain ⟨a, b, c⟩ := FT_tab h z
  by_cases h0 : x = 0
  · subst h0; rw [a.2.2.2, (enD_0 S).2.1]
  · exact (c x (by omega) hx).2
theorem CD0_of {L : List Nat} {w w1 : mw} (h : CD0 w) (hf : fr L w w1) (hL : 13 ∉ L ∧ 14 ∉ L ∧ 15 ∉ L ∧ 16 ∉ L) : CD0 w1 := by
  unfold CD0; rw [hf 13 hL.1, hf 14 hL.2.1, hf 15 hL.2.2.1, hf 16 hL.2.2.2]; exact h
theorem mU_0 {w : mw} {k j a : Nat} {x : Int32} (hj : 0 < j) : mU w k j x a 0 = w a 0 := by
  rw [mU_row]; split
  · next h => subst h; exact pk_un (by omega)
  · rfl
theorem CD0_U {w : mw} {k j : Nat} {x : Int32} (h : CD0 w) (hj : 0 < j) : CD0 (mU w k j x) := by
  unfold CD0; rw [mU_0 hj, mU_0 hj, mU_0 hj, mU_0 hj]; exact h
theorem CDb_add {w S : mw} {b : Nat} (h : CDb w S b) : CDb (mU (mU w 14 b (nI (needS S b))) 13 b (if okS S b = true then nI (costS S b) else -1)) S (b + 1) := by
  intro x h0 hx
  by_cases hxb : x = b
  · subst hxb; exact ⟨mU_at, by rw [mU_ne (by decide)]; exact mU_at⟩
  · have := h x h0 (by omega)
    exact ⟨by rw [mU_at_ne hxb, mU_ne (by decide)]; exact this.1, by rw [mU_ne (by decide), mU_at_ne hxb]; exact this.2⟩
theorem CDb_fr {L : List Nat} {w w1 S : mw} {n : Nat} (h : CDb w S n) (hf : fr L w w1) (h3 : 13 ∉ L) (h4 : 14 ∉ L) : CDb w1 S n := by
  unfold CDb; rw [hf 13 h3, hf 14 h4]; exact h
theorem CDt_add {w S : mw} {s : Nat} (h : CDt w S s) : CDt (mU (mU w 15 s (enD (DC S s))) 16 s (m1v (DC S s).2.2.2)) S (s + 1) := by
  intro x h0 hx
  by_cases hxb : x = s
  · subst hxb; exact ⟨by rw [mU_ne (by decide)]; exact mU_at, mU_at⟩
  · have := h x h0 (by omega)
    exact ⟨by rw [mU_ne (by decide), mU_at_ne hxb]; exact this.1, by rw [mU_at_ne hxb, mU_ne (by decide)]; exact this.2⟩
theorem CDt_0 {w S : mw} {s : Nat} (h : CDt w S s) (h0 : CD0 w) : ∀ x, x < s → w 15 x = enD (DC S x) ∧ w 16 x = m1v (DC S x).2.2.2 := by
  intro x hx
  by_cases hz : x = 0
  · subst hz; exact ⟨by rw [h0.2.2.1, (enD_0 S).1], by rw [h0.2.2.2, (enD_0 S).2.1]⟩
  · exact h x (by omega) hx
theorem chain_ok {S : mw} {x : Nat} (hV : VM S) (hp0 : 0 < pN S) (h : x = wh S ∨ x.testBit 0 = false) : ann x (DC S x).2.2.1 = wh S ∨ (ann x (DC S x).2.2.1).testBit 0 = false := by
  rcases h with h | h
  · subst h
    by_cases hf : (DC S (wh S)).2.2.2 = 0
    · have := (DC_okk hV (wh_lt S)).2.2.2.2 hf
      rw [this]
      left
      unfold ann
      simp
    · right
      rw [tb_ann, wh_fb hV hp0 hf]; simp
  · right; rw [tb_ann, h]; rfl
theorem bwS_0 {S : mw} {p : Nat} (hV : VM S) (h : (DC S (wh S)).2.2.2 = 0) : ∀ f, bwS S p f (wh S) = 0
  | 0 => rfl
  | f + 1 => by
    have e := (DC_okk hV (wh_lt S)).2.2.2.2 h
    unfold bwS
    rw [e]
    have e2 : ann (wh S) 0 = wh S := by unfold ann; simp
    show (if Nat.testBit 0 p = true then 0 else bwS S p f (ann (wh S) 0)) = 0
    rw [Nat.zero_testBit, if_neg (by decide), e2]
    exact bwS_0 hV h f
theorem bw_with {S : mw} {p : Nat} (hV : VM S) (hp : p < pN S) : (if (bwS S p 10 (wh S)).testBit p = true then nI (bwS S p 10 (wh S)) else -1) = withR S p := by
  unfold withR
  by_cases h : bwR S p = 0
  · rw [if_pos h]
    rw [bwS_0 hV ((bwR_0 hV hp).mp h), Nat.zero_testBit]; rfl
  · have h1 := bwR_ok hV hp h
    have e : bwR S p = bwS S p 10 (wh S) := by unfold bwR; rw [if_neg h1.2.2.2.2]
    rw [if_neg h, e]
    rw [e] at h1
    rw [if_pos h1.1]
theorem mSF61 : ∀ n, n ≤ 6 → mSF 61 n = nI (facS n) := by decide +kernel
theorem dayR_n {S : mw} (hV : VM S) {x : Nat} (hx : x < 2 ^ pN S) : dayR S x 0 = -1 ↔ (DC S x).2.2.2 = 0 := by
  rw [dayR_0 hV hx]; unfold Fe; exact Decidable.not_not
theorem costS_0 (S : mw) : costS S 0 = 0 := by
  have h1 : popc 0 = 0 := by decide
  have h2 : smb (sHr S) 0 10 = 0 := by simp [smb]
  unfold costS fareS
  rw [h1, if_neg (by decide), if_pos rfl]; simp
def csum (S : mw) (f : Nat → Nat) : Nat → Nat
  | 0 => 0
  | k + 1 => csum S f k + costS S (f k)
theorem csum_le {S : mw} (hV : VM S) {f : Nat → Nat} : ∀ k, (∀ i, i < k → f i < 2 ^ pN S) → csum S f k ≤ k * 9200
  | 0, _ => Nat.le_refl _
  | k + 1, h => by
    have ih := csum_le hV k (fun i hi => h i (by omega))
    have hk := h k (by omega)
    unfold csum
    rw [Nat.add_mul, Nat.one_mul]
    by_cases h0 : f k = 0
    · have e : costS S (f k) = 0 := by rw [h0]; exact costS_0 S
      omega
    · have := costS_le hV hk (by omega)
      have := popc_le (f k)
      omega
theorem csum_cst {S : mw} {s : Nat} : ∀ k, csum S (fun b => tbS S s (nI b)) k = cstN S s k
  | 0 => rfl
  | k + 1 => by
    unfold csum cstN
    rw [csum_cst k]
    split
    · next h => show _ + costS S (tbS S s (nI k)) = _; rw [h, costS_0]
    · rfl
theorem csum_lot {S : mw} {x : Int32} : ∀ k, csum S (lotS S x (pN S)).2 k = lotC S x k
  | 0 => rfl
  | k + 1 => by
    unfold csum lotC
    rw [csum_lot k]
    split
    · next h => rw [h, costS_0]; rfl
    · rfl
