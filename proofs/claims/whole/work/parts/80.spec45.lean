/-- what a state's sense rests on -/
theorem VM_ch {S T : mw} (hV : VM S) (h6 : T 33 6 = S 33 6) (h28 : T 33 28 = S 33 28) (h : ∀ k, k ∈ [34, 35, 40, 41, 42, 43, 44, 45, 57] → T k = S k) : VM T := by
  unfold VM sLen sWt sHr sSet sWo sMu sSn sSz
  rw [h6, h28, h 34 (by decide), h 35 (by decide), h 40 (by decide), h 41 (by decide), h 42 (by decide), h 43 (by decide), h 44 (by decide), h 45 (by decide), h 57 (by decide)]
  exact hV
theorem VM_fi {S : mw} (hV : VM S) (x : Int32) : VM (mU S 33 4 x) :=
  VM_ch hV (mU_at_ne (by decide)) (mU_at_ne (by decide)) (fun k hk => mU_ne (fun q => absurd (q ▸ hk) (by decide)))
theorem VM_len2 {S T : mw} {n : Nat} (hV : VM S) (h6 : T 33 6 = nI n) (hn : n ≤ 40) (h28 : T 33 28 = S 33 28) (h : ∀ k, k ∈ [34, 35, 40, 41, 42, 43, 44, 45, 57] → T k = S k) : VM T := by
  have e : sLen T = n := by unfold sLen; rw [h6, cl (by omega)]
  obtain ⟨_, a⟩ := hV
  refine ⟨by rw [e]; exact ⟨h6, hn⟩, ?_⟩
  unfold sWt sHr sSet sWo sMu sSn sSz at a ⊢
  rw [h28, h 34 (by decide), h 35 (by decide), h 40 (by decide), h 41 (by decide), h 42 (by decide), h 43 (by decide), h 44 (by decide), h 45 (by decide), h 57 (by decide)]
  exact a
theorem VM_ty {S : mw} (hV : VM S) (b : Int32) (hl : sLen S < 40) : VM (tyS S b) :=
  VM_len2 hV (n := sLen S + 1) (by unfold tyS; rw [mU_at]) (by omega) (tyS_33 (by decide)) (fun k hk => tyS_k (fun q => absurd (q ▸ hk) (by decide)) (fun q => absurd (q ▸ hk) (by decide)))
theorem VM_wi {S : mw} (hV : VM S) : VM (mU S 33 6 0) :=
  VM_len2 hV (n := 0) mU_at (by omega) (mU_at_ne (by decide)) (fun k hk => mU_ne (fun q => absurd (q ▸ hk) (by decide)))
theorem v_of {x : Int32} {n : Nat} (h1 : 0 ≤ x.toInt) (h2 : x.toInt ≤ n) (hn : n < 1000) : x = nI x.toNatClampNeg ∧ x.toNatClampNeg ≤ n := by
  have h := i_nI h1
  have e : x.toNatClampNeg = x.toInt.toNat := rfl
  exact ⟨h, by omega⟩
theorem VM_40 {S : mw} (hV : VM S) {r : Nat → Int32} (hr : ∀ i, i < 10 → 0 ≤ (r i).toInt ∧ (r i).toInt ≤ 99) : VM (mUr S 40 r) := by
  have e : ∀ k, k ≠ 40 → mUr S 40 r k = S k := fun k hk => mUr_ne hk
  obtain ⟨a1, a2, a3⟩ := hV
  unfold VM
  refine ⟨?_, fun i hi => ?_, ?_⟩
  · unfold sLen at a1 ⊢; rw [e 33 (by decide)]; exact a1
  · unfold sWt
    rw [mUr_eq]
    exact v_of (n := 99) (hr i hi).1 (hr i hi).2 (by omega)
  · unfold sHr sSet sWo sMu sSn sSz at a3 ⊢
    rw [e 33 (by decide), e 34 (by decide), e 35 (by decide), e 41 (by decide), e 42 (by decide), e 43 (by decide), e 44 (by decide), e 45 (by decide), e 57 (by decide)]
    exact a3
theorem VM_41 {S : mw} (hV : VM S) {r : Nat → Int32} (hr : ∀ i, i < 10 → 0 ≤ (r i).toInt ∧ (r i).toInt ≤ 99) : VM (mUr S 41 r) := by
  have e : ∀ k, k ≠ 41 → mUr S 41 r k = S k := fun k hk => mUr_ne hk
  obtain ⟨a1, a2, a3, a4⟩ := hV
  unfold VM
  refine ⟨?_, ?_, fun i hi => ?_, ?_⟩
  · unfold sLen at a1 ⊢; rw [e 33 (by decide)]; exact a1
  · unfold sWt at a2 ⊢; rw [e 40 (by decide)]; exact a2
  · unfold sHr
    rw [mUr_eq]
    exact v_of (n := 99) (hr i hi).1 (hr i hi).2 (by omega)
  · unfold sSet sWo sMu sSn sSz at a4 ⊢
    rw [e 33 (by decide), e 34 (by decide), e 35 (by decide), e 42 (by decide), e 43 (by decide), e 44 (by decide), e 45 (by decide), e 57 (by decide)]
    exact a4
theorem VM_43 {S : mw} (hV : VM S) {r : Nat → Int32} (hr : ∀ i, i < 4 → 0 ≤ (r i).toInt ∧ (r i).toInt ≤ sHi i) (h0 : 1 ≤ (r 0).toInt) : VM (mUr S 43 r) := by
  have e : ∀ k, k ≠ 43 → mUr S 43 r k = S k := fun k hk => mUr_ne hk
  have hh : ∀ i, sHi i < 1000 := fun i => by unfold sHi; split <;> omega
  obtain ⟨a1, a2, a3, a4, a5, a6⟩ := hV
  unfold VM
  refine ⟨?_, ?_, ?_, ?_, ⟨fun i hi => ?_, ?_⟩, ?_⟩
  · unfold sLen at a1 ⊢; rw [e 33 (by decide)]; exact a1
  · unfold sWt at a2 ⊢; rw [e 40 (by decide)]; exact a2
  · unfold sHr at a3 ⊢; rw [e 41 (by decide)]; exact a3
  · rw [e 42 (by decide)]; exact a4
  · unfold sSet
    rw [mUr_eq]
    exact v_of (hr i hi).1 (hr i hi).2 (hh i)
  · unfold sSet
    rw [mUr_eq]
    have e9 : (r 0).toNatClampNeg = (r 0).toInt.toNat := rfl
    omega
  · unfold sWo sMu sSn sSz at a6 ⊢
    rw [e 33 (by decide), e 34 (by decide), e 35 (by decide), e 44 (by decide), e 45 (by decide), e 57 (by decide)]
    exact a6
theorem VM_44 {S : mw} (hV : VM S) {r : Nat → Int32} {f : Nat → Nat} (hr : ∀ i, i < 10 → r i = nI (f i) ∧ f i < 1024) : VM (mUr S 44 r) := by
  have e : ∀ k, k ≠ 44 → mUr S 44 r k = S k := fun k hk => mUr_ne hk
  obtain ⟨a1, a2, a3, a4, a5, a6, a7⟩ := hV
  unfold VM
  refine ⟨?_, ?_, ?_, ?_, ?_, fun i hi => ?_, ?_⟩
  · unfold sLen at a1 ⊢; rw [e 33 (by decide)]; exact a1
  · unfold sWt at a2 ⊢; rw [e 40 (by decide)]; exact a2
  · unfold sHr at a3 ⊢; rw [e 41 (by decide)]; exact a3
  · rw [e 42 (by decide)]; exact a4
  · unfold sSet at a5 ⊢; rw [e 43 (by decide)]; exact a5
  · unfold sWo
    rw [mUr_eq, (hr i hi).1, cl (by have := (hr i hi).2; omega)]
    exact ⟨rfl, (hr i hi).2⟩
  · unfold sMu sSn sSz at a7 ⊢
    rw [e 33 (by decide), e 34 (by decide), e 35 (by decide), e 45 (by decide), e 57 (by decide)]
    exact a7
theorem VM_45 {S : mw} (hV : VM S) {r : Nat → Int32} {f : Nat → Nat} (hr : ∀ i, i < 10 → r i = nI (f i) ∧ f i < 1024) (hs : (∀ i j, i < 10 → j < 10 → (f i).testBit j = (f j).testBit i) ∧ ∀ i, i < 10 → (f i).testBit i = false) : VM (mUr S 45 r) := by
  have e : ∀ k, k ≠ 45 → mUr S 45 r k = S k := fun k hk => mUr_ne hk
  have em : ∀ i, i < 10 → sMu (mUr S 45 r) i = f i := fun i hi => by
    unfold sMu; rw [mUr_eq, (hr i hi).1, cl (by have := (hr i hi).2; omega)]
  obtain ⟨a1, a2, a3, a4, a5, a6, a7, a8, a9⟩ := hV
  unfold VM
  refine ⟨?_, ?_, ?_, ?_, ?_, ?_, fun i hi => ?_, ⟨fun i j hi hj => ?_, fun i hi => ?_⟩, ?_⟩
  · unfold sLen at a1 ⊢; rw [e 33 (by decide)]; exact a1
  · unfold sWt at a2 ⊢; rw [e 40 (by decide)]; exact a2
  · unfold sHr at a3 ⊢; rw [e 41 (by decide)]; exact a3
  · rw [e 42 (by decide)]; exact a4
  · unfold sSet at a5 ⊢; rw [e 43 (by decide)]; exact a5
  · unfold sWo at a6 ⊢; rw [e 44 (by decide)]; exact a6
  · rw [em i hi, mUr_eq]; exact hr i hi
  · rw [em i hi, em j hj]; exact hs.1 i j hi hj
  · rw [em i hi]; exact hs.2 i hi
  · unfold sSn sSz at a9 ⊢
    rw [e 33 (by decide), e 34 (by decide), e 35 (by decide), e 57 (by decide)]
    exact a9
def setB (n b : Nat) (v : Int32) : Nat := if v = 0 then ann n (2 ^ b) else ann n (2 ^ b) ||| 2 ^ b
theorem tie1 {n b : Nat} {v : Int32} (hb : b < 10) (hv : v = 0 ∨ v = 1) : (nI n &&& ((1 <<< (nI b &&& 31)) ^^^ (-1))) ||| (v <<< (nI b &&& 31)) = nI (setB n b v) := by
  unfold setB
  rw [sh1 (by omega), anI]
  rcases hv with rfl | rfl
  · rw [if_pos rfl, show (0 : Int32) <<< (nI b &&& 31) = nI 0 from by
      have := pk_shlN (n := 0) (nI b &&& 31) b (mk31 b (by omega)) (by rw [Nat.zero_mul]; decide)
      rw [Nat.zero_mul] at this
      exact this, nI_or, Nat.or_zero]
  · rw [if_neg (by decide), sh1 (by omega), nI_or]
theorem setB_tb {n b j : Nat} {v : Int32} (hv : v = 0 ∨ v = 1) : (setB n b v).testBit j = if j = b then decide (v = 1) else n.testBit j := by
  unfold setB
  rcases hv with rfl | rfl
  · rw [if_pos rfl, tb_ann, Nat.testBit_two_pow]
    by_cases h : j = b
    · subst h; simp
    · rw [if_neg h]
      have : ¬ b = j := fun q => h q.symm
      simp [this]
  · rw [if_neg (by decide), Nat.testBit_or, tb_ann, Nat.testBit_two_pow]
    by_cases h : j = b
    · subst h; simp
    · rw [if_neg h]
      have : ¬ b = j := fun q => h q.symm
      simp [this]
theorem setB_lt {n b : Nat} {v : Int32} (hn : n < 1024) (hb : b < 10) : setB n b v < 1024 := by
  have h1 := ann_le n (2 ^ b)
  have h2 := two_lt hb (Nat.le_refl 10)
  unfold setB
  split
  · omega
  · exact Nat.or_lt_two_pow (n := 10) (by omega) h2
def tieF (f : Nat → Nat) (a b : Nat) (v : Int32) : Nat → Nat := fun i => if i = b then setB (f b) a v else if i = a then setB (f a) b v else f i
theorem tieR_f {r : Nat → Int32} {f : Nat → Nat} {a b : Nat} {v : Int32} (hr : ∀ i, i < 10 → r i = nI (f i) ∧ f i < 1024) (ha : a < 10) (hb : b < 10) (hab : a ≠ b) (hv : v = 0 ∨ v = 1) : ∀ i, i < 10 → tieR r a b v i = nI (tieF f a b v i) ∧ tieF f a b v i < 1024 := by
  intro i hi
  unfold tieR tieF
  rw [pk_un (Ne.symm hab), (hr a ha).1, (hr b hb).1, tie1 hb hv, tie1 ha hv]
  unfold upd
  by_cases h1 : i = b
  · rw [if_pos h1, if_pos h1]; exact ⟨rfl, setB_lt (hr b hb).2 ha⟩
  · rw [if_neg h1, if_neg h1]
    show (if i = a then nI (setB (f a) b v) else r i) = _ ∧ _
    by_cases h2 : i = a
    · rw [if_pos h2, if_pos h2]; exact ⟨rfl, setB_lt (hr a ha).2 hb⟩
    · rw [if_neg h2, if_neg h2]; exact hr i hi
theorem tieF_sy {f : Nat → Nat} {a b : Nat} {v : Int32} (ha : a < 10) (hb : b < 10) (hab : a ≠ b) (hv : v = 0 ∨ v = 1) (hs : (∀ i j, i < 10 → j < 10 → (f i).testBit j = (f j).testBit i) ∧ ∀ i, i < 10 → (f i).testBit i = false) : (∀ i j, i < 10 → j < 10 → (tieF f a b v i).testBit j = (tieF f a b v j).testBit i) ∧ ∀ i, i < 10 → (tieF f a b v i).testBit i = false := by
  have key : ∀ i j, (tieF f a b v i).testBit j = if (i = a ∧ j = b) ∨ (i = b ∧ j = a) then decide (v = 1) else (f i).testBit j := by
    intro i j
    unfold tieF
    by_cases h1 : i = b
    · rw [if_pos h1, setB_tb hv]
      by_cases h2 : j = a
      · rw [if_pos h2, if_pos (Or.inr ⟨h1, h2⟩)]
      · rw [if_neg h2, if_neg (fun q => q.elim (fun q => hab (q.1.symm.trans h1)) (fun q => h2 q.2)), h1]
    · rw [if_neg h1]
      by_cases h3 : i = a
      · rw [if_pos h3, setB_tb hv]
        by_cases h2 : j = b
        · rw [if_pos h2, if_pos (Or.inl ⟨h3, h2⟩)]
        · rw [if_neg h2, if_neg (fun q => q.elim (fun q => h2 q.2) (fun q => h1 q.1)), h3]
      · rw [if_neg h3, if_neg (fun q => q.elim (fun q => h3 q.1) (fun q => h1 q.1))]
  refine ⟨fun i j hi hj => ?_, fun i hi => ?_⟩
  · rw [key, key]
    by_cases h : (i = a ∧ j = b) ∨ (i = b ∧ j = a)
    · rw [if_pos h, if_pos (h.elim (fun q => Or.inr ⟨q.2, q.1⟩) (fun q => Or.inl ⟨q.2, q.1⟩))]
    · rw [if_neg h, if_neg (fun z => h (z.elim (fun q => Or.inr ⟨q.2, q.1⟩) (fun q => Or.inl ⟨q.2, q.1⟩)))]
      exact hs.1 i j hi hj
  · rw [key, if_neg (fun q => q.elim (fun q => hab (q.1.symm.trans q.2)) (fun q => hab (q.2.symm.trans q.1)))]
    exact hs.2 i hi
theorem b01 {v : Int32} (h : 0 ≤ v.toInt ∧ v.toInt ≤ 1) : v = 0 ∨ v = 1 := by
  have e0 : Int32.toInt 0 = 0 := rfl
  have e1 : Int32.toInt 1 = 1 := rfl
  by_cases q : v.toInt = 0
  · left; exact i_eq (by omega)
  · right; exact i_eq (by omega)
theorem upd_b {r : Nat → Int32} {j : Nat} {v : Int32} {P : Nat → Int32 → Prop} (hr : ∀ i, P i (r i)) (hv : P j v) : ∀ i, P i (upd r j v i) := by
  intro i
  unfold upd
  split
  · next h => rw [h]; exact hv
  · exact hr i
theorem rdn_in {S : mw} {s : Nat} : ∀ k i, i < rdn S s k → itOk (S 36 (60 * s + i)) = true
  | 0, i, h => absurd h (Nat.not_lt_zero _)
  | k + 1, i, h => by
    unfold rdn at h
    split at h
    · next q =>
      by_cases e : i = k
      · subst e; exact q.2.2
      · exact rdn_in k i (by rw [q.1]; omega)
    · exact rdn_in k i h
/-- every call leaves a state in its sense -/
theorem V_type {S : mw} (hV : VM S) (b : Int32) : VM (oType S b).2 := by
  unfold oType
  split
  · exact hV
  · split
    · exact hV
    · next h => exact VM_ty hV b (by have := (VM_len hV).2; omega)
theorem V_put {S : mw} (hV : VM S) (k a v : Int32) : VM (oPut S k a v).2 := by
  unfold oPut
  split
  · exact hV
  · next h =>
    have hv : 0 ≤ v.toInt ∧ v.toInt ≤ 99 := by omega
    split
    · refine VM_40 hV (r := upd (S 40) _ v) (fun i hi => ?_)
      unfold upd; split
      · exact hv
      · have := VM_wt hV i hi; rw [this.1, ti (by omega)]; omega
    · refine VM_41 hV (r := upd (S 41) _ v) (fun i hi => ?_)
      unfold upd; split
      · exact hv
      · have := VM_hr hV i hi; rw [this.1, ti (by omega)]; omega
theorem V_lie {S : mw} (hV : VM S) (k v : Int32) : VM (oLie S k v).2 := by
  unfold oLie
  split
  · exact hV
  · next h => exact VM_42 hV (by omega) (by omega)
theorem V_read {S : mw} (hV : VM S) (s : Int32) : VM (oRead S s).2 := by
  unfold oRead
  split
  · exact hV
  · split
    · exact VM_fi hV 1
    · refine VM_40 hV (fun i hi => ?_)
      unfold rdr; split
      · next h => exact of_decide_eq_true (rdn_in 10 i h)
      · have := VM_wt hV i hi; rw [this.1, ti (by omega)]; omega
theorem V_set {S : mw} (hV : VM S) (a v : Int32) : VM (oSet S a v).2 := by
  unfold oSet
  by_cases h : ¬ (0 ≤ a.toInt ∧ a.toInt ≤ 3) ∨ ¬ ((if a = 0 then (1 : Int) else 0) ≤ v.toInt ∧ v.toInt ≤ sHi a.toNatClampNeg)
  · rw [if_pos h]; exact hV
  · rw [if_neg h]
    have ha : 0 ≤ a.toInt ∧ a.toInt ≤ 3 := Classical.byContradiction (fun q => h (Or.inl q))
    have hold : ∀ i, i < 4 → 0 ≤ (S 43 i).toInt ∧ (S 43 i).toInt ≤ sHi i := fun i hi => by
      have := (VM_set hV).1 i hi
      have h9 : sHi i < 1000 := by unfold sHi; split <;> omega
      rw [this.1, ti (by omega)]; omega
    have h1 := (VM_set hV).1 0 (by omega)
    have h2 := (VM_set hV).2
    have h90 : sHi 0 = 4 := rfl
    rcases four ha with rfl | rfl | rfl | rfl
    · have hv : (1 : Int) ≤ v.toInt ∧ v.toInt ≤ sHi 0 := Classical.byContradiction (fun q => h (Or.inr q))
      show VM (mUr S 43 (upd (S 43) 0 v))
      refine VM_43 hV (r := upd (S 43) 0 v) (fun i hi => ?_) ?_
      · unfold upd; split
        · next e => subst e; omega
        · exact hold i hi
      · rw [pk_us]; exact hv.1
    · have hv : (0 : Int) ≤ v.toInt ∧ v.toInt ≤ sHi 1 := Classical.byContradiction (fun q => h (Or.inr q))
      show VM (mUr S 43 (upd (S 43) 1 v))
      refine VM_43 hV (r := upd (S 43) 1 v) (fun i hi => ?_) ?_
      · unfold upd; split
        · next e => subst e; omega
        · exact hold i hi
      · rw [pk_un (by decide), h1.1, ti (by omega)]; omega
    · have hv : (0 : Int) ≤ v.toInt ∧ v.toInt ≤ sHi 2 := Classical.byContradiction (fun q => h (Or.inr q))
      show VM (mUr S 43 (upd (S 43) 2 v))
      refine VM_43 hV (r := upd (S 43) 2 v) (fun i hi => ?_) ?_
      · unfold upd; split
        · next e => subst e; omega
        · exact hold i hi
      · rw [pk_un (by decide), h1.1, ti (by omega)]; omega
    · have hv : (0 : Int) ≤ v.toInt ∧ v.toInt ≤ sHi 3 := Classical.byContradiction (fun q => h (Or.inr q))
      show VM (mUr S 43 (upd (S 43) 3 v))
      refine VM_43 hV (r := upd (S 43) 3 v) (fun i hi => ?_) ?_
      · unfold upd; split
        · next e => subst e; omega
        · exact hold i hi
      · rw [pk_un (by decide), h1.1, ti (by omega)]; omega
theorem V_pair {S : mw} (hV : VM S) (k a b v : Int32) : VM (oPair S k a b v).2 := by
  unfold oPair
  split
  · exact hV
  · next h =>
    obtain ⟨a1, ha, rfl⟩ := nu_of (s := a) (by omega)
    obtain ⟨b1, hb, rfl⟩ := nu_of (s := b) (by omega)
    have ta := ti (show a1 < 2147483648 by omega)
    have tb := ti (show b1 < 2147483648 by omega)
    have hab : a1 ≠ b1 := by omega
    have hv := b01 (v := v) (by omega)
    rw [cl (by omega), cl (by omega)]
    split
    · exact VM_44 hV (tieR_f (VM_wo hV) ha hb hab hv)
    · exact VM_45 hV (tieR_f (VM_mu hV) ha hb hab hv) (tieF_sy ha hb hab hv (VM_sy hV))
theorem V_seen {S : mw} (hV : VM S) (a b f : Int32) : VM (oSeen S a b f).2 := by
  unfold oSeen
  split
  · exact hV
  · next h =>
    have h8 := (VM_sn hV).2
    split
    · exact hV
    · next h0 =>
      show VM (seS S a b f)
      have e : ∀ k, k ≠ 33 → k ≠ 57 → seS S a b f k = S k := fun k a1 a2 => by unfold seS; rw [mU_ne a1, mU_ne a2, mU_ne a2, mU_ne a2]
      have e33 : ∀ j, j ≠ 28 → seS S a b f 33 j = S 33 j := fun j hj => by unfold seS; rw [mU_at_ne hj, mU_ne (by decide), mU_ne (by decide), mU_ne (by decide)]
      have e28 : seS S a b f 33 28 = nI (sSn S + 1) := by unfold seS; rw [mU_at]
      have en : sSn (seS S a b f) = sSn S + 1 := by
        show ((seS S a b f) 33 28).toNatClampNeg = _
        rw [e28, cl (by omega)]
      have e57 : ∀ j, seS S a b f 57 j = if j = 3 * sSn S + 2 then f else if j = 3 * sSn S + 1 then b else if j = 3 * sSn S then a else S 57 j := fun j => by unfold seS; rw [mU_ne (by decide), mU_k, mU_k, mU_k]
      obtain ⟨b1, b2, b3, b4, b5, b6, b7, b8, b9, b10, b11, b12⟩ := hV
      refine ⟨?_, ?_, ?_, ?_, ?_, ?_, ?_, ?_, ?_, fun k hk => ?_, ?_, ?_⟩
      · unfold sLen at b1 ⊢; rw [e33 6 (by decide)]; exact b1
      · unfold sWt at b2 ⊢; rw [e 40 (by decide) (by decide)]; exact b2
      · unfold sHr at b3 ⊢; rw [e 41 (by decide) (by decide)]; exact b3
      · rw [e 42 (by decide) (by decide)]; exact b4
      · unfold sSet at b5 ⊢; rw [e 43 (by decide) (by decide)]; exact b5
      · unfold sWo at b6 ⊢; rw [e 44 (by decide) (by decide)]; exact b6
      · unfold sMu at b7 ⊢; rw [e 45 (by decide) (by decide)]; exact b7
      · unfold sMu at b8 ⊢; rw [e 45 (by decide) (by decide)]; exact b8
      · rw [en]; exact ⟨e28, by omega⟩
      · rw [en] at hk
        rw [e57, e57, e57]
        by_cases hks : k = sSn S
        · subst hks
          rw [if_neg (by omega), if_neg (by omega), if_pos rfl, if_neg (by omega), if_pos rfl, if_pos rfl]
          obtain ⟨x, hx, rfl⟩ := nu_of (s := a) (by omega)
          obtain ⟨y, hy, rfl⟩ := nu_of (s := b) (by omega)
          have tx := ti (show x < 2147483648 by omega)
          have ty := ti (show y < 2147483648 by omega)
          exact ⟨⟨x, y, rfl, rfl, hx, hy, by omega⟩, by omega, by omega⟩
        · rw [if_neg (by omega), if_neg (by omega), if_neg (by omega), if_neg (by omega), if_neg (by omega), if_neg (by omega), if_neg (by omega), if_neg (by omega), if_neg (by omega)]
          exact b10 k (by omega)
      · rw [e 34 (by decide) (by decide)]; exact b11
      · unfold sSz at b12 ⊢; rw [e 35 (by decide) (by decide)]; exact b12
theorem V_forget {S : mw} (hV : VM S) : VM (oForget S).2 := by
  show VM (mU S 33 28 0)
  have e : ∀ k, k ≠ 33 → mU S 33 28 0 k = S k := fun k a1 => mU_ne a1
  have e33 : ∀ j, j ≠ 28 → mU S 33 28 0 33 j = S 33 j := fun j hj => mU_at_ne hj
  have en : sSn (mU S 33 28 0) = 0 := by
    show ((mU S 33 28 0) 33 28).toNatClampNeg = 0
    rw [mU_at]; rfl
  obtain ⟨b1, b2, b3, b4, b5, b6, b7, b8, b9, b10, b11, b12⟩ := hV
  refine ⟨?_, ?_, ?_, ?_, ?_, ?_, ?_, ?_, ?_, fun k hk => ?_, ?_, ?_⟩
  · unfold sLen at b1 ⊢; rw [e33 6 (by decide)]; exact b1
  · unfold sWt at b2 ⊢; rw [e 40 (by decide)]; exact b2
  · unfold sHr at b3 ⊢; rw [e 41 (by decide)]; exact b3
  · rw [e 42 (by decide)]; exact b4
  · unfold sSet at b5 ⊢; rw [e 43 (by decide)]; exact b5
  · unfold sWo at b6 ⊢; rw [e 44 (by decide)]; exact b6
  · unfold sMu at b7 ⊢; rw [e 45 (by decide)]; exact b7
  · unfold sMu at b8 ⊢; rw [e 45 (by decide)]; exact b8
  · rw [en]; exact ⟨mU_at, by omega⟩
  · rw [en] at hk; exact absurd hk (Nat.not_lt_zero _)
  · rw [e 34 (by decide)]; exact b11
  · unfold sSz at b12 ⊢; rw [e 35 (by decide)]; exact b12
theorem VM_sh {S T : mw} (hV : VM S) (e : ∀ k, k ≠ 34 → k ≠ 35 → k ≠ 36 → T k = S k) (h1 : ∀ s, s < 4 → -1 ≤ (T 34 s).toInt ∧ (T 34 s).toInt ≤ 2) (h2 : ∀ s, s < 4 → T 35 s = nI (sSz T s) ∧ sSz T s ≤ 60) : VM T := by
  obtain ⟨b1, b2, b3, b4, b5, b6, b7, b8, b9, b10, b11, b12⟩ := hV
  refine ⟨?_, ?_, ?_, ?_, ?_, ?_, ?_, ?_, ?_, ?_, h1, h2⟩
  · unfold sLen at b1 ⊢; rw [e 33 (by decide) (by decide) (by decide)]; exact b1
  · unfold sWt at b2 ⊢; rw [e 40 (by decide) (by decide) (by decide)]; exact b2
  · unfold sHr at b3 ⊢; rw [e 41 (by decide) (by decide) (by decide)]; exact b3
  · rw [e 42 (by decide) (by decide) (by decide)]; exact b4
  · unfold sSet at b5 ⊢; rw [e 43 (by decide) (by decide) (by decide)]; exact b5
  · unfold sWo at b6 ⊢; rw [e 44 (by decide) (by decide) (by decide)]; exact b6
  · unfold sMu at b7 ⊢; rw [e 45 (by decide) (by decide) (by decide)]; exact b7
  · unfold sMu at b8 ⊢; rw [e 45 (by decide) (by decide) (by decide)]; exact b8
  · unfold sSn at b9 ⊢; rw [e 33 (by decide) (by decide) (by decide)]; exact b9
  · unfold sSn at b10 ⊢; rw [e 33 (by decide) (by decide) (by decide), e 57 (by decide) (by decide) (by decide)]; exact b10
theorem V_sheet {S : mw} (hV : VM S) (s f n : Int32) : VM (oSheet S s f n).2 := by
  unfold oSheet
  split
  · exact hV
  · next h =>
    split
    · exact VM_fi hV 5
    · next hn =>
      show VM (mUr (mU (mU S 34 s.toNatClampNeg f) 35 s.toNatClampNeg n) 36 (clr (S 36) s.toNatClampNeg n.toNatClampNeg))
      refine VM_sh hV (fun k h1 h2 h3 => by rw [mUr_ne h3, mU_ne h2, mU_ne h1]) (fun t ht => ?_) (fun t ht => ?_)
      · rw [mUr_ne (by decide), mU_ne (by decide), mU_k]
        split
        · omega
        · exact VM_fo hV t ht
      · unfold sSz
        rw [mUr_ne (by decide), mU_k]
        split
        · exact v_of (n := 60) (by omega) (by omega) (by omega)
        · rw [mU_ne (by decide)]; exact VM_sz hV t ht
theorem V_lose {S : mw} (hV : VM S) (s : Int32) : VM (oLose S s).2 := by
  unfold oLose
  split
  · exact hV
  · split
    · exact VM_fi hV 1
    · show VM (mU S 34 s.toNatClampNeg (-1))
      refine VM_sh hV (fun k h1 h2 h3 => mU_ne h1) (fun t ht => ?_) (fun t ht => ?_)
      · rw [mU_k]
        split
        · decide
        · exact VM_fo hV t ht
      · unfold sSz
        rw [mU_ne (by decide)]; exact VM_sz hV t ht
theorem V_lay {S : mw} (hV : VM S) (s f i v : Int32) : VM (oLay S s f i v).2 := by
  unfold oLay
  split
  · exact hV
  · split
    · exact VM_fi hV _
    · exact VM_36 hV (fr_U (by decide))
theorem V_get {S : mw} (hV : VM S) (s f i : Int32) : VM (oGet S s f i).2 := by
  unfold oGet
  split
  · exact hV
  · split
    · exact VM_fi hV _
    · exact hV
theorem V_copy {S : mw} (hV : VM S) (s i t j n : Int32) : VM (oCopy S s i t j n).2 := by
  unfold oCopy
  split
  · exact hV
  · split
    · exact VM_fi hV 1
    · split
      · exact VM_fi hV 4
      · split
        · exact VM_fi hV 2
        · exact VM_36 hV (fr_Ur (by decide))
theorem V_judged {S : mw} (hV : VM S) (s : Int32) : VM (oJudged S s).2 := by
  unfold oJudged
  split
  · exact hV
  · split
    · exact VM_fi hV 1
    · split <;> exact hV
theorem V_costs {S : mw} (hV : VM S) (s : Int32) : VM (oCosts S s).2 := by
  unfold oCosts
  split
  · exact hV
  · split
    · exact VM_fi hV 1
    · split <;> exact hV
theorem V_rather {S : mw} (hV : VM S) (s : Int32) : VM (oRather S s).2 := by
  unfold oRather
  split
  · exact hV
  · split
    · exact VM_fi hV 1
    · split <;> exact hV
theorem V_write {S : mw} (hV : VM S) (s : Int32) : VM (oWrite S s).2 := by
  unfold oWrite
  split
  · exact hV
  · split
    · exact VM_fi hV 1
    · split
      · exact hV
      · exact VM_36 hV (wrS_fr _ _ _ _)
