abbrev mv : Type := Int32 ⊕ Int64 ⊕ Nat
abbrev mw : Type := Nat → Nat → Int32
abbrev mE : Type := (Nat → Nat) × va_G × (ClassId × ClassId × ClassId) × (Nat → Int32) × Nat
abbrev vi (x : Int32) : mv := Sum.inl x
abbrev vl (x : Int64) : mv := Sum.inr (Sum.inl x)
abbrev vr (k : Nat) : mv := Sum.inr (Sum.inr k)
abbrev li (x : Int32) : Option mv := some (vi x)
abbrev ll (x : Int64) : Option mv := some (vl x)
abbrev lr (k : Nat) : Option mv := some (vr k)
abbrev lo : Option mv := none
def mV (E : mE) : mv → Value
  | .inl x => .int x
  | .inr (.inl x) => .long x
  | .inr (.inr k) => .ref (E.1 k)
def mcat : mv → Nat
  | .inl _ => 1
  | .inr (.inl _) => 2
  | .inr (.inr _) => 1
theorem mV_cat (E : mE) (v : mv) : (mV E v).category = mcat v := by rcases v with x | x | k <;> rfl
theorem mV_cats (E : mE) (st : List mv) : ((st.map (mV E)).map fun v => v.category) = st.map mcat := by
  rw [List.map_map]; exact List.map_congr_left (fun v _ => mV_cat E v)
def mObj : Nat → Option (Nat × Nat) := fun k => match k with
  | 0 => some (6, 8)
  | 1 => some (1, 9)
  | 8 => some (2, 3)
  | 12 => some (0, 7)
  | 17 => some (5, 4)
  | 19 => some (4, 4)
  | 24 => some (3, 3)
  | 25 => some (3, 3)
  | 26 => some (3, 3)
  | 27 => some (3, 3)
  | 33 => some (7, 31)
  | _ => none
def mArr : Nat → Nat × Nat := fun k => match k with
  | 2 => (0, 40)
  | 3 => (0, 10)
  | 4 => (0, 10)
  | 5 => (0, 10)
  | 6 => (0, 10)
  | 7 => (0, 10)
  | 9 => (0, 4)
  | 10 => (0, 10)
  | 11 => (0, 10)
  | 13 => (0, 1024)
  | 14 => (0, 1024)
  | 15 => (0, 1024)
  | 16 => (0, 1024)
  | 18 => (0, 10)
  | 20 => (0, 8)
  | 21 => (0, 8)
  | 22 => (0, 8)
  | 23 => (2, 4)
  | 28 => (0, 60)
  | 29 => (0, 60)
  | 30 => (0, 60)
  | 31 => (0, 60)
  | 32 => (0, 10)
  | 34 => (0, 4)
  | 35 => (0, 4)
  | 36 => (0, 240)
  | 37 => (0, 60)
  | 38 => (0, 40)
  | 39 => (0, 10)
  | 40 => (0, 10)
  | 41 => (0, 10)
  | 42 => (0, 10)
  | 43 => (0, 4)
  | 44 => (0, 10)
  | 45 => (0, 10)
  | 46 => (0, 1024)
  | 47 => (0, 1024)
  | 48 => (1, 1024)
  | 49 => (0, 1024)
  | 50 => (0, 1024)
  | 51 => (0, 1024)
  | 52 => (0, 1024)
  | 53 => (0, 1024)
  | 54 => (0, 9)
  | 55 => (0, 4140)
  | 56 => (0, 4140)
  | 57 => (0, 24)
  | 58 => (0, 10)
  | _ => (0, 0)
def mRef : Nat → Nat → Option Nat := fun k j => match k, j with
  | 0, 0 => some 1
  | 0, 1 => some 8
  | 0, 2 => some 12
  | 0, 3 => some 17
  | 0, 4 => some 19
  | 0, 5 => some 23
  | 0, 6 => some 32
  | 1, 0 => some 2
  | 1, 1 => some 3
  | 1, 2 => some 4
  | 1, 3 => some 5
  | 1, 4 => some 6
  | 1, 5 => some 7
  | 8, 0 => some 9
  | 8, 1 => some 10
  | 8, 2 => some 11
  | 12, 0 => some 1
  | 12, 1 => some 8
  | 12, 2 => some 13
  | 12, 3 => some 14
  | 12, 4 => some 15
  | 12, 5 => some 16
  | 17, 0 => some 12
  | 17, 1 => some 18
  | 19, 0 => some 20
  | 19, 1 => some 21
  | 19, 2 => some 22
  | 24, 0 => some 28
  | 25, 0 => some 29
  | 26, 0 => some 30
  | 27, 0 => some 31
  | 33, 0 => some 34
  | 33, 1 => some 35
  | 33, 2 => some 36
  | 33, 3 => some 37
  | 33, 5 => some 38
  | 33, 9 => some 39
  | 33, 10 => some 40
  | 33, 11 => some 41
  | 33, 12 => some 42
  | 33, 13 => some 43
  | 33, 14 => some 44
  | 33, 15 => some 45
  | 33, 16 => some 46
  | 33, 17 => some 47
  | 33, 18 => some 48
  | 33, 19 => some 49
  | 33, 20 => some 50
  | 33, 21 => some 51
  | 33, 22 => some 52
  | 33, 23 => some 53
  | 33, 24 => some 54
  | 33, 25 => some 55
  | 33, 26 => some 56
  | 33, 29 => some 57
  | 33, 30 => some 58
  | _, _ => none
def mFld (E : mE) (w : mw) (k j : Nat) : Value := match mRef k j with
  | some t => .ref (E.1 t)
  | none => .int (w k j)
def mEnt (E : mE) (w : mw) (k : Nat) : va_E := match mObj k with
  | some q => .inr (q.1, (List.range q.2).map (mFld E w k))
  | none => match mArr k with
    | (0, n) => .inl (E.2.2.1.1, n, .inl (w k))
    | (1, n) => .inl (E.2.2.1.2.1, n, .inl (w k))
    | (_, n) => .inl (E.2.2.1.2.2, n, .inr (.inr (.inr (.inr (fun i => some (E.1 (24 + i)))))))
def mW (E : mE) (w : mw) : va_W := (List.range 59).map fun k => (E.1 k, mEnt E w k)
def mTys (E : mE) : List (ClassId × FieldType) := [(E.2.2.1.1, .int), (E.2.2.1.2.1, .boolean), (E.2.2.1.2.2, .object "AgeFerry$Sheet")]
def mUr (w : mw) (k : Nat) (f : Nat → Int32) : mw := fun a => if a = k then f else w a
def mU (w : mw) (k j : Nat) (x : Int32) : mw := mUr w k (upd (w k) j x)
theorem mW_at {E : mE} {w : mw} {k : Nat} (h : k < 59) : (mW E w)[k]? = some (E.1 k, mEnt E w k) := by
  unfold mW
  rw [List.getElem?_map, List.getElem?_range h]; rfl
theorem mW_no {E : mE} {w : mw} {k : Nat} (h : ¬ k < 59) : (mW E w)[k]? = none := by
  apply List.getElem?_eq_none
  unfold mW
  rw [List.length_map, List.length_range]; omega
theorem mUr_ne {w : mw} {k : Nat} {f : Nat → Int32} {a : Nat} (h : a ≠ k) : mUr w k f a = w a := if_neg h
theorem mUr_eq {w : mw} {k : Nat} {f : Nat → Int32} : mUr w k f k = f := if_pos rfl
theorem mEnt_ne {E : mE} {w : mw} {k : Nat} {f : Nat → Int32} {a : Nat} (h : a ≠ k) : mEnt E (mUr w k f) a = mEnt E w a := by
  have h1 : mFld E (mUr w k f) a = mFld E w a := by funext j; unfold mFld; rw [mUr_ne h]
  unfold mEnt
  rw [h1, mUr_ne h]
theorem mW_set {E : mE} {w : mw} {k : Nat} {f : Nat → Int32} {e : va_E} (h : k < 59) (he : mEnt E (mUr w k f) k = e) : (mW E w).set k (E.1 k, e) = mW E (mUr w k f) := by
  apply List.ext_getElem?
  intro i
  by_cases hi : i < 59
  · by_cases hik : i = k
    · subst hik
      rw [List.getElem?_set_self (by unfold mW; rw [List.length_map, List.length_range]; exact h), mW_at h, he]
    · rw [List.getElem?_set_ne (Ne.symm hik), mW_at hi, mW_at hi, mEnt_ne hik]
  · rw [mW_no hi]
    apply List.getElem?_eq_none
    rw [List.length_set]
    unfold mW
    rw [List.length_map, List.length_range]; omega
def mSF (k j : Nat) : Int32 := match k with
  | 59 => (match j with | 0 => 1 | _ => 0)
  | 60 => (match j with | 0 => 4 | 1 => 2 | 2 => 99 | _ => 9)
  | _ => (match j with | 0 => 1 | 1 => 1 | 2 => 2 | 3 => 6 | 4 => 24 | 5 => 120 | _ => 720)
def mSN (k : Nat) : Nat := match k with
  | 59 => 4
  | 60 => 4
  | _ => 7
def mSC (k : Nat) : String × String := match k with
  | 59 => ("AgeFerry$Rules", "LEAST")
  | 60 => ("AgeFerry$Rules", "GREATEST")
  | _ => ("AgeFerry$Days", "FACTORIALS")
def mSt (E : mE) (A : Nat → Prop) (U : State) (H : Heap) : Prop := ∀ k, 59 ≤ k → k < 62 → va_Z (mSC k).1 (mSC k).2 "[I" (.ref (E.1 k)) A U H ∧ va_T .int (E.1 k) (mSN k) (fun j => .int (mSF k j)) A U H
theorem mSt.moved {E : mE} {A : Nat → Prop} {u U : State} {H : Heap} (hvm : u.vm.Alike U.vm) (h : mSt E A u H) : mSt E A U H := fun k h1 h2 => ⟨va_Z.moved hvm (h k h1 h2).1, va_T.moved hvm (h k h1 h2).2⟩
theorem mSt.kept {E : mE} {A : Nat → Prop} {U : State} {H H1 : Heap} (h : mSt E A U H) (hq : ∀ a : Nat, a < H.size → ¬ A a → H1[a]? = H[a]?) : mSt E A U H1 := fun k h1 h2 => ⟨(h k h1 h2).1.kept hq, (h k h1 h2).2.kept hq⟩
def mlp (E : mE) : Nat → List (Option mv) → List (Nat × Value)
  | _, [] => []
  | i, none :: l => mlp E (i + 1) l
  | i, some v :: l => (i, mV E v) :: mlp E (i + 1) l
theorem mlp_mem {E : mE} {q : Nat × Value} : ∀ (l : List (Option mv)) (i : Nat), q ∈ mlp E i l ↔ ∃ (k : Nat) (v : mv), q = (i + k, mV E v) ∧ l[k]? = some (some v)
  | [], i => by simp [mlp]
  | none :: l, i => by
    show q ∈ mlp E (i + 1) l ↔ _
    rw [mlp_mem l (i + 1)]
    constructor
    · rintro ⟨k, v, rfl, h⟩
      exact ⟨k + 1, v, by rw [Nat.add_assoc, Nat.add_comm 1 k], by rw [List.getElem?_cons_succ]; exact h⟩
    · rintro ⟨k, v, rfl, h⟩
      cases k with
      | zero => rw [List.getElem?_cons_zero] at h; cases h
      | succ k => rw [List.getElem?_cons_succ] at h; exact ⟨k, v, by rw [Nat.add_assoc, Nat.add_comm 1 k], h⟩
  | some u :: l, i => by
    show q ∈ (i, mV E u) :: mlp E (i + 1) l ↔ _
    rw [List.mem_cons, mlp_mem l (i + 1)]
    constructor
    · rintro (rfl | ⟨k, v, rfl, h⟩)
      · exact ⟨0, u, rfl, rfl⟩
      · exact ⟨k + 1, v, by rw [Nat.add_assoc, Nat.add_comm 1 k], by rw [List.getElem?_cons_succ]; exact h⟩
    · rintro ⟨k, v, rfl, h⟩
      cases k with
      | zero => rw [List.getElem?_cons_zero] at h; cases h; exact Or.inl rfl
      | succ k => rw [List.getElem?_cons_succ] at h; exact Or.inr ⟨k, v, by rw [Nat.add_assoc, Nat.add_comm 1 k], h⟩
theorem mlv_mono {ls : Array Slot} {nL : Nat} {l l2 : List (Nat × Value)} (h : lv_has ls nL l) (h2 : ∀ q ∈ l2, q ∈ l) : lv_has ls nL l2 := ⟨h.1, h.2.1, fun q hq => h.2.2 q (h2 q hq)⟩
theorem mlv_get {E : mE} {A : Array Slot} {nL : Nat} {ls : List (Option mv)} {i : Nat} {v : mv} (h : lv_has A nL (mlp E 0 ls)) (hi : ls[i]? = some (some v)) : A[i]? = some (.val (mV E v)) :=
  h.2.2 (i, mV E v) ((mlp_mem ls 0).mpr ⟨i, v, by rw [Nat.zero_add], hi⟩)
/-- no long value stands just ahead of place i -/
def mnl (ls : List (Option mv)) (i : Nat) : Bool := match i with
  | 0 => true
  | k + 1 => match ls[k]? with
    | some (some (.inr (.inl _))) => false
    | _ => true
theorem mnl_ok {E : mE} {ls : List (Option mv)} {i j : Nat} {u : mv} (h : mnl ls i = true) (hj : ls[j]? = some (some u)) : (j + 1 == i && (mV E u).category == 2) = false := by
  cases i with
  | zero => simp
  | succ k =>
    by_cases hjk : j = k
    · subst hjk
      unfold mnl at h
      simp only [hj] at h
      rcases u with x | x | x
      · simp [mV, Value.category]
      · simp at h
      · simp [mV, Value.category]
    · have : (j + 1 == k + 1) = false := by simp [hjk]
      simp [this]
theorem mst1 {E : mE} {A : Array Slot} {nL : Nat} {ls : List (Option mv)} {i : Nat} {v : mv} (hn : mnl ls i = true)
    (h : lv_has A nL ((i, mV E v) :: (mlp E 0 ls).filter (fun q => !(q.1 == i) && !(q.1 + 1 == i && q.2.category == 2)))) : lv_has A nL (mlp E 0 (ls.set i (some v))) := by
  refine mlv_mono h fun q hq => ?_
  obtain ⟨k, u, rfl, hk⟩ := (mlp_mem _ 0).mp hq
  rw [Nat.zero_add]
  by_cases hki : k = i
  · subst hki
    have hlt : k < ls.length := by
      have := (List.getElem?_eq_some_iff.mp hk).1
      rwa [List.length_set] at this
    rw [List.getElem?_set_self hlt] at hk
    cases hk
    exact List.mem_cons_self
  · rw [List.getElem?_set_ne (Ne.symm hki)] at hk
    refine List.mem_cons_of_mem _ (List.mem_filter.mpr ⟨(mlp_mem ls 0).mpr ⟨k, u, by rw [Nat.zero_add], hk⟩, ?_⟩)
    have h1 := mnl_ok (E := E) hn hk
    show (!(k == i) && !(k + 1 == i && (mV E u).category == 2)) = true
    rw [h1]; simp [hki]
theorem mst2 {E : mE} {A : Array Slot} {nL : Nat} {ls : List (Option mv)} {i : Nat} {v : mv} (hn : mnl ls i = true)
    (h : lv_has A nL ((i, mV E v) :: (mlp E 0 ls).filter (fun q => !(q.1 == i) && (!(q.1 == i + 1) && !(q.1 + 1 == i && q.2.category == 2))))) : lv_has A nL (mlp E 0 ((ls.set i (some v)).set (i + 1) none)) := by
  refine mlv_mono h fun q hq => ?_
  obtain ⟨k, u, rfl, hk⟩ := (mlp_mem _ 0).mp hq
  rw [Nat.zero_add]
  have hk1 : k ≠ i + 1 := by
    intro e
    subst e
    have hlt : i + 1 < (ls.set i (some v)).length := by
      have := (List.getElem?_eq_some_iff.mp hk).1
      rwa [List.length_set] at this
    rw [List.getElem?_set_self hlt] at hk
    cases hk
  rw [List.getElem?_set_ne (Ne.symm hk1)] at hk
  by_cases hki : k = i
  · subst hki
    have hlt : k < ls.length := by
      have := (List.getElem?_eq_some_iff.mp hk).1
      rwa [List.length_set] at this
    rw [List.getElem?_set_self hlt] at hk
    cases hk
    exact List.mem_cons_self
  · rw [List.getElem?_set_ne (Ne.symm hki)] at hk
    refine List.mem_cons_of_mem _ (List.mem_filter.mpr ⟨(mlp_mem ls 0).mpr ⟨k, u, by rw [Nat.zero_add], hk⟩, ?_⟩)
    have h1 := mnl_ok (E := E) hn hk
    show (!(k == i) && (!(k == i + 1) && !(k + 1 == i && (mV E u).category == 2))) = true
    rw [h1]; simp [hki, hk1]
def mNw (U : State) : Prop := va_Nw (.methodLinkNest "AgeFerry$People" 43 m_F_isNumber.1 "AgeFerry") U ∧ va_Nw (.methodLinkNest "AgeFerry$Rules" 27 m_F_isNumber.1 "AgeFerry") U
theorem mNw.warm {s U : State} (hW : s.WarmedH U.vm) (h : mNw s) : mNw U := ⟨va_Nw.warmM hW h.1, va_Nw.warmM hW h.2⟩
theorem mNw.same {s U : State} (hW : s.vm = U.vm) (h : mNw s) : mNw U := ⟨va_Nw.same rfl hW h.1, va_Nw.same rfl hW h.2⟩
def mLSN (own : String) (idx : Nat) (y : mM) (host : String) : Prop := (∀ s : State, mNw s → va_Nw (.methodLinkNest own idx y.1 host) s) ∧ Cond.static y.1 ∈ lw_ws
theorem ln_P_43 : mLSN "AgeFerry$People" 43 m_F_isNumber "AgeFerry" := ⟨fun _ h => h.1, ln_F_92.2⟩
theorem ln_R_27 : mLSN "AgeFerry$Rules" 27 m_F_isNumber "AgeFerry" := ⟨fun _ h => h.2, ln_F_92.2⟩
def mCtx (E : mE) (d : Nat) (y : mM) (p : Program) (R : Room) (s : State) (m : MethodId) (args : Array Value) (c : Code) (A : Nat → Prop) : Prop :=
  p.tables.exec = Jvm.exec ∧ c.code = y.2.1 ∧ c.maxLocals = y.2.2.1 ∧ s.vm.findClass y.1.cls = some m.cls ∧ (∀ w ∈ lw_ws, w.before args s = true) ∧ (d ≤ R.frames ∧ 32 * d ≤ R.locals) ∧ va_K E.2.1 mCl (mTys E) s ∧ (∀ q, s.heap.size ≤ q → A q) ∧ mSt E A s s.heap ∧ (y.1.cls = "AgeFerryLaw" → va_X (E.1 62) E.2.2.2.2 E.2.2.2.1 s s.heap ∧ E.1 62 < s.heap.size ∧ ¬ A (E.1 62)) ∧ mNw s
def mRt (y : mM) (pc : Nat) : Option mv → Prop
  | none => decode y.2.1 pc = .ok (.return_, 1) ∧ y.2.2.2 = none
  | some (.inl x) => decode y.2.1 pc = .ok (.ireturn, 1) ∧ ∃ ty, y.2.2.2 = some ty ∧ narrow ty (.int x) = .int x
  | some (.inr (.inl _)) => decode y.2.1 pc = .ok (.lreturn, 1) ∧ y.2.2.2 = some .long
  | some (.inr (.inr _)) => False
def Wp (E : mE) (d : Nat) (y : mM) (pc : Nat) (ls : List (Option mv)) (st : List mv) (w : mw) (Q : Option mv → mw → Prop) : Prop :=
  ∀ (p : Program) (l : Launch) (e : Env) (R : Room) (s : State) (m : MethodId) (args : Array Value) (below : List Frame) (meth : Method) (c : Code) (A : Nat → Prop) (Z : State → Prop) (cells slots : Nat) (H : Heap) (locs : List Loc) (lsA : Array Slot),
    mCtx E d y p R s m args c A → (cells ≤ R.cells ∧ slots ≤ R.slots) →
    (∀ (v : Option mv) (w1 : mw) (H1 : Heap) (locs1 : List Loc) (pc1 : Nat) (ls1 : Array Slot), Q v w1 → mRt y pc1 v → va_P E.2.1 mCl (mW E w1) H1 → va_D A (mW E w1) → va_S A s.heap H1 locs1 → W p l e R s m args below meth c H1 locs1 cells slots Z (F0 m pc1 ls1 (v.toList.map (mV E)))) →
    va_P E.2.1 mCl (mW E w) H → va_D A (mW E w) → va_S A s.heap H locs → lv_has lsA y.2.2.1 (mlp E 0 ls) →
    W p l e R s m args below meth c H locs cells slots Z (F0 m pc lsA (st.map (mV E)))
theorem Wp_mono {E : mE} {d : Nat} {y : mM} {pc : Nat} {ls : List (Option mv)} {st : List mv} {w : mw} {Q Q2 : Option mv → mw → Prop} (h : ∀ v w1, Q v w1 → Q2 v w1) (k : Wp E d y pc ls st w Q) : Wp E d y pc ls st w Q2 := by
  intro p l e R s m args below meth c A Z cells slots H locs lsA C hc hr hP hD hS hl
  exact k p l e R s m args below meth c A Z cells slots H locs lsA C hc (fun v w1 H1 locs1 pc1 ls1 hq => hr v w1 H1 locs1 pc1 ls1 (h v w1 hq)) hP hD hS hl
/-- forget what some places hold -/
theorem Wp_loc {E : mE} {d : Nat} {y : mM} {pc : Nat} {ls ls2 : List (Option mv)} {st : List mv} {w : mw} {Q : Option mv → mw → Prop} (h : ∀ (k : Nat) (v : mv), ls2[k]? = some (some v) → ls[k]? = some (some v)) (k : Wp E d y pc ls2 st w Q) : Wp E d y pc ls st w Q := by
  intro p l e R s m args below meth c A Z cells slots H locs lsA C hc hr hP hD hS hl
  refine k p l e R s m args below meth c A Z cells slots H locs lsA C hc hr hP hD hS (mlv_mono hl fun q hq => ?_)
  obtain ⟨j, v, rfl, hj⟩ := (mlp_mem _ 0).mp hq
  exact (mlp_mem _ 0).mpr ⟨j, v, rfl, h j v hj⟩
theorem Wp_iconst {E : mE} {d : Nat} {y : mM} {pc pc2 : Nat} {ls : List (Option mv)} {st : List mv} {w : mw} {Q : Option mv → mw → Prop} {n : Int} {x : Int32} (hd : mD y pc (.iconst n) 1 pc2) (hv : Int32.ofInt n = x) (k : Wp E d y pc2 ls (vi x :: st) w Q) : Wp E d y pc ls st w Q := by
  intro p l e R s m args below meth c A Z cells slots H locs lsA C hc hr hP hD hS hl
  obtain ⟨hdg, rfl⟩ := hd
  exact lv_iconst C.1 C.2.1 hdg hv (k p l e R s m args below meth c A Z cells slots H locs lsA C hc hr hP hD hS hl)
theorem Wp_bipush {E : mE} {d : Nat} {y : mM} {pc pc2 : Nat} {ls : List (Option mv)} {st : List mv} {w : mw} {Q : Option mv → mw → Prop} {n : Int} {x : Int32} (hd : mD y pc (.bipush n) 2 pc2) (hv : (Int8.ofInt n).toInt32 = x) (k : Wp E d y pc2 ls (vi x :: st) w Q) : Wp E d y pc ls st w Q := by
  intro p l e R s m args below meth c A Z cells slots H locs lsA C hc hr hP hD hS hl
  obtain ⟨hdg, rfl⟩ := hd
  exact lv_bipush C.1 C.2.1 hdg hv (k p l e R s m args below meth c A Z cells slots H locs lsA C hc hr hP hD hS hl)
theorem Wp_sipush {E : mE} {d : Nat} {y : mM} {pc pc2 : Nat} {ls : List (Option mv)} {st : List mv} {w : mw} {Q : Option mv → mw → Prop} {n : Int} {x : Int32} (hd : mD y pc (.sipush n) 3 pc2) (hv : (Int16.ofInt n).toInt32 = x) (k : Wp E d y pc2 ls (vi x :: st) w Q) : Wp E d y pc ls st w Q := by
  intro p l e R s m args below meth c A Z cells slots H locs lsA C hc hr hP hD hS hl
  obtain ⟨hdg, rfl⟩ := hd
  exact lv_sipush C.1 C.2.1 hdg hv (k p l e R s m args below meth c A Z cells slots H locs lsA C hc hr hP hD hS hl)
theorem Wp_lconst {E : mE} {d : Nat} {y : mM} {pc pc2 : Nat} {ls : List (Option mv)} {st : List mv} {w : mw} {Q : Option mv → mw → Prop} {n : Fin 2} {x : Int64} (hd : mD y pc (.lconst n) 1 pc2) (hv : Int64.ofNat (n : Nat) = x) (k : Wp E d y pc2 ls (vl x :: st) w Q) : Wp E d y pc ls st w Q := by
  intro p l e R s m args below meth c A Z cells slots H locs lsA C hc hr hP hD hS hl
  obtain ⟨hdg, rfl⟩ := hd
  exact lv_lconst C.1 C.2.1 hdg hv (k p l e R s m args below meth c A Z cells slots H locs lsA C hc hr hP hD hS hl)
theorem Wp_ldc {E : mE} {d : Nat} {y : mM} {pc pc2 : Nat} {ls : List (Option mv)} {st : List mv} {w : mw} {Q : Option mv → mw → Prop} {n : Nat} {x : Int32} (hd : mD y pc (.ldc n) 2 pc2) (hk : Cond.constant y.1.cls n x ∈ lw_ws) (k : Wp E d y pc2 ls (vi x :: st) w Q) : Wp E d y pc ls st w Q := by
  intro p l e R s m args below meth c A Z cells slots H locs lsA C hc hr hP hD hS hl
  obtain ⟨hdg, rfl⟩ := hd
  exact lv_ldc C.1 C.2.1 C.2.2.2.1 (C.2.2.2.2.1 _ hk) hdg (k p l e R s m args below meth c A Z cells slots H locs lsA C hc hr hP hD hS hl)
theorem Wp_ldcw {E : mE} {d : Nat} {y : mM} {pc pc2 : Nat} {ls : List (Option mv)} {st : List mv} {w : mw} {Q : Option mv → mw → Prop} {n : Nat} {x : Int32} (hd : mD y pc (.ldc_w n) 3 pc2) (hk : Cond.constant y.1.cls n x ∈ lw_ws) (k : Wp E d y pc2 ls (vi x :: st) w Q) : Wp E d y pc ls st w Q := by
  intro p l e R s m args below meth c A Z cells slots H locs lsA C hc hr hP hD hS hl
  obtain ⟨hdg, rfl⟩ := hd
  exact lv_ldcw C.1 C.2.1 C.2.2.2.1 (C.2.2.2.2.1 _ hk) hdg (k p l e R s m args below meth c A Z cells slots H locs lsA C hc hr hP hD hS hl)
theorem Wp_ldc2 {E : mE} {d : Nat} {y : mM} {pc pc2 : Nat} {ls : List (Option mv)} {st : List mv} {w : mw} {Q : Option mv → mw → Prop} {n : Nat} {x : Int64} (hd : mD y pc (.ldc2_w n) 3 pc2) (hk : Cond.constantLong y.1.cls n x ∈ lw_ws) (k : Wp E d y pc2 ls (vl x :: st) w Q) : Wp E d y pc ls st w Q := by
  intro p l e R s m args below meth c A Z cells slots H locs lsA C hc hr hP hD hS hl
  obtain ⟨hdg, rfl⟩ := hd
  exact lv_ldc2 C.1 C.2.1 C.2.2.2.1 (C.2.2.2.2.1 _ hk) hdg (k p l e R s m args below meth c A Z cells slots H locs lsA C hc hr hP hD hS hl)
theorem Wp_iload_n {E : mE} {d : Nat} {y : mM} {pc pc2 : Nat} {ls : List (Option mv)} {st : List mv} {w : mw} {Q : Option mv → mw → Prop} {i : Fin 4} {x : Int32} (hd : mD y pc (.iload_n i) 1 pc2) (hx : ls[(i : Nat)]? = some (some (vi x))) (k : Wp E d y pc2 ls (vi x :: st) w Q) : Wp E d y pc ls st w Q := by
  intro p l e R s m args below meth c A Z cells slots H locs lsA C hc hr hP hD hS hl
  obtain ⟨hdg, rfl⟩ := hd
  exact lv_iload_n C.1 C.2.1 hdg rfl (mlv_get hl hx) (k p l e R s m args below meth c A Z cells slots H locs lsA C hc hr hP hD hS hl)
theorem Wp_iload {E : mE} {d : Nat} {y : mM} {pc pc2 : Nat} {ls : List (Option mv)} {st : List mv} {w : mw} {Q : Option mv → mw → Prop} {i : Nat} {x : Int32} (hd : mD y pc (.iload i) 2 pc2) (hx : ls[i]? = some (some (vi x))) (k : Wp E d y pc2 ls (vi x :: st) w Q) : Wp E d y pc ls st w Q := by
  intro p l e R s m args below meth c A Z cells slots H locs lsA C hc hr hP hD hS hl
  obtain ⟨hdg, rfl⟩ := hd
  exact lv_iload C.1 C.2.1 hdg (mlv_get hl hx) (k p l e R s m args below meth c A Z cells slots H locs lsA C hc hr hP hD hS hl)
theorem Wp_lload_n {E : mE} {d : Nat} {y : mM} {pc pc2 : Nat} {ls : List (Option mv)} {st : List mv} {w : mw} {Q : Option mv → mw → Prop} {i : Fin 4} {x : Int64} (hd : mD y pc (.lload_n i) 1 pc2) (hx : ls[(i : Nat)]? = some (some (vl x))) (k : Wp E d y pc2 ls (vl x :: st) w Q) : Wp E d y pc ls st w Q := by
  intro p l e R s m args below meth c A Z cells slots H locs lsA C hc hr hP hD hS hl
  obtain ⟨hdg, rfl⟩ := hd
  exact lv_lload_n C.1 C.2.1 hdg rfl (mlv_get hl hx) (k p l e R s m args below meth c A Z cells slots H locs lsA C hc hr hP hD hS hl)
theorem Wp_lload {E : mE} {d : Nat} {y : mM} {pc pc2 : Nat} {ls : List (Option mv)} {st : List mv} {w : mw} {Q : Option mv → mw → Prop} {i : Nat} {x : Int64} (hd : mD y pc (.lload i) 2 pc2) (hx : ls[i]? = some (some (vl x))) (k : Wp E d y pc2 ls (vl x :: st) w Q) : Wp E d y pc ls st w Q := by
  intro p l e R s m args below meth c A Z cells slots H locs lsA C hc hr hP hD hS hl
  obtain ⟨hdg, rfl⟩ := hd
  exact lv_lload C.1 C.2.1 hdg (mlv_get hl hx) (k p l e R s m args below meth c A Z cells slots H locs lsA C hc hr hP hD hS hl)
theorem Wp_aload_n {E : mE} {d : Nat} {y : mM} {pc pc2 : Nat} {ls : List (Option mv)} {st : List mv} {w : mw} {Q : Option mv → mw → Prop} {i : Fin 4} {x : Nat} (hd : mD y pc (.aload_n i) 1 pc2) (hx : ls[(i : Nat)]? = some (some (vr x))) (k : Wp E d y pc2 ls (vr x :: st) w Q) : Wp E d y pc ls st w Q := by
  intro p l e R s m args below meth c A Z cells slots H locs lsA C hc hr hP hD hS hl
  obtain ⟨hdg, rfl⟩ := hd
  exact lv_aload_n C.1 C.2.1 hdg rfl (mlv_get hl hx) (k p l e R s m args below meth c A Z cells slots H locs lsA C hc hr hP hD hS hl)
theorem Wp_aload {E : mE} {d : Nat} {y : mM} {pc pc2 : Nat} {ls : List (Option mv)} {st : List mv} {w : mw} {Q : Option mv → mw → Prop} {i : Nat} {x : Nat} (hd : mD y pc (.aload i) 2 pc2) (hx : ls[i]? = some (some (vr x))) (k : Wp E d y pc2 ls (vr x :: st) w Q) : Wp E d y pc ls st w Q := by
  intro p l e R s m args below meth c A Z cells slots H locs lsA C hc hr hP hD hS hl
  obtain ⟨hdg, rfl⟩ := hd
  exact lv_aload C.1 C.2.1 hdg (mlv_get hl hx) (k p l e R s m args below meth c A Z cells slots H locs lsA C hc hr hP hD hS hl)
theorem Wp_istore_n {E : mE} {d : Nat} {y : mM} {pc pc2 : Nat} {ls : List (Option mv)} {st : List mv} {w : mw} {Q : Option mv → mw → Prop} {i : Fin 4} {x : Int32} {ls2 : List (Option mv)} (hd : mD y pc (.istore_n i) 1 pc2) (hn : Nat.ble ((i : Nat) + 1) y.2.2.1 = true) (hm : mnl ls (i : Nat) = true) (hs : ls.set (i : Nat) (some (vi x)) = ls2) (k : Wp E d y pc2 ls2 st w Q) : Wp E d y pc ls (vi x :: st) w Q := by
  intro p l e R s m args below meth c A Z cells slots H locs lsA C hc hr hP hD hS hl
  obtain ⟨hdg, rfl⟩ := hd
  subst hs
  exact lv_istore_n C.1 C.2.1 hdg rfl hl (Nat.le_of_ble_eq_true hn) rfl (fun lsB hB => k p l e R s m args below meth c A Z cells slots H locs lsB C hc hr hP hD hS (mst1 hm hB))
theorem Wp_istore {E : mE} {d : Nat} {y : mM} {pc pc2 : Nat} {ls : List (Option mv)} {st : List mv} {w : mw} {Q : Option mv → mw → Prop} {i : Nat} {x : Int32} {ls2 : List (Option mv)} (hd : mD y pc (.istore i) 2 pc2) (hn : Nat.ble (i + 1) y.2.2.1 = true) (hm : mnl ls i = true) (hs : ls.set i (some (vi x)) = ls2) (k : Wp E d y pc2 ls2 st w Q) : Wp E d y pc ls (vi x :: st) w Q := by
  intro p l e R s m args below meth c A Z cells slots H locs lsA C hc hr hP hD hS hl
  obtain ⟨hdg, rfl⟩ := hd
  subst hs
  exact lv_istore C.1 C.2.1 hdg hl (Nat.le_of_ble_eq_true hn) rfl (fun lsB hB => k p l e R s m args below meth c A Z cells slots H locs lsB C hc hr hP hD hS (mst1 hm hB))
theorem Wp_lstore_n {E : mE} {d : Nat} {y : mM} {pc pc2 : Nat} {ls : List (Option mv)} {st : List mv} {w : mw} {Q : Option mv → mw → Prop} {i : Fin 4} {x : Int64} {ls2 : List (Option mv)} (hd : mD y pc (.lstore_n i) 1 pc2) (hn : Nat.ble ((i : Nat) + 1 + 1) y.2.2.1 = true) (hm : mnl ls (i : Nat) = true) (hs : (ls.set (i : Nat) (some (vl x))).set ((i : Nat) + 1) none = ls2) (k : Wp E d y pc2 ls2 st w Q) : Wp E d y pc ls (vl x :: st) w Q := by
  intro p l e R s m args below meth c A Z cells slots H locs lsA C hc hr hP hD hS hl
  obtain ⟨hdg, rfl⟩ := hd
  subst hs
  exact lv_lstore_n C.1 C.2.1 hdg rfl hl (Nat.le_of_ble_eq_true hn) rfl (fun lsB hB => k p l e R s m args below meth c A Z cells slots H locs lsB C hc hr hP hD hS (mst2 hm hB))
theorem Wp_lstore {E : mE} {d : Nat} {y : mM} {pc pc2 : Nat} {ls : List (Option mv)} {st : List mv} {w : mw} {Q : Option mv → mw → Prop} {i : Nat} {x : Int64} {ls2 : List (Option mv)} (hd : mD y pc (.lstore i) 2 pc2) (hn : Nat.ble (i + 1 + 1) y.2.2.1 = true) (hm : mnl ls i = true) (hs : (ls.set i (some (vl x))).set (i + 1) none = ls2) (k : Wp E d y pc2 ls2 st w Q) : Wp E d y pc ls (vl x :: st) w Q := by
  intro p l e R s m args below meth c A Z cells slots H locs lsA C hc hr hP hD hS hl
  obtain ⟨hdg, rfl⟩ := hd
  subst hs
  exact lv_lstore C.1 C.2.1 hdg hl (Nat.le_of_ble_eq_true hn) rfl (fun lsB hB => k p l e R s m args below meth c A Z cells slots H locs lsB C hc hr hP hD hS (mst2 hm hB))
theorem Wp_astore_n {E : mE} {d : Nat} {y : mM} {pc pc2 : Nat} {ls : List (Option mv)} {st : List mv} {w : mw} {Q : Option mv → mw → Prop} {i : Fin 4} {x : Nat} {ls2 : List (Option mv)} (hd : mD y pc (.astore_n i) 1 pc2) (hn : Nat.ble ((i : Nat) + 1) y.2.2.1 = true) (hm : mnl ls (i : Nat) = true) (hs : ls.set (i : Nat) (some (vr x)) = ls2) (k : Wp E d y pc2 ls2 st w Q) : Wp E d y pc ls (vr x :: st) w Q := by
  intro p l e R s m args below meth c A Z cells slots H locs lsA C hc hr hP hD hS hl
  obtain ⟨hdg, rfl⟩ := hd
  subst hs
  exact lv_astore_n C.1 C.2.1 hdg rfl hl (Nat.le_of_ble_eq_true hn) rfl (fun lsB hB => k p l e R s m args below meth c A Z cells slots H locs lsB C hc hr hP hD hS (mst1 hm hB))
theorem Wp_astore {E : mE} {d : Nat} {y : mM} {pc pc2 : Nat} {ls : List (Option mv)} {st : List mv} {w : mw} {Q : Option mv → mw → Prop} {i : Nat} {x : Nat} {ls2 : List (Option mv)} (hd : mD y pc (.astore i) 2 pc2) (hn : Nat.ble (i + 1) y.2.2.1 = true) (hm : mnl ls i = true) (hs : ls.set i (some (vr x)) = ls2) (k : Wp E d y pc2 ls2 st w Q) : Wp E d y pc ls (vr x :: st) w Q := by
  intro p l e R s m args below meth c A Z cells slots H locs lsA C hc hr hP hD hS hl
  obtain ⟨hdg, rfl⟩ := hd
  subst hs
  exact lv_astore C.1 C.2.1 hdg hl (Nat.le_of_ble_eq_true hn) rfl (fun lsB hB => k p l e R s m args below meth c A Z cells slots H locs lsB C hc hr hP hD hS (mst1 hm hB))
theorem Wp_iinc {E : mE} {d : Nat} {y : mM} {pc pc2 : Nat} {ls : List (Option mv)} {st : List mv} {w : mw} {Q : Option mv → mw → Prop} {i : Nat} {n : Int} {x z : Int32} {ls2 : List (Option mv)} (hd : mD y pc (.iinc i n) 3 pc2) (hx : ls[i]? = some (some (vi x))) (hz : x + Int32.ofInt n = z) (hn : Nat.ble (i + 1) y.2.2.1 = true) (hm : mnl ls i = true) (hs : ls.set i (some (vi z)) = ls2) (k : Wp E d y pc2 ls2 st w Q) : Wp E d y pc ls st w Q := by
  intro p l e R s m args below meth c A Z cells slots H locs lsA C hc hr hP hD hS hl
  obtain ⟨hdg, rfl⟩ := hd
  subst hs
  obtain ⟨j, hj⟩ := List.getElem?_of_mem ((mlp_mem (E := E) ls 0).mpr ⟨i, vi x, by rw [Nat.zero_add], hx⟩)
  exact lv_iinc C.1 C.2.1 hdg hl hj hz (Nat.le_of_ble_eq_true hn) rfl (fun lsB hB => k p l e R s m args below meth c A Z cells slots H locs lsB C hc hr hP hD hS (mst1 hm hB))
theorem Wp_iadd {E : mE} {d : Nat} {y : mM} {pc pc2 : Nat} {ls : List (Option mv)} {st : List mv} {w : mw} {Q : Option mv → mw → Prop} {x z : Int32} (hd : mD y pc (.iadd) 1 pc2)  (k : Wp E d y pc2 ls (vi (x + z) :: st) w Q) : Wp E d y pc ls (vi z :: vi x :: st) w Q := by
  intro p l e R s m args below meth c A Z cells slots H locs lsA C hc hr hP hD hS hl
  obtain ⟨hdg, rfl⟩ := hd
  exact lv_iadd C.1 C.2.1 hdg (k p l e R s m args below meth c A Z cells slots H locs lsA C hc hr hP hD hS hl)
theorem Wp_isub {E : mE} {d : Nat} {y : mM} {pc pc2 : Nat} {ls : List (Option mv)} {st : List mv} {w : mw} {Q : Option mv → mw → Prop} {x z : Int32} (hd : mD y pc (.isub) 1 pc2)  (k : Wp E d y pc2 ls (vi (x - z) :: st) w Q) : Wp E d y pc ls (vi z :: vi x :: st) w Q := by
  intro p l e R s m args below meth c A Z cells slots H locs lsA C hc hr hP hD hS hl
  obtain ⟨hdg, rfl⟩ := hd
  exact lv_isub C.1 C.2.1 hdg (k p l e R s m args below meth c A Z cells slots H locs lsA C hc hr hP hD hS hl)
theorem Wp_imul {E : mE} {d : Nat} {y : mM} {pc pc2 : Nat} {ls : List (Option mv)} {st : List mv} {w : mw} {Q : Option mv → mw → Prop} {x z : Int32} (hd : mD y pc (.imul) 1 pc2)  (k : Wp E d y pc2 ls (vi (x * z) :: st) w Q) : Wp E d y pc ls (vi z :: vi x :: st) w Q := by
  intro p l e R s m args below meth c A Z cells slots H locs lsA C hc hr hP hD hS hl
  obtain ⟨hdg, rfl⟩ := hd
  exact lv_imul C.1 C.2.1 hdg (k p l e R s m args below meth c A Z cells slots H locs lsA C hc hr hP hD hS hl)
theorem Wp_iand {E : mE} {d : Nat} {y : mM} {pc pc2 : Nat} {ls : List (Option mv)} {st : List mv} {w : mw} {Q : Option mv → mw → Prop} {x z : Int32} (hd : mD y pc (.iand) 1 pc2)  (k : Wp E d y pc2 ls (vi (x &&& z) :: st) w Q) : Wp E d y pc ls (vi z :: vi x :: st) w Q := by
  intro p l e R s m args below meth c A Z cells slots H locs lsA C hc hr hP hD hS hl
  obtain ⟨hdg, rfl⟩ := hd
  exact lv_iand C.1 C.2.1 hdg (k p l e R s m args below meth c A Z cells slots H locs lsA C hc hr hP hD hS hl)
theorem Wp_ior {E : mE} {d : Nat} {y : mM} {pc pc2 : Nat} {ls : List (Option mv)} {st : List mv} {w : mw} {Q : Option mv → mw → Prop} {x z : Int32} (hd : mD y pc (.ior) 1 pc2)  (k : Wp E d y pc2 ls (vi (x ||| z) :: st) w Q) : Wp E d y pc ls (vi z :: vi x :: st) w Q := by
  intro p l e R s m args below meth c A Z cells slots H locs lsA C hc hr hP hD hS hl
  obtain ⟨hdg, rfl⟩ := hd
  exact lv_ior C.1 C.2.1 hdg (k p l e R s m args below meth c A Z cells slots H locs lsA C hc hr hP hD hS hl)
theorem Wp_ixor {E : mE} {d : Nat} {y : mM} {pc pc2 : Nat} {ls : List (Option mv)} {st : List mv} {w : mw} {Q : Option mv → mw → Prop} {x z : Int32} (hd : mD y pc (.ixor) 1 pc2)  (k : Wp E d y pc2 ls (vi (x ^^^ z) :: st) w Q) : Wp E d y pc ls (vi z :: vi x :: st) w Q := by
  intro p l e R s m args below meth c A Z cells slots H locs lsA C hc hr hP hD hS hl
  obtain ⟨hdg, rfl⟩ := hd
  exact lv_ixor C.1 C.2.1 hdg (k p l e R s m args below meth c A Z cells slots H locs lsA C hc hr hP hD hS hl)
theorem Wp_ishl {E : mE} {d : Nat} {y : mM} {pc pc2 : Nat} {ls : List (Option mv)} {st : List mv} {w : mw} {Q : Option mv → mw → Prop} {x z : Int32} (hd : mD y pc (.ishl) 1 pc2)  (k : Wp E d y pc2 ls (vi (x <<< (z &&& 31)) :: st) w Q) : Wp E d y pc ls (vi z :: vi x :: st) w Q := by
  intro p l e R s m args below meth c A Z cells slots H locs lsA C hc hr hP hD hS hl
  obtain ⟨hdg, rfl⟩ := hd
  exact lv_ishl C.1 C.2.1 hdg (k p l e R s m args below meth c A Z cells slots H locs lsA C hc hr hP hD hS hl)
theorem Wp_ishr {E : mE} {d : Nat} {y : mM} {pc pc2 : Nat} {ls : List (Option mv)} {st : List mv} {w : mw} {Q : Option mv → mw → Prop} {x z : Int32} (hd : mD y pc (.ishr) 1 pc2)  (k : Wp E d y pc2 ls (vi (x >>> (z &&& 31)) :: st) w Q) : Wp E d y pc ls (vi z :: vi x :: st) w Q := by
  intro p l e R s m args below meth c A Z cells slots H locs lsA C hc hr hP hD hS hl
  obtain ⟨hdg, rfl⟩ := hd
  exact lv_ishr C.1 C.2.1 hdg (k p l e R s m args below meth c A Z cells slots H locs lsA C hc hr hP hD hS hl)
theorem Wp_idiv {E : mE} {d : Nat} {y : mM} {pc pc2 : Nat} {ls : List (Option mv)} {st : List mv} {w : mw} {Q : Option mv → mw → Prop} {x z : Int32} (hd : mD y pc (.idiv) 1 pc2) (hz : ¬ z = 0) (k : Wp E d y pc2 ls (vi (x / z) :: st) w Q) : Wp E d y pc ls (vi z :: vi x :: st) w Q := by
  intro p l e R s m args below meth c A Z cells slots H locs lsA C hc hr hP hD hS hl
  obtain ⟨hdg, rfl⟩ := hd
  exact lv_idiv C.1 C.2.1 hdg hz (k p l e R s m args below meth c A Z cells slots H locs lsA C hc hr hP hD hS hl)
theorem Wp_irem {E : mE} {d : Nat} {y : mM} {pc pc2 : Nat} {ls : List (Option mv)} {st : List mv} {w : mw} {Q : Option mv → mw → Prop} {x z : Int32} (hd : mD y pc (.irem) 1 pc2) (hz : ¬ z = 0) (k : Wp E d y pc2 ls (vi (x - x / z * z) :: st) w Q) : Wp E d y pc ls (vi z :: vi x :: st) w Q := by
  intro p l e R s m args below meth c A Z cells slots H locs lsA C hc hr hP hD hS hl
  obtain ⟨hdg, rfl⟩ := hd
  exact lv_irem C.1 C.2.1 hdg hz (k p l e R s m args below meth c A Z cells slots H locs lsA C hc hr hP hD hS hl)
theorem Wp_ladd {E : mE} {d : Nat} {y : mM} {pc pc2 : Nat} {ls : List (Option mv)} {st : List mv} {w : mw} {Q : Option mv → mw → Prop} {x z : Int64} (hd : mD y pc (.ladd) 1 pc2)  (k : Wp E d y pc2 ls (vl (x + z) :: st) w Q) : Wp E d y pc ls (vl z :: vl x :: st) w Q := by
  intro p l e R s m args below meth c A Z cells slots H locs lsA C hc hr hP hD hS hl
  obtain ⟨hdg, rfl⟩ := hd
  exact lv_ladd C.1 C.2.1 hdg (k p l e R s m args below meth c A Z cells slots H locs lsA C hc hr hP hD hS hl)
theorem Wp_lsub {E : mE} {d : Nat} {y : mM} {pc pc2 : Nat} {ls : List (Option mv)} {st : List mv} {w : mw} {Q : Option mv → mw → Prop} {x z : Int64} (hd : mD y pc (.lsub) 1 pc2)  (k : Wp E d y pc2 ls (vl (x - z) :: st) w Q) : Wp E d y pc ls (vl z :: vl x :: st) w Q := by
  intro p l e R s m args below meth c A Z cells slots H locs lsA C hc hr hP hD hS hl
  obtain ⟨hdg, rfl⟩ := hd
  exact lv_lsub C.1 C.2.1 hdg (k p l e R s m args below meth c A Z cells slots H locs lsA C hc hr hP hD hS hl)
theorem Wp_lmul {E : mE} {d : Nat} {y : mM} {pc pc2 : Nat} {ls : List (Option mv)} {st : List mv} {w : mw} {Q : Option mv → mw → Prop} {x z : Int64} (hd : mD y pc (.lmul) 1 pc2)  (k : Wp E d y pc2 ls (vl (x * z) :: st) w Q) : Wp E d y pc ls (vl z :: vl x :: st) w Q := by
  intro p l e R s m args below meth c A Z cells slots H locs lsA C hc hr hP hD hS hl
  obtain ⟨hdg, rfl⟩ := hd
  exact lv_lmul C.1 C.2.1 hdg (k p l e R s m args below meth c A Z cells slots H locs lsA C hc hr hP hD hS hl)
theorem Wp_ldiv {E : mE} {d : Nat} {y : mM} {pc pc2 : Nat} {ls : List (Option mv)} {st : List mv} {w : mw} {Q : Option mv → mw → Prop} {x z : Int64} (hd : mD y pc (.ldiv) 1 pc2) (hz : ¬ z = 0) (k : Wp E d y pc2 ls (vl (x / z) :: st) w Q) : Wp E d y pc ls (vl z :: vl x :: st) w Q := by
  intro p l e R s m args below meth c A Z cells slots H locs lsA C hc hr hP hD hS hl
  obtain ⟨hdg, rfl⟩ := hd
  exact lv_ldiv C.1 C.2.1 hdg hz (k p l e R s m args below meth c A Z cells slots H locs lsA C hc hr hP hD hS hl)
theorem Wp_lrem {E : mE} {d : Nat} {y : mM} {pc pc2 : Nat} {ls : List (Option mv)} {st : List mv} {w : mw} {Q : Option mv → mw → Prop} {x z : Int64} (hd : mD y pc (.lrem) 1 pc2) (hz : ¬ z = 0) (k : Wp E d y pc2 ls (vl (x - x / z * z) :: st) w Q) : Wp E d y pc ls (vl z :: vl x :: st) w Q := by
  intro p l e R s m args below meth c A Z cells slots H locs lsA C hc hr hP hD hS hl
  obtain ⟨hdg, rfl⟩ := hd
  exact lv_lrem C.1 C.2.1 hdg hz (k p l e R s m args below meth c A Z cells slots H locs lsA C hc hr hP hD hS hl)
theorem Wp_ineg {E : mE} {d : Nat} {y : mM} {pc pc2 : Nat} {ls : List (Option mv)} {st : List mv} {w : mw} {Q : Option mv → mw → Prop} {x : Int32} (hd : mD y pc (.ineg) 1 pc2)  (k : Wp E d y pc2 ls (vi (-x) :: st) w Q) : Wp E d y pc ls (vi x :: st) w Q := by
  intro p l e R s m args below meth c A Z cells slots H locs lsA C hc hr hP hD hS hl
  obtain ⟨hdg, rfl⟩ := hd
  exact lv_ineg C.1 C.2.1 hdg (k p l e R s m args below meth c A Z cells slots H locs lsA C hc hr hP hD hS hl)
theorem Wp_lneg {E : mE} {d : Nat} {y : mM} {pc pc2 : Nat} {ls : List (Option mv)} {st : List mv} {w : mw} {Q : Option mv → mw → Prop} {x : Int64} (hd : mD y pc (.lneg) 1 pc2)  (k : Wp E d y pc2 ls (vl (-x) :: st) w Q) : Wp E d y pc ls (vl x :: st) w Q := by
  intro p l e R s m args below meth c A Z cells slots H locs lsA C hc hr hP hD hS hl
  obtain ⟨hdg, rfl⟩ := hd
  exact lv_lneg C.1 C.2.1 hdg (k p l e R s m args below meth c A Z cells slots H locs lsA C hc hr hP hD hS hl)
theorem Wp_i2l {E : mE} {d : Nat} {y : mM} {pc pc2 : Nat} {ls : List (Option mv)} {st : List mv} {w : mw} {Q : Option mv → mw → Prop} {x : Int32} (hd : mD y pc (.i2l) 1 pc2)  (k : Wp E d y pc2 ls (vl x.toInt64 :: st) w Q) : Wp E d y pc ls (vi x :: st) w Q := by
  intro p l e R s m args below meth c A Z cells slots H locs lsA C hc hr hP hD hS hl
  obtain ⟨hdg, rfl⟩ := hd
  exact lv_i2l C.1 C.2.1 hdg rfl (k p l e R s m args below meth c A Z cells slots H locs lsA C hc hr hP hD hS hl)
theorem Wp_i2b {E : mE} {d : Nat} {y : mM} {pc pc2 : Nat} {ls : List (Option mv)} {st : List mv} {w : mw} {Q : Option mv → mw → Prop} {x : Int32} (hd : mD y pc (.i2b) 1 pc2)  (k : Wp E d y pc2 ls (vi x.toInt8.toInt32 :: st) w Q) : Wp E d y pc ls (vi x :: st) w Q := by
  intro p l e R s m args below meth c A Z cells slots H locs lsA C hc hr hP hD hS hl
  obtain ⟨hdg, rfl⟩ := hd
  exact lv_i2b C.1 C.2.1 hdg rfl (k p l e R s m args below meth c A Z cells slots H locs lsA C hc hr hP hD hS hl)
theorem Wp_i2s {E : mE} {d : Nat} {y : mM} {pc pc2 : Nat} {ls : List (Option mv)} {st : List mv} {w : mw} {Q : Option mv → mw → Prop} {x : Int32} (hd : mD y pc (.i2s) 1 pc2)  (k : Wp E d y pc2 ls (vi x.toInt16.toInt32 :: st) w Q) : Wp E d y pc ls (vi x :: st) w Q := by
  intro p l e R s m args below meth c A Z cells slots H locs lsA C hc hr hP hD hS hl
  obtain ⟨hdg, rfl⟩ := hd
  exact lv_i2s C.1 C.2.1 hdg rfl (k p l e R s m args below meth c A Z cells slots H locs lsA C hc hr hP hD hS hl)
theorem Wp_iushr {E : mE} {d : Nat} {y : mM} {pc pc2 : Nat} {ls : List (Option mv)} {st : List mv} {w : mw} {Q : Option mv → mw → Prop} {x z : Int32} (hd : mD y pc (.iushr) 1 pc2)  (k : Wp E d y pc2 ls (vi (x.toUInt32 >>> (z.toUInt32 &&& Int32.toUInt32 31)).toInt32 :: st) w Q) : Wp E d y pc ls (vi z :: vi x :: st) w Q := by
  intro p l e R s m args below meth c A Z cells slots H locs lsA C hc hr hP hD hS hl
  obtain ⟨hdg, rfl⟩ := hd
  exact lv_iushr C.1 C.2.1 hdg rfl (k p l e R s m args below meth c A Z cells slots H locs lsA C hc hr hP hD hS hl)
theorem Wp_lcmp {E : mE} {d : Nat} {y : mM} {pc pc2 : Nat} {ls : List (Option mv)} {st : List mv} {w : mw} {Q : Option mv → mw → Prop} {x z : Int64} (hd : mD y pc (.lcmp) 1 pc2)  (k : Wp E d y pc2 ls (vi (lg_cmp x z) :: st) w Q) : Wp E d y pc ls (vl z :: vl x :: st) w Q := by
  intro p l e R s m args below meth c A Z cells slots H locs lsA C hc hr hP hD hS hl
  obtain ⟨hdg, rfl⟩ := hd
  exact W.lcmp C.1 C.2.1 hdg (k p l e R s m args below meth c A Z cells slots H locs lsA C hc hr hP hD hS hl)
theorem Wp_dup {E : mE} {d : Nat} {y : mM} {pc pc2 : Nat} {ls : List (Option mv)} {st : List mv} {w : mw} {Q : Option mv → mw → Prop} {u : mv} (hd : mD y pc (.dup) 1 pc2) (hu : mcat u = 1) (k : Wp E d y pc2 ls (u :: u :: st) w Q) : Wp E d y pc ls (u :: st) w Q := by
  intro p l e R s m args below meth c A Z cells slots H locs lsA C hc hr hP hD hS hl
  obtain ⟨hdg, rfl⟩ := hd
  exact lv_dup C.1 C.2.1 hdg ((mV_cat E u).trans hu) (k p l e R s m args below meth c A Z cells slots H locs lsA C hc hr hP hD hS hl)
theorem Wp_pop {E : mE} {d : Nat} {y : mM} {pc pc2 : Nat} {ls : List (Option mv)} {st : List mv} {w : mw} {Q : Option mv → mw → Prop} {u : mv} (hd : mD y pc (.pop) 1 pc2) (hu : mcat u = 1) (k : Wp E d y pc2 ls st w Q) : Wp E d y pc ls (u :: st) w Q := by
  intro p l e R s m args below meth c A Z cells slots H locs lsA C hc hr hP hD hS hl
  obtain ⟨hdg, rfl⟩ := hd
  exact lv_pop C.1 C.2.1 hdg ((mV_cat E u).trans hu) (k p l e R s m args below meth c A Z cells slots H locs lsA C hc hr hP hD hS hl)
theorem Wp_dup2 {E : mE} {d : Nat} {y : mM} {pc pc2 : Nat} {ls : List (Option mv)} {st : List mv} {w : mw} {Q : Option mv → mw → Prop} {u v : mv} (hd : mD y pc (.dup2) 1 pc2) (hu : mcat u = 1) (hv : mcat v = 1) (k : Wp E d y pc2 ls (u :: v :: u :: v :: st) w Q) : Wp E d y pc ls (u :: v :: st) w Q := by
  intro p l e R s m args below meth c A Z cells slots H locs lsA C hc hr hP hD hS hl
  obtain ⟨hdg, rfl⟩ := hd
  exact lv_dup2_11 C.1 C.2.1 hdg ((mV_cat E u).trans hu) ((mV_cat E v).trans hv) (k p l e R s m args below meth c A Z cells slots H locs lsA C hc hr hP hD hS hl)
theorem Wp_if_eq {E : mE} {d : Nat} {y : mM} {pc pc2 : Nat} {ls : List (Option mv)} {st : List mv} {w : mw} {Q : Option mv → mw → Prop} {x : Int32} {off : Int} {tgt : Nat} (hd : mJ y pc (.ifCond .eq off) off pc2 tgt) (kt : x = 0 → Wp E d y tgt ls st w Q) (kf : ¬ (x = 0) → Wp E d y pc2 ls st w Q) : Wp E d y pc ls (vi x :: st) w Q := by
  intro p l e R s m args below meth c A Z cells slots H locs lsA C hc hr hP hD hS hl
  obtain ⟨hdg, rfl, ht⟩ := hd
  exact lv_if_eq C.1 C.2.1 hdg ht (fun h => kt h p l e R s m args below meth c A Z cells slots H locs lsA C hc hr hP hD hS hl) (fun h => kf h p l e R s m args below meth c A Z cells slots H locs lsA C hc hr hP hD hS hl)
theorem Wp_if_lt {E : mE} {d : Nat} {y : mM} {pc pc2 : Nat} {ls : List (Option mv)} {st : List mv} {w : mw} {Q : Option mv → mw → Prop} {x : Int32} {off : Int} {tgt : Nat} (hd : mJ y pc (.ifCond .lt off) off pc2 tgt) (kt : x < 0 → Wp E d y tgt ls st w Q) (kf : ¬ (x < 0) → Wp E d y pc2 ls st w Q) : Wp E d y pc ls (vi x :: st) w Q := by
  intro p l e R s m args below meth c A Z cells slots H locs lsA C hc hr hP hD hS hl
  obtain ⟨hdg, rfl, ht⟩ := hd
  exact lv_if_lt C.1 C.2.1 hdg ht (fun h => kt h p l e R s m args below meth c A Z cells slots H locs lsA C hc hr hP hD hS hl) (fun h => kf h p l e R s m args below meth c A Z cells slots H locs lsA C hc hr hP hD hS hl)
theorem Wp_if_ge {E : mE} {d : Nat} {y : mM} {pc pc2 : Nat} {ls : List (Option mv)} {st : List mv} {w : mw} {Q : Option mv → mw → Prop} {x : Int32} {off : Int} {tgt : Nat} (hd : mJ y pc (.ifCond .ge off) off pc2 tgt) (kt : 0 ≤ x → Wp E d y tgt ls st w Q) (kf : ¬ (0 ≤ x) → Wp E d y pc2 ls st w Q) : Wp E d y pc ls (vi x :: st) w Q := by
  intro p l e R s m args below meth c A Z cells slots H locs lsA C hc hr hP hD hS hl
  obtain ⟨hdg, rfl, ht⟩ := hd
  exact lv_if_ge C.1 C.2.1 hdg ht (fun h => kt h p l e R s m args below meth c A Z cells slots H locs lsA C hc hr hP hD hS hl) (fun h => kf h p l e R s m args below meth c A Z cells slots H locs lsA C hc hr hP hD hS hl)
theorem Wp_if_gt {E : mE} {d : Nat} {y : mM} {pc pc2 : Nat} {ls : List (Option mv)} {st : List mv} {w : mw} {Q : Option mv → mw → Prop} {x : Int32} {off : Int} {tgt : Nat} (hd : mJ y pc (.ifCond .gt off) off pc2 tgt) (kt : 0 < x → Wp E d y tgt ls st w Q) (kf : ¬ (0 < x) → Wp E d y pc2 ls st w Q) : Wp E d y pc ls (vi x :: st) w Q := by
  intro p l e R s m args below meth c A Z cells slots H locs lsA C hc hr hP hD hS hl
  obtain ⟨hdg, rfl, ht⟩ := hd
  exact lv_if_gt C.1 C.2.1 hdg ht (fun h => kt h p l e R s m args below meth c A Z cells slots H locs lsA C hc hr hP hD hS hl) (fun h => kf h p l e R s m args below meth c A Z cells slots H locs lsA C hc hr hP hD hS hl)
theorem Wp_if_le {E : mE} {d : Nat} {y : mM} {pc pc2 : Nat} {ls : List (Option mv)} {st : List mv} {w : mw} {Q : Option mv → mw → Prop} {x : Int32} {off : Int} {tgt : Nat} (hd : mJ y pc (.ifCond .le off) off pc2 tgt) (kt : x ≤ 0 → Wp E d y tgt ls st w Q) (kf : ¬ (x ≤ 0) → Wp E d y pc2 ls st w Q) : Wp E d y pc ls (vi x :: st) w Q := by
  intro p l e R s m args below meth c A Z cells slots H locs lsA C hc hr hP hD hS hl
  obtain ⟨hdg, rfl, ht⟩ := hd
  exact lv_if_le C.1 C.2.1 hdg ht (fun h => kt h p l e R s m args below meth c A Z cells slots H locs lsA C hc hr hP hD hS hl) (fun h => kf h p l e R s m args below meth c A Z cells slots H locs lsA C hc hr hP hD hS hl)
theorem Wp_icmp_eq {E : mE} {d : Nat} {y : mM} {pc pc2 : Nat} {ls : List (Option mv)} {st : List mv} {w : mw} {Q : Option mv → mw → Prop} {x z : Int32} {off : Int} {tgt : Nat} (hd : mJ y pc (.if_icmp .eq off) off pc2 tgt) (kt : x = z → Wp E d y tgt ls st w Q) (kf : ¬ (x = z) → Wp E d y pc2 ls st w Q) : Wp E d y pc ls (vi z :: vi x :: st) w Q := by
  intro p l e R s m args below meth c A Z cells slots H locs lsA C hc hr hP hD hS hl
  obtain ⟨hdg, rfl, ht⟩ := hd
  exact lv_icmp_eq C.1 C.2.1 hdg ht (fun h => kt h p l e R s m args below meth c A Z cells slots H locs lsA C hc hr hP hD hS hl) (fun h => kf h p l e R s m args below meth c A Z cells slots H locs lsA C hc hr hP hD hS hl)
theorem Wp_icmp_lt {E : mE} {d : Nat} {y : mM} {pc pc2 : Nat} {ls : List (Option mv)} {st : List mv} {w : mw} {Q : Option mv → mw → Prop} {x z : Int32} {off : Int} {tgt : Nat} (hd : mJ y pc (.if_icmp .lt off) off pc2 tgt) (kt : x < z → Wp E d y tgt ls st w Q) (kf : ¬ (x < z) → Wp E d y pc2 ls st w Q) : Wp E d y pc ls (vi z :: vi x :: st) w Q := by
  intro p l e R s m args below meth c A Z cells slots H locs lsA C hc hr hP hD hS hl
  obtain ⟨hdg, rfl, ht⟩ := hd
  exact lv_icmp_lt C.1 C.2.1 hdg ht (fun h => kt h p l e R s m args below meth c A Z cells slots H locs lsA C hc hr hP hD hS hl) (fun h => kf h p l e R s m args below meth c A Z cells slots H locs lsA C hc hr hP hD hS hl)
theorem Wp_icmp_ge {E : mE} {d : Nat} {y : mM} {pc pc2 : Nat} {ls : List (Option mv)} {st : List mv} {w : mw} {Q : Option mv → mw → Prop} {x z : Int32} {off : Int} {tgt : Nat} (hd : mJ y pc (.if_icmp .ge off) off pc2 tgt) (kt : z ≤ x → Wp E d y tgt ls st w Q) (kf : ¬ (z ≤ x) → Wp E d y pc2 ls st w Q) : Wp E d y pc ls (vi z :: vi x :: st) w Q := by
  intro p l e R s m args below meth c A Z cells slots H locs lsA C hc hr hP hD hS hl
  obtain ⟨hdg, rfl, ht⟩ := hd
  exact lv_icmp_ge C.1 C.2.1 hdg ht (fun h => kt h p l e R s m args below meth c A Z cells slots H locs lsA C hc hr hP hD hS hl) (fun h => kf h p l e R s m args below meth c A Z cells slots H locs lsA C hc hr hP hD hS hl)
theorem Wp_icmp_gt {E : mE} {d : Nat} {y : mM} {pc pc2 : Nat} {ls : List (Option mv)} {st : List mv} {w : mw} {Q : Option mv → mw → Prop} {x z : Int32} {off : Int} {tgt : Nat} (hd : mJ y pc (.if_icmp .gt off) off pc2 tgt) (kt : z < x → Wp E d y tgt ls st w Q) (kf : ¬ (z < x) → Wp E d y pc2 ls st w Q) : Wp E d y pc ls (vi z :: vi x :: st) w Q := by
  intro p l e R s m args below meth c A Z cells slots H locs lsA C hc hr hP hD hS hl
  obtain ⟨hdg, rfl, ht⟩ := hd
  exact lv_icmp_gt C.1 C.2.1 hdg ht (fun h => kt h p l e R s m args below meth c A Z cells slots H locs lsA C hc hr hP hD hS hl) (fun h => kf h p l e R s m args below meth c A Z cells slots H locs lsA C hc hr hP hD hS hl)
theorem Wp_icmp_le {E : mE} {d : Nat} {y : mM} {pc pc2 : Nat} {ls : List (Option mv)} {st : List mv} {w : mw} {Q : Option mv → mw → Prop} {x z : Int32} {off : Int} {tgt : Nat} (hd : mJ y pc (.if_icmp .le off) off pc2 tgt) (kt : x ≤ z → Wp E d y tgt ls st w Q) (kf : ¬ (x ≤ z) → Wp E d y pc2 ls st w Q) : Wp E d y pc ls (vi z :: vi x :: st) w Q := by
  intro p l e R s m args below meth c A Z cells slots H locs lsA C hc hr hP hD hS hl
  obtain ⟨hdg, rfl, ht⟩ := hd
  exact lv_icmp_le C.1 C.2.1 hdg ht (fun h => kt h p l e R s m args below meth c A Z cells slots H locs lsA C hc hr hP hD hS hl) (fun h => kf h p l e R s m args below meth c A Z cells slots H locs lsA C hc hr hP hD hS hl)
theorem Wp_if_ne {E : mE} {d : Nat} {y : mM} {pc pc2 : Nat} {ls : List (Option mv)} {st : List mv} {w : mw} {Q : Option mv → mw → Prop} {x : Int32} {off : Int} {tgt : Nat} (hd : mJ y pc (.ifCond .ne off) off pc2 tgt) (kt : ¬ x = 0 → Wp E d y tgt ls st w Q) (kf : x = 0 → Wp E d y pc2 ls st w Q) : Wp E d y pc ls (vi x :: st) w Q := by
  intro p l e R s m args below meth c A Z cells slots H locs lsA C hc hr hP hD hS hl
  obtain ⟨hdg, rfl, ht⟩ := hd
  exact lv_if_ne C.1 C.2.1 hdg ht (fun h => kt h p l e R s m args below meth c A Z cells slots H locs lsA C hc hr hP hD hS hl) (fun h => kf h p l e R s m args below meth c A Z cells slots H locs lsA C hc hr hP hD hS hl)
theorem Wp_icmp_ne {E : mE} {d : Nat} {y : mM} {pc pc2 : Nat} {ls : List (Option mv)} {st : List mv} {w : mw} {Q : Option mv → mw → Prop} {x z : Int32} {off : Int} {tgt : Nat} (hd : mJ y pc (.if_icmp .ne off) off pc2 tgt) (kt : ¬ x = z → Wp E d y tgt ls st w Q) (kf : x = z → Wp E d y pc2 ls st w Q) : Wp E d y pc ls (vi z :: vi x :: st) w Q := by
  intro p l e R s m args below meth c A Z cells slots H locs lsA C hc hr hP hD hS hl
  obtain ⟨hdg, rfl, ht⟩ := hd
  exact lv_icmp_ne C.1 C.2.1 hdg ht (fun h => kt h p l e R s m args below meth c A Z cells slots H locs lsA C hc hr hP hD hS hl) (fun h => kf h p l e R s m args below meth c A Z cells slots H locs lsA C hc hr hP hD hS hl)
theorem Wp_goto {E : mE} {d : Nat} {y : mM} {pc pc2 : Nat} {ls : List (Option mv)} {st : List mv} {w : mw} {Q : Option mv → mw → Prop} {off : Int} {tgt : Nat} (hd : mJ y pc (.goto off) off pc2 tgt) (k : Wp E d y tgt ls st w Q) : Wp E d y pc ls st w Q := by
  intro p l e R s m args below meth c A Z cells slots H locs lsA C hc hr hP hD hS hl
  obtain ⟨hdg, rfl, ht⟩ := hd
  exact lv_goto C.1 C.2.1 hdg ht (k p l e R s m args below meth c A Z cells slots H locs lsA C hc hr hP hD hS hl)
theorem Wp_tabOut {E : mE} {d : Nat} {y : mM} {pc pc2 : Nat} {ls : List (Option mv)} {st : List mv} {w : mw} {Q : Option mv → mw → Prop} {dflt lo hi : Int} {offs : Array Int} {len : Nat} {x : Int32} {tgt : Nat} (hd : mD y pc (.tableswitch dflt lo hi offs) len pc2) (h : x.toInt < lo ∨ hi < x.toInt) (ht : (pc : Int) + dflt = (tgt : Int)) (k : Wp E d y tgt ls st w Q) : Wp E d y pc ls (vi x :: st) w Q := by
  intro p l e R s m args below meth c A Z cells slots H locs lsA C hc hr hP hD hS hl
  obtain ⟨hdg, rfl⟩ := hd
  exact lv_tableOut C.1 C.2.1 hdg h ht (k p l e R s m args below meth c A Z cells slots H locs lsA C hc hr hP hD hS hl)
theorem Wp_tabIn {E : mE} {d : Nat} {y : mM} {pc pc2 : Nat} {ls : List (Option mv)} {st : List mv} {w : mw} {Q : Option mv → mw → Prop} {dflt lo hi : Int} {offs : Array Int} {len : Nat} {x : Int32} {off : Int} {tgt : Nat} (hd : mD y pc (.tableswitch dflt lo hi offs) len pc2) (h1 : ¬ x.toInt < lo) (h2 : ¬ hi < x.toInt) (ho : offs[(x.toInt - lo).toNat]? = some off) (ht : (pc : Int) + off = (tgt : Int)) (k : Wp E d y tgt ls st w Q) : Wp E d y pc ls (vi x :: st) w Q := by
  intro p l e R s m args below meth c A Z cells slots H locs lsA C hc hr hP hD hS hl
  obtain ⟨hdg, rfl⟩ := hd
  exact lv_tableIn C.1 C.2.1 hdg h1 h2 ho ht (k p l e R s m args below meth c A Z cells slots H locs lsA C hc hr hP hD hS hl)
theorem mEnt_obj {E : mE} {w : mw} {k : Nat} {q : Nat × Nat} (h : mObj k = some q) : mEnt E w k = .inr (q.1, (List.range q.2).map (mFld E w k)) := by
  unfold mEnt; rw [h]
theorem mEnt_int {E : mE} {w : mw} {k n : Nat} (h : mObj k = none) (h2 : mArr k = (0, n)) : mEnt E w k = .inl (E.2.2.1.1, n, .inl (w k)) := by
  unfold mEnt; rw [h]; dsimp only; rw [h2]; rfl
theorem mEnt_bool {E : mE} {w : mw} {k n : Nat} (h : mObj k = none) (h2 : mArr k = (1, n)) : mEnt E w k = .inl (E.2.2.1.2.1, n, .inl (w k)) := by
  unfold mEnt; rw [h]; dsimp only; rw [h2]; rfl
theorem mEnt_refs {E : mE} {w : mw} {k n : Nat} (h : mObj k = none) (h2 : mArr k = (2, n)) : mEnt E w k = .inl (E.2.2.1.2.2, n, .inr (.inr (.inr (.inr (fun i => some (E.1 (24 + i))))))) := by
  unfold mEnt; rw [h]; dsimp only; rw [h2]; rfl
theorem mlt_of_obj {k : Nat} {q : Nat × Nat} (h : mObj k = some q) : k < 59 := by
  unfold mObj at h
  split at h <;> first | omega | (exact absurd h (by simp))
/-- a field that holds a number -/
theorem Wp_getf {E : mE} {d : Nat} {y : mM} {pc pc2 : Nat} {ls : List (Option mv)} {st : List mv} {w : mw} {Q : Option mv → mw → Prop} {idx ci j o n : Nat} (hd : mD y pc (.getfield idx) 3 pc2) (hf : mFd y.1.cls idx ci j) (ho : mObj o = some (ci, n)) (hj : Nat.ble (j + 1) n = true) (hr0 : mRef o j = none) (k : Wp E d y pc2 ls (vi (w o j) :: st) w Q) : Wp E d y pc ls (vr o :: st) w Q := by
  intro p l e R s m args below meth c A Z cells slots H locs lsA C hc hr hP hD hS hl
  obtain ⟨hdg, rfl⟩ := hd
  obtain ⟨q, h1, h2, h3⟩ := hf
  have he : (mW E w)[o]? = some (E.1 o, .inr (ci, (List.range n).map (mFld E w o))) := by rw [mW_at (mlt_of_obj ho), mEnt_obj ho]
  refine va_get (D := E.2.1) (cl := mCl) (tys := mTys E) (C := q.1) (T := q.2.1) (N := q.2.2) C.1 C.2.1 C.2.2.2.2.1 (mCl_ok ci q h1).1 C.2.2.2.1 C.2.2.2.2.2.2.1 hP o he h1 j h2 (C.2.2.2.2.1 _ h3) (fun _ h9 => h9) (v := .int (w o j)) ?_ hdg (k p l e R s m args below meth c A Z cells slots H locs lsA C hc hr hP hD hS hl)
  rw [List.getElem?_map, List.getElem?_range (Nat.le_of_ble_eq_true hj)]
  show some (mFld E w o j) = _
  unfold mFld; rw [hr0]
/-- a field that holds a cell -/
theorem Wp_getr {E : mE} {d : Nat} {y : mM} {pc pc2 : Nat} {ls : List (Option mv)} {st : List mv} {w : mw} {Q : Option mv → mw → Prop} {idx ci j o n t : Nat} (hd : mD y pc (.getfield idx) 3 pc2) (hf : mFd y.1.cls idx ci j) (ho : mObj o = some (ci, n)) (hj : Nat.ble (j + 1) n = true) (hr0 : mRef o j = some t) (k : Wp E d y pc2 ls (vr t :: st) w Q) : Wp E d y pc ls (vr o :: st) w Q := by
  intro p l e R s m args below meth c A Z cells slots H locs lsA C hc hr hP hD hS hl
  obtain ⟨hdg, rfl⟩ := hd
  obtain ⟨q, h1, h2, h3⟩ := hf
  have he : (mW E w)[o]? = some (E.1 o, .inr (ci, (List.range n).map (mFld E w o))) := by rw [mW_at (mlt_of_obj ho), mEnt_obj ho]
  refine va_get (D := E.2.1) (cl := mCl) (tys := mTys E) (C := q.1) (T := q.2.1) (N := q.2.2) C.1 C.2.1 C.2.2.2.2.1 (mCl_ok ci q h1).1 C.2.2.2.1 C.2.2.2.2.2.2.1 hP o he h1 j h2 (C.2.2.2.2.1 _ h3) (fun _ h9 => h9) (v := .ref (E.1 t)) ?_ hdg (k p l e R s m args below meth c A Z cells slots H locs lsA C hc hr hP hD hS hl)
  rw [List.getElem?_map, List.getElem?_range (Nat.le_of_ble_eq_true hj)]
  show some (mFld E w o j) = _
  unfold mFld; rw [hr0]
theorem mFld_set {E : mE} {w : mw} {o n j : Nat} {x : Int32} (hj : j < n) (hr0 : mRef o j = none) : (List.range n).map (mFld E (mUr w o (upd (w o) j x)) o) = ((List.range n).map (mFld E w o)).set j (.int x) := by
  apply List.ext_getElem?
  intro i
  by_cases hij : i = j
  · subst hij
    rw [List.getElem?_set_self (by rw [List.length_map, List.length_range]; exact hj), List.getElem?_map, List.getElem?_range hj]
    show some (mFld E _ o i) = _
    unfold mFld
    rw [hr0, mUr_eq]
    simp [upd]
  · rw [List.getElem?_set_ne (Ne.symm hij), List.getElem?_map, List.getElem?_map]
    by_cases hin : i < n
    · rw [List.getElem?_range hin]
      show some (mFld E _ o i) = some (mFld E w o i)
      unfold mFld
      rw [mUr_eq]
      simp [upd, hij]
    · rw [List.getElem?_eq_none (by rw [List.length_range]; omega)]; rfl
theorem Wp_putf {E : mE} {d : Nat} {y : mM} {pc pc2 : Nat} {ls : List (Option mv)} {st : List mv} {w : mw} {Q : Option mv → mw → Prop} {idx ci j o n : Nat} {x : Int32} {ds : String} {ty : FieldType} (hd : mD y pc (.putfield idx) 3 pc2) (hf : mFp y.1.cls idx ci j ds) (hds : parseFieldDescriptor ds = some ty) (hnx : narrow ty (.int x) = .int x) (hfx : fits ty (.int x) = true) (ho : mObj o = some (ci, n)) (hj : Nat.ble (j + 1) n = true) (hr0 : mRef o j = none) (k : Wp E d y pc2 ls st (mU w o j x) Q) : Wp E d y pc ls (vi x :: vr o :: st) w Q := by
  intro p l e R s m args below meth c A Z cells slots H locs lsA C hc hr hP hD hS hl
  obtain ⟨hdg, rfl⟩ := hd
  obtain ⟨q, h1, h2, h3, h4, h5⟩ := hf
  have hj := Nat.le_of_ble_eq_true hj
  have he : (mW E w)[o]? = some (E.1 o, .inr (ci, (List.range n).map (mFld E w o))) := by rw [mW_at (mlt_of_obj ho), mEnt_obj ho]
  obtain ⟨ty0, hty⟩ := (mCl_ok ci q h1).2.1
  have hset : (mW E w).set o (E.1 o, .inr (ci, ((List.range n).map (mFld E w o)).set j (.int x))) = mW E (mU w o j x) := mW_set (mlt_of_obj ho) (by rw [mEnt_obj ho, mFld_set hj hr0])
  refine va_put (D := E.2.1) (cl := mCl) (tys := mTys E) (C := q.1) (T := q.2.1) (N := q.2.2) C.1 C.2.1 C.2.2.2.2.1 (mCl_ok ci q h1).1 ty0 hty (mCl_ok ci q h1).2.2 C.2.2.2.1 C.2.2.2.2.2.2.1 hP hD hS o he h1 j h2 (C.2.2.2.2.1 _ h3) (fun _ h9 => h9) h4 (ty := ty) (v := .int x) (by rw [h5]; exact hds) hnx hfx (by rw [List.length_map, List.length_range]; exact hj) hdg (fun H1 locs1 hP1 hD1 hS1 => ?_)
  rw [hset] at hP1 hD1
  exact k p l e R s m args below meth c A Z cells slots H1 locs1 lsA C hc hr hP1 hD1 hS1 hl
theorem Wp_puti {E : mE} {d : Nat} {y : mM} {pc pc2 : Nat} {ls : List (Option mv)} {st : List mv} {w : mw} {Q : Option mv → mw → Prop} {idx ci j o n : Nat} {x : Int32} (hd : mD y pc (.putfield idx) 3 pc2) (hf : mFp y.1.cls idx ci j "I") (ho : mObj o = some (ci, n)) (hj : Nat.ble (j + 1) n = true) (hr0 : mRef o j = none) (k : Wp E d y pc2 ls st (mU w o j x) Q) : Wp E d y pc ls (vi x :: vr o :: st) w Q :=
  Wp_putf hd hf (ty := .int) (by decide +kernel) rfl rfl ho hj hr0 k
theorem Wp_putz {E : mE} {d : Nat} {y : mM} {pc pc2 : Nat} {ls : List (Option mv)} {st : List mv} {w : mw} {Q : Option mv → mw → Prop} {idx ci j o n : Nat} {x : Int32} (hd : mD y pc (.putfield idx) 3 pc2) (hf : mFp y.1.cls idx ci j "Z") (hx : x &&& 1 = x) (hfx : fits .boolean (.int x) = true) (ho : mObj o = some (ci, n)) (hj : Nat.ble (j + 1) n = true) (hr0 : mRef o j = none) (k : Wp E d y pc2 ls st (mU w o j x) Q) : Wp E d y pc ls (vi x :: vr o :: st) w Q :=
  Wp_putf hd hf (ty := .boolean) (by decide +kernel) (by show Value.int (x &&& 1) = _; rw [hx]) hfx ho hj hr0 k
theorem mlt_of_arr {k t n : Nat} (h : mArr k = (t, n + 1)) : k < 59 := by
  unfold mArr at h
  split at h <;> first | omega | (exact absurd h (by simp))
theorem Wp_iald {E : mE} {d : Nat} {y : mM} {pc pc2 : Nat} {ls : List (Option mv)} {st : List mv} {w : mw} {Q : Option mv → mw → Prop} {a n : Nat} {i : Int32} (hd : mD y pc .iaload 1 pc2) (ho : mObj a = none) (ha : mArr a = (0, n + 1)) (hi : vp_in i (n + 1)) (k : Wp E d y pc2 ls (vi (w a i.toNatClampNeg) :: st) w Q) : Wp E d y pc ls (vi i :: vr a :: st) w Q := by
  intro p l e R s m args below meth c A Z cells slots H locs lsA C hc hr hP hD hS hl
  obtain ⟨hdg, rfl⟩ := hd
  have he : (mW E w)[a]? = some (E.1 a, .inl (E.2.2.1.1, n + 1, .inl (w a))) := by rw [mW_at (mlt_of_arr ha), mEnt_int ho ha]
  exact va_iald (D := E.2.1) (cl := mCl) (tys := mTys E) C.1 C.2.1 C.2.2.2.2.2.2.1 hP a 0 he rfl hi hdg (k p l e R s m args below meth c A Z cells slots H locs lsA C hc hr hP hD hS hl)
theorem Wp_zald {E : mE} {d : Nat} {y : mM} {pc pc2 : Nat} {ls : List (Option mv)} {st : List mv} {w : mw} {Q : Option mv → mw → Prop} {a n : Nat} {i : Int32} (hd : mD y pc .baload 1 pc2) (ho : mObj a = none) (ha : mArr a = (1, n + 1)) (hi : vp_in i (n + 1)) (k : Wp E d y pc2 ls (vi (w a i.toNatClampNeg) :: st) w Q) : Wp E d y pc ls (vi i :: vr a :: st) w Q := by
  intro p l e R s m args below meth c A Z cells slots H locs lsA C hc hr hP hD hS hl
  obtain ⟨hdg, rfl⟩ := hd
  have he : (mW E w)[a]? = some (E.1 a, .inl (E.2.2.1.2.1, n + 1, .inl (w a))) := by rw [mW_at (mlt_of_arr ha), mEnt_bool ho ha]
  exact va_zald (D := E.2.1) (cl := mCl) (tys := mTys E) C.1 C.2.1 C.2.2.2.2.2.2.1 hP a 1 he rfl hi hdg (k p l e R s m args below meth c A Z cells slots H locs lsA C hc hr hP hD hS hl)
theorem Wp_iast {E : mE} {d : Nat} {y : mM} {pc pc2 : Nat} {ls : List (Option mv)} {st : List mv} {w : mw} {Q : Option mv → mw → Prop} {a n : Nat} {i x : Int32} (hd : mD y pc .iastore 1 pc2) (ho : mObj a = none) (ha : mArr a = (0, n + 1)) (hi : vp_in i (n + 1)) (k : Wp E d y pc2 ls st (mU w a i.toNatClampNeg x) Q) : Wp E d y pc ls (vi x :: vi i :: vr a :: st) w Q := by
  intro p l e R s m args below meth c A Z cells slots H locs lsA C hc hr hP hD hS hl
  obtain ⟨hdg, rfl⟩ := hd
  have he : (mW E w)[a]? = some (E.1 a, .inl (E.2.2.1.1, n + 1, .inl (w a))) := by rw [mW_at (mlt_of_arr ha), mEnt_int ho ha]
  have hset : (mW E w).set a (E.1 a, .inl (E.2.2.1.1, n + 1, .inl (upd (w a) i.toNatClampNeg x))) = mW E (mU w a i.toNatClampNeg x) := mW_set (mlt_of_arr ha) (by rw [mEnt_int ho ha, mUr_eq])
  refine va_iast (D := E.2.1) (cl := mCl) (tys := mTys E) C.1 C.2.1 C.2.2.2.2.2.2.1 hP hD hS a 0 he rfl hi hdg (fun H1 locs1 hP1 hD1 hS1 => ?_)
  rw [hset] at hP1 hD1
  exact k p l e R s m args below meth c A Z cells slots H1 locs1 lsA C hc hr hP1 hD1 hS1 hl
theorem Wp_zast {E : mE} {d : Nat} {y : mM} {pc pc2 : Nat} {ls : List (Option mv)} {st : List mv} {w : mw} {Q : Option mv → mw → Prop} {a n : Nat} {i x : Int32} (hd : mD y pc .bastore 1 pc2) (ho : mObj a = none) (ha : mArr a = (1, n + 1)) (hi : vp_in i (n + 1)) (hx : x &&& 1 = x) (k : Wp E d y pc2 ls st (mU w a i.toNatClampNeg x) Q) : Wp E d y pc ls (vi x :: vi i :: vr a :: st) w Q := by
  intro p l e R s m args below meth c A Z cells slots H locs lsA C hc hr hP hD hS hl
  obtain ⟨hdg, rfl⟩ := hd
  have he : (mW E w)[a]? = some (E.1 a, .inl (E.2.2.1.2.1, n + 1, .inl (w a))) := by rw [mW_at (mlt_of_arr ha), mEnt_bool ho ha]
  have hset : (mW E w).set a (E.1 a, .inl (E.2.2.1.2.1, n + 1, .inl (upd (w a) i.toNatClampNeg (vp_nar .boolean x)))) = mW E (mU w a i.toNatClampNeg x) := mW_set (mlt_of_arr ha) (by rw [mEnt_bool ho ha, mUr_eq, show vp_nar .boolean x = x from hx])
  refine va_zast (D := E.2.1) (cl := mCl) (tys := mTys E) C.1 C.2.1 C.2.2.2.2.2.2.1 hP hD hS a 1 he rfl hi hdg (fun H1 locs1 hP1 hD1 hS1 => ?_)
  rw [hset] at hP1 hD1
  exact k p l e R s m args below meth c A Z cells slots H1 locs1 lsA C hc hr hP1 hD1 hS1 hl
/-- a sheet out of the row of sheets -/
theorem Wp_aald {E : mE} {d : Nat} {y : mM} {pc pc2 : Nat} {ls : List (Option mv)} {st : List mv} {w : mw} {Q : Option mv → mw → Prop} {a n : Nat} {i : Int32} (hd : mD y pc .aaload 1 pc2) (ho : mObj a = none) (ha : mArr a = (2, n + 1)) (hi : vp_in i (n + 1)) (k : Wp E d y pc2 ls (vr (24 + i.toNatClampNeg) :: st) w Q) : Wp E d y pc ls (vi i :: vr a :: st) w Q := by
  intro p l e R s m args below meth c A Z cells slots H locs lsA C hc hr hP hD hS hl
  obtain ⟨hdg, rfl⟩ := hd
  have he : (mW E w)[a]? = some (E.1 a, .inl (E.2.2.1.2.2, n + 1, .inr (.inr (.inr (.inr (fun i => some (E.1 (24 + i)))))))) := by rw [mW_at (mlt_of_arr ha), mEnt_refs ho ha]
  exact va_aldq (D := E.2.1) (cl := mCl) (tys := mTys E) C.1 C.2.1 C.2.2.2.2.2.2.1 hP a 2 he rfl hi hdg (k p l e R s m args below meth c A Z cells slots H locs lsA C hc hr hP hD hS hl)
theorem Wp_alen {E : mE} {d : Nat} {y : mM} {pc pc2 : Nat} {ls : List (Option mv)} {st : List mv} {w : mw} {Q : Option mv → mw → Prop} {a n : Nat} {x : Int32} (hd : mD y pc .arraylength 1 pc2) (ho : mObj a = none) (ha : mArr a = (0, n + 1)) (hx : Int32.ofNat (n + 1) = x) (k : Wp E d y pc2 ls (vi x :: st) w Q) : Wp E d y pc ls (vr a :: st) w Q := by
  intro p l e R s m args below meth c A Z cells slots H locs lsA C hc hr hP hD hS hl
  obtain ⟨hdg, rfl⟩ := hd
  have he : (mW E w)[a]? = some (E.1 a, .inl (E.2.2.1.1, n + 1, .inl (w a))) := by rw [mW_at (mlt_of_arr ha), mEnt_int ho ha]
  exact va_alen (D := E.2.1) (cl := mCl) (tys := mTys E) C.1 C.2.1 C.2.2.2.2.2.2.1 hP a 0 he rfl hx hdg (k p l e R s m args below meth c A Z cells slots H locs lsA C hc hr hP hD hS hl)
/-- the tables that nobody writes -/
theorem Wp_gets {E : mE} {d : Nat} {y : mM} {pc pc2 : Nat} {ls : List (Option mv)} {st : List mv} {w : mw} {Q : Option mv → mw → Prop} {idx t : Nat} (hd : mD y pc (.getstatic idx) 3 pc2) (h1 : Nat.ble 59 t = true) (h2 : Nat.ble (t + 1) 62 = true) (hf : Cond.fieldLink y.1.cls idx (mSC t).1 (mSC t).2 "[I" ∈ lw_ws) (k : Wp E d y pc2 ls (vr t :: st) w Q) : Wp E d y pc ls st w Q := by
  intro p l e R s m args below meth c A Z cells slots H locs lsA C hc hr hP hD hS hl
  obtain ⟨hdg, rfl⟩ := hd
  exact va_gets C.1 C.2.1 (C.2.2.2.2.2.2.2.2.1 t (Nat.le_of_ble_eq_true h1) (Nat.le_of_ble_eq_true h2)).1 hS C.2.2.2.1 (C.2.2.2.2.1 _ hf) (fun _ h9 => h9) hdg (k p l e R s m args below meth c A Z cells slots H locs lsA C hc hr hP hD hS hl)
theorem Wp_sald {E : mE} {d : Nat} {y : mM} {pc pc2 : Nat} {ls : List (Option mv)} {st : List mv} {w : mw} {Q : Option mv → mw → Prop} {t : Nat} {i : Int32} (hd : mD y pc .iaload 1 pc2) (h1 : Nat.ble 59 t = true) (h2 : Nat.ble (t + 1) 62 = true) (hi : vp_in i (mSN t)) (k : Wp E d y pc2 ls (vi (mSF t i.toNatClampNeg) :: st) w Q) : Wp E d y pc ls (vi i :: vr t :: st) w Q := by
  intro p l e R s m args below meth c A Z cells slots H locs lsA C hc hr hP hD hS hl
  obtain ⟨hdg, rfl⟩ := hd
  exact va_ti C.1 C.2.1 (C.2.2.2.2.2.2.2.2.1 t (Nat.le_of_ble_eq_true h1) (Nat.le_of_ble_eq_true h2)).2 hS hi rfl hdg (k p l e R s m args below meth c A Z cells slots H locs lsA C hc hr hP hD hS hl)
theorem Wp_slen {E : mE} {d : Nat} {y : mM} {pc pc2 : Nat} {ls : List (Option mv)} {st : List mv} {w : mw} {Q : Option mv → mw → Prop} {t : Nat} {x : Int32} (hd : mD y pc .arraylength 1 pc2) (h1 : Nat.ble 59 t = true) (h2 : Nat.ble (t + 1) 62 = true) (hx : Int32.ofNat (mSN t) = x) (k : Wp E d y pc2 ls (vi x :: st) w Q) : Wp E d y pc ls (vr t :: st) w Q := by
  intro p l e R s m args below meth c A Z cells slots H locs lsA C hc hr hP hD hS hl
  obtain ⟨hdg, rfl⟩ := hd
  exact va_tlen C.1 C.2.1 (C.2.2.2.2.2.2.2.2.1 t (Nat.le_of_ble_eq_true h1) (Nat.le_of_ble_eq_true h2)).2 hS hx hdg (k p l e R s m args below meth c A Z cells slots H locs lsA C hc hr hP hD hS hl)
/-- the script -/
theorem Wp_xald {E : mE} {d : Nat} {y : mM} {pc pc2 : Nat} {ls : List (Option mv)} {st : List mv} {w : mw} {Q : Option mv → mw → Prop} {i : Int32} (hy : y.1.cls = "AgeFerryLaw") (hd : mD y pc .iaload 1 pc2) (hi : vp_in i E.2.2.2.2) (k : Wp E d y pc2 ls (vi (E.2.2.2.1 i.toNatClampNeg) :: st) w Q) : Wp E d y pc ls (vi i :: vr 62 :: st) w Q := by
  intro p l e R s m args below meth c A Z cells slots H locs lsA C hc hr hP hD hS hl
  obtain ⟨hdg, rfl⟩ := hd
  obtain ⟨x1, x2, x3⟩ := C.2.2.2.2.2.2.2.2.2.1 hy
  exact va_sld C.1 C.2.1 x1 x2 x3 hS hi hdg (k p l e R s m args below meth c A Z cells slots H locs lsA C hc hr hP hD hS hl)
theorem Wp_xlen {E : mE} {d : Nat} {y : mM} {pc pc2 : Nat} {ls : List (Option mv)} {st : List mv} {w : mw} {Q : Option mv → mw → Prop} (hy : y.1.cls = "AgeFerryLaw") (hd : mD y pc .arraylength 1 pc2) (k : Wp E d y pc2 ls (vi (Int32.ofNat E.2.2.2.2) :: st) w Q) : Wp E d y pc ls (vr 62 :: st) w Q := by
  intro p l e R s m args below meth c A Z cells slots H locs lsA C hc hr hP hD hS hl
  obtain ⟨hdg, rfl⟩ := hd
  obtain ⟨x1, x2, x3⟩ := C.2.2.2.2.2.2.2.2.2.1 hy
  exact va_slen C.1 C.2.1 x1 x2 x3 hS hdg (k p l e R s m args below meth c A Z cells slots H locs lsA C hc hr hP hD hS hl)
/-- ends -/
theorem Wp_iret {E : mE} {d : Nat} {y : mM} {pc pc2 : Nat} {ls : List (Option mv)} {w : mw} {Q : Option mv → mw → Prop} {x : Int32} {ty : FieldType} (hd : mD y pc .ireturn 1 pc2) (hr0 : y.2.2.2 = some ty) (hn : narrow ty (.int x) = .int x) (k : Q (some (vi x)) w) : Wp E d y pc ls [vi x] w Q := by
  intro p l e R s m args below meth c A Z cells slots H locs lsA C hc hr hP hD hS hl
  exact hr (some (vi x)) w H locs pc lsA k ⟨hd.1, ty, hr0, hn⟩ hP hD hS
theorem Wp_lret {E : mE} {d : Nat} {y : mM} {pc pc2 : Nat} {ls : List (Option mv)} {w : mw} {Q : Option mv → mw → Prop} {x : Int64} (hd : mD y pc .lreturn 1 pc2) (hr0 : y.2.2.2 = some .long) (k : Q (some (vl x)) w) : Wp E d y pc ls [vl x] w Q := by
  intro p l e R s m args below meth c A Z cells slots H locs lsA C hc hr hP hD hS hl
  exact hr (some (vl x)) w H locs pc lsA k ⟨hd.1, hr0⟩ hP hD hS
theorem Wp_vret {E : mE} {d : Nat} {y : mM} {pc pc2 : Nat} {ls : List (Option mv)} {w : mw} {Q : Option mv → mw → Prop} (hd : mD y pc .return_ 1 pc2) (hr0 : y.2.2.2 = none) (k : Q none w) : Wp E d y pc ls [] w Q := by
  intro p l e R s m args below meth c A Z cells slots H locs lsA C hc hr hP hD hS hl
  exact hr none w H locs pc lsA k ⟨hd.1, hr0⟩ hP hD hS
/-- the places with which a method begins -/
def marg : List mv → List (Option mv)
  | [] => []
  | .inl x :: vs => some (.inl x) :: marg vs
  | .inr (.inl x) :: vs => some (.inr (.inl x)) :: none :: marg vs
  | .inr (.inr x) :: vs => some (.inr (.inr x)) :: marg vs
def mpad (n : Nat) (l : List (Option mv)) : List (Option mv) := l ++ List.replicate (n - l.length) none
theorem mlp_none {E : mE} : ∀ (k i : Nat), mlp E i (List.replicate k none) = []
  | 0, _ => rfl
  | k + 1, i => by rw [List.replicate_succ]; exact mlp_none k (i + 1)
theorem mlp_arg {E : mE} (k : Nat) : ∀ (As : List mv) (i : Nat), mlp E i (marg As ++ List.replicate k none) = lv_args i (As.map (mV E))
  | [], i => mlp_none k i
  | .inl x :: vs, i => by
    show (i, Value.int x) :: mlp E (i + 1) (marg vs ++ List.replicate k none) = (i, Value.int x) :: lv_args (i + 1) (vs.map (mV E))
    rw [mlp_arg k vs (i + 1)]
  | .inr (.inl x) :: vs, i => by
    show (i, Value.long x) :: mlp E (i + 1 + 1) (marg vs ++ List.replicate k none) = (i, Value.long x) :: lv_args (i + 2) (vs.map (mV E))
    rw [mlp_arg k vs (i + 1 + 1)]
  | .inr (.inr x) :: vs, i => by
    show (i, Value.ref (E.1 x)) :: mlp E (i + 1) (marg vs ++ List.replicate k none) = (i, Value.ref (E.1 x)) :: lv_args (i + 1) (vs.map (mV E))
    rw [mlp_arg k vs (i + 1)]
def Tr (E : mE) (d : Nat) (y : mM) (As : List mv) (w : mw) (Q : Option mv → mw → Prop) : Prop := (lg_sl (As.map (mV E))).length ≤ y.2.2.1 ∧ Wp E d y 0 (mpad y.2.2.1 (marg As)) [] w Q
def mBd (E : mE) (A : Nat → Prop) (w : mw) (U : State) : Prop := va_P E.2.1 mCl (mW E w) U.heap ∧ va_K E.2.1 mCl (mTys E) U ∧ va_D A (mW E w) ∧ (∀ q, U.heap.size ≤ q → A q) ∧ mSt E A U U.heap ∧ mNw U
def mQc (E : mE) (A : Nat → Prop) (Q : Option mv → mw → Prop) : Array Value → State → Outcome → State → Prop := fun _ st oc t => (∃ (v : Option mv) (w1 : mw), oc = .returned (v.map (mV E)) ∧ Q v w1 ∧ va_P E.2.1 mCl (mW E w1) t.heap ∧ va_D A (mW E w1)) ∧ va_F A st t
def mRm (d : Nat) : Room := { frames := d, cells := 0, slots := 0, locals := 32 * d }
def mWs (y : mM) : List Cond := Cond.code y.1 y.2.1 y.2.2.1 y.2.2.2 :: lw_ws
theorem mWs_in {y : mM} {n : Nat} (h : mOk y n) : GoodIn lw_ws (mWs y) := by
  intro w hw
  have hm : w ∈ lw_ws := by
    rcases List.mem_cons.mp hw with rfl | h2
    · exact h.1
    · exact h2
  exact ⟨hm, good_of_word (lw_ws_good hm)⟩
theorem Tr_met {E : mE} {d : Nat} {y : mM} {n : Nat} {As : List mv} {w : mw} {Q : Option mv → mw → Prop} (A : Nat → Prop) (hO : mOk y n) (hT : Tr E d y As w Q) (l : Launch) : Met l y.1 (mWs y) (mRm d) (va_Pc (As.map (mV E)) (mBd E A w)) (mQc E A Q) 0 0 A := by
  refine Met.ofW (cc := y.2.1) (maxL := y.2.2.1) (ret := y.2.2.2) hO.2.2.2.1 rfl ?_
  intro p e s m args below meth c s₁ B hml hv
  obtain ⟨rfl, hP, hK, hD, hA, hSt, hNw⟩ := hv
  have hts0 := atoms_spec (ws := mWs y) B.pre
  have hts : ∀ w ∈ lw_ws, w.before (As.map (mV E)).toArray s = true := fun w hw => hts0 w (List.mem_cons_of_mem _ hw)
  have hown : s.vm.findClass y.1.cls = some m.cls := findClass_of_methodNamed B.named
  have hlocks := B.notSynchronized
  have hl := lv_entry (As.map (mV E)) (n := y.2.2.1) hT.1
  rw [lg_entry_eq]
  generalize (lg_sl (As.map (mV E)) ++ List.replicate (y.2.2.1 - (lg_sl (As.map (mV E))).length) Slot.unset).toArray = lsA at hl ⊢
  rw [← mlp_arg (E := E) (y.2.2.1 - (marg As).length) As 0] at hl
  refine hT.2 p l e (mRm d) s m _ below meth c A _ 0 0 s.heap [] lsA ⟨B.exec, B.bytes, hml, hown, hts, ⟨Nat.le_refl _, Nat.le_refl _⟩, hK, hA, hSt, fun h => absurd h hO.2.2.2.2.2.2, hNw⟩ ⟨Nat.le_refl _, Nat.le_refl _⟩ ?_ hP hD va_S.rf hl
  intro v w1 H1 locs1 pc1 ls1 hq hR hP1 hD1 hS1
  rcases v with _ | x | x | x
  · exact W.vret B.exec B.bytes (B.returns.trans hR.2) (fun t ht hW => ⟨⟨none, w1, rfl, hq, by rw [ht]; exact hP1, hD1⟩, hS1.F ht⟩) hS1.2.2 hR.1
  · obtain ⟨h1, ty, h2, h3⟩ := hR
    exact W.zret B.exec B.bytes (B.returns.trans h2) h3 (fun t ht hW => ⟨⟨some (.inl x), w1, rfl, hq, by rw [ht]; exact hP1, hD1⟩, hS1.F ht⟩) hS1.2.2 h1
  · exact W.lret B.exec B.bytes (B.returns.trans hR.2) (fun t ht hW => ⟨⟨some (.inr (.inl x)), w1, rfl, hq, by rw [ht]; exact hP1, hD1⟩, hS1.F ht⟩) hS1.2.2 hR.1
  · exact hR.elim
theorem mBd_blind {E : mE} {A : Nat → Prop} {w : mw} {av : List Value} : FrameBlind (va_Pc av (mBd E A w)) := by
  intro a U g mk q
  obtain ⟨h0, h1, h2, h3, h4, h5, h6⟩ := q
  exact ⟨h0, h1, va_K.moved (u := U) (U := U.calling g mk a) (Vm.Alike.refl U.vm) h2, h3, h4, mSt.moved (u := U) (U := U.calling g mk a) (Vm.Alike.refl U.vm) h5, mNw.same rfl h6⟩
theorem mBd_at {E : mE} {d : Nat} {y : mM} {p : Program} {R : Room} {s : State} {m : MethodId} {args : Array Value} {c : Code} {A : Nat → Prop} {w : mw} {H : Heap} {locs : List Loc} (C : mCtx E d y p R s m args c A) (hP : va_P E.2.1 mCl (mW E w) H) (hD : va_D A (mW E w)) (hS : va_S A s.heap H locs) (U : State) (hU : U.heap = H) (hW : s.WarmedH U.vm) : mBd E A w U := by
  refine ⟨by rw [hU]; exact hP, va_K.moved hW.alike C.2.2.2.2.2.2.1, hD, fun q hq => C.2.2.2.2.2.2.2.1 q (Nat.le_trans hS.1 (by rw [← hU]; exact hq)), ?_, mNw.warm hW C.2.2.2.2.2.2.2.2.2.2⟩
  rw [hU]
  exact (C.2.2.2.2.2.2.2.2.1.moved hW.alike).kept (fun a h1 h2 => hS.2.1 a h1 h2)
theorem va_callg {E : mE} {p : Program} {l : Launch} {e : Env} {R : Room} {s : State} {m : MethodId} {args : Array Value} {below : List Frame} {meth : Method} {c : Code} {H : Heap} {locs : List Loc} {cells slots : Nat} {Z : State → Prop} {pc : Nat} {ls : Array Slot} {rest st0 : List Value} {a : Array Value} {A : Nat → Prop} {Q : Option mv → mw → Prop}
    (hr : va_Run p l e R s m args below meth c H locs cells slots 0 0 (F0 m pc ls st0) rest (mQc E A Q a) A) (hS : va_S A s.heap H locs)
    (kk : ∀ (v : Option mv) (w1 : mw) (H1 : Heap) (locs1 : List Loc), Q v w1 → va_P E.2.1 mCl (mW E w1) H1 → va_D A (mW E w1) → va_S A s.heap H1 locs1 → W p l e R s m args below meth c H1 locs1 cells slots Z (F0 m (pc + 3) ls (v.toList.map (mV E) ++ rest))) : W p l e R s m args below meth c H locs cells slots Z (F0 m pc ls st0) := by
  intro T hT X
  obtain ⟨v, st₀, t, T', L, h0, X', hL, e1, e2, ⟨⟨u, w1, hv, hq, hP1, hD1⟩, hz, hk⟩, st⟩ := hr T hT X
  rw [h0] at hz hk
  have hvv : v = u.map (mV E) := by cases hv; rfl
  subst hvv
  have htl : (u.map (mV E)).toList = u.toList.map (mV E) := by cases u <;> rfl
  obtain ⟨t2, a1, b1⟩ := kk u w1 T'.heap (locs ++ L) hq (by rw [e1]; exact hP1) hD1
    ⟨Nat.le_trans hS.1 (by rw [e1]; exact hz), fun q h1 h2 => by rw [e1, hk q (Nat.lt_of_lt_of_le h1 hS.1) h2]; exact hS.2.1 q h1 h2, fun q hq => by
      rcases List.mem_append.mp hq with h | h
      · exact hS.2.2 q h
      · exact hL q h⟩ T' rfl X'
  rw [← htl] at a1
  exact ⟨t2, st t2 a1, b1⟩
theorem mrun_room {E : mE} {st : List mv} {m : MethodId} {pc : Nat} {ls : Array Slot} {st0 : List Value} (h : Nat.ble (st.map mcat).sum 8 = true) : 2 * (F0 m pc ls st0).monitorRoom + ((st.map (mV E)).map fun v => v.category).sum ≤ 8 := by
  refine lv_room ?_
  rw [mV_cats]
  exact Nat.le_of_ble_eq_true h
/-- a call of a static method -/
theorem Wp_ivs {E : mE} {d : Nat} {y : mM} {pc pc2 : Nat} {ls : List (Option mv)} {st : List mv} {w : mw} {Q : Option mv → mw → Prop} {y2 : mM} {As : List mv} {n idx : Nat} {st2 : List mv} {Q2 : Option mv → mw → Prop} (hd : mD y pc (.invokestatic idx) 3 pc2) (hL : mLS y.1.cls idx y2) (hO : mOk y2 n) (hn : As.length = n) (hst : As.reverse ++ st = st2) (hrm : Nat.ble (st.map mcat).sum 8 = true) (h0 : 0 < d) (hT : Tr E (d - 1) y2 As w Q2) (k : ∀ v w1, Q2 v w1 → Wp E d y pc2 ls (v.toList ++ st) w1 Q) : Wp E d y pc ls st2 w Q := by
  intro p l e R s m args below meth c A Z cells slots H locs lsA C hc hr hP hD hS hl
  obtain ⟨hdg, rfl⟩ := hd
  subst hst
  have hM := Tr_met A hO hT l
  have cw := callB_of (R := R) (s := s) (args := args) (own := y.1.cls) (index := idx) (y := y2.1) (bytes := y2.2.1) (maxL := y2.2.2.1) (ret := y2.2.2.2) (rm := mRm (d - 1)) (mc := 0) (ms := 0) n C.2.2.2.2.1 (mWs_in hO) rfl rfl rfl (C.2.2.2.2.1 _ hO.2.1) (C.2.2.2.2.1 _ hL.1) ⟨hO.2.2.1.1, hO.2.2.1.2, hO.2.2.2.2.2.1⟩ ⟨by show d - 1 + 1 ≤ _; have := C.2.2.2.2.2.1.1; omega, by show _ + 32 * (d - 1) ≤ _; have := C.2.2.2.2.2.1.2; have := hO.2.2.2.2.1; omega⟩
  have hrun := va_runS (p := p) (l := l) (e := e) (m := m) (below := below) (meth := meth) (c := c) (locs := locs) (cells := cells) (slots := slots) (As := As.map (mV E)) (rest := st.map (mV E)) (g := F0 m pc lsA ((As.reverse ++ st).map (mV E))) ⟨C.1, C.2.1, C.2.2.1, C.2.2.2.1, C.2.2.2.2.1⟩ hM ⟨cw, C.2.2.2.2.1 _ hL.2⟩ ⟨mBd_blind, fun U hU hW => ⟨rfl, mBd_at C hP hD hS U hU hW⟩⟩ rfl (by rw [List.length_map]; exact hn) hl.1 (by show (As.reverse ++ st).map (mV E) = _; rw [List.map_append, List.map_reverse]) (mrun_room hrm) hdg ⟨hc.1, hc.2⟩
  refine va_callg hrun hS (fun v w1 H1 locs1 hq hP1 hD1 hS1 => ?_)
  have := k v w1 hq p l e R s m args below meth c A Z cells slots H1 locs1 lsA C hc hr hP1 hD1 hS1 hl
  rw [List.map_append] at this
  exact this
/-- the same, of a private one of the nest -/
theorem Wp_ivsN {E : mE} {d : Nat} {y : mM} {pc pc2 : Nat} {ls : List (Option mv)} {st : List mv} {w : mw} {Q : Option mv → mw → Prop} {y2 : mM} {As : List mv} {n idx : Nat} {st2 : List mv} {Q2 : Option mv → mw → Prop} (hd : mD y pc (.invokestatic idx) 3 pc2) {host : String} (hL : mLSN y.1.cls idx y2 host) (hO : mOk y2 n) (hn : As.length = n) (hst : As.reverse ++ st = st2) (hrm : Nat.ble (st.map mcat).sum 8 = true) (h0 : 0 < d) (hT : Tr E (d - 1) y2 As w Q2) (k : ∀ v w1, Q2 v w1 → Wp E d y pc2 ls (v.toList ++ st) w1 Q) : Wp E d y pc ls st2 w Q := by
  intro p l e R s m args below meth c A Z cells slots H locs lsA C hc hr hP hD hS hl
  obtain ⟨hdg, rfl⟩ := hd
  subst hst
  have hM := Tr_met A hO hT l
  have cw := va_cnB (R := R) (s := s) (args := args) (own := y.1.cls) (host := host) (index := idx) (y := y2.1) (bytes := y2.2.1) (maxL := y2.2.2.1) (ret := y2.2.2.2) (rm := mRm (d - 1)) (mc := 0) (ms := 0) n C.2.2.2.2.1 (mWs_in hO) rfl rfl rfl (hL.1 s C.2.2.2.2.2.2.2.2.2.2) (C.2.2.2.2.1 _ hO.2.1) ⟨hO.2.2.1.1, hO.2.2.1.2, hO.2.2.2.2.2.1⟩ ⟨by show d - 1 + 1 ≤ _; have := C.2.2.2.2.2.1.1; omega, by show _ + 32 * (d - 1) ≤ _; have := C.2.2.2.2.2.1.2; have := hO.2.2.2.2.1; omega⟩
  have hrun := va_runSN (p := p) (l := l) (e := e) (m := m) (below := below) (meth := meth) (c := c) (locs := locs) (cells := cells) (slots := slots) (As := As.map (mV E)) (rest := st.map (mV E)) (g := F0 m pc lsA ((As.reverse ++ st).map (mV E))) ⟨C.1, C.2.1, C.2.2.1, C.2.2.2.1, C.2.2.2.2.1⟩ hM ⟨cw, C.2.2.2.2.1 _ hL.2, trivial⟩ ⟨mBd_blind, fun U hU hW => ⟨rfl, mBd_at C hP hD hS U hU hW⟩⟩ rfl (by rw [List.length_map]; exact hn) hl.1 (by show (As.reverse ++ st).map (mV E) = _; rw [List.map_append, List.map_reverse]) (mrun_room hrm) hdg ⟨hc.1, hc.2⟩
  refine va_callg hrun hS (fun v w1 H1 locs1 hq hP1 hD1 hS1 => ?_)
  have := k v w1 hq p l e R s m args below meth c A Z cells slots H1 locs1 lsA C hc hr hP1 hD1 hS1 hl
  rw [List.map_append] at this
  exact this
/-- a call of a method of a cell -/
theorem Wp_ivv {E : mE} {d : Nat} {y : mM} {pc pc2 : Nat} {ls : List (Option mv)} {st : List mv} {w : mw} {Q : Option mv → mw → Prop} {y2 : mM} {o : Nat} {q : Nat × Nat} {As : List mv} {n idx : Nat} {st2 : List mv} {Q2 : Option mv → mw → Prop} (hd : mD y pc (.invokevirtual idx) 3 pc2) (hL : mLV y.1.cls idx y2) (hO : mOk y2 n) (ho : mObj o = some q) (hcl : (mCl[q.1]?).map (fun r => r.1) = some y2.1.cls) (hn : As.length = n) (hst : As.reverse ++ vr o :: st = st2) (hrm : Nat.ble (st.map mcat).sum 8 = true) (h0 : 0 < d) (hT : Tr E (d - 1) y2 (vr o :: As) w Q2) (k : ∀ v w1, Q2 v w1 → Wp E d y pc2 ls (v.toList ++ st) w1 Q) : Wp E d y pc ls st2 w Q := by
  intro p l e R s m args below meth c A Z cells slots H locs lsA C hc hr hP hD hS hl
  obtain ⟨hdg, rfl⟩ := hd
  subst hst
  obtain ⟨r, hr1, hr2⟩ : ∃ r, mCl[q.1]? = some r ∧ r.1 = y2.1.cls := by
    cases hz : mCl[q.1]? with
    | none => rw [hz] at hcl; cases hcl
    | some r => rw [hz] at hcl; exact ⟨r, rfl, Option.some.inj hcl⟩
  have he : (mW E w)[o]? = some (E.1 o, .inr (q.1, (List.range q.2).map (mFld E w o))) := by rw [mW_at (mlt_of_obj ho), mEnt_obj ho]
  have hM := Tr_met A hO hT l
  have cw := callB_of (R := R) (s := s) (args := args) (own := y.1.cls) (index := idx) (y := y2.1) (bytes := y2.2.1) (maxL := y2.2.2.1) (ret := y2.2.2.2) (rm := mRm (d - 1)) (mc := 0) (ms := 0) n C.2.2.2.2.1 (mWs_in hO) rfl rfl rfl (C.2.2.2.2.1 _ hO.2.1) (C.2.2.2.2.1 _ hL.1) ⟨hO.2.2.1.1, hO.2.2.1.2, hO.2.2.2.2.2.1⟩ ⟨by show d - 1 + 1 ≤ _; have := C.2.2.2.2.2.1.1; omega, by show _ + 32 * (d - 1) ≤ _; have := C.2.2.2.2.2.1.2; have := hO.2.2.2.2.1; omega⟩
  have hrecv : ∃ cellB : Cell, H[E.1 o]? = some cellB ∧ cellB.vm.isStatics = false ∧ s.vm.findClass y2.1.cls = some cellB.cls := by
    rw [← hr2]
    exact va_recv C.2.2.2.2.2.2.1 hP hr1 he
  have hrun := va_runV (p := p) (l := l) (e := e) (m := m) (below := below) (meth := meth) (c := c) (locs := locs) (cells := cells) (slots := slots) (b := E.1 o) (C := y2.1.cls) (As := As.map (mV E)) (rest := st.map (mV E)) (g := F0 m pc lsA ((As.reverse ++ vr o :: st).map (mV E))) ⟨C.1, C.2.1, C.2.2.1, C.2.2.2.1, C.2.2.2.2.1⟩ hM ⟨cw, C.2.2.2.2.1 _ hL.2.1, C.2.2.2.2.1 _ hL.2.2⟩ ⟨mBd_blind, hrecv, fun U hU hW => ⟨rfl, mBd_at C hP hD hS U hU hW⟩⟩ rfl (by rw [List.length_map]; exact hn) hl.1 (by show (As.reverse ++ vr o :: st).map (mV E) = _; rw [List.map_append, List.map_reverse]; rfl) (mrun_room hrm) hdg ⟨hc.1, hc.2⟩
  refine va_callg hrun hS (fun v w1 H1 locs1 hq hP1 hD1 hS1 => ?_)
  have := k v w1 hq p l e R s m args below meth c A Z cells slots H1 locs1 lsA C hc hr hP1 hD1 hS1 hl
  rw [List.map_append] at this
  exact this
theorem Tr_mono {E : mE} {d d2 : Nat} {y : mM} {As : List mv} {w : mw} {Q : Option mv → mw → Prop} (h : d ≤ d2) (k : Tr E d y As w Q) : Tr E d2 y As w Q := by
  refine ⟨k.1, ?_⟩
  intro p l e R s m args below meth c A Z cells slots H locs lsA C hc hr hP hD hS hl
  obtain ⟨c1, c2, c3, c4, c5, c6, c7⟩ := C
  exact k.2 p l e R s m args below meth c A Z cells slots H locs lsA ⟨c1, c2, c3, c4, c5, ⟨by omega, by omega⟩, c7⟩ hc hr hP hD hS hl
/-- Math and the copy of rows -/
theorem Wp_max {E : mE} {d : Nat} {y : mM} {pc pc2 : Nat} {ls : List (Option mv)} {st : List mv} {w : mw} {Q : Option mv → mw → Prop} {idx : Nat} {x z : Int32} (hd : mD y pc (.invokestatic idx) 3 pc2) (hL : Cond.methodLink y.1.cls idx Lib.Math.max.name ∈ lw_ws) (hrm : Nat.ble (st.map mcat).sum 8 = true) (h0 : 0 < d) (k : Wp E d y pc2 ls (vi (if x < z then z else x) :: st) w Q) : Wp E d y pc ls (vi z :: vi x :: st) w Q := by
  intro p l e R s m args below meth c A Z cells slots H locs lsA C hc hr hP hD hS hl
  obtain ⟨hdg, rfl⟩ := hd
  exact va_mmax C.1 C.2.1 (C.2.2.1.trans hl.1.symm) C.2.2.2.1 (C.2.2.2.2.1 _ hL) (C.2.2.2.2.1 _ mj_max.1) (C.2.2.2.2.1 _ mj_max.2.1) (C.2.2.2.2.1 _ mj_max.2.2) (by have := C.2.2.2.2.2.1.1; omega) (by rw [mV_cats]; have := C.2.2.2.2.2.1.2; have := Nat.le_of_ble_eq_true hrm; omega) hc.1 hc.2 hdg (k p l e R s m args below meth c A Z cells slots H locs lsA C hc hr hP hD hS hl)
theorem Wp_min {E : mE} {d : Nat} {y : mM} {pc pc2 : Nat} {ls : List (Option mv)} {st : List mv} {w : mw} {Q : Option mv → mw → Prop} {idx : Nat} {x z : Int32} (hd : mD y pc (.invokestatic idx) 3 pc2) (hL : Cond.methodLink y.1.cls idx Lib.Math.min.name ∈ lw_ws) (hrm : Nat.ble (st.map mcat).sum 8 = true) (h0 : 0 < d) (k : Wp E d y pc2 ls (vi (if z < x then z else x) :: st) w Q) : Wp E d y pc ls (vi z :: vi x :: st) w Q := by
  intro p l e R s m args below meth c A Z cells slots H locs lsA C hc hr hP hD hS hl
  obtain ⟨hdg, rfl⟩ := hd
  exact va_mmin C.1 C.2.1 (C.2.2.1.trans hl.1.symm) C.2.2.2.1 (C.2.2.2.2.1 _ hL) (C.2.2.2.2.1 _ mj_min.1) (C.2.2.2.2.1 _ mj_min.2.1) (C.2.2.2.2.1 _ mj_min.2.2) (by have := C.2.2.2.2.2.1.1; omega) (by rw [mV_cats]; have := C.2.2.2.2.2.1.2; have := Nat.le_of_ble_eq_true hrm; omega) hc.1 hc.2 hdg (k p l e R s m args below meth c A Z cells slots H locs lsA C hc hr hP hD hS hl)
theorem Wp_abs {E : mE} {d : Nat} {y : mM} {pc pc2 : Nat} {ls : List (Option mv)} {st : List mv} {w : mw} {Q : Option mv → mw → Prop} {idx : Nat} {x : Int32} (hd : mD y pc (.invokestatic idx) 3 pc2) (hL : Cond.methodLink y.1.cls idx Lib.Math.abs.name ∈ lw_ws) (hrm : Nat.ble (st.map mcat).sum 8 = true) (h0 : 0 < d) (k : Wp E d y pc2 ls (vi (if 0 ≤ x then x else 0 - x) :: st) w Q) : Wp E d y pc ls (vi x :: st) w Q := by
  intro p l e R s m args below meth c A Z cells slots H locs lsA C hc hr hP hD hS hl
  obtain ⟨hdg, rfl⟩ := hd
  exact va_mabs C.1 C.2.1 (C.2.2.1.trans hl.1.symm) C.2.2.2.1 (C.2.2.2.2.1 _ hL) (C.2.2.2.2.1 _ mj_abs.1) (C.2.2.2.2.1 _ mj_abs.2.1) (C.2.2.2.2.1 _ mj_abs.2.2) (by have := C.2.2.2.2.2.1.1; omega) (by rw [mV_cats]; have := C.2.2.2.2.2.1.2; have := Nat.le_of_ble_eq_true hrm; omega) hc.1 hc.2 hdg (k p l e R s m args below meth c A Z cells slots H locs lsA C hc hr hP hD hS hl)
theorem Wp_absl {E : mE} {d : Nat} {y : mM} {pc pc2 : Nat} {ls : List (Option mv)} {st : List mv} {w : mw} {Q : Option mv → mw → Prop} {idx : Nat} {x : Int64} (hd : mD y pc (.invokestatic idx) 3 pc2) (hL : Cond.methodLink y.1.cls idx Lib.MathLoose.abs_long.x ∈ lw_ws) (hrm : Nat.ble (st.map mcat).sum 8 = true) (h0 : 0 < d) (k : Wp E d y pc2 ls (vl (if 0 < x then x else -x) :: st) w Q) : Wp E d y pc ls (vl x :: st) w Q := by
  intro p l e R s m args below meth c A Z cells slots H locs lsA C hc hr hP hD hS hl
  obtain ⟨hdg, rfl⟩ := hd
  exact va_mabs_long C.1 C.2.1 (C.2.2.1.trans hl.1.symm) C.2.2.2.1 (C.2.2.2.2.1 _ hL) (C.2.2.2.2.1 _ mj_absl.1) (C.2.2.2.2.1 _ mj_absl.2.1) (C.2.2.2.2.1 _ mj_absl.2.2) (by have := C.2.2.2.2.2.1.1; omega) (by rw [mV_cats]; have := C.2.2.2.2.2.1.2; have := Nat.le_of_ble_eq_true hrm; omega) hc.1 hc.2 hdg (k p l e R s m args below meth c A Z cells slots H locs lsA C hc hr hP hD hS hl)
theorem Wp_copy {E : mE} {d : Nat} {y : mM} {pc pc2 : Nat} {ls : List (Option mv)} {st : List mv} {w : mw} {Q : Option mv → mw → Prop} {idx a0 a n0 n1 : Nat} {sp dp n : Int32} (hd : mD y pc (.invokestatic idx) 3 pc2) (hL : Cond.methodLink y.1.cls idx arraycopyName ∈ lw_ws) (ho0 : mObj a0 = none) (ha0 : mArr a0 = (0, n0 + 1)) (ho1 : mObj a = none) (ha1 : mArr a = (0, n1 + 1)) (h1 : ¬ sp < 0) (h2 : ¬ dp < 0) (h3 : ¬ n < 0) (h4 : sp.toNatClampNeg + n.toNatClampNeg ≤ n0 + 1) (h5 : dp.toNatClampNeg + n.toNatClampNeg ≤ n1 + 1) (hrm : Nat.ble (st.map mcat).sum 8 = true) (h0 : 2 ≤ d) (k : Wp E d y pc2 ls st (mUr w a (va_cpy (w a0) (w a) sp.toNatClampNeg dp.toNatClampNeg n.toNatClampNeg)) Q) : Wp E d y pc ls (vi n :: vi dp :: vr a :: vi sp :: vr a0 :: st) w Q := by
  intro p l e R s m args below meth c A Z cells slots H locs lsA C hc hr hP hD hS hl
  obtain ⟨hdg, rfl⟩ := hd
  have he0 : (mW E w)[a0]? = some (E.1 a0, .inl (E.2.2.1.1, n0 + 1, .inl (w a0))) := by rw [mW_at (mlt_of_arr ha0), mEnt_int ho0 ha0]
  have he : (mW E w)[a]? = some (E.1 a, .inl (E.2.2.1.1, n1 + 1, .inl (w a))) := by rw [mW_at (mlt_of_arr ha1), mEnt_int ho1 ha1]
  have hset : (mW E w).set a (E.1 a, .inl (E.2.2.1.1, n1 + 1, .inl (va_cpy (w a0) (w a) sp.toNatClampNeg dp.toNatClampNeg n.toNatClampNeg))) = mW E (mUr w a (va_cpy (w a0) (w a) sp.toNatClampNeg dp.toNatClampNeg n.toNatClampNeg)) := mW_set (mlt_of_arr ha1) (by rw [mEnt_int ho1 ha1, mUr_eq])
  have hnf : nativeFrameWords "java/lang/System" "arraycopy" 5 ≤ 40 := by decide
  refine va_copyi (D := E.2.1) (cl := mCl) (tys := mTys E) (ty := .int) C.1 C.2.1 (C.2.2.1.trans hl.1.symm) C.2.2.2.1 (C.2.2.2.2.1 _ hL) (C.2.2.2.2.1 _ mj_copy.1) (C.2.2.2.2.1 _ mj_copy.2.1) (C.2.2.2.2.1 _ mj_copy.2.2) C.2.2.2.2.2.2.1 hP hD hS a0 a 0 0 he0 he rfl rfl rfl h1 h2 h3 h4 h5 (fun _ _ => rfl) (by have := C.2.2.2.2.2.1.1; omega) (by rw [mV_cats]; have := C.2.2.2.2.2.1.2; have := Nat.le_of_ble_eq_true hrm; omega) hdg (fun H1 locs1 hP1 hD1 hS1 => ?_)
  rw [hset] at hP1 hD1
  exact k p l e R s m args below meth c A Z cells slots H1 locs1 lsA C hc hr hP1 hD1 hS1 hl
/-- answers that are numbers, or nothing -/
def mPi (P : Int32 → mw → Prop) : Option mv → mw → Prop := fun v w => ∃ r, v = some (vi r) ∧ P r w
def mPl (P : Int64 → mw → Prop) : Option mv → mw → Prop := fun v w => ∃ r, v = some (vl r) ∧ P r w
def mPv (P : mw → Prop) : Option mv → mw → Prop := fun v w => v = none ∧ P w
abbrev Ti (E : mE) (d : Nat) (y : mM) (As : List mv) (w : mw) (P : Int32 → mw → Prop) : Prop := Tr E d y As w (mPi P)
abbrev Tl (E : mE) (d : Nat) (y : mM) (As : List mv) (w : mw) (P : Int64 → mw → Prop) : Prop := Tr E d y As w (mPl P)
abbrev Tv (E : mE) (d : Nat) (y : mM) (As : List mv) (w : mw) (P : mw → Prop) : Prop := Tr E d y As w (mPv P)
theorem Wp_reti {E : mE} {d : Nat} {y : mM} {pc pc2 : Nat} {ls : List (Option mv)} {w : mw} {x : Int32} {ty : FieldType} {P : Int32 → mw → Prop} (hd : mD y pc .ireturn 1 pc2) (hr0 : y.2.2.2 = some ty) (hn : narrow ty (.int x) = .int x) (k : P x w) : Wp E d y pc ls [vi x] w (mPi P) := Wp_iret hd hr0 hn ⟨x, rfl, k⟩
theorem Wp_retl {E : mE} {d : Nat} {y : mM} {pc pc2 : Nat} {ls : List (Option mv)} {w : mw} {x : Int64} {P : Int64 → mw → Prop} (hd : mD y pc .lreturn 1 pc2) (hr0 : y.2.2.2 = some .long) (k : P x w) : Wp E d y pc ls [vl x] w (mPl P) := Wp_lret hd hr0 ⟨x, rfl, k⟩
theorem Wp_retv {E : mE} {d : Nat} {y : mM} {pc pc2 : Nat} {ls : List (Option mv)} {w : mw} {P : mw → Prop} (hd : mD y pc .return_ 1 pc2) (hr0 : y.2.2.2 = none) (k : P w) : Wp E d y pc ls [] w (mPv P) := Wp_vret hd hr0 ⟨rfl, k⟩
theorem Wp_ivs_i {E : mE} {d : Nat} {y : mM} {pc pc2 : Nat} {ls : List (Option mv)} {st : List mv} {w : mw} {Q : Option mv → mw → Prop} {y2 : mM} {As : List mv} {n idx : Nat} {st2 : List mv} {P : Int32 → mw → Prop} (hd : mD y pc (.invokestatic idx) 3 pc2) (hL : mLS y.1.cls idx y2) (hO : mOk y2 n) (hn : As.length = n) (hst : As.reverse ++ st = st2) (hrm : Nat.ble (st.map mcat).sum 8 = true) (h0 : 0 < d) (hT : Ti E (d - 1) y2 As w P) (k : ∀ r w1, P r w1 → Wp E d y pc2 ls (vi r :: st) w1 Q) : Wp E d y pc ls st2 w Q :=
  Wp_ivs hd hL hO hn hst hrm h0 hT (fun v w1 h => by obtain ⟨r, rfl, h⟩ := h; exact k r w1 h)
theorem Wp_ivsN_b {E : mE} {d : Nat} {y : mM} {pc pc2 : Nat} {ls : List (Option mv)} {st : List mv} {w : mw} {Q : Option mv → mw → Prop} {y2 : mM} {As : List mv} {n idx : Nat} {st2 : List mv} {host : String} {p : Prop} (hd : mD y pc (.invokestatic idx) 3 pc2) (hL : mLSN y.1.cls idx y2 host) (hO : mOk y2 n) (hn : As.length = n) (hst : As.reverse ++ st = st2) (hrm : Nat.ble (st.map mcat).sum 8 = true) (h0 : 0 < d) (hT : Tr E (d - 1) y2 As w (mPi (fun r w1 => ((r = 1 ∧ p) ∨ (r = 0 ∧ ¬ p)) ∧ w1 = w))) (k1 : p → Wp E d y pc2 ls (vi 1 :: st) w Q) (k0 : ¬ p → Wp E d y pc2 ls (vi 0 :: st) w Q) : Wp E d y pc ls st2 w Q :=
  Wp_ivsN hd hL hO hn hst hrm h0 hT (fun v w1 h => by
    obtain ⟨r, rfl, ⟨rfl, hp⟩ | ⟨rfl, hp⟩, rfl⟩ := h
    · exact k1 hp
    · exact k0 hp)
theorem Wp_ivv_i {E : mE} {d : Nat} {y : mM} {pc pc2 : Nat} {ls : List (Option mv)} {st : List mv} {w : mw} {Q : Option mv → mw → Prop} {y2 : mM} {o : Nat} {q : Nat × Nat} {As : List mv} {n idx : Nat} {st2 : List mv} {P : Int32 → mw → Prop} (hd : mD y pc (.invokevirtual idx) 3 pc2) (hL : mLV y.1.cls idx y2) (hO : mOk y2 n) (ho : mObj o = some q) (hcl : (mCl[q.1]?).map (fun r => r.1) = some y2.1.cls) (hn : As.length = n) (hst : As.reverse ++ vr o :: st = st2) (hrm : Nat.ble (st.map mcat).sum 8 = true) (h0 : 0 < d) (hT : Ti E (d - 1) y2 (vr o :: As) w P) (k : ∀ r w1, P r w1 → Wp E d y pc2 ls (vi r :: st) w1 Q) : Wp E d y pc ls st2 w Q :=
  Wp_ivv hd hL hO ho hcl hn hst hrm h0 hT (fun v w1 h => by obtain ⟨r, rfl, h⟩ := h; exact k r w1 h)
theorem Wp_ivs_l {E : mE} {d : Nat} {y : mM} {pc pc2 : Nat} {ls : List (Option mv)} {st : List mv} {w : mw} {Q : Option mv → mw → Prop} {y2 : mM} {As : List mv} {n idx : Nat} {st2 : List mv} {P : Int64 → mw → Prop} (hd : mD y pc (.invokestatic idx) 3 pc2) (hL : mLS y.1.cls idx y2) (hO : mOk y2 n) (hn : As.length = n) (hst : As.reverse ++ st = st2) (hrm : Nat.ble (st.map mcat).sum 8 = true) (h0 : 0 < d) (hT : Tl E (d - 1) y2 As w P) (k : ∀ r w1, P r w1 → Wp E d y pc2 ls (vl r :: st) w1 Q) : Wp E d y pc ls st2 w Q :=
  Wp_ivs hd hL hO hn hst hrm h0 hT (fun v w1 h => by obtain ⟨r, rfl, h⟩ := h; exact k r w1 h)
theorem Wp_ivv_l {E : mE} {d : Nat} {y : mM} {pc pc2 : Nat} {ls : List (Option mv)} {st : List mv} {w : mw} {Q : Option mv → mw → Prop} {y2 : mM} {o : Nat} {q : Nat × Nat} {As : List mv} {n idx : Nat} {st2 : List mv} {P : Int64 → mw → Prop} (hd : mD y pc (.invokevirtual idx) 3 pc2) (hL : mLV y.1.cls idx y2) (hO : mOk y2 n) (ho : mObj o = some q) (hcl : (mCl[q.1]?).map (fun r => r.1) = some y2.1.cls) (hn : As.length = n) (hst : As.reverse ++ vr o :: st = st2) (hrm : Nat.ble (st.map mcat).sum 8 = true) (h0 : 0 < d) (hT : Tl E (d - 1) y2 (vr o :: As) w P) (k : ∀ r w1, P r w1 → Wp E d y pc2 ls (vl r :: st) w1 Q) : Wp E d y pc ls st2 w Q :=
  Wp_ivv hd hL hO ho hcl hn hst hrm h0 hT (fun v w1 h => by obtain ⟨r, rfl, h⟩ := h; exact k r w1 h)
theorem Wp_ivs_v {E : mE} {d : Nat} {y : mM} {pc pc2 : Nat} {ls : List (Option mv)} {st : List mv} {w : mw} {Q : Option mv → mw → Prop} {y2 : mM} {As : List mv} {n idx : Nat} {st2 : List mv} {P : mw → Prop} (hd : mD y pc (.invokestatic idx) 3 pc2) (hL : mLS y.1.cls idx y2) (hO : mOk y2 n) (hn : As.length = n) (hst : As.reverse ++ st = st2) (hrm : Nat.ble (st.map mcat).sum 8 = true) (h0 : 0 < d) (hT : Tv E (d - 1) y2 As w P) (k : ∀ w1, P w1 → Wp E d y pc2 ls st w1 Q) : Wp E d y pc ls st2 w Q :=
  Wp_ivs hd hL hO hn hst hrm h0 hT (fun v w1 h => by obtain ⟨rfl, h⟩ := h; exact k w1 h)
theorem Wp_ivv_v {E : mE} {d : Nat} {y : mM} {pc pc2 : Nat} {ls : List (Option mv)} {st : List mv} {w : mw} {Q : Option mv → mw → Prop} {y2 : mM} {o : Nat} {q : Nat × Nat} {As : List mv} {n idx : Nat} {st2 : List mv} {P : mw → Prop} (hd : mD y pc (.invokevirtual idx) 3 pc2) (hL : mLV y.1.cls idx y2) (hO : mOk y2 n) (ho : mObj o = some q) (hcl : (mCl[q.1]?).map (fun r => r.1) = some y2.1.cls) (hn : As.length = n) (hst : As.reverse ++ vr o :: st = st2) (hrm : Nat.ble (st.map mcat).sum 8 = true) (h0 : 0 < d) (hT : Tv E (d - 1) y2 (vr o :: As) w P) (k : ∀ w1, P w1 → Wp E d y pc2 ls st w1 Q) : Wp E d y pc ls st2 w Q :=
  Wp_ivv hd hL hO ho hcl hn hst hrm h0 hT (fun v w1 h => by obtain ⟨rfl, h⟩ := h; exact k w1 h)
theorem mObj_sh {s : Nat} (h : s < 4) : mObj (24 + s) = some (3, 3) := by
  rcases (show s = 0 ∨ s = 1 ∨ s = 2 ∨ s = 3 by omega) with rfl | rfl | rfl | rfl <;> rfl
theorem mRef_sh {s : Nat} (h : s < 4) : mRef (24 + s) 0 = some (28 + s) := by
  rcases (show s = 0 ∨ s = 1 ∨ s = 2 ∨ s = 3 by omega) with rfl | rfl | rfl | rfl <;> rfl
theorem mRef_sh1 {s : Nat} (h : s < 4) : mRef (24 + s) 1 = none := by
  rcases (show s = 0 ∨ s = 1 ∨ s = 2 ∨ s = 3 by omega) with rfl | rfl | rfl | rfl <;> rfl
theorem mRef_sh2 {s : Nat} (h : s < 4) : mRef (24 + s) 2 = none := by
  rcases (show s = 0 ∨ s = 1 ∨ s = 2 ∨ s = 3 by omega) with rfl | rfl | rfl | rfl <;> rfl
theorem mObj_it {s : Nat} (h : s < 4) : mObj (28 + s) = none := by
  rcases (show s = 0 ∨ s = 1 ∨ s = 2 ∨ s = 3 by omega) with rfl | rfl | rfl | rfl <;> rfl
theorem mArr_it {s : Nat} (h : s < 4) : mArr (28 + s) = (0, 60) := by
  rcases (show s = 0 ∨ s = 1 ∨ s = 2 ∨ s = 3 by omega) with rfl | rfl | rfl | rfl <;> rfl
theorem Wp_eqi {E : mE} {d : Nat} {y : mM} {pc : Nat} {ls : List (Option mv)} {st : List mv} {w : mw} {Q : Option mv → mw → Prop} {x x2 : Int32} (h : x = x2) (k : Wp E d y pc ls (vi x2 :: st) w Q) : Wp E d y pc ls (vi x :: st) w Q := h ▸ k
theorem Wp_eql {E : mE} {d : Nat} {y : mM} {pc : Nat} {ls : List (Option mv)} {st : List mv} {w : mw} {Q : Option mv → mw → Prop} {x x2 : Int64} (h : x = x2) (k : Wp E d y pc ls (vl x2 :: st) w Q) : Wp E d y pc ls (vl x :: st) w Q := h ▸ k
theorem Wp_eqw {E : mE} {d : Nat} {y : mM} {pc : Nat} {ls : List (Option mv)} {st : List mv} {w w2 : mw} {Q : Option mv → mw → Prop} (h : w = w2) (k : Wp E d y pc ls st w2 Q) : Wp E d y pc ls st w Q := h ▸ k
theorem mclN {j n : Nat} (hj : j < n + 1) (hn : Nat.ble (n + 1) 1000000 = true) : (nI j).toNatClampNeg = j ∧ vp_in (nI j) (n + 1) := by
  have h := Nat.le_of_ble_eq_true hn
  exact ⟨nI_clamp (by omega), vp_in_nI hj (by omega)⟩
theorem Wp_ialdN {E : mE} {d : Nat} {y : mM} {pc pc2 : Nat} {ls : List (Option mv)} {st : List mv} {w : mw} {Q : Option mv → mw → Prop} {a n j : Nat} {i : Int32} (hd : mD y pc .iaload 1 pc2) (ho : mObj a = none) (ha : mArr a = (0, n + 1)) (hn : Nat.ble (n + 1) 1000000 = true) (hi : i = nI j) (hj : j < n + 1) (k : Wp E d y pc2 ls (vi (w a j) :: st) w Q) : Wp E d y pc ls (vi i :: vr a :: st) w Q := by
  subst hi
  obtain ⟨h1, h2⟩ := mclN hj hn
  exact Wp_iald hd ho ha h2 (by rw [h1]; exact k)
theorem Wp_zaldN {E : mE} {d : Nat} {y : mM} {pc pc2 : Nat} {ls : List (Option mv)} {st : List mv} {w : mw} {Q : Option mv → mw → Prop} {a n j : Nat} {i : Int32} (hd : mD y pc .baload 1 pc2) (ho : mObj a = none) (ha : mArr a = (1, n + 1)) (hn : Nat.ble (n + 1) 1000000 = true) (hi : i = nI j) (hj : j < n + 1) (k : Wp E d y pc2 ls (vi (w a j) :: st) w Q) : Wp E d y pc ls (vi i :: vr a :: st) w Q := by
  subst hi
  obtain ⟨h1, h2⟩ := mclN hj hn
  exact Wp_zald hd ho ha h2 (by rw [h1]; exact k)
theorem Wp_iastN {E : mE} {d : Nat} {y : mM} {pc pc2 : Nat} {ls : List (Option mv)} {st : List mv} {w : mw} {Q : Option mv → mw → Prop} {a n j : Nat} {i x : Int32} (hd : mD y pc .iastore 1 pc2) (ho : mObj a = none) (ha : mArr a = (0, n + 1)) (hn : Nat.ble (n + 1) 1000000 = true) (hi : i = nI j) (hj : j < n + 1) (k : Wp E d y pc2 ls st (mU w a j x) Q) : Wp E d y pc ls (vi x :: vi i :: vr a :: st) w Q := by
  subst hi
  obtain ⟨h1, h2⟩ := mclN hj hn
  exact Wp_iast hd ho ha h2 (by rw [h1]; exact k)
theorem Wp_zastN {E : mE} {d : Nat} {y : mM} {pc pc2 : Nat} {ls : List (Option mv)} {st : List mv} {w : mw} {Q : Option mv → mw → Prop} {a n j : Nat} {i x : Int32} (hd : mD y pc .bastore 1 pc2) (ho : mObj a = none) (ha : mArr a = (1, n + 1)) (hn : Nat.ble (n + 1) 1000000 = true) (hi : i = nI j) (hj : j < n + 1) (hx : x &&& 1 = x) (k : Wp E d y pc2 ls st (mU w a j x) Q) : Wp E d y pc ls (vi x :: vi i :: vr a :: st) w Q := by
  subst hi
  obtain ⟨h1, h2⟩ := mclN hj hn
  exact Wp_zast hd ho ha h2 hx (by rw [h1]; exact k)
theorem Wp_aaldN {E : mE} {d : Nat} {y : mM} {pc pc2 : Nat} {ls : List (Option mv)} {st : List mv} {w : mw} {Q : Option mv → mw → Prop} {a n j : Nat} {i : Int32} (hd : mD y pc .aaload 1 pc2) (ho : mObj a = none) (ha : mArr a = (2, n + 1)) (hn : Nat.ble (n + 1) 1000000 = true) (hi : i = nI j) (hj : j < n + 1) (k : Wp E d y pc2 ls (vr (24 + j) :: st) w Q) : Wp E d y pc ls (vi i :: vr a :: st) w Q := by
  subst hi
  have hn := Nat.le_of_ble_eq_true hn
  have h1 : (nI j).toNatClampNeg = j := nI_clamp (by omega)
  exact Wp_aald hd ho ha (vp_in_nI hj (by omega)) (by rw [h1]; exact k)
theorem Wp_saldN {E : mE} {d : Nat} {y : mM} {pc pc2 : Nat} {ls : List (Option mv)} {st : List mv} {w : mw} {Q : Option mv → mw → Prop} {t j : Nat} {i : Int32} (hd : mD y pc .iaload 1 pc2) (h1 : Nat.ble 59 t = true) (h2 : Nat.ble (t + 1) 62 = true) (hi : i = nI j) (hj : j < mSN t) (k : Wp E d y pc2 ls (vi (mSF t j) :: st) w Q) : Wp E d y pc ls (vi i :: vr t :: st) w Q := by
  subst hi
  have hn : mSN t ≤ 7 := by
    unfold mSN
    split <;> decide
  have h3 : (nI j).toNatClampNeg = j := nI_clamp (by omega)
  exact Wp_sald hd h1 h2 (vp_in_nI hj (by omega)) (by rw [h3]; exact k)
theorem Wp_xaldN {E : mE} {d : Nat} {y : mM} {pc pc2 : Nat} {ls : List (Option mv)} {st : List mv} {w : mw} {Q : Option mv → mw → Prop} {j : Nat} {i : Int32} (hy : y.1.cls = "AgeFerryLaw") (hd : mD y pc .iaload 1 pc2) (hi : i = nI j) (hj : j < E.2.2.2.2 ∧ E.2.2.2.2 ≤ 3072) (k : Wp E d y pc2 ls (vi (E.2.2.2.1 j) :: st) w Q) : Wp E d y pc ls (vi i :: vr 62 :: st) w Q := by
  subst hi
  have h3 : (nI j).toNatClampNeg = j := nI_clamp (by omega)
  exact Wp_xald hy hd (vp_in_nI hj.1 (by omega)) (by rw [h3]; exact k)
theorem nI_and (a b : Nat) : nI a &&& nI b = nI (a &&& b) := by
  show Int32.ofNat a &&& Int32.ofNat b = Int32.ofNat (a &&& b)
  exact Int32.toBitVec_inj.mp (by simp [Int32.toBitVec_and, Int32.toBitVec_ofNat', BitVec.ofNat_and])
theorem nI_or (a b : Nat) : nI a ||| nI b = nI (a ||| b) := by
  show Int32.ofNat a ||| Int32.ofNat b = Int32.ofNat (a ||| b)
  exact Int32.toBitVec_inj.mp (by simp [Int32.toBitVec_or, Int32.toBitVec_ofNat', BitVec.ofNat_or])
theorem nI_xor (a b : Nat) : nI a ^^^ nI b = nI (a ^^^ b) := by
  show Int32.ofNat a ^^^ Int32.ofNat b = Int32.ofNat (a ^^^ b)
  exact Int32.toBitVec_inj.mp (by simp [Int32.toBitVec_xor, Int32.toBitVec_ofNat', BitVec.ofNat_xor])
theorem nI_lit (n : Nat) : nI n = Int32.ofNat n := rfl
/-- answers that are told outright -/
abbrev Tb (E : mE) (d : Nat) (y : mM) (As : List mv) (w : mw) (p : Prop) : Prop := Ti E d y As w (fun r w1 => ((r = 1 ∧ p) ∨ (r = 0 ∧ ¬ p)) ∧ w1 = w)
abbrev Td (E : mE) (d : Nat) (y : mM) (As : List mv) (w : mw) (r0 : Int32) (w2 : mw) : Prop := Ti E d y As w (fun r w1 => r = r0 ∧ w1 = w2)
abbrev Tdl (E : mE) (d : Nat) (y : mM) (As : List mv) (w : mw) (r0 : Int64) (w2 : mw) : Prop := Tl E d y As w (fun r w1 => r = r0 ∧ w1 = w2)
abbrev Tdv (E : mE) (d : Nat) (y : mM) (As : List mv) (w : mw) (w2 : mw) : Prop := Tv E d y As w (fun w1 => w1 = w2)
theorem Wp_ivs_b {E : mE} {d : Nat} {y : mM} {pc pc2 : Nat} {ls : List (Option mv)} {st : List mv} {w : mw} {Q : Option mv → mw → Prop} {y2 : mM} {As : List mv} {n idx : Nat} {st2 : List mv} {p : Prop} (hd : mD y pc (.invokestatic idx) 3 pc2) (hL : mLS y.1.cls idx y2) (hO : mOk y2 n) (hn : As.length = n) (hst : As.reverse ++ st = st2) (hrm : Nat.ble (st.map mcat).sum 8 = true) (h0 : 0 < d) (hT : Tb E (d - 1) y2 As w p) (k1 : p → Wp E d y pc2 ls (vi 1 :: st) w Q) (k0 : ¬ p → Wp E d y pc2 ls (vi 0 :: st) w Q) : Wp E d y pc ls st2 w Q :=
  Wp_ivs_i hd hL hO hn hst hrm h0 hT (fun r w1 h => by rcases h with ⟨⟨h1, h2⟩ | ⟨h1, h2⟩, h3⟩ <;> (rw [h1, h3]; first | exact k1 h2 | exact k0 h2))
theorem Wp_ivs_d {E : mE} {d : Nat} {y : mM} {pc pc2 : Nat} {ls : List (Option mv)} {st : List mv} {w : mw} {Q : Option mv → mw → Prop} {y2 : mM} {As : List mv} {n idx : Nat} {st2 : List mv} {r0 : Int32} {w2 : mw} (hd : mD y pc (.invokestatic idx) 3 pc2) (hL : mLS y.1.cls idx y2) (hO : mOk y2 n) (hn : As.length = n) (hst : As.reverse ++ st = st2) (hrm : Nat.ble (st.map mcat).sum 8 = true) (h0 : 0 < d) (hT : Td E (d - 1) y2 As w r0 w2) (k : Wp E d y pc2 ls (vi r0 :: st) w2 Q) : Wp E d y pc ls st2 w Q :=
  Wp_ivs_i hd hL hO hn hst hrm h0 hT (fun r w1 h => by rw [h.1, h.2]; exact k)
theorem Wp_ivs_dl {E : mE} {d : Nat} {y : mM} {pc pc2 : Nat} {ls : List (Option mv)} {st : List mv} {w : mw} {Q : Option mv → mw → Prop} {y2 : mM} {As : List mv} {n idx : Nat} {st2 : List mv} {r0 : Int64} {w2 : mw} (hd : mD y pc (.invokestatic idx) 3 pc2) (hL : mLS y.1.cls idx y2) (hO : mOk y2 n) (hn : As.length = n) (hst : As.reverse ++ st = st2) (hrm : Nat.ble (st.map mcat).sum 8 = true) (h0 : 0 < d) (hT : Tdl E (d - 1) y2 As w r0 w2) (k : Wp E d y pc2 ls (vl r0 :: st) w2 Q) : Wp E d y pc ls st2 w Q :=
  Wp_ivs_l hd hL hO hn hst hrm h0 hT (fun r w1 h => by rw [h.1, h.2]; exact k)
theorem Wp_ivs_dv {E : mE} {d : Nat} {y : mM} {pc pc2 : Nat} {ls : List (Option mv)} {st : List mv} {w : mw} {Q : Option mv → mw → Prop} {y2 : mM} {As : List mv} {n idx : Nat} {st2 : List mv} {w2 : mw} (hd : mD y pc (.invokestatic idx) 3 pc2) (hL : mLS y.1.cls idx y2) (hO : mOk y2 n) (hn : As.length = n) (hst : As.reverse ++ st = st2) (hrm : Nat.ble (st.map mcat).sum 8 = true) (h0 : 0 < d) (hT : Tdv E (d - 1) y2 As w w2) (k : Wp E d y pc2 ls st w2 Q) : Wp E d y pc ls st2 w Q :=
  Wp_ivs_v hd hL hO hn hst hrm h0 hT (fun w1 h => by rw [h]; exact k)
theorem Wp_ivv_b {E : mE} {d : Nat} {y : mM} {pc pc2 : Nat} {ls : List (Option mv)} {st : List mv} {w : mw} {Q : Option mv → mw → Prop} {y2 : mM} {o : Nat} {q : Nat × Nat} {As : List mv} {n idx : Nat} {st2 : List mv} {p : Prop} (hd : mD y pc (.invokevirtual idx) 3 pc2) (hL : mLV y.1.cls idx y2) (hO : mOk y2 n) (ho : mObj o = some q) (hcl : (mCl[q.1]?).map (fun r => r.1) = some y2.1.cls) (hn : As.length = n) (hst : As.reverse ++ vr o :: st = st2) (hrm : Nat.ble (st.map mcat).sum 8 = true) (h0 : 0 < d) (hT : Tb E (d - 1) y2 (vr o :: As) w p) (k1 : p → Wp E d y pc2 ls (vi 1 :: st) w Q) (k0 : ¬ p → Wp E d y pc2 ls (vi 0 :: st) w Q) : Wp E d y pc ls st2 w Q :=
  Wp_ivv_i hd hL hO ho hcl hn hst hrm h0 hT (fun r w1 h => by rcases h with ⟨⟨h1, h2⟩ | ⟨h1, h2⟩, h3⟩ <;> (rw [h1, h3]; first | exact k1 h2 | exact k0 h2))
theorem Wp_ivv_d {E : mE} {d : Nat} {y : mM} {pc pc2 : Nat} {ls : List (Option mv)} {st : List mv} {w : mw} {Q : Option mv → mw → Prop} {y2 : mM} {o : Nat} {q : Nat × Nat} {As : List mv} {n idx : Nat} {st2 : List mv} {r0 : Int32} {w2 : mw} (hd : mD y pc (.invokevirtual idx) 3 pc2) (hL : mLV y.1.cls idx y2) (hO : mOk y2 n) (ho : mObj o = some q) (hcl : (mCl[q.1]?).map (fun r => r.1) = some y2.1.cls) (hn : As.length = n) (hst : As.reverse ++ vr o :: st = st2) (hrm : Nat.ble (st.map mcat).sum 8 = true) (h0 : 0 < d) (hT : Td E (d - 1) y2 (vr o :: As) w r0 w2) (k : Wp E d y pc2 ls (vi r0 :: st) w2 Q) : Wp E d y pc ls st2 w Q :=
  Wp_ivv_i hd hL hO ho hcl hn hst hrm h0 hT (fun r w1 h => by rw [h.1, h.2]; exact k)
theorem Wp_ivv_dl {E : mE} {d : Nat} {y : mM} {pc pc2 : Nat} {ls : List (Option mv)} {st : List mv} {w : mw} {Q : Option mv → mw → Prop} {y2 : mM} {o : Nat} {q : Nat × Nat} {As : List mv} {n idx : Nat} {st2 : List mv} {r0 : Int64} {w2 : mw} (hd : mD y pc (.invokevirtual idx) 3 pc2) (hL : mLV y.1.cls idx y2) (hO : mOk y2 n) (ho : mObj o = some q) (hcl : (mCl[q.1]?).map (fun r => r.1) = some y2.1.cls) (hn : As.length = n) (hst : As.reverse ++ vr o :: st = st2) (hrm : Nat.ble (st.map mcat).sum 8 = true) (h0 : 0 < d) (hT : Tdl E (d - 1) y2 (vr o :: As) w r0 w2) (k : Wp E d y pc2 ls (vl r0 :: st) w2 Q) : Wp E d y pc ls st2 w Q :=
  Wp_ivv_l hd hL hO ho hcl hn hst hrm h0 hT (fun r w1 h => by rw [h.1, h.2]; exact k)
theorem Wp_ivv_dv {E : mE} {d : Nat} {y : mM} {pc pc2 : Nat} {ls : List (Option mv)} {st : List mv} {w : mw} {Q : Option mv → mw → Prop} {y2 : mM} {o : Nat} {q : Nat × Nat} {As : List mv} {n idx : Nat} {st2 : List mv} {w2 : mw} (hd : mD y pc (.invokevirtual idx) 3 pc2) (hL : mLV y.1.cls idx y2) (hO : mOk y2 n) (ho : mObj o = some q) (hcl : (mCl[q.1]?).map (fun r => r.1) = some y2.1.cls) (hn : As.length = n) (hst : As.reverse ++ vr o :: st = st2) (hrm : Nat.ble (st.map mcat).sum 8 = true) (h0 : 0 < d) (hT : Tdv E (d - 1) y2 (vr o :: As) w w2) (k : Wp E d y pc2 ls st w2 Q) : Wp E d y pc ls st2 w Q :=
  Wp_ivv_v hd hL hO ho hcl hn hst hrm h0 hT (fun w1 h => by rw [h]; exact k)
