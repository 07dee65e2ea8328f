def kTy (tI : ClassId × ClassId × ClassId) : List (ClassId × FieldType) := [(tI.1, .int), (tI.2.1, .boolean), (tI.2.2, .object "AgeFerry$Sheet")]
def kX (s : State) : Prop := va_Nw (.methodLinkNest "AgeFerry" 43 m_G_init.1 "AgeFerry") s ∧ va_Nw (.methodLinkNest "AgeFerry" 54 m_S_init.1 "AgeFerry") s ∧ va_AO "AgeFerry$Sheet" s
theorem kX.warm {s U : State} (hW : s.WarmedH U.vm) (h : kX s) : kX U := ⟨va_Nw.warmM hW h.1, va_Nw.warmM hW h.2.1, va_AO.moved hW.alike h.2.2⟩
theorem kX.same {s U : State} (hW : s.vm = U.vm) (h : kX s) : kX U := ⟨va_Nw.same rfl hW h.1, va_Nw.same rfl hW h.2.1, va_AO.moved (hW ▸ Vm.Alike.refl s.vm) h.2.2⟩
def kC (D : va_G) (tI : ClassId × ClassId × ClassId) (y : mM) (p : Program) (s : State) (m : MethodId) (args : Array Value) (meth : Method) (c : Code) (A : Nat → Prop) : Prop :=
  p.tables.exec = Jvm.exec ∧ c.code = y.2.1 ∧ c.maxLocals = y.2.2.1 ∧ s.vm.findClass y.1.cls = some m.cls ∧ (∀ w ∈ lw_ws, w.before args s = true) ∧ va_K D mCl (kTy tI) s ∧ (∀ q, s.heap.size ≤ q → A q) ∧ (y.1.name = "<init>" → meth.name = "<init>") ∧ kX s
def kI (D : va_G) (A : Nat → Prop) (s : State) (ws : va_W) (H : Heap) (locs : List Loc) : Prop := va_P D mCl ws H ∧ va_D A ws ∧ va_S A s.heap H locs
def kRm (d n z : Nat) : Room := { frames := d, cells := n, slots := z, locals := 32 * d }
def kB (D : va_G) (tI : ClassId × ClassId × ClassId) (ws0 : va_W) (sz : Nat) (U : State) : Prop := U.heap.size = sz ∧ va_P D mCl ws0 U.heap ∧ va_K D mCl (kTy tI) U ∧ va_D (fun _ => True) ws0 ∧ kX U
abbrev kQ (D : va_G) (B : va_W → Prop) (A1 : Nat → Prop) : Array Value → State → Outcome → State → Prop := va_Qv (fun _ : Unit => True) (fun _ t => ∃ w1, B w1 ∧ va_P D mCl w1 t.heap ∧ va_D A1 w1) A1
def kMet (D : va_G) (tI : ClassId × ClassId × ClassId) (y : mM) (d n z : Nat) (As : List Value) (ws0 : va_W) (B : va_W → Prop) : Prop := ∀ (l : Launch) (sz : Nat), Met l y.1 (mWs y) (kRm d n z) (va_Pc As (kB D tI ws0 sz)) (kQ D B (va_A ws0 sz)) n z (va_A ws0 sz)
theorem kB_blind {D : va_G} {tI : ClassId × ClassId × ClassId} {ws0 : va_W} {sz : Nat} {av : List Value} : FrameBlind (va_Pc av (kB D tI ws0 sz)) := by
  intro a U g mk q
  obtain ⟨q0, q1, qP, qK, qD, qX⟩ := q
  exact ⟨q0, q1, qP, va_K.moved (u := U) (U := U.calling g mk a) (Vm.Alike.refl U.vm) qK, qD, kX.same rfl qX⟩
theorem k_met {D : va_G} {tI : ClassId × ClassId × ClassId} {y : mM} {d n z nA : Nat} {As : List Value} {ws0 : va_W} {B : va_W → Prop} (hO : mOk y nA) (hret : y.2.2.2 = none) (hlen : Nat.ble (lg_sl As).length y.2.2.1 = true)
    (walk : ∀ (p : Program) (l : Launch) (e : Env) (s : State) (m : MethodId) (args : Array Value) (below : List Frame) (meth : Method) (c : Code) (A : Nat → Prop) (Z : State → Prop) (ls : Array Slot), kC D tI y p s m args meth c A → kI D A s ws0 s.heap [] → lv_has ls y.2.2.1 (lv_args 0 As) →
      (∀ (w1 : va_W) (H1 : Heap) (locs1 : List Loc) (pc1 : Nat) (ls1 : Array Slot), B w1 → decode y.2.1 pc1 = .ok (.return_, 1) → kI D A s w1 H1 locs1 → W p l e (kRm d n z) s m args below meth c H1 locs1 n z Z (F0 m pc1 ls1 [])) →
      W p l e (kRm d n z) s m args below meth c s.heap [] 0 0 Z (F0 m 0 ls [])) : kMet D tI y d n z As ws0 B := by
  intro l sz
  refine Met.ofW (cc := y.2.1) (maxL := y.2.2.1) (ret := none) hO.2.2.2.1 (by unfold mWs; rw [hret]) ?_
  intro p e s m args below meth c s₁ Bd hml hv
  obtain ⟨rfl, hsz, hP, hK, hD, hX⟩ := hv
  have hts0 := atoms_spec (ws := mWs y) Bd.pre
  have hts : ∀ w ∈ lw_ws, w.before As.toArray s = true := fun w hw => hts0 w (List.mem_cons_of_mem _ hw)
  have hown : s.vm.findClass y.1.cls = some m.cls := findClass_of_methodNamed Bd.named
  have hlocks := Bd.notSynchronized
  have hin : meth.name = y.1.name := (name_of_methodNamed Bd.named Bd.method).1
  subst hsz
  have hl := lv_entry As (n := y.2.2.1) (Nat.le_of_ble_eq_true hlen)
  rw [lg_entry_eq]
  generalize (lg_sl As ++ List.replicate (y.2.2.1 - (lg_sl As).length) Slot.unset).toArray = lsA at hl ⊢
  refine walk p l e s m As.toArray below meth c (va_A ws0 s.heap.size) _ lsA ⟨Bd.exec, Bd.bytes, hml, hown, hts, hK, fun q h => Or.inr h, fun h => hin.trans h, hX⟩ ⟨hP, hD.self, va_S.rf⟩ hl ?_
  intro w1 H1 locs1 pc1 ls1 hB hR hI
  exact W.vret Bd.exec Bd.bytes Bd.returns (fun t ht hW => ⟨⟨(), rfl, trivial, w1, hB, by rw [ht]; exact hI.1, hI.2.1⟩, hI.2.2.F ht⟩) hI.2.2.2.2 hR
def kNw (own : String) (idx ci : Nat) (fs : List Value) (N : Nat) : Prop := ∃ (q : vw_C) (ty : Nat → FieldType), mCl[ci]? = some q ∧ (∀ k, k < q.2.2 → parseFieldDescriptor (q.2.1 k).2.2.1 = some (ty k)) ∧ Cond.classLink own idx q.1 ∈ lw_ws ∧ Cond.instantiable q.1 q.2.2 ∈ lw_ws ∧ Cond.initialized q.1 ∈ lw_ws ∧ (∀ j, j < q.2.2 → defaultValue (ty j) = vp_V fs j) ∧ q.2.2 = N
def kFf (own : String) (idx ci j : Nat) (ds : String) : Prop := ∃ q : vw_C, mCl[ci]? = some q ∧ j < q.2.2 ∧ Cond.fieldLink own idx (q.2.1 j).1 (q.2.1 j).2.1 (q.2.1 j).2.2.1 ∈ lw_ws ∧ (q.2.1 j).2.2.2 = true ∧ (q.2.1 j).2.2.1 = ds ∧ (q.2.1 j).1 = own
theorem k_newi {D : va_G} {tI : ClassId × ClassId × ClassId} {y : mM} {p : Program} {l : Launch} {e : Env} {R : Room} {s : State} {m : MethodId} {args : Array Value} {below : List Frame} {meth : Method} {c : Code} {A : Nat → Prop} {H : Heap} {locs : List Loc} {cells slots : Nat} {Z : State → Prop} {ws : va_W} {pc pc2 : Nat} {ls : Array Slot} {rest : List Value} (C : kC D tI y p s m args meth c A) (hI : kI D A s ws H locs) {n : Int32} {N c2 z2 : Nat} (hd : mD y pc (.newarray .int) 2 pc2) (hn : ¬ n < 0) (hN : n.toNatClampNeg = N) (hb : Nat.ble (N * componentBytes .int) 536870912 = true) (hc : cells + 1 = c2) (hz : slots + N = z2) (hR1 : Nat.ble c2 R.cells = true) (hR2 : Nat.ble z2 R.slots = true)
    (kk : ∀ (q : Nat) (H1 : Heap), kI D A s (ws ++ [(q, .inl (tI.1, N, .inl (fun _ => 0)))]) H1 locs → W p l e R s m args below meth c H1 locs c2 z2 Z (F0 m pc2 ls (.ref q :: rest))) : W p l e R s m args below meth c H locs cells slots Z (F0 m pc ls (.int n :: rest)) := by
  obtain ⟨hdg, rfl⟩ := hd
  subst hc; subst hz
  refine va_newa (D := D) (cl := mCl) (tys := kTy tI) (atype := .int) (a0 := (N, .inl fun _ => 0)) C.1 C.2.1 (C.2.2.2.2.1 (.arrayClass .int) (lw_in (i := 68) (by decide +kernel))) rfl C.2.2.2.2.2.1 hI.1 hI.2.1 hI.2.2 C.2.2.2.2.2.2.1 (fun _ => rfl) hn hN (Nat.le_of_ble_eq_true hb) (Nat.le_of_ble_eq_true hR1) (Nat.le_of_ble_eq_true hR2) hdg (fun q cA H1 hK1 hP1 hD1 hS1 => ?_)
  have e1 : s.vm.findClass ("[" ++ (FieldType.int).toString) = some cA := (hK1.2 3 (cA, .int) rfl).2
  have e2 : s.vm.findClass ("[" ++ (FieldType.int).toString) = some tI.1 := (hK1.2 0 (tI.1, .int) rfl).2
  obtain rfl : tI.1 = cA := Option.some.inj (e2.symm.trans e1)
  exact kk q H1 ⟨hP1, hD1, hS1⟩
theorem k_newz {D : va_G} {tI : ClassId × ClassId × ClassId} {y : mM} {p : Program} {l : Launch} {e : Env} {R : Room} {s : State} {m : MethodId} {args : Array Value} {below : List Frame} {meth : Method} {c : Code} {A : Nat → Prop} {H : Heap} {locs : List Loc} {cells slots : Nat} {Z : State → Prop} {ws : va_W} {pc pc2 : Nat} {ls : Array Slot} {rest : List Value} (C : kC D tI y p s m args meth c A) (hI : kI D A s ws H locs) {n : Int32} {N c2 z2 : Nat} (hd : mD y pc (.newarray .boolean) 2 pc2) (hn : ¬ n < 0) (hN : n.toNatClampNeg = N) (hb : Nat.ble (N * componentBytes .boolean) 536870912 = true) (hc : cells + 1 = c2) (hz : slots + N = z2) (hR1 : Nat.ble c2 R.cells = true) (hR2 : Nat.ble z2 R.slots = true)
    (kk : ∀ (q : Nat) (H1 : Heap), kI D A s (ws ++ [(q, .inl (tI.2.1, N, .inl (fun _ => 0)))]) H1 locs → W p l e R s m args below meth c H1 locs c2 z2 Z (F0 m pc2 ls (.ref q :: rest))) : W p l e R s m args below meth c H locs cells slots Z (F0 m pc ls (.int n :: rest)) := by
  obtain ⟨hdg, rfl⟩ := hd
  subst hc; subst hz
  refine va_newa (D := D) (cl := mCl) (tys := kTy tI) (atype := .boolean) (a0 := (N, .inl fun _ => 0)) C.1 C.2.1 (C.2.2.2.2.1 (.arrayClass .boolean) (lw_in (i := 783) (by decide +kernel))) rfl C.2.2.2.2.2.1 hI.1 hI.2.1 hI.2.2 C.2.2.2.2.2.2.1 (fun _ => rfl) hn hN (Nat.le_of_ble_eq_true hb) (Nat.le_of_ble_eq_true hR1) (Nat.le_of_ble_eq_true hR2) hdg (fun q cA H1 hK1 hP1 hD1 hS1 => ?_)
  have e1 : s.vm.findClass ("[" ++ (FieldType.boolean).toString) = some cA := (hK1.2 3 (cA, .boolean) rfl).2
  have e2 : s.vm.findClass ("[" ++ (FieldType.boolean).toString) = some tI.2.1 := (hK1.2 1 (tI.2.1, .boolean) rfl).2
  obtain rfl : tI.2.1 = cA := Option.some.inj (e2.symm.trans e1)
  exact kk q H1 ⟨hP1, hD1, hS1⟩
theorem k_newq {D : va_G} {tI : ClassId × ClassId × ClassId} {y : mM} {p : Program} {l : Launch} {e : Env} {R : Room} {s : State} {m : MethodId} {args : Array Value} {below : List Frame} {meth : Method} {c : Code} {A : Nat → Prop} {H : Heap} {locs : List Loc} {cells slots : Nat} {Z : State → Prop} {ws : va_W} {pc pc2 : Nat} {ls : Array Slot} {rest : List Value} (C : kC D tI y p s m args meth c A) (hI : kI D A s ws H locs) {n : Int32} {idx N c2 z2 : Nat} (hd : mD y pc (.anewarray idx) 3 pc2) (hl : Cond.classLink y.1.cls idx "AgeFerry$Sheet" ∈ lw_ws) (hn : ¬ n < 0) (hN : n.toNatClampNeg = N) (hb : Nat.ble (N * 4) 536870912 = true) (hc : cells + 1 = c2) (hz : slots + N = z2) (hR1 : Nat.ble c2 R.cells = true) (hR2 : Nat.ble z2 R.slots = true)
    (kk : ∀ (q : Nat) (H1 : Heap), kI D A s (ws ++ [(q, .inl (tI.2.2, N, .inr (.inr (.inr (.inr (fun _ => none))))))]) H1 locs → W p l e R s m args below meth c H1 locs c2 z2 Z (F0 m pc2 ls (.ref q :: rest))) : W p l e R s m args below meth c H locs cells slots Z (F0 m pc ls (.int n :: rest)) := by
  obtain ⟨hdg, rfl⟩ := hd
  subst hc; subst hz
  refine va_newq (D := D) (cl := mCl) (tys := kTy tI) C.1 C.2.1 C.2.2.2.1 (C.2.2.2.2.1 _ hl) C.2.2.2.2.2.2.2.2.2.2 C.2.2.2.2.2.1 hI.1 hI.2.1 hI.2.2 C.2.2.2.2.2.2.1 hn hN (Nat.le_of_ble_eq_true hb) (Nat.le_of_ble_eq_true hR1) (Nat.le_of_ble_eq_true hR2) hdg (fun q cA H1 hK1 hP1 hD1 hS1 => ?_)
  obtain ⟨_, _, _, _, _, e1⟩ := (hK1.2 3 (cA, .object "AgeFerry$Sheet") rfl).2
  obtain ⟨_, _, _, _, _, e2⟩ := (hK1.2 2 (tI.2.2, .object "AgeFerry$Sheet") rfl).2
  obtain rfl : tI.2.2 = cA := Option.some.inj (e2.symm.trans e1)
  exact kk q H1 ⟨hP1, hD1, hS1⟩
theorem k_new {D : va_G} {tI : ClassId × ClassId × ClassId} {y : mM} {p : Program} {l : Launch} {e : Env} {R : Room} {s : State} {m : MethodId} {args : Array Value} {below : List Frame} {meth : Method} {c : Code} {A : Nat → Prop} {H : Heap} {locs : List Loc} {cells slots : Nat} {Z : State → Prop} {ws : va_W} {pc pc2 : Nat} {ls : Array Slot} {rest : List Value} (C : kC D tI y p s m args meth c A) (hI : kI D A s ws H locs) {idx ci N c2 z2 : Nat} {fs : List Value} (hd : mD y pc (.new idx) 3 pc2) (hq : kNw y.1.cls idx ci fs N) (hc : cells + 1 = c2) (hz : slots + N = z2) (hR1 : Nat.ble c2 R.cells = true) (hR2 : Nat.ble z2 R.slots = true)
    (kk : ∀ (q : Nat) (H1 : Heap), kI D A s (ws ++ [(q, .inr (ci, fs))]) H1 locs → W p l e R s m args below meth c H1 locs c2 z2 Z (F0 m pc2 ls (.ref q :: rest))) : W p l e R s m args below meth c H locs cells slots Z (F0 m pc ls (rest)) := by
  obtain ⟨hdg, rfl⟩ := hd
  subst hc; subst hz
  obtain ⟨q, ty, h1, h2, h3, h4, h5, h6, rfl⟩ := hq
  exact va_new (D := D) (cl := mCl) (tys := kTy tI) (C := q.1) (T := q.2.1) (N := q.2.2) C.1 C.2.1 C.2.2.2.2.1 (mCl_ok ci q h1).1 ty h2 C.2.2.2.1 (C.2.2.2.2.1 _ h3) (C.2.2.2.2.1 _ h4) (C.2.2.2.2.1 _ h5) C.2.2.2.2.2.1 hI.1 hI.2.1 hI.2.2 C.2.2.2.2.2.2.1 h1 h6 (Nat.le_of_ble_eq_true hR1) (Nat.le_of_ble_eq_true hR2) hdg (fun q H1 hP1 hD1 hS1 => kk q H1 ⟨hP1, hD1, hS1⟩)
theorem k_putF {D : va_G} {tI : ClassId × ClassId × ClassId} {y : mM} {p : Program} {l : Launch} {e : Env} {R : Room} {s : State} {m : MethodId} {args : Array Value} {below : List Frame} {meth : Method} {c : Code} {A : Nat → Prop} {H : Heap} {locs : List Loc} {cells slots : Nat} {Z : State → Prop} {ws : va_W} {pc pc2 : Nat} {ls : Array Slot} {rest : List Value} (C : kC D tI y p s m args meth c A) (hI : kI D A s ws H locs) {idx ci j a : Nat} {ds : String} {ty : FieldType} {v : Value} {fs : List Value} (hd : mD y pc (.putfield idx) 3 pc2) (hf : kFf y.1.cls idx ci j ds) (hi : y.1.name = "<init>") (hds : parseFieldDescriptor ds = some ty) (hn : narrow ty v = v) (hfit : fits ty v = true) (q0 : Nat) (he : ws[q0]? = some (a, .inr (ci, fs))) (hl : Nat.ble (j + 1) fs.length = true)
    (kk : ∀ (H1 : Heap) (locs1 : List Loc), kI D A s (ws.set q0 (a, .inr (ci, fs.set j v))) H1 locs1 → W p l e R s m args below meth c H1 locs1 cells slots Z (F0 m pc2 ls (rest))) : W p l e R s m args below meth c H locs cells slots Z (F0 m pc ls (v :: .ref a :: rest)) := by
  obtain ⟨hdg, rfl⟩ := hd
  obtain ⟨q, h1, h2, h3, h4, h5, h6⟩ := hf
  obtain ⟨ty0, hty⟩ := (mCl_ok ci q h1).2.1
  exact va_putF (D := D) (cl := mCl) (tys := kTy tI) (C := q.1) (T := q.2.1) (N := q.2.2) C.1 C.2.1 C.2.2.2.2.1 (mCl_ok ci q h1).1 ty0 hty (mCl_ok ci q h1).2.2 C.2.2.2.1 C.2.2.2.2.2.1 hI.1 hI.2.1 hI.2.2 q0 he h1 j h2 (C.2.2.2.2.1 _ h3) (fun _ h9 => h9) h4 (C.2.2.2.2.2.2.2.1 hi) h6 (by rw [h5]; exact hds) hn hfit (Nat.le_of_ble_eq_true hl) hdg (fun H1 locs1 hP1 hD1 hS1 => kk H1 locs1 ⟨hP1, hD1, hS1⟩)
theorem k_putI {D : va_G} {tI : ClassId × ClassId × ClassId} {y : mM} {p : Program} {l : Launch} {e : Env} {R : Room} {s : State} {m : MethodId} {args : Array Value} {below : List Frame} {meth : Method} {c : Code} {A : Nat → Prop} {H : Heap} {locs : List Loc} {cells slots : Nat} {Z : State → Prop} {ws : va_W} {pc pc2 : Nat} {ls : Array Slot} {rest : List Value} (C : kC D tI y p s m args meth c A) (hI : kI D A s ws H locs) {idx ci j a : Nat} {ds : String} {ty : FieldType} {v : Value} {fs : List Value} (hd : mD y pc (.putfield idx) 3 pc2) (hf : mFp y.1.cls idx ci j ds) (hds : parseFieldDescriptor ds = some ty) (hn : narrow ty v = v) (hfit : fits ty v = true) (q0 : Nat) (he : ws[q0]? = some (a, .inr (ci, fs))) (hl : Nat.ble (j + 1) fs.length = true)
    (kk : ∀ (H1 : Heap) (locs1 : List Loc), kI D A s (ws.set q0 (a, .inr (ci, fs.set j v))) H1 locs1 → W p l e R s m args below meth c H1 locs1 cells slots Z (F0 m pc2 ls (rest))) : W p l e R s m args below meth c H locs cells slots Z (F0 m pc ls (v :: .ref a :: rest)) := by
  obtain ⟨hdg, rfl⟩ := hd
  obtain ⟨q, h1, h2, h3, h4, h5⟩ := hf
  obtain ⟨ty0, hty⟩ := (mCl_ok ci q h1).2.1
  exact va_put (D := D) (cl := mCl) (tys := kTy tI) (C := q.1) (T := q.2.1) (N := q.2.2) C.1 C.2.1 C.2.2.2.2.1 (mCl_ok ci q h1).1 ty0 hty (mCl_ok ci q h1).2.2 C.2.2.2.1 C.2.2.2.2.2.1 hI.1 hI.2.1 hI.2.2 q0 he h1 j h2 (C.2.2.2.2.1 _ h3) (fun _ h9 => h9) h4 (by rw [h5]; exact hds) hn hfit (Nat.le_of_ble_eq_true hl) hdg (fun H1 locs1 hP1 hD1 hS1 => kk H1 locs1 ⟨hP1, hD1, hS1⟩)
theorem k_get {D : va_G} {tI : ClassId × ClassId × ClassId} {y : mM} {p : Program} {l : Launch} {e : Env} {R : Room} {s : State} {m : MethodId} {args : Array Value} {below : List Frame} {meth : Method} {c : Code} {A : Nat → Prop} {H : Heap} {locs : List Loc} {cells slots : Nat} {Z : State → Prop} {ws : va_W} {pc pc2 : Nat} {ls : Array Slot} {rest : List Value} (C : kC D tI y p s m args meth c A) (hI : kI D A s ws H locs) {idx ci j a : Nat} {v : Value} {fs : List Value} (hd : mD y pc (.getfield idx) 3 pc2) (hf : mFd y.1.cls idx ci j) (q0 : Nat) (he : ws[q0]? = some (a, .inr (ci, fs))) (hv : fs[j]? = some v)
    (kk : W p l e R s m args below meth c H locs cells slots Z (F0 m pc2 ls (v :: rest))) : W p l e R s m args below meth c H locs cells slots Z (F0 m pc ls (.ref a :: rest)) := by
  obtain ⟨hdg, rfl⟩ := hd
  obtain ⟨q, h1, h2, h3⟩ := hf
  exact va_get (D := D) (cl := mCl) (tys := kTy tI) (C := q.1) (T := q.2.1) (N := q.2.2) C.1 C.2.1 C.2.2.2.2.1 (mCl_ok ci q h1).1 C.2.2.2.1 C.2.2.2.2.2.1 hI.1 q0 he h1 j h2 (C.2.2.2.2.1 _ h3) (fun _ h9 => h9) hv hdg kk
theorem k_iast {D : va_G} {tI : ClassId × ClassId × ClassId} {y : mM} {p : Program} {l : Launch} {e : Env} {R : Room} {s : State} {m : MethodId} {args : Array Value} {below : List Frame} {meth : Method} {c : Code} {A : Nat → Prop} {H : Heap} {locs : List Loc} {cells slots : Nat} {Z : State → Prop} {ws : va_W} {pc pc2 : Nat} {ls : Array Slot} {rest : List Value} (C : kC D tI y p s m args meth c A) (hI : kI D A s ws H locs) {a n j : Nat} {f : Nat → Int32} {i x : Int32} (hd : mD y pc .iastore 1 pc2) (q0 : Nat) (he : ws[q0]? = some (a, .inl (tI.1, n, .inl f))) (hin : vp_in i n) (hj : i.toNatClampNeg = j)
    (kk : ∀ (H1 : Heap) (locs1 : List Loc), kI D A s (ws.set q0 (a, .inl (tI.1, n, .inl (upd f j x)))) H1 locs1 → W p l e R s m args below meth c H1 locs1 cells slots Z (F0 m pc2 ls (rest))) : W p l e R s m args below meth c H locs cells slots Z (F0 m pc ls (.int x :: .int i :: .ref a :: rest)) := by
  obtain ⟨hdg, rfl⟩ := hd
  subst hj
  exact va_iast (D := D) (cl := mCl) (tys := kTy tI) C.1 C.2.1 C.2.2.2.2.2.1 hI.1 hI.2.1 hI.2.2 q0 0 he rfl hin hdg (fun H1 locs1 hP1 hD1 hS1 => kk H1 locs1 ⟨hP1, hD1, hS1⟩)
theorem k_ast {D : va_G} {tI : ClassId × ClassId × ClassId} {y : mM} {p : Program} {l : Launch} {e : Env} {R : Room} {s : State} {m : MethodId} {args : Array Value} {below : List Frame} {meth : Method} {c : Code} {A : Nat → Prop} {H : Heap} {locs : List Loc} {cells slots : Nat} {Z : State → Prop} {ws : va_W} {pc pc2 : Nat} {ls : Array Slot} {rest : List Value} (C : kC D tI y p s m args meth c A) (hI : kI D A s ws H locs) {a n j v : Nat} {vs : List Value} {f : Nat → Option Nat} {i : Int32} (hd : mD y pc .aastore 1 pc2) (q0 qk : Nat) (he : ws[q0]? = some (a, .inl (tI.2.2, n, .inr (.inr (.inr (.inr f)))))) (hv : ws[qk]? = some (v, .inr (3, vs))) (hin : vp_in i n) (hj : i.toNatClampNeg = j)
    (kk : ∀ (H1 : Heap) (locs1 : List Loc), kI D A s (ws.set q0 (a, .inl (tI.2.2, n, .inr (.inr (.inr (.inr (va_up f j (some v)))))))) H1 locs1 → W p l e R s m args below meth c H1 locs1 cells slots Z (F0 m pc2 ls (rest))) : W p l e R s m args below meth c H locs cells slots Z (F0 m pc ls (.ref v :: .int i :: .ref a :: rest)) := by
  obtain ⟨hdg, rfl⟩ := hd
  subst hj
  exact va_astq (D := D) (cl := mCl) (tys := kTy tI) C.1 C.2.1 C.2.2.2.2.2.1 hI.1 hI.2.1 hI.2.2 q0 2 qk 3 (r := ("AgeFerry$Sheet", mT3, 3)) he rfl hv rfl hin hdg (fun H1 locs1 hP1 hD1 hS1 => kk H1 locs1 ⟨hP1, hD1, hS1⟩)
theorem k_obj {D : va_G} {tI : ClassId × ClassId × ClassId} {y : mM} {p : Program} {l : Launch} {e : Env} {R : Room} {s : State} {m : MethodId} {args : Array Value} {below : List Frame} {meth : Method} {c : Code} {A : Nat → Prop} {H : Heap} {locs : List Loc} {cells slots : Nat} {Z : State → Prop} {ws : va_W} {pc pc2 : Nat} {ls : Array Slot} {rest : List Value} (C : kC D tI y p s m args meth c A) {lv : List (Nat × Value)} {idx a : Nat} (hl : lv_has ls y.2.2.1 lv) (hd : mD y pc (.invokespecial idx) 3 pc2) (hL : Cond.methodLink y.1.cls idx Lib.objectInit ∈ lw_ws) (hR1 : Nat.ble 1 R.frames = true) (hR2 : Nat.ble 32 R.locals = true) (hrm : Nat.ble (rest.map fun v => v.category).sum 8 = true)
    (kk : W p l e R s m args below meth c H locs cells slots Z (F0 m pc2 ls (rest))) : W p l e R s m args below meth c H locs cells slots Z (F0 m pc ls (.ref a :: rest)) := by
  obtain ⟨hdg, rfl⟩ := hd
  have h1 := Nat.le_of_ble_eq_true hR2
  have h2 := Nat.le_of_ble_eq_true hrm
  refine W.objInit (a := a) (rest := rest) C.1 C.2.1 C.2.2.2.1 (C.2.2.2.2.1 _ hL) (C.2.2.2.2.1 _ (lw_in (i := 18) (by decide +kernel))) (C.2.2.2.2.1 _ (lw_in (i := 19) (by decide +kernel))) rfl (hl.1.trans C.2.2.1.symm) rfl hdg (Nat.le_of_ble_eq_true hR1) (by show 2 * 0 + _ + 12 ≤ _; omega) ?_
  exact W.eq (g2 := F0 m (pc + 3) ls rest) rfl kk
theorem k_call {D : va_G} {tI : ClassId × ClassId × ClassId} {y : mM} {p : Program} {l : Launch} {e : Env} {R : Room} {s : State} {m : MethodId} {args : Array Value} {below : List Frame} {meth : Method} {c : Code} {A : Nat → Prop} {H : Heap} {locs : List Loc} {cells slots : Nat} {Z : State → Prop} {ws : va_W} {pc pc2 : Nat} {ls : Array Slot} {rest : List Value} (C : kC D tI y p s m args meth c A) (hI : kI D A s ws H locs) {lv : List (Nat × Value)} (hl : lv_has ls y.2.2.1 lv) {y2 : mM} {idx n d2 n2 z2 c3 z3 b : Nat} {As st0 : List Value} {wc : va_W} (wr : va_W) {B : va_W → Prop} (hd : mD y pc (.invokespecial idx) 3 pc2) (hL : Cond.methodLink y.1.cls idx y2.1 ∈ lw_ws) (hL2 : Cond.instanceMethod y2.1 ∈ lw_ws) (hO : mOk y2 n) (hret : y2.2.2.2 = none) (hi : y2.1.name = "<init>") (hn : As.length = n) (hM : kMet D tI y2 d2 n2 z2 (.ref b :: As) wc B) (hR1 : Nat.ble (d2 + 1) R.frames = true) (hR2 : Nat.ble (32 * d2 + 32) R.locals = true) (isC isR : List Nat) (hC : isC.map (fun i => ws[i]?) = wc.map some) (hC2 : isC.filterMap (fun i => ws[i]?) = wc) (hRr : isR.map (fun i => ws[i]?) = wr.map some) (hnc : va_nd isC = true) (hnr : va_nd isR = true) (hdis : ∀ i ∈ isR, i ∉ isC) (hst : As.reverse ++ .ref b :: rest = st0) (hrm : Nat.ble (rest.map fun v => v.category).sum 8 = true) (hc : cells + n2 = c3) (hz : slots + z2 = z3) (hR3 : Nat.ble c3 R.cells = true) (hR4 : Nat.ble z3 R.slots = true)
    (kk : ∀ (w1 : va_W) (H1 : Heap) (locs1 : List Loc), B w1 → kI D A s (wr ++ w1) H1 locs1 → W p l e R s m args below meth c H1 locs1 c3 z3 Z (F0 m pc2 ls (rest))) : W p l e R s m args below meth c H locs cells slots Z (F0 m pc ls (st0)) := by
  obtain ⟨hdg, rfl⟩ := hd
  subst hst; subst hc; subst hz
  have hr1 := Nat.le_of_ble_eq_true hR1
  have hr2 := Nat.le_of_ble_eq_true hR2
  have cw := callB_of (R := R) (s := s) (args := args) (own := y.1.cls) (index := idx) (y := y2.1) (bytes := y2.2.1) (maxL := y2.2.2.1) (ret := none) (rm := kRm d2 n2 z2) (mc := n2) (ms := z2) n C.2.2.2.2.1 (mWs_in hO) (by unfold mWs; rw [hret]) rfl rfl (C.2.2.2.2.1 _ hO.2.1) (C.2.2.2.2.1 _ hL) ⟨hO.2.2.1.1, hO.2.2.1.2, hO.2.2.2.2.2.1⟩ ⟨hr1, by show _ + 32 * d2 ≤ _; have := hO.2.2.2.2.1; omega⟩
  have hPc := hI.1.sub (ws' := wc) isC hC2
  have hDc := hI.2.1.sub (ws' := wc) isC hnc hC
  have hFc := va_free (wc := wc) hI.2.1 hI.2.2 C.2.2.2.2.2.2.1 isC hC
  refine va_callv (va_runI (As := As) (rest := rest) (g := F0 m pc ls (As.reverse ++ .ref b :: rest)) ⟨C.1, C.2.1, C.2.2.1, C.2.2.2.1, C.2.2.2.2.1⟩ (hM l H.size) ⟨cw, hi, C.2.2.2.2.1 _ hL2⟩ ⟨kB_blind, fun U hU hW => ⟨rfl, by rw [hU], by rw [hU]; exact hPc, va_K.moved hW.alike C.2.2.2.2.2.1, hDc.weaken (fun _ _ _ _ => trivial), kX.warm hW C.2.2.2.2.2.2.2.2⟩⟩ rfl hn hl.1 rfl (lv_room (Nat.le_of_ble_eq_true hrm)) hdg ⟨Nat.le_of_ble_eq_true hR3, Nat.le_of_ble_eq_true hR4⟩) hI.2.2 (fun q _ h => hFc q h) hFc (fun u t H1 locs1 ht hvm hw hB hz1 hk1 hS1 => ?_)
  obtain ⟨w1, hb, hP1, hD1⟩ := hB
  rw [ht] at hP1
  obtain ⟨hP2, hD2⟩ := va_join hI.1 hI.2.1 isC isR hC hRr hnr hdis hk1 hFc hP1 hD1
  exact kk w1 H1 locs1 hb ⟨hP2, hD2, hS1⟩
theorem k_callN {D : va_G} {tI : ClassId × ClassId × ClassId} {y : mM} {p : Program} {l : Launch} {e : Env} {R : Room} {s : State} {m : MethodId} {args : Array Value} {below : List Frame} {meth : Method} {c : Code} {A : Nat → Prop} {H : Heap} {locs : List Loc} {cells slots : Nat} {Z : State → Prop} {ws : va_W} {pc pc2 : Nat} {ls : Array Slot} {rest : List Value} (C : kC D tI y p s m args meth c A) (hI : kI D A s ws H locs) {lv : List (Nat × Value)} (hl : lv_has ls y.2.2.1 lv) {y2 : mM} {idx n d2 n2 z2 c3 z3 b : Nat} {As st0 : List Value} {wc : va_W} (wr : va_W) {B : va_W → Prop} (hd : mD y pc (.invokespecial idx) 3 pc2) (hL : kX s → va_Nw (.methodLinkNest y.1.cls idx y2.1 "AgeFerry") s) (hL2 : Cond.instanceMethod y2.1 ∈ lw_ws) (hO : mOk y2 n) (hret : y2.2.2.2 = none) (hi : y2.1.name = "<init>") (hn : As.length = n) (hM : kMet D tI y2 d2 n2 z2 (.ref b :: As) wc B) (hR1 : Nat.ble (d2 + 1) R.frames = true) (hR2 : Nat.ble (32 * d2 + 32) R.locals = true) (isC isR : List Nat) (hC : isC.map (fun i => ws[i]?) = wc.map some) (hC2 : isC.filterMap (fun i => ws[i]?) = wc) (hRr : isR.map (fun i => ws[i]?) = wr.map some) (hnc : va_nd isC = true) (hnr : va_nd isR = true) (hdis : ∀ i ∈ isR, i ∉ isC) (hst : As.reverse ++ .ref b :: rest = st0) (hrm : Nat.ble (rest.map fun v => v.category).sum 8 = true) (hc : cells + n2 = c3) (hz : slots + z2 = z3) (hR3 : Nat.ble c3 R.cells = true) (hR4 : Nat.ble z3 R.slots = true)
    (kk : ∀ (w1 : va_W) (H1 : Heap) (locs1 : List Loc), B w1 → kI D A s (wr ++ w1) H1 locs1 → W p l e R s m args below meth c H1 locs1 c3 z3 Z (F0 m pc2 ls (rest))) : W p l e R s m args below meth c H locs cells slots Z (F0 m pc ls (st0)) := by
  obtain ⟨hdg, rfl⟩ := hd
  subst hst; subst hc; subst hz
  have hr1 := Nat.le_of_ble_eq_true hR1
  have hr2 := Nat.le_of_ble_eq_true hR2
  have cw := va_cnB (R := R) (s := s) (args := args) (own := y.1.cls) (host := "AgeFerry") (index := idx) (y := y2.1) (bytes := y2.2.1) (maxL := y2.2.2.1) (ret := none) (rm := kRm d2 n2 z2) (mc := n2) (ms := z2) n C.2.2.2.2.1 (mWs_in hO) (by unfold mWs; rw [hret]) rfl rfl (hL C.2.2.2.2.2.2.2.2) (C.2.2.2.2.1 _ hO.2.1) ⟨hO.2.2.1.1, hO.2.2.1.2, hO.2.2.2.2.2.1⟩ ⟨hr1, by show _ + 32 * d2 ≤ _; have := hO.2.2.2.2.1; omega⟩
  have hPc := hI.1.sub (ws' := wc) isC hC2
  have hDc := hI.2.1.sub (ws' := wc) isC hnc hC
  have hFc := va_free (wc := wc) hI.2.1 hI.2.2 C.2.2.2.2.2.2.1 isC hC
  refine va_callv (va_runIN (As := As) (rest := rest) (g := F0 m pc ls (As.reverse ++ .ref b :: rest)) ⟨C.1, C.2.1, C.2.2.1, C.2.2.2.1, C.2.2.2.2.1⟩ (hM l H.size) ⟨cw, hi, C.2.2.2.2.1 _ hL2⟩ ⟨kB_blind, fun U hU hW => ⟨rfl, by rw [hU], by rw [hU]; exact hPc, va_K.moved hW.alike C.2.2.2.2.2.1, hDc.weaken (fun _ _ _ _ => trivial), kX.warm hW C.2.2.2.2.2.2.2.2⟩⟩ rfl hn hl.1 rfl (lv_room (Nat.le_of_ble_eq_true hrm)) hdg ⟨Nat.le_of_ble_eq_true hR3, Nat.le_of_ble_eq_true hR4⟩) hI.2.2 (fun q _ h => hFc q h) hFc (fun u t H1 locs1 ht hvm hw hB hz1 hk1 hS1 => ?_)
  obtain ⟨w1, hb, hP1, hD1⟩ := hB
  rw [ht] at hP1
  obtain ⟨hP2, hD2⟩ := va_join hI.1 hI.2.1 isC isR hC hRr hnr hdis hk1 hFc hP1 hD1
  exact kk w1 H1 locs1 hb ⟨hP2, hD2, hS1⟩
theorem kn_F_23 : kNw "AgeFerry" 23 0 [.null, .null, .null, .null, .null, .null, .int 0] 7 := ⟨("AgeFerry$Days", mT0, 7), mTy0, rfl, mTk0, lw_in (i := 90) (by decide +kernel), lw_in (i := 91) (by decide +kernel), lw_in (i := 4) (by decide +kernel), fun j hj => match j, hj with | 0, _ => rfl | 1, _ => rfl | 2, _ => rfl | 3, _ => rfl | 4, _ => rfl | 5, _ => rfl | 6, _ => rfl | k + 7, h => absurd h (by show ¬ k + 7 < 7; omega), rfl⟩
theorem kn_F_7 : kNw "AgeFerry" 7 1 [.null, .null, .null, .null, .null, .null, .int 0, .int 0, .int 0] 9 := ⟨("AgeFerry$People", mT1, 9), mTy1, rfl, mTk1, lw_in (i := 20) (by decide +kernel), lw_in (i := 21) (by decide +kernel), lw_in (i := 2) (by decide +kernel), fun j hj => match j, hj with | 0, _ => rfl | 1, _ => rfl | 2, _ => rfl | 3, _ => rfl | 4, _ => rfl | 5, _ => rfl | 6, _ => rfl | 7, _ => rfl | 8, _ => rfl | k + 9, h => absurd h (by show ¬ k + 9 < 9; omega), rfl⟩
theorem kn_F_16 : kNw "AgeFerry" 16 2 [.null, .null, .null] 3 := ⟨("AgeFerry$Rules", mT2, 3), mTy2, rfl, mTk2, lw_in (i := 69) (by decide +kernel), lw_in (i := 70) (by decide +kernel), lw_in (i := 3) (by decide +kernel), fun j hj => match j, hj with | 0, _ => rfl | 1, _ => rfl | 2, _ => rfl | k + 3, h => absurd h (by show ¬ k + 3 < 3; omega), rfl⟩
theorem kn_F_48 : kNw "AgeFerry" 48 3 [.null, .int 0, .int 0] 3 := ⟨("AgeFerry$Sheet", mT3, 3), mTy3, rfl, mTk3, lw_in (i := 157) (by decide +kernel), lw_in (i := 159) (by decide +kernel), lw_in (i := 7) (by decide +kernel), fun j hj => match j, hj with | 0, _ => rfl | 1, _ => rfl | 2, _ => rfl | k + 3, h => absurd h (by show ¬ k + 3 < 3; omega), rfl⟩
theorem kn_F_41 : kNw "AgeFerry" 41 4 [.null, .null, .null, .int 0] 4 := ⟨("AgeFerry$Sightings", mT4, 4), mTy4, rfl, mTk4, lw_in (i := 137) (by decide +kernel), lw_in (i := 138) (by decide +kernel), lw_in (i := 6) (by decide +kernel), fun j hj => match j, hj with | 0, _ => rfl | 1, _ => rfl | 2, _ => rfl | 3, _ => rfl | k + 4, h => absurd h (by show ¬ k + 4 < 4; omega), rfl⟩
theorem kn_F_32 : kNw "AgeFerry" 32 5 [.null, .null, .int 0, .int 0] 4 := ⟨("AgeFerry$Trip", mT5, 4), mTy5, rfl, mTk5, lw_in (i := 118) (by decide +kernel), lw_in (i := 119) (by decide +kernel), lw_in (i := 5) (by decide +kernel), fun j hj => match j, hj with | 0, _ => rfl | 1, _ => rfl | 2, _ => rfl | 3, _ => rfl | k + 4, h => absurd h (by show ¬ k + 4 < 4; omega), rfl⟩
theorem kn_L_7 : kNw "AgeFerryLaw" 7 6 [.null, .null, .null, .null, .null, .null, .null, .int 0] 8 := ⟨("AgeFerry", mT6, 8), mTy6, rfl, mTk6, lw_in (i := 12) (by decide +kernel), lw_in (i := 13) (by decide +kernel), lw_in (i := 1) (by decide +kernel), fun j hj => match j, hj with | 0, _ => rfl | 1, _ => rfl | 2, _ => rfl | 3, _ => rfl | 4, _ => rfl | 5, _ => rfl | 6, _ => rfl | 7, _ => rfl | k + 8, h => absurd h (by show ¬ k + 8 < 8; omega), rfl⟩
theorem kn_L_10 : kNw "AgeFerryLaw" 10 7 [.null, .null, .null, .null, .int 0, .null, .int 0, .int 0, .int 0, .null, .null, .null, .null, .null, .null, .null, .null, .null, .null, .null, .null, .null, .null, .null, .null, .null, .null, .int 0, .int 0, .null, .null] 31 := ⟨("AgeFerryModel", mT7, 31), mTy7, rfl, mTk7, lw_in (i := 683) (by decide +kernel), lw_in (i := 684) (by decide +kernel), lw_in (i := 8) (by decide +kernel), fun j hj => match j, hj with | 0, _ => rfl | 1, _ => rfl | 2, _ => rfl | 3, _ => rfl | 4, _ => rfl | 5, _ => rfl | 6, _ => rfl | 7, _ => rfl | 8, _ => rfl | 9, _ => rfl | 10, _ => rfl | 11, _ => rfl | 12, _ => rfl | 13, _ => rfl | 14, _ => rfl | 15, _ => rfl | 16, _ => rfl | 17, _ => rfl | 18, _ => rfl | 19, _ => rfl | 20, _ => rfl | 21, _ => rfl | 22, _ => rfl | 23, _ => rfl | 24, _ => rfl | 25, _ => rfl | 26, _ => rfl | 27, _ => rfl | 28, _ => rfl | 29, _ => rfl | 30, _ => rfl | k + 31, h => absurd h (by show ¬ k + 31 < 31; omega), rfl⟩
theorem mk_D_init : mOk m_D_init 2 := ⟨lw_in (i := 94) (by decide +kernel), lw_in (i := 4) (by decide +kernel), by decide +kernel⟩
theorem d_D_init_0 : mD m_D_init 0 (.aload_n 0) 1 1 := ⟨by decide +kernel, rfl⟩
theorem d_D_init_1 : mD m_D_init 1 (.invokespecial 3) 3 4 := ⟨by decide +kernel, rfl⟩
theorem d_D_init_4 : mD m_D_init 4 (.aload_n 0) 1 5 := ⟨by decide +kernel, rfl⟩
theorem d_D_init_5 : mD m_D_init 5 (.sipush 1024) 3 8 := ⟨by decide +kernel, rfl⟩
theorem d_D_init_8 : mD m_D_init 8 (.newarray .int) 2 10 := ⟨by decide +kernel, rfl⟩
theorem d_D_init_10 : mD m_D_init 10 (.putfield 11) 3 13 := ⟨by decide +kernel, rfl⟩
theorem kf_D_11 : kFf "AgeFerry$Days" 11 0 2 "[I" := ⟨_, rfl, by decide, lw_in (i := 98) (by decide +kernel), rfl, rfl, rfl⟩
theorem d_D_init_13 : mD m_D_init 13 (.aload_n 0) 1 14 := ⟨by decide +kernel, rfl⟩
theorem d_D_init_14 : mD m_D_init 14 (.sipush 1024) 3 17 := ⟨by decide +kernel, rfl⟩
theorem d_D_init_17 : mD m_D_init 17 (.newarray .int) 2 19 := ⟨by decide +kernel, rfl⟩
theorem d_D_init_19 : mD m_D_init 19 (.putfield 15) 3 22 := ⟨by decide +kernel, rfl⟩
theorem kf_D_15 : kFf "AgeFerry$Days" 15 0 3 "[I" := ⟨_, rfl, by decide, lw_in (i := 99) (by decide +kernel), rfl, rfl, rfl⟩
theorem d_D_init_22 : mD m_D_init 22 (.aload_n 0) 1 23 := ⟨by decide +kernel, rfl⟩
theorem d_D_init_23 : mD m_D_init 23 (.sipush 1024) 3 26 := ⟨by decide +kernel, rfl⟩
theorem d_D_init_26 : mD m_D_init 26 (.newarray .int) 2 28 := ⟨by decide +kernel, rfl⟩
theorem d_D_init_28 : mD m_D_init 28 (.putfield 18) 3 31 := ⟨by decide +kernel, rfl⟩
theorem kf_D_18 : kFf "AgeFerry$Days" 18 0 4 "[I" := ⟨_, rfl, by decide, lw_in (i := 100) (by decide +kernel), rfl, rfl, rfl⟩
theorem d_D_init_31 : mD m_D_init 31 (.aload_n 0) 1 32 := ⟨by decide +kernel, rfl⟩
theorem d_D_init_32 : mD m_D_init 32 (.sipush 1024) 3 35 := ⟨by decide +kernel, rfl⟩
theorem d_D_init_35 : mD m_D_init 35 (.newarray .int) 2 37 := ⟨by decide +kernel, rfl⟩
theorem d_D_init_37 : mD m_D_init 37 (.putfield 21) 3 40 := ⟨by decide +kernel, rfl⟩
theorem kf_D_21 : kFf "AgeFerry$Days" 21 0 5 "[I" := ⟨_, rfl, by decide, lw_in (i := 101) (by decide +kernel), rfl, rfl, rfl⟩
theorem d_D_init_40 : mD m_D_init 40 (.aload_n 0) 1 41 := ⟨by decide +kernel, rfl⟩
theorem d_D_init_41 : mD m_D_init 41 (.iconst 1) 1 42 := ⟨by decide +kernel, rfl⟩
theorem d_D_init_42 : mD m_D_init 42 (.putfield 24) 3 45 := ⟨by decide +kernel, rfl⟩
theorem d_D_init_45 : mD m_D_init 45 (.aload_n 0) 1 46 := ⟨by decide +kernel, rfl⟩
theorem d_D_init_46 : mD m_D_init 46 (.aload_n 1) 1 47 := ⟨by decide +kernel, rfl⟩
theorem d_D_init_47 : mD m_D_init 47 (.putfield 28) 3 50 := ⟨by decide +kernel, rfl⟩
theorem kf_D_28 : kFf "AgeFerry$Days" 28 0 0 "LAgeFerry$People;" := ⟨_, rfl, by decide, lw_in (i := 96) (by decide +kernel), rfl, rfl, rfl⟩
theorem d_D_init_50 : mD m_D_init 50 (.aload_n 0) 1 51 := ⟨by decide +kernel, rfl⟩
theorem d_D_init_51 : mD m_D_init 51 (.aload_n 2) 1 52 := ⟨by decide +kernel, rfl⟩
theorem d_D_init_52 : mD m_D_init 52 (.putfield 32) 3 55 := ⟨by decide +kernel, rfl⟩
theorem kf_D_32 : kFf "AgeFerry$Days" 32 0 1 "LAgeFerry$Rules;" := ⟨_, rfl, by decide, lw_in (i := 97) (by decide +kernel), rfl, rfl, rfl⟩
theorem d_D_init_55 : mD m_D_init 55 (.return_) 1 56 := ⟨by decide +kernel, rfl⟩
theorem mk_F_init : mOk m_F_init 0 := ⟨lw_in (i := 16) (by decide +kernel), lw_in (i := 1) (by decide +kernel), by decide +kernel⟩
theorem d_F_init_0 : mD m_F_init 0 (.aload_n 0) 1 1 := ⟨by decide +kernel, rfl⟩
theorem d_F_init_1 : mD m_F_init 1 (.invokespecial 1) 3 4 := ⟨by decide +kernel, rfl⟩
theorem d_F_init_4 : mD m_F_init 4 (.aload_n 0) 1 5 := ⟨by decide +kernel, rfl⟩
theorem d_F_init_5 : mD m_F_init 5 (.new 7) 3 8 := ⟨by decide +kernel, rfl⟩
theorem d_F_init_8 : mD m_F_init 8 (.dup) 1 9 := ⟨by decide +kernel, rfl⟩
theorem d_F_init_9 : mD m_F_init 9 (.invokespecial 9) 3 12 := ⟨by decide +kernel, rfl⟩
theorem d_F_init_12 : mD m_F_init 12 (.putfield 10) 3 15 := ⟨by decide +kernel, rfl⟩
theorem kf_F_10 : kFf "AgeFerry" 10 6 0 "LAgeFerry$People;" := ⟨_, rfl, by decide, lw_in (i := 177) (by decide +kernel), rfl, rfl, rfl⟩
theorem d_F_init_15 : mD m_F_init 15 (.aload_n 0) 1 16 := ⟨by decide +kernel, rfl⟩
theorem d_F_init_16 : mD m_F_init 16 (.new 16) 3 19 := ⟨by decide +kernel, rfl⟩
theorem d_F_init_19 : mD m_F_init 19 (.dup) 1 20 := ⟨by decide +kernel, rfl⟩
theorem d_F_init_20 : mD m_F_init 20 (.invokespecial 18) 3 23 := ⟨by decide +kernel, rfl⟩
theorem d_F_init_23 : mD m_F_init 23 (.putfield 19) 3 26 := ⟨by decide +kernel, rfl⟩
theorem kf_F_19 : kFf "AgeFerry" 19 6 1 "LAgeFerry$Rules;" := ⟨_, rfl, by decide, lw_in (i := 178) (by decide +kernel), rfl, rfl, rfl⟩
theorem d_F_init_26 : mD m_F_init 26 (.aload_n 0) 1 27 := ⟨by decide +kernel, rfl⟩
theorem d_F_init_27 : mD m_F_init 27 (.new 23) 3 30 := ⟨by decide +kernel, rfl⟩
theorem d_F_init_30 : mD m_F_init 30 (.dup) 1 31 := ⟨by decide +kernel, rfl⟩
theorem d_F_init_31 : mD m_F_init 31 (.aload_n 0) 1 32 := ⟨by decide +kernel, rfl⟩
theorem d_F_init_32 : mD m_F_init 32 (.getfield 10) 3 35 := ⟨by decide +kernel, rfl⟩
theorem d_F_init_35 : mD m_F_init 35 (.aload_n 0) 1 36 := ⟨by decide +kernel, rfl⟩
theorem d_F_init_36 : mD m_F_init 36 (.getfield 19) 3 39 := ⟨by decide +kernel, rfl⟩
theorem d_F_init_39 : mD m_F_init 39 (.invokespecial 25) 3 42 := ⟨by decide +kernel, rfl⟩
theorem d_F_init_42 : mD m_F_init 42 (.putfield 28) 3 45 := ⟨by decide +kernel, rfl⟩
theorem kf_F_28 : kFf "AgeFerry" 28 6 2 "LAgeFerry$Days;" := ⟨_, rfl, by decide, lw_in (i := 179) (by decide +kernel), rfl, rfl, rfl⟩
theorem d_F_init_45 : mD m_F_init 45 (.aload_n 0) 1 46 := ⟨by decide +kernel, rfl⟩
theorem d_F_init_46 : mD m_F_init 46 (.new 32) 3 49 := ⟨by decide +kernel, rfl⟩
theorem d_F_init_49 : mD m_F_init 49 (.dup) 1 50 := ⟨by decide +kernel, rfl⟩
theorem d_F_init_50 : mD m_F_init 50 (.aload_n 0) 1 51 := ⟨by decide +kernel, rfl⟩
theorem d_F_init_51 : mD m_F_init 51 (.getfield 28) 3 54 := ⟨by decide +kernel, rfl⟩
theorem d_F_init_54 : mD m_F_init 54 (.invokespecial 34) 3 57 := ⟨by decide +kernel, rfl⟩
theorem d_F_init_57 : mD m_F_init 57 (.putfield 37) 3 60 := ⟨by decide +kernel, rfl⟩
theorem kf_F_37 : kFf "AgeFerry" 37 6 3 "LAgeFerry$Trip;" := ⟨_, rfl, by decide, lw_in (i := 180) (by decide +kernel), rfl, rfl, rfl⟩
theorem d_F_init_60 : mD m_F_init 60 (.aload_n 0) 1 61 := ⟨by decide +kernel, rfl⟩
theorem d_F_init_61 : mD m_F_init 61 (.new 41) 3 64 := ⟨by decide +kernel, rfl⟩
theorem d_F_init_64 : mD m_F_init 64 (.dup) 1 65 := ⟨by decide +kernel, rfl⟩
theorem d_F_init_65 : mD m_F_init 65 (.invokespecial 43) 3 68 := ⟨by decide +kernel, rfl⟩
theorem d_F_init_68 : mD m_F_init 68 (.putfield 44) 3 71 := ⟨by decide +kernel, rfl⟩
theorem kf_F_44 : kFf "AgeFerry" 44 6 4 "LAgeFerry$Sightings;" := ⟨_, rfl, by decide, lw_in (i := 181) (by decide +kernel), rfl, rfl, rfl⟩
theorem d_F_init_71 : mD m_F_init 71 (.aload_n 0) 1 72 := ⟨by decide +kernel, rfl⟩
theorem d_F_init_72 : mD m_F_init 72 (.iconst 4) 1 73 := ⟨by decide +kernel, rfl⟩
theorem d_F_init_73 : mD m_F_init 73 (.anewarray 48) 3 76 := ⟨by decide +kernel, rfl⟩
theorem d_F_init_76 : mD m_F_init 76 (.putfield 50) 3 79 := ⟨by decide +kernel, rfl⟩
theorem kf_F_50 : kFf "AgeFerry" 50 6 5 "[LAgeFerry$Sheet;" := ⟨_, rfl, by decide, lw_in (i := 182) (by decide +kernel), rfl, rfl, rfl⟩
theorem d_F_init_79 : mD m_F_init 79 (.iconst 0) 1 80 := ⟨by decide +kernel, rfl⟩
theorem d_F_init_80 : mD m_F_init 80 (.istore_n 1) 1 81 := ⟨by decide +kernel, rfl⟩
theorem d_F_init_81 : mD m_F_init 81 (.iload_n 1) 1 82 := ⟨by decide +kernel, rfl⟩
theorem d_F_init_82 : mD m_F_init 82 (.iconst 4) 1 83 := ⟨by decide +kernel, rfl⟩
theorem d_F_init_83 : mJ m_F_init 83 (.if_icmp .ge 22) (22) 86 105 := ⟨by decide +kernel, rfl, rfl⟩
theorem d_F_init_86 : mD m_F_init 86 (.aload_n 0) 1 87 := ⟨by decide +kernel, rfl⟩
theorem d_F_init_87 : mD m_F_init 87 (.getfield 50) 3 90 := ⟨by decide +kernel, rfl⟩
theorem d_F_init_90 : mD m_F_init 90 (.iload_n 1) 1 91 := ⟨by decide +kernel, rfl⟩
theorem d_F_init_91 : mD m_F_init 91 (.new 48) 3 94 := ⟨by decide +kernel, rfl⟩
theorem d_F_init_94 : mD m_F_init 94 (.dup) 1 95 := ⟨by decide +kernel, rfl⟩
theorem d_F_init_95 : mD m_F_init 95 (.invokespecial 54) 3 98 := ⟨by decide +kernel, rfl⟩
theorem d_F_init_98 : mD m_F_init 98 (.aastore) 1 99 := ⟨by decide +kernel, rfl⟩
theorem d_F_init_99 : mD m_F_init 99 (.iinc 1 1) 3 102 := ⟨by decide +kernel, rfl⟩
theorem d_F_init_102 : mJ m_F_init 102 (.goto (-21)) (-21) 105 81 := ⟨by decide +kernel, rfl, rfl⟩
theorem d_F_init_105 : mD m_F_init 105 (.aload_n 0) 1 106 := ⟨by decide +kernel, rfl⟩
theorem d_F_init_106 : mD m_F_init 106 (.bipush 10) 2 108 := ⟨by decide +kernel, rfl⟩
theorem d_F_init_108 : mD m_F_init 108 (.newarray .int) 2 110 := ⟨by decide +kernel, rfl⟩
theorem d_F_init_110 : mD m_F_init 110 (.putfield 55) 3 113 := ⟨by decide +kernel, rfl⟩
theorem kf_F_55 : kFf "AgeFerry" 55 6 6 "[I" := ⟨_, rfl, by decide, lw_in (i := 183) (by decide +kernel), rfl, rfl, rfl⟩
theorem d_F_init_113 : mD m_F_init 113 (.return_) 1 114 := ⟨by decide +kernel, rfl⟩
theorem mk_G_init : mOk m_G_init 0 := ⟨lw_in (i := 141) (by decide +kernel), lw_in (i := 6) (by decide +kernel), by decide +kernel⟩
theorem d_G_init_0 : mD m_G_init 0 (.aload_n 0) 1 1 := ⟨by decide +kernel, rfl⟩
theorem d_G_init_1 : mD m_G_init 1 (.invokespecial 3) 3 4 := ⟨by decide +kernel, rfl⟩
theorem d_G_init_4 : mD m_G_init 4 (.aload_n 0) 1 5 := ⟨by decide +kernel, rfl⟩
theorem d_G_init_5 : mD m_G_init 5 (.bipush 8) 2 7 := ⟨by decide +kernel, rfl⟩
theorem d_G_init_7 : mD m_G_init 7 (.newarray .int) 2 9 := ⟨by decide +kernel, rfl⟩
theorem d_G_init_9 : mD m_G_init 9 (.putfield 11) 3 12 := ⟨by decide +kernel, rfl⟩
theorem kf_G_11 : kFf "AgeFerry$Sightings" 11 4 0 "[I" := ⟨_, rfl, by decide, lw_in (i := 143) (by decide +kernel), rfl, rfl, rfl⟩
theorem d_G_init_12 : mD m_G_init 12 (.aload_n 0) 1 13 := ⟨by decide +kernel, rfl⟩
theorem d_G_init_13 : mD m_G_init 13 (.bipush 8) 2 15 := ⟨by decide +kernel, rfl⟩
theorem d_G_init_15 : mD m_G_init 15 (.newarray .int) 2 17 := ⟨by decide +kernel, rfl⟩
theorem d_G_init_17 : mD m_G_init 17 (.putfield 15) 3 20 := ⟨by decide +kernel, rfl⟩
theorem kf_G_15 : kFf "AgeFerry$Sightings" 15 4 1 "[I" := ⟨_, rfl, by decide, lw_in (i := 144) (by decide +kernel), rfl, rfl, rfl⟩
theorem d_G_init_20 : mD m_G_init 20 (.aload_n 0) 1 21 := ⟨by decide +kernel, rfl⟩
theorem d_G_init_21 : mD m_G_init 21 (.bipush 8) 2 23 := ⟨by decide +kernel, rfl⟩
theorem d_G_init_23 : mD m_G_init 23 (.newarray .int) 2 25 := ⟨by decide +kernel, rfl⟩
theorem d_G_init_25 : mD m_G_init 25 (.putfield 18) 3 28 := ⟨by decide +kernel, rfl⟩
theorem kf_G_18 : kFf "AgeFerry$Sightings" 18 4 2 "[I" := ⟨_, rfl, by decide, lw_in (i := 145) (by decide +kernel), rfl, rfl, rfl⟩
theorem d_G_init_28 : mD m_G_init 28 (.return_) 1 29 := ⟨by decide +kernel, rfl⟩
theorem mk_M_init : mOk m_M_init 0 := ⟨lw_in (i := 687) (by decide +kernel), lw_in (i := 8) (by decide +kernel), by decide +kernel⟩
theorem d_M_init_0 : mD m_M_init 0 (.aload_n 0) 1 1 := ⟨by decide +kernel, rfl⟩
theorem d_M_init_1 : mD m_M_init 1 (.invokespecial 1) 3 4 := ⟨by decide +kernel, rfl⟩
theorem d_M_init_4 : mD m_M_init 4 (.aload_n 0) 1 5 := ⟨by decide +kernel, rfl⟩
theorem d_M_init_5 : mD m_M_init 5 (.iconst 4) 1 6 := ⟨by decide +kernel, rfl⟩
theorem d_M_init_6 : mD m_M_init 6 (.newarray .int) 2 8 := ⟨by decide +kernel, rfl⟩
theorem d_M_init_8 : mD m_M_init 8 (.putfield 7) 3 11 := ⟨by decide +kernel, rfl⟩
theorem kf_M_7 : kFf "AgeFerryModel" 7 7 0 "[I" := ⟨_, rfl, by decide, lw_in (i := 689) (by decide +kernel), rfl, rfl, rfl⟩
theorem d_M_init_11 : mD m_M_init 11 (.aload_n 0) 1 12 := ⟨by decide +kernel, rfl⟩
theorem d_M_init_12 : mD m_M_init 12 (.iconst 4) 1 13 := ⟨by decide +kernel, rfl⟩
theorem d_M_init_13 : mD m_M_init 13 (.newarray .int) 2 15 := ⟨by decide +kernel, rfl⟩
theorem d_M_init_15 : mD m_M_init 15 (.putfield 13) 3 18 := ⟨by decide +kernel, rfl⟩
theorem kf_M_13 : kFf "AgeFerryModel" 13 7 1 "[I" := ⟨_, rfl, by decide, lw_in (i := 690) (by decide +kernel), rfl, rfl, rfl⟩
theorem d_M_init_18 : mD m_M_init 18 (.aload_n 0) 1 19 := ⟨by decide +kernel, rfl⟩
theorem d_M_init_19 : mD m_M_init 19 (.sipush 240) 3 22 := ⟨by decide +kernel, rfl⟩
theorem d_M_init_22 : mD m_M_init 22 (.newarray .int) 2 24 := ⟨by decide +kernel, rfl⟩
theorem d_M_init_24 : mD m_M_init 24 (.putfield 16) 3 27 := ⟨by decide +kernel, rfl⟩
theorem kf_M_16 : kFf "AgeFerryModel" 16 7 2 "[I" := ⟨_, rfl, by decide, lw_in (i := 691) (by decide +kernel), rfl, rfl, rfl⟩
theorem d_M_init_27 : mD m_M_init 27 (.aload_n 0) 1 28 := ⟨by decide +kernel, rfl⟩
theorem d_M_init_28 : mD m_M_init 28 (.bipush 60) 2 30 := ⟨by decide +kernel, rfl⟩
theorem d_M_init_30 : mD m_M_init 30 (.newarray .int) 2 32 := ⟨by decide +kernel, rfl⟩
theorem d_M_init_32 : mD m_M_init 32 (.putfield 19) 3 35 := ⟨by decide +kernel, rfl⟩
theorem kf_M_19 : kFf "AgeFerryModel" 19 7 3 "[I" := ⟨_, rfl, by decide, lw_in (i := 692) (by decide +kernel), rfl, rfl, rfl⟩
theorem d_M_init_35 : mD m_M_init 35 (.aload_n 0) 1 36 := ⟨by decide +kernel, rfl⟩
theorem d_M_init_36 : mD m_M_init 36 (.bipush 40) 2 38 := ⟨by decide +kernel, rfl⟩
theorem d_M_init_38 : mD m_M_init 38 (.newarray .int) 2 40 := ⟨by decide +kernel, rfl⟩
theorem d_M_init_40 : mD m_M_init 40 (.putfield 22) 3 43 := ⟨by decide +kernel, rfl⟩
theorem kf_M_22 : kFf "AgeFerryModel" 22 7 5 "[I" := ⟨_, rfl, by decide, lw_in (i := 694) (by decide +kernel), rfl, rfl, rfl⟩
theorem d_M_init_43 : mD m_M_init 43 (.aload_n 0) 1 44 := ⟨by decide +kernel, rfl⟩
theorem d_M_init_44 : mD m_M_init 44 (.bipush 10) 2 46 := ⟨by decide +kernel, rfl⟩
theorem d_M_init_46 : mD m_M_init 46 (.newarray .int) 2 48 := ⟨by decide +kernel, rfl⟩
theorem d_M_init_48 : mD m_M_init 48 (.putfield 25) 3 51 := ⟨by decide +kernel, rfl⟩
theorem kf_M_25 : kFf "AgeFerryModel" 25 7 9 "[I" := ⟨_, rfl, by decide, lw_in (i := 698) (by decide +kernel), rfl, rfl, rfl⟩
theorem d_M_init_51 : mD m_M_init 51 (.aload_n 0) 1 52 := ⟨by decide +kernel, rfl⟩
theorem d_M_init_52 : mD m_M_init 52 (.bipush 10) 2 54 := ⟨by decide +kernel, rfl⟩
theorem d_M_init_54 : mD m_M_init 54 (.newarray .int) 2 56 := ⟨by decide +kernel, rfl⟩
theorem d_M_init_56 : mD m_M_init 56 (.putfield 28) 3 59 := ⟨by decide +kernel, rfl⟩
theorem kf_M_28 : kFf "AgeFerryModel" 28 7 10 "[I" := ⟨_, rfl, by decide, lw_in (i := 699) (by decide +kernel), rfl, rfl, rfl⟩
theorem d_M_init_59 : mD m_M_init 59 (.aload_n 0) 1 60 := ⟨by decide +kernel, rfl⟩
theorem d_M_init_60 : mD m_M_init 60 (.bipush 10) 2 62 := ⟨by decide +kernel, rfl⟩
theorem d_M_init_62 : mD m_M_init 62 (.newarray .int) 2 64 := ⟨by decide +kernel, rfl⟩
theorem d_M_init_64 : mD m_M_init 64 (.putfield 31) 3 67 := ⟨by decide +kernel, rfl⟩
theorem kf_M_31 : kFf "AgeFerryModel" 31 7 11 "[I" := ⟨_, rfl, by decide, lw_in (i := 700) (by decide +kernel), rfl, rfl, rfl⟩
theorem d_M_init_67 : mD m_M_init 67 (.aload_n 0) 1 68 := ⟨by decide +kernel, rfl⟩
theorem d_M_init_68 : mD m_M_init 68 (.bipush 10) 2 70 := ⟨by decide +kernel, rfl⟩
theorem d_M_init_70 : mD m_M_init 70 (.newarray .int) 2 72 := ⟨by decide +kernel, rfl⟩
theorem d_M_init_72 : mD m_M_init 72 (.putfield 34) 3 75 := ⟨by decide +kernel, rfl⟩
theorem kf_M_34 : kFf "AgeFerryModel" 34 7 12 "[I" := ⟨_, rfl, by decide, lw_in (i := 701) (by decide +kernel), rfl, rfl, rfl⟩
theorem d_M_init_75 : mD m_M_init 75 (.aload_n 0) 1 76 := ⟨by decide +kernel, rfl⟩
theorem d_M_init_76 : mD m_M_init 76 (.iconst 4) 1 77 := ⟨by decide +kernel, rfl⟩
theorem d_M_init_77 : mD m_M_init 77 (.newarray .int) 2 79 := ⟨by decide +kernel, rfl⟩
theorem d_M_init_79 : mD m_M_init 79 (.putfield 37) 3 82 := ⟨by decide +kernel, rfl⟩
theorem kf_M_37 : kFf "AgeFerryModel" 37 7 13 "[I" := ⟨_, rfl, by decide, lw_in (i := 702) (by decide +kernel), rfl, rfl, rfl⟩
theorem d_M_init_82 : mD m_M_init 82 (.aload_n 0) 1 83 := ⟨by decide +kernel, rfl⟩
theorem d_M_init_83 : mD m_M_init 83 (.bipush 10) 2 85 := ⟨by decide +kernel, rfl⟩
theorem d_M_init_85 : mD m_M_init 85 (.newarray .int) 2 87 := ⟨by decide +kernel, rfl⟩
theorem d_M_init_87 : mD m_M_init 87 (.putfield 40) 3 90 := ⟨by decide +kernel, rfl⟩
theorem kf_M_40 : kFf "AgeFerryModel" 40 7 14 "[I" := ⟨_, rfl, by decide, lw_in (i := 703) (by decide +kernel), rfl, rfl, rfl⟩
theorem d_M_init_90 : mD m_M_init 90 (.aload_n 0) 1 91 := ⟨by decide +kernel, rfl⟩
theorem d_M_init_91 : mD m_M_init 91 (.bipush 10) 2 93 := ⟨by decide +kernel, rfl⟩
theorem d_M_init_93 : mD m_M_init 93 (.newarray .int) 2 95 := ⟨by decide +kernel, rfl⟩
theorem d_M_init_95 : mD m_M_init 95 (.putfield 43) 3 98 := ⟨by decide +kernel, rfl⟩
theorem kf_M_43 : kFf "AgeFerryModel" 43 7 15 "[I" := ⟨_, rfl, by decide, lw_in (i := 704) (by decide +kernel), rfl, rfl, rfl⟩
theorem d_M_init_98 : mD m_M_init 98 (.aload_n 0) 1 99 := ⟨by decide +kernel, rfl⟩
theorem d_M_init_99 : mD m_M_init 99 (.sipush 1024) 3 102 := ⟨by decide +kernel, rfl⟩
theorem d_M_init_102 : mD m_M_init 102 (.newarray .int) 2 104 := ⟨by decide +kernel, rfl⟩
theorem d_M_init_104 : mD m_M_init 104 (.putfield 46) 3 107 := ⟨by decide +kernel, rfl⟩
theorem kf_M_46 : kFf "AgeFerryModel" 46 7 16 "[I" := ⟨_, rfl, by decide, lw_in (i := 705) (by decide +kernel), rfl, rfl, rfl⟩
theorem d_M_init_107 : mD m_M_init 107 (.aload_n 0) 1 108 := ⟨by decide +kernel, rfl⟩
theorem d_M_init_108 : mD m_M_init 108 (.sipush 1024) 3 111 := ⟨by decide +kernel, rfl⟩
theorem d_M_init_111 : mD m_M_init 111 (.newarray .int) 2 113 := ⟨by decide +kernel, rfl⟩
theorem d_M_init_113 : mD m_M_init 113 (.putfield 49) 3 116 := ⟨by decide +kernel, rfl⟩
theorem kf_M_49 : kFf "AgeFerryModel" 49 7 17 "[I" := ⟨_, rfl, by decide, lw_in (i := 706) (by decide +kernel), rfl, rfl, rfl⟩
theorem d_M_init_116 : mD m_M_init 116 (.aload_n 0) 1 117 := ⟨by decide +kernel, rfl⟩
theorem d_M_init_117 : mD m_M_init 117 (.sipush 1024) 3 120 := ⟨by decide +kernel, rfl⟩
theorem d_M_init_120 : mD m_M_init 120 (.newarray .boolean) 2 122 := ⟨by decide +kernel, rfl⟩
theorem d_M_init_122 : mD m_M_init 122 (.putfield 52) 3 125 := ⟨by decide +kernel, rfl⟩
theorem kf_M_52 : kFf "AgeFerryModel" 52 7 18 "[Z" := ⟨_, rfl, by decide, lw_in (i := 707) (by decide +kernel), rfl, rfl, rfl⟩
theorem d_M_init_125 : mD m_M_init 125 (.aload_n 0) 1 126 := ⟨by decide +kernel, rfl⟩
theorem d_M_init_126 : mD m_M_init 126 (.sipush 1024) 3 129 := ⟨by decide +kernel, rfl⟩
theorem d_M_init_129 : mD m_M_init 129 (.newarray .int) 2 131 := ⟨by decide +kernel, rfl⟩
theorem d_M_init_131 : mD m_M_init 131 (.putfield 56) 3 134 := ⟨by decide +kernel, rfl⟩
theorem kf_M_56 : kFf "AgeFerryModel" 56 7 19 "[I" := ⟨_, rfl, by decide, lw_in (i := 708) (by decide +kernel), rfl, rfl, rfl⟩
theorem d_M_init_134 : mD m_M_init 134 (.aload_n 0) 1 135 := ⟨by decide +kernel, rfl⟩
theorem d_M_init_135 : mD m_M_init 135 (.sipush 1024) 3 138 := ⟨by decide +kernel, rfl⟩
theorem d_M_init_138 : mD m_M_init 138 (.newarray .int) 2 140 := ⟨by decide +kernel, rfl⟩
theorem d_M_init_140 : mD m_M_init 140 (.putfield 59) 3 143 := ⟨by decide +kernel, rfl⟩
theorem kf_M_59 : kFf "AgeFerryModel" 59 7 20 "[I" := ⟨_, rfl, by decide, lw_in (i := 709) (by decide +kernel), rfl, rfl, rfl⟩
theorem d_M_init_143 : mD m_M_init 143 (.aload_n 0) 1 144 := ⟨by decide +kernel, rfl⟩
theorem d_M_init_144 : mD m_M_init 144 (.sipush 1024) 3 147 := ⟨by decide +kernel, rfl⟩
theorem d_M_init_147 : mD m_M_init 147 (.newarray .int) 2 149 := ⟨by decide +kernel, rfl⟩
theorem d_M_init_149 : mD m_M_init 149 (.putfield 62) 3 152 := ⟨by decide +kernel, rfl⟩
theorem kf_M_62 : kFf "AgeFerryModel" 62 7 21 "[I" := ⟨_, rfl, by decide, lw_in (i := 710) (by decide +kernel), rfl, rfl, rfl⟩
theorem d_M_init_152 : mD m_M_init 152 (.aload_n 0) 1 153 := ⟨by decide +kernel, rfl⟩
theorem d_M_init_153 : mD m_M_init 153 (.sipush 1024) 3 156 := ⟨by decide +kernel, rfl⟩
theorem d_M_init_156 : mD m_M_init 156 (.newarray .int) 2 158 := ⟨by decide +kernel, rfl⟩
theorem d_M_init_158 : mD m_M_init 158 (.putfield 65) 3 161 := ⟨by decide +kernel, rfl⟩
theorem kf_M_65 : kFf "AgeFerryModel" 65 7 22 "[I" := ⟨_, rfl, by decide, lw_in (i := 711) (by decide +kernel), rfl, rfl, rfl⟩
theorem d_M_init_161 : mD m_M_init 161 (.aload_n 0) 1 162 := ⟨by decide +kernel, rfl⟩
theorem d_M_init_162 : mD m_M_init 162 (.sipush 1024) 3 165 := ⟨by decide +kernel, rfl⟩
theorem d_M_init_165 : mD m_M_init 165 (.newarray .int) 2 167 := ⟨by decide +kernel, rfl⟩
theorem d_M_init_167 : mD m_M_init 167 (.putfield 68) 3 170 := ⟨by decide +kernel, rfl⟩
theorem kf_M_68 : kFf "AgeFerryModel" 68 7 23 "[I" := ⟨_, rfl, by decide, lw_in (i := 712) (by decide +kernel), rfl, rfl, rfl⟩
theorem d_M_init_170 : mD m_M_init 170 (.aload_n 0) 1 171 := ⟨by decide +kernel, rfl⟩
theorem d_M_init_171 : mD m_M_init 171 (.bipush 9) 2 173 := ⟨by decide +kernel, rfl⟩
theorem d_M_init_173 : mD m_M_init 173 (.newarray .int) 2 175 := ⟨by decide +kernel, rfl⟩
theorem d_M_init_175 : mD m_M_init 175 (.putfield 71) 3 178 := ⟨by decide +kernel, rfl⟩
theorem kf_M_71 : kFf "AgeFerryModel" 71 7 24 "[I" := ⟨_, rfl, by decide, lw_in (i := 713) (by decide +kernel), rfl, rfl, rfl⟩
theorem d_M_init_178 : mD m_M_init 178 (.aload_n 0) 1 179 := ⟨by decide +kernel, rfl⟩
theorem d_M_init_179 : mD m_M_init 179 (.sipush 4140) 3 182 := ⟨by decide +kernel, rfl⟩
theorem d_M_init_182 : mD m_M_init 182 (.newarray .int) 2 184 := ⟨by decide +kernel, rfl⟩
theorem d_M_init_184 : mD m_M_init 184 (.putfield 74) 3 187 := ⟨by decide +kernel, rfl⟩
theorem kf_M_74 : kFf "AgeFerryModel" 74 7 25 "[I" := ⟨_, rfl, by decide, lw_in (i := 714) (by decide +kernel), rfl, rfl, rfl⟩
theorem d_M_init_187 : mD m_M_init 187 (.aload_n 0) 1 188 := ⟨by decide +kernel, rfl⟩
theorem d_M_init_188 : mD m_M_init 188 (.sipush 4140) 3 191 := ⟨by decide +kernel, rfl⟩
theorem d_M_init_191 : mD m_M_init 191 (.newarray .int) 2 193 := ⟨by decide +kernel, rfl⟩
theorem d_M_init_193 : mD m_M_init 193 (.putfield 77) 3 196 := ⟨by decide +kernel, rfl⟩
theorem kf_M_77 : kFf "AgeFerryModel" 77 7 26 "[I" := ⟨_, rfl, by decide, lw_in (i := 715) (by decide +kernel), rfl, rfl, rfl⟩
theorem d_M_init_196 : mD m_M_init 196 (.aload_n 0) 1 197 := ⟨by decide +kernel, rfl⟩
theorem d_M_init_197 : mD m_M_init 197 (.bipush 24) 2 199 := ⟨by decide +kernel, rfl⟩
theorem d_M_init_199 : mD m_M_init 199 (.newarray .int) 2 201 := ⟨by decide +kernel, rfl⟩
theorem d_M_init_201 : mD m_M_init 201 (.putfield 80) 3 204 := ⟨by decide +kernel, rfl⟩
theorem kf_M_80 : kFf "AgeFerryModel" 80 7 29 "[I" := ⟨_, rfl, by decide, lw_in (i := 718) (by decide +kernel), rfl, rfl, rfl⟩
theorem d_M_init_204 : mD m_M_init 204 (.aload_n 0) 1 205 := ⟨by decide +kernel, rfl⟩
theorem d_M_init_205 : mD m_M_init 205 (.bipush 10) 2 207 := ⟨by decide +kernel, rfl⟩
theorem d_M_init_207 : mD m_M_init 207 (.newarray .int) 2 209 := ⟨by decide +kernel, rfl⟩
theorem d_M_init_209 : mD m_M_init 209 (.putfield 83) 3 212 := ⟨by decide +kernel, rfl⟩
theorem kf_M_83 : kFf "AgeFerryModel" 83 7 30 "[I" := ⟨_, rfl, by decide, lw_in (i := 719) (by decide +kernel), rfl, rfl, rfl⟩
theorem d_M_init_212 : mD m_M_init 212 (.iconst 0) 1 213 := ⟨by decide +kernel, rfl⟩
theorem d_M_init_213 : mD m_M_init 213 (.istore_n 1) 1 214 := ⟨by decide +kernel, rfl⟩
theorem d_M_init_214 : mD m_M_init 214 (.iload_n 1) 1 215 := ⟨by decide +kernel, rfl⟩
theorem d_M_init_215 : mD m_M_init 215 (.iconst 4) 1 216 := ⟨by decide +kernel, rfl⟩
theorem d_M_init_216 : mJ m_M_init 216 (.if_icmp .ge 16) (16) 219 232 := ⟨by decide +kernel, rfl, rfl⟩
theorem d_M_init_219 : mD m_M_init 219 (.aload_n 0) 1 220 := ⟨by decide +kernel, rfl⟩
theorem d_M_init_220 : mD m_M_init 220 (.getfield 7) 3 223 := ⟨by decide +kernel, rfl⟩
theorem d_M_init_223 : mD m_M_init 223 (.iload_n 1) 1 224 := ⟨by decide +kernel, rfl⟩
theorem d_M_init_224 : mD m_M_init 224 (.iconst (-1)) 1 225 := ⟨by decide +kernel, rfl⟩
theorem d_M_init_225 : mD m_M_init 225 (.iastore) 1 226 := ⟨by decide +kernel, rfl⟩
theorem d_M_init_226 : mD m_M_init 226 (.iinc 1 1) 3 229 := ⟨by decide +kernel, rfl⟩
theorem d_M_init_229 : mJ m_M_init 229 (.goto (-15)) (-15) 232 214 := ⟨by decide +kernel, rfl, rfl⟩
theorem d_M_init_232 : mD m_M_init 232 (.iconst 0) 1 233 := ⟨by decide +kernel, rfl⟩
theorem d_M_init_233 : mD m_M_init 233 (.istore_n 1) 1 234 := ⟨by decide +kernel, rfl⟩
theorem d_M_init_234 : mD m_M_init 234 (.iload_n 1) 1 235 := ⟨by decide +kernel, rfl⟩
theorem d_M_init_235 : mD m_M_init 235 (.bipush 10) 2 237 := ⟨by decide +kernel, rfl⟩
theorem d_M_init_237 : mJ m_M_init 237 (.if_icmp .ge 17) (17) 240 254 := ⟨by decide +kernel, rfl, rfl⟩
theorem d_M_init_240 : mD m_M_init 240 (.aload_n 0) 1 241 := ⟨by decide +kernel, rfl⟩
theorem d_M_init_241 : mD m_M_init 241 (.getfield 28) 3 244 := ⟨by decide +kernel, rfl⟩
theorem d_M_init_244 : mD m_M_init 244 (.iload_n 1) 1 245 := ⟨by decide +kernel, rfl⟩
theorem d_M_init_245 : mD m_M_init 245 (.bipush 50) 2 247 := ⟨by decide +kernel, rfl⟩
theorem d_M_init_247 : mD m_M_init 247 (.iastore) 1 248 := ⟨by decide +kernel, rfl⟩
theorem d_M_init_248 : mD m_M_init 248 (.iinc 1 1) 3 251 := ⟨by decide +kernel, rfl⟩
theorem d_M_init_251 : mJ m_M_init 251 (.goto (-17)) (-17) 254 234 := ⟨by decide +kernel, rfl, rfl⟩
theorem d_M_init_254 : mD m_M_init 254 (.aload_n 0) 1 255 := ⟨by decide +kernel, rfl⟩
theorem d_M_init_255 : mD m_M_init 255 (.getfield 37) 3 258 := ⟨by decide +kernel, rfl⟩
theorem d_M_init_258 : mD m_M_init 258 (.iconst 0) 1 259 := ⟨by decide +kernel, rfl⟩
theorem d_M_init_259 : mD m_M_init 259 (.iconst 2) 1 260 := ⟨by decide +kernel, rfl⟩
theorem d_M_init_260 : mD m_M_init 260 (.iastore) 1 261 := ⟨by decide +kernel, rfl⟩
theorem d_M_init_261 : mD m_M_init 261 (.return_) 1 262 := ⟨by decide +kernel, rfl⟩
theorem mk_P_init : mOk m_P_init 0 := ⟨lw_in (i := 24) (by decide +kernel), lw_in (i := 2) (by decide +kernel), by decide +kernel⟩
theorem d_P_init_0 : mD m_P_init 0 (.aload_n 0) 1 1 := ⟨by decide +kernel, rfl⟩
theorem d_P_init_1 : mD m_P_init 1 (.invokespecial 3) 3 4 := ⟨by decide +kernel, rfl⟩
theorem d_P_init_4 : mD m_P_init 4 (.aload_n 0) 1 5 := ⟨by decide +kernel, rfl⟩
theorem d_P_init_5 : mD m_P_init 5 (.bipush 40) 2 7 := ⟨by decide +kernel, rfl⟩
theorem d_P_init_7 : mD m_P_init 7 (.newarray .int) 2 9 := ⟨by decide +kernel, rfl⟩
theorem d_P_init_9 : mD m_P_init 9 (.putfield 11) 3 12 := ⟨by decide +kernel, rfl⟩
theorem kf_P_11 : kFf "AgeFerry$People" 11 1 0 "[I" := ⟨_, rfl, by decide, lw_in (i := 26) (by decide +kernel), rfl, rfl, rfl⟩
theorem d_P_init_12 : mD m_P_init 12 (.aload_n 0) 1 13 := ⟨by decide +kernel, rfl⟩
theorem d_P_init_13 : mD m_P_init 13 (.bipush 10) 2 15 := ⟨by decide +kernel, rfl⟩
theorem d_P_init_15 : mD m_P_init 15 (.newarray .int) 2 17 := ⟨by decide +kernel, rfl⟩
theorem d_P_init_17 : mD m_P_init 17 (.putfield 15) 3 20 := ⟨by decide +kernel, rfl⟩
theorem kf_P_15 : kFf "AgeFerry$People" 15 1 1 "[I" := ⟨_, rfl, by decide, lw_in (i := 27) (by decide +kernel), rfl, rfl, rfl⟩
theorem d_P_init_20 : mD m_P_init 20 (.aload_n 0) 1 21 := ⟨by decide +kernel, rfl⟩
theorem d_P_init_21 : mD m_P_init 21 (.bipush 10) 2 23 := ⟨by decide +kernel, rfl⟩
theorem d_P_init_23 : mD m_P_init 23 (.newarray .int) 2 25 := ⟨by decide +kernel, rfl⟩
theorem d_P_init_25 : mD m_P_init 25 (.putfield 18) 3 28 := ⟨by decide +kernel, rfl⟩
theorem kf_P_18 : kFf "AgeFerry$People" 18 1 2 "[I" := ⟨_, rfl, by decide, lw_in (i := 29) (by decide +kernel), rfl, rfl, rfl⟩
theorem d_P_init_28 : mD m_P_init 28 (.aload_n 0) 1 29 := ⟨by decide +kernel, rfl⟩
theorem d_P_init_29 : mD m_P_init 29 (.bipush 10) 2 31 := ⟨by decide +kernel, rfl⟩
theorem d_P_init_31 : mD m_P_init 31 (.newarray .int) 2 33 := ⟨by decide +kernel, rfl⟩
theorem d_P_init_33 : mD m_P_init 33 (.putfield 21) 3 36 := ⟨by decide +kernel, rfl⟩
theorem kf_P_21 : kFf "AgeFerry$People" 21 1 3 "[I" := ⟨_, rfl, by decide, lw_in (i := 33) (by decide +kernel), rfl, rfl, rfl⟩
theorem d_P_init_36 : mD m_P_init 36 (.aload_n 0) 1 37 := ⟨by decide +kernel, rfl⟩
theorem d_P_init_37 : mD m_P_init 37 (.bipush 10) 2 39 := ⟨by decide +kernel, rfl⟩
theorem d_P_init_39 : mD m_P_init 39 (.newarray .int) 2 41 := ⟨by decide +kernel, rfl⟩
theorem d_P_init_41 : mD m_P_init 41 (.putfield 24) 3 44 := ⟨by decide +kernel, rfl⟩
theorem kf_P_24 : kFf "AgeFerry$People" 24 1 4 "[I" := ⟨_, rfl, by decide, lw_in (i := 36) (by decide +kernel), rfl, rfl, rfl⟩
theorem d_P_init_44 : mD m_P_init 44 (.aload_n 0) 1 45 := ⟨by decide +kernel, rfl⟩
theorem d_P_init_45 : mD m_P_init 45 (.bipush 10) 2 47 := ⟨by decide +kernel, rfl⟩
theorem d_P_init_47 : mD m_P_init 47 (.newarray .int) 2 49 := ⟨by decide +kernel, rfl⟩
theorem d_P_init_49 : mD m_P_init 49 (.putfield 27) 3 52 := ⟨by decide +kernel, rfl⟩
theorem kf_P_27 : kFf "AgeFerry$People" 27 1 5 "[I" := ⟨_, rfl, by decide, lw_in (i := 39) (by decide +kernel), rfl, rfl, rfl⟩
theorem d_P_init_52 : mD m_P_init 52 (.aload_n 0) 1 53 := ⟨by decide +kernel, rfl⟩
theorem d_P_init_53 : mD m_P_init 53 (.iconst (-1)) 1 54 := ⟨by decide +kernel, rfl⟩
theorem d_P_init_54 : mD m_P_init 54 (.putfield 30) 3 57 := ⟨by decide +kernel, rfl⟩
theorem d_P_init_57 : mD m_P_init 57 (.iconst 0) 1 58 := ⟨by decide +kernel, rfl⟩
theorem d_P_init_58 : mD m_P_init 58 (.istore_n 1) 1 59 := ⟨by decide +kernel, rfl⟩
theorem d_P_init_59 : mD m_P_init 59 (.iload_n 1) 1 60 := ⟨by decide +kernel, rfl⟩
theorem d_P_init_60 : mD m_P_init 60 (.bipush 10) 2 62 := ⟨by decide +kernel, rfl⟩
theorem d_P_init_62 : mJ m_P_init 62 (.if_icmp .ge 17) (17) 65 79 := ⟨by decide +kernel, rfl, rfl⟩
theorem d_P_init_65 : mD m_P_init 65 (.aload_n 0) 1 66 := ⟨by decide +kernel, rfl⟩
theorem d_P_init_66 : mD m_P_init 66 (.getfield 21) 3 69 := ⟨by decide +kernel, rfl⟩
theorem d_P_init_69 : mD m_P_init 69 (.iload_n 1) 1 70 := ⟨by decide +kernel, rfl⟩
theorem d_P_init_70 : mD m_P_init 70 (.bipush 50) 2 72 := ⟨by decide +kernel, rfl⟩
theorem d_P_init_72 : mD m_P_init 72 (.iastore) 1 73 := ⟨by decide +kernel, rfl⟩
theorem d_P_init_73 : mD m_P_init 73 (.iinc 1 1) 3 76 := ⟨by decide +kernel, rfl⟩
theorem d_P_init_76 : mJ m_P_init 76 (.goto (-17)) (-17) 79 59 := ⟨by decide +kernel, rfl, rfl⟩
theorem d_P_init_79 : mD m_P_init 79 (.return_) 1 80 := ⟨by decide +kernel, rfl⟩
theorem mk_R_init : mOk m_R_init 0 := ⟨lw_in (i := 73) (by decide +kernel), lw_in (i := 3) (by decide +kernel), by decide +kernel⟩
theorem d_R_init_0 : mD m_R_init 0 (.aload_n 0) 1 1 := ⟨by decide +kernel, rfl⟩
theorem d_R_init_1 : mD m_R_init 1 (.invokespecial 3) 3 4 := ⟨by decide +kernel, rfl⟩
theorem d_R_init_4 : mD m_R_init 4 (.aload_n 0) 1 5 := ⟨by decide +kernel, rfl⟩
theorem d_R_init_5 : mD m_R_init 5 (.iconst 4) 1 6 := ⟨by decide +kernel, rfl⟩
theorem d_R_init_6 : mD m_R_init 6 (.newarray .int) 2 8 := ⟨by decide +kernel, rfl⟩
theorem d_R_init_8 : mD m_R_init 8 (.putfield 9) 3 11 := ⟨by decide +kernel, rfl⟩
theorem kf_R_9 : kFf "AgeFerry$Rules" 9 2 0 "[I" := ⟨_, rfl, by decide, lw_in (i := 75) (by decide +kernel), rfl, rfl, rfl⟩
theorem d_R_init_11 : mD m_R_init 11 (.aload_n 0) 1 12 := ⟨by decide +kernel, rfl⟩
theorem d_R_init_12 : mD m_R_init 12 (.bipush 10) 2 14 := ⟨by decide +kernel, rfl⟩
theorem d_R_init_14 : mD m_R_init 14 (.newarray .int) 2 16 := ⟨by decide +kernel, rfl⟩
theorem d_R_init_16 : mD m_R_init 16 (.putfield 15) 3 19 := ⟨by decide +kernel, rfl⟩
theorem kf_R_15 : kFf "AgeFerry$Rules" 15 2 1 "[I" := ⟨_, rfl, by decide, lw_in (i := 78) (by decide +kernel), rfl, rfl, rfl⟩
theorem d_R_init_19 : mD m_R_init 19 (.aload_n 0) 1 20 := ⟨by decide +kernel, rfl⟩
theorem d_R_init_20 : mD m_R_init 20 (.bipush 10) 2 22 := ⟨by decide +kernel, rfl⟩
theorem d_R_init_22 : mD m_R_init 22 (.newarray .int) 2 24 := ⟨by decide +kernel, rfl⟩
theorem d_R_init_24 : mD m_R_init 24 (.putfield 18) 3 27 := ⟨by decide +kernel, rfl⟩
theorem kf_R_18 : kFf "AgeFerry$Rules" 18 2 2 "[I" := ⟨_, rfl, by decide, lw_in (i := 81) (by decide +kernel), rfl, rfl, rfl⟩
theorem d_R_init_27 : mD m_R_init 27 (.aload_n 0) 1 28 := ⟨by decide +kernel, rfl⟩
theorem d_R_init_28 : mD m_R_init 28 (.getfield 9) 3 31 := ⟨by decide +kernel, rfl⟩
theorem d_R_init_31 : mD m_R_init 31 (.iconst 0) 1 32 := ⟨by decide +kernel, rfl⟩
theorem d_R_init_32 : mD m_R_init 32 (.iconst 2) 1 33 := ⟨by decide +kernel, rfl⟩
theorem d_R_init_33 : mD m_R_init 33 (.iastore) 1 34 := ⟨by decide +kernel, rfl⟩
theorem d_R_init_34 : mD m_R_init 34 (.return_) 1 35 := ⟨by decide +kernel, rfl⟩
theorem mk_S_init : mOk m_S_init 0 := ⟨lw_in (i := 162) (by decide +kernel), lw_in (i := 7) (by decide +kernel), by decide +kernel⟩
theorem d_S_init_0 : mD m_S_init 0 (.aload_n 0) 1 1 := ⟨by decide +kernel, rfl⟩
theorem d_S_init_1 : mD m_S_init 1 (.invokespecial 1) 3 4 := ⟨by decide +kernel, rfl⟩
theorem d_S_init_4 : mD m_S_init 4 (.aload_n 0) 1 5 := ⟨by decide +kernel, rfl⟩
theorem d_S_init_5 : mD m_S_init 5 (.bipush 60) 2 7 := ⟨by decide +kernel, rfl⟩
theorem d_S_init_7 : mD m_S_init 7 (.newarray .int) 2 9 := ⟨by decide +kernel, rfl⟩
theorem d_S_init_9 : mD m_S_init 9 (.putfield 9) 3 12 := ⟨by decide +kernel, rfl⟩
theorem kf_S_9 : kFf "AgeFerry$Sheet" 9 3 0 "[I" := ⟨_, rfl, by decide, lw_in (i := 164) (by decide +kernel), rfl, rfl, rfl⟩
theorem d_S_init_12 : mD m_S_init 12 (.aload_n 0) 1 13 := ⟨by decide +kernel, rfl⟩
theorem d_S_init_13 : mD m_S_init 13 (.iconst (-1)) 1 14 := ⟨by decide +kernel, rfl⟩
theorem d_S_init_14 : mD m_S_init 14 (.putfield 13) 3 17 := ⟨by decide +kernel, rfl⟩
theorem d_S_init_17 : mD m_S_init 17 (.return_) 1 18 := ⟨by decide +kernel, rfl⟩
theorem mk_T_init : mOk m_T_init 1 := ⟨lw_in (i := 122) (by decide +kernel), lw_in (i := 5) (by decide +kernel), by decide +kernel⟩
theorem d_T_init_0 : mD m_T_init 0 (.aload_n 0) 1 1 := ⟨by decide +kernel, rfl⟩
theorem d_T_init_1 : mD m_T_init 1 (.invokespecial 3) 3 4 := ⟨by decide +kernel, rfl⟩
theorem d_T_init_4 : mD m_T_init 4 (.aload_n 0) 1 5 := ⟨by decide +kernel, rfl⟩
theorem d_T_init_5 : mD m_T_init 5 (.bipush 10) 2 7 := ⟨by decide +kernel, rfl⟩
theorem d_T_init_7 : mD m_T_init 7 (.newarray .int) 2 9 := ⟨by decide +kernel, rfl⟩
theorem d_T_init_9 : mD m_T_init 9 (.putfield 9) 3 12 := ⟨by decide +kernel, rfl⟩
theorem kf_T_9 : kFf "AgeFerry$Trip" 9 5 1 "[I" := ⟨_, rfl, by decide, lw_in (i := 125) (by decide +kernel), rfl, rfl, rfl⟩
theorem d_T_init_12 : mD m_T_init 12 (.aload_n 0) 1 13 := ⟨by decide +kernel, rfl⟩
theorem d_T_init_13 : mD m_T_init 13 (.aload_n 1) 1 14 := ⟨by decide +kernel, rfl⟩
theorem d_T_init_14 : mD m_T_init 14 (.putfield 15) 3 17 := ⟨by decide +kernel, rfl⟩
theorem kf_T_15 : kFf "AgeFerry$Trip" 15 5 0 "LAgeFerry$Days;" := ⟨_, rfl, by decide, lw_in (i := 124) (by decide +kernel), rfl, rfl, rfl⟩
theorem d_T_init_17 : mD m_T_init 17 (.return_) 1 18 := ⟨by decide +kernel, rfl⟩
