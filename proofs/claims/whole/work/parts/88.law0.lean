theorem k_in {i : Nat} {c : Cond} (h : tables_1[i]? = some c) : c ∈ lw_tbl := List.mem_append_right _ (List.mem_of_getElem? h)
theorem k_tab {s : State} {args : Array Value} {A : Nat → Prop} {C n : String} {N : Nat} {f : Nat → Int32} (hN : N < 2 ^ 31) (hl : (Cond.laysStatic C n "[I").before args s = true) (hini : (Cond.initialized C).before args s = true) (harr : (Cond.arrayOf (.static C n "[I") .int).before args s = true) (hlen : (Cond.eq (.length (.static C n "[I")) (.int (Int32.ofNat N))).before args s = true) (hel : ∀ j : Nat, j < N → (Cond.eq (.elem (.static C n "[I") (.int (Int32.ofNat j))) (.int (f j))).before args s = true) (hA : ∀ a : Nat, a < s.heap.size → ¬ A a) : ∃ t : Nat, va_Z C n "[I" (.ref t) A s s.heap ∧ va_T .int t N (fun j => .int (f j)) A s s.heap := by
  obtain ⟨t, h1, h2⟩ := va_Tof (f := fun j => .int (f j)) hN harr (va_eqt hlen) (fun j hj => va_eqt (hel j hj)) hA
  exact ⟨t, va_Zof hl hini h1 hA, h2⟩
theorem k_inst : ∀ (c : Nat) (q : vw_C), mCl[c]? = some q → Cond.instantiable q.1 q.2.2 ∈ lw_ws
  | 0, q, h => by obtain ⟨q2, _, h1, _, _, h4, _⟩ := kn_F_23; cases h1.symm.trans h; exact h4
  | 1, q, h => by obtain ⟨q2, _, h1, _, _, h4, _⟩ := kn_F_7; cases h1.symm.trans h; exact h4
  | 2, q, h => by obtain ⟨q2, _, h1, _, _, h4, _⟩ := kn_F_16; cases h1.symm.trans h; exact h4
  | 3, q, h => by obtain ⟨q2, _, h1, _, _, h4, _⟩ := kn_F_48; cases h1.symm.trans h; exact h4
  | 4, q, h => by obtain ⟨q2, _, h1, _, _, h4, _⟩ := kn_F_41; cases h1.symm.trans h; exact h4
  | 5, q, h => by obtain ⟨q2, _, h1, _, _, h4, _⟩ := kn_F_32; cases h1.symm.trans h; exact h4
  | 6, q, h => by obtain ⟨q2, _, h1, _, _, h4, _⟩ := kn_L_7; cases h1.symm.trans h; exact h4
  | 7, q, h => by obtain ⟨q2, _, h1, _, _, h4, _⟩ := kn_L_10; cases h1.symm.trans h; exact h4
  | k + 8, q, h => absurd (List.getElem?_eq_some_iff.mp h).1 (by show ¬ k + 8 < 8; omega)
theorem k_known {s : State} {args : Array Value} (hts : ∀ w ∈ lw_ws, w.before args s = true) : ∃ D : va_G, ∀ (c : Nat) (q : vw_C), mCl[c]? = some q → u_Kn s q.1 q.2.1 q.2.2 (D.1 c) (D.2 c) := by
  have h : ∀ c : Nat, ∃ r : ClassId × (Nat → Nat), ∀ q : vw_C, mCl[c]? = some q → u_Kn s q.1 q.2.1 q.2.2 r.1 r.2 := by
    intro c
    cases hq : mCl[c]? with
    | none => exact ⟨(0, fun _ => 0), fun q h => by cases h⟩
    | some q0 =>
      obtain ⟨cC, iS, hk⟩ := u_known hts (mCl_ok c q0 hq).1 (hts _ (k_inst c q0 hq))
      exact ⟨(cC, iS), fun q h => by cases h; exact hk⟩
  obtain ⟨r, hr⟩ := Classical.axiomOfChoice h
  exact ⟨(fun c => (r c).1, fun c => (r c).2), hr⟩
theorem k_tyA {s : State} {args : Array Value} {ty : FieldType} (h : (Cond.arrayClass ty).before args s = true) : ∃ c : ClassId, s.vm.findClass ("[" ++ ty.toString) = some c ∧ ArrOfT s c ty := by
  obtain ⟨c, k, comp, h1, h2, h3⟩ := Cond.arrayClass_spec h
  exact ⟨c, h1, fun n z => ⟨fun k h => (by cases h), k, h2, comp, h3⟩⟩
theorem k_tys {s : State} {args : Array Value} {D : va_G} (h1 : (Cond.arrayClass .int).before args s = true) (h2 : (Cond.arrayClass .boolean).before args s = true) (h3 : (Cond.arrayOver (.object "AgeFerry$Sheet")).before args s = true) (hD : ∀ (c : Nat) (q : vw_C), mCl[c]? = some q → u_Kn s q.1 q.2.1 q.2.2 (D.1 c) (D.2 c)) : ∃ tI : ClassId × ClassId × ClassId, va_K D mCl (kTy tI) s := by
  obtain ⟨c1, a1, b1⟩ := k_tyA h1
  obtain ⟨c2, a2, b2⟩ := k_tyA h2
  obtain ⟨comp, c3, k, e1, -, e2, e3, e4⟩ := Cond.arrayOver_spec h3
  refine ⟨(c1, c2, c3), hD, fun k q hk => ?_⟩
  match k, q, hk with
  | 0, _, h => cases h; exact ⟨b1, a1⟩
  | 1, _, h => cases h; exact ⟨b2, a2⟩
  | 2, _, h => cases h; exact ⟨fun n z => ⟨fun k h => (by cases h), _, e2, comp, e3⟩, _, comp, e2, e3, e1, e4⟩
  | k + 3, q, h => exact absurd (List.getElem?_eq_some_iff.mp h).1 (by show ¬ k + 3 < 3; omega)
theorem kI_cong {D : va_G} {A : Nat → Prop} {s : State} {ws : va_W} {H : Heap} {locs : List Loc} {k a n : Nat} {cA : ClassId} {f g : Nat → Option Nat} (hI : kI D A s ws H locs) (he : ws[k]? = some (a, .inl (cA, n, .inr (.inr (.inr (.inr f)))))) (hfg : ∀ j, j < n → f j = g j) : kI D A s (ws.set k (a, .inl (cA, n, .inr (.inr (.inr (.inr g)))))) H locs := by
  refine ⟨hI.1.set hI.2.1 he ?_ (fun _ _ => rfl), hI.2.1.set he, hI.2.2⟩
  have h := hI.1 k _ he
  have e : vp_cell cA (n, .inr (.inr (.inr (.inr f)))) = vp_cell cA (n, .inr (.inr (.inr (.inr g)))) := by
    rw [vp_cell_q, vp_cell_q]
    unfold arrV
    congr 2
    funext j
    exact congrArg va_rf (hfg j.val j.isLt)
  show H[a]? = some (vp_cell cA (n, .inr (.inr (.inr (.inr g)))))
  rw [← e]
  exact h
set_option maxRecDepth 100000 in
set_option maxHeartbeats 4000000 in
theorem k_fresh (D : va_G) (tI : ClassId × ClassId × ClassId) (q1 q2 q3 q4 q5 q6 q7 q8 q9 q10 q11 q12 q13 q14 q15 q16 q17 q18 q19 q20 q21 q22 q23 q24 q25 q27 q29 q31 q26 q28 q30 q32 q33 q34 q35 q36 q37 q38 q39 q40 q41 q42 q43 q44 q45 q46 q47 q48 q49 q50 q51 q52 q53 q54 q55 q56 q57 q58 q59 t59 t60 t61 b : Nat) (xs : Nat → Int32) (L : Nat) : ([0, 1, 2, 3, 4, 5, 6, 7, 8, 9, 10, 11, 12, 13, 14, 15, 16, 17, 18, 19, 20, 21, 22, 23, 24, 26, 28, 30, 25, 27, 29, 31, 32, 33, 34, 35, 36, 37, 38, 39, 40, 41, 42, 43, 44, 45, 46, 47, 48, 49, 50, 51, 52, 53, 54, 55, 56, 57, 58] : List Nat).map (fun i => ([(q1, .inr (6, [.ref q2, .ref q9, .ref q13, .ref q18, .ref q20, .ref q24, .ref q33, .int 0])), (q2, .inr (1, [.ref q3, .ref q4, .ref q5, .ref q6, .ref q7, .ref q8, .int 0, .int 0, .int (-1)])), (q3, .inl (tI.1, 40, .inl (fun _ => 0))), (q4, .inl (tI.1, 10, .inl (fun _ => 0))), (q5, .inl (tI.1, 10, .inl (fun _ => 0))), (q6, .inl (tI.1, 10, .inl (upd (upd (upd (upd (upd (upd (upd (upd (upd (upd (fun _ => 0) 0 50) 1 50) 2 50) 3 50) 4 50) 5 50) 6 50) 7 50) 8 50) 9 50))), (q7, .inl (tI.1, 10, .inl (fun _ => 0))), (q8, .inl (tI.1, 10, .inl (fun _ => 0))), (q9, .inr (2, [.ref q10, .ref q11, .ref q12])), (q10, .inl (tI.1, 4, .inl (upd (fun _ => 0) 0 2))), (q11, .inl (tI.1, 10, .inl (fun _ => 0))), (q12, .inl (tI.1, 10, .inl (fun _ => 0))), (q13, .inr (0, [.ref q2, .ref q9, .ref q14, .ref q15, .ref q16, .ref q17, .int 1])), (q14, .inl (tI.1, 1024, .inl (fun _ => 0))), (q15, .inl (tI.1, 1024, .inl (fun _ => 0))), (q16, .inl (tI.1, 1024, .inl (fun _ => 0))), (q17, .inl (tI.1, 1024, .inl (fun _ => 0))), (q18, .inr (5, [.ref q13, .ref q19, .int 0, .int 0])), (q19, .inl (tI.1, 10, .inl (fun _ => 0))), (q20, .inr (4, [.ref q21, .ref q22, .ref q23, .int 0])), (q21, .inl (tI.1, 8, .inl (fun _ => 0))), (q22, .inl (tI.1, 8, .inl (fun _ => 0))), (q23, .inl (tI.1, 8, .inl (fun _ => 0))), (q24, .inl (tI.2.2, 4, .inr (.inr (.inr (.inr (fun i => some (([q1, q2, q3, q4, q5, q6, q7, q8, q9, q10, q11, q12, q13, q14, q15, q16, q17, q18, q19, q20, q21, q22, q23, q24, q25, q27, q29, q31, q26, q28, q30, q32, q33, q34, q35, q36, q37, q38, q39, q40, q41, q42, q43, q44, q45, q46, q47, q48, q49, q50, q51, q52, q53, q54, q55, q56, q57, q58, q59, t59, t60, t61, b]).getD (24 + i) 0))))))), (q25, .inr (3, [.ref q26, .int 0, .int (-1)])), (q26, .inl (tI.1, 60, .inl (fun _ => 0))), (q27, .inr (3, [.ref q28, .int 0, .int (-1)])), (q28, .inl (tI.1, 60, .inl (fun _ => 0))), (q29, .inr (3, [.ref q30, .int 0, .int (-1)])), (q30, .inl (tI.1, 60, .inl (fun _ => 0))), (q31, .inr (3, [.ref q32, .int 0, .int (-1)])), (q32, .inl (tI.1, 60, .inl (fun _ => 0))), (q33, .inl (tI.1, 10, .inl (fun _ => 0))), (q34, .inr (7, [.ref q35, .ref q36, .ref q37, .ref q38, .int 0, .ref q39, .int 0, .int 0, .int 0, .ref q40, .ref q41, .ref q42, .ref q43, .ref q44, .ref q45, .ref q46, .ref q47, .ref q48, .ref q49, .ref q50, .ref q51, .ref q52, .ref q53, .ref q54, .ref q55, .ref q56, .ref q57, .int 0, .int 0, .ref q58, .ref q59])), (q35, .inl (tI.1, 4, .inl (upd (upd (upd (upd (fun _ => 0) 0 (-1)) 1 (-1)) 2 (-1)) 3 (-1)))), (q36, .inl (tI.1, 4, .inl (fun _ => 0))), (q37, .inl (tI.1, 240, .inl (fun _ => 0))), (q38, .inl (tI.1, 60, .inl (fun _ => 0))), (q39, .inl (tI.1, 40, .inl (fun _ => 0))), (q40, .inl (tI.1, 10, .inl (fun _ => 0))), (q41, .inl (tI.1, 10, .inl (upd (upd (upd (upd (upd (upd (upd (upd (upd (upd (fun _ => 0) 0 50) 1 50) 2 50) 3 50) 4 50) 5 50) 6 50) 7 50) 8 50) 9 50))), (q42, .inl (tI.1, 10, .inl (fun _ => 0))), (q43, .inl (tI.1, 10, .inl (fun _ => 0))), (q44, .inl (tI.1, 4, .inl (upd (fun _ => 0) 0 2))), (q45, .inl (tI.1, 10, .inl (fun _ => 0))), (q46, .inl (tI.1, 10, .inl (fun _ => 0))), (q47, .inl (tI.1, 1024, .inl (fun _ => 0))), (q48, .inl (tI.1, 1024, .inl (fun _ => 0))), (q49, .inl (tI.2.1, 1024, .inl (fun _ => 0))), (q50, .inl (tI.1, 1024, .inl (fun _ => 0))), (q51, .inl (tI.1, 1024, .inl (fun _ => 0))), (q52, .inl (tI.1, 1024, .inl (fun _ => 0))), (q53, .inl (tI.1, 1024, .inl (fun _ => 0))), (q54, .inl (tI.1, 1024, .inl (fun _ => 0))), (q55, .inl (tI.1, 9, .inl (fun _ => 0))), (q56, .inl (tI.1, 4140, .inl (fun _ => 0))), (q57, .inl (tI.1, 4140, .inl (fun _ => 0))), (q58, .inl (tI.1, 24, .inl (fun _ => 0))), (q59, .inl (tI.1, 10, .inl (fun _ => 0)))] : va_W)[i]?) = (mW (fun k => ([q1, q2, q3, q4, q5, q6, q7, q8, q9, q10, q11, q12, q13, q14, q15, q16, q17, q18, q19, q20, q21, q22, q23, q24, q25, q27, q29, q31, q26, q28, q30, q32, q33, q34, q35, q36, q37, q38, q39, q40, q41, q42, q43, q44, q45, q46, q47, q48, q49, q50, q51, q52, q53, q54, q55, q56, q57, q58, q59, t59, t60, t61, b]).getD k 0, D, tI, xs, L) kw0).map some := by
  rfl
theorem k_filt {ws ws' : va_W} {is : List Nat} (h : is.map (fun i => ws[i]?) = ws'.map some) : is.filterMap (fun i => ws[i]?) = ws' := by
  have e : is.filterMap (fun i => ws[i]?) = (is.map (fun i => ws[i]?)).filterMap id := by
    rw [List.filterMap_map]; rfl
  rw [e, h, List.filterMap_map]
  exact List.filterMap_some
