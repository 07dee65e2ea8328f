abbrev mM : Type := MethodName × ByteArray × Nat × Option FieldType
def mD (y : mM) (pc : Nat) (i : Instr) (n pc2 : Nat) : Prop := decode y.2.1 pc = .ok (i, n) ∧ pc2 = pc + n
def mJ (y : mM) (pc : Nat) (i : Instr) (off : Int) (pc2 tgt : Nat) : Prop := decode y.2.1 pc = .ok (i, 3) ∧ pc2 = pc + 3 ∧ (pc : Int) + off = (tgt : Int)
def mOk (y : mM) (n : Nat) : Prop := Cond.code y.1 y.2.1 y.2.2.1 y.2.2.2 ∈ lw_ws ∧ Cond.initialized y.1.cls ∈ lw_ws ∧ ((y.1.cls ≠ "java/lang/invoke/MethodHandle" ∧ y.1.cls ≠ "java/lang/invoke/VarHandle") ∧ plainName y.1.cls = true ∧ y.2.2.1 ≤ 13 ∧ (parseMethodDescriptor y.1.desc).map (fun d => d.parameters.length) = some n ∧ y.1.cls ≠ "AgeFerryLaw")
def mLS (own : String) (idx : Nat) (y : mM) : Prop := Cond.methodLink own idx y.1 ∈ lw_ws ∧ Cond.static y.1 ∈ lw_ws
def mLV (own : String) (idx : Nat) (y : mM) : Prop := Cond.methodLink own idx y.1 ∈ lw_ws ∧ Cond.instanceMethod y.1 ∈ lw_ws ∧ Cond.selects y.1.cls y.1 y.1 ∈ lw_ws
def mT0 : u_T := fun k => match k with
  | 0 => ("AgeFerry$Days", "people", "LAgeFerry$People;", true)
  | 1 => ("AgeFerry$Days", "rules", "LAgeFerry$Rules;", true)
  | 2 => ("AgeFerry$Days", "prices", "[I", true)
  | 3 => ("AgeFerry$Days", "needs", "[I", true)
  | 4 => ("AgeFerry$Days", "best", "[I", true)
  | 5 => ("AgeFerry$Days", "most", "[I", true)
  | _ => ("AgeFerry$Days", "outdated", "Z", false)
def mTy0 : Nat → FieldType := fun k => match k with
  | 0 => .object "AgeFerry$People"
  | 1 => .object "AgeFerry$Rules"
  | 2 => .array .int
  | 3 => .array .int
  | 4 => .array .int
  | 5 => .array .int
  | _ => .boolean
theorem mNm0 : ∀ a, a < 7 → ∀ b, b < 7 → a ≠ b → (mT0 a).2.1 ≠ (mT0 b).2.1 := by decide +kernel
theorem mTk0 : ∀ k, k < 7 → parseFieldDescriptor (mT0 k).2.2.1 = some (mTy0 k) := by decide +kernel
theorem mIn0 : ∀ w ∈ u_ws "AgeFerry$Days" mT0 7, w ∈ lw_ws := fun w h => List.mem_filter.mpr ⟨(goodIn_p (big := lw_tbl) (u_ws "AgeFerry$Days" mT0 7) [] (by decide +kernel) (by decide +kernel) w h).1, List.all_eq_true.mp (show (u_ws "AgeFerry$Days" mT0 7).all goodWord = true by decide +kernel) w h⟩
def mT1 : u_T := fun k => match k with
  | 0 => ("AgeFerry$People", "text", "[I", true)
  | 1 => ("AgeFerry$People", "ages", "[I", true)
  | 2 => ("AgeFerry$People", "told", "[I", true)
  | 3 => ("AgeFerry$People", "weights", "[I", true)
  | 4 => ("AgeFerry$People", "hours", "[I", true)
  | 5 => ("AgeFerry$People", "lies", "[I", true)
  | 6 => ("AgeFerry$People", "length", "I", false)
  | 7 => ("AgeFerry$People", "number", "I", false)
  | _ => ("AgeFerry$People", "fault", "I", false)
def mTy1 : Nat → FieldType := fun k => match k with
  | 0 => .array .int
  | 1 => .array .int
  | 2 => .array .int
  | 3 => .array .int
  | 4 => .array .int
  | 5 => .array .int
  | 6 => .int
  | 7 => .int
  | _ => .int
theorem mNm1 : ∀ a, a < 9 → ∀ b, b < 9 → a ≠ b → (mT1 a).2.1 ≠ (mT1 b).2.1 := by decide +kernel
theorem mTk1 : ∀ k, k < 9 → parseFieldDescriptor (mT1 k).2.2.1 = some (mTy1 k) := by decide +kernel
theorem mIn1 : ∀ w ∈ u_ws "AgeFerry$People" mT1 9, w ∈ lw_ws := fun w h => List.mem_filter.mpr ⟨(goodIn_p (big := lw_tbl) (u_ws "AgeFerry$People" mT1 9) [] (by decide +kernel) (by decide +kernel) w h).1, List.all_eq_true.mp (show (u_ws "AgeFerry$People" mT1 9).all goodWord = true by decide +kernel) w h⟩
def mT2 : u_T := fun k => match k with
  | 0 => ("AgeFerry$Rules", "values", "[I", true)
  | 1 => ("AgeFerry$Rules", "wont", "[I", true)
  | _ => ("AgeFerry$Rules", "must", "[I", true)
def mTy2 : Nat → FieldType := fun k => match k with
  | 0 => .array .int
  | 1 => .array .int
  | _ => .array .int
theorem mNm2 : ∀ a, a < 3 → ∀ b, b < 3 → a ≠ b → (mT2 a).2.1 ≠ (mT2 b).2.1 := by decide +kernel
theorem mTk2 : ∀ k, k < 3 → parseFieldDescriptor (mT2 k).2.2.1 = some (mTy2 k) := by decide +kernel
theorem mIn2 : ∀ w ∈ u_ws "AgeFerry$Rules" mT2 3, w ∈ lw_ws := fun w h => List.mem_filter.mpr ⟨(goodIn_p (big := lw_tbl) (u_ws "AgeFerry$Rules" mT2 3) [] (by decide +kernel) (by decide +kernel) w h).1, List.all_eq_true.mp (show (u_ws "AgeFerry$Rules" mT2 3).all goodWord = true by decide +kernel) w h⟩
def mT3 : u_T := fun k => match k with
  | 0 => ("AgeFerry$Sheet", "items", "[I", true)
  | 1 => ("AgeFerry$Sheet", "form", "I", false)
  | _ => ("AgeFerry$Sheet", "length", "I", false)
def mTy3 : Nat → FieldType := fun k => match k with
  | 0 => .array .int
  | 1 => .int
  | _ => .int
theorem mNm3 : ∀ a, a < 3 → ∀ b, b < 3 → a ≠ b → (mT3 a).2.1 ≠ (mT3 b).2.1 := by decide +kernel
theorem mTk3 : ∀ k, k < 3 → parseFieldDescriptor (mT3 k).2.2.1 = some (mTy3 k) := by decide +kernel
theorem mIn3 : ∀ w ∈ u_ws "AgeFerry$Sheet" mT3 3, w ∈ lw_ws := fun w h => List.mem_filter.mpr ⟨(goodIn_p (big := lw_tbl) (u_ws "AgeFerry$Sheet" mT3 3) [] (by decide +kernel) (by decide +kernel) w h).1, List.all_eq_true.mp (show (u_ws "AgeFerry$Sheet" mT3 3).all goodWord = true by decide +kernel) w h⟩
def mT4 : u_T := fun k => match k with
  | 0 => ("AgeFerry$Sightings", "ones", "[I", true)
  | 1 => ("AgeFerry$Sightings", "others", "[I", true)
  | 2 => ("AgeFerry$Sightings", "fares", "[I", true)
  | _ => ("AgeFerry$Sightings", "number", "I", false)
def mTy4 : Nat → FieldType := fun k => match k with
  | 0 => .array .int
  | 1 => .array .int
  | 2 => .array .int
  | _ => .int
theorem mNm4 : ∀ a, a < 4 → ∀ b, b < 4 → a ≠ b → (mT4 a).2.1 ≠ (mT4 b).2.1 := by decide +kernel
theorem mTk4 : ∀ k, k < 4 → parseFieldDescriptor (mT4 k).2.2.1 = some (mTy4 k) := by decide +kernel
theorem mIn4 : ∀ w ∈ u_ws "AgeFerry$Sightings" mT4 4, w ∈ lw_ws := fun w h => List.mem_filter.mpr ⟨(goodIn_p (big := lw_tbl) (u_ws "AgeFerry$Sightings" mT4 4) [] (by decide +kernel) (by decide +kernel) w h).1, List.all_eq_true.mp (show (u_ws "AgeFerry$Sightings" mT4 4).all goodWord = true by decide +kernel) w h⟩
def mT5 : u_T := fun k => match k with
  | 0 => ("AgeFerry$Trip", "days", "LAgeFerry$Days;", true)
  | 1 => ("AgeFerry$Trip", "met", "[I", true)
  | 2 => ("AgeFerry$Trip", "all", "I", false)
  | _ => ("AgeFerry$Trip", "least", "I", false)
def mTy5 : Nat → FieldType := fun k => match k with
  | 0 => .object "AgeFerry$Days"
  | 1 => .array .int
  | 2 => .int
  | _ => .int
theorem mNm5 : ∀ a, a < 4 → ∀ b, b < 4 → a ≠ b → (mT5 a).2.1 ≠ (mT5 b).2.1 := by decide +kernel
theorem mTk5 : ∀ k, k < 4 → parseFieldDescriptor (mT5 k).2.2.1 = some (mTy5 k) := by decide +kernel
theorem mIn5 : ∀ w ∈ u_ws "AgeFerry$Trip" mT5 4, w ∈ lw_ws := fun w h => List.mem_filter.mpr ⟨(goodIn_p (big := lw_tbl) (u_ws "AgeFerry$Trip" mT5 4) [] (by decide +kernel) (by decide +kernel) w h).1, List.all_eq_true.mp (show (u_ws "AgeFerry$Trip" mT5 4).all goodWord = true by decide +kernel) w h⟩
def mT6 : u_T := fun k => match k with
  | 0 => ("AgeFerry", "people", "LAgeFerry$People;", true)
  | 1 => ("AgeFerry", "rules", "LAgeFerry$Rules;", true)
  | 2 => ("AgeFerry", "days", "LAgeFerry$Days;", true)
  | 3 => ("AgeFerry", "trip", "LAgeFerry$Trip;", true)
  | 4 => ("AgeFerry", "sightings", "LAgeFerry$Sightings;", true)
  | 5 => ("AgeFerry", "sheets", "[LAgeFerry$Sheet;", true)
  | 6 => ("AgeFerry", "boats", "[I", true)
  | _ => ("AgeFerry", "latestFinding", "I", false)
def mTy6 : Nat → FieldType := fun k => match k with
  | 0 => .object "AgeFerry$People"
  | 1 => .object "AgeFerry$Rules"
  | 2 => .object "AgeFerry$Days"
  | 3 => .object "AgeFerry$Trip"
  | 4 => .object "AgeFerry$Sightings"
  | 5 => .array (.object "AgeFerry$Sheet")
  | 6 => .array .int
  | _ => .int
theorem mNm6 : ∀ a, a < 8 → ∀ b, b < 8 → a ≠ b → (mT6 a).2.1 ≠ (mT6 b).2.1 := by decide +kernel
theorem mTk6 : ∀ k, k < 8 → parseFieldDescriptor (mT6 k).2.2.1 = some (mTy6 k) := by decide +kernel
theorem mIn6 : ∀ w ∈ u_ws "AgeFerry" mT6 8, w ∈ lw_ws := fun w h => List.mem_filter.mpr ⟨(goodIn_p (big := lw_tbl) (u_ws "AgeFerry" mT6 8) [] (by decide +kernel) (by decide +kernel) w h).1, List.all_eq_true.mp (show (u_ws "AgeFerry" mT6 8).all goodWord = true by decide +kernel) w h⟩
def mT7 : u_T := fun k => match k with
  | 0 => ("AgeFerryModel", "forms", "[I", true)
  | 1 => ("AgeFerryModel", "sizes", "[I", true)
  | 2 => ("AgeFerryModel", "items", "[I", true)
  | 3 => ("AgeFerryModel", "moved", "[I", true)
  | 4 => ("AgeFerryModel", "latest", "I", false)
  | 5 => ("AgeFerryModel", "text", "[I", true)
  | 6 => ("AgeFerryModel", "typed", "I", false)
  | 7 => ("AgeFerryModel", "at", "I", false)
  | 8 => ("AgeFerryModel", "people", "I", false)
  | 9 => ("AgeFerryModel", "ages", "[I", true)
  | 10 => ("AgeFerryModel", "weights", "[I", true)
  | 11 => ("AgeFerryModel", "comes", "[I", true)
  | 12 => ("AgeFerryModel", "lies", "[I", true)
  | 13 => ("AgeFerryModel", "settings", "[I", true)
  | 14 => ("AgeFerryModel", "wont", "[I", true)
  | 15 => ("AgeFerryModel", "must", "[I", true)
  | 16 => ("AgeFerryModel", "costs", "[I", true)
  | 17 => ("AgeFerryModel", "partners", "[I", true)
  | 18 => ("AgeFerryModel", "may", "[Z", true)
  | 19 => ("AgeFerryModel", "least", "[I", true)
  | 20 => ("AgeFerryModel", "many", "[I", true)
  | 21 => ("AgeFerryModel", "boatOf", "[I", true)
  | 22 => ("AgeFerryModel", "most", "[I", true)
  | 23 => ("AgeFerryModel", "leasts", "[I", true)
  | 24 => ("AgeFerryModel", "row", "[I", true)
  | 25 => ("AgeFerryModel", "pairsOf", "[I", true)
  | 26 => ("AgeFerryModel", "wayCosts", "[I", true)
  | 27 => ("AgeFerryModel", "ways", "I", false)
  | 28 => ("AgeFerryModel", "sights", "I", false)
  | 29 => ("AgeFerryModel", "seen", "[I", true)
  | _ => ("AgeFerryModel", "drawn", "[I", true)
def mTy7 : Nat → FieldType := fun k => match k with
  | 0 => .array .int
  | 1 => .array .int
  | 2 => .array .int
  | 3 => .array .int
  | 4 => .int
  | 5 => .array .int
  | 6 => .int
  | 7 => .int
  | 8 => .int
  | 9 => .array .int
  | 10 => .array .int
  | 11 => .array .int
  | 12 => .array .int
  | 13 => .array .int
  | 14 => .array .int
  | 15 => .array .int
  | 16 => .array .int
  | 17 => .array .int
  | 18 => .array .boolean
  | 19 => .array .int
  | 20 => .array .int
  | 21 => .array .int
  | 22 => .array .int
  | 23 => .array .int
  | 24 => .array .int
  | 25 => .array .int
  | 26 => .array .int
  | 27 => .int
  | 28 => .int
  | 29 => .array .int
  | _ => .array .int
theorem mNm7 : ∀ a, a < 31 → ∀ b, b < 31 → a ≠ b → (mT7 a).2.1 ≠ (mT7 b).2.1 := by decide +kernel
theorem mTk7 : ∀ k, k < 31 → parseFieldDescriptor (mT7 k).2.2.1 = some (mTy7 k) := by decide +kernel
theorem mIn7 : ∀ w ∈ u_ws "AgeFerryModel" mT7 31, w ∈ lw_ws := fun w h => List.mem_filter.mpr ⟨(goodIn_p (big := lw_tbl) (u_ws "AgeFerryModel" mT7 31) [] (by decide +kernel) (by decide +kernel) w h).1, List.all_eq_true.mp (show (u_ws "AgeFerryModel" mT7 31).all goodWord = true by decide +kernel) w h⟩
abbrev mCl : List vw_C := [("AgeFerry$Days", mT0, 7), ("AgeFerry$People", mT1, 9), ("AgeFerry$Rules", mT2, 3), ("AgeFerry$Sheet", mT3, 3), ("AgeFerry$Sightings", mT4, 4), ("AgeFerry$Trip", mT5, 4), ("AgeFerry", mT6, 8), ("AgeFerryModel", mT7, 31)]
theorem mCl_ok : ∀ (ci : Nat) (q : vw_C), mCl[ci]? = some q → (∀ w ∈ u_ws q.1 q.2.1 q.2.2, w ∈ lw_ws) ∧ (∃ ty0 : Nat → FieldType, ∀ k, k < q.2.2 → parseFieldDescriptor (q.2.1 k).2.2.1 = some (ty0 k)) ∧ (∀ a, a < q.2.2 → ∀ b, b < q.2.2 → a ≠ b → (q.2.1 a).2.1 ≠ (q.2.1 b).2.1)
  | 0, _, h => by cases h; exact ⟨mIn0, ⟨mTy0, mTk0⟩, mNm0⟩
  | 1, _, h => by cases h; exact ⟨mIn1, ⟨mTy1, mTk1⟩, mNm1⟩
  | 2, _, h => by cases h; exact ⟨mIn2, ⟨mTy2, mTk2⟩, mNm2⟩
  | 3, _, h => by cases h; exact ⟨mIn3, ⟨mTy3, mTk3⟩, mNm3⟩
  | 4, _, h => by cases h; exact ⟨mIn4, ⟨mTy4, mTk4⟩, mNm4⟩
  | 5, _, h => by cases h; exact ⟨mIn5, ⟨mTy5, mTk5⟩, mNm5⟩
  | 6, _, h => by cases h; exact ⟨mIn6, ⟨mTy6, mTk6⟩, mNm6⟩
  | 7, _, h => by cases h; exact ⟨mIn7, ⟨mTy7, mTk7⟩, mNm7⟩
  | _ + 8, _, h => by simp at h
def mFd (own : String) (idx ci j : Nat) : Prop := ∃ q : vw_C, mCl[ci]? = some q ∧ j < q.2.2 ∧ Cond.fieldLink own idx (q.2.1 j).1 (q.2.1 j).2.1 (q.2.1 j).2.2.1 ∈ lw_ws
def mFp (own : String) (idx ci j : Nat) (ds : String) : Prop := ∃ q : vw_C, mCl[ci]? = some q ∧ j < q.2.2 ∧ Cond.fieldLink own idx (q.2.1 j).1 (q.2.1 j).2.1 (q.2.1 j).2.2.1 ∈ lw_ws ∧ (q.2.1 j).2.2.2 = false ∧ (q.2.1 j).2.2.1 = ds
theorem fd_F_10 : mFd "AgeFerry" 10 6 0 := ⟨_, rfl, by decide, lw_in (i := 177) (by decide +kernel)⟩
theorem fd_F_19 : mFd "AgeFerry" 19 6 1 := ⟨_, rfl, by decide, lw_in (i := 178) (by decide +kernel)⟩
theorem fd_F_28 : mFd "AgeFerry" 28 6 2 := ⟨_, rfl, by decide, lw_in (i := 179) (by decide +kernel)⟩
theorem fd_F_37 : mFd "AgeFerry" 37 6 3 := ⟨_, rfl, by decide, lw_in (i := 180) (by decide +kernel)⟩
theorem fd_F_44 : mFd "AgeFerry" 44 6 4 := ⟨_, rfl, by decide, lw_in (i := 181) (by decide +kernel)⟩
theorem fd_F_50 : mFd "AgeFerry" 50 6 5 := ⟨_, rfl, by decide, lw_in (i := 182) (by decide +kernel)⟩
theorem fd_F_55 : mFd "AgeFerry" 55 6 6 := ⟨_, rfl, by decide, lw_in (i := 183) (by decide +kernel)⟩
theorem fd_F_78 : mFd "AgeFerry" 78 1 8 := ⟨_, rfl, by decide, lw_in (i := 48) (by decide +kernel)⟩
theorem fp_F_78 : mFp "AgeFerry" 78 1 8 "I" := ⟨_, rfl, by decide, lw_in (i := 48) (by decide +kernel), rfl, rfl⟩
theorem fd_F_86 : mFd "AgeFerry" 86 1 1 := ⟨_, rfl, by decide, lw_in (i := 28) (by decide +kernel)⟩
theorem fd_F_89 : mFd "AgeFerry" 89 1 2 := ⟨_, rfl, by decide, lw_in (i := 32) (by decide +kernel)⟩
theorem fd_F_95 : mFd "AgeFerry" 95 1 3 := ⟨_, rfl, by decide, lw_in (i := 35) (by decide +kernel)⟩
theorem fd_F_98 : mFd "AgeFerry" 98 1 4 := ⟨_, rfl, by decide, lw_in (i := 38) (by decide +kernel)⟩
theorem fd_F_108 : mFd "AgeFerry" 108 1 5 := ⟨_, rfl, by decide, lw_in (i := 40) (by decide +kernel)⟩
theorem fd_F_124 : mFd "AgeFerry" 124 3 2 := ⟨_, rfl, by decide, lw_in (i := 169) (by decide +kernel)⟩
theorem fp_F_124 : mFp "AgeFerry" 124 3 2 "I" := ⟨_, rfl, by decide, lw_in (i := 169) (by decide +kernel), rfl, rfl⟩
theorem fd_F_140 : mFd "AgeFerry" 140 2 0 := ⟨_, rfl, by decide, lw_in (i := 77) (by decide +kernel)⟩
theorem fd_F_143 : mFd "AgeFerry" 143 2 1 := ⟨_, rfl, by decide, lw_in (i := 79) (by decide +kernel)⟩
theorem fd_F_146 : mFd "AgeFerry" 146 2 2 := ⟨_, rfl, by decide, lw_in (i := 82) (by decide +kernel)⟩
theorem fd_F_177 : mFd "AgeFerry" 177 1 7 := ⟨_, rfl, by decide, lw_in (i := 45) (by decide +kernel)⟩
theorem fp_F_177 : mFp "AgeFerry" 177 1 7 "I" := ⟨_, rfl, by decide, lw_in (i := 45) (by decide +kernel), rfl, rfl⟩
theorem fd_F_264 : mFd "AgeFerry" 264 6 7 := ⟨_, rfl, by decide, lw_in (i := 184) (by decide +kernel)⟩
theorem fp_F_264 : mFp "AgeFerry" 264 6 7 "I" := ⟨_, rfl, by decide, lw_in (i := 184) (by decide +kernel), rfl, rfl⟩
theorem fd_F_267 : mFd "AgeFerry" 267 3 1 := ⟨_, rfl, by decide, lw_in (i := 167) (by decide +kernel)⟩
theorem fp_F_267 : mFp "AgeFerry" 267 3 1 "I" := ⟨_, rfl, by decide, lw_in (i := 167) (by decide +kernel), rfl, rfl⟩
theorem fd_F_273 : mFd "AgeFerry" 273 3 0 := ⟨_, rfl, by decide, lw_in (i := 165) (by decide +kernel)⟩
theorem fd_F_286 : mFd "AgeFerry" 286 1 6 := ⟨_, rfl, by decide, lw_in (i := 43) (by decide +kernel)⟩
theorem fp_F_286 : mFp "AgeFerry" 286 1 6 "I" := ⟨_, rfl, by decide, lw_in (i := 43) (by decide +kernel), rfl, rfl⟩
theorem fd_F_297 : mFd "AgeFerry" 297 4 3 := ⟨_, rfl, by decide, lw_in (i := 147) (by decide +kernel)⟩
theorem fp_F_297 : mFp "AgeFerry" 297 4 3 "I" := ⟨_, rfl, by decide, lw_in (i := 147) (by decide +kernel), rfl, rfl⟩
theorem fd_D_11 : mFd "AgeFerry$Days" 11 0 2 := ⟨_, rfl, by decide, lw_in (i := 98) (by decide +kernel)⟩
theorem fd_D_15 : mFd "AgeFerry$Days" 15 0 3 := ⟨_, rfl, by decide, lw_in (i := 99) (by decide +kernel)⟩
theorem fd_D_18 : mFd "AgeFerry$Days" 18 0 4 := ⟨_, rfl, by decide, lw_in (i := 100) (by decide +kernel)⟩
theorem fd_D_21 : mFd "AgeFerry$Days" 21 0 5 := ⟨_, rfl, by decide, lw_in (i := 101) (by decide +kernel)⟩
theorem fd_D_24 : mFd "AgeFerry$Days" 24 0 6 := ⟨_, rfl, by decide, lw_in (i := 102) (by decide +kernel)⟩
theorem fp_D_24 : mFp "AgeFerry$Days" 24 0 6 "Z" := ⟨_, rfl, by decide, lw_in (i := 102) (by decide +kernel), rfl, rfl⟩
theorem fd_D_28 : mFd "AgeFerry$Days" 28 0 0 := ⟨_, rfl, by decide, lw_in (i := 96) (by decide +kernel)⟩
theorem fd_D_32 : mFd "AgeFerry$Days" 32 0 1 := ⟨_, rfl, by decide, lw_in (i := 97) (by decide +kernel)⟩
theorem fd_D_63 : mFd "AgeFerry$Days" 63 2 0 := ⟨_, rfl, by decide, lw_in (i := 76) (by decide +kernel)⟩
theorem fd_D_68 : mFd "AgeFerry$Days" 68 1 2 := ⟨_, rfl, by decide, lw_in (i := 31) (by decide +kernel)⟩
theorem fd_D_80 : mFd "AgeFerry$Days" 80 1 3 := ⟨_, rfl, by decide, lw_in (i := 34) (by decide +kernel)⟩
theorem fd_D_83 : mFd "AgeFerry$Days" 83 1 4 := ⟨_, rfl, by decide, lw_in (i := 37) (by decide +kernel)⟩
theorem fs_D_95 : Cond.fieldLink "AgeFerry$Days" 95 "AgeFerry$Days" "FACTORIALS" "[I" ∈ lw_ws := lw_in (i := 476) (by decide +kernel)
theorem fd_D_101 : mFd "AgeFerry$Days" 101 1 7 := ⟨_, rfl, by decide, lw_in (i := 46) (by decide +kernel)⟩
theorem fp_D_101 : mFp "AgeFerry$Days" 101 1 7 "I" := ⟨_, rfl, by decide, lw_in (i := 46) (by decide +kernel), rfl, rfl⟩
theorem fd_D_108 : mFd "AgeFerry$Days" 108 1 5 := ⟨_, rfl, by decide, lw_in (i := 41) (by decide +kernel)⟩
theorem fd_D_124 : mFd "AgeFerry$Days" 124 2 1 := ⟨_, rfl, by decide, lw_in (i := 80) (by decide +kernel)⟩
theorem fd_P_11 : mFd "AgeFerry$People" 11 1 0 := ⟨_, rfl, by decide, lw_in (i := 26) (by decide +kernel)⟩
theorem fd_P_15 : mFd "AgeFerry$People" 15 1 1 := ⟨_, rfl, by decide, lw_in (i := 27) (by decide +kernel)⟩
theorem fd_P_18 : mFd "AgeFerry$People" 18 1 2 := ⟨_, rfl, by decide, lw_in (i := 29) (by decide +kernel)⟩
theorem fd_P_21 : mFd "AgeFerry$People" 21 1 3 := ⟨_, rfl, by decide, lw_in (i := 33) (by decide +kernel)⟩
theorem fd_P_24 : mFd "AgeFerry$People" 24 1 4 := ⟨_, rfl, by decide, lw_in (i := 36) (by decide +kernel)⟩
theorem fd_P_27 : mFd "AgeFerry$People" 27 1 5 := ⟨_, rfl, by decide, lw_in (i := 39) (by decide +kernel)⟩
theorem fd_P_30 : mFd "AgeFerry$People" 30 1 8 := ⟨_, rfl, by decide, lw_in (i := 47) (by decide +kernel)⟩
theorem fp_P_30 : mFp "AgeFerry$People" 30 1 8 "I" := ⟨_, rfl, by decide, lw_in (i := 47) (by decide +kernel), rfl, rfl⟩
theorem fd_P_34 : mFd "AgeFerry$People" 34 1 6 := ⟨_, rfl, by decide, lw_in (i := 42) (by decide +kernel)⟩
theorem fp_P_34 : mFp "AgeFerry$People" 34 1 6 "I" := ⟨_, rfl, by decide, lw_in (i := 42) (by decide +kernel), rfl, rfl⟩
theorem fd_P_40 : mFd "AgeFerry$People" 40 1 7 := ⟨_, rfl, by decide, lw_in (i := 44) (by decide +kernel)⟩
theorem fp_P_40 : mFp "AgeFerry$People" 40 1 7 "I" := ⟨_, rfl, by decide, lw_in (i := 44) (by decide +kernel), rfl, rfl⟩
theorem fd_R_9 : mFd "AgeFerry$Rules" 9 2 0 := ⟨_, rfl, by decide, lw_in (i := 75) (by decide +kernel)⟩
theorem fd_R_15 : mFd "AgeFerry$Rules" 15 2 1 := ⟨_, rfl, by decide, lw_in (i := 78) (by decide +kernel)⟩
theorem fd_R_18 : mFd "AgeFerry$Rules" 18 2 2 := ⟨_, rfl, by decide, lw_in (i := 81) (by decide +kernel)⟩
theorem fs_R_21 : Cond.fieldLink "AgeFerry$Rules" 21 "AgeFerry$Rules" "LEAST" "[I" ∈ lw_ws := lw_in (i := 316) (by decide +kernel)
theorem fs_R_24 : Cond.fieldLink "AgeFerry$Rules" 24 "AgeFerry$Rules" "GREATEST" "[I" ∈ lw_ws := lw_in (i := 318) (by decide +kernel)
theorem fd_S_9 : mFd "AgeFerry$Sheet" 9 3 0 := ⟨_, rfl, by decide, lw_in (i := 164) (by decide +kernel)⟩
theorem fd_S_13 : mFd "AgeFerry$Sheet" 13 3 2 := ⟨_, rfl, by decide, lw_in (i := 168) (by decide +kernel)⟩
theorem fp_S_13 : mFp "AgeFerry$Sheet" 13 3 2 "I" := ⟨_, rfl, by decide, lw_in (i := 168) (by decide +kernel), rfl, rfl⟩
theorem fd_S_17 : mFd "AgeFerry$Sheet" 17 3 1 := ⟨_, rfl, by decide, lw_in (i := 166) (by decide +kernel)⟩
theorem fp_S_17 : mFp "AgeFerry$Sheet" 17 3 1 "I" := ⟨_, rfl, by decide, lw_in (i := 166) (by decide +kernel), rfl, rfl⟩
theorem fd_G_11 : mFd "AgeFerry$Sightings" 11 4 0 := ⟨_, rfl, by decide, lw_in (i := 143) (by decide +kernel)⟩
theorem fd_G_15 : mFd "AgeFerry$Sightings" 15 4 1 := ⟨_, rfl, by decide, lw_in (i := 144) (by decide +kernel)⟩
theorem fd_G_18 : mFd "AgeFerry$Sightings" 18 4 2 := ⟨_, rfl, by decide, lw_in (i := 145) (by decide +kernel)⟩
theorem fd_G_21 : mFd "AgeFerry$Sightings" 21 4 3 := ⟨_, rfl, by decide, lw_in (i := 146) (by decide +kernel)⟩
theorem fp_G_21 : mFp "AgeFerry$Sightings" 21 4 3 "I" := ⟨_, rfl, by decide, lw_in (i := 146) (by decide +kernel), rfl, rfl⟩
theorem fd_G_38 : mFd "AgeFerry$Sightings" 38 1 2 := ⟨_, rfl, by decide, lw_in (i := 30) (by decide +kernel)⟩
theorem fd_T_9 : mFd "AgeFerry$Trip" 9 5 1 := ⟨_, rfl, by decide, lw_in (i := 125) (by decide +kernel)⟩
theorem fd_T_15 : mFd "AgeFerry$Trip" 15 5 0 := ⟨_, rfl, by decide, lw_in (i := 124) (by decide +kernel)⟩
theorem fd_T_29 : mFd "AgeFerry$Trip" 29 5 2 := ⟨_, rfl, by decide, lw_in (i := 126) (by decide +kernel)⟩
theorem fp_T_29 : mFp "AgeFerry$Trip" 29 5 2 "I" := ⟨_, rfl, by decide, lw_in (i := 126) (by decide +kernel), rfl, rfl⟩
theorem fd_T_34 : mFd "AgeFerry$Trip" 34 5 3 := ⟨_, rfl, by decide, lw_in (i := 127) (by decide +kernel)⟩
theorem fp_T_34 : mFp "AgeFerry$Trip" 34 5 3 "I" := ⟨_, rfl, by decide, lw_in (i := 127) (by decide +kernel), rfl, rfl⟩
theorem fd_M_7 : mFd "AgeFerryModel" 7 7 0 := ⟨_, rfl, by decide, lw_in (i := 689) (by decide +kernel)⟩
theorem fd_M_13 : mFd "AgeFerryModel" 13 7 1 := ⟨_, rfl, by decide, lw_in (i := 690) (by decide +kernel)⟩
theorem fd_M_16 : mFd "AgeFerryModel" 16 7 2 := ⟨_, rfl, by decide, lw_in (i := 691) (by decide +kernel)⟩
theorem fd_M_19 : mFd "AgeFerryModel" 19 7 3 := ⟨_, rfl, by decide, lw_in (i := 692) (by decide +kernel)⟩
theorem fd_M_22 : mFd "AgeFerryModel" 22 7 5 := ⟨_, rfl, by decide, lw_in (i := 694) (by decide +kernel)⟩
theorem fd_M_25 : mFd "AgeFerryModel" 25 7 9 := ⟨_, rfl, by decide, lw_in (i := 698) (by decide +kernel)⟩
theorem fd_M_28 : mFd "AgeFerryModel" 28 7 10 := ⟨_, rfl, by decide, lw_in (i := 699) (by decide +kernel)⟩
theorem fd_M_31 : mFd "AgeFerryModel" 31 7 11 := ⟨_, rfl, by decide, lw_in (i := 700) (by decide +kernel)⟩
theorem fd_M_34 : mFd "AgeFerryModel" 34 7 12 := ⟨_, rfl, by decide, lw_in (i := 701) (by decide +kernel)⟩
theorem fd_M_37 : mFd "AgeFerryModel" 37 7 13 := ⟨_, rfl, by decide, lw_in (i := 702) (by decide +kernel)⟩
theorem fd_M_40 : mFd "AgeFerryModel" 40 7 14 := ⟨_, rfl, by decide, lw_in (i := 703) (by decide +kernel)⟩
theorem fd_M_43 : mFd "AgeFerryModel" 43 7 15 := ⟨_, rfl, by decide, lw_in (i := 704) (by decide +kernel)⟩
theorem fd_M_46 : mFd "AgeFerryModel" 46 7 16 := ⟨_, rfl, by decide, lw_in (i := 705) (by decide +kernel)⟩
theorem fd_M_49 : mFd "AgeFerryModel" 49 7 17 := ⟨_, rfl, by decide, lw_in (i := 706) (by decide +kernel)⟩
theorem fd_M_52 : mFd "AgeFerryModel" 52 7 18 := ⟨_, rfl, by decide, lw_in (i := 707) (by decide +kernel)⟩
theorem fd_M_56 : mFd "AgeFerryModel" 56 7 19 := ⟨_, rfl, by decide, lw_in (i := 708) (by decide +kernel)⟩
theorem fd_M_59 : mFd "AgeFerryModel" 59 7 20 := ⟨_, rfl, by decide, lw_in (i := 709) (by decide +kernel)⟩
theorem fd_M_62 : mFd "AgeFerryModel" 62 7 21 := ⟨_, rfl, by decide, lw_in (i := 710) (by decide +kernel)⟩
theorem fd_M_65 : mFd "AgeFerryModel" 65 7 22 := ⟨_, rfl, by decide, lw_in (i := 711) (by decide +kernel)⟩
theorem fd_M_68 : mFd "AgeFerryModel" 68 7 23 := ⟨_, rfl, by decide, lw_in (i := 712) (by decide +kernel)⟩
theorem fd_M_71 : mFd "AgeFerryModel" 71 7 24 := ⟨_, rfl, by decide, lw_in (i := 713) (by decide +kernel)⟩
theorem fd_M_74 : mFd "AgeFerryModel" 74 7 25 := ⟨_, rfl, by decide, lw_in (i := 714) (by decide +kernel)⟩
theorem fd_M_77 : mFd "AgeFerryModel" 77 7 26 := ⟨_, rfl, by decide, lw_in (i := 715) (by decide +kernel)⟩
theorem fd_M_80 : mFd "AgeFerryModel" 80 7 29 := ⟨_, rfl, by decide, lw_in (i := 718) (by decide +kernel)⟩
theorem fd_M_83 : mFd "AgeFerryModel" 83 7 30 := ⟨_, rfl, by decide, lw_in (i := 719) (by decide +kernel)⟩
theorem fd_M_92 : mFd "AgeFerryModel" 92 7 4 := ⟨_, rfl, by decide, lw_in (i := 693) (by decide +kernel)⟩
theorem fp_M_92 : mFp "AgeFerryModel" 92 7 4 "I" := ⟨_, rfl, by decide, lw_in (i := 693) (by decide +kernel), rfl, rfl⟩
theorem fd_M_119 : mFd "AgeFerryModel" 119 7 6 := ⟨_, rfl, by decide, lw_in (i := 695) (by decide +kernel)⟩
theorem fp_M_119 : mFp "AgeFerryModel" 119 7 6 "I" := ⟨_, rfl, by decide, lw_in (i := 695) (by decide +kernel), rfl, rfl⟩
theorem fd_M_122 : mFd "AgeFerryModel" 122 7 7 := ⟨_, rfl, by decide, lw_in (i := 696) (by decide +kernel)⟩
theorem fp_M_122 : mFp "AgeFerryModel" 122 7 7 "I" := ⟨_, rfl, by decide, lw_in (i := 696) (by decide +kernel), rfl, rfl⟩
theorem fd_M_125 : mFd "AgeFerryModel" 125 7 8 := ⟨_, rfl, by decide, lw_in (i := 697) (by decide +kernel)⟩
theorem fp_M_125 : mFp "AgeFerryModel" 125 7 8 "I" := ⟨_, rfl, by decide, lw_in (i := 697) (by decide +kernel), rfl, rfl⟩
theorem fd_M_249 : mFd "AgeFerryModel" 249 7 27 := ⟨_, rfl, by decide, lw_in (i := 716) (by decide +kernel)⟩
theorem fp_M_249 : mFp "AgeFerryModel" 249 7 27 "I" := ⟨_, rfl, by decide, lw_in (i := 716) (by decide +kernel), rfl, rfl⟩
theorem fd_M_263 : mFd "AgeFerryModel" 263 7 28 := ⟨_, rfl, by decide, lw_in (i := 717) (by decide +kernel)⟩
theorem fp_M_263 : mFp "AgeFerryModel" 263 7 28 "I" := ⟨_, rfl, by decide, lw_in (i := 717) (by decide +kernel), rfl, rfl⟩
theorem kc_F_237 : Cond.constant "AgeFerry" 237 (1103515245) ∈ lw_ws := lw_in (i := 580) (by decide +kernel)
theorem kc_F_263 : Cond.constant "AgeFerry" 263 (-2147483648) ∈ lw_ws := lw_in (i := 627) (by decide +kernel)
theorem kc_D_66 : Cond.constant "AgeFerry$Days" 66 (-2147483648) ∈ lw_ws := lw_in (i := 356) (by decide +kernel)
theorem kc_D_67 : Cond.constant "AgeFerry$Days" 67 (2147483647) ∈ lw_ws := lw_in (i := 357) (by decide +kernel)
theorem kc_T_33 : Cond.constant "AgeFerry$Trip" 33 (2147483647) ∈ lw_ws := lw_in (i := 515) (by decide +kernel)
theorem kc_M_116 : Cond.constant "AgeFerryModel" 116 (-2147483648) ∈ lw_ws := lw_in (i := 819) (by decide +kernel)
theorem kc_M_176 : Cond.constant "AgeFerryModel" 176 (100000000) ∈ lw_ws := lw_in (i := 923) (by decide +kernel)
theorem kc_M_272 : Cond.constant "AgeFerryModel" 272 (1103515245) ∈ lw_ws := lw_in (i := 1075) (by decide +kernel)
theorem kc_J_265 : Cond.constant "java/lang/Integer" 265 (1431655765) ∈ lw_ws := lw_in (i := 349) (by decide +kernel)
theorem kc_J_266 : Cond.constant "java/lang/Integer" 266 (858993459) ∈ lw_ws := lw_in (i := 350) (by decide +kernel)
theorem kc_J_267 : Cond.constant "java/lang/Integer" 267 (252645135) ∈ lw_ws := lw_in (i := 351) (by decide +kernel)
theorem kl_F_298 : Cond.constantLong "AgeFerry" 298 (17) ∈ lw_ws := lw_in (i := 669) (by decide +kernel)
theorem kl_F_300 : Cond.constantLong "AgeFerry" 300 (31) ∈ lw_ws := lw_in (i := 670) (by decide +kernel)
theorem kl_F_339 : Cond.constantLong "AgeFerry" 339 (-9223372036854775808) ∈ lw_ws := lw_in (i := 456) (by decide +kernel)
theorem kl_M_86 : Cond.constantLong "AgeFerryModel" 86 (-9223372036854775808) ∈ lw_ws := lw_in (i := 999) (by decide +kernel)
theorem kl_M_96 : Cond.constantLong "AgeFerryModel" 96 (3) ∈ lw_ws := lw_in (i := 791) (by decide +kernel)
theorem kl_M_102 : Cond.constantLong "AgeFerryModel" 102 (2) ∈ lw_ws := lw_in (i := 795) (by decide +kernel)
theorem kl_M_117 : Cond.constantLong "AgeFerryModel" 117 (255) ∈ lw_ws := lw_in (i := 828) (by decide +kernel)
theorem kl_M_132 : Cond.constantLong "AgeFerryModel" 132 (48) ∈ lw_ws := lw_in (i := 849) (by decide +kernel)
theorem kl_M_134 : Cond.constantLong "AgeFerryModel" 134 (57) ∈ lw_ws := lw_in (i := 850) (by decide +kernel)
theorem kl_M_146 : Cond.constantLong "AgeFerryModel" 146 (9) ∈ lw_ws := lw_in (i := 877) (by decide +kernel)
theorem kl_M_160 : Cond.constantLong "AgeFerryModel" 160 (99) ∈ lw_ws := lw_in (i := 878) (by decide +kernel)
theorem kl_M_162 : Cond.constantLong "AgeFerryModel" 162 (-30) ∈ lw_ws := lw_in (i := 883) (by decide +kernel)
theorem kl_M_164 : Cond.constantLong "AgeFerryModel" 164 (30) ∈ lw_ws := lw_in (i := 884) (by decide +kernel)
theorem kl_M_261 : Cond.constantLong "AgeFerryModel" 261 (200) ∈ lw_ws := lw_in (i := 1050) (by decide +kernel)
theorem kl_M_280 : Cond.constantLong "AgeFerryModel" 280 (17) ∈ lw_ws := lw_in (i := 1091) (by decide +kernel)
theorem kl_M_282 : Cond.constantLong "AgeFerryModel" 282 (31) ∈ lw_ws := lw_in (i := 1092) (by decide +kernel)
def m_D_anyMust : mM := (⟨"AgeFerry$Days", "anyMust", "(I)Z"⟩, prog_2_method_12_code, 2, some .boolean)
theorem mk_D_anyMust : mOk m_D_anyMust 1 := ⟨lw_in (i := 514) (by decide +kernel), lw_in (i := 4) (by decide +kernel), by decide +kernel⟩
def m_D_bestLie : mM := (⟨"AgeFerry$Days", "bestLie", "(II)I"⟩, prog_2_method_15_code, 12, some .int)
theorem mk_D_bestLie : mOk m_D_bestLie 2 := ⟨lw_in (i := 495) (by decide +kernel), lw_in (i := 4) (by decide +kernel), by decide +kernel⟩
def m_D_boatWith : mM := (⟨"AgeFerry$Days", "boatWith", "(I)I"⟩, prog_2_method_11_code, 5, some .int)
theorem mk_D_boatWith : mOk m_D_boatWith 1 := ⟨lw_in (i := 415) (by decide +kernel), lw_in (i := 4) (by decide +kernel), by decide +kernel⟩
def m_D_boatsOf : mM := (⟨"AgeFerry$Days", "boatsOf", "(I)I"⟩, prog_2_method_9_code, 3, some .int)
theorem mk_D_boatsOf : mOk m_D_boatsOf 1 := ⟨lw_in (i := 403) (by decide +kernel), lw_in (i := 4) (by decide +kernel), by decide +kernel⟩
def m_D_bringUpToDate : mM := (⟨"AgeFerry$Days", "bringUpToDate", "()V"⟩, prog_2_method_3_code, 4, none)
theorem mk_D_bringUpToDate : mOk m_D_bringUpToDate 0 := ⟨lw_in (i := 367) (by decide +kernel), lw_in (i := 4) (by decide +kernel), by decide +kernel⟩
def m_D_broughtInAllOrders : mM := (⟨"AgeFerry$Days", "broughtInAllOrders", "(I)J"⟩, prog_2_method_14_code, 9, some .long)
theorem mk_D_broughtInAllOrders : mOk m_D_broughtInAllOrders 1 := ⟨lw_in (i := 471) (by decide +kernel), lw_in (i := 4) (by decide +kernel), by decide +kernel⟩
def m_D_costOf : mM := (⟨"AgeFerry$Days", "costOf", "(I)I"⟩, prog_2_method_5_code, 5, some .int)
theorem mk_D_costOf : mOk m_D_costOf 1 := ⟨lw_in (i := 344) (by decide +kernel), lw_in (i := 4) (by decide +kernel), by decide +kernel⟩
def m_D_fareOf : mM := (⟨"AgeFerry$Days", "fareOf", "(I)I"⟩, prog_2_method_4_code, 7, some .int)
theorem mk_D_fareOf : mOk m_D_fareOf 1 := ⟨lw_in (i := 355) (by decide +kernel), lw_in (i := 4) (by decide +kernel), by decide +kernel⟩
def m_D_firstBoatOf : mM := (⟨"AgeFerry$Days", "firstBoatOf", "(I)I"⟩, prog_2_method_22_code, 3, some .int)
theorem mk_D_firstBoatOf : mOk m_D_firstBoatOf 1 := ⟨lw_in (i := 419) (by decide +kernel), lw_in (i := 4) (by decide +kernel), by decide +kernel⟩
def m_D_init : mM := (⟨"AgeFerry$Days", "<init>", "(LAgeFerry$People;LAgeFerry$Rules;)V"⟩, prog_2_method_1_code, 3, none)
def m_D_leastOf : mM := (⟨"AgeFerry$Days", "leastOf", "(I)I"⟩, prog_2_method_8_code, 3, some .int)
theorem mk_D_leastOf : mOk m_D_leastOf 1 := ⟨lw_in (i := 395) (by decide +kernel), lw_in (i := 4) (by decide +kernel), by decide +kernel⟩
def m_D_lowestBit : mM := (⟨"AgeFerry$Days", "lowestBit", "(I)I"⟩, prog_2_method_19_code, 1, some .int)
theorem mk_D_lowestBit : mOk m_D_lowestBit 1 := ⟨lw_in (i := 371) (by decide +kernel), lw_in (i := 4) (by decide +kernel), by decide +kernel⟩
def m_D_mayGo : mM := (⟨"AgeFerry$Days", "mayGo", "(II)Z"⟩, prog_2_method_6_code, 3, some .boolean)
theorem mk_D_mayGo : mOk m_D_mayGo 2 := ⟨lw_in (i := 388) (by decide +kernel), lw_in (i := 4) (by decide +kernel), by decide +kernel⟩
def m_D_mostOf : mM := (⟨"AgeFerry$Days", "mostOf", "(I)I"⟩, prog_2_method_10_code, 2, some .int)
theorem mk_D_mostOf : mOk m_D_mostOf 1 := ⟨lw_in (i := 407) (by decide +kernel), lw_in (i := 4) (by decide +kernel), by decide +kernel⟩
def m_D_nextPart : mM := (⟨"AgeFerry$Days", "nextPart", "(II)I"⟩, prog_2_method_20_code, 2, some .int)
theorem mk_D_nextPart : mOk m_D_nextPart 2 := ⟨lw_in (i := 391) (by decide +kernel), lw_in (i := 4) (by decide +kernel), by decide +kernel⟩
def m_D_orders : mM := (⟨"AgeFerry$Days", "orders", "(I)I"⟩, prog_2_method_13_code, 2, some .int)
theorem mk_D_orders : mOk m_D_orders 1 := ⟨lw_in (i := 475) (by decide +kernel), lw_in (i := 4) (by decide +kernel), by decide +kernel⟩
def m_D_outdate : mM := (⟨"AgeFerry$Days", "outdate", "()V"⟩, prog_2_method_2_code, 1, none)
theorem mk_D_outdate : mOk m_D_outdate 0 := ⟨lw_in (i := 216) (by decide +kernel), lw_in (i := 4) (by decide +kernel), by decide +kernel⟩
def m_D_plan : mM := (⟨"AgeFerry$Days", "plan", "(I)V"⟩, prog_2_method_18_code, 13, none)
theorem mk_D_plan : mOk m_D_plan 1 := ⟨lw_in (i := 384) (by decide +kernel), lw_in (i := 4) (by decide +kernel), by decide +kernel⟩
def m_D_planOf : mM := (⟨"AgeFerry$Days", "planOf", "(I)I"⟩, prog_2_method_21_code, 2, some .int)
theorem mk_D_planOf : mOk m_D_planOf 1 := ⟨lw_in (i := 399) (by decide +kernel), lw_in (i := 4) (by decide +kernel), by decide +kernel⟩
def m_D_priceAt : mM := (⟨"AgeFerry$Days", "priceAt", "(I)I"⟩, prog_2_method_7_code, 2, some .int)
theorem mk_D_priceAt : mOk m_D_priceAt 1 := ⟨lw_in (i := 537) (by decide +kernel), lw_in (i := 4) (by decide +kernel), by decide +kernel⟩
def m_D_priceOf : mM := (⟨"AgeFerry$Days", "priceOf", "(I)I"⟩, prog_2_method_17_code, 3, some .int)
theorem mk_D_priceOf : mOk m_D_priceOf 1 := ⟨lw_in (i := 379) (by decide +kernel), lw_in (i := 4) (by decide +kernel), by decide +kernel⟩
def m_D_replanAround : mM := (⟨"AgeFerry$Days", "replanAround", "(I)V"⟩, prog_2_method_16_code, 4, none)
theorem mk_D_replanAround : mOk m_D_replanAround 1 := ⟨lw_in (i := 500) (by decide +kernel), lw_in (i := 4) (by decide +kernel), by decide +kernel⟩
def m_F_ages : mM := (⟨"AgeFerry", "ages", "(II)I"⟩, prog_1_method_24_code, 7, some .int)
theorem mk_F_ages : mOk m_F_ages 2 := ⟨lw_in (i := 562) (by decide +kernel), lw_in (i := 1) (by decide +kernel), by decide +kernel⟩
def m_F_anyNumberRefusal : mM := (⟨"AgeFerry", "anyNumberRefusal", "(I)I"⟩, prog_1_method_42_code, 1, some .int)
theorem mk_F_anyNumberRefusal : mOk m_F_anyNumberRefusal 1 := ⟨lw_in (i := 277) (by decide +kernel), lw_in (i := 1) (by decide +kernel), by decide +kernel⟩
def m_F_areThere : mM := (⟨"AgeFerry", "areThere", "(I)Z"⟩, prog_1_method_38_code, 2, some .boolean)
theorem mk_F_areThere : mOk m_F_areThere 1 := ⟨lw_in (i := 336) (by decide +kernel), lw_in (i := 1) (by decide +kernel), by decide +kernel⟩
def m_F_back : mM := (⟨"AgeFerry", "back", "()I"⟩, prog_1_method_21_code, 1, some .int)
theorem mk_F_back : mOk m_F_back 0 := ⟨lw_in (i := 505) (by decide +kernel), lw_in (i := 1) (by decide +kernel), by decide +kernel⟩
def m_F_boat : mM := (⟨"AgeFerry", "boat", "(II)I"⟩, prog_1_method_11_code, 3, some .int)
theorem mk_F_boat : mOk m_F_boat 2 := ⟨lw_in (i := 332) (by decide +kernel), lw_in (i := 1) (by decide +kernel), by decide +kernel⟩
def m_F_copy : mM := (⟨"AgeFerry", "copy", "(IIIII)I"⟩, prog_1_method_30_code, 8, some .int)
theorem mk_F_copy : mOk m_F_copy 5 := ⟨lw_in (i := 631) (by decide +kernel), lw_in (i := 1) (by decide +kernel), by decide +kernel⟩
def m_F_costOfBoats : mM := (⟨"AgeFerry", "costOfBoats", "()I"⟩, prog_1_method_47_code, 3, some .int)
theorem mk_F_costOfBoats : mOk m_F_costOfBoats 0 := ⟨lw_in (i := 448) (by decide +kernel), lw_in (i := 1) (by decide +kernel), by decide +kernel⟩
def m_F_costs : mM := (⟨"AgeFerry", "costs", "(I)I"⟩, prog_1_method_16_code, 5, some .int)
theorem mk_F_costs : mOk m_F_costs 1 := ⟨lw_in (i := 444) (by decide +kernel), lw_in (i := 1) (by decide +kernel), by decide +kernel⟩
def m_F_count : mM := (⟨"AgeFerry", "count", "(I)I"⟩, prog_1_method_32_code, 2, some .int)
theorem mk_F_count : mOk m_F_count 1 := ⟨lw_in (i := 651) (by decide +kernel), lw_in (i := 1) (by decide +kernel), by decide +kernel⟩
def m_F_crewOf : mM := (⟨"AgeFerry", "crewOf", "(LAgeFerry$Sheet;I)I"⟩, prog_1_method_46_code, 5, some .int)
theorem mk_F_crewOf : mOk m_F_crewOf 2 := ⟨lw_in (i := 439) (by decide +kernel), lw_in (i := 1) (by decide +kernel), by decide +kernel⟩
def m_F_day : mM := (⟨"AgeFerry", "day", "(II)I"⟩, prog_1_method_12_code, 3, some .int)
theorem mk_F_day : mOk m_F_day 2 := ⟨lw_in (i := 363) (by decide +kernel), lw_in (i := 1) (by decide +kernel), by decide +kernel⟩
def m_F_digest : mM := (⟨"AgeFerry", "digest", "()J"⟩, prog_1_method_33_code, 5, some .long)
theorem mk_F_digest : mOk m_F_digest 0 := ⟨lw_in (i := 668) (by decide +kernel), lw_in (i := 1) (by decide +kernel), by decide +kernel⟩
def m_F_exchange : mM := (⟨"AgeFerry", "exchange", "([III)I"⟩, prog_1_method_44_code, 4, some .int)
theorem mk_F_exchange : mOk m_F_exchange 3 := ⟨lw_in (i := 270) (by decide +kernel), lw_in (i := 1) (by decide +kernel), by decide +kernel⟩
def m_F_fault : mM := (⟨"AgeFerry", "fault", "()I"⟩, prog_1_method_4_code, 1, some .int)
theorem mk_F_fault : mOk m_F_fault 0 := ⟨lw_in (i := 254) (by decide +kernel), lw_in (i := 1) (by decide +kernel), by decide +kernel⟩
def m_F_find : mM := (⟨"AgeFerry", "find", "(I)I"⟩, prog_1_method_39_code, 2, some .int)
theorem mk_F_find : mOk m_F_find 1 := ⟨lw_in (i := 296) (by decide +kernel), lw_in (i := 1) (by decide +kernel), by decide +kernel⟩
def m_F_findingAt : mM := (⟨"AgeFerry", "findingAt", "(LAgeFerry$Sheet;II)I"⟩, prog_1_method_40_code, 3, some .int)
theorem mk_F_findingAt : mOk m_F_findingAt 3 := ⟨lw_in (i := 617) (by decide +kernel), lw_in (i := 1) (by decide +kernel), by decide +kernel⟩
def m_F_firstJudged : mM := (⟨"AgeFerry", "firstJudged", "(LAgeFerry$Sheet;)I"⟩, prog_1_method_45_code, 4, some .int)
theorem mk_F_firstJudged : mOk m_F_firstJudged 1 := ⟨lw_in (i := 435) (by decide +kernel), lw_in (i := 1) (by decide +kernel), by decide +kernel⟩
def m_F_forget : mM := (⟨"AgeFerry", "forget", "()I"⟩, prog_1_method_23_code, 1, some .int)
theorem mk_F_forget : mOk m_F_forget 0 := ⟨lw_in (i := 554) (by decide +kernel), lw_in (i := 1) (by decide +kernel), by decide +kernel⟩
def m_F_get : mM := (⟨"AgeFerry", "get", "(III)I"⟩, prog_1_method_29_code, 5, some .int)
theorem mk_F_get : mOk m_F_get 3 := ⟨lw_in (i := 626) (by decide +kernel), lw_in (i := 1) (by decide +kernel), by decide +kernel⟩
def m_F_init : mM := (⟨"AgeFerry", "<init>", "()V"⟩, prog_1_method_1_code, 2, none)
def m_F_isForm : mM := (⟨"AgeFerry", "isForm", "(I)Z"⟩, prog_1_method_37_code, 1, some .boolean)
theorem mk_F_isForm : mOk m_F_isForm 1 := ⟨lw_in (i := 597) (by decide +kernel), lw_in (i := 1) (by decide +kernel), by decide +kernel⟩
def m_F_isNumber : mM := (⟨"AgeFerry", "isNumber", "(I)Z"⟩, prog_1_method_35_code, 1, some .boolean)
theorem mk_F_isNumber : mOk m_F_isNumber 1 := ⟨lw_in (i := 239) (by decide +kernel), lw_in (i := 1) (by decide +kernel), by decide +kernel⟩
def m_F_isSheet : mM := (⟨"AgeFerry", "isSheet", "(I)Z"⟩, prog_1_method_36_code, 1, some .boolean)
theorem mk_F_isSheet : mOk m_F_isSheet 1 := ⟨lw_in (i := 288) (by decide +kernel), lw_in (i := 1) (by decide +kernel), by decide +kernel⟩
def m_F_isWithin : mM := (⟨"AgeFerry", "isWithin", "(III)Z"⟩, prog_1_method_34_code, 3, some .boolean)
theorem mk_F_isWithin : mOk m_F_isWithin 3 := ⟨lw_in (i := 208) (by decide +kernel), lw_in (i := 1) (by decide +kernel), by decide +kernel⟩
def m_F_judged : mM := (⟨"AgeFerry", "judged", "(I)I"⟩, prog_1_method_15_code, 3, some .int)
theorem mk_F_judged : mOk m_F_judged 1 := ⟨lw_in (i := 427) (by decide +kernel), lw_in (i := 1) (by decide +kernel), by decide +kernel⟩
def m_F_lay : mM := (⟨"AgeFerry", "lay", "(IIII)I"⟩, prog_1_method_28_code, 6, some .int)
theorem mk_F_lay : mOk m_F_lay 4 := ⟨lw_in (i := 614) (by decide +kernel), lw_in (i := 1) (by decide +kernel), by decide +kernel⟩
def m_F_lie : mM := (⟨"AgeFerry", "lie", "(II)I"⟩, prog_1_method_7_code, 4, some .int)
theorem mk_F_lie : mOk m_F_lie 2 := ⟨lw_in (i := 274) (by decide +kernel), lw_in (i := 1) (by decide +kernel), by decide +kernel⟩
def m_F_lies : mM := (⟨"AgeFerry", "lies", "(II)I"⟩, prog_1_method_20_code, 3, some .int)
theorem mk_F_lies : mOk m_F_lies 2 := ⟨lw_in (i := 491) (by decide +kernel), lw_in (i := 1) (by decide +kernel), by decide +kernel⟩
def m_F_longRefusal : mM := (⟨"AgeFerry", "longRefusal", "(I)J"⟩, prog_1_method_43_code, 1, some .long)
theorem mk_F_longRefusal : mOk m_F_longRefusal 1 := ⟨lw_in (i := 455) (by decide +kernel), lw_in (i := 1) (by decide +kernel), by decide +kernel⟩
def m_F_lose : mM := (⟨"AgeFerry", "lose", "(I)I"⟩, prog_1_method_27_code, 3, some .int)
theorem mk_F_lose : mOk m_F_lose 1 := ⟨lw_in (i := 606) (by decide +kernel), lw_in (i := 1) (by decide +kernel), by decide +kernel⟩
def m_F_lot : mM := (⟨"AgeFerry", "lot", "(I)I"⟩, prog_1_method_25_code, 7, some .int)
theorem mk_F_lot : mOk m_F_lot 1 := ⟨lw_in (i := 579) (by decide +kernel), lw_in (i := 1) (by decide +kernel), by decide +kernel⟩
def m_F_lotOf : mM := (⟨"AgeFerry", "lotOf", "(II)I"⟩, prog_1_method_49_code, 2, some .int)
theorem mk_F_lotOf : mOk m_F_lotOf 2 := ⟨lw_in (i := 583) (by decide +kernel), lw_in (i := 1) (by decide +kernel), by decide +kernel⟩
def m_F_lowestTerms : mM := (⟨"AgeFerry", "lowestTerms", "(JJI)J"⟩, prog_1_method_52_code, 12, some .long)
theorem mk_F_lowestTerms : mOk m_F_lowestTerms 3 := ⟨lw_in (i := 460) (by decide +kernel), lw_in (i := 1) (by decide +kernel), by decide +kernel⟩
def m_F_odd : mM := (⟨"AgeFerry", "odd", "()I"⟩, prog_1_method_14_code, 5, some .int)
theorem mk_F_odd : mOk m_F_odd 0 := ⟨lw_in (i := 423) (by decide +kernel), lw_in (i := 1) (by decide +kernel), by decide +kernel⟩
def m_F_paidTogether : mM := (⟨"AgeFerry", "paidTogether", "(LAgeFerry$Sheet;I)J"⟩, prog_1_method_48_code, 6, some .long)
theorem mk_F_paidTogether : mOk m_F_paidTogether 2 := ⟨lw_in (i := 487) (by decide +kernel), lw_in (i := 1) (by decide +kernel), by decide +kernel⟩
def m_F_pair : mM := (⟨"AgeFerry", "pair", "(IIII)I"⟩, prog_1_method_10_code, 5, some .int)
theorem mk_F_pair : mOk m_F_pair 4 := ⟨lw_in (i := 323) (by decide +kernel), lw_in (i := 1) (by decide +kernel), by decide +kernel⟩
def m_F_pays : mM := (⟨"AgeFerry", "pays", "(II)J"⟩, prog_1_method_17_code, 4, some .long)
theorem mk_F_pays : mOk m_F_pays 2 := ⟨lw_in (i := 452) (by decide +kernel), lw_in (i := 1) (by decide +kernel), by decide +kernel⟩
def m_F_person : mM := (⟨"AgeFerry", "person", "(II)I"⟩, prog_1_method_5_code, 3, some .int)
theorem mk_F_person : mOk m_F_person 2 := ⟨lw_in (i := 258) (by decide +kernel), lw_in (i := 1) (by decide +kernel), by decide +kernel⟩
def m_F_placeOf : mM := (⟨"AgeFerry", "placeOf", "(II)I"⟩, prog_1_method_51_code, 4, some .int)
theorem mk_F_placeOf : mOk m_F_placeOf 2 := ⟨lw_in (i := 586) (by decide +kernel), lw_in (i := 1) (by decide +kernel), by decide +kernel⟩
def m_F_put : mM := (⟨"AgeFerry", "put", "(III)I"⟩, prog_1_method_6_code, 4, some .int)
theorem mk_F_put : mOk m_F_put 3 := ⟨lw_in (i := 266) (by decide +kernel), lw_in (i := 1) (by decide +kernel), by decide +kernel⟩
def m_F_rather : mM := (⟨"AgeFerry", "rather", "(I)I"⟩, prog_1_method_19_code, 4, some .int)
theorem mk_F_rather : mOk m_F_rather 1 := ⟨lw_in (i := 483) (by decide +kernel), lw_in (i := 1) (by decide +kernel), by decide +kernel⟩
def m_F_read : mM := (⟨"AgeFerry", "read", "(I)I"⟩, prog_1_method_8_code, 5, some .int)
theorem mk_F_read : mOk m_F_read 1 := ⟨lw_in (i := 285) (by decide +kernel), lw_in (i := 1) (by decide +kernel), by decide +kernel⟩
def m_F_refusalOf : mM := (⟨"AgeFerry", "refusalOf", "(I)I"⟩, prog_1_method_41_code, 2, some .int)
theorem mk_F_refusalOf : mOk m_F_refusalOf 1 := ⟨lw_in (i := 431) (by decide +kernel), lw_in (i := 1) (by decide +kernel), by decide +kernel⟩
def m_F_seen : mM := (⟨"AgeFerry", "seen", "(III)I"⟩, prog_1_method_22_code, 4, some .int)
theorem mk_F_seen : mOk m_F_seen 3 := ⟨lw_in (i := 546) (by decide +kernel), lw_in (i := 1) (by decide +kernel), by decide +kernel⟩
def m_F_set : mM := (⟨"AgeFerry", "set", "(II)I"⟩, prog_1_method_9_code, 3, some .int)
theorem mk_F_set : mOk m_F_set 2 := ⟨lw_in (i := 311) (by decide +kernel), lw_in (i := 1) (by decide +kernel), by decide +kernel⟩
def m_F_share : mM := (⟨"AgeFerry", "share", "(II)J"⟩, prog_1_method_18_code, 3, some .long)
theorem mk_F_share : mOk m_F_share 2 := ⟨lw_in (i := 467) (by decide +kernel), lw_in (i := 1) (by decide +kernel), by decide +kernel⟩
def m_F_sheet : mM := (⟨"AgeFerry", "sheet", "(III)I"⟩, prog_1_method_26_code, 4, some .int)
theorem mk_F_sheet : mOk m_F_sheet 3 := ⟨lw_in (i := 594) (by decide +kernel), lw_in (i := 1) (by decide +kernel), by decide +kernel⟩
def m_F_type : mM := (⟨"AgeFerry", "type", "(I)I"⟩, prog_1_method_2_code, 2, some .int)
theorem mk_F_type : mOk m_F_type 1 := ⟨lw_in (i := 205) (by decide +kernel), lw_in (i := 1) (by decide +kernel), by decide +kernel⟩
def m_F_wipe : mM := (⟨"AgeFerry", "wipe", "()I"⟩, prog_1_method_3_code, 1, some .int)
theorem mk_F_wipe : mOk m_F_wipe 0 := ⟨lw_in (i := 246) (by decide +kernel), lw_in (i := 1) (by decide +kernel), by decide +kernel⟩
def m_F_with : mM := (⟨"AgeFerry", "with", "(I)I"⟩, prog_1_method_13_code, 2, some .int)
theorem mk_F_with : mOk m_F_with 1 := ⟨lw_in (i := 411) (by decide +kernel), lw_in (i := 1) (by decide +kernel), by decide +kernel⟩
def m_F_write : mM := (⟨"AgeFerry", "write", "(I)I"⟩, prog_1_method_31_code, 2, some .int)
theorem mk_F_write : mOk m_F_write 1 := ⟨lw_in (i := 642) (by decide +kernel), lw_in (i := 1) (by decide +kernel), by decide +kernel⟩
def m_F_writeBoats : mM := (⟨"AgeFerry", "writeBoats", "(LAgeFerry$Sheet;)V"⟩, prog_1_method_50_code, 6, none)
theorem mk_F_writeBoats : mOk m_F_writeBoats 1 := ⟨lw_in (i := 646) (by decide +kernel), lw_in (i := 1) (by decide +kernel), by decide +kernel⟩
def m_G_add : mM := (⟨"AgeFerry$Sightings", "add", "(III)I"⟩, prog_6_method_2_code, 4, some .int)
theorem mk_G_add : mOk m_G_add 3 := ⟨lw_in (i := 550) (by decide +kernel), lw_in (i := 6) (by decide +kernel), by decide +kernel⟩
def m_G_allow : mM := (⟨"AgeFerry$Sightings", "allow", "(LAgeFerry$People;II)Z"⟩, prog_6_method_4_code, 7, some .boolean)
theorem mk_G_allow : mOk m_G_allow 3 := ⟨lw_in (i := 566) (by decide +kernel), lw_in (i := 6) (by decide +kernel), by decide +kernel⟩
def m_G_drop : mM := (⟨"AgeFerry$Sightings", "drop", "()I"⟩, prog_6_method_3_code, 2, some .int)
theorem mk_G_drop : mOk m_G_drop 0 := ⟨lw_in (i := 558) (by decide +kernel), lw_in (i := 6) (by decide +kernel), by decide +kernel⟩
def m_G_init : mM := (⟨"AgeFerry$Sightings", "<init>", "()V"⟩, prog_6_method_1_code, 1, none)
def m_G_otherOf : mM := (⟨"AgeFerry$Sightings", "otherOf", "(II)I"⟩, prog_6_method_5_code, 3, some .int)
theorem mk_G_otherOf : mOk m_G_otherOf 2 := ⟨lw_in (i := 571) (by decide +kernel), lw_in (i := 6) (by decide +kernel), by decide +kernel⟩
def m_J_abs_i : mM := (⟨"java/lang/Math", "abs", "(I)I"⟩, prog_11_method_59_code, 1, some .int)
def m_J_abs_l : mM := (⟨"java/lang/Math", "abs", "(J)J"⟩, prog_11_method_61_code, 2, some .long)
def m_J_bitCount : mM := (⟨"java/lang/Integer", "bitCount", "(I)I"⟩, prog_10_method_49_code, 1, some .int)
theorem mk_J_bitCount : mOk m_J_bitCount 1 := ⟨lw_in (i := 348) (by decide +kernel), lw_in (i := 10) (by decide +kernel), by decide +kernel⟩
def m_J_max : mM := (⟨"java/lang/Math", "max", "(II)I"⟩, prog_11_method_65_code, 2, some .int)
def m_J_min : mM := (⟨"java/lang/Math", "min", "(II)I"⟩, prog_11_method_69_code, 2, some .int)
def m_L_law : mM := (⟨"AgeFerryLaw", "law", "([I)Z"⟩, code, 4, some .boolean)
def m_M_ages : mM := (⟨"AgeFerryModel", "ages", "(II)I"⟩, prog_9_method_72_code, 3, some .int)
theorem mk_M_ages : mOk m_M_ages 2 := ⟨lw_in (i := 1058) (by decide +kernel), lw_in (i := 8) (by decide +kernel), by decide +kernel⟩
def m_M_agesOf : mM := (⟨"AgeFerryModel", "agesOf", "(II)I"⟩, prog_9_method_71_code, 8, some .int)
theorem mk_M_agesOf : mOk m_M_agesOf 2 := ⟨lw_in (i := 1062) (by decide +kernel), lw_in (i := 8) (by decide +kernel), by decide +kernel⟩
def m_M_back : mM := (⟨"AgeFerryModel", "back", "()I"⟩, prog_9_method_67_code, 1, some .int)
theorem mk_M_back : mOk m_M_back 0 := ⟨lw_in (i := 1033) (by decide +kernel), lw_in (i := 8) (by decide +kernel), by decide +kernel⟩
def m_M_backNow : mM := (⟨"AgeFerryModel", "backNow", "()I"⟩, prog_9_method_66_code, 6, some .int)
theorem mk_M_backNow : mOk m_M_backNow 0 := ⟨lw_in (i := 1037) (by decide +kernel), lw_in (i := 8) (by decide +kernel), by decide +kernel⟩
def m_M_boat : mM := (⟨"AgeFerryModel", "boat", "(II)I"⟩, prog_9_method_39_code, 3, some .int)
theorem mk_M_boat : mOk m_M_boat 2 := ⟨lw_in (i := 904) (by decide +kernel), lw_in (i := 8) (by decide +kernel), by decide +kernel⟩
def m_M_boatWith : mM := (⟨"AgeFerryModel", "boatWith", "(I)I"⟩, prog_9_method_44_code, 3, some .int)
theorem mk_M_boatWith : mOk m_M_boatWith 1 := ⟨lw_in (i := 959) (by decide +kernel), lw_in (i := 8) (by decide +kernel), by decide +kernel⟩
def m_M_copy : mM := (⟨"AgeFerryModel", "copy", "(IIIII)I"⟩, prog_9_method_16_code, 7, some .int)
theorem mk_M_copy : mOk m_M_copy 5 := ⟨lw_in (i := 823) (by decide +kernel), lw_in (i := 8) (by decide +kernel), by decide +kernel⟩
def m_M_costOf : mM := (⟨"AgeFerryModel", "costOf", "(I)I"⟩, prog_9_method_36_code, 5, some .int)
theorem mk_M_costOf : mOk m_M_costOf 1 := ⟨lw_in (i := 912) (by decide +kernel), lw_in (i := 8) (by decide +kernel), by decide +kernel⟩
def m_M_costs : mM := (⟨"AgeFerryModel", "costs", "(I)I"⟩, prog_9_method_53_code, 6, some .int)
theorem mk_M_costs : mOk m_M_costs 1 := ⟨lw_in (i := 987) (by decide +kernel), lw_in (i := 8) (by decide +kernel), by decide +kernel⟩
def m_M_count : mM := (⟨"AgeFerryModel", "count", "(I)I"⟩, prog_9_method_77_code, 4, some .int)
theorem mk_M_count : mOk m_M_count 1 := ⟨lw_in (i := 1083) (by decide +kernel), lw_in (i := 8) (by decide +kernel), by decide +kernel⟩
def m_M_cut : mM := (⟨"AgeFerryModel", "cut", "(II)I"⟩, prog_9_method_13_code, 2, some .int)
theorem mk_M_cut : mOk m_M_cut 2 := ⟨lw_in (i := 814) (by decide +kernel), lw_in (i := 8) (by decide +kernel), by decide +kernel⟩
def m_M_day : mM := (⟨"AgeFerryModel", "day", "(II)I"⟩, prog_9_method_43_code, 3, some .int)
theorem mk_M_day : mOk m_M_day 2 := ⟨lw_in (i := 927) (by decide +kernel), lw_in (i := 8) (by decide +kernel), by decide +kernel⟩
def m_M_dayOf : mM := (⟨"AgeFerryModel", "dayOf", "(II)I"⟩, prog_9_method_42_code, 3, some .int)
theorem mk_M_dayOf : mOk m_M_dayOf 2 := ⟨lw_in (i := 939) (by decide +kernel), lw_in (i := 8) (by decide +kernel), by decide +kernel⟩
def m_M_digest : mM := (⟨"AgeFerryModel", "digest", "()J"⟩, prog_9_method_78_code, 5, some .long)
theorem mk_M_digest : mOk m_M_digest 0 := ⟨lw_in (i := 1090) (by decide +kernel), lw_in (i := 8) (by decide +kernel), by decide +kernel⟩
def m_M_factorial : mM := (⟨"AgeFerryModel", "factorial", "(I)J"⟩, prog_9_method_58_code, 4, some .long)
theorem mk_M_factorial : mOk m_M_factorial 1 := ⟨lw_in (i := 1017) (by decide +kernel), lw_in (i := 8) (by decide +kernel), by decide +kernel⟩
def m_M_fareOf : mM := (⟨"AgeFerryModel", "fareOf", "(I)I"⟩, prog_9_method_35_code, 8, some .int)
theorem mk_M_fareOf : mOk m_M_fareOf 1 := ⟨lw_in (i := 919) (by decide +kernel), lw_in (i := 8) (by decide +kernel), by decide +kernel⟩
def m_M_fault : mM := (⟨"AgeFerryModel", "fault", "()I"⟩, prog_9_method_23_code, 1, some .int)
theorem mk_M_fault : mOk m_M_fault 0 := ⟨lw_in (i := 836) (by decide +kernel), lw_in (i := 8) (by decide +kernel), by decide +kernel⟩
def m_M_findBoats : mM := (⟨"AgeFerryModel", "findBoats", "()V"⟩, prog_9_method_38_code, 3, none)
theorem mk_M_findBoats : mOk m_M_findBoats 0 := ⟨lw_in (i := 931) (by decide +kernel), lw_in (i := 8) (by decide +kernel), by decide +kernel⟩
def m_M_findDay : mM := (⟨"AgeFerryModel", "findDay", "(I)V"⟩, prog_9_method_40_code, 6, none)
theorem mk_M_findDay : mOk m_M_findDay 1 := ⟨lw_in (i := 943) (by decide +kernel), lw_in (i := 8) (by decide +kernel), by decide +kernel⟩
def m_M_findLeasts : mM := (⟨"AgeFerryModel", "findLeasts", "()Z"⟩, prog_9_method_57_code, 3, some .boolean)
theorem mk_M_findLeasts : mOk m_M_findLeasts 0 := ⟨lw_in (i := 1014) (by decide +kernel), lw_in (i := 8) (by decide +kernel), by decide +kernel⟩
def m_M_forget : mM := (⟨"AgeFerryModel", "forget", "()I"⟩, prog_9_method_69_code, 2, some .int)
theorem mk_M_forget : mOk m_M_forget 0 := ⟨lw_in (i := 1054) (by decide +kernel), lw_in (i := 8) (by decide +kernel), by decide +kernel⟩
def m_M_get : mM := (⟨"AgeFerryModel", "get", "(III)I"⟩, prog_9_method_15_code, 4, some .int)
theorem mk_M_get : mOk m_M_get 3 := ⟨lw_in (i := 818) (by decide +kernel), lw_in (i := 8) (by decide +kernel), by decide +kernel⟩
def m_M_goTogether : mM := (⟨"AgeFerryModel", "goTogether", "(I)Z"⟩, prog_9_method_37_code, 4, some .boolean)
theorem mk_M_goTogether : mOk m_M_goTogether 1 := ⟨lw_in (i := 935) (by decide +kernel), lw_in (i := 8) (by decide +kernel), by decide +kernel⟩
def m_M_goesOn : mM := (⟨"AgeFerryModel", "goesOn", "()Z"⟩, prog_9_method_64_code, 5, some .boolean)
theorem mk_M_goesOn : mOk m_M_goesOn 0 := ⟨lw_in (i := 1045) (by decide +kernel), lw_in (i := 8) (by decide +kernel), by decide +kernel⟩
def m_M_here : mM := (⟨"AgeFerryModel", "here", "()I"⟩, prog_9_method_19_code, 1, some .int)
theorem mk_M_here : mOk m_M_here 0 := ⟨lw_in (i := 848) (by decide +kernel), lw_in (i := 8) (by decide +kernel), by decide +kernel⟩
def m_M_in : mM := (⟨"AgeFerryModel", "in", "(JJJ)Z"⟩, prog_9_method_3_code, 6, some .boolean)
theorem mk_M_in : mOk m_M_in 3 := ⟨lw_in (i := 794) (by decide +kernel), lw_in (i := 8) (by decide +kernel), by decide +kernel⟩
def m_M_init : mM := (⟨"AgeFerryModel", "<init>", "()V"⟩, prog_9_method_1_code, 2, none)
def m_M_isIn : mM := (⟨"AgeFerryModel", "isIn", "(II)Z"⟩, prog_9_method_6_code, 2, some .boolean)
theorem mk_M_isIn : mOk m_M_isIn 2 := ⟨lw_in (i := 915) (by decide +kernel), lw_in (i := 8) (by decide +kernel), by decide +kernel⟩
def m_M_isNumber : mM := (⟨"AgeFerryModel", "isNumber", "(I)Z"⟩, prog_9_method_25_code, 1, some .boolean)
theorem mk_M_isNumber : mOk m_M_isNumber 1 := ⟨lw_in (i := 876) (by decide +kernel), lw_in (i := 8) (by decide +kernel), by decide +kernel⟩
def m_M_isPerson : mM := (⟨"AgeFerryModel", "isPerson", "(I)Z"⟩, prog_9_method_24_code, 2, some .boolean)
theorem mk_M_isPerson : mOk m_M_isPerson 1 := ⟨lw_in (i := 862) (by decide +kernel), lw_in (i := 8) (by decide +kernel), by decide +kernel⟩
def m_M_isSheet : mM := (⟨"AgeFerryModel", "isSheet", "(I)Z"⟩, prog_9_method_9_code, 1, some .boolean)
theorem mk_M_isSheet : mOk m_M_isSheet 1 := ⟨lw_in (i := 790) (by decide +kernel), lw_in (i := 8) (by decide +kernel), by decide +kernel⟩
def m_M_isSo : mM := (⟨"AgeFerryModel", "isSo", "(II)Z"⟩, prog_9_method_70_code, 8, some .boolean)
theorem mk_M_isSo : mOk m_M_isSo 2 := ⟨lw_in (i := 1066) (by decide +kernel), lw_in (i := 8) (by decide +kernel), by decide +kernel⟩
def m_M_isTwo : mM := (⟨"AgeFerryModel", "isTwo", "(I)Z"⟩, prog_9_method_5_code, 1, some .boolean)
theorem mk_M_isTwo : mOk m_M_isTwo 1 := ⟨lw_in (i := 865) (by decide +kernel), lw_in (i := 8) (by decide +kernel), by decide +kernel⟩
def m_M_judged : mM := (⟨"AgeFerryModel", "judged", "(I)I"⟩, prog_9_method_52_code, 3, some .int)
theorem mk_M_judged : mOk m_M_judged 1 := ⟨lw_in (i := 971) (by decide +kernel), lw_in (i := 8) (by decide +kernel), by decide +kernel⟩
def m_M_judgedOf : mM := (⟨"AgeFerryModel", "judgedOf", "(I)I"⟩, prog_9_method_51_code, 5, some .int)
theorem mk_M_judgedOf : mOk m_M_judgedOf 1 := ⟨lw_in (i := 979) (by decide +kernel), lw_in (i := 8) (by decide +kernel), by decide +kernel⟩
def m_M_keepsWay : mM := (⟨"AgeFerryModel", "keepsWay", "()V"⟩, prog_9_method_65_code, 7, none)
theorem mk_M_keepsWay : mOk m_M_keepsWay 0 := ⟨lw_in (i := 1041) (by decide +kernel), lw_in (i := 8) (by decide +kernel), by decide +kernel⟩
def m_M_lacks : mM := (⟨"AgeFerryModel", "lacks", "(III)I"⟩, prog_9_method_12_code, 4, some .int)
theorem mk_M_lacks : mOk m_M_lacks 3 := ⟨lw_in (i := 811) (by decide +kernel), lw_in (i := 8) (by decide +kernel), by decide +kernel⟩
def m_M_lay : mM := (⟨"AgeFerryModel", "lay", "(IIII)I"⟩, prog_9_method_14_code, 6, some .int)
theorem mk_M_lay : mOk m_M_lay 4 := ⟨lw_in (i := 807) (by decide +kernel), lw_in (i := 8) (by decide +kernel), by decide +kernel⟩
def m_M_lays : mM := (⟨"AgeFerryModel", "lays", "([IIII)I"⟩, prog_9_method_32_code, 5, some .int)
theorem mk_M_lays : mOk m_M_lays 4 := ⟨lw_in (i := 900) (by decide +kernel), lw_in (i := 8) (by decide +kernel), by decide +kernel⟩
def m_M_lie : mM := (⟨"AgeFerryModel", "lie", "(II)I"⟩, prog_9_method_29_code, 4, some .int)
theorem mk_M_lie : mOk m_M_lie 2 := ⟨lw_in (i := 882) (by decide +kernel), lw_in (i := 8) (by decide +kernel), by decide +kernel⟩
def m_M_lies : mM := (⟨"AgeFerryModel", "lies", "(II)I"⟩, prog_9_method_63_code, 3, some .int)
theorem mk_M_lies : mOk m_M_lies 2 := ⟨lw_in (i := 1025) (by decide +kernel), lw_in (i := 8) (by decide +kernel), by decide +kernel⟩
def m_M_liesOf : mM := (⟨"AgeFerryModel", "liesOf", "(II)I"⟩, prog_9_method_62_code, 9, some .int)
theorem mk_M_liesOf : mOk m_M_liesOf 2 := ⟨lw_in (i := 1029) (by decide +kernel), lw_in (i := 8) (by decide +kernel), by decide +kernel⟩
def m_M_lose : mM := (⟨"AgeFerryModel", "lose", "(I)I"⟩, prog_9_method_11_code, 2, some .int)
theorem mk_M_lose : mOk m_M_lose 1 := ⟨lw_in (i := 803) (by decide +kernel), lw_in (i := 8) (by decide +kernel), by decide +kernel⟩
def m_M_lot : mM := (⟨"AgeFerryModel", "lot", "(I)I"⟩, prog_9_method_74_code, 2, some .int)
theorem mk_M_lot : mOk m_M_lot 1 := ⟨lw_in (i := 1070) (by decide +kernel), lw_in (i := 8) (by decide +kernel), by decide +kernel⟩
def m_M_lotOf : mM := (⟨"AgeFerryModel", "lotOf", "(I)I"⟩, prog_9_method_73_code, 7, some .int)
theorem mk_M_lotOf : mOk m_M_lotOf 1 := ⟨lw_in (i := 1074) (by decide +kernel), lw_in (i := 8) (by decide +kernel), by decide +kernel⟩
def m_M_met : mM := (⟨"AgeFerryModel", "met", "(I)I"⟩, prog_9_method_8_code, 2, some .int)
theorem mk_M_met : mOk m_M_met 1 := ⟨lw_in (i := 799) (by decide +kernel), lw_in (i := 8) (by decide +kernel), by decide +kernel⟩
def m_M_no : mM := (⟨"AgeFerryModel", "no", "(I)J"⟩, prog_9_method_4_code, 1, some .long)
theorem mk_M_no : mOk m_M_no 1 := ⟨lw_in (i := 998) (by decide +kernel), lw_in (i := 8) (by decide +kernel), by decide +kernel⟩
def m_M_noDay : mM := (⟨"AgeFerryModel", "noDay", "(I)I"⟩, prog_9_method_49_code, 2, some .int)
theorem mk_M_noDay : mOk m_M_noDay 1 := ⟨lw_in (i := 975) (by decide +kernel), lw_in (i := 8) (by decide +kernel), by decide +kernel⟩
def m_M_nobody : mM := (⟨"AgeFerryModel", "nobody", "()I"⟩, prog_9_method_20_code, 1, some .int)
theorem mk_M_nobody : mOk m_M_nobody 0 := ⟨lw_in (i := 854) (by decide +kernel), lw_in (i := 8) (by decide +kernel), by decide +kernel⟩
def m_M_odd : mM := (⟨"AgeFerryModel", "odd", "()I"⟩, prog_9_method_48_code, 1, some .int)
theorem mk_M_odd : mOk m_M_odd 0 := ⟨lw_in (i := 963) (by decide +kernel), lw_in (i := 8) (by decide +kernel), by decide +kernel⟩
def m_M_oddNow : mM := (⟨"AgeFerryModel", "oddNow", "()I"⟩, prog_9_method_47_code, 5, some .int)
theorem mk_M_oddNow : mOk m_M_oddNow 0 := ⟨lw_in (i := 967) (by decide +kernel), lw_in (i := 8) (by decide +kernel), by decide +kernel⟩
def m_M_ones : mM := (⟨"AgeFerryModel", "ones", "(I)I"⟩, prog_9_method_7_code, 3, some .int)
theorem mk_M_ones : mOk m_M_ones 1 := ⟨lw_in (i := 922) (by decide +kernel), lw_in (i := 8) (by decide +kernel), by decide +kernel⟩
def m_M_pair : mM := (⟨"AgeFerryModel", "pair", "(IIII)I"⟩, prog_9_method_33_code, 5, some .int)
theorem mk_M_pair : mOk m_M_pair 4 := ⟨lw_in (i := 897) (by decide +kernel), lw_in (i := 8) (by decide +kernel), by decide +kernel⟩
def m_M_pairs : mM := (⟨"AgeFerryModel", "pairs", "([I)I"⟩, prog_9_method_76_code, 3, some .int)
theorem mk_M_pairs : mOk m_M_pairs 1 := ⟨lw_in (i := 1086) (by decide +kernel), lw_in (i := 8) (by decide +kernel), by decide +kernel⟩
def m_M_part : mM := (⟨"AgeFerryModel", "part", "(JJI)J"⟩, prog_9_method_54_code, 11, some .long)
theorem mk_M_part : mOk m_M_part 3 := ⟨lw_in (i := 1002) (by decide +kernel), lw_in (i := 8) (by decide +kernel), by decide +kernel⟩
def m_M_pays : mM := (⟨"AgeFerryModel", "pays", "(II)J"⟩, prog_9_method_56_code, 3, some .long)
theorem mk_M_pays : mOk m_M_pays 2 := ⟨lw_in (i := 991) (by decide +kernel), lw_in (i := 8) (by decide +kernel), by decide +kernel⟩
def m_M_paysOf : mM := (⟨"AgeFerryModel", "paysOf", "(II)J"⟩, prog_9_method_55_code, 4, some .long)
theorem mk_M_paysOf : mOk m_M_paysOf 2 := ⟨lw_in (i := 995) (by decide +kernel), lw_in (i := 8) (by decide +kernel), by decide +kernel⟩
def m_M_person : mM := (⟨"AgeFerryModel", "person", "(II)I"⟩, prog_9_method_27_code, 3, some .int)
theorem mk_M_person : mOk m_M_person 2 := ⟨lw_in (i := 858) (by decide +kernel), lw_in (i := 8) (by decide +kernel), by decide +kernel⟩
def m_M_put : mM := (⟨"AgeFerryModel", "put", "(III)I"⟩, prog_9_method_28_code, 5, some .int)
theorem mk_M_put : mOk m_M_put 3 := ⟨lw_in (i := 873) (by decide +kernel), lw_in (i := 8) (by decide +kernel), by decide +kernel⟩
def m_M_rather : mM := (⟨"AgeFerryModel", "rather", "(I)I"⟩, prog_9_method_61_code, 7, some .int)
theorem mk_M_rather : mOk m_M_rather 1 := ⟨lw_in (i := 1021) (by decide +kernel), lw_in (i := 8) (by decide +kernel), by decide +kernel⟩
def m_M_read : mM := (⟨"AgeFerryModel", "read", "(I)I"⟩, prog_9_method_30_code, 3, some .int)
theorem mk_M_read : mOk m_M_read 1 := ⟨lw_in (i := 888) (by decide +kernel), lw_in (i := 8) (by decide +kernel), by decide +kernel⟩
def m_M_reads : mM := (⟨"AgeFerryModel", "reads", "()I"⟩, prog_9_method_22_code, 2, some .int)
theorem mk_M_reads : mOk m_M_reads 0 := ⟨lw_in (i := 840) (by decide +kernel), lw_in (i := 8) (by decide +kernel), by decide +kernel⟩
def m_M_readsPart : mM := (⟨"AgeFerryModel", "readsPart", "()Z"⟩, prog_9_method_21_code, 3, some .boolean)
theorem mk_M_readsPart : mOk m_M_readsPart 0 := ⟨lw_in (i := 844) (by decide +kernel), lw_in (i := 8) (by decide +kernel), by decide +kernel⟩
def m_M_seen : mM := (⟨"AgeFerryModel", "seen", "(III)I"⟩, prog_9_method_68_code, 4, some .int)
theorem mk_M_seen : mOk m_M_seen 3 := ⟨lw_in (i := 1049) (by decide +kernel), lw_in (i := 8) (by decide +kernel), by decide +kernel⟩
def m_M_set : mM := (⟨"AgeFerryModel", "set", "(II)I"⟩, prog_9_method_31_code, 6, some .int)
theorem mk_M_set : mOk m_M_set 2 := ⟨lw_in (i := 893) (by decide +kernel), lw_in (i := 8) (by decide +kernel), by decide +kernel⟩
def m_M_share : mM := (⟨"AgeFerryModel", "share", "(II)J"⟩, prog_9_method_60_code, 3, some .long)
theorem mk_M_share : mOk m_M_share 2 := ⟨lw_in (i := 1006) (by decide +kernel), lw_in (i := 8) (by decide +kernel), by decide +kernel⟩
def m_M_shareOf : mM := (⟨"AgeFerryModel", "shareOf", "(II)J"⟩, prog_9_method_59_code, 7, some .long)
theorem mk_M_shareOf : mOk m_M_shareOf 2 := ⟨lw_in (i := 1010) (by decide +kernel), lw_in (i := 8) (by decide +kernel), by decide +kernel⟩
def m_M_sheet : mM := (⟨"AgeFerryModel", "sheet", "(III)I"⟩, prog_9_method_10_code, 5, some .int)
theorem mk_M_sheet : mOk m_M_sheet 3 := ⟨lw_in (i := 787) (by decide +kernel), lw_in (i := 8) (by decide +kernel), by decide +kernel⟩
def m_M_toldBoat : mM := (⟨"AgeFerryModel", "toldBoat", "(II)I"⟩, prog_9_method_50_code, 5, some .int)
theorem mk_M_toldBoat : mOk m_M_toldBoat 2 := ⟨lw_in (i := 983) (by decide +kernel), lw_in (i := 8) (by decide +kernel), by decide +kernel⟩
def m_M_toldOf : mM := (⟨"AgeFerryModel", "toldOf", "(I)I"⟩, prog_9_method_26_code, 3, some .int)
theorem mk_M_toldOf : mOk m_M_toldOf 1 := ⟨lw_in (i := 869) (by decide +kernel), lw_in (i := 8) (by decide +kernel), by decide +kernel⟩
def m_M_tries : mM := (⟨"AgeFerryModel", "tries", "(III)V"⟩, prog_9_method_41_code, 7, none)
theorem mk_M_tries : mOk m_M_tries 3 := ⟨lw_in (i := 947) (by decide +kernel), lw_in (i := 8) (by decide +kernel), by decide +kernel⟩
def m_M_type : mM := (⟨"AgeFerryModel", "type", "(I)I"⟩, prog_9_method_17_code, 2, some .int)
theorem mk_M_type : mOk m_M_type 1 := ⟨lw_in (i := 827) (by decide +kernel), lw_in (i := 8) (by decide +kernel), by decide +kernel⟩
def m_M_whole : mM := (⟨"AgeFerryModel", "whole", "()I"⟩, prog_9_method_34_code, 1, some .int)
theorem mk_M_whole : mOk m_M_whole 0 := ⟨lw_in (i := 908) (by decide +kernel), lw_in (i := 8) (by decide +kernel), by decide +kernel⟩
def m_M_wipe : mM := (⟨"AgeFerryModel", "wipe", "()I"⟩, prog_9_method_18_code, 2, some .int)
theorem mk_M_wipe : mOk m_M_wipe 0 := ⟨lw_in (i := 832) (by decide +kernel), lw_in (i := 8) (by decide +kernel), by decide +kernel⟩
def m_M_with : mM := (⟨"AgeFerryModel", "with", "(I)I"⟩, prog_9_method_46_code, 2, some .int)
theorem mk_M_with : mOk m_M_with 1 := ⟨lw_in (i := 951) (by decide +kernel), lw_in (i := 8) (by decide +kernel), by decide +kernel⟩
def m_M_withOf : mM := (⟨"AgeFerryModel", "withOf", "(I)I"⟩, prog_9_method_45_code, 3, some .int)
theorem mk_M_withOf : mOk m_M_withOf 1 := ⟨lw_in (i := 955) (by decide +kernel), lw_in (i := 8) (by decide +kernel), by decide +kernel⟩
def m_M_write : mM := (⟨"AgeFerryModel", "write", "(I)I"⟩, prog_9_method_75_code, 6, some .int)
theorem mk_M_write : mOk m_M_write 1 := ⟨lw_in (i := 1079) (by decide +kernel), lw_in (i := 8) (by decide +kernel), by decide +kernel⟩
def m_P_ageAt : mM := (⟨"AgeFerry$People", "ageAt", "(II)I"⟩, prog_3_method_13_code, 5, some .int)
theorem mk_P_ageAt : mOk m_P_ageAt 2 := ⟨lw_in (i := 232) (by decide +kernel), lw_in (i := 2) (by decide +kernel), by decide +kernel⟩
def m_P_append : mM := (⟨"AgeFerry$People", "append", "(I)I"⟩, prog_3_method_3_code, 2, some .int)
theorem mk_P_append : mOk m_P_append 1 := ⟨lw_in (i := 220) (by decide +kernel), lw_in (i := 2) (by decide +kernel), by decide +kernel⟩
def m_P_endOfFigures : mM := (⟨"AgeFerry$People", "endOfFigures", "(I)I"⟩, prog_3_method_12_code, 3, some .int)
theorem mk_P_endOfFigures : mOk m_P_endOfFigures 1 := ⟨lw_in (i := 228) (by decide +kernel), lw_in (i := 2) (by decide +kernel), by decide +kernel⟩
def m_P_erase : mM := (⟨"AgeFerry$People", "erase", "()I"⟩, prog_3_method_4_code, 2, some .int)
theorem mk_P_erase : mOk m_P_erase 0 := ⟨lw_in (i := 250) (by decide +kernel), lw_in (i := 2) (by decide +kernel), by decide +kernel⟩
def m_P_everyone : mM := (⟨"AgeFerry$People", "everyone", "()I"⟩, prog_3_method_6_code, 1, some .int)
theorem mk_P_everyone : mOk m_P_everyone 0 := ⟨lw_in (i := 340) (by decide +kernel), lw_in (i := 2) (by decide +kernel), by decide +kernel⟩
def m_P_init : mM := (⟨"AgeFerry$People", "<init>", "()V"⟩, prog_3_method_1_code, 2, none)
def m_P_isTextFull : mM := (⟨"AgeFerry$People", "isTextFull", "()Z"⟩, prog_3_method_2_code, 1, some .boolean)
theorem mk_P_isTextFull : mOk m_P_isTextFull 0 := ⟨lw_in (i := 212) (by decide +kernel), lw_in (i := 2) (by decide +kernel), by decide +kernel⟩
def m_P_isThere : mM := (⟨"AgeFerry$People", "isThere", "(I)Z"⟩, prog_3_method_5_code, 2, some .boolean)
theorem mk_P_isThere : mOk m_P_isThere 1 := ⟨lw_in (i := 262) (by decide +kernel), lw_in (i := 2) (by decide +kernel), by decide +kernel⟩
def m_P_liars : mM := (⟨"AgeFerry$People", "liars", "()I"⟩, prog_3_method_10_code, 3, some .int)
theorem mk_P_liars : mOk m_P_liars 0 := ⟨lw_in (i := 659) (by decide +kernel), lw_in (i := 2) (by decide +kernel), by decide +kernel⟩
def m_P_tell : mM := (⟨"AgeFerry$People", "tell", "(II)V"⟩, prog_3_method_7_code, 3, none)
theorem mk_P_tell : mOk m_P_tell 2 := ⟨lw_in (i := 281) (by decide +kernel), lw_in (i := 2) (by decide +kernel), by decide +kernel⟩
def m_P_toldAt : mM := (⟨"AgeFerry$People", "toldAt", "(II)I"⟩, prog_3_method_8_code, 3, some .int)
theorem mk_P_toldAt : mOk m_P_toldAt 2 := ⟨lw_in (i := 236) (by decide +kernel), lw_in (i := 2) (by decide +kernel), by decide +kernel⟩
def m_P_understand : mM := (⟨"AgeFerry$People", "understand", "()V"⟩, prog_3_method_11_code, 7, none)
theorem mk_P_understand : mOk m_P_understand 0 := ⟨lw_in (i := 224) (by decide +kernel), lw_in (i := 2) (by decide +kernel), by decide +kernel⟩
def m_P_yearsTogether : mM := (⟨"AgeFerry$People", "yearsTogether", "()I"⟩, prog_3_method_9_code, 3, some .int)
theorem mk_P_yearsTogether : mOk m_P_yearsTogether 0 := ⟨lw_in (i := 655) (by decide +kernel), lw_in (i := 2) (by decide +kernel), by decide +kernel⟩
def m_R_boatOfPlace : mM := (⟨"AgeFerry$Rules", "boatOfPlace", "(I)I"⟩, prog_4_method_6_code, 3, some .int)
theorem mk_R_boatOfPlace : mOk m_R_boatOfPlace 1 := ⟨lw_in (i := 590) (by decide +kernel), lw_in (i := 3) (by decide +kernel), by decide +kernel⟩
def m_R_init : mM := (⟨"AgeFerry$Rules", "<init>", "()V"⟩, prog_4_method_1_code, 1, none)
def m_R_isFit : mM := (⟨"AgeFerry$Rules", "isFit", "(II)Z"⟩, prog_4_method_2_code, 3, some .boolean)
theorem mk_R_isFit : mOk m_R_isFit 2 := ⟨lw_in (i := 315) (by decide +kernel), lw_in (i := 3) (by decide +kernel), by decide +kernel⟩
def m_R_mustOf : mM := (⟨"AgeFerry$Rules", "mustOf", "(I)I"⟩, prog_4_method_4_code, 2, some .int)
theorem mk_R_mustOf : mOk m_R_mustOf 1 := ⟨lw_in (i := 375) (by decide +kernel), lw_in (i := 3) (by decide +kernel), by decide +kernel⟩
def m_R_pairsOf : mM := (⟨"AgeFerry$Rules", "pairsOf", "([I)I"⟩, prog_4_method_5_code, 4, some .int)
theorem mk_R_pairsOf : mOk m_R_pairsOf 1 := ⟨lw_in (i := 663) (by decide +kernel), lw_in (i := 3) (by decide +kernel), by decide +kernel⟩
def m_R_tie : mM := (⟨"AgeFerry$Rules", "tie", "([IIII)I"⟩, prog_4_method_3_code, 6, some .int)
theorem mk_R_tie : mOk m_R_tie 4 := ⟨lw_in (i := 327) (by decide +kernel), lw_in (i := 3) (by decide +kernel), by decide +kernel⟩
def m_S_hasItem : mM := (⟨"AgeFerry$Sheet", "hasItem", "(I)Z"⟩, prog_5_method_5_code, 2, some .boolean)
theorem mk_S_hasItem : mOk m_S_hasItem 1 := ⟨lw_in (i := 307) (by decide +kernel), lw_in (i := 7) (by decide +kernel), by decide +kernel⟩
def m_S_hasRange : mM := (⟨"AgeFerry$Sheet", "hasRange", "(II)Z"⟩, prog_5_method_6_code, 3, some .boolean)
theorem mk_S_hasRange : mOk m_S_hasRange 2 := ⟨lw_in (i := 635) (by decide +kernel), lw_in (i := 7) (by decide +kernel), by decide +kernel⟩
def m_S_init : mM := (⟨"AgeFerry$Sheet", "<init>", "()V"⟩, prog_5_method_1_code, 1, none)
def m_S_isLost : mM := (⟨"AgeFerry$Sheet", "isLost", "()Z"⟩, prog_5_method_2_code, 1, some .boolean)
theorem mk_S_isLost : mOk m_S_isLost 0 := ⟨lw_in (i := 292) (by decide +kernel), lw_in (i := 7) (by decide +kernel), by decide +kernel⟩
def m_S_item : mM := (⟨"AgeFerry$Sheet", "item", "(I)I"⟩, prog_5_method_7_code, 2, some .int)
theorem mk_S_item : mOk m_S_item 1 := ⟨lw_in (i := 303) (by decide +kernel), lw_in (i := 7) (by decide +kernel), by decide +kernel⟩
def m_S_renew : mM := (⟨"AgeFerry$Sheet", "renew", "(II)V"⟩, prog_5_method_4_code, 4, none)
theorem mk_S_renew : mOk m_S_renew 2 := ⟨lw_in (i := 601) (by decide +kernel), lw_in (i := 7) (by decide +kernel), by decide +kernel⟩
def m_S_store : mM := (⟨"AgeFerry$Sheet", "store", "(II)V"⟩, prog_5_method_8_code, 3, none)
theorem mk_S_store : mOk m_S_store 2 := ⟨lw_in (i := 622) (by decide +kernel), lw_in (i := 7) (by decide +kernel), by decide +kernel⟩
def m_S_tearUp : mM := (⟨"AgeFerry$Sheet", "tearUp", "()V"⟩, prog_5_method_3_code, 1, none)
theorem mk_S_tearUp : mOk m_S_tearUp 0 := ⟨lw_in (i := 610) (by decide +kernel), lw_in (i := 7) (by decide +kernel), by decide +kernel⟩
def m_T_areNew : mM := (⟨"AgeFerry$Trip", "areNew", "(I)Z"⟩, prog_7_method_7_code, 3, some .boolean)
theorem mk_T_areNew : mOk m_T_areNew 1 := ⟨lw_in (i := 529) (by decide +kernel), lw_in (i := 5) (by decide +kernel), by decide +kernel⟩
def m_T_atLeast : mM := (⟨"AgeFerry$Trip", "atLeast", "(III)I"⟩, prog_7_method_5_code, 4, some .int)
theorem mk_T_atLeast : mOk m_T_atLeast 3 := ⟨lw_in (i := 533) (by decide +kernel), lw_in (i := 5) (by decide +kernel), by decide +kernel⟩
def m_T_comeBack : mM := (⟨"AgeFerry$Trip", "comeBack", "(LAgeFerry$Trip;III)V"⟩, prog_7_method_4_code, 10, none)
theorem mk_T_comeBack : mOk m_T_comeBack 4 := ⟨lw_in (i := 521) (by decide +kernel), lw_in (i := 5) (by decide +kernel), by decide +kernel⟩
def m_T_goThere : mM := (⟨"AgeFerry$Trip", "goThere", "(LAgeFerry$Trip;III)V"⟩, prog_7_method_3_code, 10, none)
theorem mk_T_goThere : mOk m_T_goThere 4 := ⟨lw_in (i := 518) (by decide +kernel), lw_in (i := 5) (by decide +kernel), by decide +kernel⟩
def m_T_init : mM := (⟨"AgeFerry$Trip", "<init>", "(LAgeFerry$Days;)V"⟩, prog_7_method_1_code, 2, none)
def m_T_leastThereAndBack : mM := (⟨"AgeFerry$Trip", "leastThereAndBack", "(I)I"⟩, prog_7_method_2_code, 2, some .int)
theorem mk_T_leastThereAndBack : mOk m_T_leastThereAndBack 1 := ⟨lw_in (i := 509) (by decide +kernel), lw_in (i := 5) (by decide +kernel), by decide +kernel⟩
def m_T_meet : mM := (⟨"AgeFerry$Trip", "meet", "(I)V"⟩, prog_7_method_6_code, 3, none)
theorem mk_T_meet : mOk m_T_meet 1 := ⟨lw_in (i := 542) (by decide +kernel), lw_in (i := 5) (by decide +kernel), by decide +kernel⟩
theorem mj_max : Cond.static Lib.Math.max.name ∈ lw_ws ∧ Cond.initialized "java/lang/Math" ∈ lw_ws ∧ Cond.code Lib.Math.max.name Lib.Math.max.code 2 (some .int) ∈ lw_ws := ⟨lw_in (i := 241) (by decide +kernel), lw_in (i := 9) (by decide +kernel), lw_in (i := 242) (by decide +kernel)⟩
theorem mj_min : Cond.static Lib.Math.min.name ∈ lw_ws ∧ Cond.initialized "java/lang/Math" ∈ lw_ws ∧ Cond.code Lib.Math.min.name Lib.Math.min.code 2 (some .int) ∈ lw_ws := ⟨lw_in (i := 298) (by decide +kernel), lw_in (i := 9) (by decide +kernel), lw_in (i := 299) (by decide +kernel)⟩
theorem mj_abs : Cond.static Lib.Math.abs.name ∈ lw_ws ∧ Cond.initialized "java/lang/Math" ∈ lw_ws ∧ Cond.code Lib.Math.abs.name Lib.Math.abs.code 1 (some .int) ∈ lw_ws := ⟨lw_in (i := 574) (by decide +kernel), lw_in (i := 9) (by decide +kernel), lw_in (i := 575) (by decide +kernel)⟩
theorem mj_absl : Cond.static Lib.MathLoose.abs_long.x ∈ lw_ws ∧ Cond.initialized "java/lang/Math" ∈ lw_ws ∧ Cond.code Lib.MathLoose.abs_long.x Lib.MathLoose.abs_long.code 2 (some .long) ∈ lw_ws := ⟨lw_in (i := 462) (by decide +kernel), lw_in (i := 9) (by decide +kernel), lw_in (i := 463) (by decide +kernel)⟩
theorem ln_copy : Cond.methodLink "AgeFerry" 276 arraycopyName ∈ lw_ws := lw_in (i := 636) (by decide +kernel)
theorem mj_copy : Cond.native arraycopyName ∈ lw_ws ∧ Cond.static arraycopyName ∈ lw_ws ∧ Cond.initialized "java/lang/System" ∈ lw_ws := ⟨lw_in (i := 638) (by decide +kernel), lw_in (i := 637) (by decide +kernel), lw_in (i := 11) (by decide +kernel)⟩
theorem ln_F_59 : mLS "AgeFerry" 59 m_F_isWithin := ⟨lw_in (i := 206) (by decide +kernel), lw_in (i := 207) (by decide +kernel)⟩
theorem ln_F_63 : mLV "AgeFerry" 63 m_P_isTextFull := ⟨lw_in (i := 209) (by decide +kernel), lw_in (i := 210) (by decide +kernel), lw_in (i := 211) (by decide +kernel)⟩
theorem ln_F_67 : mLV "AgeFerry" 67 m_D_outdate := ⟨lw_in (i := 213) (by decide +kernel), lw_in (i := 214) (by decide +kernel), lw_in (i := 215) (by decide +kernel)⟩
theorem ln_F_70 : mLV "AgeFerry" 70 m_P_append := ⟨lw_in (i := 217) (by decide +kernel), lw_in (i := 218) (by decide +kernel), lw_in (i := 219) (by decide +kernel)⟩
theorem ln_F_74 : mLV "AgeFerry" 74 m_P_erase := ⟨lw_in (i := 247) (by decide +kernel), lw_in (i := 248) (by decide +kernel), lw_in (i := 249) (by decide +kernel)⟩
theorem ln_F_82 : mLV "AgeFerry" 82 m_P_isThere := ⟨lw_in (i := 259) (by decide +kernel), lw_in (i := 260) (by decide +kernel), lw_in (i := 261) (by decide +kernel)⟩
theorem ln_F_92 : mLS "AgeFerry" 92 m_F_isNumber := ⟨lw_in (i := 267) (by decide +kernel), lw_in (i := 238) (by decide +kernel)⟩
theorem ln_F_101 : mLS "AgeFerry" 101 m_F_exchange := ⟨lw_in (i := 268) (by decide +kernel), lw_in (i := 269) (by decide +kernel)⟩
theorem ln_F_105 : mLS "AgeFerry" 105 m_F_anyNumberRefusal := ⟨lw_in (i := 275) (by decide +kernel), lw_in (i := 276) (by decide +kernel)⟩
theorem ln_F_111 : mLV "AgeFerry" 111 m_P_tell := ⟨lw_in (i := 278) (by decide +kernel), lw_in (i := 279) (by decide +kernel), lw_in (i := 280) (by decide +kernel)⟩
theorem ln_F_115 : mLS "AgeFerry" 115 m_F_isSheet := ⟨lw_in (i := 286) (by decide +kernel), lw_in (i := 287) (by decide +kernel)⟩
theorem ln_F_118 : mLV "AgeFerry" 118 m_S_isLost := ⟨lw_in (i := 289) (by decide +kernel), lw_in (i := 290) (by decide +kernel), lw_in (i := 291) (by decide +kernel)⟩
theorem ln_F_121 : mLV "AgeFerry" 121 m_F_find := ⟨lw_in (i := 293) (by decide +kernel), lw_in (i := 295) (by decide +kernel), lw_inp (i := 3) (by decide +kernel)⟩
theorem ln_F_127 : Cond.methodLink "AgeFerry" 127 Lib.Math.min.name ∈ lw_ws := lw_in (i := 297) (by decide +kernel)
theorem ln_F_133 : mLV "AgeFerry" 133 m_S_item := ⟨lw_in (i := 300) (by decide +kernel), lw_in (i := 301) (by decide +kernel), lw_in (i := 302) (by decide +kernel)⟩
theorem ln_F_136 : mLV "AgeFerry" 136 m_R_isFit := ⟨lw_in (i := 312) (by decide +kernel), lw_in (i := 313) (by decide +kernel), lw_in (i := 314) (by decide +kernel)⟩
theorem ln_F_149 : mLV "AgeFerry" 149 m_R_tie := ⟨lw_in (i := 324) (by decide +kernel), lw_in (i := 325) (by decide +kernel), lw_in (i := 326) (by decide +kernel)⟩
theorem ln_F_153 : mLV "AgeFerry" 153 m_F_areThere := ⟨lw_in (i := 333) (by decide +kernel), lw_in (i := 335) (by decide +kernel), lw_inp (i := 4) (by decide +kernel)⟩
theorem ln_F_156 : mLV "AgeFerry" 156 m_D_costOf := ⟨lw_in (i := 341) (by decide +kernel), lw_in (i := 342) (by decide +kernel), lw_in (i := 343) (by decide +kernel)⟩
theorem ln_F_159 : mLV "AgeFerry" 159 m_D_fareOf := ⟨lw_in (i := 359) (by decide +kernel), lw_in (i := 353) (by decide +kernel), lw_in (i := 354) (by decide +kernel)⟩
theorem ln_F_162 : mLV "AgeFerry" 162 m_D_bringUpToDate := ⟨lw_in (i := 364) (by decide +kernel), lw_in (i := 365) (by decide +kernel), lw_in (i := 366) (by decide +kernel)⟩
theorem ln_F_165 : mLV "AgeFerry" 165 m_D_leastOf := ⟨lw_in (i := 392) (by decide +kernel), lw_in (i := 393) (by decide +kernel), lw_in (i := 394) (by decide +kernel)⟩
theorem ln_F_168 : mLV "AgeFerry" 168 m_D_boatsOf := ⟨lw_in (i := 400) (by decide +kernel), lw_in (i := 401) (by decide +kernel), lw_in (i := 402) (by decide +kernel)⟩
theorem ln_F_171 : mLV "AgeFerry" 171 m_D_mostOf := ⟨lw_in (i := 404) (by decide +kernel), lw_in (i := 405) (by decide +kernel), lw_in (i := 406) (by decide +kernel)⟩
theorem ln_F_174 : mLV "AgeFerry" 174 m_D_boatWith := ⟨lw_in (i := 412) (by decide +kernel), lw_in (i := 413) (by decide +kernel), lw_in (i := 414) (by decide +kernel)⟩
theorem ln_F_180 : mLV "AgeFerry" 180 m_P_everyone := ⟨lw_in (i := 337) (by decide +kernel), lw_in (i := 338) (by decide +kernel), lw_in (i := 339) (by decide +kernel)⟩
theorem ln_F_183 : mLV "AgeFerry" 183 m_F_refusalOf := ⟨lw_in (i := 428) (by decide +kernel), lw_in (i := 430) (by decide +kernel), lw_inp (i := 9) (by decide +kernel)⟩
theorem ln_F_186 : mLV "AgeFerry" 186 m_F_firstJudged := ⟨lw_in (i := 432) (by decide +kernel), lw_in (i := 434) (by decide +kernel), lw_inp (i := 10) (by decide +kernel)⟩
theorem ln_F_190 : mLV "AgeFerry" 190 m_F_crewOf := ⟨lw_in (i := 436) (by decide +kernel), lw_in (i := 438) (by decide +kernel), lw_inp (i := 11) (by decide +kernel)⟩
theorem ln_F_194 : mLV "AgeFerry" 194 m_F_costOfBoats := ⟨lw_in (i := 445) (by decide +kernel), lw_in (i := 447) (by decide +kernel), lw_inp (i := 12) (by decide +kernel)⟩
theorem ln_F_197 : mLS "AgeFerry" 197 m_F_longRefusal := ⟨lw_in (i := 453) (by decide +kernel), lw_in (i := 454) (by decide +kernel)⟩
theorem ln_F_201 : mLS "AgeFerry" 201 m_J_bitCount := ⟨lw_in (i := 457) (by decide +kernel), lw_in (i := 347) (by decide +kernel)⟩
theorem ln_F_206 : mLS "AgeFerry" 206 m_F_lowestTerms := ⟨lw_in (i := 458) (by decide +kernel), lw_in (i := 459) (by decide +kernel)⟩
theorem ln_F_210 : mLV "AgeFerry" 210 m_D_broughtInAllOrders := ⟨lw_in (i := 468) (by decide +kernel), lw_in (i := 469) (by decide +kernel), lw_in (i := 470) (by decide +kernel)⟩
theorem ln_F_213 : mLV "AgeFerry" 213 m_D_orders := ⟨lw_in (i := 479) (by decide +kernel), lw_in (i := 473) (by decide +kernel), lw_in (i := 474) (by decide +kernel)⟩
theorem ln_F_216 : mLV "AgeFerry" 216 m_F_paidTogether := ⟨lw_in (i := 484) (by decide +kernel), lw_in (i := 486) (by decide +kernel), lw_inp (i := 13) (by decide +kernel)⟩
theorem ln_F_220 : mLV "AgeFerry" 220 m_D_bestLie := ⟨lw_in (i := 492) (by decide +kernel), lw_in (i := 493) (by decide +kernel), lw_in (i := 494) (by decide +kernel)⟩
theorem ln_F_223 : mLV "AgeFerry" 223 m_T_leastThereAndBack := ⟨lw_in (i := 506) (by decide +kernel), lw_in (i := 507) (by decide +kernel), lw_in (i := 508) (by decide +kernel)⟩
theorem ln_F_226 : mLV "AgeFerry" 226 m_G_add := ⟨lw_in (i := 547) (by decide +kernel), lw_in (i := 548) (by decide +kernel), lw_in (i := 549) (by decide +kernel)⟩
theorem ln_F_230 : mLV "AgeFerry" 230 m_G_drop := ⟨lw_in (i := 555) (by decide +kernel), lw_in (i := 556) (by decide +kernel), lw_in (i := 557) (by decide +kernel)⟩
theorem ln_F_233 : mLV "AgeFerry" 233 m_G_allow := ⟨lw_in (i := 563) (by decide +kernel), lw_in (i := 564) (by decide +kernel), lw_in (i := 565) (by decide +kernel)⟩
theorem ln_F_238 : mLS "AgeFerry" 238 m_F_lotOf := ⟨lw_in (i := 581) (by decide +kernel), lw_in (i := 582) (by decide +kernel)⟩
theorem ln_F_241 : mLS "AgeFerry" 241 m_F_placeOf := ⟨lw_in (i := 584) (by decide +kernel), lw_in (i := 585) (by decide +kernel)⟩
theorem ln_F_244 : mLV "AgeFerry" 244 m_R_boatOfPlace := ⟨lw_in (i := 587) (by decide +kernel), lw_in (i := 588) (by decide +kernel), lw_in (i := 589) (by decide +kernel)⟩
theorem ln_F_247 : mLS "AgeFerry" 247 m_F_isForm := ⟨lw_in (i := 595) (by decide +kernel), lw_in (i := 596) (by decide +kernel)⟩
theorem ln_F_250 : mLV "AgeFerry" 250 m_S_renew := ⟨lw_in (i := 598) (by decide +kernel), lw_in (i := 599) (by decide +kernel), lw_in (i := 600) (by decide +kernel)⟩
theorem ln_F_253 : mLV "AgeFerry" 253 m_S_tearUp := ⟨lw_in (i := 607) (by decide +kernel), lw_in (i := 608) (by decide +kernel), lw_in (i := 609) (by decide +kernel)⟩
theorem ln_F_256 : mLS "AgeFerry" 256 m_F_findingAt := ⟨lw_in (i := 615) (by decide +kernel), lw_in (i := 616) (by decide +kernel)⟩
theorem ln_F_260 : mLV "AgeFerry" 260 m_S_store := ⟨lw_in (i := 619) (by decide +kernel), lw_in (i := 620) (by decide +kernel), lw_in (i := 621) (by decide +kernel)⟩
theorem ln_F_270 : mLV "AgeFerry" 270 m_S_hasRange := ⟨lw_in (i := 632) (by decide +kernel), lw_in (i := 633) (by decide +kernel), lw_in (i := 634) (by decide +kernel)⟩
theorem ln_F_282 : mLV "AgeFerry" 282 m_F_writeBoats := ⟨lw_in (i := 643) (by decide +kernel), lw_in (i := 645) (by decide +kernel), lw_inp (i := 19) (by decide +kernel)⟩
theorem ln_F_287 : mLV "AgeFerry" 287 m_P_yearsTogether := ⟨lw_in (i := 652) (by decide +kernel), lw_in (i := 653) (by decide +kernel), lw_in (i := 654) (by decide +kernel)⟩
theorem ln_F_290 : mLV "AgeFerry" 290 m_P_liars := ⟨lw_in (i := 656) (by decide +kernel), lw_in (i := 657) (by decide +kernel), lw_in (i := 658) (by decide +kernel)⟩
theorem ln_F_293 : mLV "AgeFerry" 293 m_R_pairsOf := ⟨lw_in (i := 660) (by decide +kernel), lw_in (i := 661) (by decide +kernel), lw_in (i := 662) (by decide +kernel)⟩
theorem ln_F_302 : mLV "AgeFerry" 302 m_F_count := ⟨lw_in (i := 671) (by decide +kernel), lw_in (i := 649) (by decide +kernel), lw_in (i := 650) (by decide +kernel)⟩
theorem ln_F_305 : mLV "AgeFerry" 305 m_F_fault := ⟨lw_in (i := 672) (by decide +kernel), lw_in (i := 252) (by decide +kernel), lw_in (i := 253) (by decide +kernel)⟩
theorem ln_F_307 : mLV "AgeFerry" 307 m_F_person := ⟨lw_in (i := 673) (by decide +kernel), lw_in (i := 256) (by decide +kernel), lw_in (i := 257) (by decide +kernel)⟩
theorem ln_F_310 : mLV "AgeFerry" 310 m_F_with := ⟨lw_in (i := 674) (by decide +kernel), lw_in (i := 409) (by decide +kernel), lw_in (i := 410) (by decide +kernel)⟩
theorem ln_F_313 : mLV "AgeFerry" 313 m_F_pays := ⟨lw_in (i := 675) (by decide +kernel), lw_in (i := 450) (by decide +kernel), lw_in (i := 451) (by decide +kernel)⟩
theorem ln_F_317 : mLV "AgeFerry" 317 m_F_share := ⟨lw_in (i := 676) (by decide +kernel), lw_in (i := 465) (by decide +kernel), lw_in (i := 466) (by decide +kernel)⟩
theorem ln_F_320 : mLV "AgeFerry" 320 m_F_lies := ⟨lw_in (i := 677) (by decide +kernel), lw_in (i := 489) (by decide +kernel), lw_in (i := 490) (by decide +kernel)⟩
theorem ln_F_322 : mLV "AgeFerry" 322 m_F_ages := ⟨lw_in (i := 678) (by decide +kernel), lw_in (i := 560) (by decide +kernel), lw_in (i := 561) (by decide +kernel)⟩
theorem ln_F_324 : mLV "AgeFerry" 324 m_F_day := ⟨lw_in (i := 679) (by decide +kernel), lw_in (i := 361) (by decide +kernel), lw_in (i := 362) (by decide +kernel)⟩
theorem ln_F_327 : mLV "AgeFerry" 327 m_F_odd := ⟨lw_in (i := 680) (by decide +kernel), lw_in (i := 421) (by decide +kernel), lw_in (i := 422) (by decide +kernel)⟩
theorem ln_F_330 : mLV "AgeFerry" 330 m_F_back := ⟨lw_in (i := 681) (by decide +kernel), lw_in (i := 503) (by decide +kernel), lw_in (i := 504) (by decide +kernel)⟩
theorem ln_F_333 : mLV "AgeFerry" 333 m_F_lot := ⟨lw_in (i := 682) (by decide +kernel), lw_in (i := 577) (by decide +kernel), lw_in (i := 578) (by decide +kernel)⟩
theorem ln_F_336 : mLV "AgeFerry" 336 m_S_hasItem := ⟨lw_in (i := 618) (by decide +kernel), lw_in (i := 305) (by decide +kernel), lw_in (i := 306) (by decide +kernel)⟩
theorem ln_F_341 : mLV "AgeFerry" 341 m_D_mayGo := ⟨lw_in (i := 440) (by decide +kernel), lw_in (i := 386) (by decide +kernel), lw_in (i := 387) (by decide +kernel)⟩
theorem ln_F_344 : mLS "AgeFerry" 344 m_D_lowestBit := ⟨lw_in (i := 647) (by decide +kernel), lw_in (i := 370) (by decide +kernel)⟩
theorem ln_F_347 : Cond.methodLink "AgeFerry" 347 Lib.MathLoose.abs_long.x ∈ lw_ws := lw_in (i := 461) (by decide +kernel)
theorem ln_D_36 : mLV "AgeFerry$Days" 36 m_P_everyone := ⟨lw_in (i := 368) (by decide +kernel), lw_in (i := 338) (by decide +kernel), lw_in (i := 339) (by decide +kernel)⟩
theorem ln_D_42 : mLS "AgeFerry$Days" 42 m_D_lowestBit := ⟨lw_in (i := 369) (by decide +kernel), lw_in (i := 370) (by decide +kernel)⟩
theorem ln_D_46 : mLS "AgeFerry$Days" 46 m_J_bitCount := ⟨lw_in (i := 346) (by decide +kernel), lw_in (i := 347) (by decide +kernel)⟩
theorem ln_D_51 : mLV "AgeFerry$Days" 51 m_R_mustOf := ⟨lw_in (i := 372) (by decide +kernel), lw_in (i := 373) (by decide +kernel), lw_in (i := 374) (by decide +kernel)⟩
theorem ln_D_56 : mLV "AgeFerry$Days" 56 m_D_priceOf := ⟨lw_in (i := 376) (by decide +kernel), lw_in (i := 378) (by decide +kernel), lw_inp (i := 5) (by decide +kernel)⟩
theorem ln_D_59 : mLV "AgeFerry$Days" 59 m_D_plan := ⟨lw_in (i := 381) (by decide +kernel), lw_in (i := 383) (by decide +kernel), lw_inp (i := 6) (by decide +kernel)⟩
theorem ln_D_71 : Cond.methodLink "AgeFerry$Days" 71 Lib.Math.max.name ∈ lw_ws := lw_in (i := 345) (by decide +kernel)
theorem ln_D_77 : Cond.methodLink "AgeFerry$Days" 77 Lib.Math.min.name ∈ lw_ws := lw_in (i := 358) (by decide +kernel)
theorem ln_D_86 : mLV "AgeFerry$Days" 86 m_D_fareOf := ⟨lw_in (i := 352) (by decide +kernel), lw_in (i := 353) (by decide +kernel), lw_in (i := 354) (by decide +kernel)⟩
theorem ln_D_89 : mLV "AgeFerry$Days" 89 m_D_planOf := ⟨lw_in (i := 396) (by decide +kernel), lw_in (i := 398) (by decide +kernel), lw_inp (i := 7) (by decide +kernel)⟩
theorem ln_D_92 : mLV "AgeFerry$Days" 92 m_D_firstBoatOf := ⟨lw_in (i := 416) (by decide +kernel), lw_in (i := 418) (by decide +kernel), lw_inp (i := 8) (by decide +kernel)⟩
theorem ln_D_98 : mLV "AgeFerry$Days" 98 m_D_orders := ⟨lw_in (i := 472) (by decide +kernel), lw_in (i := 473) (by decide +kernel), lw_in (i := 474) (by decide +kernel)⟩
theorem ln_D_105 : mLV "AgeFerry$Days" 105 m_D_leastOf := ⟨lw_in (i := 478) (by decide +kernel), lw_in (i := 393) (by decide +kernel), lw_in (i := 394) (by decide +kernel)⟩
theorem ln_D_111 : mLV "AgeFerry$Days" 111 m_P_tell := ⟨lw_in (i := 496) (by decide +kernel), lw_in (i := 279) (by decide +kernel), lw_in (i := 280) (by decide +kernel)⟩
theorem ln_D_115 : mLV "AgeFerry$Days" 115 m_D_replanAround := ⟨lw_in (i := 497) (by decide +kernel), lw_in (i := 499) (by decide +kernel), lw_inp (i := 14) (by decide +kernel)⟩
theorem ln_D_118 : mLV "AgeFerry$Days" 118 m_D_boatWith := ⟨lw_in (i := 501) (by decide +kernel), lw_in (i := 413) (by decide +kernel), lw_in (i := 414) (by decide +kernel)⟩
theorem ln_D_121 : mLV "AgeFerry$Days" 121 m_D_costOf := ⟨lw_in (i := 380) (by decide +kernel), lw_in (i := 342) (by decide +kernel), lw_in (i := 343) (by decide +kernel)⟩
theorem ln_D_127 : mLV "AgeFerry$Days" 127 m_D_mayGo := ⟨lw_in (i := 385) (by decide +kernel), lw_in (i := 386) (by decide +kernel), lw_in (i := 387) (by decide +kernel)⟩
theorem ln_D_131 : mLS "AgeFerry$Days" 131 m_D_nextPart := ⟨lw_in (i := 389) (by decide +kernel), lw_in (i := 390) (by decide +kernel)⟩
theorem ln_P_37 : mLV "AgeFerry$People" 37 m_P_understand := ⟨lw_in (i := 221) (by decide +kernel), lw_in (i := 223) (by decide +kernel), lw_inp (i := 0) (by decide +kernel)⟩
theorem ln_P_47 : mLV "AgeFerry$People" 47 m_P_toldAt := ⟨lw_in (i := 233) (by decide +kernel), lw_in (i := 234) (by decide +kernel), lw_in (i := 235) (by decide +kernel)⟩
theorem ln_P_51 : Cond.methodLink "AgeFerry$People" 51 Lib.Math.max.name ∈ lw_ws := lw_in (i := 240) (by decide +kernel)
theorem ln_P_56 : mLV "AgeFerry$People" 56 m_P_endOfFigures := ⟨lw_in (i := 225) (by decide +kernel), lw_in (i := 227) (by decide +kernel), lw_inp (i := 1) (by decide +kernel)⟩
theorem ln_P_60 : mLV "AgeFerry$People" 60 m_P_ageAt := ⟨lw_in (i := 229) (by decide +kernel), lw_in (i := 231) (by decide +kernel), lw_inp (i := 2) (by decide +kernel)⟩
theorem ln_R_31 : mLS "AgeFerry$Rules" 31 m_J_bitCount := ⟨lw_in (i := 664) (by decide +kernel), lw_in (i := 347) (by decide +kernel)⟩
theorem ln_S_20 : Cond.methodLink "AgeFerry$Sheet" 20 Lib.Math.min.name ∈ lw_ws := lw_in (i := 602) (by decide +kernel)
theorem ln_S_26 : mLV "AgeFerry$Sheet" 26 m_S_hasItem := ⟨lw_in (i := 304) (by decide +kernel), lw_in (i := 305) (by decide +kernel), lw_in (i := 306) (by decide +kernel)⟩
theorem ln_G_25 : mLV "AgeFerry$Sightings" 25 m_P_toldAt := ⟨lw_in (i := 567) (by decide +kernel), lw_in (i := 234) (by decide +kernel), lw_in (i := 235) (by decide +kernel)⟩
theorem ln_G_31 : mLV "AgeFerry$Sightings" 31 m_G_otherOf := ⟨lw_in (i := 568) (by decide +kernel), lw_in (i := 570) (by decide +kernel), lw_inp (i := 18) (by decide +kernel)⟩
theorem ln_G_34 : mLV "AgeFerry$Sightings" 34 m_P_isThere := ⟨lw_in (i := 572) (by decide +kernel), lw_in (i := 260) (by decide +kernel), lw_in (i := 261) (by decide +kernel)⟩
theorem ln_G_41 : Cond.methodLink "AgeFerry$Sightings" 41 Lib.Math.abs.name ∈ lw_ws := lw_in (i := 573) (by decide +kernel)
theorem ln_T_19 : mLV "AgeFerry$Trip" 19 m_D_leastOf := ⟨lw_in (i := 510) (by decide +kernel), lw_in (i := 393) (by decide +kernel), lw_in (i := 394) (by decide +kernel)⟩
theorem ln_T_25 : mLV "AgeFerry$Trip" 25 m_D_anyMust := ⟨lw_in (i := 511) (by decide +kernel), lw_in (i := 512) (by decide +kernel), lw_in (i := 513) (by decide +kernel)⟩
theorem ln_T_37 : mLS "AgeFerry$Trip" 37 m_T_goThere := ⟨lw_in (i := 516) (by decide +kernel), lw_in (i := 517) (by decide +kernel)⟩
theorem ln_T_41 : mLS "AgeFerry$Trip" 41 m_T_comeBack := ⟨lw_in (i := 519) (by decide +kernel), lw_in (i := 520) (by decide +kernel)⟩
theorem ln_T_44 : mLS "AgeFerry$Trip" 44 m_D_lowestBit := ⟨lw_in (i := 523) (by decide +kernel), lw_in (i := 370) (by decide +kernel)⟩
theorem ln_T_47 : mLS "AgeFerry$Trip" 47 m_J_bitCount := ⟨lw_in (i := 524) (by decide +kernel), lw_in (i := 347) (by decide +kernel)⟩
theorem ln_T_52 : mLV "AgeFerry$Trip" 52 m_D_mayGo := ⟨lw_in (i := 525) (by decide +kernel), lw_in (i := 386) (by decide +kernel), lw_in (i := 387) (by decide +kernel)⟩
theorem ln_T_56 : mLV "AgeFerry$Trip" 56 m_T_atLeast := ⟨lw_in (i := 530) (by decide +kernel), lw_in (i := 532) (by decide +kernel), lw_inp (i := 16) (by decide +kernel)⟩
theorem ln_T_60 : mLV "AgeFerry$Trip" 60 m_T_meet := ⟨lw_in (i := 539) (by decide +kernel), lw_in (i := 541) (by decide +kernel), lw_inp (i := 17) (by decide +kernel)⟩
theorem ln_T_64 : mLV "AgeFerry$Trip" 64 m_D_priceAt := ⟨lw_in (i := 534) (by decide +kernel), lw_in (i := 535) (by decide +kernel), lw_in (i := 536) (by decide +kernel)⟩
theorem ln_T_67 : mLS "AgeFerry$Trip" 67 m_D_nextPart := ⟨lw_in (i := 538) (by decide +kernel), lw_in (i := 390) (by decide +kernel)⟩
theorem ln_T_71 : Cond.methodLink "AgeFerry$Trip" 71 Lib.Math.min.name ∈ lw_ws := lw_in (i := 522) (by decide +kernel)
theorem ln_T_76 : mLV "AgeFerry$Trip" 76 m_T_areNew := ⟨lw_in (i := 526) (by decide +kernel), lw_in (i := 528) (by decide +kernel), lw_inp (i := 15) (by decide +kernel)⟩
theorem ln_L_13 : mLV "AgeFerryLaw" 13 m_F_type := ⟨lw_in (i := 202) (by decide +kernel), lw_in (i := 203) (by decide +kernel), lw_in (i := 204) (by decide +kernel)⟩
theorem ln_L_17 : mLV "AgeFerryLaw" 17 m_M_type := ⟨lw_in (i := 824) (by decide +kernel), lw_in (i := 825) (by decide +kernel), lw_in (i := 826) (by decide +kernel)⟩
theorem ln_L_18 : mLV "AgeFerryLaw" 18 m_F_wipe := ⟨lw_in (i := 243) (by decide +kernel), lw_in (i := 244) (by decide +kernel), lw_in (i := 245) (by decide +kernel)⟩
theorem ln_L_22 : mLV "AgeFerryLaw" 22 m_M_wipe := ⟨lw_in (i := 829) (by decide +kernel), lw_in (i := 830) (by decide +kernel), lw_in (i := 831) (by decide +kernel)⟩
theorem ln_L_23 : mLV "AgeFerryLaw" 23 m_F_fault := ⟨lw_in (i := 251) (by decide +kernel), lw_in (i := 252) (by decide +kernel), lw_in (i := 253) (by decide +kernel)⟩
theorem ln_L_26 : mLV "AgeFerryLaw" 26 m_M_fault := ⟨lw_in (i := 833) (by decide +kernel), lw_in (i := 834) (by decide +kernel), lw_in (i := 835) (by decide +kernel)⟩
theorem ln_L_27 : mLV "AgeFerryLaw" 27 m_F_person := ⟨lw_in (i := 255) (by decide +kernel), lw_in (i := 256) (by decide +kernel), lw_in (i := 257) (by decide +kernel)⟩
theorem ln_L_31 : mLV "AgeFerryLaw" 31 m_M_person := ⟨lw_in (i := 855) (by decide +kernel), lw_in (i := 856) (by decide +kernel), lw_in (i := 857) (by decide +kernel)⟩
theorem ln_L_32 : mLV "AgeFerryLaw" 32 m_F_put := ⟨lw_in (i := 263) (by decide +kernel), lw_in (i := 264) (by decide +kernel), lw_in (i := 265) (by decide +kernel)⟩
theorem ln_L_36 : mLV "AgeFerryLaw" 36 m_M_put := ⟨lw_in (i := 870) (by decide +kernel), lw_in (i := 871) (by decide +kernel), lw_in (i := 872) (by decide +kernel)⟩
theorem ln_L_37 : mLV "AgeFerryLaw" 37 m_F_lie := ⟨lw_in (i := 271) (by decide +kernel), lw_in (i := 272) (by decide +kernel), lw_in (i := 273) (by decide +kernel)⟩
theorem ln_L_40 : mLV "AgeFerryLaw" 40 m_M_lie := ⟨lw_in (i := 879) (by decide +kernel), lw_in (i := 880) (by decide +kernel), lw_in (i := 881) (by decide +kernel)⟩
theorem ln_L_41 : mLV "AgeFerryLaw" 41 m_F_read := ⟨lw_in (i := 282) (by decide +kernel), lw_in (i := 283) (by decide +kernel), lw_in (i := 284) (by decide +kernel)⟩
theorem ln_L_44 : mLV "AgeFerryLaw" 44 m_M_read := ⟨lw_in (i := 885) (by decide +kernel), lw_in (i := 886) (by decide +kernel), lw_in (i := 887) (by decide +kernel)⟩
theorem ln_L_45 : mLV "AgeFerryLaw" 45 m_F_set := ⟨lw_in (i := 308) (by decide +kernel), lw_in (i := 309) (by decide +kernel), lw_in (i := 310) (by decide +kernel)⟩
theorem ln_L_48 : mLV "AgeFerryLaw" 48 m_M_set := ⟨lw_in (i := 890) (by decide +kernel), lw_in (i := 891) (by decide +kernel), lw_in (i := 892) (by decide +kernel)⟩
theorem ln_L_49 : mLV "AgeFerryLaw" 49 m_F_pair := ⟨lw_in (i := 320) (by decide +kernel), lw_in (i := 321) (by decide +kernel), lw_in (i := 322) (by decide +kernel)⟩
theorem ln_L_53 : mLV "AgeFerryLaw" 53 m_M_pair := ⟨lw_in (i := 894) (by decide +kernel), lw_in (i := 895) (by decide +kernel), lw_in (i := 896) (by decide +kernel)⟩
theorem ln_L_54 : mLV "AgeFerryLaw" 54 m_F_boat := ⟨lw_in (i := 329) (by decide +kernel), lw_in (i := 330) (by decide +kernel), lw_in (i := 331) (by decide +kernel)⟩
theorem ln_L_57 : mLV "AgeFerryLaw" 57 m_M_boat := ⟨lw_in (i := 901) (by decide +kernel), lw_in (i := 902) (by decide +kernel), lw_in (i := 903) (by decide +kernel)⟩
theorem ln_L_58 : mLV "AgeFerryLaw" 58 m_F_day := ⟨lw_in (i := 360) (by decide +kernel), lw_in (i := 361) (by decide +kernel), lw_in (i := 362) (by decide +kernel)⟩
theorem ln_L_61 : mLV "AgeFerryLaw" 61 m_M_day := ⟨lw_in (i := 924) (by decide +kernel), lw_in (i := 925) (by decide +kernel), lw_in (i := 926) (by decide +kernel)⟩
theorem ln_L_62 : mLV "AgeFerryLaw" 62 m_F_with := ⟨lw_in (i := 408) (by decide +kernel), lw_in (i := 409) (by decide +kernel), lw_in (i := 410) (by decide +kernel)⟩
theorem ln_L_65 : mLV "AgeFerryLaw" 65 m_M_with := ⟨lw_in (i := 948) (by decide +kernel), lw_in (i := 949) (by decide +kernel), lw_in (i := 950) (by decide +kernel)⟩
theorem ln_L_66 : mLV "AgeFerryLaw" 66 m_F_odd := ⟨lw_in (i := 420) (by decide +kernel), lw_in (i := 421) (by decide +kernel), lw_in (i := 422) (by decide +kernel)⟩
theorem ln_L_69 : mLV "AgeFerryLaw" 69 m_M_odd := ⟨lw_in (i := 960) (by decide +kernel), lw_in (i := 961) (by decide +kernel), lw_in (i := 962) (by decide +kernel)⟩
theorem ln_L_70 : mLV "AgeFerryLaw" 70 m_F_judged := ⟨lw_in (i := 424) (by decide +kernel), lw_in (i := 425) (by decide +kernel), lw_in (i := 426) (by decide +kernel)⟩
theorem ln_L_73 : mLV "AgeFerryLaw" 73 m_M_judged := ⟨lw_in (i := 968) (by decide +kernel), lw_in (i := 969) (by decide +kernel), lw_in (i := 970) (by decide +kernel)⟩
theorem ln_L_74 : mLV "AgeFerryLaw" 74 m_F_costs := ⟨lw_in (i := 441) (by decide +kernel), lw_in (i := 442) (by decide +kernel), lw_in (i := 443) (by decide +kernel)⟩
theorem ln_L_77 : mLV "AgeFerryLaw" 77 m_M_costs := ⟨lw_in (i := 984) (by decide +kernel), lw_in (i := 985) (by decide +kernel), lw_in (i := 986) (by decide +kernel)⟩
theorem ln_L_78 : mLV "AgeFerryLaw" 78 m_F_pays := ⟨lw_in (i := 449) (by decide +kernel), lw_in (i := 450) (by decide +kernel), lw_in (i := 451) (by decide +kernel)⟩
theorem ln_L_82 : mLV "AgeFerryLaw" 82 m_M_pays := ⟨lw_in (i := 988) (by decide +kernel), lw_in (i := 989) (by decide +kernel), lw_in (i := 990) (by decide +kernel)⟩
theorem ln_L_83 : mLV "AgeFerryLaw" 83 m_F_share := ⟨lw_in (i := 464) (by decide +kernel), lw_in (i := 465) (by decide +kernel), lw_in (i := 466) (by decide +kernel)⟩
theorem ln_L_86 : mLV "AgeFerryLaw" 86 m_M_share := ⟨lw_in (i := 1003) (by decide +kernel), lw_in (i := 1004) (by decide +kernel), lw_in (i := 1005) (by decide +kernel)⟩
theorem ln_L_87 : mLV "AgeFerryLaw" 87 m_F_rather := ⟨lw_in (i := 480) (by decide +kernel), lw_in (i := 481) (by decide +kernel), lw_in (i := 482) (by decide +kernel)⟩
theorem ln_L_90 : mLV "AgeFerryLaw" 90 m_M_rather := ⟨lw_in (i := 1018) (by decide +kernel), lw_in (i := 1019) (by decide +kernel), lw_in (i := 1020) (by decide +kernel)⟩
theorem ln_L_91 : mLV "AgeFerryLaw" 91 m_F_lies := ⟨lw_in (i := 488) (by decide +kernel), lw_in (i := 489) (by decide +kernel), lw_in (i := 490) (by decide +kernel)⟩
theorem ln_L_94 : mLV "AgeFerryLaw" 94 m_M_lies := ⟨lw_in (i := 1022) (by decide +kernel), lw_in (i := 1023) (by decide +kernel), lw_in (i := 1024) (by decide +kernel)⟩
theorem ln_L_95 : mLV "AgeFerryLaw" 95 m_F_back := ⟨lw_in (i := 502) (by decide +kernel), lw_in (i := 503) (by decide +kernel), lw_in (i := 504) (by decide +kernel)⟩
theorem ln_L_98 : mLV "AgeFerryLaw" 98 m_M_back := ⟨lw_in (i := 1030) (by decide +kernel), lw_in (i := 1031) (by decide +kernel), lw_in (i := 1032) (by decide +kernel)⟩
theorem ln_L_99 : mLV "AgeFerryLaw" 99 m_F_seen := ⟨lw_in (i := 543) (by decide +kernel), lw_in (i := 544) (by decide +kernel), lw_in (i := 545) (by decide +kernel)⟩
theorem ln_L_102 : mLV "AgeFerryLaw" 102 m_M_seen := ⟨lw_in (i := 1046) (by decide +kernel), lw_in (i := 1047) (by decide +kernel), lw_in (i := 1048) (by decide +kernel)⟩
theorem ln_L_103 : mLV "AgeFerryLaw" 103 m_F_forget := ⟨lw_in (i := 551) (by decide +kernel), lw_in (i := 552) (by decide +kernel), lw_in (i := 553) (by decide +kernel)⟩
theorem ln_L_106 : mLV "AgeFerryLaw" 106 m_M_forget := ⟨lw_in (i := 1051) (by decide +kernel), lw_in (i := 1052) (by decide +kernel), lw_in (i := 1053) (by decide +kernel)⟩
theorem ln_L_107 : mLV "AgeFerryLaw" 107 m_F_ages := ⟨lw_in (i := 559) (by decide +kernel), lw_in (i := 560) (by decide +kernel), lw_in (i := 561) (by decide +kernel)⟩
theorem ln_L_110 : mLV "AgeFerryLaw" 110 m_M_ages := ⟨lw_in (i := 1055) (by decide +kernel), lw_in (i := 1056) (by decide +kernel), lw_in (i := 1057) (by decide +kernel)⟩
theorem ln_L_111 : mLV "AgeFerryLaw" 111 m_F_lot := ⟨lw_in (i := 576) (by decide +kernel), lw_in (i := 577) (by decide +kernel), lw_in (i := 578) (by decide +kernel)⟩
theorem ln_L_114 : mLV "AgeFerryLaw" 114 m_M_lot := ⟨lw_in (i := 1067) (by decide +kernel), lw_in (i := 1068) (by decide +kernel), lw_in (i := 1069) (by decide +kernel)⟩
theorem ln_L_115 : mLV "AgeFerryLaw" 115 m_F_sheet := ⟨lw_in (i := 591) (by decide +kernel), lw_in (i := 592) (by decide +kernel), lw_in (i := 593) (by decide +kernel)⟩
theorem ln_L_118 : mLV "AgeFerryLaw" 118 m_M_sheet := ⟨lw_in (i := 784) (by decide +kernel), lw_in (i := 785) (by decide +kernel), lw_in (i := 786) (by decide +kernel)⟩
theorem ln_L_119 : mLV "AgeFerryLaw" 119 m_F_lose := ⟨lw_in (i := 603) (by decide +kernel), lw_in (i := 604) (by decide +kernel), lw_in (i := 605) (by decide +kernel)⟩
theorem ln_L_122 : mLV "AgeFerryLaw" 122 m_M_lose := ⟨lw_in (i := 800) (by decide +kernel), lw_in (i := 801) (by decide +kernel), lw_in (i := 802) (by decide +kernel)⟩
theorem ln_L_123 : mLV "AgeFerryLaw" 123 m_F_lay := ⟨lw_in (i := 611) (by decide +kernel), lw_in (i := 612) (by decide +kernel), lw_in (i := 613) (by decide +kernel)⟩
theorem ln_L_126 : mLV "AgeFerryLaw" 126 m_M_lay := ⟨lw_in (i := 804) (by decide +kernel), lw_in (i := 805) (by decide +kernel), lw_in (i := 806) (by decide +kernel)⟩
theorem ln_L_127 : mLV "AgeFerryLaw" 127 m_F_get := ⟨lw_in (i := 623) (by decide +kernel), lw_in (i := 624) (by decide +kernel), lw_in (i := 625) (by decide +kernel)⟩
theorem ln_L_130 : mLV "AgeFerryLaw" 130 m_M_get := ⟨lw_in (i := 815) (by decide +kernel), lw_in (i := 816) (by decide +kernel), lw_in (i := 817) (by decide +kernel)⟩
theorem ln_L_131 : mLV "AgeFerryLaw" 131 m_F_copy := ⟨lw_in (i := 628) (by decide +kernel), lw_in (i := 629) (by decide +kernel), lw_in (i := 630) (by decide +kernel)⟩
theorem ln_L_135 : mLV "AgeFerryLaw" 135 m_M_copy := ⟨lw_in (i := 820) (by decide +kernel), lw_in (i := 821) (by decide +kernel), lw_in (i := 822) (by decide +kernel)⟩
theorem ln_L_136 : mLV "AgeFerryLaw" 136 m_F_write := ⟨lw_in (i := 639) (by decide +kernel), lw_in (i := 640) (by decide +kernel), lw_in (i := 641) (by decide +kernel)⟩
theorem ln_L_139 : mLV "AgeFerryLaw" 139 m_M_write := ⟨lw_in (i := 1076) (by decide +kernel), lw_in (i := 1077) (by decide +kernel), lw_in (i := 1078) (by decide +kernel)⟩
theorem ln_L_140 : mLV "AgeFerryLaw" 140 m_F_count := ⟨lw_in (i := 648) (by decide +kernel), lw_in (i := 649) (by decide +kernel), lw_in (i := 650) (by decide +kernel)⟩
theorem ln_L_143 : mLV "AgeFerryLaw" 143 m_M_count := ⟨lw_in (i := 1080) (by decide +kernel), lw_in (i := 1081) (by decide +kernel), lw_in (i := 1082) (by decide +kernel)⟩
theorem ln_L_144 : mLV "AgeFerryLaw" 144 m_F_digest := ⟨lw_in (i := 665) (by decide +kernel), lw_in (i := 666) (by decide +kernel), lw_in (i := 667) (by decide +kernel)⟩
theorem ln_L_148 : mLV "AgeFerryLaw" 148 m_M_digest := ⟨lw_in (i := 1087) (by decide +kernel), lw_in (i := 1088) (by decide +kernel), lw_in (i := 1089) (by decide +kernel)⟩
theorem ln_M_88 : mLS "AgeFerryModel" 88 m_M_in := ⟨lw_in (i := 792) (by decide +kernel), lw_in (i := 793) (by decide +kernel)⟩
theorem ln_M_98 : mLS "AgeFerryModel" 98 m_M_isSheet := ⟨lw_in (i := 788) (by decide +kernel), lw_in (i := 789) (by decide +kernel)⟩
theorem ln_M_104 : mLV "AgeFerryModel" 104 m_M_met := ⟨lw_in (i := 796) (by decide +kernel), lw_in (i := 798) (by decide +kernel), lw_inp (i := 20) (by decide +kernel)⟩
theorem ln_M_108 : mLV "AgeFerryModel" 108 m_M_lacks := ⟨lw_in (i := 808) (by decide +kernel), lw_in (i := 810) (by decide +kernel), lw_inp (i := 21) (by decide +kernel)⟩
theorem ln_M_112 : mLS "AgeFerryModel" 112 m_M_cut := ⟨lw_in (i := 812) (by decide +kernel), lw_in (i := 813) (by decide +kernel)⟩
theorem ln_M_128 : mLV "AgeFerryModel" 128 m_M_here := ⟨lw_in (i := 845) (by decide +kernel), lw_in (i := 847) (by decide +kernel), lw_inp (i := 24) (by decide +kernel)⟩
theorem ln_M_136 : mLV "AgeFerryModel" 136 m_M_readsPart := ⟨lw_in (i := 841) (by decide +kernel), lw_in (i := 843) (by decide +kernel), lw_inp (i := 23) (by decide +kernel)⟩
theorem ln_M_140 : mLV "AgeFerryModel" 140 m_M_nobody := ⟨lw_in (i := 851) (by decide +kernel), lw_in (i := 853) (by decide +kernel), lw_inp (i := 25) (by decide +kernel)⟩
theorem ln_M_143 : mLV "AgeFerryModel" 143 m_M_reads := ⟨lw_in (i := 837) (by decide +kernel), lw_in (i := 839) (by decide +kernel), lw_inp (i := 22) (by decide +kernel)⟩
theorem ln_M_148 : mLV "AgeFerryModel" 148 m_M_isPerson := ⟨lw_in (i := 859) (by decide +kernel), lw_in (i := 861) (by decide +kernel), lw_inp (i := 26) (by decide +kernel)⟩
theorem ln_M_151 : mLS "AgeFerryModel" 151 m_M_isTwo := ⟨lw_in (i := 863) (by decide +kernel), lw_in (i := 864) (by decide +kernel)⟩
theorem ln_M_154 : mLV "AgeFerryModel" 154 m_M_toldOf := ⟨lw_in (i := 866) (by decide +kernel), lw_in (i := 868) (by decide +kernel), lw_inp (i := 27) (by decide +kernel)⟩
theorem ln_M_157 : mLS "AgeFerryModel" 157 m_M_isNumber := ⟨lw_in (i := 874) (by decide +kernel), lw_in (i := 875) (by decide +kernel)⟩
theorem ln_M_166 : mLV "AgeFerryModel" 166 m_M_put := ⟨lw_in (i := 889) (by decide +kernel), lw_in (i := 871) (by decide +kernel), lw_in (i := 872) (by decide +kernel)⟩
theorem ln_M_169 : mLS "AgeFerryModel" 169 m_M_lays := ⟨lw_in (i := 898) (by decide +kernel), lw_in (i := 899) (by decide +kernel)⟩
theorem ln_M_173 : mLS "AgeFerryModel" 173 m_M_ones := ⟨lw_in (i := 920) (by decide +kernel), lw_in (i := 921) (by decide +kernel)⟩
theorem ln_M_177 : mLS "AgeFerryModel" 177 m_M_isIn := ⟨lw_in (i := 913) (by decide +kernel), lw_in (i := 914) (by decide +kernel)⟩
theorem ln_M_181 : mLV "AgeFerryModel" 181 m_M_fareOf := ⟨lw_in (i := 916) (by decide +kernel), lw_in (i := 918) (by decide +kernel), lw_inp (i := 30) (by decide +kernel)⟩
theorem ln_M_184 : mLV "AgeFerryModel" 184 m_M_whole := ⟨lw_in (i := 905) (by decide +kernel), lw_in (i := 907) (by decide +kernel), lw_inp (i := 28) (by decide +kernel)⟩
theorem ln_M_187 : mLV "AgeFerryModel" 187 m_M_goTogether := ⟨lw_in (i := 932) (by decide +kernel), lw_in (i := 934) (by decide +kernel), lw_inp (i := 32) (by decide +kernel)⟩
theorem ln_M_190 : mLV "AgeFerryModel" 190 m_M_costOf := ⟨lw_in (i := 909) (by decide +kernel), lw_in (i := 911) (by decide +kernel), lw_inp (i := 29) (by decide +kernel)⟩
theorem ln_M_193 : mLV "AgeFerryModel" 193 m_M_tries := ⟨lw_in (i := 944) (by decide +kernel), lw_in (i := 946) (by decide +kernel), lw_inp (i := 35) (by decide +kernel)⟩
theorem ln_M_197 : mLV "AgeFerryModel" 197 m_M_findDay := ⟨lw_in (i := 940) (by decide +kernel), lw_in (i := 942) (by decide +kernel), lw_inp (i := 34) (by decide +kernel)⟩
theorem ln_M_201 : mLV "AgeFerryModel" 201 m_M_findBoats := ⟨lw_in (i := 928) (by decide +kernel), lw_in (i := 930) (by decide +kernel), lw_inp (i := 31) (by decide +kernel)⟩
theorem ln_M_204 : mLV "AgeFerryModel" 204 m_M_dayOf := ⟨lw_in (i := 936) (by decide +kernel), lw_in (i := 938) (by decide +kernel), lw_inp (i := 33) (by decide +kernel)⟩
theorem ln_M_207 : mLV "AgeFerryModel" 207 m_M_boatWith := ⟨lw_in (i := 956) (by decide +kernel), lw_in (i := 958) (by decide +kernel), lw_inp (i := 37) (by decide +kernel)⟩
theorem ln_M_210 : mLV "AgeFerryModel" 210 m_M_withOf := ⟨lw_in (i := 952) (by decide +kernel), lw_in (i := 954) (by decide +kernel), lw_inp (i := 36) (by decide +kernel)⟩
theorem ln_M_213 : mLV "AgeFerryModel" 213 m_M_oddNow := ⟨lw_in (i := 964) (by decide +kernel), lw_in (i := 966) (by decide +kernel), lw_inp (i := 38) (by decide +kernel)⟩
theorem ln_M_216 : mLV "AgeFerryModel" 216 m_M_toldBoat := ⟨lw_in (i := 980) (by decide +kernel), lw_in (i := 982) (by decide +kernel), lw_inp (i := 41) (by decide +kernel)⟩
theorem ln_M_219 : mLV "AgeFerryModel" 219 m_M_noDay := ⟨lw_in (i := 972) (by decide +kernel), lw_in (i := 974) (by decide +kernel), lw_inp (i := 39) (by decide +kernel)⟩
theorem ln_M_222 : mLV "AgeFerryModel" 222 m_M_judgedOf := ⟨lw_in (i := 976) (by decide +kernel), lw_in (i := 978) (by decide +kernel), lw_inp (i := 40) (by decide +kernel)⟩
theorem ln_M_225 : mLS "AgeFerryModel" 225 m_M_no := ⟨lw_in (i := 996) (by decide +kernel), lw_in (i := 997) (by decide +kernel)⟩
theorem ln_M_229 : mLS "AgeFerryModel" 229 m_M_part := ⟨lw_in (i := 1000) (by decide +kernel), lw_in (i := 1001) (by decide +kernel)⟩
theorem ln_M_233 : mLV "AgeFerryModel" 233 m_M_paysOf := ⟨lw_in (i := 992) (by decide +kernel), lw_in (i := 994) (by decide +kernel), lw_inp (i := 42) (by decide +kernel)⟩
theorem ln_M_237 : mLV "AgeFerryModel" 237 m_M_findLeasts := ⟨lw_in (i := 1011) (by decide +kernel), lw_in (i := 1013) (by decide +kernel), lw_inp (i := 44) (by decide +kernel)⟩
theorem ln_M_240 : mLS "AgeFerryModel" 240 m_M_factorial := ⟨lw_in (i := 1015) (by decide +kernel), lw_in (i := 1016) (by decide +kernel)⟩
theorem ln_M_243 : mLV "AgeFerryModel" 243 m_M_shareOf := ⟨lw_in (i := 1007) (by decide +kernel), lw_in (i := 1009) (by decide +kernel), lw_inp (i := 43) (by decide +kernel)⟩
theorem ln_M_246 : mLV "AgeFerryModel" 246 m_M_liesOf := ⟨lw_in (i := 1026) (by decide +kernel), lw_in (i := 1028) (by decide +kernel), lw_inp (i := 45) (by decide +kernel)⟩
theorem ln_M_252 : mLV "AgeFerryModel" 252 m_M_keepsWay := ⟨lw_in (i := 1038) (by decide +kernel), lw_in (i := 1040) (by decide +kernel), lw_inp (i := 47) (by decide +kernel)⟩
theorem ln_M_255 : mLV "AgeFerryModel" 255 m_M_goesOn := ⟨lw_in (i := 1042) (by decide +kernel), lw_in (i := 1044) (by decide +kernel), lw_inp (i := 48) (by decide +kernel)⟩
theorem ln_M_258 : mLV "AgeFerryModel" 258 m_M_backNow := ⟨lw_in (i := 1034) (by decide +kernel), lw_in (i := 1036) (by decide +kernel), lw_inp (i := 46) (by decide +kernel)⟩
theorem ln_M_266 : mLV "AgeFerryModel" 266 m_M_isSo := ⟨lw_in (i := 1063) (by decide +kernel), lw_in (i := 1065) (by decide +kernel), lw_inp (i := 50) (by decide +kernel)⟩
theorem ln_M_269 : mLV "AgeFerryModel" 269 m_M_agesOf := ⟨lw_in (i := 1059) (by decide +kernel), lw_in (i := 1061) (by decide +kernel), lw_inp (i := 49) (by decide +kernel)⟩
theorem ln_M_273 : mLV "AgeFerryModel" 273 m_M_lotOf := ⟨lw_in (i := 1071) (by decide +kernel), lw_in (i := 1073) (by decide +kernel), lw_inp (i := 51) (by decide +kernel)⟩
theorem ln_M_276 : mLS "AgeFerryModel" 276 m_M_pairs := ⟨lw_in (i := 1084) (by decide +kernel), lw_in (i := 1085) (by decide +kernel)⟩
theorem ln_M_284 : mLV "AgeFerryModel" 284 m_M_count := ⟨lw_in (i := 1093) (by decide +kernel), lw_in (i := 1081) (by decide +kernel), lw_in (i := 1082) (by decide +kernel)⟩
