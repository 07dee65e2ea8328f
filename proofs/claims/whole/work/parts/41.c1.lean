def bcA (x : Int32) : Int32 := x - (((x.toUInt32 >>> (Int32.toUInt32 1 &&& Int32.toUInt32 31)).toInt32) &&& 1431655765)
def bcB (x : Int32) : Int32 := (x &&& 858993459) + (((x.toUInt32 >>> (Int32.toUInt32 2 &&& Int32.toUInt32 31)).toInt32) &&& 858993459)
def bcC (x : Int32) : Int32 := (x + ((x.toUInt32 >>> (Int32.toUInt32 4 &&& Int32.toUInt32 31)).toInt32)) &&& 252645135
def bcD (x : Int32) : Int32 := x + ((x.toUInt32 >>> (Int32.toUInt32 8 &&& Int32.toUInt32 31)).toInt32)
def bcE (x : Int32) : Int32 := x + ((x.toUInt32 >>> (Int32.toUInt32 16 &&& Int32.toUInt32 31)).toInt32)
theorem bc_ok : ∀ b, b < 1024 → bcE (bcD (bcC (bcB (bcA (nI b))))) &&& 63 = nI (popc b) := by decide +kernel
set_option maxRecDepth 100000 in
set_option maxHeartbeats 4000000 in
theorem t_J_bitCount (E : mE) (d : Nat) (hd : 0 ≤ d) (w : mw) (b : Nat) (hb : b < 1024) : Td E d m_J_bitCount [vi (nI b)] w (nI (popc b)) w := by
  refine ⟨Nat.le_of_ble_eq_true rfl, ?_⟩
  show Wp E d m_J_bitCount 0 [li (nI b)] [] w _
  refine Wp_iload_n d_J_bitCount_0 rfl ?_
  refine Wp_iload_n d_J_bitCount_1 rfl ?_
  refine Wp_iconst (x := 1) d_J_bitCount_2 (by decide) ?_
  refine Wp_iushr d_J_bitCount_3 ?_
  refine Wp_ldcw (x := 1431655765) d_J_bitCount_4 kc_J_265 ?_
  refine Wp_iand d_J_bitCount_7 ?_
  refine Wp_isub d_J_bitCount_8 ?_
  refine Wp_eqi (x2 := bcA (nI b)) rfl ?_
  refine Wp_istore_n (ls2 := [li (bcA (nI b))]) d_J_bitCount_9 rfl rfl rfl ?_
  refine Wp_iload_n d_J_bitCount_10 rfl ?_
  refine Wp_ldcw (x := 858993459) d_J_bitCount_11 kc_J_266 ?_
  refine Wp_iand d_J_bitCount_14 ?_
  refine Wp_iload_n d_J_bitCount_15 rfl ?_
  refine Wp_iconst (x := 2) d_J_bitCount_16 (by decide) ?_
  refine Wp_iushr d_J_bitCount_17 ?_
  refine Wp_ldcw (x := 858993459) d_J_bitCount_18 kc_J_266 ?_
  refine Wp_iand d_J_bitCount_21 ?_
  refine Wp_iadd d_J_bitCount_22 ?_
  refine Wp_eqi (x2 := bcB (bcA (nI b))) rfl ?_
  refine Wp_istore_n (ls2 := [li (bcB (bcA (nI b)))]) d_J_bitCount_23 rfl rfl rfl ?_
  refine Wp_iload_n d_J_bitCount_24 rfl ?_
  refine Wp_iload_n d_J_bitCount_25 rfl ?_
  refine Wp_iconst (x := 4) d_J_bitCount_26 (by decide) ?_
  refine Wp_iushr d_J_bitCount_27 ?_
  refine Wp_iadd d_J_bitCount_28 ?_
  refine Wp_ldcw (x := 252645135) d_J_bitCount_29 kc_J_267 ?_
  refine Wp_iand d_J_bitCount_32 ?_
  refine Wp_eqi (x2 := bcC (bcB (bcA (nI b)))) rfl ?_
  refine Wp_istore_n (ls2 := [li (bcC (bcB (bcA (nI b))))]) d_J_bitCount_33 rfl rfl rfl ?_
  refine Wp_iload_n d_J_bitCount_34 rfl ?_
  refine Wp_iload_n d_J_bitCount_35 rfl ?_
  refine Wp_bipush (x := 8) d_J_bitCount_36 (by decide) ?_
  refine Wp_iushr d_J_bitCount_38 ?_
  refine Wp_iadd d_J_bitCount_39 ?_
  refine Wp_eqi (x2 := bcD (bcC (bcB (bcA (nI b))))) rfl ?_
  refine Wp_istore_n (ls2 := [li (bcD (bcC (bcB (bcA (nI b)))))]) d_J_bitCount_40 rfl rfl rfl ?_
  refine Wp_iload_n d_J_bitCount_41 rfl ?_
  refine Wp_iload_n d_J_bitCount_42 rfl ?_
  refine Wp_bipush (x := 16) d_J_bitCount_43 (by decide) ?_
  refine Wp_iushr d_J_bitCount_45 ?_
  refine Wp_iadd d_J_bitCount_46 ?_
  refine Wp_eqi (x2 := bcE (bcD (bcC (bcB (bcA (nI b)))))) rfl ?_
  refine Wp_istore_n (ls2 := [li (bcE (bcD (bcC (bcB (bcA (nI b))))))]) d_J_bitCount_47 rfl rfl rfl ?_
  refine Wp_iload_n d_J_bitCount_48 rfl ?_
  refine Wp_bipush (x := 63) d_J_bitCount_49 (by decide) ?_
  refine Wp_iand d_J_bitCount_51 ?_
  refine Wp_eqi (x2 := nI (popc b)) (bc_ok b hb) ?_
  refine Wp_reti (ty := .int) d_J_bitCount_52 rfl rfl ?_
  exact ⟨rfl, rfl⟩
set_option maxRecDepth 100000 in
set_option maxHeartbeats 4000000 in
theorem t_D_lowestBit (E : mE) (d : Nat) (hd : 0 ≤ d) (w : mw) (b : Nat) (h0 : 0 < b) (hb : b < 1024) : Td E d m_D_lowestBit [vi (nI b)] w (nI (lob b)) w := by
  refine ⟨Nat.le_of_ble_eq_true rfl, ?_⟩
  show Wp E d m_D_lowestBit 0 [li (nI b)] [] w _
  refine Wp_iload_n d_D_lowestBit_0 rfl ?_
  refine Wp_iload_n d_D_lowestBit_1 rfl ?_
  refine Wp_ineg d_D_lowestBit_2 ?_
  refine Wp_iand d_D_lowestBit_3 ?_
  refine Wp_eqi (x2 := nI (lob b)) (lobI b hb h0) ?_
  refine Wp_reti (ty := .int) d_D_lowestBit_4 rfl rfl ?_
  exact ⟨rfl, rfl⟩
set_option maxRecDepth 100000 in
set_option maxHeartbeats 4000000 in
theorem t_F_isWithin (E : mE) (d : Nat) (hd : 0 ≤ d) (w : mw) (x a b : Int32) : Tb E d m_F_isWithin [vi x, vi a, vi b] w (a.toInt ≤ x.toInt ∧ x.toInt ≤ b.toInt) := by
  refine ⟨Nat.le_of_ble_eq_true rfl, ?_⟩
  show Wp E d m_F_isWithin 0 [li x, li a, li b] [] w _
  refine Wp_iload_n d_F_isWithin_0 rfl ?_
  refine Wp_iload_n d_F_isWithin_1 rfl ?_
  refine Wp_icmp_lt d_F_isWithin_2 (fun h2 => ?_) (fun h2 => ?_)
  ·
    have g2 : x.toInt < a.toInt := i_lt h2
    refine Wp_iconst (x := 0) d_F_isWithin_14 (by decide) ?_
    refine Wp_reti (ty := .boolean) d_F_isWithin_15 rfl rfl ?_
    exact ⟨Or.inr ⟨rfl, fun q => by omega⟩, rfl⟩
  ·
    have g2 : a.toInt ≤ x.toInt := i_nlt h2
    refine Wp_iload_n d_F_isWithin_5 rfl ?_
    refine Wp_iload_n d_F_isWithin_6 rfl ?_
    refine Wp_icmp_gt d_F_isWithin_7 (fun h7 => ?_) (fun h7 => ?_)
    ·
      have g7 : b.toInt < x.toInt := i_lt h7
      refine Wp_iconst (x := 0) d_F_isWithin_14 (by decide) ?_
      refine Wp_reti (ty := .boolean) d_F_isWithin_15 rfl rfl ?_
      exact ⟨Or.inr ⟨rfl, fun q => by omega⟩, rfl⟩
    ·
      have g7 : x.toInt ≤ b.toInt := i_nlt h7
      refine Wp_iconst (x := 1) d_F_isWithin_10 (by decide) ?_
      refine Wp_goto d_F_isWithin_11 ?_
      refine Wp_reti (ty := .boolean) d_F_isWithin_15 rfl rfl ?_
      exact ⟨Or.inl ⟨rfl, ⟨by omega, by omega⟩⟩, rfl⟩
set_option maxRecDepth 100000 in
set_option maxHeartbeats 4000000 in
theorem t_F_isForm (E : mE) (d : Nat) (hd : 1 ≤ d) (w : mw) (x : Int32) : Tb E d m_F_isForm [vi x] w (0 ≤ x.toInt ∧ x.toInt ≤ 2) := by
  refine ⟨Nat.le_of_ble_eq_true rfl, ?_⟩
  show Wp E d m_F_isForm 0 [li x] [] w _
  refine Wp_iload_n d_F_isForm_0 rfl ?_
  refine Wp_iconst (x := 0) d_F_isForm_1 (by decide) ?_
  refine Wp_iconst (x := 2) d_F_isForm_2 (by decide) ?_
  refine Wp_ivs_b (As := [vi x, vi 0, vi 2]) d_F_isForm_3 ln_F_59 mk_F_isWithin rfl rfl rfl (by omega) (t_F_isWithin E (d - 1) (by omega) w x 0 2) (fun g3 => ?_) (fun g3 => ?_)
  ·
    refine Wp_reti (ty := .boolean) d_F_isForm_6 rfl rfl ?_
    exact ⟨Or.inl ⟨rfl, g3⟩, rfl⟩
  ·
    refine Wp_reti (ty := .boolean) d_F_isForm_6 rfl rfl ?_
    exact ⟨Or.inr ⟨rfl, g3⟩, rfl⟩
set_option maxRecDepth 100000 in
set_option maxHeartbeats 4000000 in
theorem t_F_isNumber (E : mE) (d : Nat) (hd : 1 ≤ d) (w : mw) (x : Int32) : Tb E d m_F_isNumber [vi x] w (0 ≤ x.toInt ∧ x.toInt ≤ 9) := by
  refine ⟨Nat.le_of_ble_eq_true rfl, ?_⟩
  show Wp E d m_F_isNumber 0 [li x] [] w _
  refine Wp_iload_n d_F_isNumber_0 rfl ?_
  refine Wp_iconst (x := 0) d_F_isNumber_1 (by decide) ?_
  refine Wp_bipush (x := 9) d_F_isNumber_2 (by decide) ?_
  refine Wp_ivs_b (As := [vi x, vi 0, vi 9]) d_F_isNumber_4 ln_F_59 mk_F_isWithin rfl rfl rfl (by omega) (t_F_isWithin E (d - 1) (by omega) w x 0 9) (fun g4 => ?_) (fun g4 => ?_)
  ·
    refine Wp_reti (ty := .boolean) d_F_isNumber_7 rfl rfl ?_
    exact ⟨Or.inl ⟨rfl, g4⟩, rfl⟩
  ·
    refine Wp_reti (ty := .boolean) d_F_isNumber_7 rfl rfl ?_
    exact ⟨Or.inr ⟨rfl, g4⟩, rfl⟩
set_option maxRecDepth 100000 in
set_option maxHeartbeats 4000000 in
theorem t_F_isSheet (E : mE) (d : Nat) (hd : 1 ≤ d) (w : mw) (x : Int32) : Tb E d m_F_isSheet [vi x] w (0 ≤ x.toInt ∧ x.toInt ≤ 3) := by
  refine ⟨Nat.le_of_ble_eq_true rfl, ?_⟩
  show Wp E d m_F_isSheet 0 [li x] [] w _
  refine Wp_iload_n d_F_isSheet_0 rfl ?_
  refine Wp_iconst (x := 0) d_F_isSheet_1 (by decide) ?_
  refine Wp_iconst (x := 3) d_F_isSheet_2 (by decide) ?_
  refine Wp_ivs_b (As := [vi x, vi 0, vi 3]) d_F_isSheet_3 ln_F_59 mk_F_isWithin rfl rfl rfl (by omega) (t_F_isWithin E (d - 1) (by omega) w x 0 3) (fun g3 => ?_) (fun g3 => ?_)
  ·
    refine Wp_reti (ty := .boolean) d_F_isSheet_6 rfl rfl ?_
    exact ⟨Or.inl ⟨rfl, g3⟩, rfl⟩
  ·
    refine Wp_reti (ty := .boolean) d_F_isSheet_6 rfl rfl ?_
    exact ⟨Or.inr ⟨rfl, g3⟩, rfl⟩
set_option maxRecDepth 100000 in
set_option maxHeartbeats 4000000 in
theorem t_F_anyBad (E : mE) (d : Nat) (hd : 0 ≤ d) (w : mw)  : Td E d m_F_anyNumberRefusal [vi (-2)] w (-1002) w := by
  refine ⟨Nat.le_of_ble_eq_true rfl, ?_⟩
  show Wp E d m_F_anyNumberRefusal 0 [li (-2)] [] w _
  refine Wp_sipush (x := (-1000)) d_F_anyNumberRefusal_0 (by decide) ?_
  refine Wp_iload_n d_F_anyNumberRefusal_3 rfl ?_
  refine Wp_iadd d_F_anyNumberRefusal_4 ?_
  refine Wp_eqi (x2 := (-1002)) (by decide) ?_
  refine Wp_reti (ty := .int) d_F_anyNumberRefusal_5 rfl rfl ?_
  exact ⟨rfl, rfl⟩
set_option maxRecDepth 100000 in
set_option maxHeartbeats 4000000 in
theorem t_F_anyNot (E : mE) (d : Nat) (hd : 0 ≤ d) (w : mw)  : Td E d m_F_anyNumberRefusal [vi (-3)] w (-1003) w := by
  refine ⟨Nat.le_of_ble_eq_true rfl, ?_⟩
  show Wp E d m_F_anyNumberRefusal 0 [li (-3)] [] w _
  refine Wp_sipush (x := (-1000)) d_F_anyNumberRefusal_0 (by decide) ?_
  refine Wp_iload_n d_F_anyNumberRefusal_3 rfl ?_
  refine Wp_iadd d_F_anyNumberRefusal_4 ?_
  refine Wp_eqi (x2 := (-1003)) (by decide) ?_
  refine Wp_reti (ty := .int) d_F_anyNumberRefusal_5 rfl rfl ?_
  exact ⟨rfl, rfl⟩
