set_option maxRecDepth 100000 in
set_option maxHeartbeats 4000000 in
theorem t_M_isPerson (E : mE) (d : Nat) (hd : 3 ≤ d) (w : mw) (S : mw) (hM : MM w S) (hV : VM S) (p : Int32) : Ti E d m_M_isPerson [vr 33, vi p] w (fun r w1 => ((r = 1 ∧ (0 ≤ p.toInt ∧ p.toInt < pN S)) ∨ (r = 0 ∧ ¬ (0 ≤ p.toInt ∧ p.toInt < pN S))) ∧ MP w1 S ∧ frF w w1) := by
  refine ⟨Nat.le_of_ble_eq_true rfl, ?_⟩
  show Wp E d m_M_isPerson 0 [lr 33, li p] [] w _
  refine Wp_aload_n d_M_isPerson_0 rfl ?_
  refine Wp_ivv_i (o := 33) (As := []) d_M_isPerson_1 ln_M_143 mk_M_reads rfl rfl rfl rfl rfl (by omega) (t_M_reads E (d - 1) (by omega) w S hM hV) (fun r1 w1 c1 => ?_)
  obtain ⟨hF, hP, fP⟩ := c1
  refine Wp_pop d_M_isPerson_4 rfl ?_
  refine Wp_iload_n d_M_isPerson_5 rfl ?_
  refine Wp_i2l d_M_isPerson_6 ?_
  refine Wp_lconst (x := 0) d_M_isPerson_7 (by decide) ?_
  refine Wp_aload_n d_M_isPerson_8 rfl ?_
  refine Wp_getf d_M_isPerson_9 fd_M_125 rfl rfl rfl ?_
  refine Wp_eqi (x2 := nI (pN S)) hP.2.1 ?_
  refine Wp_iconst (x := 1) d_M_isPerson_12 (by decide) ?_
  refine Wp_isub d_M_isPerson_13 ?_
  refine Wp_i2l d_M_isPerson_14 ?_
  refine Wp_ivs_b (As := [vl p.toInt64, vl 0, vl (((nI (pN S)) - 1).toInt64)]) d_M_isPerson_15 ln_M_88 mk_M_in rfl rfl rfl (by omega) (t_M_inI E (d - 1) w1 (x := p) (lo := 0) (hi := (pN S : Int) - 1) (by decide) (by rw [Int32.toInt_toInt64]; exact subn _ (by have := (pN_ok S).1; omega))) (fun g15 => ?_) (fun g15 => ?_)
  ·
    refine Wp_reti (ty := .boolean) d_M_isPerson_18 rfl rfl ?_
    exact ⟨Or.inl ⟨rfl, ⟨g15.1, by omega⟩⟩, hP, fP⟩
  ·
    refine Wp_reti (ty := .boolean) d_M_isPerson_18 rfl rfl ?_
    exact ⟨Or.inr ⟨rfl, fun q => g15 ⟨q.1, by omega⟩⟩, hP, fP⟩
set_option maxRecDepth 100000 in
set_option maxHeartbeats 4000000 in
theorem t_M_person (E : mE) (d : Nat) (hd : 4 ≤ d) (w : mw) (S : mw) (hM : MM w S) (hV : VM S) (p a : Int32) : Ti E d m_M_person [vr 33, vi p, vi a] w (fun r w1 => r = rPerson S p a ∧ MP w1 S ∧ frF w w1) := by
  refine ⟨Nat.le_of_ble_eq_true rfl, ?_⟩
  show Wp E d m_M_person 0 [lr 33, li p, li a] [] w _
  have hp10 := (pN_ok S).1
  refine Wp_aload_n d_M_person_0 rfl ?_
  refine Wp_iload_n d_M_person_1 rfl ?_
  refine Wp_ivv_i (o := 33) (As := [vi p]) d_M_person_2 ln_M_148 mk_M_isPerson rfl rfl rfl rfl rfl (by omega) (t_M_isPerson E (d - 1) (by omega) w S hM hV p) (fun r2 w2 c2 => ?_)
  obtain ⟨gP, hP, fP⟩ := c2
  rcases gP with ⟨j2, gP⟩ | ⟨j2, gP⟩
  ·
    rw [j2]
    obtain ⟨j, hj, rfl⟩ : ∃ j, j < pN S ∧ p = nI j := i_nIof gP.1 gP.2
    refine Wp_if_eq d_M_person_5 (fun q => absurd q (by decide)) (fun _ => ?_)
    refine Wp_iload_n d_M_person_8 rfl ?_
    refine Wp_ivs_b (As := [vi a]) d_M_person_9 ln_M_151 mk_M_isTwo rfl rfl rfl (by omega) (t_M_isTwo E (d - 1) (by omega) w2 a) (fun g9 => ?_) (fun g9 => ?_)
    ·
      refine Wp_if_eq d_M_person_12 (fun q => absurd q (by decide)) (fun _ => ?_)
      refine Wp_iload_n d_M_person_15 rfl ?_
      refine Wp_if_ne d_M_person_16 (fun h16 => ?_) (fun h16 => ?_)
      ·
        have g16 : a.toInt ≠ 0 := i_ne h16
        refine Wp_aload_n d_M_person_28 rfl ?_
        refine Wp_iload_n d_M_person_29 rfl ?_
        refine Wp_ivv_d (o := 33) (As := [vi (nI j)]) d_M_person_30 ln_M_154 mk_M_toldOf rfl rfl rfl rfl rfl (by omega) (t_M_toldOf E (d - 1) (by omega) w2 S hP hV j (by omega)) ?_
        refine Wp_goto d_M_person_33 ?_
        refine Wp_reti (ty := .int) d_M_person_38 rfl rfl ?_
        have e9 : rPerson S (nI j) a = nI (tld S j) := by unfold rPerson; rw [if_pos (by have := ti (show j < 2147483648 by have := (pN_ok S).1; omega); omega), if_neg (by assumption), cl (by have := (pN_ok S).1; omega)]
        exact ⟨e9.symm, hP, fP⟩
      ·
        refine Wp_aload_n d_M_person_19 rfl ?_
        refine Wp_getr d_M_person_20 fd_M_25 rfl rfl rfl ?_
        refine Wp_iload_n d_M_person_23 rfl ?_
        refine Wp_ialdN (j := j) d_M_person_24 rfl rfl rfl rfl (by omega) ?_
        refine Wp_eqi (x2 := nI (pA S j)) (hP.2.2 _ (by omega)) ?_
        refine Wp_goto d_M_person_25 ?_
        refine Wp_reti (ty := .int) d_M_person_38 rfl rfl ?_
        have e9 : rPerson S (nI j) a = nI (pA S j) := by unfold rPerson; rw [if_pos (by have := ti (show j < 2147483648 by have := (pN_ok S).1; omega); omega), if_pos (by assumption), cl (by have := (pN_ok S).1; omega)]
        exact ⟨e9.symm, hP, fP⟩
    ·
      refine Wp_if_eq d_M_person_12 (fun _ => ?_) (fun q => absurd (by decide) q)
      refine Wp_bipush (x := (-2)) d_M_person_36 (by decide) ?_
      refine Wp_reti (ty := .int) d_M_person_38 rfl rfl ?_
      have e9 : rPerson S (nI j) a = -2 := by unfold rPerson; rw [if_neg (by omega)]
      exact ⟨e9.symm, hP, fP⟩
  ·
    rw [j2]
    refine Wp_if_eq d_M_person_5 (fun _ => ?_) (fun q => absurd (by decide) q)
    refine Wp_bipush (x := (-2)) d_M_person_36 (by decide) ?_
    refine Wp_reti (ty := .int) d_M_person_38 rfl rfl ?_
    have e9 : rPerson S p a = -2 := by unfold rPerson; rw [if_neg (by omega)]
    exact ⟨e9.symm, hP, fP⟩
set_option maxRecDepth 100000 in
set_option maxHeartbeats 4000000 in
theorem t_M_fault (E : mE) (d : Nat) (hd : 3 ≤ d) (w : mw) (S : mw) (hM : MM w S) (hV : VM S) : Ti E d m_M_fault [vr 33] w (fun r w1 => r = pF S ∧ MP w1 S ∧ frF w w1) := by
  refine ⟨Nat.le_of_ble_eq_true rfl, ?_⟩
  show Wp E d m_M_fault 0 [lr 33] [] w _
  refine Wp_aload_n d_M_fault_0 rfl ?_
  refine Wp_ivv_i (o := 33) (As := []) d_M_fault_1 ln_M_143 mk_M_reads rfl rfl rfl rfl rfl (by omega) (t_M_reads E (d - 1) (by omega) w S hM hV) (fun r1 w1 c1 => ?_)
  obtain ⟨hF, hP, fP⟩ := c1
  refine Wp_reti (ty := .int) d_M_fault_4 rfl rfl ?_
  exact ⟨hF, hP, fP⟩
set_option maxRecDepth 100000 in
set_option maxHeartbeats 4000000 in
theorem t_M_boat (E : mE) (d : Nat) (hd : 3 ≤ d) (w : mw) (S : mw) (hM : MM w S) (hV : VM S) (b a : Int32) : Ti E d m_M_boat [vr 33, vi b, vi a] w (fun r w1 => r = rBoat S b a ∧ MP w1 S ∧ frF w w1) := by
  refine ⟨Nat.le_of_ble_eq_true rfl, ?_⟩
  show Wp E d m_M_boat 0 [lr 33, li b, li a] [] w _
  have hp10 := (pN_ok S).1
  have hlt := two10 hp10
  have hwl := wh_lt S
  have hwe := wh_1 S
  refine Wp_aload_n d_M_boat_0 rfl ?_
  refine Wp_ivv_i (o := 33) (As := []) d_M_boat_1 ln_M_143 mk_M_reads rfl rfl rfl rfl rfl (by omega) (t_M_reads E (d - 1) (by omega) w S hM hV) (fun r1 w1 c1 => ?_)
  obtain ⟨hF, hP, fP⟩ := c1
  refine Wp_pop d_M_boat_4 rfl ?_
  refine Wp_iload_n d_M_boat_5 rfl ?_
  refine Wp_i2l d_M_boat_6 ?_
  refine Wp_lconst (x := 1) d_M_boat_7 (by decide) ?_
  refine Wp_aload_n d_M_boat_8 rfl ?_
  refine Wp_ivv_d (o := 33) (As := []) d_M_boat_9 ln_M_184 mk_M_whole rfl rfl rfl rfl rfl (by omega) (t_M_whole E (d - 1) (by omega) w1 S hP hV) ?_
  refine Wp_i2l d_M_boat_12 ?_
  refine Wp_ivs_b (As := [vl b.toInt64, vl 1, vl ((nI (wh S)).toInt64)]) d_M_boat_13 ln_M_88 mk_M_in rfl rfl rfl (by omega) (t_M_inI E (d - 1) w1 (x := b) (lo := 1) (hi := (wh S : Int)) (by decide) (by rw [Int32.toInt_toInt64]; exact ti (by have := wh_lt S; omega))) (fun g13 => ?_) (fun g13 => ?_)
  ·
    obtain ⟨b1, hb1, rfl⟩ : ∃ q, q < wh S + 1 ∧ b = nI q := i_nIof (by omega) (by omega)
    have hb2 := ti (show b1 < 2147483648 by omega)
    rw [hb2] at g13
    refine Wp_if_eq d_M_boat_16 (fun q => absurd q (by decide)) (fun _ => ?_)
    refine Wp_iload_n d_M_boat_19 rfl ?_
    refine Wp_ivs_b (As := [vi a]) d_M_boat_20 ln_M_151 mk_M_isTwo rfl rfl rfl (by omega) (t_M_isTwo E (d - 1) (by omega) w1 a) (fun g20 => ?_) (fun g20 => ?_)
    ·
      refine Wp_if_ne d_M_boat_23 (fun _ => ?_) (fun q => absurd q (by decide))
      refine Wp_iload_n d_M_boat_29 rfl ?_
      refine Wp_if_ne d_M_boat_30 (fun h30 => ?_) (fun h30 => ?_)
      ·
        have g30 : a.toInt ≠ 0 := i_ne h30
        refine Wp_aload_n d_M_boat_41 rfl ?_
        refine Wp_iload_n d_M_boat_42 rfl ?_
        refine Wp_ivv_d (o := 33) (As := [vi (nI b1)]) d_M_boat_43 ln_M_181 mk_M_fareOf rfl rfl rfl rfl rfl (by omega) (t_M_fareOf E (d - 1) (by omega) w1 S hP hV b1 (by omega) (by omega)) ?_
        refine Wp_reti (ty := .int) d_M_boat_46 rfl rfl ?_
        have e9 : rBoat S (nI b1) a = nI (fareS S b1) := by unfold rBoat; rw [if_pos (by omega), if_neg (by assumption), cl (by omega)]
        exact ⟨e9.symm, hP, fP⟩
      ·
        refine Wp_aload_n d_M_boat_33 rfl ?_
        refine Wp_iload_n d_M_boat_34 rfl ?_
        refine Wp_ivv_d (o := 33) (As := [vi (nI b1)]) d_M_boat_35 ln_M_190 mk_M_costOf rfl rfl rfl rfl rfl (by omega) (t_M_costOf E (d - 1) (by omega) w1 S hP hV b1 (by omega) (by omega)) ?_
        refine Wp_goto d_M_boat_38 ?_
        refine Wp_reti (ty := .int) d_M_boat_46 rfl rfl ?_
        have e9 : rBoat S (nI b1) a = nI (costS S b1) := by unfold rBoat; rw [if_pos (by omega), if_pos (by assumption), cl (by omega)]
        exact ⟨e9.symm, hP, fP⟩
    ·
      refine Wp_if_ne d_M_boat_23 (fun q => absurd q (by decide)) (fun _ => ?_)
      refine Wp_bipush (x := (-2)) d_M_boat_26 (by decide) ?_
      refine Wp_reti (ty := .int) d_M_boat_28 rfl rfl ?_
      have e9 : rBoat S (nI b1) a = -2 := by unfold rBoat; rw [if_neg (by omega)]
      exact ⟨e9.symm, hP, fP⟩
  ·
    refine Wp_if_eq d_M_boat_16 (fun _ => ?_) (fun q => absurd (by decide) q)
    refine Wp_bipush (x := (-2)) d_M_boat_26 (by decide) ?_
    refine Wp_reti (ty := .int) d_M_boat_28 rfl rfl ?_
    have e9 : rBoat S b a = -2 := by unfold rBoat; rw [if_neg (by omega)]
    exact ⟨e9.symm, hP, fP⟩
set_option maxRecDepth 100000 in
set_option maxHeartbeats 4000000 in
theorem t_M_dayOf (E : mE) (d : Nat) (hd : 2 ≤ d) (w : mw) (S : mw) (hB : MB w S) (hV : VM S) (s : Nat) (hs : s < 2 ^ pN S) (a : Int32) : Ti E d m_M_dayOf [vr 33, vi (nI s), vi a] w (fun r w1 => r = dayR S s a ∧ fr [49, 50, 51, 52] w w1) := by
  refine ⟨Nat.le_of_ble_eq_true rfl, ?_⟩
  show Wp E d m_M_dayOf 0 [lr 33, li (nI s), li a] [] w _
  have hp10 := (pN_ok S).1
  have hlt := two10 hp10
  have hdb := (dvB_1 (DC_okk hV hs)).2.2.2
  refine Wp_aload_n d_M_dayOf_0 rfl ?_
  refine Wp_iload_n d_M_dayOf_1 rfl ?_
  refine Wp_ivv_v (o := 33) (As := [vi (nI s)]) d_M_dayOf_2 ln_M_197 mk_M_findDay rfl rfl rfl rfl rfl (by omega) (t_M_findDay E (d - 1) (by omega) w S hB hV s (by omega)) (fun w2 c2 => ?_)
  obtain ⟨hD, fD⟩ := c2
  have hR := hD s (Nat.le_refl _) (Nat.and_self _)
  rw [DD_self hV (by omega)] at hR
  refine Wp_aload_n d_M_dayOf_5 rfl ?_
  refine Wp_getr d_M_dayOf_6 fd_M_65 rfl rfl rfl ?_
  refine Wp_iload_n d_M_dayOf_9 rfl ?_
  refine Wp_ialdN (j := s) d_M_dayOf_10 rfl rfl rfl rfl (by omega) ?_
  refine Wp_eqi (x2 := m1v (DC S s).2.2.2) hR.2.2.2 ?_
  refine Wp_if_ge d_M_dayOf_11 (fun h11 => ?_) (fun h11 => ?_)
  ·
    have hm : (DC S s).2.2.2 ≠ 0 := fun q => by have := (m1v_lt _ (by omega)).mpr q; have := i_le h11; have h0 : Int32.toInt 0 = 0 := rfl; omega
    refine Wp_iload_n d_M_dayOf_18 rfl ?_
    refine Wp_if_ne d_M_dayOf_19 (fun h19 => ?_) (fun h19 => ?_)
    ·
      have g19 : a.toInt ≠ 0 := i_ne h19
      refine Wp_iload_n d_M_dayOf_31 rfl ?_
      refine Wp_iconst (x := 1) d_M_dayOf_32 (by decide) ?_
      refine Wp_icmp_ne d_M_dayOf_33 (fun h33 => ?_) (fun h33 => ?_)
      ·
        have g33 : a.toInt ≠ 1 := i_ne h33
        refine Wp_aload_n d_M_dayOf_45 rfl ?_
        refine Wp_getr d_M_dayOf_46 fd_M_65 rfl rfl rfl ?_
        refine Wp_iload_n d_M_dayOf_49 rfl ?_
        refine Wp_ialdN (j := s) d_M_dayOf_50 rfl rfl rfl rfl (by omega) ?_
        refine Wp_eqi (x2 := m1v (DC S s).2.2.2) hR.2.2.2 ?_
        refine Wp_reti (ty := .int) d_M_dayOf_51 rfl rfl ?_
        refine ⟨?_, fD⟩
        unfold dayR; rw [if_neg hm, if_neg (by assumption), if_neg (by assumption)]
        unfold m1v; rw [if_neg hm]
      ·
        refine Wp_aload_n d_M_dayOf_36 rfl ?_
        refine Wp_getr d_M_dayOf_37 fd_M_59 rfl rfl rfl ?_
        refine Wp_iload_n d_M_dayOf_40 rfl ?_
        refine Wp_ialdN (j := s) d_M_dayOf_41 rfl rfl rfl rfl (by omega) ?_
        refine Wp_eqi (x2 := nI (DC S s).2.1) hR.2.1 ?_
        refine Wp_goto d_M_dayOf_42 ?_
        refine Wp_reti (ty := .int) d_M_dayOf_51 rfl rfl ?_
        refine ⟨?_, fD⟩
        unfold dayR; rw [if_neg hm, if_neg (by assumption), if_pos (by assumption)]
    ·
      refine Wp_aload_n d_M_dayOf_22 rfl ?_
      refine Wp_getr d_M_dayOf_23 fd_M_56 rfl rfl rfl ?_
      refine Wp_iload_n d_M_dayOf_26 rfl ?_
      refine Wp_ialdN (j := s) d_M_dayOf_27 rfl rfl rfl rfl (by omega) ?_
      refine Wp_eqi (x2 := nI (DC S s).1) hR.1 ?_
      refine Wp_goto d_M_dayOf_28 ?_
      refine Wp_reti (ty := .int) d_M_dayOf_51 rfl rfl ?_
      refine ⟨?_, fD⟩
      unfold dayR; rw [if_neg hm, if_pos (by assumption)]
  ·
    have hm : (DC S s).2.2.2 = 0 := (m1v_lt _ (by omega)).mp (by have := i_nle h11; have h0 : Int32.toInt 0 = 0 := rfl; omega)
    refine Wp_iconst (x := (-1)) d_M_dayOf_14 (by decide) ?_
    refine Wp_goto d_M_dayOf_15 ?_
    refine Wp_reti (ty := .int) d_M_dayOf_51 rfl rfl ?_
    refine ⟨?_, fD⟩
    unfold dayR; rw [if_pos hm]
set_option maxRecDepth 100000 in
set_option maxHeartbeats 4000000 in
theorem t_M_day (E : mE) (d : Nat) (hd : 4 ≤ d) (w : mw) (S : mw) (hM : MM w S) (hV : VM S) (b a : Int32) : Ti E d m_M_day [vr 33, vi b, vi a] w (fun r w1 => r = rDay S b a ∧ MP w1 S ∧ fr mRows w w1) := by
  refine ⟨Nat.le_of_ble_eq_true rfl, ?_⟩
  show Wp E d m_M_day 0 [lr 33, li b, li a] [] w _
  have hp10 := (pN_ok S).1
  have hlt := two10 hp10
  have hwl := wh_lt S
  have hwe := wh_1 S
  refine Wp_aload_n d_M_day_0 rfl ?_
  refine Wp_ivv_i (o := 33) (As := []) d_M_day_1 ln_M_143 mk_M_reads rfl rfl rfl rfl rfl (by omega) (t_M_reads E (d - 1) (by omega) w S hM hV) (fun r1 w1 c1 => ?_)
  obtain ⟨hF, hP, fP⟩ := c1
  refine Wp_pop d_M_day_4 rfl ?_
  refine Wp_iload_n d_M_day_5 rfl ?_
  refine Wp_i2l d_M_day_6 ?_
  refine Wp_lconst (x := 0) d_M_day_7 (by decide) ?_
  refine Wp_aload_n d_M_day_8 rfl ?_
  refine Wp_ivv_d (o := 33) (As := []) d_M_day_9 ln_M_184 mk_M_whole rfl rfl rfl rfl rfl (by omega) (t_M_whole E (d - 1) (by omega) w1 S hP hV) ?_
  refine Wp_i2l d_M_day_12 ?_
  refine Wp_ivs_b (As := [vl b.toInt64, vl 0, vl ((nI (wh S)).toInt64)]) d_M_day_13 ln_M_88 mk_M_in rfl rfl rfl (by omega) (t_M_inI E (d - 1) w1 (x := b) (lo := 0) (hi := (wh S : Int)) (by decide) (by rw [Int32.toInt_toInt64]; exact ti (by have := wh_lt S; omega))) (fun g13 => ?_) (fun g13 => ?_)
  ·
    obtain ⟨b1, hb1, rfl⟩ : ∃ q, q < wh S + 1 ∧ b = nI q := i_nIof (by omega) (by omega)
    have hb2 := ti (show b1 < 2147483648 by omega)
    rw [hb2] at g13
    refine Wp_if_eq d_M_day_16 (fun q => absurd q (by decide)) (fun _ => ?_)
    refine Wp_iload_n d_M_day_19 rfl ?_
    refine Wp_i2l d_M_day_20 ?_
    refine Wp_lconst (x := 0) d_M_day_21 (by decide) ?_
    refine Wp_ldc2 (x := 2) d_M_day_22 kl_M_102 ?_
    refine Wp_ivs_b (As := [vl a.toInt64, vl 0, vl 2]) d_M_day_25 ln_M_88 mk_M_in rfl rfl rfl (by omega) (t_M_inI E (d - 1) w1 (x := a) (lo := 0) (hi := 2) (by decide) (by decide)) (fun g25 => ?_) (fun g25 => ?_)
    ·
      refine Wp_if_ne d_M_day_28 (fun _ => ?_) (fun q => absurd q (by decide))
      refine Wp_aload_n d_M_day_34 rfl ?_
      refine Wp_ivv_v (o := 33) (As := []) d_M_day_35 ln_M_201 mk_M_findBoats rfl rfl rfl rfl rfl (by omega) (t_M_findBoats E (d - 1) (by omega) w1 S hP hV) (fun w35 c35 => ?_)
      obtain ⟨hB, fB⟩ := c35
      refine Wp_aload_n d_M_day_38 rfl ?_
      refine Wp_iload_n d_M_day_39 rfl ?_
      refine Wp_iload_n d_M_day_40 rfl ?_
      refine Wp_ivv_i (o := 33) (As := [vi (nI b1), vi a]) d_M_day_41 ln_M_204 mk_M_dayOf rfl rfl rfl rfl rfl (by omega) (t_M_dayOf E (d - 1) (by omega) w35 S hB hV b1 (by omega) a) (fun r41 w41 c41 => ?_)
      obtain ⟨rD, fD⟩ := c41
      rw [rD]
      refine Wp_reti (ty := .int) d_M_day_44 rfl rfl ?_
      have e9 : rDay S (nI b1) a = dayR S b1 a := by unfold rDay; rw [if_pos (by omega), cl (by omega)]
      exact ⟨e9.symm, MP_s hP (fr_tr (fr_sub fB (by decide)) (fr_sub fD (by decide))), fr_tr (frF_m fP) (fr_tr (fr_sub fB (by decide)) (fr_sub fD (by decide)))⟩
    ·
      refine Wp_if_ne d_M_day_28 (fun q => absurd q (by decide)) (fun _ => ?_)
      refine Wp_bipush (x := (-2)) d_M_day_31 (by decide) ?_
      refine Wp_reti (ty := .int) d_M_day_33 rfl rfl ?_
      have e9 : rDay S (nI b1) a = -2 := by unfold rDay; rw [if_neg (by omega)]
      exact ⟨e9.symm, hP, frF_m fP⟩
  ·
    refine Wp_if_eq d_M_day_16 (fun _ => ?_) (fun q => absurd (by decide) q)
    refine Wp_bipush (x := (-2)) d_M_day_31 (by decide) ?_
    refine Wp_reti (ty := .int) d_M_day_33 rfl rfl ?_
    have e9 : rDay S b a = -2 := by unfold rDay; rw [if_neg (by omega)]
    exact ⟨e9.symm, hP, frF_m fP⟩
set_option maxRecDepth 100000 in
set_option maxHeartbeats 4000000 in
theorem l_M_bw (E : mE) (d : Nat) (hd : 1 ≤ d) (w S : mw) (hV : VM S) (hD : MD w S (wh S)) (p : Nat) (hp : p < pN S) : ∀ (f x : Nat), popc x ≤ f → x < 2 ^ pN S → x.testBit p = true → (DC S x).2.2.2 ≠ 0 → closed S (wh S) x → Wp E d m_M_boatWith 16 [lr 33, li (nI p), li (nI x)] [] w (mPi (fun r w1 => r = nI (bwS S p f x) ∧ w1 = w)) := by
  intro f
  have hp10 := (pN_ok S).1
  have hlt := two10 hp10
  have hwl := wh_lt S
  have hwe := wh_1 S
  induction f with
  | zero =>
    intro x hf hx hb h hc
    exfalso
    by_cases h0 : 0 < x
    · exact popc_pos x (by omega) h0 (by omega)
    · rw [show x = 0 by omega, Nat.zero_testBit] at hb; exact absurd hb (by decide)
  | succ f ih =>
    intro x hf hx hb h hc
    have h0 : 0 < x := by
      apply Nat.pos_of_ne_zero
      intro q
      rw [q, Nat.zero_testBit] at hb; exact absurd hb (by decide)
    have hR := hD x (by omega) hc.1
    rw [DD_DC hV (x + 1) x (wh S) (by omega) (by omega) hc] at hR
    obtain ⟨hw, g1, g4, g2, g5⟩ := DC_fst hV hx h0 h
    refine Wp_aload_n d_M_boatWith_16 rfl ?_
    refine Wp_getr d_M_boatWith_17 fd_M_62 rfl rfl rfl ?_
    refine Wp_iload_n d_M_boatWith_20 rfl ?_
    refine Wp_ialdN (j := x) d_M_boatWith_21 rfl rfl rfl rfl (by omega) ?_
    refine Wp_eqi (x2 := nI (DC S x).2.2.1) hR.2.2.1 ?_
    refine Wp_iload_n d_M_boatWith_22 rfl ?_
    refine Wp_ivs_b (As := [vi (nI (DC S x).2.2.1), vi (nI p)]) d_M_boatWith_23 ln_M_177 mk_M_isIn rfl rfl rfl (by omega) (t_M_isIn E (d - 1) (by omega) w (DC S x).2.2.1 p (by omega) (by omega)) (fun g23 => ?_) (fun g23 => ?_)
    ·
      refine Wp_if_ne d_M_boatWith_26 (fun _ => ?_) (fun q => absurd q (by decide))
      refine Wp_aload_n d_M_boatWith_43 rfl ?_
      refine Wp_getr d_M_boatWith_44 fd_M_62 rfl rfl rfl ?_
      refine Wp_iload_n d_M_boatWith_47 rfl ?_
      refine Wp_ialdN (j := x) d_M_boatWith_48 rfl rfl rfl rfl (by omega) ?_
      refine Wp_eqi (x2 := nI (DC S x).2.2.1) hR.2.2.1 ?_
      refine Wp_reti (ty := .int) d_M_boatWith_49 rfl rfl ?_
      refine ⟨?_, rfl⟩
      unfold bwS; rw [if_pos g23]
    ·
      refine Wp_if_ne d_M_boatWith_26 (fun q => absurd q (by decide)) (fun _ => ?_)
      refine Wp_iload_n d_M_boatWith_29 rfl ?_
      refine Wp_aload_n d_M_boatWith_30 rfl ?_
      refine Wp_getr d_M_boatWith_31 fd_M_62 rfl rfl rfl ?_
      refine Wp_iload_n d_M_boatWith_34 rfl ?_
      refine Wp_ialdN (j := x) d_M_boatWith_35 rfl rfl rfl rfl (by omega) ?_
      refine Wp_eqi (x2 := nI (DC S x).2.2.1) hR.2.2.1 ?_
      refine Wp_iconst (x := (-1)) d_M_boatWith_36 (by decide) ?_
      refine Wp_ixor d_M_boatWith_37 ?_
      refine Wp_iand d_M_boatWith_38 ?_
      refine Wp_eqi (x2 := nI (ann x (DC S x).2.2.1)) (anI x (DC S x).2.2.1) ?_
      refine Wp_istore_n (ls2 := [lr 33, li (nI p), li (nI (ann x (DC S x).2.2.1))]) d_M_boatWith_39 rfl rfl rfl ?_
      refine Wp_goto d_M_boatWith_40 ?_
      have e9 : bwS S p (f + 1) x = bwS S p f (ann x (DC S x).2.2.1) := by rw [bwS, if_neg g23]
      rw [e9]
      have hdp := popc_drop (by omega) g1 g4 g5
      exact ih _ (by omega) (by omega) (by rw [tb_ann, hb]; simpa using g23) hw.2.2.1 (closed_ann hV hc (by omega) (by omega) hw.2.1)
set_option maxRecDepth 100000 in
set_option maxHeartbeats 4000000 in
theorem t_M_boatWith (E : mE) (d : Nat) (hd : 1 ≤ d) (w : mw) (S : mw) (hP : MP w S) (hV : VM S) (hD : MD w S (wh S)) (p : Nat) (hp : p < pN S) : Td E d m_M_boatWith [vr 33, vi (nI p)] w (nI (bwR S p)) w := by
  refine ⟨Nat.le_of_ble_eq_true rfl, ?_⟩
  show Wp E d m_M_boatWith 0 [lr 33, li (nI p), lo] [] w _
  have hp10 := (pN_ok S).1
  have hlt := two10 hp10
  have hwl := wh_lt S
  have hwe := wh_1 S
  have hR := hD (wh S) (Nat.le_refl _) (Nat.and_self _)
  rw [DD_self hV (by omega)] at hR
  have hdb := (dvB_1 (DC_okk hV hwl)).2.2.2
  refine Wp_aload_n d_M_boatWith_0 rfl ?_
  refine Wp_ivv_d (o := 33) (As := []) d_M_boatWith_1 ln_M_184 mk_M_whole rfl rfl rfl rfl rfl (by omega) (t_M_whole E (d - 1) (by omega) w S hP hV) ?_
  refine Wp_istore_n (ls2 := [lr 33, li (nI p), li (nI (wh S))]) d_M_boatWith_4 rfl rfl rfl ?_
  refine Wp_aload_n d_M_boatWith_5 rfl ?_
  refine Wp_getr d_M_boatWith_6 fd_M_65 rfl rfl rfl ?_
  refine Wp_iload_n d_M_boatWith_9 rfl ?_
  refine Wp_ialdN (j := (wh S)) d_M_boatWith_10 rfl rfl rfl rfl (by omega) ?_
  refine Wp_eqi (x2 := m1v (DC S (wh S)).2.2.2) hR.2.2.2 ?_
  refine Wp_if_ge d_M_boatWith_11 (fun h11 => ?_) (fun h11 => ?_)
  ·
    have hm : (DC S (wh S)).2.2.2 ≠ 0 := fun q => by have := (m1v_lt _ (by omega)).mpr q; have := i_le h11; have h0 : Int32.toInt 0 = 0 := rfl; omega
    have e9 : bwR S p = bwS S p 10 (wh S) := by unfold bwR; rw [if_neg hm]
    rw [e9]
    exact l_M_bw E d (by omega) w S hV hD p hp 10 (wh S) (popc_le _) hwl (wh_tb hp) hm closed_self
  ·
    have hm : (DC S (wh S)).2.2.2 = 0 := (m1v_lt _ (by omega)).mp (by have := i_nle h11; have h0 : Int32.toInt 0 = 0 := rfl; omega)
    refine Wp_iconst (x := 0) d_M_boatWith_14 (by decide) ?_
    refine Wp_reti (ty := .int) d_M_boatWith_15 rfl rfl ?_
    refine ⟨?_, rfl⟩
    unfold bwR; rw [if_pos hm]; rfl
set_option maxRecDepth 100000 in
set_option maxHeartbeats 4000000 in
theorem t_M_withOf (E : mE) (d : Nat) (hd : 4 ≤ d) (w : mw) (S : mw) (hM : MP w S) (hV : VM S) (j : Nat) (hj : j < pN S) : Ti E d m_M_withOf [vr 33, vi (nI j)] w (fun r w1 => r = withR S j ∧ fr sRows w w1) := by
  refine ⟨Nat.le_of_ble_eq_true rfl, ?_⟩
  show Wp E d m_M_withOf 0 [lr 33, li (nI j), lo] [] w _
  have hp10 := (pN_ok S).1
  have hlt := two10 hp10
  have hwl := wh_lt S
  have hwe := wh_1 S
  have hbw : bwR S j < 2147483648 := by
    by_cases h : bwR S j = 0
    · omega
    · have := (bwR_ok hV hj h).2.1; omega
  refine Wp_aload_n d_M_withOf_0 rfl ?_
  refine Wp_ivv_v (o := 33) (As := []) d_M_withOf_1 ln_M_201 mk_M_findBoats rfl rfl rfl rfl rfl (by omega) (t_M_findBoats E (d - 1) (by omega) w S hM hV) (fun w1 c1 => ?_)
  obtain ⟨hB, fB⟩ := c1
  refine Wp_aload_n d_M_withOf_4 rfl ?_
  refine Wp_aload_n d_M_withOf_5 rfl ?_
  refine Wp_ivv_d (o := 33) (As := []) d_M_withOf_6 ln_M_184 mk_M_whole rfl rfl rfl rfl rfl (by omega) (t_M_whole E (d - 1) (by omega) w1 S hB.1 hV) ?_
  refine Wp_ivv_v (o := 33) (As := [vi (nI (wh S))]) d_M_withOf_9 ln_M_197 mk_M_findDay rfl rfl rfl rfl rfl (by omega) (t_M_findDay E (d - 1) (by omega) w1 S hB hV (wh S) (by omega)) (fun w2 c9 => ?_)
  obtain ⟨hD, fD⟩ := c9
  refine Wp_aload_n d_M_withOf_12 rfl ?_
  refine Wp_iload_n d_M_withOf_13 rfl ?_
  refine Wp_ivv_d (o := 33) (As := [vi (nI j)]) d_M_withOf_14 ln_M_207 mk_M_boatWith rfl rfl rfl rfl rfl (by omega) (t_M_boatWith E (d - 1) (by omega) w2 S (MP_s hB.1 (fr_sub fD (by decide))) hV hD j (by omega)) ?_
  refine Wp_istore_n (ls2 := [lr 33, li (nI j), li (nI (bwR S j))]) d_M_withOf_17 rfl rfl rfl ?_
  refine Wp_iload_n d_M_withOf_18 rfl ?_
  refine Wp_if_ne d_M_withOf_19 (fun h19 => ?_) (fun h19 => ?_)
  ·
    have g19 : (bwR S j) ≠ 0 := n_ne h19 (by omega) (by omega)
    refine Wp_iload_n d_M_withOf_26 rfl ?_
    refine Wp_reti (ty := .int) d_M_withOf_27 rfl rfl ?_
    exact ⟨by unfold withR; rw [if_neg g19], fr_tr (fr_sub fB (by decide)) (fr_sub fD (by decide))⟩
  ·
    have g19 : (bwR S j) = 0 := n_eq h19 (by omega) (by omega)
    refine Wp_iconst (x := (-1)) d_M_withOf_22 (by decide) ?_
    refine Wp_goto d_M_withOf_23 ?_
    refine Wp_reti (ty := .int) d_M_withOf_27 rfl rfl ?_
    exact ⟨by unfold withR; rw [if_pos g19], fr_tr (fr_sub fB (by decide)) (fr_sub fD (by decide))⟩
set_option maxRecDepth 100000 in
set_option maxHeartbeats 4000000 in
theorem t_M_with (E : mE) (d : Nat) (hd : 5 ≤ d) (w : mw) (S : mw) (hM : MM w S) (hV : VM S) (p : Int32) : Ti E d m_M_with [vr 33, vi p] w (fun r w1 => r = rWith S p ∧ MP w1 S ∧ fr mRows w w1) := by
  refine ⟨Nat.le_of_ble_eq_true rfl, ?_⟩
  show Wp E d m_M_with 0 [lr 33, li p] [] w _
  have hp10 := (pN_ok S).1
  have hlt := two10 hp10
  have hwl := wh_lt S
  have hwe := wh_1 S
  refine Wp_aload_n d_M_with_0 rfl ?_
  refine Wp_iload_n d_M_with_1 rfl ?_
  refine Wp_ivv_i (o := 33) (As := [vi p]) d_M_with_2 ln_M_148 mk_M_isPerson rfl rfl rfl rfl rfl (by omega) (t_M_isPerson E (d - 1) (by omega) w S hM hV p) (fun r2 w2 c2 => ?_)
  obtain ⟨gP, hP, fP⟩ := c2
  rcases gP with ⟨j2, gP⟩ | ⟨j2, gP⟩
  ·
    rw [j2]
    obtain ⟨j, hj, rfl⟩ : ∃ j, j < pN S ∧ p = nI j := i_nIof gP.1 gP.2
    refine Wp_if_eq d_M_with_5 (fun q => absurd q (by decide)) (fun _ => ?_)
    refine Wp_aload_n d_M_with_8 rfl ?_
    refine Wp_iload_n d_M_with_9 rfl ?_
    refine Wp_ivv_i (o := 33) (As := [vi (nI j)]) d_M_with_10 ln_M_210 mk_M_withOf rfl rfl rfl rfl rfl (by omega) (t_M_withOf E (d - 1) (by omega) w2 S hP hV j (by omega)) (fun r10 w10 c10 => ?_)
    obtain ⟨rW, fW⟩ := c10
    rw [rW]
    refine Wp_goto d_M_with_13 ?_
    refine Wp_reti (ty := .int) d_M_with_18 rfl rfl ?_
    exact ⟨by unfold rWith; rw [if_pos gP, cl (by omega)], MP_s hP fW, fr_tr (frF_m fP) (fr_sub fW (by decide))⟩
  ·
    rw [j2]
    refine Wp_if_eq d_M_with_5 (fun _ => ?_) (fun q => absurd (by decide) q)
    refine Wp_bipush (x := (-2)) d_M_with_16 (by decide) ?_
    refine Wp_reti (ty := .int) d_M_with_18 rfl rfl ?_
    exact ⟨by unfold rWith; rw [if_neg gP], hP, frF_m fP⟩
