set_option maxHeartbeats 4000000 in
set_option maxRecDepth 100000 in
theorem kc_P_init (D : va_G) (tI : ClassId × ClassId × ClassId) (a0 : Nat) : kMet D tI m_P_init 1 6 90 [.ref a0] [(a0, .inr (1, [.null, .null, .null, .null, .null, .null, .int 0, .int 0, .int 0]))] (fun w1 => ∃ q1 q2 q3 q4 q5 q6 : Nat, w1 = [(a0, .inr (1, [.ref q1, .ref q2, .ref q3, .ref q4, .ref q5, .ref q6, .int 0, .int 0, .int (-1)])), (q1, .inl (tI.1, 40, .inl (fun _ => 0))), (q2, .inl (tI.1, 10, .inl (fun _ => 0))), (q3, .inl (tI.1, 10, .inl (fun _ => 0))), (q4, .inl (tI.1, 10, .inl (upd (upd (upd (upd (upd (upd (upd (upd (upd (upd (fun _ => 0) 0 50) 1 50) 2 50) 3 50) 4 50) 5 50) 6 50) 7 50) 8 50) 9 50))), (q5, .inl (tI.1, 10, .inl (fun _ => 0))), (q6, .inl (tI.1, 10, .inl (fun _ => 0)))]) := by
  refine k_met mk_P_init rfl rfl ?_
  intro p l e s m args below meth c A Z ls C hI hl fin
  have hI : kI D A s [(a0, .inr (1, [.null, .null, .null, .null, .null, .null, .int 0, .int 0, .int 0]))] s.heap [] := hI
  have hl : lv_has ls 2 [(0, .ref a0)] := hl
  refine lv_aload_n C.1 C.2.1 d_P_init_0.1 rfl (lv_at hl 0 rfl) ?_
  refine k_obj (ws := []) C hl d_P_init_1 (lw_in (i := 25) (by decide +kernel)) rfl rfl rfl ?_
  refine lv_aload_n C.1 C.2.1 d_P_init_4.1 rfl (lv_at hl 0 rfl) ?_
  refine lv_bipush (v := 40) C.1 C.2.1 d_P_init_5.1 (by decide) ?_
  refine k_newi (N := 40) (c2 := 1) (z2 := 40) C hI d_P_init_7 (by decide) (by decide) rfl rfl rfl rfl rfl (fun q1 H hI => ?_)
  have hI : kI D A s [(a0, .inr (1, [.null, .null, .null, .null, .null, .null, .int 0, .int 0, .int 0])), (q1, .inl (tI.1, 40, .inl (fun _ => 0)))] H _ := hI
  refine k_putF (ty := .array (.int)) (v := .ref q1) C hI d_P_init_9 kf_P_11 rfl (by decide +kernel) rfl rfl 0 rfl rfl (fun H locs hI => ?_)
  have hI : kI D A s [(a0, .inr (1, [.ref q1, .null, .null, .null, .null, .null, .int 0, .int 0, .int 0])), (q1, .inl (tI.1, 40, .inl (fun _ => 0)))] H _ := hI
  refine lv_aload_n C.1 C.2.1 d_P_init_12.1 rfl (lv_at hl 0 rfl) ?_
  refine lv_bipush (v := 10) C.1 C.2.1 d_P_init_13.1 (by decide) ?_
  refine k_newi (N := 10) (c2 := 2) (z2 := 50) C hI d_P_init_15 (by decide) (by decide) rfl rfl rfl rfl rfl (fun q2 H hI => ?_)
  have hI : kI D A s [(a0, .inr (1, [.ref q1, .null, .null, .null, .null, .null, .int 0, .int 0, .int 0])), (q1, .inl (tI.1, 40, .inl (fun _ => 0))), (q2, .inl (tI.1, 10, .inl (fun _ => 0)))] H _ := hI
  refine k_putF (ty := .array (.int)) (v := .ref q2) C hI d_P_init_17 kf_P_15 rfl (by decide +kernel) rfl rfl 0 rfl rfl (fun H locs hI => ?_)
  have hI : kI D A s [(a0, .inr (1, [.ref q1, .ref q2, .null, .null, .null, .null, .int 0, .int 0, .int 0])), (q1, .inl (tI.1, 40, .inl (fun _ => 0))), (q2, .inl (tI.1, 10, .inl (fun _ => 0)))] H _ := hI
  refine lv_aload_n C.1 C.2.1 d_P_init_20.1 rfl (lv_at hl 0 rfl) ?_
  refine lv_bipush (v := 10) C.1 C.2.1 d_P_init_21.1 (by decide) ?_
  refine k_newi (N := 10) (c2 := 3) (z2 := 60) C hI d_P_init_23 (by decide) (by decide) rfl rfl rfl rfl rfl (fun q3 H hI => ?_)
  have hI : kI D A s [(a0, .inr (1, [.ref q1, .ref q2, .null, .null, .null, .null, .int 0, .int 0, .int 0])), (q1, .inl (tI.1, 40, .inl (fun _ => 0))), (q2, .inl (tI.1, 10, .inl (fun _ => 0))), (q3, .inl (tI.1, 10, .inl (fun _ => 0)))] H _ := hI
  refine k_putF (ty := .array (.int)) (v := .ref q3) C hI d_P_init_25 kf_P_18 rfl (by decide +kernel) rfl rfl 0 rfl rfl (fun H locs hI => ?_)
  have hI : kI D A s [(a0, .inr (1, [.ref q1, .ref q2, .ref q3, .null, .null, .null, .int 0, .int 0, .int 0])), (q1, .inl (tI.1, 40, .inl (fun _ => 0))), (q2, .inl (tI.1, 10, .inl (fun _ => 0))), (q3, .inl (tI.1, 10, .inl (fun _ => 0)))] H _ := hI
  refine lv_aload_n C.1 C.2.1 d_P_init_28.1 rfl (lv_at hl 0 rfl) ?_
  refine lv_bipush (v := 10) C.1 C.2.1 d_P_init_29.1 (by decide) ?_
  refine k_newi (N := 10) (c2 := 4) (z2 := 70) C hI d_P_init_31 (by decide) (by decide) rfl rfl rfl rfl rfl (fun q4 H hI => ?_)
  have hI : kI D A s [(a0, .inr (1, [.ref q1, .ref q2, .ref q3, .null, .null, .null, .int 0, .int 0, .int 0])), (q1, .inl (tI.1, 40, .inl (fun _ => 0))), (q2, .inl (tI.1, 10, .inl (fun _ => 0))), (q3, .inl (tI.1, 10, .inl (fun _ => 0))), (q4, .inl (tI.1, 10, .inl (fun _ => 0)))] H _ := hI
  refine k_putF (ty := .array (.int)) (v := .ref q4) C hI d_P_init_33 kf_P_21 rfl (by decide +kernel) rfl rfl 0 rfl rfl (fun H locs hI => ?_)
  have hI : kI D A s [(a0, .inr (1, [.ref q1, .ref q2, .ref q3, .ref q4, .null, .null, .int 0, .int 0, .int 0])), (q1, .inl (tI.1, 40, .inl (fun _ => 0))), (q2, .inl (tI.1, 10, .inl (fun _ => 0))), (q3, .inl (tI.1, 10, .inl (fun _ => 0))), (q4, .inl (tI.1, 10, .inl (fun _ => 0)))] H _ := hI
  refine lv_aload_n C.1 C.2.1 d_P_init_36.1 rfl (lv_at hl 0 rfl) ?_
  refine lv_bipush (v := 10) C.1 C.2.1 d_P_init_37.1 (by decide) ?_
  refine k_newi (N := 10) (c2 := 5) (z2 := 80) C hI d_P_init_39 (by decide) (by decide) rfl rfl rfl rfl rfl (fun q5 H hI => ?_)
  have hI : kI D A s [(a0, .inr (1, [.ref q1, .ref q2, .ref q3, .ref q4, .null, .null, .int 0, .int 0, .int 0])), (q1, .inl (tI.1, 40, .inl (fun _ => 0))), (q2, .inl (tI.1, 10, .inl (fun _ => 0))), (q3, .inl (tI.1, 10, .inl (fun _ => 0))), (q4, .inl (tI.1, 10, .inl (fun _ => 0))), (q5, .inl (tI.1, 10, .inl (fun _ => 0)))] H _ := hI
  refine k_putF (ty := .array (.int)) (v := .ref q5) C hI d_P_init_41 kf_P_24 rfl (by decide +kernel) rfl rfl 0 rfl rfl (fun H locs hI => ?_)
  have hI : kI D A s [(a0, .inr (1, [.ref q1, .ref q2, .ref q3, .ref q4, .ref q5, .null, .int 0, .int 0, .int 0])), (q1, .inl (tI.1, 40, .inl (fun _ => 0))), (q2, .inl (tI.1, 10, .inl (fun _ => 0))), (q3, .inl (tI.1, 10, .inl (fun _ => 0))), (q4, .inl (tI.1, 10, .inl (fun _ => 0))), (q5, .inl (tI.1, 10, .inl (fun _ => 0)))] H _ := hI
  refine lv_aload_n C.1 C.2.1 d_P_init_44.1 rfl (lv_at hl 0 rfl) ?_
  refine lv_bipush (v := 10) C.1 C.2.1 d_P_init_45.1 (by decide) ?_
  refine k_newi (N := 10) (c2 := 6) (z2 := 90) C hI d_P_init_47 (by decide) (by decide) rfl rfl rfl rfl rfl (fun q6 H hI => ?_)
  have hI : kI D A s [(a0, .inr (1, [.ref q1, .ref q2, .ref q3, .ref q4, .ref q5, .null, .int 0, .int 0, .int 0])), (q1, .inl (tI.1, 40, .inl (fun _ => 0))), (q2, .inl (tI.1, 10, .inl (fun _ => 0))), (q3, .inl (tI.1, 10, .inl (fun _ => 0))), (q4, .inl (tI.1, 10, .inl (fun _ => 0))), (q5, .inl (tI.1, 10, .inl (fun _ => 0))), (q6, .inl (tI.1, 10, .inl (fun _ => 0)))] H _ := hI
  refine k_putF (ty := .array (.int)) (v := .ref q6) C hI d_P_init_49 kf_P_27 rfl (by decide +kernel) rfl rfl 0 rfl rfl (fun H locs hI => ?_)
  have hI : kI D A s [(a0, .inr (1, [.ref q1, .ref q2, .ref q3, .ref q4, .ref q5, .ref q6, .int 0, .int 0, .int 0])), (q1, .inl (tI.1, 40, .inl (fun _ => 0))), (q2, .inl (tI.1, 10, .inl (fun _ => 0))), (q3, .inl (tI.1, 10, .inl (fun _ => 0))), (q4, .inl (tI.1, 10, .inl (fun _ => 0))), (q5, .inl (tI.1, 10, .inl (fun _ => 0))), (q6, .inl (tI.1, 10, .inl (fun _ => 0)))] H _ := hI
  refine lv_aload_n C.1 C.2.1 d_P_init_52.1 rfl (lv_at hl 0 rfl) ?_
  refine lv_iconst (v := (-1)) C.1 C.2.1 d_P_init_53.1 (by decide) ?_
  refine k_putI (ty := .int) (v := .int (-1)) C hI d_P_init_54 fp_P_30 (by decide +kernel) rfl rfl 0 rfl rfl (fun H locs hI => ?_)
  have hI : kI D A s [(a0, .inr (1, [.ref q1, .ref q2, .ref q3, .ref q4, .ref q5, .ref q6, .int 0, .int 0, .int (-1)])), (q1, .inl (tI.1, 40, .inl (fun _ => 0))), (q2, .inl (tI.1, 10, .inl (fun _ => 0))), (q3, .inl (tI.1, 10, .inl (fun _ => 0))), (q4, .inl (tI.1, 10, .inl (fun _ => 0))), (q5, .inl (tI.1, 10, .inl (fun _ => 0))), (q6, .inl (tI.1, 10, .inl (fun _ => 0)))] H _ := hI
  refine lv_iconst (v := 0) C.1 C.2.1 d_P_init_57.1 (by decide) ?_
  refine lv_istore_n C.1 C.2.1 d_P_init_58.1 rfl hl (by decide) rfl (fun ls hl => ?_)
  have hl : lv_has ls 2 [(1, .int 0), (0, .ref a0)] := hl
  refine lv_iload_n C.1 C.2.1 d_P_init_59.1 rfl (lv_at hl 0 rfl) ?_
  refine lv_bipush (v := 10) C.1 C.2.1 d_P_init_60.1 (by decide) ?_
  refine lv_icmp_ge C.1 C.2.1 d_P_init_62.1 d_P_init_62.2.2 (fun h => absurd h (by decide)) (fun _ => ?_)
  refine lv_aload_n C.1 C.2.1 d_P_init_65.1 rfl (lv_at hl 1 rfl) ?_
  refine k_get (v := .ref q4) C hI d_P_init_66 fd_P_21 0 rfl rfl ?_
  refine lv_iload_n C.1 C.2.1 d_P_init_69.1 rfl (lv_at hl 0 rfl) ?_
  refine lv_bipush (v := 50) C.1 C.2.1 d_P_init_70.1 (by decide) ?_
  refine k_iast (j := 0) C hI d_P_init_72 4 rfl (by unfold vp_in; decide) (by decide) (fun H locs hI => ?_)
  have hI : kI D A s [(a0, .inr (1, [.ref q1, .ref q2, .ref q3, .ref q4, .ref q5, .ref q6, .int 0, .int 0, .int (-1)])), (q1, .inl (tI.1, 40, .inl (fun _ => 0))), (q2, .inl (tI.1, 10, .inl (fun _ => 0))), (q3, .inl (tI.1, 10, .inl (fun _ => 0))), (q4, .inl (tI.1, 10, .inl (upd (fun _ => 0) 0 50))), (q5, .inl (tI.1, 10, .inl (fun _ => 0))), (q6, .inl (tI.1, 10, .inl (fun _ => 0)))] H _ := hI
  refine lv_iinc (k := 0) (v := 1) C.1 C.2.1 d_P_init_73.1 hl rfl (by decide) (by decide) rfl (fun ls hl => ?_)
  have hl : lv_has ls 2 [(1, .int 1), (0, .ref a0)] := hl
  refine lv_goto C.1 C.2.1 d_P_init_76.1 d_P_init_76.2.2 ?_
  refine lv_iload_n C.1 C.2.1 d_P_init_59.1 rfl (lv_at hl 0 rfl) ?_
  refine lv_bipush (v := 10) C.1 C.2.1 d_P_init_60.1 (by decide) ?_
  refine lv_icmp_ge C.1 C.2.1 d_P_init_62.1 d_P_init_62.2.2 (fun h => absurd h (by decide)) (fun _ => ?_)
  refine lv_aload_n C.1 C.2.1 d_P_init_65.1 rfl (lv_at hl 1 rfl) ?_
  refine k_get (v := .ref q4) C hI d_P_init_66 fd_P_21 0 rfl rfl ?_
  refine lv_iload_n C.1 C.2.1 d_P_init_69.1 rfl (lv_at hl 0 rfl) ?_
  refine lv_bipush (v := 50) C.1 C.2.1 d_P_init_70.1 (by decide) ?_
  refine k_iast (j := 1) C hI d_P_init_72 4 rfl (by unfold vp_in; decide) (by decide) (fun H locs hI => ?_)
  have hI : kI D A s [(a0, .inr (1, [.ref q1, .ref q2, .ref q3, .ref q4, .ref q5, .ref q6, .int 0, .int 0, .int (-1)])), (q1, .inl (tI.1, 40, .inl (fun _ => 0))), (q2, .inl (tI.1, 10, .inl (fun _ => 0))), (q3, .inl (tI.1, 10, .inl (fun _ => 0))), (q4, .inl (tI.1, 10, .inl (upd (upd (fun _ => 0) 0 50) 1 50))), (q5, .inl (tI.1, 10, .inl (fun _ => 0))), (q6, .inl (tI.1, 10, .inl (fun _ => 0)))] H _ := hI
  refine lv_iinc (k := 0) (v := 2) C.1 C.2.1 d_P_init_73.1 hl rfl (by decide) (by decide) rfl (fun ls hl => ?_)
  have hl : lv_has ls 2 [(1, .int 2), (0, .ref a0)] := hl
  refine lv_goto C.1 C.2.1 d_P_init_76.1 d_P_init_76.2.2 ?_
  refine lv_iload_n C.1 C.2.1 d_P_init_59.1 rfl (lv_at hl 0 rfl) ?_
  refine lv_bipush (v := 10) C.1 C.2.1 d_P_init_60.1 (by decide) ?_
  refine lv_icmp_ge C.1 C.2.1 d_P_init_62.1 d_P_init_62.2.2 (fun h => absurd h (by decide)) (fun _ => ?_)
  refine lv_aload_n C.1 C.2.1 d_P_init_65.1 rfl (lv_at hl 1 rfl) ?_
  refine k_get (v := .ref q4) C hI d_P_init_66 fd_P_21 0 rfl rfl ?_
  refine lv_iload_n C.1 C.2.1 d_P_init_69.1 rfl (lv_at hl 0 rfl) ?_
  refine lv_bipush (v := 50) C.1 C.2.1 d_P_init_70.1 (by decide) ?_
  refine k_iast (j := 2) C hI d_P_init_72 4 rfl (by unfold vp_in; decide) (by decide) (fun H locs hI => ?_)
  have hI : kI D A s [(a0, .inr (1, [.ref q1, .ref q2, .ref q3, .ref q4, .ref q5, .ref q6, .int 0, .int 0, .int (-1)])), (q1, .inl (tI.1, 40, .inl (fun _ => 0))), (q2, .inl (tI.1, 10, .inl (fun _ => 0))), (q3, .inl (tI.1, 10, .inl (fun _ => 0))), (q4, .inl (tI.1, 10, .inl (upd (upd (upd (fun _ => 0) 0 50) 1 50) 2 50))), (q5, .inl (tI.1, 10, .inl (fun _ => 0))), (q6, .inl (tI.1, 10, .inl (fun _ => 0)))] H _ := hI
  refine lv_iinc (k := 0) (v := 3) C.1 C.2.1 d_P_init_73.1 hl rfl (by decide) (by decide) rfl (fun ls hl => ?_)
  have hl : lv_has ls 2 [(1, .int 3), (0, .ref a0)] := hl
  refine lv_goto C.1 C.2.1 d_P_init_76.1 d_P_init_76.2.2 ?_
  refine lv_iload_n C.1 C.2.1 d_P_init_59.1 rfl (lv_at hl 0 rfl) ?_
  refine lv_bipush (v := 10) C.1 C.2.1 d_P_init_60.1 (by decide) ?_
  refine lv_icmp_ge C.1 C.2.1 d_P_init_62.1 d_P_init_62.2.2 (fun h => absurd h (by decide)) (fun _ => ?_)
  refine lv_aload_n C.1 C.2.1 d_P_init_65.1 rfl (lv_at hl 1 rfl) ?_
  refine k_get (v := .ref q4) C hI d_P_init_66 fd_P_21 0 rfl rfl ?_
  refine lv_iload_n C.1 C.2.1 d_P_init_69.1 rfl (lv_at hl 0 rfl) ?_
  refine lv_bipush (v := 50) C.1 C.2.1 d_P_init_70.1 (by decide) ?_
  refine k_iast (j := 3) C hI d_P_init_72 4 rfl (by unfold vp_in; decide) (by decide) (fun H locs hI => ?_)
  have hI : kI D A s [(a0, .inr (1, [.ref q1, .ref q2, .ref q3, .ref q4, .ref q5, .ref q6, .int 0, .int 0, .int (-1)])), (q1, .inl (tI.1, 40, .inl (fun _ => 0))), (q2, .inl (tI.1, 10, .inl (fun _ => 0))), (q3, .inl (tI.1, 10, .inl (fun _ => 0))), (q4, .inl (tI.1, 10, .inl (upd (upd (upd (upd (fun _ => 0) 0 50) 1 50) 2 50) 3 50))), (q5, .inl (tI.1, 10, .inl (fun _ => 0))), (q6, .inl (tI.1, 10, .inl (fun _ => 0)))] H _ := hI
  refine lv_iinc (k := 0) (v := 4) C.1 C.2.1 d_P_init_73.1 hl rfl (by decide) (by decide) rfl (fun ls hl => ?_)
  have hl : lv_has ls 2 [(1, .int 4), (0, .ref a0)] := hl
  refine lv_goto C.1 C.2.1 d_P_init_76.1 d_P_init_76.2.2 ?_
  refine lv_iload_n C.1 C.2.1 d_P_init_59.1 rfl (lv_at hl 0 rfl) ?_
  refine lv_bipush (v := 10) C.1 C.2.1 d_P_init_60.1 (by decide) ?_
  refine lv_icmp_ge C.1 C.2.1 d_P_init_62.1 d_P_init_62.2.2 (fun h => absurd h (by decide)) (fun _ => ?_)
  refine lv_aload_n C.1 C.2.1 d_P_init_65.1 rfl (lv_at hl 1 rfl) ?_
  refine k_get (v := .ref q4) C hI d_P_init_66 fd_P_21 0 rfl rfl ?_
  refine lv_iload_n C.1 C.2.1 d_P_init_69.1 rfl (lv_at hl 0 rfl) ?_
  refine lv_bipush (v := 50) C.1 C.2.1 d_P_init_70.1 (by decide) ?_
  refine k_iast (j := 4) C hI d_P_init_72 4 rfl (by unfold vp_in; decide) (by decide) (fun H locs hI => ?_)
  have hI : kI D A s [(a0, .inr (1, [.ref q1, .ref q2, .ref q3, .ref q4, .ref q5, .ref q6, .int 0, .int 0, .int (-1)])), (q1, .inl (tI.1, 40, .inl (fun _ => 0))), (q2, .inl (tI.1, 10, .inl (fun _ => 0))), (q3, .inl (tI.1, 10, .inl (fun _ => 0))), (q4, .inl (tI.1, 10, .inl (upd (upd (upd (upd (upd (fun _ => 0) 0 50) 1 50) 2 50) 3 50) 4 50))), (q5, .inl (tI.1, 10, .inl (fun _ => 0))), (q6, .inl (tI.1, 10, .inl (fun _ => 0)))] H _ := hI
  refine lv_iinc (k := 0) (v := 5) C.1 C.2.1 d_P_init_73.1 hl rfl (by decide) (by decide) rfl (fun ls hl => ?_)
  have hl : lv_has ls 2 [(1, .int 5), (0, .ref a0)] := hl
  refine lv_goto C.1 C.2.1 d_P_init_76.1 d_P_init_76.2.2 ?_
  refine lv_iload_n C.1 C.2.1 d_P_init_59.1 rfl (lv_at hl 0 rfl) ?_
  refine lv_bipush (v := 10) C.1 C.2.1 d_P_init_60.1 (by decide) ?_
  refine lv_icmp_ge C.1 C.2.1 d_P_init_62.1 d_P_init_62.2.2 (fun h => absurd h (by decide)) (fun _ => ?_)
  refine lv_aload_n C.1 C.2.1 d_P_init_65.1 rfl (lv_at hl 1 rfl) ?_
  refine k_get (v := .ref q4) C hI d_P_init_66 fd_P_21 0 rfl rfl ?_
  refine lv_iload_n C.1 C.2.1 d_P_init_69.1 rfl (lv_at hl 0 rfl) ?_
  refine lv_bipush (v := 50) C.1 C.2.1 d_P_init_70.1 (by decide) ?_
  refine k_iast (j := 5) C hI d_P_init_72 4 rfl (by unfold vp_in; decide) (by decide) (fun H locs hI => ?_)
  have hI : kI D A s [(a0, .inr (1, [.ref q1, .ref q2, .ref q3, .ref q4, .ref q5, .ref q6, .int 0, .int 0, .int (-1)])), (q1, .inl (tI.1, 40, .inl (fun _ => 0))), (q2, .inl (tI.1, 10, .inl (fun _ => 0))), (q3, .inl (tI.1, 10, .inl (fun _ => 0))), (q4, .inl (tI.1, 10, .inl (upd (upd (upd (upd (upd (upd (fun _ => 0) 0 50) 1 50) 2 50) 3 50) 4 50) 5 50))), (q5, .inl (tI.1, 10, .inl (fun _ => 0))), (q6, .inl (tI.1, 10, .inl (fun _ => 0)))] H _ := hI
  refine lv_iinc (k := 0) (v := 6) C.1 C.2.1 d_P_init_73.1 hl rfl (by decide) (by decide) rfl (fun ls hl => ?_)
  have hl : lv_has ls 2 [(1, .int 6), (0, .ref a0)] := hl
  refine lv_goto C.1 C.2.1 d_P_init_76.1 d_P_init_76.2.2 ?_
  refine lv_iload_n C.1 C.2.1 d_P_init_59.1 rfl (lv_at hl 0 rfl) ?_
  refine lv_bipush (v := 10) C.1 C.2.1 d_P_init_60.1 (by decide) ?_
  refine lv_icmp_ge C.1 C.2.1 d_P_init_62.1 d_P_init_62.2.2 (fun h => absurd h (by decide)) (fun _ => ?_)
  refine lv_aload_n C.1 C.2.1 d_P_init_65.1 rfl (lv_at hl 1 rfl) ?_
  refine k_get (v := .ref q4) C hI d_P_init_66 fd_P_21 0 rfl rfl ?_
  refine lv_iload_n C.1 C.2.1 d_P_init_69.1 rfl (lv_at hl 0 rfl) ?_
  refine lv_bipush (v := 50) C.1 C.2.1 d_P_init_70.1 (by decide) ?_
  refine k_iast (j := 6) C hI d_P_init_72 4 rfl (by unfold vp_in; decide) (by decide) (fun H locs hI => ?_)
  have hI : kI D A s [(a0, .inr (1, [.ref q1, .ref q2, .ref q3, .ref q4, .ref q5, .ref q6, .int 0, .int 0, .int (-1)])), (q1, .inl (tI.1, 40, .inl (fun _ => 0))), (q2, .inl (tI.1, 10, .inl (fun _ => 0))), (q3, .inl (tI.1, 10, .inl (fun _ => 0))), (q4, .inl (tI.1, 10, .inl (upd (upd (upd (upd (upd (upd (upd (fun _ => 0) 0 50) 1 50) 2 50) 3 50) 4 50) 5 50) 6 50))), (q5, .inl (tI.1, 10, .inl (fun _ => 0))), (q6, .inl (tI.1, 10, .inl (fun _ => 0)))] H _ := hI
  refine lv_iinc (k := 0) (v := 7) C.1 C.2.1 d_P_init_73.1 hl rfl (by decide) (by decide) rfl (fun ls hl => ?_)
  have hl : lv_has ls 2 [(1, .int 7), (0, .ref a0)] := hl
  refine lv_goto C.1 C.2.1 d_P_init_76.1 d_P_init_76.2.2 ?_
  refine lv_iload_n C.1 C.2.1 d_P_init_59.1 rfl (lv_at hl 0 rfl) ?_
  refine lv_bipush (v := 10) C.1 C.2.1 d_P_init_60.1 (by decide) ?_
  refine lv_icmp_ge C.1 C.2.1 d_P_init_62.1 d_P_init_62.2.2 (fun h => absurd h (by decide)) (fun _ => ?_)
  refine lv_aload_n C.1 C.2.1 d_P_init_65.1 rfl (lv_at hl 1 rfl) ?_
  refine k_get (v := .ref q4) C hI d_P_init_66 fd_P_21 0 rfl rfl ?_
  refine lv_iload_n C.1 C.2.1 d_P_init_69.1 rfl (lv_at hl 0 rfl) ?_
  refine lv_bipush (v := 50) C.1 C.2.1 d_P_init_70.1 (by decide) ?_
  refine k_iast (j := 7) C hI d_P_init_72 4 rfl (by unfold vp_in; decide) (by decide) (fun H locs hI => ?_)
  have hI : kI D A s [(a0, .inr (1, [.ref q1, .ref q2, .ref q3, .ref q4, .ref q5, .ref q6, .int 0, .int 0, .int (-1)])), (q1, .inl (tI.1, 40, .inl (fun _ => 0))), (q2, .inl (tI.1, 10, .inl (fun _ => 0))), (q3, .inl (tI.1, 10, .inl (fun _ => 0))), (q4, .inl (tI.1, 10, .inl (upd (upd (upd (upd (upd (upd (upd (upd (fun _ => 0) 0 50) 1 50) 2 50) 3 50) 4 50) 5 50) 6 50) 7 50))), (q5, .inl (tI.1, 10, .inl (fun _ => 0))), (q6, .inl (tI.1, 10, .inl (fun _ => 0)))] H _ := hI
  refine lv_iinc (k := 0) (v := 8) C.1 C.2.1 d_P_init_73.1 hl rfl (by decide) (by decide) rfl (fun ls hl => ?_)
  have hl : lv_has ls 2 [(1, .int 8), (0, .ref a0)] := hl
  refine lv_goto C.1 C.2.1 d_P_init_76.1 d_P_init_76.2.2 ?_
  refine lv_iload_n C.1 C.2.1 d_P_init_59.1 rfl (lv_at hl 0 rfl) ?_
  refine lv_bipush (v := 10) C.1 C.2.1 d_P_init_60.1 (by decide) ?_
  refine lv_icmp_ge C.1 C.2.1 d_P_init_62.1 d_P_init_62.2.2 (fun h => absurd h (by decide)) (fun _ => ?_)
  refine lv_aload_n C.1 C.2.1 d_P_init_65.1 rfl (lv_at hl 1 rfl) ?_
  refine k_get (v := .ref q4) C hI d_P_init_66 fd_P_21 0 rfl rfl ?_
  refine lv_iload_n C.1 C.2.1 d_P_init_69.1 rfl (lv_at hl 0 rfl) ?_
  refine lv_bipush (v := 50) C.1 C.2.1 d_P_init_70.1 (by decide) ?_
  refine k_iast (j := 8) C hI d_P_init_72 4 rfl (by unfold vp_in; decide) (by decide) (fun H locs hI => ?_)
  have hI : kI D A s [(a0, .inr (1, [.ref q1, .ref q2, .ref q3, .ref q4, .ref q5, .ref q6, .int 0, .int 0, .int (-1)])), (q1, .inl (tI.1, 40, .inl (fun _ => 0))), (q2, .inl (tI.1, 10, .inl (fun _ => 0))), (q3, .inl (tI.1, 10, .inl (fun _ => 0))), (q4, .inl (tI.1, 10, .inl (upd (upd (upd (upd (upd (upd (upd (upd (upd (fun _ => 0) 0 50) 1 50) 2 50) 3 50) 4 50) 5 50) 6 50) 7 50) 8 50))), (q5, .inl (tI.1, 10, .inl (fun _ => 0))), (q6, .inl (tI.1, 10, .inl (fun _ => 0)))] H _ := hI
  refine lv_iinc (k := 0) (v := 9) C.1 C.2.1 d_P_init_73.1 hl rfl (by decide) (by decide) rfl (fun ls hl => ?_)
  have hl : lv_has ls 2 [(1, .int 9), (0, .ref a0)] := hl
  refine lv_goto C.1 C.2.1 d_P_init_76.1 d_P_init_76.2.2 ?_
  refine lv_iload_n C.1 C.2.1 d_P_init_59.1 rfl (lv_at hl 0 rfl) ?_
  refine lv_bipush (v := 10) C.1 C.2.1 d_P_init_60.1 (by decide) ?_
  refine lv_icmp_ge C.1 C.2.1 d_P_init_62.1 d_P_init_62.2.2 (fun h => absurd h (by decide)) (fun _ => ?_)
  refine lv_aload_n C.1 C.2.1 d_P_init_65.1 rfl (lv_at hl 1 rfl) ?_
  refine k_get (v := .ref q4) C hI d_P_init_66 fd_P_21 0 rfl rfl ?_
  refine lv_iload_n C.1 C.2.1 d_P_init_69.1 rfl (lv_at hl 0 rfl) ?_
  refine lv_bipush (v := 50) C.1 C.2.1 d_P_init_70.1 (by decide) ?_
  refine k_iast (j := 9) C hI d_P_init_72 4 rfl (by unfold vp_in; decide) (by decide) (fun H locs hI => ?_)
  have hI : kI D A s [(a0, .inr (1, [.ref q1, .ref q2, .ref q3, .ref q4, .ref q5, .ref q6, .int 0, .int 0, .int (-1)])), (q1, .inl (tI.1, 40, .inl (fun _ => 0))), (q2, .inl (tI.1, 10, .inl (fun _ => 0))), (q3, .inl (tI.1, 10, .inl (fun _ => 0))), (q4, .inl (tI.1, 10, .inl (upd (upd (upd (upd (upd (upd (upd (upd (upd (upd (fun _ => 0) 0 50) 1 50) 2 50) 3 50) 4 50) 5 50) 6 50) 7 50) 8 50) 9 50))), (q5, .inl (tI.1, 10, .inl (fun _ => 0))), (q6, .inl (tI.1, 10, .inl (fun _ => 0)))] H _ := hI
  refine lv_iinc (k := 0) (v := 10) C.1 C.2.1 d_P_init_73.1 hl rfl (by decide) (by decide) rfl (fun ls hl => ?_)
  have hl : lv_has ls 2 [(1, .int 10), (0, .ref a0)] := hl
  refine lv_goto C.1 C.2.1 d_P_init_76.1 d_P_init_76.2.2 ?_
  refine lv_iload_n C.1 C.2.1 d_P_init_59.1 rfl (lv_at hl 0 rfl) ?_
  refine lv_bipush (v := 10) C.1 C.2.1 d_P_init_60.1 (by decide) ?_
  refine lv_icmp_ge C.1 C.2.1 d_P_init_62.1 d_P_init_62.2.2 (fun _ => ?_) (fun h => absurd (by decide) h)
  exact fin _ _ _ _ _ ⟨q1, q2, q3, q4, q5, q6, rfl⟩ d_P_init_79.1 hI
set_option maxHeartbeats 4000000 in
set_option maxRecDepth 100000 in
theorem kc_R_init (D : va_G) (tI : ClassId × ClassId × ClassId) (a0 : Nat) : kMet D tI m_R_init 1 3 24 [.ref a0] [(a0, .inr (2, [.null, .null, .null]))] (fun w1 => ∃ q1 q2 q3 : Nat, w1 = [(a0, .inr (2, [.ref q1, .ref q2, .ref q3])), (q1, .inl (tI.1, 4, .inl (upd (fun _ => 0) 0 2))), (q2, .inl (tI.1, 10, .inl (fun _ => 0))), (q3, .inl (tI.1, 10, .inl (fun _ => 0)))]) := by
  refine k_met mk_R_init rfl rfl ?_
  intro p l e s m args below meth c A Z ls C hI hl fin
  have hI : kI D A s [(a0, .inr (2, [.null, .null, .null]))] s.heap [] := hI
  have hl : lv_has ls 1 [(0, .ref a0)] := hl
  refine lv_aload_n C.1 C.2.1 d_R_init_0.1 rfl (lv_at hl 0 rfl) ?_
  refine k_obj (ws := []) C hl d_R_init_1 (lw_in (i := 74) (by decide +kernel)) rfl rfl rfl ?_
  refine lv_aload_n C.1 C.2.1 d_R_init_4.1 rfl (lv_at hl 0 rfl) ?_
  refine lv_iconst (v := 4) C.1 C.2.1 d_R_init_5.1 (by decide) ?_
  refine k_newi (N := 4) (c2 := 1) (z2 := 4) C hI d_R_init_6 (by decide) (by decide) rfl rfl rfl rfl rfl (fun q1 H hI => ?_)
  have hI : kI D A s [(a0, .inr (2, [.null, .null, .null])), (q1, .inl (tI.1, 4, .inl (fun _ => 0)))] H _ := hI
  refine k_putF (ty := .array (.int)) (v := .ref q1) C hI d_R_init_8 kf_R_9 rfl (by decide +kernel) rfl rfl 0 rfl rfl (fun H locs hI => ?_)
  have hI : kI D A s [(a0, .inr (2, [.ref q1, .null, .null])), (q1, .inl (tI.1, 4, .inl (fun _ => 0)))] H _ := hI
  refine lv_aload_n C.1 C.2.1 d_R_init_11.1 rfl (lv_at hl 0 rfl) ?_
  refine lv_bipush (v := 10) C.1 C.2.1 d_R_init_12.1 (by decide) ?_
  refine k_newi (N := 10) (c2 := 2) (z2 := 14) C hI d_R_init_14 (by decide) (by decide) rfl rfl rfl rfl rfl (fun q2 H hI => ?_)
  have hI : kI D A s [(a0, .inr (2, [.ref q1, .null, .null])), (q1, .inl (tI.1, 4, .inl (fun _ => 0))), (q2, .inl (tI.1, 10, .inl (fun _ => 0)))] H _ := hI
  refine k_putF (ty := .array (.int)) (v := .ref q2) C hI d_R_init_16 kf_R_15 rfl (by decide +kernel) rfl rfl 0 rfl rfl (fun H locs hI => ?_)
  have hI : kI D A s [(a0, .inr (2, [.ref q1, .ref q2, .null])), (q1, .inl (tI.1, 4, .inl (fun _ => 0))), (q2, .inl (tI.1, 10, .inl (fun _ => 0)))] H _ := hI
  refine lv_aload_n C.1 C.2.1 d_R_init_19.1 rfl (lv_at hl 0 rfl) ?_
  refine lv_bipush (v := 10) C.1 C.2.1 d_R_init_20.1 (by decide) ?_
  refine k_newi (N := 10) (c2 := 3) (z2 := 24) C hI d_R_init_22 (by decide) (by decide) rfl rfl rfl rfl rfl (fun q3 H hI => ?_)
  have hI : kI D A s [(a0, .inr (2, [.ref q1, .ref q2, .null])), (q1, .inl (tI.1, 4, .inl (fun _ => 0))), (q2, .inl (tI.1, 10, .inl (fun _ => 0))), (q3, .inl (tI.1, 10, .inl (fun _ => 0)))] H _ := hI
  refine k_putF (ty := .array (.int)) (v := .ref q3) C hI d_R_init_24 kf_R_18 rfl (by decide +kernel) rfl rfl 0 rfl rfl (fun H locs hI => ?_)
  have hI : kI D A s [(a0, .inr (2, [.ref q1, .ref q2, .ref q3])), (q1, .inl (tI.1, 4, .inl (fun _ => 0))), (q2, .inl (tI.1, 10, .inl (fun _ => 0))), (q3, .inl (tI.1, 10, .inl (fun _ => 0)))] H _ := hI
  refine lv_aload_n C.1 C.2.1 d_R_init_27.1 rfl (lv_at hl 0 rfl) ?_
  refine k_get (v := .ref q1) C hI d_R_init_28 fd_R_9 0 rfl rfl ?_
  refine lv_iconst (v := 0) C.1 C.2.1 d_R_init_31.1 (by decide) ?_
  refine lv_iconst (v := 2) C.1 C.2.1 d_R_init_32.1 (by decide) ?_
  refine k_iast (j := 0) C hI d_R_init_33 1 rfl (by unfold vp_in; decide) (by decide) (fun H locs hI => ?_)
  have hI : kI D A s [(a0, .inr (2, [.ref q1, .ref q2, .ref q3])), (q1, .inl (tI.1, 4, .inl (upd (fun _ => 0) 0 2))), (q2, .inl (tI.1, 10, .inl (fun _ => 0))), (q3, .inl (tI.1, 10, .inl (fun _ => 0)))] H _ := hI
  exact fin _ _ _ _ _ ⟨q1, q2, q3, rfl⟩ d_R_init_34.1 hI
set_option maxHeartbeats 4000000 in
set_option maxRecDepth 100000 in
theorem kc_D_init (D : va_G) (tI : ClassId × ClassId × ClassId) (a0 : Nat) (a1 : Nat) (a2 : Nat) : kMet D tI m_D_init 1 4 4096 [.ref a0, .ref a1, .ref a2] [(a0, .inr (0, [.null, .null, .null, .null, .null, .null, .int 0]))] (fun w1 => ∃ q1 q2 q3 q4 : Nat, w1 = [(a0, .inr (0, [.ref a1, .ref a2, .ref q1, .ref q2, .ref q3, .ref q4, .int 1])), (q1, .inl (tI.1, 1024, .inl (fun _ => 0))), (q2, .inl (tI.1, 1024, .inl (fun _ => 0))), (q3, .inl (tI.1, 1024, .inl (fun _ => 0))), (q4, .inl (tI.1, 1024, .inl (fun _ => 0)))]) := by
  refine k_met mk_D_init rfl rfl ?_
  intro p l e s m args below meth c A Z ls C hI hl fin
  have hI : kI D A s [(a0, .inr (0, [.null, .null, .null, .null, .null, .null, .int 0]))] s.heap [] := hI
  have hl : lv_has ls 3 [(0, .ref a0), (1, .ref a1), (2, .ref a2)] := hl
  refine lv_aload_n C.1 C.2.1 d_D_init_0.1 rfl (lv_at hl 0 rfl) ?_
  refine k_obj (ws := []) C hl d_D_init_1 (lw_in (i := 95) (by decide +kernel)) rfl rfl rfl ?_
  refine lv_aload_n C.1 C.2.1 d_D_init_4.1 rfl (lv_at hl 0 rfl) ?_
  refine lv_sipush (v := 1024) C.1 C.2.1 d_D_init_5.1 (by decide) ?_
  refine k_newi (N := 1024) (c2 := 1) (z2 := 1024) C hI d_D_init_8 (by decide) (by decide) rfl rfl rfl rfl rfl (fun q1 H hI => ?_)
  have hI : kI D A s [(a0, .inr (0, [.null, .null, .null, .null, .null, .null, .int 0])), (q1, .inl (tI.1, 1024, .inl (fun _ => 0)))] H _ := hI
  refine k_putF (ty := .array (.int)) (v := .ref q1) C hI d_D_init_10 kf_D_11 rfl (by decide +kernel) rfl rfl 0 rfl rfl (fun H locs hI => ?_)
  have hI : kI D A s [(a0, .inr (0, [.null, .null, .ref q1, .null, .null, .null, .int 0])), (q1, .inl (tI.1, 1024, .inl (fun _ => 0)))] H _ := hI
  refine lv_aload_n C.1 C.2.1 d_D_init_13.1 rfl (lv_at hl 0 rfl) ?_
  refine lv_sipush (v := 1024) C.1 C.2.1 d_D_init_14.1 (by decide) ?_
  refine k_newi (N := 1024) (c2 := 2) (z2 := 2048) C hI d_D_init_17 (by decide) (by decide) rfl rfl rfl rfl rfl (fun q2 H hI => ?_)
  have hI : kI D A s [(a0, .inr (0, [.null, .null, .ref q1, .null, .null, .null, .int 0])), (q1, .inl (tI.1, 1024, .inl (fun _ => 0))), (q2, .inl (tI.1, 1024, .inl (fun _ => 0)))] H _ := hI
  refine k_putF (ty := .array (.int)) (v := .ref q2) C hI d_D_init_19 kf_D_15 rfl (by decide +kernel) rfl rfl 0 rfl rfl (fun H locs hI => ?_)
  have hI : kI D A s [(a0, .inr (0, [.null, .null, .ref q1, .ref q2, .null, .null, .int 0])), (q1, .inl (tI.1, 1024, .inl (fun _ => 0))), (q2, .inl (tI.1, 1024, .inl (fun _ => 0)))] H _ := hI
  refine lv_aload_n C.1 C.2.1 d_D_init_22.1 rfl (lv_at hl 0 rfl) ?_
  refine lv_sipush (v := 1024) C.1 C.2.1 d_D_init_23.1 (by decide) ?_
  refine k_newi (N := 1024) (c2 := 3) (z2 := 3072) C hI d_D_init_26 (by decide) (by decide) rfl rfl rfl rfl rfl (fun q3 H hI => ?_)
  have hI : kI D A s [(a0, .inr (0, [.null, .null, .ref q1, .ref q2, .null, .null, .int 0])), (q1, .inl (tI.1, 1024, .inl (fun _ => 0))), (q2, .inl (tI.1, 1024, .inl (fun _ => 0))), (q3, .inl (tI.1, 1024, .inl (fun _ => 0)))] H _ := hI
  refine k_putF (ty := .array (.int)) (v := .ref q3) C hI d_D_init_28 kf_D_18 rfl (by decide +kernel) rfl rfl 0 rfl rfl (fun H locs hI => ?_)
  have hI : kI D A s [(a0, .inr (0, [.null, .null, .ref q1, .ref q2, .ref q3, .null, .int 0])), (q1, .inl (tI.1, 1024, .inl (fun _ => 0))), (q2, .inl (tI.1, 1024, .inl (fun _ => 0))), (q3, .inl (tI.1, 1024, .inl (fun _ => 0)))] H _ := hI
  refine lv_aload_n C.1 C.2.1 d_D_init_31.1 rfl (lv_at hl 0 rfl) ?_
  refine lv_sipush (v := 1024) C.1 C.2.1 d_D_init_32.1 (by decide) ?_
  refine k_newi (N := 1024) (c2 := 4) (z2 := 4096) C hI d_D_init_35 (by decide) (by decide) rfl rfl rfl rfl rfl (fun q4 H hI => ?_)
  have hI : kI D A s [(a0, .inr (0, [.null, .null, .ref q1, .ref q2, .ref q3, .null, .int 0])), (q1, .inl (tI.1, 1024, .inl (fun _ => 0))), (q2, .inl (tI.1, 1024, .inl (fun _ => 0))), (q3, .inl (tI.1, 1024, .inl (fun _ => 0))), (q4, .inl (tI.1, 1024, .inl (fun _ => 0)))] H _ := hI
  refine k_putF (ty := .array (.int)) (v := .ref q4) C hI d_D_init_37 kf_D_21 rfl (by decide +kernel) rfl rfl 0 rfl rfl (fun H locs hI => ?_)
  have hI : kI D A s [(a0, .inr (0, [.null, .null, .ref q1, .ref q2, .ref q3, .ref q4, .int 0])), (q1, .inl (tI.1, 1024, .inl (fun _ => 0))), (q2, .inl (tI.1, 1024, .inl (fun _ => 0))), (q3, .inl (tI.1, 1024, .inl (fun _ => 0))), (q4, .inl (tI.1, 1024, .inl (fun _ => 0)))] H _ := hI
  refine lv_aload_n C.1 C.2.1 d_D_init_40.1 rfl (lv_at hl 0 rfl) ?_
  refine lv_iconst (v := 1) C.1 C.2.1 d_D_init_41.1 (by decide) ?_
  refine k_putI (ty := .boolean) (v := .int 1) C hI d_D_init_42 fp_D_24 (by decide +kernel) rfl rfl 0 rfl rfl (fun H locs hI => ?_)
  have hI : kI D A s [(a0, .inr (0, [.null, .null, .ref q1, .ref q2, .ref q3, .ref q4, .int 1])), (q1, .inl (tI.1, 1024, .inl (fun _ => 0))), (q2, .inl (tI.1, 1024, .inl (fun _ => 0))), (q3, .inl (tI.1, 1024, .inl (fun _ => 0))), (q4, .inl (tI.1, 1024, .inl (fun _ => 0)))] H _ := hI
  refine lv_aload_n C.1 C.2.1 d_D_init_45.1 rfl (lv_at hl 0 rfl) ?_
  refine lv_aload_n C.1 C.2.1 d_D_init_46.1 rfl (lv_at hl 1 rfl) ?_
  refine k_putF (ty := .object "AgeFerry$People") (v := .ref a1) C hI d_D_init_47 kf_D_28 rfl (by decide +kernel) rfl rfl 0 rfl rfl (fun H locs hI => ?_)
  have hI : kI D A s [(a0, .inr (0, [.ref a1, .null, .ref q1, .ref q2, .ref q3, .ref q4, .int 1])), (q1, .inl (tI.1, 1024, .inl (fun _ => 0))), (q2, .inl (tI.1, 1024, .inl (fun _ => 0))), (q3, .inl (tI.1, 1024, .inl (fun _ => 0))), (q4, .inl (tI.1, 1024, .inl (fun _ => 0)))] H _ := hI
  refine lv_aload_n C.1 C.2.1 d_D_init_50.1 rfl (lv_at hl 0 rfl) ?_
  refine lv_aload_n C.1 C.2.1 d_D_init_51.1 rfl (lv_at hl 2 rfl) ?_
  refine k_putF (ty := .object "AgeFerry$Rules") (v := .ref a2) C hI d_D_init_52 kf_D_32 rfl (by decide +kernel) rfl rfl 0 rfl rfl (fun H locs hI => ?_)
  have hI : kI D A s [(a0, .inr (0, [.ref a1, .ref a2, .ref q1, .ref q2, .ref q3, .ref q4, .int 1])), (q1, .inl (tI.1, 1024, .inl (fun _ => 0))), (q2, .inl (tI.1, 1024, .inl (fun _ => 0))), (q3, .inl (tI.1, 1024, .inl (fun _ => 0))), (q4, .inl (tI.1, 1024, .inl (fun _ => 0)))] H _ := hI
  exact fin _ _ _ _ _ ⟨q1, q2, q3, q4, rfl⟩ d_D_init_55.1 hI
set_option maxHeartbeats 4000000 in
set_option maxRecDepth 100000 in
theorem kc_T_init (D : va_G) (tI : ClassId × ClassId × ClassId) (a0 : Nat) (a1 : Nat) : kMet D tI m_T_init 1 1 10 [.ref a0, .ref a1] [(a0, .inr (5, [.null, .null, .int 0, .int 0]))] (fun w1 => ∃ q1 : Nat, w1 = [(a0, .inr (5, [.ref a1, .ref q1, .int 0, .int 0])), (q1, .inl (tI.1, 10, .inl (fun _ => 0)))]) := by
  refine k_met mk_T_init rfl rfl ?_
  intro p l e s m args below meth c A Z ls C hI hl fin
  have hI : kI D A s [(a0, .inr (5, [.null, .null, .int 0, .int 0]))] s.heap [] := hI
  have hl : lv_has ls 2 [(0, .ref a0), (1, .ref a1)] := hl
  refine lv_aload_n C.1 C.2.1 d_T_init_0.1 rfl (lv_at hl 0 rfl) ?_
  refine k_obj (ws := []) C hl d_T_init_1 (lw_in (i := 123) (by decide +kernel)) rfl rfl rfl ?_
  refine lv_aload_n C.1 C.2.1 d_T_init_4.1 rfl (lv_at hl 0 rfl) ?_
  refine lv_bipush (v := 10) C.1 C.2.1 d_T_init_5.1 (by decide) ?_
  refine k_newi (N := 10) (c2 := 1) (z2 := 10) C hI d_T_init_7 (by decide) (by decide) rfl rfl rfl rfl rfl (fun q1 H hI => ?_)
  have hI : kI D A s [(a0, .inr (5, [.null, .null, .int 0, .int 0])), (q1, .inl (tI.1, 10, .inl (fun _ => 0)))] H _ := hI
  refine k_putF (ty := .array (.int)) (v := .ref q1) C hI d_T_init_9 kf_T_9 rfl (by decide +kernel) rfl rfl 0 rfl rfl (fun H locs hI => ?_)
  have hI : kI D A s [(a0, .inr (5, [.null, .ref q1, .int 0, .int 0])), (q1, .inl (tI.1, 10, .inl (fun _ => 0)))] H _ := hI
  refine lv_aload_n C.1 C.2.1 d_T_init_12.1 rfl (lv_at hl 0 rfl) ?_
  refine lv_aload_n C.1 C.2.1 d_T_init_13.1 rfl (lv_at hl 1 rfl) ?_
  refine k_putF (ty := .object "AgeFerry$Days") (v := .ref a1) C hI d_T_init_14 kf_T_15 rfl (by decide +kernel) rfl rfl 0 rfl rfl (fun H locs hI => ?_)
  have hI : kI D A s [(a0, .inr (5, [.ref a1, .ref q1, .int 0, .int 0])), (q1, .inl (tI.1, 10, .inl (fun _ => 0)))] H _ := hI
  exact fin _ _ _ _ _ ⟨q1, rfl⟩ d_T_init_17.1 hI
set_option maxHeartbeats 4000000 in
set_option maxRecDepth 100000 in
theorem kc_G_init (D : va_G) (tI : ClassId × ClassId × ClassId) (a0 : Nat) : kMet D tI m_G_init 1 3 24 [.ref a0] [(a0, .inr (4, [.null, .null, .null, .int 0]))] (fun w1 => ∃ q1 q2 q3 : Nat, w1 = [(a0, .inr (4, [.ref q1, .ref q2, .ref q3, .int 0])), (q1, .inl (tI.1, 8, .inl (fun _ => 0))), (q2, .inl (tI.1, 8, .inl (fun _ => 0))), (q3, .inl (tI.1, 8, .inl (fun _ => 0)))]) := by
  refine k_met mk_G_init rfl rfl ?_
  intro p l e s m args below meth c A Z ls C hI hl fin
  have hI : kI D A s [(a0, .inr (4, [.null, .null, .null, .int 0]))] s.heap [] := hI
  have hl : lv_has ls 1 [(0, .ref a0)] := hl
  refine lv_aload_n C.1 C.2.1 d_G_init_0.1 rfl (lv_at hl 0 rfl) ?_
  refine k_obj (ws := []) C hl d_G_init_1 (lw_in (i := 142) (by decide +kernel)) rfl rfl rfl ?_
  refine lv_aload_n C.1 C.2.1 d_G_init_4.1 rfl (lv_at hl 0 rfl) ?_
  refine lv_bipush (v := 8) C.1 C.2.1 d_G_init_5.1 (by decide) ?_
  refine k_newi (N := 8) (c2 := 1) (z2 := 8) C hI d_G_init_7 (by decide) (by decide) rfl rfl rfl rfl rfl (fun q1 H hI => ?_)
  have hI : kI D A s [(a0, .inr (4, [.null, .null, .null, .int 0])), (q1, .inl (tI.1, 8, .inl (fun _ => 0)))] H _ := hI
  refine k_putF (ty := .array (.int)) (v := .ref q1) C hI d_G_init_9 kf_G_11 rfl (by decide +kernel) rfl rfl 0 rfl rfl (fun H locs hI => ?_)
  have hI : kI D A s [(a0, .inr (4, [.ref q1, .null, .null, .int 0])), (q1, .inl (tI.1, 8, .inl (fun _ => 0)))] H _ := hI
  refine lv_aload_n C.1 C.2.1 d_G_init_12.1 rfl (lv_at hl 0 rfl) ?_
  refine lv_bipush (v := 8) C.1 C.2.1 d_G_init_13.1 (by decide) ?_
  refine k_newi (N := 8) (c2 := 2) (z2 := 16) C hI d_G_init_15 (by decide) (by decide) rfl rfl rfl rfl rfl (fun q2 H hI => ?_)
  have hI : kI D A s [(a0, .inr (4, [.ref q1, .null, .null, .int 0])), (q1, .inl (tI.1, 8, .inl (fun _ => 0))), (q2, .inl (tI.1, 8, .inl (fun _ => 0)))] H _ := hI
  refine k_putF (ty := .array (.int)) (v := .ref q2) C hI d_G_init_17 kf_G_15 rfl (by decide +kernel) rfl rfl 0 rfl rfl (fun H locs hI => ?_)
  have hI : kI D A s [(a0, .inr (4, [.ref q1, .ref q2, .null, .int 0])), (q1, .inl (tI.1, 8, .inl (fun _ => 0))), (q2, .inl (tI.1, 8, .inl (fun _ => 0)))] H _ := hI
  refine lv_aload_n C.1 C.2.1 d_G_init_20.1 rfl (lv_at hl 0 rfl) ?_
  refine lv_bipush (v := 8) C.1 C.2.1 d_G_init_21.1 (by decide) ?_
  refine k_newi (N := 8) (c2 := 3) (z2 := 24) C hI d_G_init_23 (by decide) (by decide) rfl rfl rfl rfl rfl (fun q3 H hI => ?_)
  have hI : kI D A s [(a0, .inr (4, [.ref q1, .ref q2, .null, .int 0])), (q1, .inl (tI.1, 8, .inl (fun _ => 0))), (q2, .inl (tI.1, 8, .inl (fun _ => 0))), (q3, .inl (tI.1, 8, .inl (fun _ => 0)))] H _ := hI
  refine k_putF (ty := .array (.int)) (v := .ref q3) C hI d_G_init_25 kf_G_18 rfl (by decide +kernel) rfl rfl 0 rfl rfl (fun H locs hI => ?_)
  have hI : kI D A s [(a0, .inr (4, [.ref q1, .ref q2, .ref q3, .int 0])), (q1, .inl (tI.1, 8, .inl (fun _ => 0))), (q2, .inl (tI.1, 8, .inl (fun _ => 0))), (q3, .inl (tI.1, 8, .inl (fun _ => 0)))] H _ := hI
  exact fin _ _ _ _ _ ⟨q1, q2, q3, rfl⟩ d_G_init_28.1 hI
set_option maxHeartbeats 4000000 in
set_option maxRecDepth 100000 in
theorem kc_S_init (D : va_G) (tI : ClassId × ClassId × ClassId) (a0 : Nat) : kMet D tI m_S_init 1 1 60 [.ref a0] [(a0, .inr (3, [.null, .int 0, .int 0]))] (fun w1 => ∃ q1 : Nat, w1 = [(a0, .inr (3, [.ref q1, .int 0, .int (-1)])), (q1, .inl (tI.1, 60, .inl (fun _ => 0)))]) := by
  refine k_met mk_S_init rfl rfl ?_
  intro p l e s m args below meth c A Z ls C hI hl fin
  have hI : kI D A s [(a0, .inr (3, [.null, .int 0, .int 0]))] s.heap [] := hI
  have hl : lv_has ls 1 [(0, .ref a0)] := hl
  refine lv_aload_n C.1 C.2.1 d_S_init_0.1 rfl (lv_at hl 0 rfl) ?_
  refine k_obj (ws := []) C hl d_S_init_1 (lw_in (i := 163) (by decide +kernel)) rfl rfl rfl ?_
  refine lv_aload_n C.1 C.2.1 d_S_init_4.1 rfl (lv_at hl 0 rfl) ?_
  refine lv_bipush (v := 60) C.1 C.2.1 d_S_init_5.1 (by decide) ?_
  refine k_newi (N := 60) (c2 := 1) (z2 := 60) C hI d_S_init_7 (by decide) (by decide) rfl rfl rfl rfl rfl (fun q1 H hI => ?_)
  have hI : kI D A s [(a0, .inr (3, [.null, .int 0, .int 0])), (q1, .inl (tI.1, 60, .inl (fun _ => 0)))] H _ := hI
  refine k_putF (ty := .array (.int)) (v := .ref q1) C hI d_S_init_9 kf_S_9 rfl (by decide +kernel) rfl rfl 0 rfl rfl (fun H locs hI => ?_)
  have hI : kI D A s [(a0, .inr (3, [.ref q1, .int 0, .int 0])), (q1, .inl (tI.1, 60, .inl (fun _ => 0)))] H _ := hI
  refine lv_aload_n C.1 C.2.1 d_S_init_12.1 rfl (lv_at hl 0 rfl) ?_
  refine lv_iconst (v := (-1)) C.1 C.2.1 d_S_init_13.1 (by decide) ?_
  refine k_putI (ty := .int) (v := .int (-1)) C hI d_S_init_14 fp_S_13 (by decide +kernel) rfl rfl 0 rfl rfl (fun H locs hI => ?_)
  have hI : kI D A s [(a0, .inr (3, [.ref q1, .int 0, .int (-1)])), (q1, .inl (tI.1, 60, .inl (fun _ => 0)))] H _ := hI
  exact fin _ _ _ _ _ ⟨q1, rfl⟩ d_S_init_17.1 hI
