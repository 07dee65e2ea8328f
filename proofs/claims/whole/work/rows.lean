section
-- ===== PART A: goes FIRST, ahead of the names: the tables' words, and 'selects' of the private methods out of them =====
/-- a private method of a class that the tables say can be made, by its rows of tables_1 -/
def lw_okq (q : MethodName × Nat) : Prop := (q.1.cls ≠ "java/lang/invoke/MethodHandle" ∧ q.1.cls ≠ "java/lang/invoke/VarHandle") ∧ Cond.instantiable q.1.cls q.2 ∈ tables_1 ∧ Cond.privateMethod q.1 ∈ tables_1 ∧ Cond.instanceMethod q.1 ∈ tables_1
theorem lw_p0 : lw_okq (⟨"AgeFerry$People", "understand", "()V"⟩, 9) := ⟨⟨by decide +kernel, by decide +kernel⟩, List.mem_of_getElem? (i := 21) (by decide +kernel), List.mem_of_getElem? (i := 222) (by decide +kernel), List.mem_of_getElem? (i := 223) (by decide +kernel)⟩
theorem lw_p1 : lw_okq (⟨"AgeFerry$People", "endOfFigures", "(I)I"⟩, 9) := ⟨⟨by decide +kernel, by decide +kernel⟩, List.mem_of_getElem? (i := 21) (by decide +kernel), List.mem_of_getElem? (i := 226) (by decide +kernel), List.mem_of_getElem? (i := 227) (by decide +kernel)⟩
theorem lw_p2 : lw_okq (⟨"AgeFerry$People", "ageAt", "(II)I"⟩, 9) := ⟨⟨by decide +kernel, by decide +kernel⟩, List.mem_of_getElem? (i := 21) (by decide +kernel), List.mem_of_getElem? (i := 230) (by decide +kernel), List.mem_of_getElem? (i := 231) (by decide +kernel)⟩
theorem lw_p3 : lw_okq (⟨"AgeFerry", "find", "(I)I"⟩, 8) := ⟨⟨by decide +kernel, by decide +kernel⟩, List.mem_of_getElem? (i := 13) (by decide +kernel), List.mem_of_getElem? (i := 294) (by decide +kernel), List.mem_of_getElem? (i := 295) (by decide +kernel)⟩
theorem lw_p4 : lw_okq (⟨"AgeFerry", "areThere", "(I)Z"⟩, 8) := ⟨⟨by decide +kernel, by decide +kernel⟩, List.mem_of_getElem? (i := 13) (by decide +kernel), List.mem_of_getElem? (i := 334) (by decide +kernel), List.mem_of_getElem? (i := 335) (by decide +kernel)⟩
theorem lw_p5 : lw_okq (⟨"AgeFerry$Days", "priceOf", "(I)I"⟩, 7) := ⟨⟨by decide +kernel, by decide +kernel⟩, List.mem_of_getElem? (i := 91) (by decide +kernel), List.mem_of_getElem? (i := 377) (by decide +kernel), List.mem_of_getElem? (i := 378) (by decide +kernel)⟩
theorem lw_p6 : lw_okq (⟨"AgeFerry$Days", "plan", "(I)V"⟩, 7) := ⟨⟨by decide +kernel, by decide +kernel⟩, List.mem_of_getElem? (i := 91) (by decide +kernel), List.mem_of_getElem? (i := 382) (by decide +kernel), List.mem_of_getElem? (i := 383) (by decide +kernel)⟩
theorem lw_p7 : lw_okq (⟨"AgeFerry$Days", "planOf", "(I)I"⟩, 7) := ⟨⟨by decide +kernel, by decide +kernel⟩, List.mem_of_getElem? (i := 91) (by decide +kernel), List.mem_of_getElem? (i := 397) (by decide +kernel), List.mem_of_getElem? (i := 398) (by decide +kernel)⟩
theorem lw_p8 : lw_okq (⟨"AgeFerry$Days", "firstBoatOf", "(I)I"⟩, 7) := ⟨⟨by decide +kernel, by decide +kernel⟩, List.mem_of_getElem? (i := 91) (by decide +kernel), List.mem_of_getElem? (i := 417) (by decide +kernel), List.mem_of_getElem? (i := 418) (by decide +kernel)⟩
theorem lw_p9 : lw_okq (⟨"AgeFerry", "refusalOf", "(I)I"⟩, 8) := ⟨⟨by decide +kernel, by decide +kernel⟩, List.mem_of_getElem? (i := 13) (by decide +kernel), List.mem_of_getElem? (i := 429) (by decide +kernel), List.mem_of_getElem? (i := 430) (by decide +kernel)⟩
theorem lw_p10 : lw_okq (⟨"AgeFerry", "firstJudged", "(LAgeFerry$Sheet;)I"⟩, 8) := ⟨⟨by decide +kernel, by decide +kernel⟩, List.mem_of_getElem? (i := 13) (by decide +kernel), List.mem_of_getElem? (i := 433) (by decide +kernel), List.mem_of_getElem? (i := 434) (by decide +kernel)⟩
theorem lw_p11 : lw_okq (⟨"AgeFerry", "crewOf", "(LAgeFerry$Sheet;I)I"⟩, 8) := ⟨⟨by decide +kernel, by decide +kernel⟩, List.mem_of_getElem? (i := 13) (by decide +kernel), List.mem_of_getElem? (i := 437) (by decide +kernel), List.mem_of_getElem? (i := 438) (by decide +kernel)⟩
theorem lw_p12 : lw_okq (⟨"AgeFerry", "costOfBoats", "()I"⟩, 8) := ⟨⟨by decide +kernel, by decide +kernel⟩, List.mem_of_getElem? (i := 13) (by decide +kernel), List.mem_of_getElem? (i := 446) (by decide +kernel), List.mem_of_getElem? (i := 447) (by decide +kernel)⟩
theorem lw_p13 : lw_okq (⟨"AgeFerry", "paidTogether", "(LAgeFerry$Sheet;I)J"⟩, 8) := ⟨⟨by decide +kernel, by decide +kernel⟩, List.mem_of_getElem? (i := 13) (by decide +kernel), List.mem_of_getElem? (i := 485) (by decide +kernel), List.mem_of_getElem? (i := 486) (by decide +kernel)⟩
theorem lw_p14 : lw_okq (⟨"AgeFerry$Days", "replanAround", "(I)V"⟩, 7) := ⟨⟨by decide +kernel, by decide +kernel⟩, List.mem_of_getElem? (i := 91) (by decide +kernel), List.mem_of_getElem? (i := 498) (by decide +kernel), List.mem_of_getElem? (i := 499) (by decide +kernel)⟩
theorem lw_p15 : lw_okq (⟨"AgeFerry$Trip", "areNew", "(I)Z"⟩, 4) := ⟨⟨by decide +kernel, by decide +kernel⟩, List.mem_of_getElem? (i := 119) (by decide +kernel), List.mem_of_getElem? (i := 527) (by decide +kernel), List.mem_of_getElem? (i := 528) (by decide +kernel)⟩
def lw_privs_1 : List (MethodName × Nat) := [(⟨"AgeFerry$People", "understand", "()V"⟩, 9), (⟨"AgeFerry$People", "endOfFigures", "(I)I"⟩, 9), (⟨"AgeFerry$People", "ageAt", "(II)I"⟩, 9), (⟨"AgeFerry", "find", "(I)I"⟩, 8), (⟨"AgeFerry", "areThere", "(I)Z"⟩, 8), (⟨"AgeFerry$Days", "priceOf", "(I)I"⟩, 7), (⟨"AgeFerry$Days", "plan", "(I)V"⟩, 7), (⟨"AgeFerry$Days", "planOf", "(I)I"⟩, 7), (⟨"AgeFerry$Days", "firstBoatOf", "(I)I"⟩, 7), (⟨"AgeFerry", "refusalOf", "(I)I"⟩, 8), (⟨"AgeFerry", "firstJudged", "(LAgeFerry$Sheet;)I"⟩, 8), (⟨"AgeFerry", "crewOf", "(LAgeFerry$Sheet;I)I"⟩, 8), (⟨"AgeFerry", "costOfBoats", "()I"⟩, 8), (⟨"AgeFerry", "paidTogether", "(LAgeFerry$Sheet;I)J"⟩, 8), (⟨"AgeFerry$Days", "replanAround", "(I)V"⟩, 7), (⟨"AgeFerry$Trip", "areNew", "(I)Z"⟩, 4)]
theorem lw_r1 : ∀ q ∈ lw_privs_1, lw_okq q := List.forall_mem_cons.mpr ⟨lw_p0, List.forall_mem_cons.mpr ⟨lw_p1, List.forall_mem_cons.mpr ⟨lw_p2, List.forall_mem_cons.mpr ⟨lw_p3, List.forall_mem_cons.mpr ⟨lw_p4, List.forall_mem_cons.mpr ⟨lw_p5, List.forall_mem_cons.mpr ⟨lw_p6, List.forall_mem_cons.mpr ⟨lw_p7, List.forall_mem_cons.mpr ⟨lw_p8, List.forall_mem_cons.mpr ⟨lw_p9, List.forall_mem_cons.mpr ⟨lw_p10, List.forall_mem_cons.mpr ⟨lw_p11, List.forall_mem_cons.mpr ⟨lw_p12, List.forall_mem_cons.mpr ⟨lw_p13, List.forall_mem_cons.mpr ⟨lw_p14, List.forall_mem_cons.mpr ⟨lw_p15, fun _ h => absurd h List.not_mem_nil⟩⟩⟩⟩⟩⟩⟩⟩⟩⟩⟩⟩⟩⟩⟩⟩
theorem lw_p16 : lw_okq (⟨"AgeFerry$Trip", "atLeast", "(III)I"⟩, 4) := ⟨⟨by decide +kernel, by decide +kernel⟩, List.mem_of_getElem? (i := 119) (by decide +kernel), List.mem_of_getElem? (i := 531) (by decide +kernel), List.mem_of_getElem? (i := 532) (by decide +kernel)⟩
theorem lw_p17 : lw_okq (⟨"AgeFerry$Trip", "meet", "(I)V"⟩, 4) := ⟨⟨by decide +kernel, by decide +kernel⟩, List.mem_of_getElem? (i := 119) (by decide +kernel), List.mem_of_getElem? (i := 540) (by decide +kernel), List.mem_of_getElem? (i := 541) (by decide +kernel)⟩
theorem lw_p18 : lw_okq (⟨"AgeFerry$Sightings", "otherOf", "(II)I"⟩, 4) := ⟨⟨by decide +kernel, by decide +kernel⟩, List.mem_of_getElem? (i := 138) (by decide +kernel), List.mem_of_getElem? (i := 569) (by decide +kernel), List.mem_of_getElem? (i := 570) (by decide +kernel)⟩
theorem lw_p19 : lw_okq (⟨"AgeFerry", "writeBoats", "(LAgeFerry$Sheet;)V"⟩, 8) := ⟨⟨by decide +kernel, by decide +kernel⟩, List.mem_of_getElem? (i := 13) (by decide +kernel), List.mem_of_getElem? (i := 644) (by decide +kernel), List.mem_of_getElem? (i := 645) (by decide +kernel)⟩
theorem lw_p20 : lw_okq (⟨"AgeFerryModel", "met", "(I)I"⟩, 31) := ⟨⟨by decide +kernel, by decide +kernel⟩, List.mem_of_getElem? (i := 684) (by decide +kernel), List.mem_of_getElem? (i := 797) (by decide +kernel), List.mem_of_getElem? (i := 798) (by decide +kernel)⟩
theorem lw_p21 : lw_okq (⟨"AgeFerryModel", "lacks", "(III)I"⟩, 31) := ⟨⟨by decide +kernel, by decide +kernel⟩, List.mem_of_getElem? (i := 684) (by decide +kernel), List.mem_of_getElem? (i := 809) (by decide +kernel), List.mem_of_getElem? (i := 810) (by decide +kernel)⟩
theorem lw_p22 : lw_okq (⟨"AgeFerryModel", "reads", "()I"⟩, 31) := ⟨⟨by decide +kernel, by decide +kernel⟩, List.mem_of_getElem? (i := 684) (by decide +kernel), List.mem_of_getElem? (i := 838) (by decide +kernel), List.mem_of_getElem? (i := 839) (by decide +kernel)⟩
theorem lw_p23 : lw_okq (⟨"AgeFerryModel", "readsPart", "()Z"⟩, 31) := ⟨⟨by decide +kernel, by decide +kernel⟩, List.mem_of_getElem? (i := 684) (by decide +kernel), List.mem_of_getElem? (i := 842) (by decide +kernel), List.mem_of_getElem? (i := 843) (by decide +kernel)⟩
theorem lw_p24 : lw_okq (⟨"AgeFerryModel", "here", "()I"⟩, 31) := ⟨⟨by decide +kernel, by decide +kernel⟩, List.mem_of_getElem? (i := 684) (by decide +kernel), List.mem_of_getElem? (i := 846) (by decide +kernel), List.mem_of_getElem? (i := 847) (by decide +kernel)⟩
theorem lw_p25 : lw_okq (⟨"AgeFerryModel", "nobody", "()I"⟩, 31) := ⟨⟨by decide +kernel, by decide +kernel⟩, List.mem_of_getElem? (i := 684) (by decide +kernel), List.mem_of_getElem? (i := 852) (by decide +kernel), List.mem_of_getElem? (i := 853) (by decide +kernel)⟩
theorem lw_p26 : lw_okq (⟨"AgeFerryModel", "isPerson", "(I)Z"⟩, 31) := ⟨⟨by decide +kernel, by decide +kernel⟩, List.mem_of_getElem? (i := 684) (by decide +kernel), List.mem_of_getElem? (i := 860) (by decide +kernel), List.mem_of_getElem? (i := 861) (by decide +kernel)⟩
theorem lw_p27 : lw_okq (⟨"AgeFerryModel", "toldOf", "(I)I"⟩, 31) := ⟨⟨by decide +kernel, by decide +kernel⟩, List.mem_of_getElem? (i := 684) (by decide +kernel), List.mem_of_getElem? (i := 867) (by decide +kernel), List.mem_of_getElem? (i := 868) (by decide +kernel)⟩
theorem lw_p28 : lw_okq (⟨"AgeFerryModel", "whole", "()I"⟩, 31) := ⟨⟨by decide +kernel, by decide +kernel⟩, List.mem_of_getElem? (i := 684) (by decide +kernel), List.mem_of_getElem? (i := 906) (by decide +kernel), List.mem_of_getElem? (i := 907) (by decide +kernel)⟩
theorem lw_p29 : lw_okq (⟨"AgeFerryModel", "costOf", "(I)I"⟩, 31) := ⟨⟨by decide +kernel, by decide +kernel⟩, List.mem_of_getElem? (i := 684) (by decide +kernel), List.mem_of_getElem? (i := 910) (by decide +kernel), List.mem_of_getElem? (i := 911) (by decide +kernel)⟩
theorem lw_p30 : lw_okq (⟨"AgeFerryModel", "fareOf", "(I)I"⟩, 31) := ⟨⟨by decide +kernel, by decide +kernel⟩, List.mem_of_getElem? (i := 684) (by decide +kernel), List.mem_of_getElem? (i := 917) (by decide +kernel), List.mem_of_getElem? (i := 918) (by decide +kernel)⟩
theorem lw_p31 : lw_okq (⟨"AgeFerryModel", "findBoats", "()V"⟩, 31) := ⟨⟨by decide +kernel, by decide +kernel⟩, List.mem_of_getElem? (i := 684) (by decide +kernel), List.mem_of_getElem? (i := 929) (by decide +kernel), List.mem_of_getElem? (i := 930) (by decide +kernel)⟩
def lw_privs_2 : List (MethodName × Nat) := [(⟨"AgeFerry$Trip", "atLeast", "(III)I"⟩, 4), (⟨"AgeFerry$Trip", "meet", "(I)V"⟩, 4), (⟨"AgeFerry$Sightings", "otherOf", "(II)I"⟩, 4), (⟨"AgeFerry", "writeBoats", "(LAgeFerry$Sheet;)V"⟩, 8), (⟨"AgeFerryModel", "met", "(I)I"⟩, 31), (⟨"AgeFerryModel", "lacks", "(III)I"⟩, 31), (⟨"AgeFerryModel", "reads", "()I"⟩, 31), (⟨"AgeFerryModel", "readsPart", "()Z"⟩, 31), (⟨"AgeFerryModel", "here", "()I"⟩, 31), (⟨"AgeFerryModel", "nobody", "()I"⟩, 31), (⟨"AgeFerryModel", "isPerson", "(I)Z"⟩, 31), (⟨"AgeFerryModel", "toldOf", "(I)I"⟩, 31), (⟨"AgeFerryModel", "whole", "()I"⟩, 31), (⟨"AgeFerryModel", "costOf", "(I)I"⟩, 31), (⟨"AgeFerryModel", "fareOf", "(I)I"⟩, 31), (⟨"AgeFerryModel", "findBoats", "()V"⟩, 31)]
theorem lw_r2 : ∀ q ∈ lw_privs_2, lw_okq q := List.forall_mem_cons.mpr ⟨lw_p16, List.forall_mem_cons.mpr ⟨lw_p17, List.forall_mem_cons.mpr ⟨lw_p18, List.forall_mem_cons.mpr ⟨lw_p19, List.forall_mem_cons.mpr ⟨lw_p20, List.forall_mem_cons.mpr ⟨lw_p21, List.forall_mem_cons.mpr ⟨lw_p22, List.forall_mem_cons.mpr ⟨lw_p23, List.forall_mem_cons.mpr ⟨lw_p24, List.forall_mem_cons.mpr ⟨lw_p25, List.forall_mem_cons.mpr ⟨lw_p26, List.forall_mem_cons.mpr ⟨lw_p27, List.forall_mem_cons.mpr ⟨lw_p28, List.forall_mem_cons.mpr ⟨lw_p29, List.forall_mem_cons.mpr ⟨lw_p30, List.forall_mem_cons.mpr ⟨lw_p31, fun _ h => absurd h List.not_mem_nil⟩⟩⟩⟩⟩⟩⟩⟩⟩⟩⟩⟩⟩⟩⟩⟩
theorem lw_p32 : lw_okq (⟨"AgeFerryModel", "goTogether", "(I)Z"⟩, 31) := ⟨⟨by decide +kernel, by decide +kernel⟩, List.mem_of_getElem? (i := 684) (by decide +kernel), List.mem_of_getElem? (i := 933) (by decide +kernel), List.mem_of_getElem? (i := 934) (by decide +kernel)⟩
theorem lw_p33 : lw_okq (⟨"AgeFerryModel", "dayOf", "(II)I"⟩, 31) := ⟨⟨by decide +kernel, by decide +kernel⟩, List.mem_of_getElem? (i := 684) (by decide +kernel), List.mem_of_getElem? (i := 937) (by decide +kernel), List.mem_of_getElem? (i := 938) (by decide +kernel)⟩
theorem lw_p34 : lw_okq (⟨"AgeFerryModel", "findDay", "(I)V"⟩, 31) := ⟨⟨by decide +kernel, by decide +kernel⟩, List.mem_of_getElem? (i := 684) (by decide +kernel), List.mem_of_getElem? (i := 941) (by decide +kernel), List.mem_of_getElem? (i := 942) (by decide +kernel)⟩
theorem lw_p35 : lw_okq (⟨"AgeFerryModel", "tries", "(III)V"⟩, 31) := ⟨⟨by decide +kernel, by decide +kernel⟩, List.mem_of_getElem? (i := 684) (by decide +kernel), List.mem_of_getElem? (i := 945) (by decide +kernel), List.mem_of_getElem? (i := 946) (by decide +kernel)⟩
theorem lw_p36 : lw_okq (⟨"AgeFerryModel", "withOf", "(I)I"⟩, 31) := ⟨⟨by decide +kernel, by decide +kernel⟩, List.mem_of_getElem? (i := 684) (by decide +kernel), List.mem_of_getElem? (i := 953) (by decide +kernel), List.mem_of_getElem? (i := 954) (by decide +kernel)⟩
theorem lw_p37 : lw_okq (⟨"AgeFerryModel", "boatWith", "(I)I"⟩, 31) := ⟨⟨by decide +kernel, by decide +kernel⟩, List.mem_of_getElem? (i := 684) (by decide +kernel), List.mem_of_getElem? (i := 957) (by decide +kernel), List.mem_of_getElem? (i := 958) (by decide +kernel)⟩
theorem lw_p38 : lw_okq (⟨"AgeFerryModel", "oddNow", "()I"⟩, 31) := ⟨⟨by decide +kernel, by decide +kernel⟩, List.mem_of_getElem? (i := 684) (by decide +kernel), List.mem_of_getElem? (i := 965) (by decide +kernel), List.mem_of_getElem? (i := 966) (by decide +kernel)⟩
theorem lw_p39 : lw_okq (⟨"AgeFerryModel", "noDay", "(I)I"⟩, 31) := ⟨⟨by decide +kernel, by decide +kernel⟩, List.mem_of_getElem? (i := 684) (by decide +kernel), List.mem_of_getElem? (i := 973) (by decide +kernel), List.mem_of_getElem? (i := 974) (by decide +kernel)⟩
theorem lw_p40 : lw_okq (⟨"AgeFerryModel", "judgedOf", "(I)I"⟩, 31) := ⟨⟨by decide +kernel, by decide +kernel⟩, List.mem_of_getElem? (i := 684) (by decide +kernel), List.mem_of_getElem? (i := 977) (by decide +kernel), List.mem_of_getElem? (i := 978) (by decide +kernel)⟩
theorem lw_p41 : lw_okq (⟨"AgeFerryModel", "toldBoat", "(II)I"⟩, 31) := ⟨⟨by decide +kernel, by decide +kernel⟩, List.mem_of_getElem? (i := 684) (by decide +kernel), List.mem_of_getElem? (i := 981) (by decide +kernel), List.mem_of_getElem? (i := 982) (by decide +kernel)⟩
theorem lw_p42 : lw_okq (⟨"AgeFerryModel", "paysOf", "(II)J"⟩, 31) := ⟨⟨by decide +kernel, by decide +kernel⟩, List.mem_of_getElem? (i := 684) (by decide +kernel), List.mem_of_getElem? (i := 993) (by decide +kernel), List.mem_of_getElem? (i := 994) (by decide +kernel)⟩
theorem lw_p43 : lw_okq (⟨"AgeFerryModel", "shareOf", "(II)J"⟩, 31) := ⟨⟨by decide +kernel, by decide +kernel⟩, List.mem_of_getElem? (i := 684) (by decide +kernel), List.mem_of_getElem? (i := 1008) (by decide +kernel), List.mem_of_getElem? (i := 1009) (by decide +kernel)⟩
theorem lw_p44 : lw_okq (⟨"AgeFerryModel", "findLeasts", "()Z"⟩, 31) := ⟨⟨by decide +kernel, by decide +kernel⟩, List.mem_of_getElem? (i := 684) (by decide +kernel), List.mem_of_getElem? (i := 1012) (by decide +kernel), List.mem_of_getElem? (i := 1013) (by decide +kernel)⟩
theorem lw_p45 : lw_okq (⟨"AgeFerryModel", "liesOf", "(II)I"⟩, 31) := ⟨⟨by decide +kernel, by decide +kernel⟩, List.mem_of_getElem? (i := 684) (by decide +kernel), List.mem_of_getElem? (i := 1027) (by decide +kernel), List.mem_of_getElem? (i := 1028) (by decide +kernel)⟩
theorem lw_p46 : lw_okq (⟨"AgeFerryModel", "backNow", "()I"⟩, 31) := ⟨⟨by decide +kernel, by decide +kernel⟩, List.mem_of_getElem? (i := 684) (by decide +kernel), List.mem_of_getElem? (i := 1035) (by decide +kernel), List.mem_of_getElem? (i := 1036) (by decide +kernel)⟩
theorem lw_p47 : lw_okq (⟨"AgeFerryModel", "keepsWay", "()V"⟩, 31) := ⟨⟨by decide +kernel, by decide +kernel⟩, List.mem_of_getElem? (i := 684) (by decide +kernel), List.mem_of_getElem? (i := 1039) (by decide +kernel), List.mem_of_getElem? (i := 1040) (by decide +kernel)⟩
def lw_privs_3 : List (MethodName × Nat) := [(⟨"AgeFerryModel", "goTogether", "(I)Z"⟩, 31), (⟨"AgeFerryModel", "dayOf", "(II)I"⟩, 31), (⟨"AgeFerryModel", "findDay", "(I)V"⟩, 31), (⟨"AgeFerryModel", "tries", "(III)V"⟩, 31), (⟨"AgeFerryModel", "withOf", "(I)I"⟩, 31), (⟨"AgeFerryModel", "boatWith", "(I)I"⟩, 31), (⟨"AgeFerryModel", "oddNow", "()I"⟩, 31), (⟨"AgeFerryModel", "noDay", "(I)I"⟩, 31), (⟨"AgeFerryModel", "judgedOf", "(I)I"⟩, 31), (⟨"AgeFerryModel", "toldBoat", "(II)I"⟩, 31), (⟨"AgeFerryModel", "paysOf", "(II)J"⟩, 31), (⟨"AgeFerryModel", "shareOf", "(II)J"⟩, 31), (⟨"AgeFerryModel", "findLeasts", "()Z"⟩, 31), (⟨"AgeFerryModel", "liesOf", "(II)I"⟩, 31), (⟨"AgeFerryModel", "backNow", "()I"⟩, 31), (⟨"AgeFerryModel", "keepsWay", "()V"⟩, 31)]
theorem lw_r3 : ∀ q ∈ lw_privs_3, lw_okq q := List.forall_mem_cons.mpr ⟨lw_p32, List.forall_mem_cons.mpr ⟨lw_p33, List.forall_mem_cons.mpr ⟨lw_p34, List.forall_mem_cons.mpr ⟨lw_p35, List.forall_mem_cons.mpr ⟨lw_p36, List.forall_mem_cons.mpr ⟨lw_p37, List.forall_mem_cons.mpr ⟨lw_p38, List.forall_mem_cons.mpr ⟨lw_p39, List.forall_mem_cons.mpr ⟨lw_p40, List.forall_mem_cons.mpr ⟨lw_p41, List.forall_mem_cons.mpr ⟨lw_p42, List.forall_mem_cons.mpr ⟨lw_p43, List.forall_mem_cons.mpr ⟨lw_p44, List.forall_mem_cons.mpr ⟨lw_p45, List.forall_mem_cons.mpr ⟨lw_p46, List.forall_mem_cons.mpr ⟨lw_p47, fun _ h => absurd h List.not_mem_nil⟩⟩⟩⟩⟩⟩⟩⟩⟩⟩⟩⟩⟩⟩⟩⟩
theorem lw_p48 : lw_okq (⟨"AgeFerryModel", "goesOn", "()Z"⟩, 31) := ⟨⟨by decide +kernel, by decide +kernel⟩, List.mem_of_getElem? (i := 684) (by decide +kernel), List.mem_of_getElem? (i := 1043) (by decide +kernel), List.mem_of_getElem? (i := 1044) (by decide +kernel)⟩
theorem lw_p49 : lw_okq (⟨"AgeFerryModel", "agesOf", "(II)I"⟩, 31) := ⟨⟨by decide +kernel, by decide +kernel⟩, List.mem_of_getElem? (i := 684) (by decide +kernel), List.mem_of_getElem? (i := 1060) (by decide +kernel), List.mem_of_getElem? (i := 1061) (by decide +kernel)⟩
theorem lw_p50 : lw_okq (⟨"AgeFerryModel", "isSo", "(II)Z"⟩, 31) := ⟨⟨by decide +kernel, by decide +kernel⟩, List.mem_of_getElem? (i := 684) (by decide +kernel), List.mem_of_getElem? (i := 1064) (by decide +kernel), List.mem_of_getElem? (i := 1065) (by decide +kernel)⟩
theorem lw_p51 : lw_okq (⟨"AgeFerryModel", "lotOf", "(I)I"⟩, 31) := ⟨⟨by decide +kernel, by decide +kernel⟩, List.mem_of_getElem? (i := 684) (by decide +kernel), List.mem_of_getElem? (i := 1072) (by decide +kernel), List.mem_of_getElem? (i := 1073) (by decide +kernel)⟩
def lw_privs_4 : List (MethodName × Nat) := [(⟨"AgeFerryModel", "goesOn", "()Z"⟩, 31), (⟨"AgeFerryModel", "agesOf", "(II)I"⟩, 31), (⟨"AgeFerryModel", "isSo", "(II)Z"⟩, 31), (⟨"AgeFerryModel", "lotOf", "(I)I"⟩, 31)]
theorem lw_r4 : ∀ q ∈ lw_privs_4, lw_okq q := List.forall_mem_cons.mpr ⟨lw_p48, List.forall_mem_cons.mpr ⟨lw_p49, List.forall_mem_cons.mpr ⟨lw_p50, List.forall_mem_cons.mpr ⟨lw_p51, fun _ h => absurd h List.not_mem_nil⟩⟩⟩⟩
def lw_privs : List (MethodName × Nat) := lw_privs_1 ++ (lw_privs_2 ++ (lw_privs_3 ++ (lw_privs_4)))
def lw_tbl : List Cond := k2_sels lw_privs ++ tables_1
theorem lw_privs_ok : ∀ q ∈ lw_privs, lw_okq q := by
  show ∀ q ∈ lw_privs_1 ++ (lw_privs_2 ++ (lw_privs_3 ++ (lw_privs_4))), lw_okq q
  exact List.forall_mem_append.mpr ⟨lw_r1, List.forall_mem_append.mpr ⟨lw_r2, List.forall_mem_append.mpr ⟨lw_r3, lw_r4⟩⟩⟩
def lw_ws : List Cond := lw_tbl.filter goodWord
theorem lw_in {i : Nat} {c : Cond} (h : tables_1[i]? = some c) (hg : goodWord c = true := by rfl) : c ∈ lw_ws := List.mem_filter.mpr ⟨List.mem_append_right _ (List.mem_of_getElem? h), hg⟩
theorem lw_inp {i : Nat} {c : Cond} (h : (k2_sels lw_privs)[i]? = some c) (hg : goodWord c = true := by rfl) : c ∈ lw_ws := List.mem_filter.mpr ⟨List.mem_append_left _ (List.mem_of_getElem? h), hg⟩
theorem lw_ws_in {w : Cond} (h : w ∈ lw_ws) : w ∈ lw_tbl := (List.mem_filter.mp h).1
theorem lw_ws_good {w : Cond} (h : w ∈ lw_ws) : goodWord w = true := (List.mem_filter.mp h).2
end
section
abbrev mM : Type := MethodName × ByteArray × Nat × Option FieldType
def mD (y : mM) (pc : Nat) (i : Instr) (n pc2 : Nat) : Prop := decode y.2.1 pc = .ok (i, n) ∧ pc2 = pc + n
def mJ (y : mM) (pc : Nat) (i : Instr) (off : Int) (pc2 tgt : Nat) : Prop := decode y.2.1 pc = .ok (i, 3) ∧ pc2 = pc + 3 ∧ (pc : Int) + off = (tgt : Int)
def mOk (y : mM) (n : Nat) : Prop := Cond.code y.1 y.2.1 y.2.2.1 y.2.2.2 ∈ lw_ws ∧ Cond.initialized y.1.cls ∈ lw_ws ∧ ((y.1.cls ≠ "java/lang/invoke/MethodHandle" ∧ y.1.cls ≠ "java/lang/invoke/VarHandle") ∧ plainName y.1.cls = true ∧ y.2.2.1 ≤ 13 ∧ (parseMethodDescriptor y.1.desc).map (fun d => d.parameters.length) = some n ∧ y.1.cls ≠ "AgeFerryLaw")
def mLS (own : String) (idx : Nat) (y : mM) : Prop := Cond.methodLink own idx y.1 ∈ lw_ws ∧ Cond.static y.1 ∈ lw_ws
def mLV (own : String) (idx : Nat) (y : mM) : Prop := Cond.methodLink own idx y.1 ∈ lw_ws ∧ Cond.instanceMethod y.1 ∈ lw_ws ∧ Cond.selects y.1.cls y.1 y.1 ∈ lw_ws
def mT0 : u_T := fun k => match k with
  | 0 => ("AgeFerry$Days", "people", "LAgeFerry$People;", true)
  | 1 => ("AgeFerry$Days", "rules", "LAgeFerry$Rules;", true)
  | 2 => ("AgeFerry$Days", "prices", "[I", true)
  | 3 => ("AgeFerry$Days", "needs", "[I", true)
  | 4 => ("AgeFerry$Days", "best", "[I", true)
  | 5 => ("AgeFerry$Days", "most", "[I", true)
  | _ => ("AgeFerry$Days", "outdated", "Z", false)
def mTy0 : Nat → FieldType := fun k => match k with
  | 0 => .object "AgeFerry$People"
  | 1 => .object "AgeFerry$Rules"
  | 2 => .array .int
  | 3 => .array .int
  | 4 => .array .int
  | 5 => .array .int
  | _ => .boolean
theorem mNm0 : ∀ a, a < 7 → ∀ b, b < 7 → a ≠ b → (mT0 a).2.1 ≠ (mT0 b).2.1 := by decide +kernel
theorem mTk0 : ∀ k, k < 7 → parseFieldDescriptor (mT0 k).2.2.1 = some (mTy0 k) := by decide +kernel
theorem mIn0 : ∀ w ∈ u_ws "AgeFerry$Days" mT0 7, w ∈ lw_ws := fun w h => List.mem_filter.mpr ⟨(goodIn_p (big := lw_tbl) (u_ws "AgeFerry$Days" mT0 7) [] (by decide +kernel) (by decide +kernel) w h).1, List.all_eq_true.mp (show (u_ws "AgeFerry$Days" mT0 7).all goodWord = true by decide +kernel) w h⟩
def mT1 : u_T := fun k => match k with
  | 0 => ("AgeFerry$People", "text", "[I", true)
  | 1 => ("AgeFerry$People", "ages", "[I", true)
  | 2 => ("AgeFerry$People", "told", "[I", true)
  | 3 => ("AgeFerry$People", "weights", "[I", true)
  | 4 => ("AgeFerry$People", "hours", "[I", true)
  | 5 => ("AgeFerry$People", "lies", "[I", true)
  | 6 => ("AgeFerry$People", "length", "I", false)
  | 7 => ("AgeFerry$People", "number", "I", false)
  | _ => ("AgeFerry$People", "fault", "I", false)
def mTy1 : Nat → FieldType := fun k => match k with
  | 0 => .array .int
  | 1 => .array .int
  | 2 => .array .int
  | 3 => .array .int
  | 4 => .array .int
  | 5 => .array .int
  | 6 => .int
  | 7 => .int
  | _ => .int
theorem mNm1 : ∀ a, a < 9 → ∀ b, b < 9 → a ≠ b → (mT1 a).2.1 ≠ (mT1 b).2.1 := by decide +kernel
theorem mTk1 : ∀ k, k < 9 → parseFieldDescriptor (mT1 k).2.2.1 = some (mTy1 k) := by decide +kernel
theorem mIn1 : ∀ w ∈ u_ws "AgeFerry$People" mT1 9, w ∈ lw_ws := fun w h => List.mem_filter.mpr ⟨(goodIn_p (big := lw_tbl) (u_ws "AgeFerry$People" mT1 9) [] (by decide +kernel) (by decide +kernel) w h).1, List.all_eq_true.mp (show (u_ws "AgeFerry$People" mT1 9).all goodWord = true by decide +kernel) w h⟩
def mT2 : u_T := fun k => match k with
  | 0 => ("AgeFerry$Rules", "values", "[I", true)
  | 1 => ("AgeFerry$Rules", "wont", "[I", true)
  | _ => ("AgeFerry$Rules", "must", "[I", true)
def mTy2 : Nat → FieldType := fun k => match k with
  | 0 => .array .int
  | 1 => .array .int
  | _ => .array .int
theorem mNm2 : ∀ a, a < 3 → ∀ b, b < 3 → a ≠ b → (mT2 a).2.1 ≠ (mT2 b).2.1 := by decide +kernel
theorem mTk2 : ∀ k, k < 3 → parseFieldDescriptor (mT2 k).2.2.1 = some (mTy2 k) := by decide +kernel
theorem mIn2 : ∀ w ∈ u_ws "AgeFerry$Rules" mT2 3, w ∈ lw_ws := fun w h => List.mem_filter.mpr ⟨(goodIn_p (big := lw_tbl) (u_ws "AgeFerry$Rules" mT2 3) [] (by decide +kernel) (by decide +kernel) w h).1, List.all_eq_true.mp (show (u_ws "AgeFerry$Rules" mT2 3).all goodWord = true by decide +kernel) w h⟩
def mT3 : u_T := fun k => match k with
  | 0 => ("AgeFerry$Sheet", "items", "[I", true)
  | 1 => ("AgeFerry$Sheet", "form", "I", false)
  | _ => ("AgeFerry$Sheet", "length", "I", false)
def mTy3 : Nat → FieldType := fun k => match k with
  | 0 => .array .int
  | 1 => .int
  | _ => .int
theorem mNm3 : ∀ a, a < 3 → ∀ b, b < 3 → a ≠ b → (mT3 a).2.1 ≠ (mT3 b).2.1 := by decide +kernel
theorem mTk3 : ∀ k, k < 3 → parseFieldDescriptor (mT3 k).2.2.1 = some (mTy3 k) := by decide +kernel
theorem mIn3 : ∀ w ∈ u_ws "AgeFerry$Sheet" mT3 3, w ∈ lw_ws := fun w h => List.mem_filter.mpr ⟨(goodIn_p (big := lw_tbl) (u_ws "AgeFerry$Sheet" mT3 3) [] (by decide +kernel) (by decide +kernel) w h).1, List.all_eq_true.mp (show (u_ws "AgeFerry$Sheet" mT3 3).all goodWord = true by decide +kernel) w h⟩
def mT4 : u_T := fun k => match k with
  | 0 => ("AgeFerry$Sightings", "ones", "[I", true)
  | 1 => ("AgeFerry$Sightings", "others", "[I", true)
  | 2 => ("AgeFerry$Sightings", "fares", "[I", true)
  | _ => ("AgeFerry$Sightings", "number", "I", false)
def mTy4 : Nat → FieldType := fun k => match k with
  | 0 => .array .int
  | 1 => .array .int
  | 2 => .array .int
  | _ => .int
theorem mNm4 : ∀ a, a < 4 → ∀ b, b < 4 → a ≠ b → (mT4 a).2.1 ≠ (mT4 b).2.1 := by decide +kernel
theorem mTk4 : ∀ k, k < 4 → parseFieldDescriptor (mT4 k).2.2.1 = some (mTy4 k) := by decide +kernel
theorem mIn4 : ∀ w ∈ u_ws "AgeFerry$Sightings" mT4 4, w ∈ lw_ws := fun w h => List.mem_filter.mpr ⟨(goodIn_p (big := lw_tbl) (u_ws "AgeFerry$Sightings" mT4 4) [] (by decide +kernel) (by decide +kernel) w h).1, List.all_eq_true.mp (show (u_ws "AgeFerry$Sightings" mT4 4).all goodWord = true by decide +kernel) w h⟩
def mT5 : u_T := fun k => match k with
  | 0 => ("AgeFerry$Trip", "days", "LAgeFerry$Days;", true)
  | 1 => ("AgeFerry$Trip", "met", "[I", true)
  | 2 => ("AgeFerry$Trip", "all", "I", false)
  | _ => ("AgeFerry$Trip", "least", "I", false)
def mTy5 : Nat → FieldType := fun k => match k with
  | 0 => .object "AgeFerry$Days"
  | 1 => .array .int
  | 2 => .int
  | _ => .int
theorem mNm5 : ∀ a, a < 4 → ∀ b, b < 4 → a ≠ b → (mT5 a).2.1 ≠ (mT5 b).2.1 := by decide +kernel
theorem mTk5 : ∀ k, k < 4 → parseFieldDescriptor (mT5 k).2.2.1 = some (mTy5 k) := by decide +kernel
theorem mIn5 : ∀ w ∈ u_ws "AgeFerry$Trip" mT5 4, w ∈ lw_ws := fun w h => List.mem_filter.mpr ⟨(goodIn_p (big := lw_tbl) (u_ws "AgeFerry$Trip" mT5 4) [] (by decide +kernel) (by decide +kernel) w h).1, List.all_eq_true.mp (show (u_ws "AgeFerry$Trip" mT5 4).all goodWord = true by decide +kernel) w h⟩
def mT6 : u_T := fun k => match k with
  | 0 => ("AgeFerry", "people", "LAgeFerry$People;", true)
  | 1 => ("AgeFerry", "rules", "LAgeFerry$Rules;", true)
  | 2 => ("AgeFerry", "days", "LAgeFerry$Days;", true)
  | 3 => ("AgeFerry", "trip", "LAgeFerry$Trip;", true)
  | 4 => ("AgeFerry", "sightings", "LAgeFerry$Sightings;", true)
  | 5 => ("AgeFerry", "sheets", "[LAgeFerry$Sheet;", true)
  | 6 => ("AgeFerry", "boats", "[I", true)
  | _ => ("AgeFerry", "latestFinding", "I", false)
def mTy6 : Nat → FieldType := fun k => match k with
  | 0 => .object "AgeFerry$People"
  | 1 => .object "AgeFerry$Rules"
  | 2 => .object "AgeFerry$Days"
  | 3 => .object "AgeFerry$Trip"
  | 4 => .object "AgeFerry$Sightings"
  | 5 => .array (.object "AgeFerry$Sheet")
  | 6 => .array .int
  | _ => .int
theorem mNm6 : ∀ a, a < 8 → ∀ b, b < 8 → a ≠ b → (mT6 a).2.1 ≠ (mT6 b).2.1 := by decide +kernel
theorem mTk6 : ∀ k, k < 8 → parseFieldDescriptor (mT6 k).2.2.1 = some (mTy6 k) := by decide +kernel
theorem mIn6 : ∀ w ∈ u_ws "AgeFerry" mT6 8, w ∈ lw_ws := fun w h => List.mem_filter.mpr ⟨(goodIn_p (big := lw_tbl) (u_ws "AgeFerry" mT6 8) [] (by decide +kernel) (by decide +kernel) w h).1, List.all_eq_true.mp (show (u_ws "AgeFerry" mT6 8).all goodWord = true by decide +kernel) w h⟩
def mT7 : u_T := fun k => match k with
  | 0 => ("AgeFerryModel", "forms", "[I", true)
  | 1 => ("AgeFerryModel", "sizes", "[I", true)
  | 2 => ("AgeFerryModel", "items", "[I", true)
  | 3 => ("AgeFerryModel", "moved", "[I", true)
  | 4 => ("AgeFerryModel", "latest", "I", false)
  | 5 => ("AgeFerryModel", "text", "[I", true)
  | 6 => ("AgeFerryModel", "typed", "I", false)
  | 7 => ("AgeFerryModel", "at", "I", false)
  | 8 => ("AgeFerryModel", "people", "I", false)
  | 9 => ("AgeFerryModel", "ages", "[I", true)
  | 10 => ("AgeFerryModel", "weights", "[I", true)
  | 11 => ("AgeFerryModel", "comes", "[I", true)
  | 12 => ("AgeFerryModel", "lies", "[I", true)
  | 13 => ("AgeFerryModel", "settings", "[I", true)
  | 14 => ("AgeFerryModel", "wont", "[I", true)
  | 15 => ("AgeFerryModel", "must", "[I", true)
  | 16 => ("AgeFerryModel", "costs", "[I", true)
  | 17 => ("AgeFerryModel", "partners", "[I", true)
  | 18 => ("AgeFerryModel", "may", "[Z", true)
  | 19 => ("AgeFerryModel", "least", "[I", true)
  | 20 => ("AgeFerryModel", "many", "[I", true)
  | 21 => ("AgeFerryModel", "boatOf", "[I", true)
  | 22 => ("AgeFerryModel", "most", "[I", true)
  | 23 => ("AgeFerryModel", "leasts", "[I", true)
  | 24 => ("AgeFerryModel", "row", "[I", true)
  | 25 => ("AgeFerryModel", "pairsOf", "[I", true)
  | 26 => ("AgeFerryModel", "wayCosts", "[I", true)
  | 27 => ("AgeFerryModel", "ways", "I", false)
  | 28 => ("AgeFerryModel", "sights", "I", false)
  | 29 => ("AgeFerryModel", "seen", "[I", true)
  | _ => ("AgeFerryModel", "drawn", "[I", true)
def mTy7 : Nat → FieldType := fun k => match k with
  | 0 => .array .int
  | 1 => .array .int
  | 2 => .array .int
  | 3 => .array .int
  | 4 => .int
  | 5 => .array .int
  | 6 => .int
  | 7 => .int
  | 8 => .int
  | 9 => .array .int
  | 10 => .array .int
  | 11 => .array .int
  | 12 => .array .int
  | 13 => .array .int
  | 14 => .array .int
  | 15 => .array .int
  | 16 => .array .int
  | 17 => .array .int
  | 18 => .array .boolean
  | 19 => .array .int
  | 20 => .array .int
  | 21 => .array .int
  | 22 => .array .int
  | 23 => .array .int
  | 24 => .array .int
  | 25 => .array .int
  | 26 => .array .int
  | 27 => .int
  | 28 => .int
  | 29 => .array .int
  | _ => .array .int
theorem mNm7 : ∀ a, a < 31 → ∀ b, b < 31 → a ≠ b → (mT7 a).2.1 ≠ (mT7 b).2.1 := by decide +kernel
theorem mTk7 : ∀ k, k < 31 → parseFieldDescriptor (mT7 k).2.2.1 = some (mTy7 k) := by decide +kernel
theorem mIn7 : ∀ w ∈ u_ws "AgeFerryModel" mT7 31, w ∈ lw_ws := fun w h => List.mem_filter.mpr ⟨(goodIn_p (big := lw_tbl) (u_ws "AgeFerryModel" mT7 31) [] (by decide +kernel) (by decide +kernel) w h).1, List.all_eq_true.mp (show (u_ws "AgeFerryModel" mT7 31).all goodWord = true by decide +kernel) w h⟩
abbrev mCl : List vw_C := [("AgeFerry$Days", mT0, 7), ("AgeFerry$People", mT1, 9), ("AgeFerry$Rules", mT2, 3), ("AgeFerry$Sheet", mT3, 3), ("AgeFerry$Sightings", mT4, 4), ("AgeFerry$Trip", mT5, 4), ("AgeFerry", mT6, 8), ("AgeFerryModel", mT7, 31)]
theorem mCl_ok : ∀ (ci : Nat) (q : vw_C), mCl[ci]? = some q → (∀ w ∈ u_ws q.1 q.2.1 q.2.2, w ∈ lw_ws) ∧ (∃ ty0 : Nat → FieldType, ∀ k, k < q.2.2 → parseFieldDescriptor (q.2.1 k).2.2.1 = some (ty0 k)) ∧ (∀ a, a < q.2.2 → ∀ b, b < q.2.2 → a ≠ b → (q.2.1 a).2.1 ≠ (q.2.1 b).2.1)
  | 0, _, h => by cases h; exact ⟨mIn0, ⟨mTy0, mTk0⟩, mNm0⟩
  | 1, _, h => by cases h; exact ⟨mIn1, ⟨mTy1, mTk1⟩, mNm1⟩
  | 2, _, h => by cases h; exact ⟨mIn2, ⟨mTy2, mTk2⟩, mNm2⟩
  | 3, _, h => by cases h; exact ⟨mIn3, ⟨mTy3, mTk3⟩, mNm3⟩
  | 4, _, h => by cases h; exact ⟨mIn4, ⟨mTy4, mTk4⟩, mNm4⟩
  | 5, _, h => by cases h; exact ⟨mIn5, ⟨mTy5, mTk5⟩, mNm5⟩
  | 6, _, h => by cases h; exact ⟨mIn6, ⟨mTy6, mTk6⟩, mNm6⟩
  | 7, _, h => by cases h; exact ⟨mIn7, ⟨mTy7, mTk7⟩, mNm7⟩
  | _ + 8, _, h => by simp at h
def mFd (own : String) (idx ci j : Nat) : Prop := ∃ q : vw_C, mCl[ci]? = some q ∧ j < q.2.2 ∧ Cond.fieldLink own idx (q.2.1 j).1 (q.2.1 j).2.1 (q.2.1 j).2.2.1 ∈ lw_ws
def mFp (own : String) (idx ci j : Nat) (ds : String) : Prop := ∃ q : vw_C, mCl[ci]? = some q ∧ j < q.2.2 ∧ Cond.fieldLink own idx (q.2.1 j).1 (q.2.1 j).2.1 (q.2.1 j).2.2.1 ∈ lw_ws ∧ (q.2.1 j).2.2.2 = false ∧ (q.2.1 j).2.2.1 = ds
theorem fd_F_10 : mFd "AgeFerry" 10 6 0 := ⟨_, rfl, by decide, lw_in (i := 177) (by decide +kernel)⟩
theorem fd_F_19 : mFd "AgeFerry" 19 6 1 := ⟨_, rfl, by decide, lw_in (i := 178) (by decide +kernel)⟩
theorem fd_F_28 : mFd "AgeFerry" 28 6 2 := ⟨_, rfl, by decide, lw_in (i := 179) (by decide +kernel)⟩
theorem fd_F_37 : mFd "AgeFerry" 37 6 3 := ⟨_, rfl, by decide, lw_in (i := 180) (by decide +kernel)⟩
theorem fd_F_44 : mFd "AgeFerry" 44 6 4 := ⟨_, rfl, by decide, lw_in (i := 181) (by decide +kernel)⟩
theorem fd_F_50 : mFd "AgeFerry" 50 6 5 := ⟨_, rfl, by decide, lw_in (i := 182) (by decide +kernel)⟩
theorem fd_F_55 : mFd "AgeFerry" 55 6 6 := ⟨_, rfl, by decide, lw_in (i := 183) (by decide +kernel)⟩
theorem fd_F_78 : mFd "AgeFerry" 78 1 8 := ⟨_, rfl, by decide, lw_in (i := 48) (by decide +kernel)⟩
theorem fp_F_78 : mFp "AgeFerry" 78 1 8 "I" := ⟨_, rfl, by decide, lw_in (i := 48) (by decide +kernel), rfl, rfl⟩
theorem fd_F_86 : mFd "AgeFerry" 86 1 1 := ⟨_, rfl, by decide, lw_in (i := 28) (by decide +kernel)⟩
theorem fd_F_89 : mFd "AgeFerry" 89 1 2 := ⟨_, rfl, by decide, lw_in (i := 32) (by decide +kernel)⟩
theorem fd_F_95 : mFd "AgeFerry" 95 1 3 := ⟨_, rfl, by decide, lw_in (i := 35) (by decide +kernel)⟩
theorem fd_F_98 : mFd "AgeFerry" 98 1 4 := ⟨_, rfl, by decide, lw_in (i := 38) (by decide +kernel)⟩
theorem fd_F_108 : mFd "AgeFerry" 108 1 5 := ⟨_, rfl, by decide, lw_in (i := 40) (by decide +kernel)⟩
theorem fd_F_124 : mFd "AgeFerry" 124 3 2 := ⟨_, rfl, by decide, lw_in (i := 169) (by decide +kernel)⟩
theorem fp_F_124 : mFp "AgeFerry" 124 3 2 "I" := ⟨_, rfl, by decide, lw_in (i := 169) (by decide +kernel), rfl, rfl⟩
theorem fd_F_140 : mFd "AgeFerry" 140 2 0 := ⟨_, rfl, by decide, lw_in (i := 77) (by decide +kernel)⟩
theorem fd_F_143 : mFd "AgeFerry" 143 2 1 := ⟨_, rfl, by decide, lw_in (i := 79) (by decide +kernel)⟩
theorem fd_F_146 : mFd "AgeFerry" 146 2 2 := ⟨_, rfl, by decide, lw_in (i := 82) (by decide +kernel)⟩
theorem fd_F_177 : mFd "AgeFerry" 177 1 7 := ⟨_, rfl, by decide, lw_in (i := 45) (by decide +kernel)⟩
theorem fp_F_177 : mFp "AgeFerry" 177 1 7 "I" := ⟨_, rfl, by decide, lw_in (i := 45) (by decide +kernel), rfl, rfl⟩
theorem fd_F_264 : mFd "AgeFerry" 264 6 7 := ⟨_, rfl, by decide, lw_in (i := 184) (by decide +kernel)⟩
theorem fp_F_264 : mFp "AgeFerry" 264 6 7 "I" := ⟨_, rfl, by decide, lw_in (i := 184) (by decide +kernel), rfl, rfl⟩
theorem fd_F_267 : mFd "AgeFerry" 267 3 1 := ⟨_, rfl, by decide, lw_in (i := 167) (by decide +kernel)⟩
theorem fp_F_267 : mFp "AgeFerry" 267 3 1 "I" := ⟨_, rfl, by decide, lw_in (i := 167) (by decide +kernel), rfl, rfl⟩
theorem fd_F_273 : mFd "AgeFerry" 273 3 0 := ⟨_, rfl, by decide, lw_in (i := 165) (by decide +kernel)⟩
theorem fd_F_286 : mFd "AgeFerry" 286 1 6 := ⟨_, rfl, by decide, lw_in (i := 43) (by decide +kernel)⟩
theorem fp_F_286 : mFp "AgeFerry" 286 1 6 "I" := ⟨_, rfl, by decide, lw_in (i := 43) (by decide +kernel), rfl, rfl⟩
theorem fd_F_297 : mFd "AgeFerry" 297 4 3 := ⟨_, rfl, by decide, lw_in (i := 147) (by decide +kernel)⟩
theorem fp_F_297 : mFp "AgeFerry" 297 4 3 "I" := ⟨_, rfl, by decide, lw_in (i := 147) (by decide +kernel), rfl, rfl⟩
theorem fd_D_11 : mFd "AgeFerry$Days" 11 0 2 := ⟨_, rfl, by decide, lw_in (i := 98) (by decide +kernel)⟩
theorem fd_D_15 : mFd "AgeFerry$Days" 15 0 3 := ⟨_, rfl, by decide, lw_in (i := 99) (by decide +kernel)⟩
theorem fd_D_18 : mFd "AgeFerry$Days" 18 0 4 := ⟨_, rfl, by decide, lw_in (i := 100) (by decide +kernel)⟩
theorem fd_D_21 : mFd "AgeFerry$Days" 21 0 5 := ⟨_, rfl, by decide, lw_in (i := 101) (by decide +kernel)⟩
theorem fd_D_24 : mFd "AgeFerry$Days" 24 0 6 := ⟨_, rfl, by decide, lw_in (i := 102) (by decide +kernel)⟩
theorem fp_D_24 : mFp "AgeFerry$Days" 24 0 6 "Z" := ⟨_, rfl, by decide, lw_in (i := 102) (by decide +kernel), rfl, rfl⟩
theorem fd_D_28 : mFd "AgeFerry$Days" 28 0 0 := ⟨_, rfl, by decide, lw_in (i := 96) (by decide +kernel)⟩
theorem fd_D_32 : mFd "AgeFerry$Days" 32 0 1 := ⟨_, rfl, by decide, lw_in (i := 97) (by decide +kernel)⟩
theorem fd_D_63 : mFd "AgeFerry$Days" 63 2 0 := ⟨_, rfl, by decide, lw_in (i := 76) (by decide +kernel)⟩
theorem fd_D_68 : mFd "AgeFerry$Days" 68 1 2 := ⟨_, rfl, by decide, lw_in (i := 31) (by decide +kernel)⟩
theorem fd_D_80 : mFd "AgeFerry$Days" 80 1 3 := ⟨_, rfl, by decide, lw_in (i := 34) (by decide +kernel)⟩
theorem fd_D_83 : mFd "AgeFerry$Days" 83 1 4 := ⟨_, rfl, by decide, lw_in (i := 37) (by decide +kernel)⟩
theorem fs_D_95 : Cond.fieldLink "AgeFerry$Days" 95 "AgeFerry$Days" "FACTORIALS" "[I" ∈ lw_ws := lw_in (i := 476) (by decide +kernel)
theorem fd_D_101 : mFd "AgeFerry$Days" 101 1 7 := ⟨_, rfl, by decide, lw_in (i := 46) (by decide +kernel)⟩
theorem fp_D_101 : mFp "AgeFerry$Days" 101 1 7 "I" := ⟨_, rfl, by decide, lw_in (i := 46) (by decide +kernel), rfl, rfl⟩
theorem fd_D_108 : mFd "AgeFerry$Days" 108 1 5 := ⟨_, rfl, by decide, lw_in (i := 41) (by decide +kernel)⟩
theorem fd_D_124 : mFd "AgeFerry$Days" 124 2 1 := ⟨_, rfl, by decide, lw_in (i := 80) (by decide +kernel)⟩
theorem fd_P_11 : mFd "AgeFerry$People" 11 1 0 := ⟨_, rfl, by decide, lw_in (i := 26) (by decide +kernel)⟩
theorem fd_P_15 : mFd "AgeFerry$People" 15 1 1 := ⟨_, rfl, by decide, lw_in (i := 27) (by decide +kernel)⟩
theorem fd_P_18 : mFd "AgeFerry$People" 18 1 2 := ⟨_, rfl, by decide, lw_in (i := 29) (by decide +kernel)⟩
theorem fd_P_21 : mFd "AgeFerry$People" 21 1 3 := ⟨_, rfl, by decide, lw_in (i := 33) (by decide +kernel)⟩
theorem fd_P_24 : mFd "AgeFerry$People" 24 1 4 := ⟨_, rfl, by decide, lw_in (i := 36) (by decide +kernel)⟩
theorem fd_P_27 : mFd "AgeFerry$People" 27 1 5 := ⟨_, rfl, by decide, lw_in (i := 39) (by decide +kernel)⟩
theorem fd_P_30 : mFd "AgeFerry$People" 30 1 8 := ⟨_, rfl, by decide, lw_in (i := 47) (by decide +kernel)⟩
theorem fp_P_30 : mFp "AgeFerry$People" 30 1 8 "I" := ⟨_, rfl, by decide, lw_in (i := 47) (by decide +kernel), rfl, rfl⟩
theorem fd_P_34 : mFd "AgeFerry$People" 34 1 6 := ⟨_, rfl, by decide, lw_in (i := 42) (by decide +kernel)⟩
theorem fp_P_34 : mFp "AgeFerry$People" 34 1 6 "I" := ⟨_, rfl, by decide, lw_in (i := 42) (by decide +kernel), rfl, rfl⟩
theorem fd_P_40 : mFd "AgeFerry$People" 40 1 7 := ⟨_, rfl, by decide, lw_in (i := 44) (by decide +kernel)⟩
theorem fp_P_40 : mFp "AgeFerry$People" 40 1 7 "I" := ⟨_, rfl, by decide, lw_in (i := 44) (by decide +kernel), rfl, rfl⟩
theorem fd_R_9 : mFd "AgeFerry$Rules" 9 2 0 := ⟨_, rfl, by decide, lw_in (i := 75) (by decide +kernel)⟩
theorem fd_R_15 : mFd "AgeFerry$Rules" 15 2 1 := ⟨_, rfl, by decide, lw_in (i := 78) (by decide +kernel)⟩
theorem fd_R_18 : mFd "AgeFerry$Rules" 18 2 2 := ⟨_, rfl, by decide, lw_in (i := 81) (by decide +kernel)⟩
theorem fs_R_21 : Cond.fieldLink "AgeFerry$Rules" 21 "AgeFerry$Rules" "LEAST" "[I" ∈ lw_ws := lw_in (i := 316) (by decide +kernel)
theorem fs_R_24 : Cond.fieldLink "AgeFerry$Rules" 24 "AgeFerry$Rules" "GREATEST" "[I" ∈ lw_ws := lw_in (i := 318) (by decide +kernel)
theorem fd_S_9 : mFd "AgeFerry$Sheet" 9 3 0 := ⟨_, rfl, by decide, lw_in (i := 164) (by decide +kernel)⟩
theorem fd_S_13 : mFd "AgeFerry$Sheet" 13 3 2 := ⟨_, rfl, by decide, lw_in (i := 168) (by decide +kernel)⟩
theorem fp_S_13 : mFp "AgeFerry$Sheet" 13 3 2 "I" := ⟨_, rfl, by decide, lw_in (i := 168) (by decide +kernel), rfl, rfl⟩
theorem fd_S_17 : mFd "AgeFerry$Sheet" 17 3 1 := ⟨_, rfl, by decide, lw_in (i := 166) (by decide +kernel)⟩
theorem fp_S_17 : mFp "AgeFerry$Sheet" 17 3 1 "I" := ⟨_, rfl, by decide, lw_in (i := 166) (by decide +kernel), rfl, rfl⟩
theorem fd_G_11 : mFd "AgeFerry$Sightings" 11 4 0 := ⟨_, rfl, by decide, lw_in (i := 143) (by decide +kernel)⟩
theorem fd_G_15 : mFd "AgeFerry$Sightings" 15 4 1 := ⟨_, rfl, by decide, lw_in (i := 144) (by decide +kernel)⟩
theorem fd_G_18 : mFd "AgeFerry$Sightings" 18 4 2 := ⟨_, rfl, by decide, lw_in (i := 145) (by decide +kernel)⟩
theorem fd_G_21 : mFd "AgeFerry$Sightings" 21 4 3 := ⟨_, rfl, by decide, lw_in (i := 146) (by decide +kernel)⟩
theorem fp_G_21 : mFp "AgeFerry$Sightings" 21 4 3 "I" := ⟨_, rfl, by decide, lw_in (i := 146) (by decide +kernel), rfl, rfl⟩
theorem fd_G_38 : mFd "AgeFerry$Sightings" 38 1 2 := ⟨_, rfl, by decide, lw_in (i := 30) (by decide +kernel)⟩
theorem fd_T_9 : mFd "AgeFerry$Trip" 9 5 1 := ⟨_, rfl, by decide, lw_in (i := 125) (by decide +kernel)⟩
theorem fd_T_15 : mFd "AgeFerry$Trip" 15 5 0 := ⟨_, rfl, by decide, lw_in (i := 124) (by decide +kernel)⟩
theorem fd_T_29 : mFd "AgeFerry$Trip" 29 5 2 := ⟨_, rfl, by decide, lw_in (i := 126) (by decide +kernel)⟩
theorem fp_T_29 : mFp "AgeFerry$Trip" 29 5 2 "I" := ⟨_, rfl, by decide, lw_in (i := 126) (by decide +kernel), rfl, rfl⟩
theorem fd_T_34 : mFd "AgeFerry$Trip" 34 5 3 := ⟨_, rfl, by decide, lw_in (i := 127) (by decide +kernel)⟩
theorem fp_T_34 : mFp "AgeFerry$Trip" 34 5 3 "I" := ⟨_, rfl, by decide, lw_in (i := 127) (by decide +kernel), rfl, rfl⟩
theorem fd_M_7 : mFd "AgeFerryModel" 7 7 0 := ⟨_, rfl, by decide, lw_in (i := 689) (by decide +kernel)⟩
theorem fd_M_13 : mFd "AgeFerryModel" 13 7 1 := ⟨_, rfl, by decide, lw_in (i := 690) (by decide +kernel)⟩
theorem fd_M_16 : mFd "AgeFerryModel" 16 7 2 := ⟨_, rfl, by decide, lw_in (i := 691) (by decide +kernel)⟩
theorem fd_M_19 : mFd "AgeFerryModel" 19 7 3 := ⟨_, rfl, by decide, lw_in (i := 692) (by decide +kernel)⟩
theorem fd_M_22 : mFd "AgeFerryModel" 22 7 5 := ⟨_, rfl, by decide, lw_in (i := 694) (by decide +kernel)⟩
theorem fd_M_25 : mFd "AgeFerryModel" 25 7 9 := ⟨_, rfl, by decide, lw_in (i := 698) (by decide +kernel)⟩
theorem fd_M_28 : mFd "AgeFerryModel" 28 7 10 := ⟨_, rfl, by decide, lw_in (i := 699) (by decide +kernel)⟩
theorem fd_M_31 : mFd "AgeFerryModel" 31 7 11 := ⟨_, rfl, by decide, lw_in (i := 700) (by decide +kernel)⟩
theorem fd_M_34 : mFd "AgeFerryModel" 34 7 12 := ⟨_, rfl, by decide, lw_in (i := 701) (by decide +kernel)⟩
theorem fd_M_37 : mFd "AgeFerryModel" 37 7 13 := ⟨_, rfl, by decide, lw_in (i := 702) (by decide +kernel)⟩
theorem fd_M_40 : mFd "AgeFerryModel" 40 7 14 := ⟨_, rfl, by decide, lw_in (i := 703) (by decide +kernel)⟩
theorem fd_M_43 : mFd "AgeFerryModel" 43 7 15 := ⟨_, rfl, by decide, lw_in (i := 704) (by decide +kernel)⟩
theorem fd_M_46 : mFd "AgeFerryModel" 46 7 16 := ⟨_, rfl, by decide, lw_in (i := 705) (by decide +kernel)⟩
theorem fd_M_49 : mFd "AgeFerryModel" 49 7 17 := ⟨_, rfl, by decide, lw_in (i := 706) (by decide +kernel)⟩
theorem fd_M_52 : mFd "AgeFerryModel" 52 7 18 := ⟨_, rfl, by decide, lw_in (i := 707) (by decide +kernel)⟩
theorem fd_M_56 : mFd "AgeFerryModel" 56 7 19 := ⟨_, rfl, by decide, lw_in (i := 708) (by decide +kernel)⟩
theorem fd_M_59 : mFd "AgeFerryModel" 59 7 20 := ⟨_, rfl, by decide, lw_in (i := 709) (by decide +kernel)⟩
theorem fd_M_62 : mFd "AgeFerryModel" 62 7 21 := ⟨_, rfl, by decide, lw_in (i := 710) (by decide +kernel)⟩
theorem fd_M_65 : mFd "AgeFerryModel" 65 7 22 := ⟨_, rfl, by decide, lw_in (i := 711) (by decide +kernel)⟩
theorem fd_M_68 : mFd "AgeFerryModel" 68 7 23 := ⟨_, rfl, by decide, lw_in (i := 712) (by decide +kernel)⟩
theorem fd_M_71 : mFd "AgeFerryModel" 71 7 24 := ⟨_, rfl, by decide, lw_in (i := 713) (by decide +kernel)⟩
theorem fd_M_74 : mFd "AgeFerryModel" 74 7 25 := ⟨_, rfl, by decide, lw_in (i := 714) (by decide +kernel)⟩
theorem fd_M_77 : mFd "AgeFerryModel" 77 7 26 := ⟨_, rfl, by decide, lw_in (i := 715) (by decide +kernel)⟩
theorem fd_M_80 : mFd "AgeFerryModel" 80 7 29 := ⟨_, rfl, by decide, lw_in (i := 718) (by decide +kernel)⟩
theorem fd_M_83 : mFd "AgeFerryModel" 83 7 30 := ⟨_, rfl, by decide, lw_in (i := 719) (by decide +kernel)⟩
theorem fd_M_92 : mFd "AgeFerryModel" 92 7 4 := ⟨_, rfl, by decide, lw_in (i := 693) (by decide +kernel)⟩
theorem fp_M_92 : mFp "AgeFerryModel" 92 7 4 "I" := ⟨_, rfl, by decide, lw_in (i := 693) (by decide +kernel), rfl, rfl⟩
theorem fd_M_119 : mFd "AgeFerryModel" 119 7 6 := ⟨_, rfl, by decide, lw_in (i := 695) (by decide +kernel)⟩
theorem fp_M_119 : mFp "AgeFerryModel" 119 7 6 "I" := ⟨_, rfl, by decide, lw_in (i := 695) (by decide +kernel), rfl, rfl⟩
theorem fd_M_122 : mFd "AgeFerryModel" 122 7 7 := ⟨_, rfl, by decide, lw_in (i := 696) (by decide +kernel)⟩
theorem fp_M_122 : mFp "AgeFerryModel" 122 7 7 "I" := ⟨_, rfl, by decide, lw_in (i := 696) (by decide +kernel), rfl, rfl⟩
theorem fd_M_125 : mFd "AgeFerryModel" 125 7 8 := ⟨_, rfl, by decide, lw_in (i := 697) (by decide +kernel)⟩
theorem fp_M_125 : mFp "AgeFerryModel" 125 7 8 "I" := ⟨_, rfl, by decide, lw_in (i := 697) (by decide +kernel), rfl, rfl⟩
theorem fd_M_249 : mFd "AgeFerryModel" 249 7 27 := ⟨_, rfl, by decide, lw_in (i := 716) (by decide +kernel)⟩
theorem fp_M_249 : mFp "AgeFerryModel" 249 7 27 "I" := ⟨_, rfl, by decide, lw_in (i := 716) (by decide +kernel), rfl, rfl⟩
theorem fd_M_263 : mFd "AgeFerryModel" 263 7 28 := ⟨_, rfl, by decide, lw_in (i := 717) (by decide +kernel)⟩
theorem fp_M_263 : mFp "AgeFerryModel" 263 7 28 "I" := ⟨_, rfl, by decide, lw_in (i := 717) (by decide +kernel), rfl, rfl⟩
theorem kc_F_237 : Cond.constant "AgeFerry" 237 (1103515245) ∈ lw_ws := lw_in (i := 580) (by decide +kernel)
theorem kc_F_263 : Cond.constant "AgeFerry" 263 (-2147483648) ∈ lw_ws := lw_in (i := 627) (by decide +kernel)
theorem kc_D_66 : Cond.constant "AgeFerry$Days" 66 (-2147483648) ∈ lw_ws := lw_in (i := 356) (by decide +kernel)
theorem kc_D_67 : Cond.constant "AgeFerry$Days" 67 (2147483647) ∈ lw_ws := lw_in (i := 357) (by decide +kernel)
theorem kc_T_33 : Cond.constant "AgeFerry$Trip" 33 (2147483647) ∈ lw_ws := lw_in (i := 515) (by decide +kernel)
theorem kc_M_116 : Cond.constant "AgeFerryModel" 116 (-2147483648) ∈ lw_ws := lw_in (i := 819) (by decide +kernel)
theorem kc_M_176 : Cond.constant "AgeFerryModel" 176 (100000000) ∈ lw_ws := lw_in (i := 923) (by decide +kernel)
theorem kc_M_272 : Cond.constant "AgeFerryModel" 272 (1103515245) ∈ lw_ws := lw_in (i := 1075) (by decide +kernel)
theorem kc_J_265 : Cond.constant "java/lang/Integer" 265 (1431655765) ∈ lw_ws := lw_in (i := 349) (by decide +kernel)
theorem kc_J_266 : Cond.constant "java/lang/Integer" 266 (858993459) ∈ lw_ws := lw_in (i := 350) (by decide +kernel)
theorem kc_J_267 : Cond.constant "java/lang/Integer" 267 (252645135) ∈ lw_ws := lw_in (i := 351) (by decide +kernel)
theorem kl_F_298 : Cond.constantLong "AgeFerry" 298 (17) ∈ lw_ws := lw_in (i := 669) (by decide +kernel)
theorem kl_F_300 : Cond.constantLong "AgeFerry" 300 (31) ∈ lw_ws := lw_in (i := 670) (by decide +kernel)
theorem kl_F_339 : Cond.constantLong "AgeFerry" 339 (-9223372036854775808) ∈ lw_ws := lw_in (i := 456) (by decide +kernel)
theorem kl_M_86 : Cond.constantLong "AgeFerryModel" 86 (-9223372036854775808) ∈ lw_ws := lw_in (i := 999) (by decide +kernel)
theorem kl_M_96 : Cond.constantLong "AgeFerryModel" 96 (3) ∈ lw_ws := lw_in (i := 791) (by decide +kernel)
theorem kl_M_102 : Cond.constantLong "AgeFerryModel" 102 (2) ∈ lw_ws := lw_in (i := 795) (by decide +kernel)
theorem kl_M_117 : Cond.constantLong "AgeFerryModel" 117 (255) ∈ lw_ws := lw_in (i := 828) (by decide +kernel)
theorem kl_M_132 : Cond.constantLong "AgeFerryModel" 132 (48) ∈ lw_ws := lw_in (i := 849) (by decide +kernel)
theorem kl_M_134 : Cond.constantLong "AgeFerryModel" 134 (57) ∈ lw_ws := lw_in (i := 850) (by decide +kernel)
theorem kl_M_146 : Cond.constantLong "AgeFerryModel" 146 (9) ∈ lw_ws := lw_in (i := 877) (by decide +kernel)
theorem kl_M_160 : Cond.constantLong "AgeFerryModel" 160 (99) ∈ lw_ws := lw_in (i := 878) (by decide +kernel)
theorem kl_M_162 : Cond.constantLong "AgeFerryModel" 162 (-30) ∈ lw_ws := lw_in (i := 883) (by decide +kernel)
theorem kl_M_164 : Cond.constantLong "AgeFerryModel" 164 (30) ∈ lw_ws := lw_in (i := 884) (by decide +kernel)
theorem kl_M_261 : Cond.constantLong "AgeFerryModel" 261 (200) ∈ lw_ws := lw_in (i := 1050) (by decide +kernel)
theorem kl_M_280 : Cond.constantLong "AgeFerryModel" 280 (17) ∈ lw_ws := lw_in (i := 1091) (by decide +kernel)
theorem kl_M_282 : Cond.constantLong "AgeFerryModel" 282 (31) ∈ lw_ws := lw_in (i := 1092) (by decide +kernel)
def m_D_anyMust : mM := (⟨"AgeFerry$Days", "anyMust", "(I)Z"⟩, prog_2_method_12_code, 2, some .boolean)
theorem mk_D_anyMust : mOk m_D_anyMust 1 := ⟨lw_in (i := 514) (by decide +kernel), lw_in (i := 4) (by decide +kernel), by decide +kernel⟩
def m_D_bestLie : mM := (⟨"AgeFerry$Days", "bestLie", "(II)I"⟩, prog_2_method_15_code, 12, some .int)
theorem mk_D_bestLie : mOk m_D_bestLie 2 := ⟨lw_in (i := 495) (by decide +kernel), lw_in (i := 4) (by decide +kernel), by decide +kernel⟩
def m_D_boatWith : mM := (⟨"AgeFerry$Days", "boatWith", "(I)I"⟩, prog_2_method_11_code, 5, some .int)
theorem mk_D_boatWith : mOk m_D_boatWith 1 := ⟨lw_in (i := 415) (by decide +kernel), lw_in (i := 4) (by decide +kernel), by decide +kernel⟩
def m_D_boatsOf : mM := (⟨"AgeFerry$Days", "boatsOf", "(I)I"⟩, prog_2_method_9_code, 3, some .int)
theorem mk_D_boatsOf : mOk m_D_boatsOf 1 := ⟨lw_in (i := 403) (by decide +kernel), lw_in (i := 4) (by decide +kernel), by decide +kernel⟩
def m_D_bringUpToDate : mM := (⟨"AgeFerry$Days", "bringUpToDate", "()V"⟩, prog_2_method_3_code, 4, none)
theorem mk_D_bringUpToDate : mOk m_D_bringUpToDate 0 := ⟨lw_in (i := 367) (by decide +kernel), lw_in (i := 4) (by decide +kernel), by decide +kernel⟩
def m_D_broughtInAllOrders : mM := (⟨"AgeFerry$Days", "broughtInAllOrders", "(I)J"⟩, prog_2_method_14_code, 9, some .long)
theorem mk_D_broughtInAllOrders : mOk m_D_broughtInAllOrders 1 := ⟨lw_in (i := 471) (by decide +kernel), lw_in (i := 4) (by decide +kernel), by decide +kernel⟩
def m_D_costOf : mM := (⟨"AgeFerry$Days", "costOf", "(I)I"⟩, prog_2_method_5_code, 5, some .int)
theorem mk_D_costOf : mOk m_D_costOf 1 := ⟨lw_in (i := 344) (by decide +kernel), lw_in (i := 4) (by decide +kernel), by decide +kernel⟩
def m_D_fareOf : mM := (⟨"AgeFerry$Days", "fareOf", "(I)I"⟩, prog_2_method_4_code, 7, some .int)
theorem mk_D_fareOf : mOk m_D_fareOf 1 := ⟨lw_in (i := 355) (by decide +kernel), lw_in (i := 4) (by decide +kernel), by decide +kernel⟩
def m_D_firstBoatOf : mM := (⟨"AgeFerry$Days", "firstBoatOf", "(I)I"⟩, prog_2_method_22_code, 3, some .int)
theorem mk_D_firstBoatOf : mOk m_D_firstBoatOf 1 := ⟨lw_in (i := 419) (by decide +kernel), lw_in (i := 4) (by decide +kernel), by decide +kernel⟩
def m_D_init : mM := (⟨"AgeFerry$Days", "<init>", "(LAgeFerry$People;LAgeFerry$Rules;)V"⟩, prog_2_method_1_code, 3, none)
def m_D_leastOf : mM := (⟨"AgeFerry$Days", "leastOf", "(I)I"⟩, prog_2_method_8_code, 3, some .int)
theorem mk_D_leastOf : mOk m_D_leastOf 1 := ⟨lw_in (i := 395) (by decide +kernel), lw_in (i := 4) (by decide +kernel), by decide +kernel⟩
def m_D_lowestBit : mM := (⟨"AgeFerry$Days", "lowestBit", "(I)I"⟩, prog_2_method_19_code, 1, some .int)
theorem mk_D_lowestBit : mOk m_D_lowestBit 1 := ⟨lw_in (i := 371) (by decide +kernel), lw_in (i := 4) (by decide +kernel), by decide +kernel⟩
def m_D_mayGo : mM := (⟨"AgeFerry$Days", "mayGo", "(II)Z"⟩, prog_2_method_6_code, 3, some .boolean)
theorem mk_D_mayGo : mOk m_D_mayGo 2 := ⟨lw_in (i := 388) (by decide +kernel), lw_in (i := 4) (by decide +kernel), by decide +kernel⟩
def m_D_mostOf : mM := (⟨"AgeFerry$Days", "mostOf", "(I)I"⟩, prog_2_method_10_code, 2, some .int)
theorem mk_D_mostOf : mOk m_D_mostOf 1 := ⟨lw_in (i := 407) (by decide +kernel), lw_in (i := 4) (by decide +kernel), by decide +kernel⟩
def m_D_nextPart : mM := (⟨"AgeFerry$Days", "nextPart", "(II)I"⟩, prog_2_method_20_code, 2, some .int)
theorem mk_D_nextPart : mOk m_D_nextPart 2 := ⟨lw_in (i := 391) (by decide +kernel), lw_in (i := 4) (by decide +kernel), by decide +kernel⟩
def m_D_orders : mM := (⟨"AgeFerry$Days", "orders", "(I)I"⟩, prog_2_method_13_code, 2, some .int)
theorem mk_D_orders : mOk m_D_orders 1 := ⟨lw_in (i := 475) (by decide +kernel), lw_in (i := 4) (by decide +kernel), by decide +kernel⟩
def m_D_outdate : mM := (⟨"AgeFerry$Days", "outdate", "()V"⟩, prog_2_method_2_code, 1, none)
theorem mk_D_outdate : mOk m_D_outdate 0 := ⟨lw_in (i := 216) (by decide +kernel), lw_in (i := 4) (by decide +kernel), by decide +kernel⟩
def m_D_plan : mM := (⟨"AgeFerry$Days", "plan", "(I)V"⟩, prog_2_method_18_code, 13, none)
theorem mk_D_plan : mOk m_D_plan 1 := ⟨lw_in (i := 384) (by decide +kernel), lw_in (i := 4) (by decide +kernel), by decide +kernel⟩
def m_D_planOf : mM := (⟨"AgeFerry$Days", "planOf", "(I)I"⟩, prog_2_method_21_code, 2, some .int)
theorem mk_D_planOf : mOk m_D_planOf 1 := ⟨lw_in (i := 399) (by decide +kernel), lw_in (i := 4) (by decide +kernel), by decide +kernel⟩
def m_D_priceAt : mM := (⟨"AgeFerry$Days", "priceAt", "(I)I"⟩, prog_2_method_7_code, 2, some .int)
theorem mk_D_priceAt : mOk m_D_priceAt 1 := ⟨lw_in (i := 537) (by decide +kernel), lw_in (i := 4) (by decide +kernel), by decide +kernel⟩
def m_D_priceOf : mM := (⟨"AgeFerry$Days", "priceOf", "(I)I"⟩, prog_2_method_17_code, 3, some .int)
theorem mk_D_priceOf : mOk m_D_priceOf 1 := ⟨lw_in (i := 379) (by decide +kernel), lw_in (i := 4) (by decide +kernel), by decide +kernel⟩
def m_D_replanAround : mM := (⟨"AgeFerry$Days", "replanAround", "(I)V"⟩, prog_2_method_16_code, 4, none)
theorem mk_D_replanAround : mOk m_D_replanAround 1 := ⟨lw_in (i := 500) (by decide +kernel), lw_in (i := 4) (by decide +kernel), by decide +kernel⟩
def m_F_ages : mM := (⟨"AgeFerry", "ages", "(II)I"⟩, prog_1_method_24_code, 7, some .int)
theorem mk_F_ages : mOk m_F_ages 2 := ⟨lw_in (i := 562) (by decide +kernel), lw_in (i := 1) (by decide +kernel), by decide +kernel⟩
def m_F_anyNumberRefusal : mM := (⟨"AgeFerry", "anyNumberRefusal", "(I)I"⟩, prog_1_method_42_code, 1, some .int)
theorem mk_F_anyNumberRefusal : mOk m_F_anyNumberRefusal 1 := ⟨lw_in (i := 277) (by decide +kernel), lw_in (i := 1) (by decide +kernel), by decide +kernel⟩
def m_F_areThere : mM := (⟨"AgeFerry", "areThere", "(I)Z"⟩, prog_1_method_38_code, 2, some .boolean)
theorem mk_F_areThere : mOk m_F_areThere 1 := ⟨lw_in (i := 336) (by decide +kernel), lw_in (i := 1) (by decide +kernel), by decide +kernel⟩
def m_F_back : mM := (⟨"AgeFerry", "back", "()I"⟩, prog_1_method_21_code, 1, some .int)
theorem mk_F_back : mOk m_F_back 0 := ⟨lw_in (i := 505) (by decide +kernel), lw_in (i := 1) (by decide +kernel), by decide +kernel⟩
def m_F_boat : mM := (⟨"AgeFerry", "boat", "(II)I"⟩, prog_1_method_11_code, 3, some .int)
theorem mk_F_boat : mOk m_F_boat 2 := ⟨lw_in (i := 332) (by decide +kernel), lw_in (i := 1) (by decide +kernel), by decide +kernel⟩
def m_F_copy : mM := (⟨"AgeFerry", "copy", "(IIIII)I"⟩, prog_1_method_30_code, 8, some .int)
theorem mk_F_copy : mOk m_F_copy 5 := ⟨lw_in (i := 631) (by decide +kernel), lw_in (i := 1) (by decide +kernel), by decide +kernel⟩
def m_F_costOfBoats : mM := (⟨"AgeFerry", "costOfBoats", "()I"⟩, prog_1_method_47_code, 3, some .int)
theorem mk_F_costOfBoats : mOk m_F_costOfBoats 0 := ⟨lw_in (i := 448) (by decide +kernel), lw_in (i := 1) (by decide +kernel), by decide +kernel⟩
def m_F_costs : mM := (⟨"AgeFerry", "costs", "(I)I"⟩, prog_1_method_16_code, 5, some .int)
theorem mk_F_costs : mOk m_F_costs 1 := ⟨lw_in (i := 444) (by decide +kernel), lw_in (i := 1) (by decide +kernel), by decide +kernel⟩
def m_F_count : mM := (⟨"AgeFerry", "count", "(I)I"⟩, prog_1_method_32_code, 2, some .int)
theorem mk_F_count : mOk m_F_count 1 := ⟨lw_in (i := 651) (by decide +kernel), lw_in (i := 1) (by decide +kernel), by decide +kernel⟩
def m_F_crewOf : mM := (⟨"AgeFerry", "crewOf", "(LAgeFerry$Sheet;I)I"⟩, prog_1_method_46_code, 5, some .int)
theorem mk_F_crewOf : mOk m_F_crewOf 2 := ⟨lw_in (i := 439) (by decide +kernel), lw_in (i := 1) (by decide +kernel), by decide +kernel⟩
def m_F_day : mM := (⟨"AgeFerry", "day", "(II)I"⟩, prog_1_method_12_code, 3, some .int)
theorem mk_F_day : mOk m_F_day 2 := ⟨lw_in (i := 363) (by decide +kernel), lw_in (i := 1) (by decide +kernel), by decide +kernel⟩
def m_F_digest : mM := (⟨"AgeFerry", "digest", "()J"⟩, prog_1_method_33_code, 5, some .long)
theorem mk_F_digest : mOk m_F_digest 0 := ⟨lw_in (i := 668) (by decide +kernel), lw_in (i := 1) (by decide +kernel), by decide +kernel⟩
def m_F_exchange : mM := (⟨"AgeFerry", "exchange", "([III)I"⟩, prog_1_method_44_code, 4, some .int)
theorem mk_F_exchange : mOk m_F_exchange 3 := ⟨lw_in (i := 270) (by decide +kernel), lw_in (i := 1) (by decide +kernel), by decide +kernel⟩
def m_F_fault : mM := (⟨"AgeFerry", "fault", "()I"⟩, prog_1_method_4_code, 1, some .int)
theorem mk_F_fault : mOk m_F_fault 0 := ⟨lw_in (i := 254) (by decide +kernel), lw_in (i := 1) (by decide +kernel), by decide +kernel⟩
def m_F_find : mM := (⟨"AgeFerry", "find", "(I)I"⟩, prog_1_method_39_code, 2, some .int)
theorem mk_F_find : mOk m_F_find 1 := ⟨lw_in (i := 296) (by decide +kernel), lw_in (i := 1) (by decide +kernel), by decide +kernel⟩
def m_F_findingAt : mM := (⟨"AgeFerry", "findingAt", "(LAgeFerry$Sheet;II)I"⟩, prog_1_method_40_code, 3, some .int)
theorem mk_F_findingAt : mOk m_F_findingAt 3 := ⟨lw_in (i := 617) (by decide +kernel), lw_in (i := 1) (by decide +kernel), by decide +kernel⟩
def m_F_firstJudged : mM := (⟨"AgeFerry", "firstJudged", "(LAgeFerry$Sheet;)I"⟩, prog_1_method_45_code, 4, some .int)
theorem mk_F_firstJudged : mOk m_F_firstJudged 1 := ⟨lw_in (i := 435) (by decide +kernel), lw_in (i := 1) (by decide +kernel), by decide +kernel⟩
def m_F_forget : mM := (⟨"AgeFerry", "forget", "()I"⟩, prog_1_method_23_code, 1, some .int)
theorem mk_F_forget : mOk m_F_forget 0 := ⟨lw_in (i := 554) (by decide +kernel), lw_in (i := 1) (by decide +kernel), by decide +kernel⟩
def m_F_get : mM := (⟨"AgeFerry", "get", "(III)I"⟩, prog_1_method_29_code, 5, some .int)
theorem mk_F_get : mOk m_F_get 3 := ⟨lw_in (i := 626) (by decide +kernel), lw_in (i := 1) (by decide +kernel), by decide +kernel⟩
def m_F_init : mM := (⟨"AgeFerry", "<init>", "()V"⟩, prog_1_method_1_code, 2, none)
def m_F_isForm : mM := (⟨"AgeFerry", "isForm", "(I)Z"⟩, prog_1_method_37_code, 1, some .boolean)
theorem mk_F_isForm : mOk m_F_isForm 1 := ⟨lw_in (i := 597) (by decide +kernel), lw_in (i := 1) (by decide +kernel), by decide +kernel⟩
def m_F_isNumber : mM := (⟨"AgeFerry", "isNumber", "(I)Z"⟩, prog_1_method_35_code, 1, some .boolean)
theorem mk_F_isNumber : mOk m_F_isNumber 1 := ⟨lw_in (i := 239) (by decide +kernel), lw_in (i := 1) (by decide +kernel), by decide +kernel⟩
def m_F_isSheet : mM := (⟨"AgeFerry", "isSheet", "(I)Z"⟩, prog_1_method_36_code, 1, some .boolean)
theorem mk_F_isSheet : mOk m_F_isSheet 1 := ⟨lw_in (i := 288) (by decide +kernel), lw_in (i := 1) (by decide +kernel), by decide +kernel⟩
def m_F_isWithin : mM := (⟨"AgeFerry", "isWithin", "(III)Z"⟩, prog_1_method_34_code, 3, some .boolean)
theorem mk_F_isWithin : mOk m_F_isWithin 3 := ⟨lw_in (i := 208) (by decide +kernel), lw_in (i := 1) (by decide +kernel), by decide +kernel⟩
def m_F_judged : mM := (⟨"AgeFerry", "judged", "(I)I"⟩, prog_1_method_15_code, 3, some .int)
theorem mk_F_judged : mOk m_F_judged 1 := ⟨lw_in (i := 427) (by decide +kernel), lw_in (i := 1) (by decide +kernel), by decide +kernel⟩
def m_F_lay : mM := (⟨"AgeFerry", "lay", "(IIII)I"⟩, prog_1_method_28_code, 6, some .int)
theorem mk_F_lay : mOk m_F_lay 4 := ⟨lw_in (i := 614) (by decide +kernel), lw_in (i := 1) (by decide +kernel), by decide +kernel⟩
def m_F_lie : mM := (⟨"AgeFerry", "lie", "(II)I"⟩, prog_1_method_7_code, 4, some .int)
theorem mk_F_lie : mOk m_F_lie 2 := ⟨lw_in (i := 274) (by decide +kernel), lw_in (i := 1) (by decide +kernel), by decide +kernel⟩
def m_F_lies : mM := (⟨"AgeFerry", "lies", "(II)I"⟩, prog_1_method_20_code, 3, some .int)
theorem mk_F_lies : mOk m_F_lies 2 := ⟨lw_in (i := 491) (by decide +kernel), lw_in (i := 1) (by decide +kernel), by decide +kernel⟩
def m_F_longRefusal : mM := (⟨"AgeFerry", "longRefusal", "(I)J"⟩, prog_1_method_43_code, 1, some .long)
theorem mk_F_longRefusal : mOk m_F_longRefusal 1 := ⟨lw_in (i := 455) (by decide +kernel), lw_in (i := 1) (by decide +kernel), by decide +kernel⟩
def m_F_lose : mM := (⟨"AgeFerry", "lose", "(I)I"⟩, prog_1_method_27_code, 3, some .int)
theorem mk_F_lose : mOk m_F_lose 1 := ⟨lw_in (i := 606) (by decide +kernel), lw_in (i := 1) (by decide +kernel), by decide +kernel⟩
def m_F_lot : mM := (⟨"AgeFerry", "lot", "(I)I"⟩, prog_1_method_25_code, 7, some .int)
theorem mk_F_lot : mOk m_F_lot 1 := ⟨lw_in (i := 579) (by decide +kernel), lw_in (i := 1) (by decide +kernel), by decide +kernel⟩
def m_F_lotOf : mM := (⟨"AgeFerry", "lotOf", "(II)I"⟩, prog_1_method_49_code, 2, some .int)
theorem mk_F_lotOf : mOk m_F_lotOf 2 := ⟨lw_in (i := 583) (by decide +kernel), lw_in (i := 1) (by decide +kernel), by decide +kernel⟩
def m_F_lowestTerms : mM := (⟨"AgeFerry", "lowestTerms", "(JJI)J"⟩, prog_1_method_52_code, 12, some .long)
theorem mk_F_lowestTerms : mOk m_F_lowestTerms 3 := ⟨lw_in (i := 460) (by decide +kernel), lw_in (i := 1) (by decide +kernel), by decide +kernel⟩
def m_F_odd : mM := (⟨"AgeFerry", "odd", "()I"⟩, prog_1_method_14_code, 5, some .int)
theorem mk_F_odd : mOk m_F_odd 0 := ⟨lw_in (i := 423) (by decide +kernel), lw_in (i := 1) (by decide +kernel), by decide +kernel⟩
def m_F_paidTogether : mM := (⟨"AgeFerry", "paidTogether", "(LAgeFerry$Sheet;I)J"⟩, prog_1_method_48_code, 6, some .long)
theorem mk_F_paidTogether : mOk m_F_paidTogether 2 := ⟨lw_in (i := 487) (by decide +kernel), lw_in (i := 1) (by decide +kernel), by decide +kernel⟩
def m_F_pair : mM := (⟨"AgeFerry", "pair", "(IIII)I"⟩, prog_1_method_10_code, 5, some .int)
theorem mk_F_pair : mOk m_F_pair 4 := ⟨lw_in (i := 323) (by decide +kernel), lw_in (i := 1) (by decide +kernel), by decide +kernel⟩
def m_F_pays : mM := (⟨"AgeFerry", "pays", "(II)J"⟩, prog_1_method_17_code, 4, some .long)
theorem mk_F_pays : mOk m_F_pays 2 := ⟨lw_in (i := 452) (by decide +kernel), lw_in (i := 1) (by decide +kernel), by decide +kernel⟩
def m_F_person : mM := (⟨"AgeFerry", "person", "(II)I"⟩, prog_1_method_5_code, 3, some .int)
theorem mk_F_person : mOk m_F_person 2 := ⟨lw_in (i := 258) (by decide +kernel), lw_in (i := 1) (by decide +kernel), by decide +kernel⟩
def m_F_placeOf : mM := (⟨"AgeFerry", "placeOf", "(II)I"⟩, prog_1_method_51_code, 4, some .int)
theorem mk_F_placeOf : mOk m_F_placeOf 2 := ⟨lw_in (i := 586) (by decide +kernel), lw_in (i := 1) (by decide +kernel), by decide +kernel⟩
def m_F_put : mM := (⟨"AgeFerry", "put", "(III)I"⟩, prog_1_method_6_code, 4, some .int)
theorem mk_F_put : mOk m_F_put 3 := ⟨lw_in (i := 266) (by decide +kernel), lw_in (i := 1) (by decide +kernel), by decide +kernel⟩
def m_F_rather : mM := (⟨"AgeFerry", "rather", "(I)I"⟩, prog_1_method_19_code, 4, some .int)
theorem mk_F_rather : mOk m_F_rather 1 := ⟨lw_in (i := 483) (by decide +kernel), lw_in (i := 1) (by decide +kernel), by decide +kernel⟩
def m_F_read : mM := (⟨"AgeFerry", "read", "(I)I"⟩, prog_1_method_8_code, 5, some .int)
theorem mk_F_read : mOk m_F_read 1 := ⟨lw_in (i := 285) (by decide +kernel), lw_in (i := 1) (by decide +kernel), by decide +kernel⟩
def m_F_refusalOf : mM := (⟨"AgeFerry", "refusalOf", "(I)I"⟩, prog_1_method_41_code, 2, some .int)
theorem mk_F_refusalOf : mOk m_F_refusalOf 1 := ⟨lw_in (i := 431) (by decide +kernel), lw_in (i := 1) (by decide +kernel), by decide +kernel⟩
def m_F_seen : mM := (⟨"AgeFerry", "seen", "(III)I"⟩, prog_1_method_22_code, 4, some .int)
theorem mk_F_seen : mOk m_F_seen 3 := ⟨lw_in (i := 546) (by decide +kernel), lw_in (i := 1) (by decide +kernel), by decide +kernel⟩
def m_F_set : mM := (⟨"AgeFerry", "set", "(II)I"⟩, prog_1_method_9_code, 3, some .int)
theorem mk_F_set : mOk m_F_set 2 := ⟨lw_in (i := 311) (by decide +kernel), lw_in (i := 1) (by decide +kernel), by decide +kernel⟩
def m_F_share : mM := (⟨"AgeFerry", "share", "(II)J"⟩, prog_1_method_18_code, 3, some .long)
theorem mk_F_share : mOk m_F_share 2 := ⟨lw_in (i := 467) (by decide +kernel), lw_in (i := 1) (by decide +kernel), by decide +kernel⟩
def m_F_sheet : mM := (⟨"AgeFerry", "sheet", "(III)I"⟩, prog_1_method_26_code, 4, some .int)
theorem mk_F_sheet : mOk m_F_sheet 3 := ⟨lw_in (i := 594) (by decide +kernel), lw_in (i := 1) (by decide +kernel), by decide +kernel⟩
def m_F_type : mM := (⟨"AgeFerry", "type", "(I)I"⟩, prog_1_method_2_code, 2, some .int)
theorem mk_F_type : mOk m_F_type 1 := ⟨lw_in (i := 205) (by decide +kernel), lw_in (i := 1) (by decide +kernel), by decide +kernel⟩
def m_F_wipe : mM := (⟨"AgeFerry", "wipe", "()I"⟩, prog_1_method_3_code, 1, some .int)
theorem mk_F_wipe : mOk m_F_wipe 0 := ⟨lw_in (i := 246) (by decide +kernel), lw_in (i := 1) (by decide +kernel), by decide +kernel⟩
def m_F_with : mM := (⟨"AgeFerry", "with", "(I)I"⟩, prog_1_method_13_code, 2, some .int)
theorem mk_F_with : mOk m_F_with 1 := ⟨lw_in (i := 411) (by decide +kernel), lw_in (i := 1) (by decide +kernel), by decide +kernel⟩
def m_F_write : mM := (⟨"AgeFerry", "write", "(I)I"⟩, prog_1_method_31_code, 2, some .int)
theorem mk_F_write : mOk m_F_write 1 := ⟨lw_in (i := 642) (by decide +kernel), lw_in (i := 1) (by decide +kernel), by decide +kernel⟩
def m_F_writeBoats : mM := (⟨"AgeFerry", "writeBoats", "(LAgeFerry$Sheet;)V"⟩, prog_1_method_50_code, 6, none)
theorem mk_F_writeBoats : mOk m_F_writeBoats 1 := ⟨lw_in (i := 646) (by decide +kernel), lw_in (i := 1) (by decide +kernel), by decide +kernel⟩
def m_G_add : mM := (⟨"AgeFerry$Sightings", "add", "(III)I"⟩, prog_6_method_2_code, 4, some .int)
theorem mk_G_add : mOk m_G_add 3 := ⟨lw_in (i := 550) (by decide +kernel), lw_in (i := 6) (by decide +kernel), by decide +kernel⟩
def m_G_allow : mM := (⟨"AgeFerry$Sightings", "allow", "(LAgeFerry$People;II)Z"⟩, prog_6_method_4_code, 7, some .boolean)
theorem mk_G_allow : mOk m_G_allow 3 := ⟨lw_in (i := 566) (by decide +kernel), lw_in (i := 6) (by decide +kernel), by decide +kernel⟩
def m_G_drop : mM := (⟨"AgeFerry$Sightings", "drop", "()I"⟩, prog_6_method_3_code, 2, some .int)
theorem mk_G_drop : mOk m_G_drop 0 := ⟨lw_in (i := 558) (by decide +kernel), lw_in (i := 6) (by decide +kernel), by decide +kernel⟩
def m_G_init : mM := (⟨"AgeFerry$Sightings", "<init>", "()V"⟩, prog_6_method_1_code, 1, none)
def m_G_otherOf : mM := (⟨"AgeFerry$Sightings", "otherOf", "(II)I"⟩, prog_6_method_5_code, 3, some .int)
theorem mk_G_otherOf : mOk m_G_otherOf 2 := ⟨lw_in (i := 571) (by decide +kernel), lw_in (i := 6) (by decide +kernel), by decide +kernel⟩
def m_J_abs_i : mM := (⟨"java/lang/Math", "abs", "(I)I"⟩, prog_11_method_59_code, 1, some .int)
def m_J_abs_l : mM := (⟨"java/lang/Math", "abs", "(J)J"⟩, prog_11_method_61_code, 2, some .long)
def m_J_bitCount : mM := (⟨"java/lang/Integer", "bitCount", "(I)I"⟩, prog_10_method_49_code, 1, some .int)
theorem mk_J_bitCount : mOk m_J_bitCount 1 := ⟨lw_in (i := 348) (by decide +kernel), lw_in (i := 10) (by decide +kernel), by decide +kernel⟩
def m_J_max : mM := (⟨"java/lang/Math", "max", "(II)I"⟩, prog_11_method_65_code, 2, some .int)
def m_J_min : mM := (⟨"java/lang/Math", "min", "(II)I"⟩, prog_11_method_69_code, 2, some .int)
def m_L_law : mM := (⟨"AgeFerryLaw", "law", "([I)Z"⟩, code, 4, some .boolean)
def m_M_ages : mM := (⟨"AgeFerryModel", "ages", "(II)I"⟩, prog_9_method_72_code, 3, some .int)
theorem mk_M_ages : mOk m_M_ages 2 := ⟨lw_in (i := 1058) (by decide +kernel), lw_in (i := 8) (by decide +kernel), by decide +kernel⟩
def m_M_agesOf : mM := (⟨"AgeFerryModel", "agesOf", "(II)I"⟩, prog_9_method_71_code, 8, some .int)
theorem mk_M_agesOf : mOk m_M_agesOf 2 := ⟨lw_in (i := 1062) (by decide +kernel), lw_in (i := 8) (by decide +kernel), by decide +kernel⟩
def m_M_back : mM := (⟨"AgeFerryModel", "back", "()I"⟩, prog_9_method_67_code, 1, some .int)
theorem mk_M_back : mOk m_M_back 0 := ⟨lw_in (i := 1033) (by decide +kernel), lw_in (i := 8) (by decide +kernel), by decide +kernel⟩
def m_M_backNow : mM := (⟨"AgeFerryModel", "backNow", "()I"⟩, prog_9_method_66_code, 6, some .int)
theorem mk_M_backNow : mOk m_M_backNow 0 := ⟨lw_in (i := 1037) (by decide +kernel), lw_in (i := 8) (by decide +kernel), by decide +kernel⟩
def m_M_boat : mM := (⟨"AgeFerryModel", "boat", "(II)I"⟩, prog_9_method_39_code, 3, some .int)
theorem mk_M_boat : mOk m_M_boat 2 := ⟨lw_in (i := 904) (by decide +kernel), lw_in (i := 8) (by decide +kernel), by decide +kernel⟩
def m_M_boatWith : mM := (⟨"AgeFerryModel", "boatWith", "(I)I"⟩, prog_9_method_44_code, 3, some .int)
theorem mk_M_boatWith : mOk m_M_boatWith 1 := ⟨lw_in (i := 959) (by decide +kernel), lw_in (i := 8) (by decide +kernel), by decide +kernel⟩
def m_M_copy : mM := (⟨"AgeFerryModel", "copy", "(IIIII)I"⟩, prog_9_method_16_code, 7, some .int)
theorem mk_M_copy : mOk m_M_copy 5 := ⟨lw_in (i := 823) (by decide +kernel), lw_in (i := 8) (by decide +kernel), by decide +kernel⟩
def m_M_costOf : mM := (⟨"AgeFerryModel", "costOf", "(I)I"⟩, prog_9_method_36_code, 5, some .int)
theorem mk_M_costOf : mOk m_M_costOf 1 := ⟨lw_in (i := 912) (by decide +kernel), lw_in (i := 8) (by decide +kernel), by decide +kernel⟩
def m_M_costs : mM := (⟨"AgeFerryModel", "costs", "(I)I"⟩, prog_9_method_53_code, 6, some .int)
theorem mk_M_costs : mOk m_M_costs 1 := ⟨lw_in (i := 987) (by decide +kernel), lw_in (i := 8) (by decide +kernel), by decide +kernel⟩
def m_M_count : mM := (⟨"AgeFerryModel", "count", "(I)I"⟩, prog_9_method_77_code, 4, some .int)
theorem mk_M_count : mOk m_M_count 1 := ⟨lw_in (i := 1083) (by decide +kernel), lw_in (i := 8) (by decide +kernel), by decide +kernel⟩
def m_M_cut : mM := (⟨"AgeFerryModel", "cut", "(II)I"⟩, prog_9_method_13_code, 2, some .int)
theorem mk_M_cut : mOk m_M_cut 2 := ⟨lw_in (i := 814) (by decide +kernel), lw_in (i := 8) (by decide +kernel), by decide +kernel⟩
def m_M_day : mM := (⟨"AgeFerryModel", "day", "(II)I"⟩, prog_9_method_43_code, 3, some .int)
theorem mk_M_day : mOk m_M_day 2 := ⟨lw_in (i := 927) (by decide +kernel), lw_in (i := 8) (by decide +kernel), by decide +kernel⟩
def m_M_dayOf : mM := (⟨"AgeFerryModel", "dayOf", "(II)I"⟩, prog_9_method_42_code, 3, some .int)
theorem mk_M_dayOf : mOk m_M_dayOf 2 := ⟨lw_in (i := 939) (by decide +kernel), lw_in (i := 8) (by decide +kernel), by decide +kernel⟩
def m_M_digest : mM := (⟨"AgeFerryModel", "digest", "()J"⟩, prog_9_method_78_code, 5, some .long)
theorem mk_M_digest : mOk m_M_digest 0 := ⟨lw_in (i := 1090) (by decide +kernel), lw_in (i := 8) (by decide +kernel), by decide +kernel⟩
def m_M_factorial : mM := (⟨"AgeFerryModel", "factorial", "(I)J"⟩, prog_9_method_58_code, 4, some .long)
theorem mk_M_factorial : mOk m_M_factorial 1 := ⟨lw_in (i := 1017) (by decide +kernel), lw_in (i := 8) (by decide +kernel), by decide +kernel⟩
def m_M_fareOf : mM := (⟨"AgeFerryModel", "fareOf", "(I)I"⟩, prog_9_method_35_code, 8, some .int)
theorem mk_M_fareOf : mOk m_M_fareOf 1 := ⟨lw_in (i := 919) (by decide +kernel), lw_in (i := 8) (by decide +kernel), by decide +kernel⟩
def m_M_fault : mM := (⟨"AgeFerryModel", "fault", "()I"⟩, prog_9_method_23_code, 1, some .int)
theorem mk_M_fault : mOk m_M_fault 0 := ⟨lw_in (i := 836) (by decide +kernel), lw_in (i := 8) (by decide +kernel), by decide +kernel⟩
def m_M_findBoats : mM := (⟨"AgeFerryModel", "findBoats", "()V"⟩, prog_9_method_38_code, 3, none)
theorem mk_M_findBoats : mOk m_M_findBoats 0 := ⟨lw_in (i := 931) (by decide +kernel), lw_in (i := 8) (by decide +kernel), by decide +kernel⟩
def m_M_findDay : mM := (⟨"AgeFerryModel", "findDay", "(I)V"⟩, prog_9_method_40_code, 6, none)
theorem mk_M_findDay : mOk m_M_findDay 1 := ⟨lw_in (i := 943) (by decide +kernel), lw_in (i := 8) (by decide +kernel), by decide +kernel⟩
def m_M_findLeasts : mM := (⟨"AgeFerryModel", "findLeasts", "()Z"⟩, prog_9_method_57_code, 3, some .boolean)
theorem mk_M_findLeasts : mOk m_M_findLeasts 0 := ⟨lw_in (i := 1014) (by decide +kernel), lw_in (i := 8) (by decide +kernel), by decide +kernel⟩
def m_M_forget : mM := (⟨"AgeFerryModel", "forget", "()I"⟩, prog_9_method_69_code, 2, some .int)
theorem mk_M_forget : mOk m_M_forget 0 := ⟨lw_in (i := 1054) (by decide +kernel), lw_in (i := 8) (by decide +kernel), by decide +kernel⟩
def m_M_get : mM := (⟨"AgeFerryModel", "get", "(III)I"⟩, prog_9_method_15_code, 4, some .int)
theorem mk_M_get : mOk m_M_get 3 := ⟨lw_in (i := 818) (by decide +kernel), lw_in (i := 8) (by decide +kernel), by decide +kernel⟩
def m_M_goTogether : mM := (⟨"AgeFerryModel", "goTogether", "(I)Z"⟩, prog_9_method_37_code, 4, some .boolean)
theorem mk_M_goTogether : mOk m_M_goTogether 1 := ⟨lw_in (i := 935) (by decide +kernel), lw_in (i := 8) (by decide +kernel), by decide +kernel⟩
def m_M_goesOn : mM := (⟨"AgeFerryModel", "goesOn", "()Z"⟩, prog_9_method_64_code, 5, some .boolean)
theorem mk_M_goesOn : mOk m_M_goesOn 0 := ⟨lw_in (i := 1045) (by decide +kernel), lw_in (i := 8) (by decide +kernel), by decide +kernel⟩
def m_M_here : mM := (⟨"AgeFerryModel", "here", "()I"⟩, prog_9_method_19_code, 1, some .int)
theorem mk_M_here : mOk m_M_here 0 := ⟨lw_in (i := 848) (by decide +kernel), lw_in (i := 8) (by decide +kernel), by decide +kernel⟩
def m_M_in : mM := (⟨"AgeFerryModel", "in", "(JJJ)Z"⟩, prog_9_method_3_code, 6, some .boolean)
theorem mk_M_in : mOk m_M_in 3 := ⟨lw_in (i := 794) (by decide +kernel), lw_in (i := 8) (by decide +kernel), by decide +kernel⟩
def m_M_init : mM := (⟨"AgeFerryModel", "<init>", "()V"⟩, prog_9_method_1_code, 2, none)
def m_M_isIn : mM := (⟨"AgeFerryModel", "isIn", "(II)Z"⟩, prog_9_method_6_code, 2, some .boolean)
theorem mk_M_isIn : mOk m_M_isIn 2 := ⟨lw_in (i := 915) (by decide +kernel), lw_in (i := 8) (by decide +kernel), by decide +kernel⟩
def m_M_isNumber : mM := (⟨"AgeFerryModel", "isNumber", "(I)Z"⟩, prog_9_method_25_code, 1, some .boolean)
theorem mk_M_isNumber : mOk m_M_isNumber 1 := ⟨lw_in (i := 876) (by decide +kernel), lw_in (i := 8) (by decide +kernel), by decide +kernel⟩
def m_M_isPerson : mM := (⟨"AgeFerryModel", "isPerson", "(I)Z"⟩, prog_9_method_24_code, 2, some .boolean)
theorem mk_M_isPerson : mOk m_M_isPerson 1 := ⟨lw_in (i := 862) (by decide +kernel), lw_in (i := 8) (by decide +kernel), by decide +kernel⟩
def m_M_isSheet : mM := (⟨"AgeFerryModel", "isSheet", "(I)Z"⟩, prog_9_method_9_code, 1, some .boolean)
theorem mk_M_isSheet : mOk m_M_isSheet 1 := ⟨lw_in (i := 790) (by decide +kernel), lw_in (i := 8) (by decide +kernel), by decide +kernel⟩
def m_M_isSo : mM := (⟨"AgeFerryModel", "isSo", "(II)Z"⟩, prog_9_method_70_code, 8, some .boolean)
theorem mk_M_isSo : mOk m_M_isSo 2 := ⟨lw_in (i := 1066) (by decide +kernel), lw_in (i := 8) (by decide +kernel), by decide +kernel⟩
def m_M_isTwo : mM := (⟨"AgeFerryModel", "isTwo", "(I)Z"⟩, prog_9_method_5_code, 1, some .boolean)
theorem mk_M_isTwo : mOk m_M_isTwo 1 := ⟨lw_in (i := 865) (by decide +kernel), lw_in (i := 8) (by decide +kernel), by decide +kernel⟩
def m_M_judged : mM := (⟨"AgeFerryModel", "judged", "(I)I"⟩, prog_9_method_52_code, 3, some .int)
theorem mk_M_judged : mOk m_M_judged 1 := ⟨lw_in (i := 971) (by decide +kernel), lw_in (i := 8) (by decide +kernel), by decide +kernel⟩
def m_M_judgedOf : mM := (⟨"AgeFerryModel", "judgedOf", "(I)I"⟩, prog_9_method_51_code, 5, some .int)
theorem mk_M_judgedOf : mOk m_M_judgedOf 1 := ⟨lw_in (i := 979) (by decide +kernel), lw_in (i := 8) (by decide +kernel), by decide +kernel⟩
def m_M_keepsWay : mM := (⟨"AgeFerryModel", "keepsWay", "()V"⟩, prog_9_method_65_code, 7, none)
theorem mk_M_keepsWay : mOk m_M_keepsWay 0 := ⟨lw_in (i := 1041) (by decide +kernel), lw_in (i := 8) (by decide +kernel), by decide +kernel⟩
def m_M_lacks : mM := (⟨"AgeFerryModel", "lacks", "(III)I"⟩, prog_9_method_12_code, 4, some .int)
theorem mk_M_lacks : mOk m_M_lacks 3 := ⟨lw_in (i := 811) (by decide +kernel), lw_in (i := 8) (by decide +kernel), by decide +kernel⟩
def m_M_lay : mM := (⟨"AgeFerryModel", "lay", "(IIII)I"⟩, prog_9_method_14_code, 6, some .int)
theorem mk_M_lay : mOk m_M_lay 4 := ⟨lw_in (i := 807) (by decide +kernel), lw_in (i := 8) (by decide +kernel), by decide +kernel⟩
def m_M_lays : mM := (⟨"AgeFerryModel", "lays", "([IIII)I"⟩, prog_9_method_32_code, 5, some .int)
theorem mk_M_lays : mOk m_M_lays 4 := ⟨lw_in (i := 900) (by decide +kernel), lw_in (i := 8) (by decide +kernel), by decide +kernel⟩
def m_M_lie : mM := (⟨"AgeFerryModel", "lie", "(II)I"⟩, prog_9_method_29_code, 4, some .int)
theorem mk_M_lie : mOk m_M_lie 2 := ⟨lw_in (i := 882) (by decide +kernel), lw_in (i := 8) (by decide +kernel), by decide +kernel⟩
def m_M_lies : mM := (⟨"AgeFerryModel", "lies", "(II)I"⟩, prog_9_method_63_code, 3, some .int)
theorem mk_M_lies : mOk m_M_lies 2 := ⟨lw_in (i := 1025) (by decide +kernel), lw_in (i := 8) (by decide +kernel), by decide +kernel⟩
def m_M_liesOf : mM := (⟨"AgeFerryModel", "liesOf", "(II)I"⟩, prog_9_method_62_code, 9, some .int)
theorem mk_M_liesOf : mOk m_M_liesOf 2 := ⟨lw_in (i := 1029) (by decide +kernel), lw_in (i := 8) (by decide +kernel), by decide +kernel⟩
def m_M_lose : mM := (⟨"AgeFerryModel", "lose", "(I)I"⟩, prog_9_method_11_code, 2, some .int)
theorem mk_M_lose : mOk m_M_lose 1 := ⟨lw_in (i := 803) (by decide +kernel), lw_in (i := 8) (by decide +kernel), by decide +kernel⟩
def m_M_lot : mM := (⟨"AgeFerryModel", "lot", "(I)I"⟩, prog_9_method_74_code, 2, some .int)
theorem mk_M_lot : mOk m_M_lot 1 := ⟨lw_in (i := 1070) (by decide +kernel), lw_in (i := 8) (by decide +kernel), by decide +kernel⟩
def m_M_lotOf : mM := (⟨"AgeFerryModel", "lotOf", "(I)I"⟩, prog_9_method_73_code, 7, some .int)
theorem mk_M_lotOf : mOk m_M_lotOf 1 := ⟨lw_in (i := 1074) (by decide +kernel), lw_in (i := 8) (by decide +kernel), by decide +kernel⟩
def m_M_met : mM := (⟨"AgeFerryModel", "met", "(I)I"⟩, prog_9_method_8_code, 2, some .int)
theorem mk_M_met : mOk m_M_met 1 := ⟨lw_in (i := 799) (by decide +kernel), lw_in (i := 8) (by decide +kernel), by decide +kernel⟩
def m_M_no : mM := (⟨"AgeFerryModel", "no", "(I)J"⟩, prog_9_method_4_code, 1, some .long)
theorem mk_M_no : mOk m_M_no 1 := ⟨lw_in (i := 998) (by decide +kernel), lw_in (i := 8) (by decide +kernel), by decide +kernel⟩
def m_M_noDay : mM := (⟨"AgeFerryModel", "noDay", "(I)I"⟩, prog_9_method_49_code, 2, some .int)
theorem mk_M_noDay : mOk m_M_noDay 1 := ⟨lw_in (i := 975) (by decide +kernel), lw_in (i := 8) (by decide +kernel), by decide +kernel⟩
def m_M_nobody : mM := (⟨"AgeFerryModel", "nobody", "()I"⟩, prog_9_method_20_code, 1, some .int)
theorem mk_M_nobody : mOk m_M_nobody 0 := ⟨lw_in (i := 854) (by decide +kernel), lw_in (i := 8) (by decide +kernel), by decide +kernel⟩
def m_M_odd : mM := (⟨"AgeFerryModel", "odd", "()I"⟩, prog_9_method_48_code, 1, some .int)
theorem mk_M_odd : mOk m_M_odd 0 := ⟨lw_in (i := 963) (by decide +kernel), lw_in (i := 8) (by decide +kernel), by decide +kernel⟩
def m_M_oddNow : mM := (⟨"AgeFerryModel", "oddNow", "()I"⟩, prog_9_method_47_code, 5, some .int)
theorem mk_M_oddNow : mOk m_M_oddNow 0 := ⟨lw_in (i := 967) (by decide +kernel), lw_in (i := 8) (by decide +kernel), by decide +kernel⟩
def m_M_ones : mM := (⟨"AgeFerryModel", "ones", "(I)I"⟩, prog_9_method_7_code, 3, some .int)
theorem mk_M_ones : mOk m_M_ones 1 := ⟨lw_in (i := 922) (by decide +kernel), lw_in (i := 8) (by decide +kernel), by decide +kernel⟩
def m_M_pair : mM := (⟨"AgeFerryModel", "pair", "(IIII)I"⟩, prog_9_method_33_code, 5, some .int)
theorem mk_M_pair : mOk m_M_pair 4 := ⟨lw_in (i := 897) (by decide +kernel), lw_in (i := 8) (by decide +kernel), by decide +kernel⟩
def m_M_pairs : mM := (⟨"AgeFerryModel", "pairs", "([I)I"⟩, prog_9_method_76_code, 3, some .int)
theorem mk_M_pairs : mOk m_M_pairs 1 := ⟨lw_in (i := 1086) (by decide +kernel), lw_in (i := 8) (by decide +kernel), by decide +kernel⟩
def m_M_part : mM := (⟨"AgeFerryModel", "part", "(JJI)J"⟩, prog_9_method_54_code, 11, some .long)
theorem mk_M_part : mOk m_M_part 3 := ⟨lw_in (i := 1002) (by decide +kernel), lw_in (i := 8) (by decide +kernel), by decide +kernel⟩
def m_M_pays : mM := (⟨"AgeFerryModel", "pays", "(II)J"⟩, prog_9_method_56_code, 3, some .long)
theorem mk_M_pays : mOk m_M_pays 2 := ⟨lw_in (i := 991) (by decide +kernel), lw_in (i := 8) (by decide +kernel), by decide +kernel⟩
def m_M_paysOf : mM := (⟨"AgeFerryModel", "paysOf", "(II)J"⟩, prog_9_method_55_code, 4, some .long)
theorem mk_M_paysOf : mOk m_M_paysOf 2 := ⟨lw_in (i := 995) (by decide +kernel), lw_in (i := 8) (by decide +kernel), by decide +kernel⟩
def m_M_person : mM := (⟨"AgeFerryModel", "person", "(II)I"⟩, prog_9_method_27_code, 3, some .int)
theorem mk_M_person : mOk m_M_person 2 := ⟨lw_in (i := 858) (by decide +kernel), lw_in (i := 8) (by decide +kernel), by decide +kernel⟩
def m_M_put : mM := (⟨"AgeFerryModel", "put", "(III)I"⟩, prog_9_method_28_code, 5, some .int)
theorem mk_M_put : mOk m_M_put 3 := ⟨lw_in (i := 873) (by decide +kernel), lw_in (i := 8) (by decide +kernel), by decide +kernel⟩
def m_M_rather : mM := (⟨"AgeFerryModel", "rather", "(I)I"⟩, prog_9_method_61_code, 7, some .int)
theorem mk_M_rather : mOk m_M_rather 1 := ⟨lw_in (i := 1021) (by decide +kernel), lw_in (i := 8) (by decide +kernel), by decide +kernel⟩
def m_M_read : mM := (⟨"AgeFerryModel", "read", "(I)I"⟩, prog_9_method_30_code, 3, some .int)
theorem mk_M_read : mOk m_M_read 1 := ⟨lw_in (i := 888) (by decide +kernel), lw_in (i := 8) (by decide +kernel), by decide +kernel⟩
def m_M_reads : mM := (⟨"AgeFerryModel", "reads", "()I"⟩, prog_9_method_22_code, 2, some .int)
theorem mk_M_reads : mOk m_M_reads 0 := ⟨lw_in (i := 840) (by decide +kernel), lw_in (i := 8) (by decide +kernel), by decide +kernel⟩
def m_M_readsPart : mM := (⟨"AgeFerryModel", "readsPart", "()Z"⟩, prog_9_method_21_code, 3, some .boolean)
theorem mk_M_readsPart : mOk m_M_readsPart 0 := ⟨lw_in (i := 844) (by decide +kernel), lw_in (i := 8) (by decide +kernel), by decide +kernel⟩
def m_M_seen : mM := (⟨"AgeFerryModel", "seen", "(III)I"⟩, prog_9_method_68_code, 4, some .int)
theorem mk_M_seen : mOk m_M_seen 3 := ⟨lw_in (i := 1049) (by decide +kernel), lw_in (i := 8) (by decide +kernel), by decide +kernel⟩
def m_M_set : mM := (⟨"AgeFerryModel", "set", "(II)I"⟩, prog_9_method_31_code, 6, some .int)
theorem mk_M_set : mOk m_M_set 2 := ⟨lw_in (i := 893) (by decide +kernel), lw_in (i := 8) (by decide +kernel), by decide +kernel⟩
def m_M_share : mM := (⟨"AgeFerryModel", "share", "(II)J"⟩, prog_9_method_60_code, 3, some .long)
theorem mk_M_share : mOk m_M_share 2 := ⟨lw_in (i := 1006) (by decide +kernel), lw_in (i := 8) (by decide +kernel), by decide +kernel⟩
def m_M_shareOf : mM := (⟨"AgeFerryModel", "shareOf", "(II)J"⟩, prog_9_method_59_code, 7, some .long)
theorem mk_M_shareOf : mOk m_M_shareOf 2 := ⟨lw_in (i := 1010) (by decide +kernel), lw_in (i := 8) (by decide +kernel), by decide +kernel⟩
def m_M_sheet : mM := (⟨"AgeFerryModel", "sheet", "(III)I"⟩, prog_9_method_10_code, 5, some .int)
theorem mk_M_sheet : mOk m_M_sheet 3 := ⟨lw_in (i := 787) (by decide +kernel), lw_in (i := 8) (by decide +kernel), by decide +kernel⟩
def m_M_toldBoat : mM := (⟨"AgeFerryModel", "toldBoat", "(II)I"⟩, prog_9_method_50_code, 5, some .int)
theorem mk_M_toldBoat : mOk m_M_toldBoat 2 := ⟨lw_in (i := 983) (by decide +kernel), lw_in (i := 8) (by decide +kernel), by decide +kernel⟩
def m_M_toldOf : mM := (⟨"AgeFerryModel", "toldOf", "(I)I"⟩, prog_9_method_26_code, 3, some .int)
theorem mk_M_toldOf : mOk m_M_toldOf 1 := ⟨lw_in (i := 869) (by decide +kernel), lw_in (i := 8) (by decide +kernel), by decide +kernel⟩
def m_M_tries : mM := (⟨"AgeFerryModel", "tries", "(III)V"⟩, prog_9_method_41_code, 7, none)
theorem mk_M_tries : mOk m_M_tries 3 := ⟨lw_in (i := 947) (by decide +kernel), lw_in (i := 8) (by decide +kernel), by decide +kernel⟩
def m_M_type : mM := (⟨"AgeFerryModel", "type", "(I)I"⟩, prog_9_method_17_code, 2, some .int)
theorem mk_M_type : mOk m_M_type 1 := ⟨lw_in (i := 827) (by decide +kernel), lw_in (i := 8) (by decide +kernel), by decide +kernel⟩
def m_M_whole : mM := (⟨"AgeFerryModel", "whole", "()I"⟩, prog_9_method_34_code, 1, some .int)
theorem mk_M_whole : mOk m_M_whole 0 := ⟨lw_in (i := 908) (by decide +kernel), lw_in (i := 8) (by decide +kernel), by decide +kernel⟩
def m_M_wipe : mM := (⟨"AgeFerryModel", "wipe", "()I"⟩, prog_9_method_18_code, 2, some .int)
theorem mk_M_wipe : mOk m_M_wipe 0 := ⟨lw_in (i := 832) (by decide +kernel), lw_in (i := 8) (by decide +kernel), by decide +kernel⟩
def m_M_with : mM := (⟨"AgeFerryModel", "with", "(I)I"⟩, prog_9_method_46_code, 2, some .int)
theorem mk_M_with : mOk m_M_with 1 := ⟨lw_in (i := 951) (by decide +kernel), lw_in (i := 8) (by decide +kernel), by decide +kernel⟩
def m_M_withOf : mM := (⟨"AgeFerryModel", "withOf", "(I)I"⟩, prog_9_method_45_code, 3, some .int)
theorem mk_M_withOf : mOk m_M_withOf 1 := ⟨lw_in (i := 955) (by decide +kernel), lw_in (i := 8) (by decide +kernel), by decide +kernel⟩
def m_M_write : mM := (⟨"AgeFerryModel", "write", "(I)I"⟩, prog_9_method_75_code, 6, some .int)
theorem mk_M_write : mOk m_M_write 1 := ⟨lw_in (i := 1079) (by decide +kernel), lw_in (i := 8) (by decide +kernel), by decide +kernel⟩
def m_P_ageAt : mM := (⟨"AgeFerry$People", "ageAt", "(II)I"⟩, prog_3_method_13_code, 5, some .int)
theorem mk_P_ageAt : mOk m_P_ageAt 2 := ⟨lw_in (i := 232) (by decide +kernel), lw_in (i := 2) (by decide +kernel), by decide +kernel⟩
def m_P_append : mM := (⟨"AgeFerry$People", "append", "(I)I"⟩, prog_3_method_3_code, 2, some .int)
theorem mk_P_append : mOk m_P_append 1 := ⟨lw_in (i := 220) (by decide +kernel), lw_in (i := 2) (by decide +kernel), by decide +kernel⟩
def m_P_endOfFigures : mM := (⟨"AgeFerry$People", "endOfFigures", "(I)I"⟩, prog_3_method_12_code, 3, some .int)
theorem mk_P_endOfFigures : mOk m_P_endOfFigures 1 := ⟨lw_in (i := 228) (by decide +kernel), lw_in (i := 2) (by decide +kernel), by decide +kernel⟩
def m_P_erase : mM := (⟨"AgeFerry$People", "erase", "()I"⟩, prog_3_method_4_code, 2, some .int)
theorem mk_P_erase : mOk m_P_erase 0 := ⟨lw_in (i := 250) (by decide +kernel), lw_in (i := 2) (by decide +kernel), by decide +kernel⟩
def m_P_everyone : mM := (⟨"AgeFerry$People", "everyone", "()I"⟩, prog_3_method_6_code, 1, some .int)
theorem mk_P_everyone : mOk m_P_everyone 0 := ⟨lw_in (i := 340) (by decide +kernel), lw_in (i := 2) (by decide +kernel), by decide +kernel⟩
def m_P_init : mM := (⟨"AgeFerry$People", "<init>", "()V"⟩, prog_3_method_1_code, 2, none)
def m_P_isTextFull : mM := (⟨"AgeFerry$People", "isTextFull", "()Z"⟩, prog_3_method_2_code, 1, some .boolean)
theorem mk_P_isTextFull : mOk m_P_isTextFull 0 := ⟨lw_in (i := 212) (by decide +kernel), lw_in (i := 2) (by decide +kernel), by decide +kernel⟩
def m_P_isThere : mM := (⟨"AgeFerry$People", "isThere", "(I)Z"⟩, prog_3_method_5_code, 2, some .boolean)
theorem mk_P_isThere : mOk m_P_isThere 1 := ⟨lw_in (i := 262) (by decide +kernel), lw_in (i := 2) (by decide +kernel), by decide +kernel⟩
def m_P_liars : mM := (⟨"AgeFerry$People", "liars", "()I"⟩, prog_3_method_10_code, 3, some .int)
theorem mk_P_liars : mOk m_P_liars 0 := ⟨lw_in (i := 659) (by decide +kernel), lw_in (i := 2) (by decide +kernel), by decide +kernel⟩
def m_P_tell : mM := (⟨"AgeFerry$People", "tell", "(II)V"⟩, prog_3_method_7_code, 3, none)
theorem mk_P_tell : mOk m_P_tell 2 := ⟨lw_in (i := 281) (by decide +kernel), lw_in (i := 2) (by decide +kernel), by decide +kernel⟩
def m_P_toldAt : mM := (⟨"AgeFerry$People", "toldAt", "(II)I"⟩, prog_3_method_8_code, 3, some .int)
theorem mk_P_toldAt : mOk m_P_toldAt 2 := ⟨lw_in (i := 236) (by decide +kernel), lw_in (i := 2) (by decide +kernel), by decide +kernel⟩
def m_P_understand : mM := (⟨"AgeFerry$People", "understand", "()V"⟩, prog_3_method_11_code, 7, none)
theorem mk_P_understand : mOk m_P_understand 0 := ⟨lw_in (i := 224) (by decide +kernel), lw_in (i := 2) (by decide +kernel), by decide +kernel⟩
def m_P_yearsTogether : mM := (⟨"AgeFerry$People", "yearsTogether", "()I"⟩, prog_3_method_9_code, 3, some .int)
theorem mk_P_yearsTogether : mOk m_P_yearsTogether 0 := ⟨lw_in (i := 655) (by decide +kernel), lw_in (i := 2) (by decide +kernel), by decide +kernel⟩
def m_R_boatOfPlace : mM := (⟨"AgeFerry$Rules", "boatOfPlace", "(I)I"⟩, prog_4_method_6_code, 3, some .int)
theorem mk_R_boatOfPlace : mOk m_R_boatOfPlace 1 := ⟨lw_in (i := 590) (by decide +kernel), lw_in (i := 3) (by decide +kernel), by decide +kernel⟩
def m_R_init : mM := (⟨"AgeFerry$Rules", "<init>", "()V"⟩, prog_4_method_1_code, 1, none)
def m_R_isFit : mM := (⟨"AgeFerry$Rules", "isFit", "(II)Z"⟩, prog_4_method_2_code, 3, some .boolean)
theorem mk_R_isFit : mOk m_R_isFit 2 := ⟨lw_in (i := 315) (by decide +kernel), lw_in (i := 3) (by decide +kernel), by decide +kernel⟩
def m_R_mustOf : mM := (⟨"AgeFerry$Rules", "mustOf", "(I)I"⟩, prog_4_method_4_code, 2, some .int)
theorem mk_R_mustOf : mOk m_R_mustOf 1 := ⟨lw_in (i := 375) (by decide +kernel), lw_in (i := 3) (by decide +kernel), by decide +kernel⟩
def m_R_pairsOf : mM := (⟨"AgeFerry$Rules", "pairsOf", "([I)I"⟩, prog_4_method_5_code, 4, some .int)
theorem mk_R_pairsOf : mOk m_R_pairsOf 1 := ⟨lw_in (i := 663) (by decide +kernel), lw_in (i := 3) (by decide +kernel), by decide +kernel⟩
def m_R_tie : mM := (⟨"AgeFerry$Rules", "tie", "([IIII)I"⟩, prog_4_method_3_code, 6, some .int)
theorem mk_R_tie : mOk m_R_tie 4 := ⟨lw_in (i := 327) (by decide +kernel), lw_in (i := 3) (by decide +kernel), by decide +kernel⟩
def m_S_hasItem : mM := (⟨"AgeFerry$Sheet", "hasItem", "(I)Z"⟩, prog_5_method_5_code, 2, some .boolean)
theorem mk_S_hasItem : mOk m_S_hasItem 1 := ⟨lw_in (i := 307) (by decide +kernel), lw_in (i := 7) (by decide +kernel), by decide +kernel⟩
def m_S_hasRange : mM := (⟨"AgeFerry$Sheet", "hasRange", "(II)Z"⟩, prog_5_method_6_code, 3, some .boolean)
theorem mk_S_hasRange : mOk m_S_hasRange 2 := ⟨lw_in (i := 635) (by decide +kernel), lw_in (i := 7) (by decide +kernel), by decide +kernel⟩
def m_S_init : mM := (⟨"AgeFerry$Sheet", "<init>", "()V"⟩, prog_5_method_1_code, 1, none)
def m_S_isLost : mM := (⟨"AgeFerry$Sheet", "isLost", "()Z"⟩, prog_5_method_2_code, 1, some .boolean)
theorem mk_S_isLost : mOk m_S_isLost 0 := ⟨lw_in (i := 292) (by decide +kernel), lw_in (i := 7) (by decide +kernel), by decide +kernel⟩
def m_S_item : mM := (⟨"AgeFerry$Sheet", "item", "(I)I"⟩, prog_5_method_7_code, 2, some .int)
theorem mk_S_item : mOk m_S_item 1 := ⟨lw_in (i := 303) (by decide +kernel), lw_in (i := 7) (by decide +kernel), by decide +kernel⟩
def m_S_renew : mM := (⟨"AgeFerry$Sheet", "renew", "(II)V"⟩, prog_5_method_4_code, 4, none)
theorem mk_S_renew : mOk m_S_renew 2 := ⟨lw_in (i := 601) (by decide +kernel), lw_in (i := 7) (by decide +kernel), by decide +kernel⟩
def m_S_store : mM := (⟨"AgeFerry$Sheet", "store", "(II)V"⟩, prog_5_method_8_code, 3, none)
theorem mk_S_store : mOk m_S_store 2 := ⟨lw_in (i := 622) (by decide +kernel), lw_in (i := 7) (by decide +kernel), by decide +kernel⟩
def m_S_tearUp : mM := (⟨"AgeFerry$Sheet", "tearUp", "()V"⟩, prog_5_method_3_code, 1, none)
theorem mk_S_tearUp : mOk m_S_tearUp 0 := ⟨lw_in (i := 610) (by decide +kernel), lw_in (i := 7) (by decide +kernel), by decide +kernel⟩
def m_T_areNew : mM := (⟨"AgeFerry$Trip", "areNew", "(I)Z"⟩, prog_7_method_7_code, 3, some .boolean)
theorem mk_T_areNew : mOk m_T_areNew 1 := ⟨lw_in (i := 529) (by decide +kernel), lw_in (i := 5) (by decide +kernel), by decide +kernel⟩
def m_T_atLeast : mM := (⟨"AgeFerry$Trip", "atLeast", "(III)I"⟩, prog_7_method_5_code, 4, some .int)
theorem mk_T_atLeast : mOk m_T_atLeast 3 := ⟨lw_in (i := 533) (by decide +kernel), lw_in (i := 5) (by decide +kernel), by decide +kernel⟩
def m_T_comeBack : mM := (⟨"AgeFerry$Trip", "comeBack", "(LAgeFerry$Trip;III)V"⟩, prog_7_method_4_code, 10, none)
theorem mk_T_comeBack : mOk m_T_comeBack 4 := ⟨lw_in (i := 521) (by decide +kernel), lw_in (i := 5) (by decide +kernel), by decide +kernel⟩
def m_T_goThere : mM := (⟨"AgeFerry$Trip", "goThere", "(LAgeFerry$Trip;III)V"⟩, prog_7_method_3_code, 10, none)
theorem mk_T_goThere : mOk m_T_goThere 4 := ⟨lw_in (i := 518) (by decide +kernel), lw_in (i := 5) (by decide +kernel), by decide +kernel⟩
def m_T_init : mM := (⟨"AgeFerry$Trip", "<init>", "(LAgeFerry$Days;)V"⟩, prog_7_method_1_code, 2, none)
def m_T_leastThereAndBack : mM := (⟨"AgeFerry$Trip", "leastThereAndBack", "(I)I"⟩, prog_7_method_2_code, 2, some .int)
theorem mk_T_leastThereAndBack : mOk m_T_leastThereAndBack 1 := ⟨lw_in (i := 509) (by decide +kernel), lw_in (i := 5) (by decide +kernel), by decide +kernel⟩
def m_T_meet : mM := (⟨"AgeFerry$Trip", "meet", "(I)V"⟩, prog_7_method_6_code, 3, none)
theorem mk_T_meet : mOk m_T_meet 1 := ⟨lw_in (i := 542) (by decide +kernel), lw_in (i := 5) (by decide +kernel), by decide +kernel⟩
theorem mj_max : Cond.static Lib.Math.max.name ∈ lw_ws ∧ Cond.initialized "java/lang/Math" ∈ lw_ws ∧ Cond.code Lib.Math.max.name Lib.Math.max.code 2 (some .int) ∈ lw_ws := ⟨lw_in (i := 241) (by decide +kernel), lw_in (i := 9) (by decide +kernel), lw_in (i := 242) (by decide +kernel)⟩
theorem mj_min : Cond.static Lib.Math.min.name ∈ lw_ws ∧ Cond.initialized "java/lang/Math" ∈ lw_ws ∧ Cond.code Lib.Math.min.name Lib.Math.min.code 2 (some .int) ∈ lw_ws := ⟨lw_in (i := 298) (by decide +kernel), lw_in (i := 9) (by decide +kernel), lw_in (i := 299) (by decide +kernel)⟩
theorem mj_abs : Cond.static Lib.Math.abs.name ∈ lw_ws ∧ Cond.initialized "java/lang/Math" ∈ lw_ws ∧ Cond.code Lib.Math.abs.name Lib.Math.abs.code 1 (some .int) ∈ lw_ws := ⟨lw_in (i := 574) (by decide +kernel), lw_in (i := 9) (by decide +kernel), lw_in (i := 575) (by decide +kernel)⟩
theorem mj_absl : Cond.static Lib.MathLoose.abs_long.x ∈ lw_ws ∧ Cond.initialized "java/lang/Math" ∈ lw_ws ∧ Cond.code Lib.MathLoose.abs_long.x Lib.MathLoose.abs_long.code 2 (some .long) ∈ lw_ws := ⟨lw_in (i := 462) (by decide +kernel), lw_in (i := 9) (by decide +kernel), lw_in (i := 463) (by decide +kernel)⟩
theorem ln_copy : Cond.methodLink "AgeFerry" 276 arraycopyName ∈ lw_ws := lw_in (i := 636) (by decide +kernel)
theorem mj_copy : Cond.native arraycopyName ∈ lw_ws ∧ Cond.static arraycopyName ∈ lw_ws ∧ Cond.initialized "java/lang/System" ∈ lw_ws := ⟨lw_in (i := 638) (by decide +kernel), lw_in (i := 637) (by decide +kernel), lw_in (i := 11) (by decide +kernel)⟩
theorem ln_F_59 : mLS "AgeFerry" 59 m_F_isWithin := ⟨lw_in (i := 206) (by decide +kernel), lw_in (i := 207) (by decide +kernel)⟩
theorem ln_F_63 : mLV "AgeFerry" 63 m_P_isTextFull := ⟨lw_in (i := 209) (by decide +kernel), lw_in (i := 210) (by decide +kernel), lw_in (i := 211) (by decide +kernel)⟩
theorem ln_F_67 : mLV "AgeFerry" 67 m_D_outdate := ⟨lw_in (i := 213) (by decide +kernel), lw_in (i := 214) (by decide +kernel), lw_in (i := 215) (by decide +kernel)⟩
theorem ln_F_70 : mLV "AgeFerry" 70 m_P_append := ⟨lw_in (i := 217) (by decide +kernel), lw_in (i := 218) (by decide +kernel), lw_in (i := 219) (by decide +kernel)⟩
theorem ln_F_74 : mLV "AgeFerry" 74 m_P_erase := ⟨lw_in (i := 247) (by decide +kernel), lw_in (i := 248) (by decide +kernel), lw_in (i := 249) (by decide +kernel)⟩
theorem ln_F_82 : mLV "AgeFerry" 82 m_P_isThere := ⟨lw_in (i := 259) (by decide +kernel), lw_in (i := 260) (by decide +kernel), lw_in (i := 261) (by decide +kernel)⟩
theorem ln_F_92 : mLS "AgeFerry" 92 m_F_isNumber := ⟨lw_in (i := 267) (by decide +kernel), lw_in (i := 238) (by decide +kernel)⟩
theorem ln_F_101 : mLS "AgeFerry" 101 m_F_exchange := ⟨lw_in (i := 268) (by decide +kernel), lw_in (i := 269) (by decide +kernel)⟩
theorem ln_F_105 : mLS "AgeFerry" 105 m_F_anyNumberRefusal := ⟨lw_in (i := 275) (by decide +kernel), lw_in (i := 276) (by decide +kernel)⟩
theorem ln_F_111 : mLV "AgeFerry" 111 m_P_tell := ⟨lw_in (i := 278) (by decide +kernel), lw_in (i := 279) (by decide +kernel), lw_in (i := 280) (by decide +kernel)⟩
theorem ln_F_115 : mLS "AgeFerry" 115 m_F_isSheet := ⟨lw_in (i := 286) (by decide +kernel), lw_in (i := 287) (by decide +kernel)⟩
theorem ln_F_118 : mLV "AgeFerry" 118 m_S_isLost := ⟨lw_in (i := 289) (by decide +kernel), lw_in (i := 290) (by decide +kernel), lw_in (i := 291) (by decide +kernel)⟩
theorem ln_F_121 : mLV "AgeFerry" 121 m_F_find := ⟨lw_in (i := 293) (by decide +kernel), lw_in (i := 295) (by decide +kernel), lw_inp (i := 3) (by decide +kernel)⟩
theorem ln_F_127 : Cond.methodLink "AgeFerry" 127 Lib.Math.min.name ∈ lw_ws := lw_in (i := 297) (by decide +kernel)
theorem ln_F_133 : mLV "AgeFerry" 133 m_S_item := ⟨lw_in (i := 300) (by decide +kernel), lw_in (i := 301) (by decide +kernel), lw_in (i := 302) (by decide +kernel)⟩
theorem ln_F_136 : mLV "AgeFerry" 136 m_R_isFit := ⟨lw_in (i := 312) (by decide +kernel), lw_in (i := 313) (by decide +kernel), lw_in (i := 314) (by decide +kernel)⟩
theorem ln_F_149 : mLV "AgeFerry" 149 m_R_tie := ⟨lw_in (i := 324) (by decide +kernel), lw_in (i := 325) (by decide +kernel), lw_in (i := 326) (by decide +kernel)⟩
theorem ln_F_153 : mLV "AgeFerry" 153 m_F_areThere := ⟨lw_in (i := 333) (by decide +kernel), lw_in (i := 335) (by decide +kernel), lw_inp (i := 4) (by decide +kernel)⟩
theorem ln_F_156 : mLV "AgeFerry" 156 m_D_costOf := ⟨lw_in (i := 341) (by decide +kernel), lw_in (i := 342) (by decide +kernel), lw_in (i := 343) (by decide +kernel)⟩
theorem ln_F_159 : mLV "AgeFerry" 159 m_D_fareOf := ⟨lw_in (i := 359) (by decide +kernel), lw_in (i := 353) (by decide +kernel), lw_in (i := 354) (by decide +kernel)⟩
theorem ln_F_162 : mLV "AgeFerry" 162 m_D_bringUpToDate := ⟨lw_in (i := 364) (by decide +kernel), lw_in (i := 365) (by decide +kernel), lw_in (i := 366) (by decide +kernel)⟩
theorem ln_F_165 : mLV "AgeFerry" 165 m_D_leastOf := ⟨lw_in (i := 392) (by decide +kernel), lw_in (i := 393) (by decide +kernel), lw_in (i := 394) (by decide +kernel)⟩
theorem ln_F_168 : mLV "AgeFerry" 168 m_D_boatsOf := ⟨lw_in (i := 400) (by decide +kernel), lw_in (i := 401) (by decide +kernel), lw_in (i := 402) (by decide +kernel)⟩
theorem ln_F_171 : mLV "AgeFerry" 171 m_D_mostOf := ⟨lw_in (i := 404) (by decide +kernel), lw_in (i := 405) (by decide +kernel), lw_in (i := 406) (by decide +kernel)⟩
theorem ln_F_174 : mLV "AgeFerry" 174 m_D_boatWith := ⟨lw_in (i := 412) (by decide +kernel), lw_in (i := 413) (by decide +kernel), lw_in (i := 414) (by decide +kernel)⟩
theorem ln_F_180 : mLV "AgeFerry" 180 m_P_everyone := ⟨lw_in (i := 337) (by decide +kernel), lw_in (i := 338) (by decide +kernel), lw_in (i := 339) (by decide +kernel)⟩
theorem ln_F_183 : mLV "AgeFerry" 183 m_F_refusalOf := ⟨lw_in (i := 428) (by decide +kernel), lw_in (i := 430) (by decide +kernel), lw_inp (i := 9) (by decide +kernel)⟩
theorem ln_F_186 : mLV "AgeFerry" 186 m_F_firstJudged := ⟨lw_in (i := 432) (by decide +kernel), lw_in (i := 434) (by decide +kernel), lw_inp (i := 10) (by decide +kernel)⟩
theorem ln_F_190 : mLV "AgeFerry" 190 m_F_crewOf := ⟨lw_in (i := 436) (by decide +kernel), lw_in (i := 438) (by decide +kernel), lw_inp (i := 11) (by decide +kernel)⟩
theorem ln_F_194 : mLV "AgeFerry" 194 m_F_costOfBoats := ⟨lw_in (i := 445) (by decide +kernel), lw_in (i := 447) (by decide +kernel), lw_inp (i := 12) (by decide +kernel)⟩
theorem ln_F_197 : mLS "AgeFerry" 197 m_F_longRefusal := ⟨lw_in (i := 453) (by decide +kernel), lw_in (i := 454) (by decide +kernel)⟩
theorem ln_F_201 : mLS "AgeFerry" 201 m_J_bitCount := ⟨lw_in (i := 457) (by decide +kernel), lw_in (i := 347) (by decide +kernel)⟩
theorem ln_F_206 : mLS "AgeFerry" 206 m_F_lowestTerms := ⟨lw_in (i := 458) (by decide +kernel), lw_in (i := 459) (by decide +kernel)⟩
theorem ln_F_210 : mLV "AgeFerry" 210 m_D_broughtInAllOrders := ⟨lw_in (i := 468) (by decide +kernel), lw_in (i := 469) (by decide +kernel), lw_in (i := 470) (by decide +kernel)⟩
theorem ln_F_213 : mLV "AgeFerry" 213 m_D_orders := ⟨lw_in (i := 479) (by decide +kernel), lw_in (i := 473) (by decide +kernel), lw_in (i := 474) (by decide +kernel)⟩
theorem ln_F_216 : mLV "AgeFerry" 216 m_F_paidTogether := ⟨lw_in (i := 484) (by decide +kernel), lw_in (i := 486) (by decide +kernel), lw_inp (i := 13) (by decide +kernel)⟩
theorem ln_F_220 : mLV "AgeFerry" 220 m_D_bestLie := ⟨lw_in (i := 492) (by decide +kernel), lw_in (i := 493) (by decide +kernel), lw_in (i := 494) (by decide +kernel)⟩
theorem ln_F_223 : mLV "AgeFerry" 223 m_T_leastThereAndBack := ⟨lw_in (i := 506) (by decide +kernel), lw_in (i := 507) (by decide +kernel), lw_in (i := 508) (by decide +kernel)⟩
theorem ln_F_226 : mLV "AgeFerry" 226 m_G_add := ⟨lw_in (i := 547) (by decide +kernel), lw_in (i := 548) (by decide +kernel), lw_in (i := 549) (by decide +kernel)⟩
theorem ln_F_230 : mLV "AgeFerry" 230 m_G_drop := ⟨lw_in (i := 555) (by decide +kernel), lw_in (i := 556) (by decide +kernel), lw_in (i := 557) (by decide +kernel)⟩
theorem ln_F_233 : mLV "AgeFerry" 233 m_G_allow := ⟨lw_in (i := 563) (by decide +kernel), lw_in (i := 564) (by decide +kernel), lw_in (i := 565) (by decide +kernel)⟩
theorem ln_F_238 : mLS "AgeFerry" 238 m_F_lotOf := ⟨lw_in (i := 581) (by decide +kernel), lw_in (i := 582) (by decide +kernel)⟩
theorem ln_F_241 : mLS "AgeFerry" 241 m_F_placeOf := ⟨lw_in (i := 584) (by decide +kernel), lw_in (i := 585) (by decide +kernel)⟩
theorem ln_F_244 : mLV "AgeFerry" 244 m_R_boatOfPlace := ⟨lw_in (i := 587) (by decide +kernel), lw_in (i := 588) (by decide +kernel), lw_in (i := 589) (by decide +kernel)⟩
theorem ln_F_247 : mLS "AgeFerry" 247 m_F_isForm := ⟨lw_in (i := 595) (by decide +kernel), lw_in (i := 596) (by decide +kernel)⟩
theorem ln_F_250 : mLV "AgeFerry" 250 m_S_renew := ⟨lw_in (i := 598) (by decide +kernel), lw_in (i := 599) (by decide +kernel), lw_in (i := 600) (by decide +kernel)⟩
theorem ln_F_253 : mLV "AgeFerry" 253 m_S_tearUp := ⟨lw_in (i := 607) (by decide +kernel), lw_in (i := 608) (by decide +kernel), lw_in (i := 609) (by decide +kernel)⟩
theorem ln_F_256 : mLS "AgeFerry" 256 m_F_findingAt := ⟨lw_in (i := 615) (by decide +kernel), lw_in (i := 616) (by decide +kernel)⟩
theorem ln_F_260 : mLV "AgeFerry" 260 m_S_store := ⟨lw_in (i := 619) (by decide +kernel), lw_in (i := 620) (by decide +kernel), lw_in (i := 621) (by decide +kernel)⟩
theorem ln_F_270 : mLV "AgeFerry" 270 m_S_hasRange := ⟨lw_in (i := 632) (by decide +kernel), lw_in (i := 633) (by decide +kernel), lw_in (i := 634) (by decide +kernel)⟩
theorem ln_F_282 : mLV "AgeFerry" 282 m_F_writeBoats := ⟨lw_in (i := 643) (by decide +kernel), lw_in (i := 645) (by decide +kernel), lw_inp (i := 19) (by decide +kernel)⟩
theorem ln_F_287 : mLV "AgeFerry" 287 m_P_yearsTogether := ⟨lw_in (i := 652) (by decide +kernel), lw_in (i := 653) (by decide +kernel), lw_in (i := 654) (by decide +kernel)⟩
theorem ln_F_290 : mLV "AgeFerry" 290 m_P_liars := ⟨lw_in (i := 656) (by decide +kernel), lw_in (i := 657) (by decide +kernel), lw_in (i := 658) (by decide +kernel)⟩
theorem ln_F_293 : mLV "AgeFerry" 293 m_R_pairsOf := ⟨lw_in (i := 660) (by decide +kernel), lw_in (i := 661) (by decide +kernel), lw_in (i := 662) (by decide +kernel)⟩
theorem ln_F_302 : mLV "AgeFerry" 302 m_F_count := ⟨lw_in (i := 671) (by decide +kernel), lw_in (i := 649) (by decide +kernel), lw_in (i := 650) (by decide +kernel)⟩
theorem ln_F_305 : mLV "AgeFerry" 305 m_F_fault := ⟨lw_in (i := 672) (by decide +kernel), lw_in (i := 252) (by decide +kernel), lw_in (i := 253) (by decide +kernel)⟩
theorem ln_F_307 : mLV "AgeFerry" 307 m_F_person := ⟨lw_in (i := 673) (by decide +kernel), lw_in (i := 256) (by decide +kernel), lw_in (i := 257) (by decide +kernel)⟩
theorem ln_F_310 : mLV "AgeFerry" 310 m_F_with := ⟨lw_in (i := 674) (by decide +kernel), lw_in (i := 409) (by decide +kernel), lw_in (i := 410) (by decide +kernel)⟩
theorem ln_F_313 : mLV "AgeFerry" 313 m_F_pays := ⟨lw_in (i := 675) (by decide +kernel), lw_in (i := 450) (by decide +kernel), lw_in (i := 451) (by decide +kernel)⟩
theorem ln_F_317 : mLV "AgeFerry" 317 m_F_share := ⟨lw_in (i := 676) (by decide +kernel), lw_in (i := 465) (by decide +kernel), lw_in (i := 466) (by decide +kernel)⟩
theorem ln_F_320 : mLV "AgeFerry" 320 m_F_lies := ⟨lw_in (i := 677) (by decide +kernel), lw_in (i := 489) (by decide +kernel), lw_in (i := 490) (by decide +kernel)⟩
theorem ln_F_322 : mLV "AgeFerry" 322 m_F_ages := ⟨lw_in (i := 678) (by decide +kernel), lw_in (i := 560) (by decide +kernel), lw_in (i := 561) (by decide +kernel)⟩
theorem ln_F_324 : mLV "AgeFerry" 324 m_F_day := ⟨lw_in (i := 679) (by decide +kernel), lw_in (i := 361) (by decide +kernel), lw_in (i := 362) (by decide +kernel)⟩
theorem ln_F_327 : mLV "AgeFerry" 327 m_F_odd := ⟨lw_in (i := 680) (by decide +kernel), lw_in (i := 421) (by decide +kernel), lw_in (i := 422) (by decide +kernel)⟩
theorem ln_F_330 : mLV "AgeFerry" 330 m_F_back := ⟨lw_in (i := 681) (by decide +kernel), lw_in (i := 503) (by decide +kernel), lw_in (i := 504) (by decide +kernel)⟩
theorem ln_F_333 : mLV "AgeFerry" 333 m_F_lot := ⟨lw_in (i := 682) (by decide +kernel), lw_in (i := 577) (by decide +kernel), lw_in (i := 578) (by decide +kernel)⟩
theorem ln_F_336 : mLV "AgeFerry" 336 m_S_hasItem := ⟨lw_in (i := 618) (by decide +kernel), lw_in (i := 305) (by decide +kernel), lw_in (i := 306) (by decide +kernel)⟩
theorem ln_F_341 : mLV "AgeFerry" 341 m_D_mayGo := ⟨lw_in (i := 440) (by decide +kernel), lw_in (i := 386) (by decide +kernel), lw_in (i := 387) (by decide +kernel)⟩
theorem ln_F_344 : mLS "AgeFerry" 344 m_D_lowestBit := ⟨lw_in (i := 647) (by decide +kernel), lw_in (i := 370) (by decide +kernel)⟩
theorem ln_F_347 : Cond.methodLink "AgeFerry" 347 Lib.MathLoose.abs_long.x ∈ lw_ws := lw_in (i := 461) (by decide +kernel)
theorem ln_D_36 : mLV "AgeFerry$Days" 36 m_P_everyone := ⟨lw_in (i := 368) (by decide +kernel), lw_in (i := 338) (by decide +kernel), lw_in (i := 339) (by decide +kernel)⟩
theorem ln_D_42 : mLS "AgeFerry$Days" 42 m_D_lowestBit := ⟨lw_in (i := 369) (by decide +kernel), lw_in (i := 370) (by decide +kernel)⟩
theorem ln_D_46 : mLS "AgeFerry$Days" 46 m_J_bitCount := ⟨lw_in (i := 346) (by decide +kernel), lw_in (i := 347) (by decide +kernel)⟩
theorem ln_D_51 : mLV "AgeFerry$Days" 51 m_R_mustOf := ⟨lw_in (i := 372) (by decide +kernel), lw_in (i := 373) (by decide +kernel), lw_in (i := 374) (by decide +kernel)⟩
theorem ln_D_56 : mLV "AgeFerry$Days" 56 m_D_priceOf := ⟨lw_in (i := 376) (by decide +kernel), lw_in (i := 378) (by decide +kernel), lw_inp (i := 5) (by decide +kernel)⟩
theorem ln_D_59 : mLV "AgeFerry$Days" 59 m_D_plan := ⟨lw_in (i := 381) (by decide +kernel), lw_in (i := 383) (by decide +kernel), lw_inp (i := 6) (by decide +kernel)⟩
theorem ln_D_71 : Cond.methodLink "AgeFerry$Days" 71 Lib.Math.max.name ∈ lw_ws := lw_in (i := 345) (by decide +kernel)
theorem ln_D_77 : Cond.methodLink "AgeFerry$Days" 77 Lib.Math.min.name ∈ lw_ws := lw_in (i := 358) (by decide +kernel)
theorem ln_D_86 : mLV "AgeFerry$Days" 86 m_D_fareOf := ⟨lw_in (i := 352) (by decide +kernel), lw_in (i := 353) (by decide +kernel), lw_in (i := 354) (by decide +kernel)⟩
theorem ln_D_89 : mLV "AgeFerry$Days" 89 m_D_planOf := ⟨lw_in (i := 396) (by decide +kernel), lw_in (i := 398) (by decide +kernel), lw_inp (i := 7) (by decide +kernel)⟩
theorem ln_D_92 : mLV "AgeFerry$Days" 92 m_D_firstBoatOf := ⟨lw_in (i := 416) (by decide +kernel), lw_in (i := 418) (by decide +kernel), lw_inp (i := 8) (by decide +kernel)⟩
theorem ln_D_98 : mLV "AgeFerry$Days" 98 m_D_orders := ⟨lw_in (i := 472) (by decide +kernel), lw_in (i := 473) (by decide +kernel), lw_in (i := 474) (by decide +kernel)⟩
theorem ln_D_105 : mLV "AgeFerry$Days" 105 m_D_leastOf := ⟨lw_in (i := 478) (by decide +kernel), lw_in (i := 393) (by decide +kernel), lw_in (i := 394) (by decide +kernel)⟩
theorem ln_D_111 : mLV "AgeFerry$Days" 111 m_P_tell := ⟨lw_in (i := 496) (by decide +kernel), lw_in (i := 279) (by decide +kernel), lw_in (i := 280) (by decide +kernel)⟩
theorem ln_D_115 : mLV "AgeFerry$Days" 115 m_D_replanAround := ⟨lw_in (i := 497) (by decide +kernel), lw_in (i := 499) (by decide +kernel), lw_inp (i := 14) (by decide +kernel)⟩
theorem ln_D_118 : mLV "AgeFerry$Days" 118 m_D_boatWith := ⟨lw_in (i := 501) (by decide +kernel), lw_in (i := 413) (by decide +kernel), lw_in (i := 414) (by decide +kernel)⟩
theorem ln_D_121 : mLV "AgeFerry$Days" 121 m_D_costOf := ⟨lw_in (i := 380) (by decide +kernel), lw_in (i := 342) (by decide +kernel), lw_in (i := 343) (by decide +kernel)⟩
theorem ln_D_127 : mLV "AgeFerry$Days" 127 m_D_mayGo := ⟨lw_in (i := 385) (by decide +kernel), lw_in (i := 386) (by decide +kernel), lw_in (i := 387) (by decide +kernel)⟩
theorem ln_D_131 : mLS "AgeFerry$Days" 131 m_D_nextPart := ⟨lw_in (i := 389) (by decide +kernel), lw_in (i := 390) (by decide +kernel)⟩
theorem ln_P_37 : mLV "AgeFerry$People" 37 m_P_understand := ⟨lw_in (i := 221) (by decide +kernel), lw_in (i := 223) (by decide +kernel), lw_inp (i := 0) (by decide +kernel)⟩
theorem ln_P_47 : mLV "AgeFerry$People" 47 m_P_toldAt := ⟨lw_in (i := 233) (by decide +kernel), lw_in (i := 234) (by decide +kernel), lw_in (i := 235) (by decide +kernel)⟩
theorem ln_P_51 : Cond.methodLink "AgeFerry$People" 51 Lib.Math.max.name ∈ lw_ws := lw_in (i := 240) (by decide +kernel)
theorem ln_P_56 : mLV "AgeFerry$People" 56 m_P_endOfFigures := ⟨lw_in (i := 225) (by decide +kernel), lw_in (i := 227) (by decide +kernel), lw_inp (i := 1) (by decide +kernel)⟩
theorem ln_P_60 : mLV "AgeFerry$People" 60 m_P_ageAt := ⟨lw_in (i := 229) (by decide +kernel), lw_in (i := 231) (by decide +kernel), lw_inp (i := 2) (by decide +kernel)⟩
theorem ln_R_31 : mLS "AgeFerry$Rules" 31 m_J_bitCount := ⟨lw_in (i := 664) (by decide +kernel), lw_in (i := 347) (by decide +kernel)⟩
theorem ln_S_20 : Cond.methodLink "AgeFerry$Sheet" 20 Lib.Math.min.name ∈ lw_ws := lw_in (i := 602) (by decide +kernel)
theorem ln_S_26 : mLV "AgeFerry$Sheet" 26 m_S_hasItem := ⟨lw_in (i := 304) (by decide +kernel), lw_in (i := 305) (by decide +kernel), lw_in (i := 306) (by decide +kernel)⟩
theorem ln_G_25 : mLV "AgeFerry$Sightings" 25 m_P_toldAt := ⟨lw_in (i := 567) (by decide +kernel), lw_in (i := 234) (by decide +kernel), lw_in (i := 235) (by decide +kernel)⟩
theorem ln_G_31 : mLV "AgeFerry$Sightings" 31 m_G_otherOf := ⟨lw_in (i := 568) (by decide +kernel), lw_in (i := 570) (by decide +kernel), lw_inp (i := 18) (by decide +kernel)⟩
theorem ln_G_34 : mLV "AgeFerry$Sightings" 34 m_P_isThere := ⟨lw_in (i := 572) (by decide +kernel), lw_in (i := 260) (by decide +kernel), lw_in (i := 261) (by decide +kernel)⟩
theorem ln_G_41 : Cond.methodLink "AgeFerry$Sightings" 41 Lib.Math.abs.name ∈ lw_ws := lw_in (i := 573) (by decide +kernel)
theorem ln_T_19 : mLV "AgeFerry$Trip" 19 m_D_leastOf := ⟨lw_in (i := 510) (by decide +kernel), lw_in (i := 393) (by decide +kernel), lw_in (i := 394) (by decide +kernel)⟩
theorem ln_T_25 : mLV "AgeFerry$Trip" 25 m_D_anyMust := ⟨lw_in (i := 511) (by decide +kernel), lw_in (i := 512) (by decide +kernel), lw_in (i := 513) (by decide +kernel)⟩
theorem ln_T_37 : mLS "AgeFerry$Trip" 37 m_T_goThere := ⟨lw_in (i := 516) (by decide +kernel), lw_in (i := 517) (by decide +kernel)⟩
theorem ln_T_41 : mLS "AgeFerry$Trip" 41 m_T_comeBack := ⟨lw_in (i := 519) (by decide +kernel), lw_in (i := 520) (by decide +kernel)⟩
theorem ln_T_44 : mLS "AgeFerry$Trip" 44 m_D_lowestBit := ⟨lw_in (i := 523) (by decide +kernel), lw_in (i := 370) (by decide +kernel)⟩
theorem ln_T_47 : mLS "AgeFerry$Trip" 47 m_J_bitCount := ⟨lw_in (i := 524) (by decide +kernel), lw_in (i := 347) (by decide +kernel)⟩
theorem ln_T_52 : mLV "AgeFerry$Trip" 52 m_D_mayGo := ⟨lw_in (i := 525) (by decide +kernel), lw_in (i := 386) (by decide +kernel), lw_in (i := 387) (by decide +kernel)⟩
theorem ln_T_56 : mLV "AgeFerry$Trip" 56 m_T_atLeast := ⟨lw_in (i := 530) (by decide +kernel), lw_in (i := 532) (by decide +kernel), lw_inp (i := 16) (by decide +kernel)⟩
theorem ln_T_60 : mLV "AgeFerry$Trip" 60 m_T_meet := ⟨lw_in (i := 539) (by decide +kernel), lw_in (i := 541) (by decide +kernel), lw_inp (i := 17) (by decide +kernel)⟩
theorem ln_T_64 : mLV "AgeFerry$Trip" 64 m_D_priceAt := ⟨lw_in (i := 534) (by decide +kernel), lw_in (i := 535) (by decide +kernel), lw_in (i := 536) (by decide +kernel)⟩
theorem ln_T_67 : mLS "AgeFerry$Trip" 67 m_D_nextPart := ⟨lw_in (i := 538) (by decide +kernel), lw_in (i := 390) (by decide +kernel)⟩
theorem ln_T_71 : Cond.methodLink "AgeFerry$Trip" 71 Lib.Math.min.name ∈ lw_ws := lw_in (i := 522) (by decide +kernel)
theorem ln_T_76 : mLV "AgeFerry$Trip" 76 m_T_areNew := ⟨lw_in (i := 526) (by decide +kernel), lw_in (i := 528) (by decide +kernel), lw_inp (i := 15) (by decide +kernel)⟩
theorem ln_L_13 : mLV "AgeFerryLaw" 13 m_F_type := ⟨lw_in (i := 202) (by decide +kernel), lw_in (i := 203) (by decide +kernel), lw_in (i := 204) (by decide +kernel)⟩
theorem ln_L_17 : mLV "AgeFerryLaw" 17 m_M_type := ⟨lw_in (i := 824) (by decide +kernel), lw_in (i := 825) (by decide +kernel), lw_in (i := 826) (by decide +kernel)⟩
theorem ln_L_18 : mLV "AgeFerryLaw" 18 m_F_wipe := ⟨lw_in (i := 243) (by decide +kernel), lw_in (i := 244) (by decide +kernel), lw_in (i := 245) (by decide +kernel)⟩
theorem ln_L_22 : mLV "AgeFerryLaw" 22 m_M_wipe := ⟨lw_in (i := 829) (by decide +kernel), lw_in (i := 830) (by decide +kernel), lw_in (i := 831) (by decide +kernel)⟩
theorem ln_L_23 : mLV "AgeFerryLaw" 23 m_F_fault := ⟨lw_in (i := 251) (by decide +kernel), lw_in (i := 252) (by decide +kernel), lw_in (i := 253) (by decide +kernel)⟩
theorem ln_L_26 : mLV "AgeFerryLaw" 26 m_M_fault := ⟨lw_in (i := 833) (by decide +kernel), lw_in (i := 834) (by decide +kernel), lw_in (i := 835) (by decide +kernel)⟩
theorem ln_L_27 : mLV "AgeFerryLaw" 27 m_F_person := ⟨lw_in (i := 255) (by decide +kernel), lw_in (i := 256) (by decide +kernel), lw_in (i := 257) (by decide +kernel)⟩
theorem ln_L_31 : mLV "AgeFerryLaw" 31 m_M_person := ⟨lw_in (i := 855) (by decide +kernel), lw_in (i := 856) (by decide +kernel), lw_in (i := 857) (by decide +kernel)⟩
theorem ln_L_32 : mLV "AgeFerryLaw" 32 m_F_put := ⟨lw_in (i := 263) (by decide +kernel), lw_in (i := 264) (by decide +kernel), lw_in (i := 265) (by decide +kernel)⟩
theorem ln_L_36 : mLV "AgeFerryLaw" 36 m_M_put := ⟨lw_in (i := 870) (by decide +kernel), lw_in (i := 871) (by decide +kernel), lw_in (i := 872) (by decide +kernel)⟩
theorem ln_L_37 : mLV "AgeFerryLaw" 37 m_F_lie := ⟨lw_in (i := 271) (by decide +kernel), lw_in (i := 272) (by decide +kernel), lw_in (i := 273) (by decide +kernel)⟩
theorem ln_L_40 : mLV "AgeFerryLaw" 40 m_M_lie := ⟨lw_in (i := 879) (by decide +kernel), lw_in (i := 880) (by decide +kernel), lw_in (i := 881) (by decide +kernel)⟩
theorem ln_L_41 : mLV "AgeFerryLaw" 41 m_F_read := ⟨lw_in (i := 282) (by decide +kernel), lw_in (i := 283) (by decide +kernel), lw_in (i := 284) (by decide +kernel)⟩
theorem ln_L_44 : mLV "AgeFerryLaw" 44 m_M_read := ⟨lw_in (i := 885) (by decide +kernel), lw_in (i := 886) (by decide +kernel), lw_in (i := 887) (by decide +kernel)⟩
theorem ln_L_45 : mLV "AgeFerryLaw" 45 m_F_set := ⟨lw_in (i := 308) (by decide +kernel), lw_in (i := 309) (by decide +kernel), lw_in (i := 310) (by decide +kernel)⟩
theorem ln_L_48 : mLV "AgeFerryLaw" 48 m_M_set := ⟨lw_in (i := 890) (by decide +kernel), lw_in (i := 891) (by decide +kernel), lw_in (i := 892) (by decide +kernel)⟩
theorem ln_L_49 : mLV "AgeFerryLaw" 49 m_F_pair := ⟨lw_in (i := 320) (by decide +kernel), lw_in (i := 321) (by decide +kernel), lw_in (i := 322) (by decide +kernel)⟩
theorem ln_L_53 : mLV "AgeFerryLaw" 53 m_M_pair := ⟨lw_in (i := 894) (by decide +kernel), lw_in (i := 895) (by decide +kernel), lw_in (i := 896) (by decide +kernel)⟩
theorem ln_L_54 : mLV "AgeFerryLaw" 54 m_F_boat := ⟨lw_in (i := 329) (by decide +kernel), lw_in (i := 330) (by decide +kernel), lw_in (i := 331) (by decide +kernel)⟩
theorem ln_L_57 : mLV "AgeFerryLaw" 57 m_M_boat := ⟨lw_in (i := 901) (by decide +kernel), lw_in (i := 902) (by decide +kernel), lw_in (i := 903) (by decide +kernel)⟩
theorem ln_L_58 : mLV "AgeFerryLaw" 58 m_F_day := ⟨lw_in (i := 360) (by decide +kernel), lw_in (i := 361) (by decide +kernel), lw_in (i := 362) (by decide +kernel)⟩
theorem ln_L_61 : mLV "AgeFerryLaw" 61 m_M_day := ⟨lw_in (i := 924) (by decide +kernel), lw_in (i := 925) (by decide +kernel), lw_in (i := 926) (by decide +kernel)⟩
theorem ln_L_62 : mLV "AgeFerryLaw" 62 m_F_with := ⟨lw_in (i := 408) (by decide +kernel), lw_in (i := 409) (by decide +kernel), lw_in (i := 410) (by decide +kernel)⟩
theorem ln_L_65 : mLV "AgeFerryLaw" 65 m_M_with := ⟨lw_in (i := 948) (by decide +kernel), lw_in (i := 949) (by decide +kernel), lw_in (i := 950) (by decide +kernel)⟩
theorem ln_L_66 : mLV "AgeFerryLaw" 66 m_F_odd := ⟨lw_in (i := 420) (by decide +kernel), lw_in (i := 421) (by decide +kernel), lw_in (i := 422) (by decide +kernel)⟩
theorem ln_L_69 : mLV "AgeFerryLaw" 69 m_M_odd := ⟨lw_in (i := 960) (by decide +kernel), lw_in (i := 961) (by decide +kernel), lw_in (i := 962) (by decide +kernel)⟩
theorem ln_L_70 : mLV "AgeFerryLaw" 70 m_F_judged := ⟨lw_in (i := 424) (by decide +kernel), lw_in (i := 425) (by decide +kernel), lw_in (i := 426) (by decide +kernel)⟩
theorem ln_L_73 : mLV "AgeFerryLaw" 73 m_M_judged := ⟨lw_in (i := 968) (by decide +kernel), lw_in (i := 969) (by decide +kernel), lw_in (i := 970) (by decide +kernel)⟩
theorem ln_L_74 : mLV "AgeFerryLaw" 74 m_F_costs := ⟨lw_in (i := 441) (by decide +kernel), lw_in (i := 442) (by decide +kernel), lw_in (i := 443) (by decide +kernel)⟩
theorem ln_L_77 : mLV "AgeFerryLaw" 77 m_M_costs := ⟨lw_in (i := 984) (by decide +kernel), lw_in (i := 985) (by decide +kernel), lw_in (i := 986) (by decide +kernel)⟩
theorem ln_L_78 : mLV "AgeFerryLaw" 78 m_F_pays := ⟨lw_in (i := 449) (by decide +kernel), lw_in (i := 450) (by decide +kernel), lw_in (i := 451) (by decide +kernel)⟩
theorem ln_L_82 : mLV "AgeFerryLaw" 82 m_M_pays := ⟨lw_in (i := 988) (by decide +kernel), lw_in (i := 989) (by decide +kernel), lw_in (i := 990) (by decide +kernel)⟩
theorem ln_L_83 : mLV "AgeFerryLaw" 83 m_F_share := ⟨lw_in (i := 464) (by decide +kernel), lw_in (i := 465) (by decide +kernel), lw_in (i := 466) (by decide +kernel)⟩
theorem ln_L_86 : mLV "AgeFerryLaw" 86 m_M_share := ⟨lw_in (i := 1003) (by decide +kernel), lw_in (i := 1004) (by decide +kernel), lw_in (i := 1005) (by decide +kernel)⟩
theorem ln_L_87 : mLV "AgeFerryLaw" 87 m_F_rather := ⟨lw_in (i := 480) (by decide +kernel), lw_in (i := 481) (by decide +kernel), lw_in (i := 482) (by decide +kernel)⟩
theorem ln_L_90 : mLV "AgeFerryLaw" 90 m_M_rather := ⟨lw_in (i := 1018) (by decide +kernel), lw_in (i := 1019) (by decide +kernel), lw_in (i := 1020) (by decide +kernel)⟩
theorem ln_L_91 : mLV "AgeFerryLaw" 91 m_F_lies := ⟨lw_in (i := 488) (by decide +kernel), lw_in (i := 489) (by decide +kernel), lw_in (i := 490) (by decide +kernel)⟩
theorem ln_L_94 : mLV "AgeFerryLaw" 94 m_M_lies := ⟨lw_in (i := 1022) (by decide +kernel), lw_in (i := 1023) (by decide +kernel), lw_in (i := 1024) (by decide +kernel)⟩
theorem ln_L_95 : mLV "AgeFerryLaw" 95 m_F_back := ⟨lw_in (i := 502) (by decide +kernel), lw_in (i := 503) (by decide +kernel), lw_in (i := 504) (by decide +kernel)⟩
theorem ln_L_98 : mLV "AgeFerryLaw" 98 m_M_back := ⟨lw_in (i := 1030) (by decide +kernel), lw_in (i := 1031) (by decide +kernel), lw_in (i := 1032) (by decide +kernel)⟩
theorem ln_L_99 : mLV "AgeFerryLaw" 99 m_F_seen := ⟨lw_in (i := 543) (by decide +kernel), lw_in (i := 544) (by decide +kernel), lw_in (i := 545) (by decide +kernel)⟩
theorem ln_L_102 : mLV "AgeFerryLaw" 102 m_M_seen := ⟨lw_in (i := 1046) (by decide +kernel), lw_in (i := 1047) (by decide +kernel), lw_in (i := 1048) (by decide +kernel)⟩
theorem ln_L_103 : mLV "AgeFerryLaw" 103 m_F_forget := ⟨lw_in (i := 551) (by decide +kernel), lw_in (i := 552) (by decide +kernel), lw_in (i := 553) (by decide +kernel)⟩
theorem ln_L_106 : mLV "AgeFerryLaw" 106 m_M_forget := ⟨lw_in (i := 1051) (by decide +kernel), lw_in (i := 1052) (by decide +kernel), lw_in (i := 1053) (by decide +kernel)⟩
theorem ln_L_107 : mLV "AgeFerryLaw" 107 m_F_ages := ⟨lw_in (i := 559) (by decide +kernel), lw_in (i := 560) (by decide +kernel), lw_in (i := 561) (by decide +kernel)⟩
theorem ln_L_110 : mLV "AgeFerryLaw" 110 m_M_ages := ⟨lw_in (i := 1055) (by decide +kernel), lw_in (i := 1056) (by decide +kernel), lw_in (i := 1057) (by decide +kernel)⟩
theorem ln_L_111 : mLV "AgeFerryLaw" 111 m_F_lot := ⟨lw_in (i := 576) (by decide +kernel), lw_in (i := 577) (by decide +kernel), lw_in (i := 578) (by decide +kernel)⟩
theorem ln_L_114 : mLV "AgeFerryLaw" 114 m_M_lot := ⟨lw_in (i := 1067) (by decide +kernel), lw_in (i := 1068) (by decide +kernel), lw_in (i := 1069) (by decide +kernel)⟩
theorem ln_L_115 : mLV "AgeFerryLaw" 115 m_F_sheet := ⟨lw_in (i := 591) (by decide +kernel), lw_in (i := 592) (by decide +kernel), lw_in (i := 593) (by decide +kernel)⟩
theorem ln_L_118 : mLV "AgeFerryLaw" 118 m_M_sheet := ⟨lw_in (i := 784) (by decide +kernel), lw_in (i := 785) (by decide +kernel), lw_in (i := 786) (by decide +kernel)⟩
theorem ln_L_119 : mLV "AgeFerryLaw" 119 m_F_lose := ⟨lw_in (i := 603) (by decide +kernel), lw_in (i := 604) (by decide +kernel), lw_in (i := 605) (by decide +kernel)⟩
theorem ln_L_122 : mLV "AgeFerryLaw" 122 m_M_lose := ⟨lw_in (i := 800) (by decide +kernel), lw_in (i := 801) (by decide +kernel), lw_in (i := 802) (by decide +kernel)⟩
theorem ln_L_123 : mLV "AgeFerryLaw" 123 m_F_lay := ⟨lw_in (i := 611) (by decide +kernel), lw_in (i := 612) (by decide +kernel), lw_in (i := 613) (by decide +kernel)⟩
theorem ln_L_126 : mLV "AgeFerryLaw" 126 m_M_lay := ⟨lw_in (i := 804) (by decide +kernel), lw_in (i := 805) (by decide +kernel), lw_in (i := 806) (by decide +kernel)⟩
theorem ln_L_127 : mLV "AgeFerryLaw" 127 m_F_get := ⟨lw_in (i := 623) (by decide +kernel), lw_in (i := 624) (by decide +kernel), lw_in (i := 625) (by decide +kernel)⟩
theorem ln_L_130 : mLV "AgeFerryLaw" 130 m_M_get := ⟨lw_in (i := 815) (by decide +kernel), lw_in (i := 816) (by decide +kernel), lw_in (i := 817) (by decide +kernel)⟩
theorem ln_L_131 : mLV "AgeFerryLaw" 131 m_F_copy := ⟨lw_in (i := 628) (by decide +kernel), lw_in (i := 629) (by decide +kernel), lw_in (i := 630) (by decide +kernel)⟩
theorem ln_L_135 : mLV "AgeFerryLaw" 135 m_M_copy := ⟨lw_in (i := 820) (by decide +kernel), lw_in (i := 821) (by decide +kernel), lw_in (i := 822) (by decide +kernel)⟩
theorem ln_L_136 : mLV "AgeFerryLaw" 136 m_F_write := ⟨lw_in (i := 639) (by decide +kernel), lw_in (i := 640) (by decide +kernel), lw_in (i := 641) (by decide +kernel)⟩
theorem ln_L_139 : mLV "AgeFerryLaw" 139 m_M_write := ⟨lw_in (i := 1076) (by decide +kernel), lw_in (i := 1077) (by decide +kernel), lw_in (i := 1078) (by decide +kernel)⟩
theorem ln_L_140 : mLV "AgeFerryLaw" 140 m_F_count := ⟨lw_in (i := 648) (by decide +kernel), lw_in (i := 649) (by decide +kernel), lw_in (i := 650) (by decide +kernel)⟩
theorem ln_L_143 : mLV "AgeFerryLaw" 143 m_M_count := ⟨lw_in (i := 1080) (by decide +kernel), lw_in (i := 1081) (by decide +kernel), lw_in (i := 1082) (by decide +kernel)⟩
theorem ln_L_144 : mLV "AgeFerryLaw" 144 m_F_digest := ⟨lw_in (i := 665) (by decide +kernel), lw_in (i := 666) (by decide +kernel), lw_in (i := 667) (by decide +kernel)⟩
theorem ln_L_148 : mLV "AgeFerryLaw" 148 m_M_digest := ⟨lw_in (i := 1087) (by decide +kernel), lw_in (i := 1088) (by decide +kernel), lw_in (i := 1089) (by decide +kernel)⟩
theorem ln_M_88 : mLS "AgeFerryModel" 88 m_M_in := ⟨lw_in (i := 792) (by decide +kernel), lw_in (i := 793) (by decide +kernel)⟩
theorem ln_M_98 : mLS "AgeFerryModel" 98 m_M_isSheet := ⟨lw_in (i := 788) (by decide +kernel), lw_in (i := 789) (by decide +kernel)⟩
theorem ln_M_104 : mLV "AgeFerryModel" 104 m_M_met := ⟨lw_in (i := 796) (by decide +kernel), lw_in (i := 798) (by decide +kernel), lw_inp (i := 20) (by decide +kernel)⟩
theorem ln_M_108 : mLV "AgeFerryModel" 108 m_M_lacks := ⟨lw_in (i := 808) (by decide +kernel), lw_in (i := 810) (by decide +kernel), lw_inp (i := 21) (by decide +kernel)⟩
theorem ln_M_112 : mLS "AgeFerryModel" 112 m_M_cut := ⟨lw_in (i := 812) (by decide +kernel), lw_in (i := 813) (by decide +kernel)⟩
theorem ln_M_128 : mLV "AgeFerryModel" 128 m_M_here := ⟨lw_in (i := 845) (by decide +kernel), lw_in (i := 847) (by decide +kernel), lw_inp (i := 24) (by decide +kernel)⟩
theorem ln_M_136 : mLV "AgeFerryModel" 136 m_M_readsPart := ⟨lw_in (i := 841) (by decide +kernel), lw_in (i := 843) (by decide +kernel), lw_inp (i := 23) (by decide +kernel)⟩
theorem ln_M_140 : mLV "AgeFerryModel" 140 m_M_nobody := ⟨lw_in (i := 851) (by decide +kernel), lw_in (i := 853) (by decide +kernel), lw_inp (i := 25) (by decide +kernel)⟩
theorem ln_M_143 : mLV "AgeFerryModel" 143 m_M_reads := ⟨lw_in (i := 837) (by decide +kernel), lw_in (i := 839) (by decide +kernel), lw_inp (i := 22) (by decide +kernel)⟩
theorem ln_M_148 : mLV "AgeFerryModel" 148 m_M_isPerson := ⟨lw_in (i := 859) (by decide +kernel), lw_in (i := 861) (by decide +kernel), lw_inp (i := 26) (by decide +kernel)⟩
theorem ln_M_151 : mLS "AgeFerryModel" 151 m_M_isTwo := ⟨lw_in (i := 863) (by decide +kernel), lw_in (i := 864) (by decide +kernel)⟩
theorem ln_M_154 : mLV "AgeFerryModel" 154 m_M_toldOf := ⟨lw_in (i := 866) (by decide +kernel), lw_in (i := 868) (by decide +kernel), lw_inp (i := 27) (by decide +kernel)⟩
theorem ln_M_157 : mLS "AgeFerryModel" 157 m_M_isNumber := ⟨lw_in (i := 874) (by decide +kernel), lw_in (i := 875) (by decide +kernel)⟩
theorem ln_M_166 : mLV "AgeFerryModel" 166 m_M_put := ⟨lw_in (i := 889) (by decide +kernel), lw_in (i := 871) (by decide +kernel), lw_in (i := 872) (by decide +kernel)⟩
theorem ln_M_169 : mLS "AgeFerryModel" 169 m_M_lays := ⟨lw_in (i := 898) (by decide +kernel), lw_in (i := 899) (by decide +kernel)⟩
theorem ln_M_173 : mLS "AgeFerryModel" 173 m_M_ones := ⟨lw_in (i := 920) (by decide +kernel), lw_in (i := 921) (by decide +kernel)⟩
theorem ln_M_177 : mLS "AgeFerryModel" 177 m_M_isIn := ⟨lw_in (i := 913) (by decide +kernel), lw_in (i := 914) (by decide +kernel)⟩
theorem ln_M_181 : mLV "AgeFerryModel" 181 m_M_fareOf := ⟨lw_in (i := 916) (by decide +kernel), lw_in (i := 918) (by decide +kernel), lw_inp (i := 30) (by decide +kernel)⟩
theorem ln_M_184 : mLV "AgeFerryModel" 184 m_M_whole := ⟨lw_in (i := 905) (by decide +kernel), lw_in (i := 907) (by decide +kernel), lw_inp (i := 28) (by decide +kernel)⟩
theorem ln_M_187 : mLV "AgeFerryModel" 187 m_M_goTogether := ⟨lw_in (i := 932) (by decide +kernel), lw_in (i := 934) (by decide +kernel), lw_inp (i := 32) (by decide +kernel)⟩
theorem ln_M_190 : mLV "AgeFerryModel" 190 m_M_costOf := ⟨lw_in (i := 909) (by decide +kernel), lw_in (i := 911) (by decide +kernel), lw_inp (i := 29) (by decide +kernel)⟩
theorem ln_M_193 : mLV "AgeFerryModel" 193 m_M_tries := ⟨lw_in (i := 944) (by decide +kernel), lw_in (i := 946) (by decide +kernel), lw_inp (i := 35) (by decide +kernel)⟩
theorem ln_M_197 : mLV "AgeFerryModel" 197 m_M_findDay := ⟨lw_in (i := 940) (by decide +kernel), lw_in (i := 942) (by decide +kernel), lw_inp (i := 34) (by decide +kernel)⟩
theorem ln_M_201 : mLV "AgeFerryModel" 201 m_M_findBoats := ⟨lw_in (i := 928) (by decide +kernel), lw_in (i := 930) (by decide +kernel), lw_inp (i := 31) (by decide +kernel)⟩
theorem ln_M_204 : mLV "AgeFerryModel" 204 m_M_dayOf := ⟨lw_in (i := 936) (by decide +kernel), lw_in (i := 938) (by decide +kernel), lw_inp (i := 33) (by decide +kernel)⟩
theorem ln_M_207 : mLV "AgeFerryModel" 207 m_M_boatWith := ⟨lw_in (i := 956) (by decide +kernel), lw_in (i := 958) (by decide +kernel), lw_inp (i := 37) (by decide +kernel)⟩
theorem ln_M_210 : mLV "AgeFerryModel" 210 m_M_withOf := ⟨lw_in (i := 952) (by decide +kernel), lw_in (i := 954) (by decide +kernel), lw_inp (i := 36) (by decide +kernel)⟩
theorem ln_M_213 : mLV "AgeFerryModel" 213 m_M_oddNow := ⟨lw_in (i := 964) (by decide +kernel), lw_in (i := 966) (by decide +kernel), lw_inp (i := 38) (by decide +kernel)⟩
theorem ln_M_216 : mLV "AgeFerryModel" 216 m_M_toldBoat := ⟨lw_in (i := 980) (by decide +kernel), lw_in (i := 982) (by decide +kernel), lw_inp (i := 41) (by decide +kernel)⟩
theorem ln_M_219 : mLV "AgeFerryModel" 219 m_M_noDay := ⟨lw_in (i := 972) (by decide +kernel), lw_in (i := 974) (by decide +kernel), lw_inp (i := 39) (by decide +kernel)⟩
theorem ln_M_222 : mLV "AgeFerryModel" 222 m_M_judgedOf := ⟨lw_in (i := 976) (by decide +kernel), lw_in (i := 978) (by decide +kernel), lw_inp (i := 40) (by decide +kernel)⟩
theorem ln_M_225 : mLS "AgeFerryModel" 225 m_M_no := ⟨lw_in (i := 996) (by decide +kernel), lw_in (i := 997) (by decide +kernel)⟩
theorem ln_M_229 : mLS "AgeFerryModel" 229 m_M_part := ⟨lw_in (i := 1000) (by decide +kernel), lw_in (i := 1001) (by decide +kernel)⟩
theorem ln_M_233 : mLV "AgeFerryModel" 233 m_M_paysOf := ⟨lw_in (i := 992) (by decide +kernel), lw_in (i := 994) (by decide +kernel), lw_inp (i := 42) (by decide +kernel)⟩
theorem ln_M_237 : mLV "AgeFerryModel" 237 m_M_findLeasts := ⟨lw_in (i := 1011) (by decide +kernel), lw_in (i := 1013) (by decide +kernel), lw_inp (i := 44) (by decide +kernel)⟩
theorem ln_M_240 : mLS "AgeFerryModel" 240 m_M_factorial := ⟨lw_in (i := 1015) (by decide +kernel), lw_in (i := 1016) (by decide +kernel)⟩
theorem ln_M_243 : mLV "AgeFerryModel" 243 m_M_shareOf := ⟨lw_in (i := 1007) (by decide +kernel), lw_in (i := 1009) (by decide +kernel), lw_inp (i := 43) (by decide +kernel)⟩
theorem ln_M_246 : mLV "AgeFerryModel" 246 m_M_liesOf := ⟨lw_in (i := 1026) (by decide +kernel), lw_in (i := 1028) (by decide +kernel), lw_inp (i := 45) (by decide +kernel)⟩
theorem ln_M_252 : mLV "AgeFerryModel" 252 m_M_keepsWay := ⟨lw_in (i := 1038) (by decide +kernel), lw_in (i := 1040) (by decide +kernel), lw_inp (i := 47) (by decide +kernel)⟩
theorem ln_M_255 : mLV "AgeFerryModel" 255 m_M_goesOn := ⟨lw_in (i := 1042) (by decide +kernel), lw_in (i := 1044) (by decide +kernel), lw_inp (i := 48) (by decide +kernel)⟩
theorem ln_M_258 : mLV "AgeFerryModel" 258 m_M_backNow := ⟨lw_in (i := 1034) (by decide +kernel), lw_in (i := 1036) (by decide +kernel), lw_inp (i := 46) (by decide +kernel)⟩
theorem ln_M_266 : mLV "AgeFerryModel" 266 m_M_isSo := ⟨lw_in (i := 1063) (by decide +kernel), lw_in (i := 1065) (by decide +kernel), lw_inp (i := 50) (by decide +kernel)⟩
theorem ln_M_269 : mLV "AgeFerryModel" 269 m_M_agesOf := ⟨lw_in (i := 1059) (by decide +kernel), lw_in (i := 1061) (by decide +kernel), lw_inp (i := 49) (by decide +kernel)⟩
theorem ln_M_273 : mLV "AgeFerryModel" 273 m_M_lotOf := ⟨lw_in (i := 1071) (by decide +kernel), lw_in (i := 1073) (by decide +kernel), lw_inp (i := 51) (by decide +kernel)⟩
theorem ln_M_276 : mLS "AgeFerryModel" 276 m_M_pairs := ⟨lw_in (i := 1084) (by decide +kernel), lw_in (i := 1085) (by decide +kernel)⟩
theorem ln_M_284 : mLV "AgeFerryModel" 284 m_M_count := ⟨lw_in (i := 1093) (by decide +kernel), lw_in (i := 1081) (by decide +kernel), lw_in (i := 1082) (by decide +kernel)⟩
end
section
theorem d_D_anyMust_0 : mD m_D_anyMust 0 (.iload_n 1) 1 1 := ⟨by decide +kernel, rfl⟩
theorem d_D_anyMust_1 : mJ m_D_anyMust 1 (.ifCond .le 25) (25) 4 26 := ⟨by decide +kernel, rfl, rfl⟩
theorem d_D_anyMust_4 : mD m_D_anyMust 4 (.iload_n 1) 1 5 := ⟨by decide +kernel, rfl⟩
theorem d_D_anyMust_5 : mD m_D_anyMust 5 (.sipush 1024) 3 8 := ⟨by decide +kernel, rfl⟩
theorem d_D_anyMust_8 : mJ m_D_anyMust 8 (.if_icmp .ge 18) (18) 11 26 := ⟨by decide +kernel, rfl, rfl⟩
theorem d_D_anyMust_11 : mD m_D_anyMust 11 (.aload_n 0) 1 12 := ⟨by decide +kernel, rfl⟩
theorem d_D_anyMust_12 : mD m_D_anyMust 12 (.getfield 15) 3 15 := ⟨by decide +kernel, rfl⟩
theorem d_D_anyMust_15 : mD m_D_anyMust 15 (.iload_n 1) 1 16 := ⟨by decide +kernel, rfl⟩
theorem d_D_anyMust_16 : mD m_D_anyMust 16 (.iaload) 1 17 := ⟨by decide +kernel, rfl⟩
theorem d_D_anyMust_17 : mD m_D_anyMust 17 (.iload_n 1) 1 18 := ⟨by decide +kernel, rfl⟩
theorem d_D_anyMust_18 : mD m_D_anyMust 18 (.iand) 1 19 := ⟨by decide +kernel, rfl⟩
theorem d_D_anyMust_19 : mJ m_D_anyMust 19 (.ifCond .eq 7) (7) 22 26 := ⟨by decide +kernel, rfl, rfl⟩
theorem d_D_anyMust_22 : mD m_D_anyMust 22 (.iconst 1) 1 23 := ⟨by decide +kernel, rfl⟩
theorem d_D_anyMust_23 : mJ m_D_anyMust 23 (.goto 4) (4) 26 27 := ⟨by decide +kernel, rfl, rfl⟩
theorem d_D_anyMust_26 : mD m_D_anyMust 26 (.iconst 0) 1 27 := ⟨by decide +kernel, rfl⟩
theorem d_D_anyMust_27 : mD m_D_anyMust 27 (.ireturn) 1 28 := ⟨by decide +kernel, rfl⟩
theorem d_D_bestLie_0 : mD m_D_bestLie 0 (.aload_n 0) 1 1 := ⟨by decide +kernel, rfl⟩
theorem d_D_bestLie_1 : mD m_D_bestLie 1 (.getfield 28) 3 4 := ⟨by decide +kernel, rfl⟩
theorem d_D_bestLie_4 : mD m_D_bestLie 4 (.getfield 108) 3 7 := ⟨by decide +kernel, rfl⟩
theorem d_D_bestLie_7 : mD m_D_bestLie 7 (.iload_n 1) 1 8 := ⟨by decide +kernel, rfl⟩
theorem d_D_bestLie_8 : mD m_D_bestLie 8 (.iaload) 1 9 := ⟨by decide +kernel, rfl⟩
theorem d_D_bestLie_9 : mD m_D_bestLie 9 (.istore_n 3) 1 10 := ⟨by decide +kernel, rfl⟩
theorem d_D_bestLie_10 : mD m_D_bestLie 10 (.iconst 0) 1 11 := ⟨by decide +kernel, rfl⟩
theorem d_D_bestLie_11 : mD m_D_bestLie 11 (.istore 4) 2 13 := ⟨by decide +kernel, rfl⟩
theorem d_D_bestLie_13 : mD m_D_bestLie 13 (.iconst 0) 1 14 := ⟨by decide +kernel, rfl⟩
theorem d_D_bestLie_14 : mD m_D_bestLie 14 (.istore 5) 2 16 := ⟨by decide +kernel, rfl⟩
theorem d_D_bestLie_16 : mD m_D_bestLie 16 (.iconst 0) 1 17 := ⟨by decide +kernel, rfl⟩
theorem d_D_bestLie_17 : mD m_D_bestLie 17 (.istore 6) 2 19 := ⟨by decide +kernel, rfl⟩
theorem d_D_bestLie_19 : mD m_D_bestLie 19 (.iconst 0) 1 20 := ⟨by decide +kernel, rfl⟩
theorem d_D_bestLie_20 : mD m_D_bestLie 20 (.istore 7) 2 22 := ⟨by decide +kernel, rfl⟩
theorem d_D_bestLie_22 : mD m_D_bestLie 22 (.iload 7) 2 24 := ⟨by decide +kernel, rfl⟩
theorem d_D_bestLie_24 : mD m_D_bestLie 24 (.iconst 2) 1 25 := ⟨by decide +kernel, rfl⟩
theorem d_D_bestLie_25 : mD m_D_bestLie 25 (.iload_n 2) 1 26 := ⟨by decide +kernel, rfl⟩
theorem d_D_bestLie_26 : mD m_D_bestLie 26 (.imul) 1 27 := ⟨by decide +kernel, rfl⟩
theorem d_D_bestLie_27 : mJ m_D_bestLie 27 (.if_icmp .gt 103) (103) 30 130 := ⟨by decide +kernel, rfl, rfl⟩
theorem d_D_bestLie_30 : mD m_D_bestLie 30 (.iload 7) 2 32 := ⟨by decide +kernel, rfl⟩
theorem d_D_bestLie_32 : mD m_D_bestLie 32 (.iconst 2) 1 33 := ⟨by decide +kernel, rfl⟩
theorem d_D_bestLie_33 : mD m_D_bestLie 33 (.irem) 1 34 := ⟨by decide +kernel, rfl⟩
theorem d_D_bestLie_34 : mJ m_D_bestLie 34 (.ifCond .ne 10) (10) 37 44 := ⟨by decide +kernel, rfl, rfl⟩
theorem d_D_bestLie_37 : mD m_D_bestLie 37 (.iload 7) 2 39 := ⟨by decide +kernel, rfl⟩
theorem d_D_bestLie_39 : mD m_D_bestLie 39 (.iconst 2) 1 40 := ⟨by decide +kernel, rfl⟩
theorem d_D_bestLie_40 : mD m_D_bestLie 40 (.idiv) 1 41 := ⟨by decide +kernel, rfl⟩
theorem d_D_bestLie_41 : mJ m_D_bestLie 41 (.goto 10) (10) 44 51 := ⟨by decide +kernel, rfl, rfl⟩
theorem d_D_bestLie_44 : mD m_D_bestLie 44 (.iload 7) 2 46 := ⟨by decide +kernel, rfl⟩
theorem d_D_bestLie_46 : mD m_D_bestLie 46 (.iconst 1) 1 47 := ⟨by decide +kernel, rfl⟩
theorem d_D_bestLie_47 : mD m_D_bestLie 47 (.iadd) 1 48 := ⟨by decide +kernel, rfl⟩
theorem d_D_bestLie_48 : mD m_D_bestLie 48 (.ineg) 1 49 := ⟨by decide +kernel, rfl⟩
theorem d_D_bestLie_49 : mD m_D_bestLie 49 (.iconst 2) 1 50 := ⟨by decide +kernel, rfl⟩
theorem d_D_bestLie_50 : mD m_D_bestLie 50 (.idiv) 1 51 := ⟨by decide +kernel, rfl⟩
theorem d_D_bestLie_51 : mD m_D_bestLie 51 (.istore 8) 2 53 := ⟨by decide +kernel, rfl⟩
theorem d_D_bestLie_53 : mD m_D_bestLie 53 (.aload_n 0) 1 54 := ⟨by decide +kernel, rfl⟩
theorem d_D_bestLie_54 : mD m_D_bestLie 54 (.getfield 28) 3 57 := ⟨by decide +kernel, rfl⟩
theorem d_D_bestLie_57 : mD m_D_bestLie 57 (.iload_n 1) 1 58 := ⟨by decide +kernel, rfl⟩
theorem d_D_bestLie_58 : mD m_D_bestLie 58 (.iload 8) 2 60 := ⟨by decide +kernel, rfl⟩
theorem d_D_bestLie_60 : mD m_D_bestLie 60 (.invokevirtual 111) 3 63 := ⟨by decide +kernel, rfl⟩
theorem d_D_bestLie_63 : mD m_D_bestLie 63 (.aload_n 0) 1 64 := ⟨by decide +kernel, rfl⟩
theorem d_D_bestLie_64 : mD m_D_bestLie 64 (.iconst 1) 1 65 := ⟨by decide +kernel, rfl⟩
theorem d_D_bestLie_65 : mD m_D_bestLie 65 (.iload_n 1) 1 66 := ⟨by decide +kernel, rfl⟩
theorem d_D_bestLie_66 : mD m_D_bestLie 66 (.ishl) 1 67 := ⟨by decide +kernel, rfl⟩
theorem d_D_bestLie_67 : mD m_D_bestLie 67 (.invokevirtual 115) 3 70 := ⟨by decide +kernel, rfl⟩
theorem d_D_bestLie_70 : mD m_D_bestLie 70 (.aload_n 0) 1 71 := ⟨by decide +kernel, rfl⟩
theorem d_D_bestLie_71 : mD m_D_bestLie 71 (.iconst 1) 1 72 := ⟨by decide +kernel, rfl⟩
theorem d_D_bestLie_72 : mD m_D_bestLie 72 (.iload_n 1) 1 73 := ⟨by decide +kernel, rfl⟩
theorem d_D_bestLie_73 : mD m_D_bestLie 73 (.ishl) 1 74 := ⟨by decide +kernel, rfl⟩
theorem d_D_bestLie_74 : mD m_D_bestLie 74 (.invokevirtual 118) 3 77 := ⟨by decide +kernel, rfl⟩
theorem d_D_bestLie_77 : mD m_D_bestLie 77 (.istore 9) 2 79 := ⟨by decide +kernel, rfl⟩
theorem d_D_bestLie_79 : mD m_D_bestLie 79 (.iload 9) 2 81 := ⟨by decide +kernel, rfl⟩
theorem d_D_bestLie_81 : mD m_D_bestLie 81 (.invokestatic 46) 3 84 := ⟨by decide +kernel, rfl⟩
theorem d_D_bestLie_84 : mD m_D_bestLie 84 (.istore 10) 2 86 := ⟨by decide +kernel, rfl⟩
theorem d_D_bestLie_86 : mD m_D_bestLie 86 (.aload_n 0) 1 87 := ⟨by decide +kernel, rfl⟩
theorem d_D_bestLie_87 : mD m_D_bestLie 87 (.iload 9) 2 89 := ⟨by decide +kernel, rfl⟩
theorem d_D_bestLie_89 : mD m_D_bestLie 89 (.invokevirtual 121) 3 92 := ⟨by decide +kernel, rfl⟩
theorem d_D_bestLie_92 : mD m_D_bestLie 92 (.istore 11) 2 94 := ⟨by decide +kernel, rfl⟩
theorem d_D_bestLie_94 : mD m_D_bestLie 94 (.iload 7) 2 96 := ⟨by decide +kernel, rfl⟩
theorem d_D_bestLie_96 : mJ m_D_bestLie 96 (.ifCond .eq 16) (16) 99 112 := ⟨by decide +kernel, rfl, rfl⟩
theorem d_D_bestLie_99 : mD m_D_bestLie 99 (.iload 11) 2 101 := ⟨by decide +kernel, rfl⟩
theorem d_D_bestLie_101 : mD m_D_bestLie 101 (.iload 6) 2 103 := ⟨by decide +kernel, rfl⟩
theorem d_D_bestLie_103 : mD m_D_bestLie 103 (.imul) 1 104 := ⟨by decide +kernel, rfl⟩
theorem d_D_bestLie_104 : mD m_D_bestLie 104 (.iload 5) 2 106 := ⟨by decide +kernel, rfl⟩
theorem d_D_bestLie_106 : mD m_D_bestLie 106 (.iload 10) 2 108 := ⟨by decide +kernel, rfl⟩
theorem d_D_bestLie_108 : mD m_D_bestLie 108 (.imul) 1 109 := ⟨by decide +kernel, rfl⟩
theorem d_D_bestLie_109 : mJ m_D_bestLie 109 (.if_icmp .ge 15) (15) 112 124 := ⟨by decide +kernel, rfl, rfl⟩
theorem d_D_bestLie_112 : mD m_D_bestLie 112 (.iload 8) 2 114 := ⟨by decide +kernel, rfl⟩
theorem d_D_bestLie_114 : mD m_D_bestLie 114 (.istore 4) 2 116 := ⟨by decide +kernel, rfl⟩
theorem d_D_bestLie_116 : mD m_D_bestLie 116 (.iload 11) 2 118 := ⟨by decide +kernel, rfl⟩
theorem d_D_bestLie_118 : mD m_D_bestLie 118 (.istore 5) 2 120 := ⟨by decide +kernel, rfl⟩
theorem d_D_bestLie_120 : mD m_D_bestLie 120 (.iload 10) 2 122 := ⟨by decide +kernel, rfl⟩
theorem d_D_bestLie_122 : mD m_D_bestLie 122 (.istore 6) 2 124 := ⟨by decide +kernel, rfl⟩
theorem d_D_bestLie_124 : mD m_D_bestLie 124 (.iinc 7 1) 3 127 := ⟨by decide +kernel, rfl⟩
theorem d_D_bestLie_127 : mJ m_D_bestLie 127 (.goto (-105)) (-105) 130 22 := ⟨by decide +kernel, rfl, rfl⟩
theorem d_D_bestLie_130 : mD m_D_bestLie 130 (.aload_n 0) 1 131 := ⟨by decide +kernel, rfl⟩
theorem d_D_bestLie_131 : mD m_D_bestLie 131 (.getfield 28) 3 134 := ⟨by decide +kernel, rfl⟩
theorem d_D_bestLie_134 : mD m_D_bestLie 134 (.iload_n 1) 1 135 := ⟨by decide +kernel, rfl⟩
theorem d_D_bestLie_135 : mD m_D_bestLie 135 (.iload_n 3) 1 136 := ⟨by decide +kernel, rfl⟩
theorem d_D_bestLie_136 : mD m_D_bestLie 136 (.invokevirtual 111) 3 139 := ⟨by decide +kernel, rfl⟩
theorem d_D_bestLie_139 : mD m_D_bestLie 139 (.aload_n 0) 1 140 := ⟨by decide +kernel, rfl⟩
theorem d_D_bestLie_140 : mD m_D_bestLie 140 (.iconst 1) 1 141 := ⟨by decide +kernel, rfl⟩
theorem d_D_bestLie_141 : mD m_D_bestLie 141 (.iload_n 1) 1 142 := ⟨by decide +kernel, rfl⟩
theorem d_D_bestLie_142 : mD m_D_bestLie 142 (.ishl) 1 143 := ⟨by decide +kernel, rfl⟩
theorem d_D_bestLie_143 : mD m_D_bestLie 143 (.invokevirtual 115) 3 146 := ⟨by decide +kernel, rfl⟩
theorem d_D_bestLie_146 : mD m_D_bestLie 146 (.iload 4) 2 148 := ⟨by decide +kernel, rfl⟩
theorem d_D_bestLie_148 : mD m_D_bestLie 148 (.ireturn) 1 149 := ⟨by decide +kernel, rfl⟩
theorem d_D_boatWith_0 : mD m_D_boatWith 0 (.aload_n 0) 1 1 := ⟨by decide +kernel, rfl⟩
theorem d_D_boatWith_1 : mD m_D_boatWith 1 (.getfield 28) 3 4 := ⟨by decide +kernel, rfl⟩
theorem d_D_boatWith_4 : mD m_D_boatWith 4 (.invokevirtual 36) 3 7 := ⟨by decide +kernel, rfl⟩
theorem d_D_boatWith_7 : mD m_D_boatWith 7 (.istore_n 2) 1 8 := ⟨by decide +kernel, rfl⟩
theorem d_D_boatWith_8 : mD m_D_boatWith 8 (.iconst 0) 1 9 := ⟨by decide +kernel, rfl⟩
theorem d_D_boatWith_9 : mD m_D_boatWith 9 (.istore_n 3) 1 10 := ⟨by decide +kernel, rfl⟩
theorem d_D_boatWith_10 : mD m_D_boatWith 10 (.iload_n 3) 1 11 := ⟨by decide +kernel, rfl⟩
theorem d_D_boatWith_11 : mD m_D_boatWith 11 (.bipush 10) 2 13 := ⟨by decide +kernel, rfl⟩
theorem d_D_boatWith_13 : mJ m_D_boatWith 13 (.if_icmp .ge 33) (33) 16 46 := ⟨by decide +kernel, rfl, rfl⟩
theorem d_D_boatWith_16 : mD m_D_boatWith 16 (.aload_n 0) 1 17 := ⟨by decide +kernel, rfl⟩
theorem d_D_boatWith_17 : mD m_D_boatWith 17 (.iload_n 2) 1 18 := ⟨by decide +kernel, rfl⟩
theorem d_D_boatWith_18 : mD m_D_boatWith 18 (.invokevirtual 92) 3 21 := ⟨by decide +kernel, rfl⟩
theorem d_D_boatWith_21 : mD m_D_boatWith 21 (.istore 4) 2 23 := ⟨by decide +kernel, rfl⟩
theorem d_D_boatWith_23 : mD m_D_boatWith 23 (.iload 4) 2 25 := ⟨by decide +kernel, rfl⟩
theorem d_D_boatWith_25 : mD m_D_boatWith 25 (.iload_n 1) 1 26 := ⟨by decide +kernel, rfl⟩
theorem d_D_boatWith_26 : mD m_D_boatWith 26 (.iand) 1 27 := ⟨by decide +kernel, rfl⟩
theorem d_D_boatWith_27 : mJ m_D_boatWith 27 (.ifCond .eq 6) (6) 30 33 := ⟨by decide +kernel, rfl, rfl⟩
theorem d_D_boatWith_30 : mD m_D_boatWith 30 (.iload 4) 2 32 := ⟨by decide +kernel, rfl⟩
theorem d_D_boatWith_32 : mD m_D_boatWith 32 (.ireturn) 1 33 := ⟨by decide +kernel, rfl⟩
theorem d_D_boatWith_33 : mD m_D_boatWith 33 (.iload_n 2) 1 34 := ⟨by decide +kernel, rfl⟩
theorem d_D_boatWith_34 : mD m_D_boatWith 34 (.iload 4) 2 36 := ⟨by decide +kernel, rfl⟩
theorem d_D_boatWith_36 : mD m_D_boatWith 36 (.iconst (-1)) 1 37 := ⟨by decide +kernel, rfl⟩
theorem d_D_boatWith_37 : mD m_D_boatWith 37 (.ixor) 1 38 := ⟨by decide +kernel, rfl⟩
theorem d_D_boatWith_38 : mD m_D_boatWith 38 (.iand) 1 39 := ⟨by decide +kernel, rfl⟩
theorem d_D_boatWith_39 : mD m_D_boatWith 39 (.istore_n 2) 1 40 := ⟨by decide +kernel, rfl⟩
theorem d_D_boatWith_40 : mD m_D_boatWith 40 (.iinc 3 1) 3 43 := ⟨by decide +kernel, rfl⟩
theorem d_D_boatWith_43 : mJ m_D_boatWith 43 (.goto (-33)) (-33) 46 10 := ⟨by decide +kernel, rfl, rfl⟩
theorem d_D_boatWith_46 : mD m_D_boatWith 46 (.iconst (-1)) 1 47 := ⟨by decide +kernel, rfl⟩
theorem d_D_boatWith_47 : mD m_D_boatWith 47 (.ireturn) 1 48 := ⟨by decide +kernel, rfl⟩
theorem d_D_boatsOf_0 : mD m_D_boatsOf 0 (.aload_n 0) 1 1 := ⟨by decide +kernel, rfl⟩
theorem d_D_boatsOf_1 : mD m_D_boatsOf 1 (.iload_n 1) 1 2 := ⟨by decide +kernel, rfl⟩
theorem d_D_boatsOf_2 : mD m_D_boatsOf 2 (.invokevirtual 89) 3 5 := ⟨by decide +kernel, rfl⟩
theorem d_D_boatsOf_5 : mD m_D_boatsOf 5 (.istore_n 2) 1 6 := ⟨by decide +kernel, rfl⟩
theorem d_D_boatsOf_6 : mD m_D_boatsOf 6 (.iload_n 2) 1 7 := ⟨by decide +kernel, rfl⟩
theorem d_D_boatsOf_7 : mD m_D_boatsOf 7 (.ldc 67) 2 9 := ⟨by decide +kernel, rfl⟩
theorem d_D_boatsOf_9 : mJ m_D_boatsOf 9 (.if_icmp .ne 7) (7) 12 16 := ⟨by decide +kernel, rfl, rfl⟩
theorem d_D_boatsOf_12 : mD m_D_boatsOf 12 (.iconst (-1)) 1 13 := ⟨by decide +kernel, rfl⟩
theorem d_D_boatsOf_13 : mJ m_D_boatsOf 13 (.goto 10) (10) 16 23 := ⟨by decide +kernel, rfl, rfl⟩
theorem d_D_boatsOf_16 : mD m_D_boatsOf 16 (.iload_n 2) 1 17 := ⟨by decide +kernel, rfl⟩
theorem d_D_boatsOf_17 : mD m_D_boatsOf 17 (.bipush 10) 2 19 := ⟨by decide +kernel, rfl⟩
theorem d_D_boatsOf_19 : mD m_D_boatsOf 19 (.ishr) 1 20 := ⟨by decide +kernel, rfl⟩
theorem d_D_boatsOf_20 : mD m_D_boatsOf 20 (.bipush 15) 2 22 := ⟨by decide +kernel, rfl⟩
theorem d_D_boatsOf_22 : mD m_D_boatsOf 22 (.iand) 1 23 := ⟨by decide +kernel, rfl⟩
theorem d_D_boatsOf_23 : mD m_D_boatsOf 23 (.ireturn) 1 24 := ⟨by decide +kernel, rfl⟩
theorem d_D_bringUpToDate_0 : mD m_D_bringUpToDate 0 (.aload_n 0) 1 1 := ⟨by decide +kernel, rfl⟩
theorem d_D_bringUpToDate_1 : mD m_D_bringUpToDate 1 (.getfield 24) 3 4 := ⟨by decide +kernel, rfl⟩
theorem d_D_bringUpToDate_4 : mJ m_D_bringUpToDate 4 (.ifCond .ne 4) (4) 7 8 := ⟨by decide +kernel, rfl, rfl⟩
theorem d_D_bringUpToDate_7 : mD m_D_bringUpToDate 7 (.return_) 1 8 := ⟨by decide +kernel, rfl⟩
theorem d_D_bringUpToDate_8 : mD m_D_bringUpToDate 8 (.aload_n 0) 1 9 := ⟨by decide +kernel, rfl⟩
theorem d_D_bringUpToDate_9 : mD m_D_bringUpToDate 9 (.iconst 0) 1 10 := ⟨by decide +kernel, rfl⟩
theorem d_D_bringUpToDate_10 : mD m_D_bringUpToDate 10 (.putfield 24) 3 13 := ⟨by decide +kernel, rfl⟩
theorem d_D_bringUpToDate_13 : mD m_D_bringUpToDate 13 (.aload_n 0) 1 14 := ⟨by decide +kernel, rfl⟩
theorem d_D_bringUpToDate_14 : mD m_D_bringUpToDate 14 (.getfield 28) 3 17 := ⟨by decide +kernel, rfl⟩
theorem d_D_bringUpToDate_17 : mD m_D_bringUpToDate 17 (.invokevirtual 36) 3 20 := ⟨by decide +kernel, rfl⟩
theorem d_D_bringUpToDate_20 : mD m_D_bringUpToDate 20 (.istore_n 1) 1 21 := ⟨by decide +kernel, rfl⟩
theorem d_D_bringUpToDate_21 : mD m_D_bringUpToDate 21 (.iconst 1) 1 22 := ⟨by decide +kernel, rfl⟩
theorem d_D_bringUpToDate_22 : mD m_D_bringUpToDate 22 (.istore_n 2) 1 23 := ⟨by decide +kernel, rfl⟩
theorem d_D_bringUpToDate_23 : mD m_D_bringUpToDate 23 (.iload_n 2) 1 24 := ⟨by decide +kernel, rfl⟩
theorem d_D_bringUpToDate_24 : mD m_D_bringUpToDate 24 (.iload_n 1) 1 25 := ⟨by decide +kernel, rfl⟩
theorem d_D_bringUpToDate_25 : mJ m_D_bringUpToDate 25 (.if_icmp .gt 60) (60) 28 85 := ⟨by decide +kernel, rfl, rfl⟩
theorem d_D_bringUpToDate_28 : mD m_D_bringUpToDate 28 (.iload_n 2) 1 29 := ⟨by decide +kernel, rfl⟩
theorem d_D_bringUpToDate_29 : mD m_D_bringUpToDate 29 (.sipush 1024) 3 32 := ⟨by decide +kernel, rfl⟩
theorem d_D_bringUpToDate_32 : mJ m_D_bringUpToDate 32 (.if_icmp .ge 53) (53) 35 85 := ⟨by decide +kernel, rfl, rfl⟩
theorem d_D_bringUpToDate_35 : mD m_D_bringUpToDate 35 (.iload_n 2) 1 36 := ⟨by decide +kernel, rfl⟩
theorem d_D_bringUpToDate_36 : mD m_D_bringUpToDate 36 (.invokestatic 42) 3 39 := ⟨by decide +kernel, rfl⟩
theorem d_D_bringUpToDate_39 : mD m_D_bringUpToDate 39 (.istore_n 3) 1 40 := ⟨by decide +kernel, rfl⟩
theorem d_D_bringUpToDate_40 : mD m_D_bringUpToDate 40 (.aload_n 0) 1 41 := ⟨by decide +kernel, rfl⟩
theorem d_D_bringUpToDate_41 : mD m_D_bringUpToDate 41 (.getfield 15) 3 44 := ⟨by decide +kernel, rfl⟩
theorem d_D_bringUpToDate_44 : mD m_D_bringUpToDate 44 (.iload_n 2) 1 45 := ⟨by decide +kernel, rfl⟩
theorem d_D_bringUpToDate_45 : mD m_D_bringUpToDate 45 (.aload_n 0) 1 46 := ⟨by decide +kernel, rfl⟩
theorem d_D_bringUpToDate_46 : mD m_D_bringUpToDate 46 (.getfield 15) 3 49 := ⟨by decide +kernel, rfl⟩
theorem d_D_bringUpToDate_49 : mD m_D_bringUpToDate 49 (.iload_n 2) 1 50 := ⟨by decide +kernel, rfl⟩
theorem d_D_bringUpToDate_50 : mD m_D_bringUpToDate 50 (.iload_n 3) 1 51 := ⟨by decide +kernel, rfl⟩
theorem d_D_bringUpToDate_51 : mD m_D_bringUpToDate 51 (.ixor) 1 52 := ⟨by decide +kernel, rfl⟩
theorem d_D_bringUpToDate_52 : mD m_D_bringUpToDate 52 (.iaload) 1 53 := ⟨by decide +kernel, rfl⟩
theorem d_D_bringUpToDate_53 : mD m_D_bringUpToDate 53 (.aload_n 0) 1 54 := ⟨by decide +kernel, rfl⟩
theorem d_D_bringUpToDate_54 : mD m_D_bringUpToDate 54 (.getfield 32) 3 57 := ⟨by decide +kernel, rfl⟩
theorem d_D_bringUpToDate_57 : mD m_D_bringUpToDate 57 (.iload_n 3) 1 58 := ⟨by decide +kernel, rfl⟩
theorem d_D_bringUpToDate_58 : mD m_D_bringUpToDate 58 (.iconst 1) 1 59 := ⟨by decide +kernel, rfl⟩
theorem d_D_bringUpToDate_59 : mD m_D_bringUpToDate 59 (.isub) 1 60 := ⟨by decide +kernel, rfl⟩
theorem d_D_bringUpToDate_60 : mD m_D_bringUpToDate 60 (.invokestatic 46) 3 63 := ⟨by decide +kernel, rfl⟩
theorem d_D_bringUpToDate_63 : mD m_D_bringUpToDate 63 (.invokevirtual 51) 3 66 := ⟨by decide +kernel, rfl⟩
theorem d_D_bringUpToDate_66 : mD m_D_bringUpToDate 66 (.ior) 1 67 := ⟨by decide +kernel, rfl⟩
theorem d_D_bringUpToDate_67 : mD m_D_bringUpToDate 67 (.iastore) 1 68 := ⟨by decide +kernel, rfl⟩
theorem d_D_bringUpToDate_68 : mD m_D_bringUpToDate 68 (.aload_n 0) 1 69 := ⟨by decide +kernel, rfl⟩
theorem d_D_bringUpToDate_69 : mD m_D_bringUpToDate 69 (.getfield 11) 3 72 := ⟨by decide +kernel, rfl⟩
theorem d_D_bringUpToDate_72 : mD m_D_bringUpToDate 72 (.iload_n 2) 1 73 := ⟨by decide +kernel, rfl⟩
theorem d_D_bringUpToDate_73 : mD m_D_bringUpToDate 73 (.aload_n 0) 1 74 := ⟨by decide +kernel, rfl⟩
theorem d_D_bringUpToDate_74 : mD m_D_bringUpToDate 74 (.iload_n 2) 1 75 := ⟨by decide +kernel, rfl⟩
theorem d_D_bringUpToDate_75 : mD m_D_bringUpToDate 75 (.invokevirtual 56) 3 78 := ⟨by decide +kernel, rfl⟩
theorem d_D_bringUpToDate_78 : mD m_D_bringUpToDate 78 (.iastore) 1 79 := ⟨by decide +kernel, rfl⟩
theorem d_D_bringUpToDate_79 : mD m_D_bringUpToDate 79 (.iinc 2 1) 3 82 := ⟨by decide +kernel, rfl⟩
theorem d_D_bringUpToDate_82 : mJ m_D_bringUpToDate 82 (.goto (-59)) (-59) 85 23 := ⟨by decide +kernel, rfl, rfl⟩
theorem d_D_bringUpToDate_85 : mD m_D_bringUpToDate 85 (.iconst 1) 1 86 := ⟨by decide +kernel, rfl⟩
theorem d_D_bringUpToDate_86 : mD m_D_bringUpToDate 86 (.istore_n 2) 1 87 := ⟨by decide +kernel, rfl⟩
theorem d_D_bringUpToDate_87 : mD m_D_bringUpToDate 87 (.iload_n 2) 1 88 := ⟨by decide +kernel, rfl⟩
theorem d_D_bringUpToDate_88 : mD m_D_bringUpToDate 88 (.iload_n 1) 1 89 := ⟨by decide +kernel, rfl⟩
theorem d_D_bringUpToDate_89 : mJ m_D_bringUpToDate 89 (.if_icmp .gt 21) (21) 92 110 := ⟨by decide +kernel, rfl, rfl⟩
theorem d_D_bringUpToDate_92 : mD m_D_bringUpToDate 92 (.iload_n 2) 1 93 := ⟨by decide +kernel, rfl⟩
theorem d_D_bringUpToDate_93 : mD m_D_bringUpToDate 93 (.sipush 1024) 3 96 := ⟨by decide +kernel, rfl⟩
theorem d_D_bringUpToDate_96 : mJ m_D_bringUpToDate 96 (.if_icmp .ge 14) (14) 99 110 := ⟨by decide +kernel, rfl, rfl⟩
theorem d_D_bringUpToDate_99 : mD m_D_bringUpToDate 99 (.aload_n 0) 1 100 := ⟨by decide +kernel, rfl⟩
theorem d_D_bringUpToDate_100 : mD m_D_bringUpToDate 100 (.iload_n 2) 1 101 := ⟨by decide +kernel, rfl⟩
theorem d_D_bringUpToDate_101 : mD m_D_bringUpToDate 101 (.invokevirtual 59) 3 104 := ⟨by decide +kernel, rfl⟩
theorem d_D_bringUpToDate_104 : mD m_D_bringUpToDate 104 (.iinc 2 1) 3 107 := ⟨by decide +kernel, rfl⟩
theorem d_D_bringUpToDate_107 : mJ m_D_bringUpToDate 107 (.goto (-20)) (-20) 110 87 := ⟨by decide +kernel, rfl, rfl⟩
theorem d_D_bringUpToDate_110 : mD m_D_bringUpToDate 110 (.return_) 1 111 := ⟨by decide +kernel, rfl⟩
theorem d_D_broughtInAllOrders_0 : mD m_D_broughtInAllOrders 0 (.lconst 0) 1 1 := ⟨by decide +kernel, rfl⟩
theorem d_D_broughtInAllOrders_1 : mD m_D_broughtInAllOrders 1 (.lstore_n 2) 1 2 := ⟨by decide +kernel, rfl⟩
theorem d_D_broughtInAllOrders_2 : mD m_D_broughtInAllOrders 2 (.iconst 1) 1 3 := ⟨by decide +kernel, rfl⟩
theorem d_D_broughtInAllOrders_3 : mD m_D_broughtInAllOrders 3 (.iload_n 1) 1 4 := ⟨by decide +kernel, rfl⟩
theorem d_D_broughtInAllOrders_4 : mD m_D_broughtInAllOrders 4 (.ishl) 1 5 := ⟨by decide +kernel, rfl⟩
theorem d_D_broughtInAllOrders_5 : mD m_D_broughtInAllOrders 5 (.istore 4) 2 7 := ⟨by decide +kernel, rfl⟩
theorem d_D_broughtInAllOrders_7 : mD m_D_broughtInAllOrders 7 (.iconst 0) 1 8 := ⟨by decide +kernel, rfl⟩
theorem d_D_broughtInAllOrders_8 : mD m_D_broughtInAllOrders 8 (.istore 5) 2 10 := ⟨by decide +kernel, rfl⟩
theorem d_D_broughtInAllOrders_10 : mD m_D_broughtInAllOrders 10 (.iload 5) 2 12 := ⟨by decide +kernel, rfl⟩
theorem d_D_broughtInAllOrders_12 : mD m_D_broughtInAllOrders 12 (.aload_n 0) 1 13 := ⟨by decide +kernel, rfl⟩
theorem d_D_broughtInAllOrders_13 : mD m_D_broughtInAllOrders 13 (.getfield 28) 3 16 := ⟨by decide +kernel, rfl⟩
theorem d_D_broughtInAllOrders_16 : mD m_D_broughtInAllOrders 16 (.invokevirtual 36) 3 19 := ⟨by decide +kernel, rfl⟩
theorem d_D_broughtInAllOrders_19 : mJ m_D_broughtInAllOrders 19 (.if_icmp .gt 74) (74) 22 93 := ⟨by decide +kernel, rfl, rfl⟩
theorem d_D_broughtInAllOrders_22 : mD m_D_broughtInAllOrders 22 (.iload 5) 2 24 := ⟨by decide +kernel, rfl⟩
theorem d_D_broughtInAllOrders_24 : mD m_D_broughtInAllOrders 24 (.iload 4) 2 26 := ⟨by decide +kernel, rfl⟩
theorem d_D_broughtInAllOrders_26 : mD m_D_broughtInAllOrders 26 (.iand) 1 27 := ⟨by decide +kernel, rfl⟩
theorem d_D_broughtInAllOrders_27 : mJ m_D_broughtInAllOrders 27 (.ifCond .ne 60) (60) 30 87 := ⟨by decide +kernel, rfl, rfl⟩
theorem d_D_broughtInAllOrders_30 : mD m_D_broughtInAllOrders 30 (.iload 5) 2 32 := ⟨by decide +kernel, rfl⟩
theorem d_D_broughtInAllOrders_32 : mD m_D_broughtInAllOrders 32 (.invokestatic 46) 3 35 := ⟨by decide +kernel, rfl⟩
theorem d_D_broughtInAllOrders_35 : mD m_D_broughtInAllOrders 35 (.istore 6) 2 37 := ⟨by decide +kernel, rfl⟩
theorem d_D_broughtInAllOrders_37 : mD m_D_broughtInAllOrders 37 (.aload_n 0) 1 38 := ⟨by decide +kernel, rfl⟩
theorem d_D_broughtInAllOrders_38 : mD m_D_broughtInAllOrders 38 (.iload 6) 2 40 := ⟨by decide +kernel, rfl⟩
theorem d_D_broughtInAllOrders_40 : mD m_D_broughtInAllOrders 40 (.invokevirtual 98) 3 43 := ⟨by decide +kernel, rfl⟩
theorem d_D_broughtInAllOrders_43 : mD m_D_broughtInAllOrders 43 (.i2l) 1 44 := ⟨by decide +kernel, rfl⟩
theorem d_D_broughtInAllOrders_44 : mD m_D_broughtInAllOrders 44 (.aload_n 0) 1 45 := ⟨by decide +kernel, rfl⟩
theorem d_D_broughtInAllOrders_45 : mD m_D_broughtInAllOrders 45 (.aload_n 0) 1 46 := ⟨by decide +kernel, rfl⟩
theorem d_D_broughtInAllOrders_46 : mD m_D_broughtInAllOrders 46 (.getfield 28) 3 49 := ⟨by decide +kernel, rfl⟩
theorem d_D_broughtInAllOrders_49 : mD m_D_broughtInAllOrders 49 (.getfield 101) 3 52 := ⟨by decide +kernel, rfl⟩
theorem d_D_broughtInAllOrders_52 : mD m_D_broughtInAllOrders 52 (.iconst 1) 1 53 := ⟨by decide +kernel, rfl⟩
theorem d_D_broughtInAllOrders_53 : mD m_D_broughtInAllOrders 53 (.isub) 1 54 := ⟨by decide +kernel, rfl⟩
theorem d_D_broughtInAllOrders_54 : mD m_D_broughtInAllOrders 54 (.iload 6) 2 56 := ⟨by decide +kernel, rfl⟩
theorem d_D_broughtInAllOrders_56 : mD m_D_broughtInAllOrders 56 (.isub) 1 57 := ⟨by decide +kernel, rfl⟩
theorem d_D_broughtInAllOrders_57 : mD m_D_broughtInAllOrders 57 (.invokevirtual 98) 3 60 := ⟨by decide +kernel, rfl⟩
theorem d_D_broughtInAllOrders_60 : mD m_D_broughtInAllOrders 60 (.i2l) 1 61 := ⟨by decide +kernel, rfl⟩
theorem d_D_broughtInAllOrders_61 : mD m_D_broughtInAllOrders 61 (.lmul) 1 62 := ⟨by decide +kernel, rfl⟩
theorem d_D_broughtInAllOrders_62 : mD m_D_broughtInAllOrders 62 (.lstore 7) 2 64 := ⟨by decide +kernel, rfl⟩
theorem d_D_broughtInAllOrders_64 : mD m_D_broughtInAllOrders 64 (.lload_n 2) 1 65 := ⟨by decide +kernel, rfl⟩
theorem d_D_broughtInAllOrders_65 : mD m_D_broughtInAllOrders 65 (.lload 7) 2 67 := ⟨by decide +kernel, rfl⟩
theorem d_D_broughtInAllOrders_67 : mD m_D_broughtInAllOrders 67 (.aload_n 0) 1 68 := ⟨by decide +kernel, rfl⟩
theorem d_D_broughtInAllOrders_68 : mD m_D_broughtInAllOrders 68 (.iload 5) 2 70 := ⟨by decide +kernel, rfl⟩
theorem d_D_broughtInAllOrders_70 : mD m_D_broughtInAllOrders 70 (.iload 4) 2 72 := ⟨by decide +kernel, rfl⟩
theorem d_D_broughtInAllOrders_72 : mD m_D_broughtInAllOrders 72 (.ior) 1 73 := ⟨by decide +kernel, rfl⟩
theorem d_D_broughtInAllOrders_73 : mD m_D_broughtInAllOrders 73 (.invokevirtual 105) 3 76 := ⟨by decide +kernel, rfl⟩
theorem d_D_broughtInAllOrders_76 : mD m_D_broughtInAllOrders 76 (.aload_n 0) 1 77 := ⟨by decide +kernel, rfl⟩
theorem d_D_broughtInAllOrders_77 : mD m_D_broughtInAllOrders 77 (.iload 5) 2 79 := ⟨by decide +kernel, rfl⟩
theorem d_D_broughtInAllOrders_79 : mD m_D_broughtInAllOrders 79 (.invokevirtual 105) 3 82 := ⟨by decide +kernel, rfl⟩
theorem d_D_broughtInAllOrders_82 : mD m_D_broughtInAllOrders 82 (.isub) 1 83 := ⟨by decide +kernel, rfl⟩
theorem d_D_broughtInAllOrders_83 : mD m_D_broughtInAllOrders 83 (.i2l) 1 84 := ⟨by decide +kernel, rfl⟩
theorem d_D_broughtInAllOrders_84 : mD m_D_broughtInAllOrders 84 (.lmul) 1 85 := ⟨by decide +kernel, rfl⟩
theorem d_D_broughtInAllOrders_85 : mD m_D_broughtInAllOrders 85 (.ladd) 1 86 := ⟨by decide +kernel, rfl⟩
theorem d_D_broughtInAllOrders_86 : mD m_D_broughtInAllOrders 86 (.lstore_n 2) 1 87 := ⟨by decide +kernel, rfl⟩
theorem d_D_broughtInAllOrders_87 : mD m_D_broughtInAllOrders 87 (.iinc 5 1) 3 90 := ⟨by decide +kernel, rfl⟩
theorem d_D_broughtInAllOrders_90 : mJ m_D_broughtInAllOrders 90 (.goto (-80)) (-80) 93 10 := ⟨by decide +kernel, rfl, rfl⟩
theorem d_D_broughtInAllOrders_93 : mD m_D_broughtInAllOrders 93 (.lload_n 2) 1 94 := ⟨by decide +kernel, rfl⟩
theorem d_D_broughtInAllOrders_94 : mD m_D_broughtInAllOrders 94 (.lreturn) 1 95 := ⟨by decide +kernel, rfl⟩
theorem d_D_costOf_0 : mD m_D_costOf 0 (.iconst 0) 1 1 := ⟨by decide +kernel, rfl⟩
theorem d_D_costOf_1 : mD m_D_costOf 1 (.istore_n 2) 1 2 := ⟨by decide +kernel, rfl⟩
theorem d_D_costOf_2 : mD m_D_costOf 2 (.iconst 0) 1 3 := ⟨by decide +kernel, rfl⟩
theorem d_D_costOf_3 : mD m_D_costOf 3 (.istore_n 3) 1 4 := ⟨by decide +kernel, rfl⟩
theorem d_D_costOf_4 : mD m_D_costOf 4 (.iconst 0) 1 5 := ⟨by decide +kernel, rfl⟩
theorem d_D_costOf_5 : mD m_D_costOf 5 (.istore 4) 2 7 := ⟨by decide +kernel, rfl⟩
theorem d_D_costOf_7 : mD m_D_costOf 7 (.iload 4) 2 9 := ⟨by decide +kernel, rfl⟩
theorem d_D_costOf_9 : mD m_D_costOf 9 (.bipush 10) 2 11 := ⟨by decide +kernel, rfl⟩
theorem d_D_costOf_11 : mJ m_D_costOf 11 (.if_icmp .ge 46) (46) 14 57 := ⟨by decide +kernel, rfl, rfl⟩
theorem d_D_costOf_14 : mD m_D_costOf 14 (.iload_n 1) 1 15 := ⟨by decide +kernel, rfl⟩
theorem d_D_costOf_15 : mD m_D_costOf 15 (.iconst 1) 1 16 := ⟨by decide +kernel, rfl⟩
theorem d_D_costOf_16 : mD m_D_costOf 16 (.iload 4) 2 18 := ⟨by decide +kernel, rfl⟩
theorem d_D_costOf_18 : mD m_D_costOf 18 (.ishl) 1 19 := ⟨by decide +kernel, rfl⟩
theorem d_D_costOf_19 : mD m_D_costOf 19 (.iand) 1 20 := ⟨by decide +kernel, rfl⟩
theorem d_D_costOf_20 : mJ m_D_costOf 20 (.ifCond .eq 31) (31) 23 51 := ⟨by decide +kernel, rfl, rfl⟩
theorem d_D_costOf_23 : mD m_D_costOf 23 (.iload_n 2) 1 24 := ⟨by decide +kernel, rfl⟩
theorem d_D_costOf_24 : mD m_D_costOf 24 (.aload_n 0) 1 25 := ⟨by decide +kernel, rfl⟩
theorem d_D_costOf_25 : mD m_D_costOf 25 (.getfield 28) 3 28 := ⟨by decide +kernel, rfl⟩
theorem d_D_costOf_28 : mD m_D_costOf 28 (.getfield 83) 3 31 := ⟨by decide +kernel, rfl⟩
theorem d_D_costOf_31 : mD m_D_costOf 31 (.iload 4) 2 33 := ⟨by decide +kernel, rfl⟩
theorem d_D_costOf_33 : mD m_D_costOf 33 (.iaload) 1 34 := ⟨by decide +kernel, rfl⟩
theorem d_D_costOf_34 : mD m_D_costOf 34 (.invokestatic 71) 3 37 := ⟨by decide +kernel, rfl⟩
theorem d_D_costOf_37 : mD m_D_costOf 37 (.istore_n 2) 1 38 := ⟨by decide +kernel, rfl⟩
theorem d_D_costOf_38 : mD m_D_costOf 38 (.iload_n 3) 1 39 := ⟨by decide +kernel, rfl⟩
theorem d_D_costOf_39 : mD m_D_costOf 39 (.aload_n 0) 1 40 := ⟨by decide +kernel, rfl⟩
theorem d_D_costOf_40 : mD m_D_costOf 40 (.getfield 28) 3 43 := ⟨by decide +kernel, rfl⟩
theorem d_D_costOf_43 : mD m_D_costOf 43 (.getfield 83) 3 46 := ⟨by decide +kernel, rfl⟩
theorem d_D_costOf_46 : mD m_D_costOf 46 (.iload 4) 2 48 := ⟨by decide +kernel, rfl⟩
theorem d_D_costOf_48 : mD m_D_costOf 48 (.iaload) 1 49 := ⟨by decide +kernel, rfl⟩
theorem d_D_costOf_49 : mD m_D_costOf 49 (.iadd) 1 50 := ⟨by decide +kernel, rfl⟩
theorem d_D_costOf_50 : mD m_D_costOf 50 (.istore_n 3) 1 51 := ⟨by decide +kernel, rfl⟩
theorem d_D_costOf_51 : mD m_D_costOf 51 (.iinc 4 1) 3 54 := ⟨by decide +kernel, rfl⟩
theorem d_D_costOf_54 : mJ m_D_costOf 54 (.goto (-47)) (-47) 57 7 := ⟨by decide +kernel, rfl, rfl⟩
theorem d_D_costOf_57 : mD m_D_costOf 57 (.iload_n 1) 1 58 := ⟨by decide +kernel, rfl⟩
theorem d_D_costOf_58 : mD m_D_costOf 58 (.invokestatic 46) 3 61 := ⟨by decide +kernel, rfl⟩
theorem d_D_costOf_61 : mD m_D_costOf 61 (.iload_n 2) 1 62 := ⟨by decide +kernel, rfl⟩
theorem d_D_costOf_62 : mD m_D_costOf 62 (.imul) 1 63 := ⟨by decide +kernel, rfl⟩
theorem d_D_costOf_63 : mD m_D_costOf 63 (.iload_n 3) 1 64 := ⟨by decide +kernel, rfl⟩
theorem d_D_costOf_64 : mD m_D_costOf 64 (.isub) 1 65 := ⟨by decide +kernel, rfl⟩
theorem d_D_costOf_65 : mD m_D_costOf 65 (.istore 4) 2 67 := ⟨by decide +kernel, rfl⟩
theorem d_D_costOf_67 : mD m_D_costOf 67 (.aload_n 0) 1 68 := ⟨by decide +kernel, rfl⟩
theorem d_D_costOf_68 : mD m_D_costOf 68 (.iload_n 1) 1 69 := ⟨by decide +kernel, rfl⟩
theorem d_D_costOf_69 : mD m_D_costOf 69 (.invokevirtual 86) 3 72 := ⟨by decide +kernel, rfl⟩
theorem d_D_costOf_72 : mD m_D_costOf 72 (.aload_n 0) 1 73 := ⟨by decide +kernel, rfl⟩
theorem d_D_costOf_73 : mD m_D_costOf 73 (.getfield 32) 3 76 := ⟨by decide +kernel, rfl⟩
theorem d_D_costOf_76 : mD m_D_costOf 76 (.getfield 63) 3 79 := ⟨by decide +kernel, rfl⟩
theorem d_D_costOf_79 : mD m_D_costOf 79 (.iconst 3) 1 80 := ⟨by decide +kernel, rfl⟩
theorem d_D_costOf_80 : mD m_D_costOf 80 (.iaload) 1 81 := ⟨by decide +kernel, rfl⟩
theorem d_D_costOf_81 : mD m_D_costOf 81 (.iload 4) 2 83 := ⟨by decide +kernel, rfl⟩
theorem d_D_costOf_83 : mD m_D_costOf 83 (.imul) 1 84 := ⟨by decide +kernel, rfl⟩
theorem d_D_costOf_84 : mD m_D_costOf 84 (.iadd) 1 85 := ⟨by decide +kernel, rfl⟩
theorem d_D_costOf_85 : mD m_D_costOf 85 (.ireturn) 1 86 := ⟨by decide +kernel, rfl⟩
theorem d_D_fareOf_0 : mD m_D_fareOf 0 (.iload_n 1) 1 1 := ⟨by decide +kernel, rfl⟩
theorem d_D_fareOf_1 : mD m_D_fareOf 1 (.invokestatic 46) 3 4 := ⟨by decide +kernel, rfl⟩
theorem d_D_fareOf_4 : mD m_D_fareOf 4 (.iconst 2) 1 5 := ⟨by decide +kernel, rfl⟩
theorem d_D_fareOf_5 : mJ m_D_fareOf 5 (.if_icmp .ge 21) (21) 8 26 := ⟨by decide +kernel, rfl, rfl⟩
theorem d_D_fareOf_8 : mD m_D_fareOf 8 (.iload_n 1) 1 9 := ⟨by decide +kernel, rfl⟩
theorem d_D_fareOf_9 : mJ m_D_fareOf 9 (.ifCond .ne 7) (7) 12 16 := ⟨by decide +kernel, rfl, rfl⟩
theorem d_D_fareOf_12 : mD m_D_fareOf 12 (.iconst 0) 1 13 := ⟨by decide +kernel, rfl⟩
theorem d_D_fareOf_13 : mJ m_D_fareOf 13 (.goto 12) (12) 16 25 := ⟨by decide +kernel, rfl, rfl⟩
theorem d_D_fareOf_16 : mD m_D_fareOf 16 (.aload_n 0) 1 17 := ⟨by decide +kernel, rfl⟩
theorem d_D_fareOf_17 : mD m_D_fareOf 17 (.getfield 32) 3 20 := ⟨by decide +kernel, rfl⟩
theorem d_D_fareOf_20 : mD m_D_fareOf 20 (.getfield 63) 3 23 := ⟨by decide +kernel, rfl⟩
theorem d_D_fareOf_23 : mD m_D_fareOf 23 (.iconst 2) 1 24 := ⟨by decide +kernel, rfl⟩
theorem d_D_fareOf_24 : mD m_D_fareOf 24 (.iaload) 1 25 := ⟨by decide +kernel, rfl⟩
theorem d_D_fareOf_25 : mD m_D_fareOf 25 (.ireturn) 1 26 := ⟨by decide +kernel, rfl⟩
theorem d_D_fareOf_26 : mD m_D_fareOf 26 (.ldc 66) 2 28 := ⟨by decide +kernel, rfl⟩
theorem d_D_fareOf_28 : mD m_D_fareOf 28 (.istore_n 2) 1 29 := ⟨by decide +kernel, rfl⟩
theorem d_D_fareOf_29 : mD m_D_fareOf 29 (.ldc 67) 2 31 := ⟨by decide +kernel, rfl⟩
theorem d_D_fareOf_31 : mD m_D_fareOf 31 (.istore_n 3) 1 32 := ⟨by decide +kernel, rfl⟩
theorem d_D_fareOf_32 : mD m_D_fareOf 32 (.ldc 66) 2 34 := ⟨by decide +kernel, rfl⟩
theorem d_D_fareOf_34 : mD m_D_fareOf 34 (.istore 4) 2 36 := ⟨by decide +kernel, rfl⟩
theorem d_D_fareOf_36 : mD m_D_fareOf 36 (.ldc 67) 2 38 := ⟨by decide +kernel, rfl⟩
theorem d_D_fareOf_38 : mD m_D_fareOf 38 (.istore 5) 2 40 := ⟨by decide +kernel, rfl⟩
theorem d_D_fareOf_40 : mD m_D_fareOf 40 (.iconst 0) 1 41 := ⟨by decide +kernel, rfl⟩
theorem d_D_fareOf_41 : mD m_D_fareOf 41 (.istore 6) 2 43 := ⟨by decide +kernel, rfl⟩
theorem d_D_fareOf_43 : mD m_D_fareOf 43 (.iload 6) 2 45 := ⟨by decide +kernel, rfl⟩
theorem d_D_fareOf_45 : mD m_D_fareOf 45 (.bipush 10) 2 47 := ⟨by decide +kernel, rfl⟩
theorem d_D_fareOf_47 : mJ m_D_fareOf 47 (.if_icmp .ge 82) (82) 50 129 := ⟨by decide +kernel, rfl, rfl⟩
theorem d_D_fareOf_50 : mD m_D_fareOf 50 (.iload_n 1) 1 51 := ⟨by decide +kernel, rfl⟩
theorem d_D_fareOf_51 : mD m_D_fareOf 51 (.iconst 1) 1 52 := ⟨by decide +kernel, rfl⟩
theorem d_D_fareOf_52 : mD m_D_fareOf 52 (.iload 6) 2 54 := ⟨by decide +kernel, rfl⟩
theorem d_D_fareOf_54 : mD m_D_fareOf 54 (.ishl) 1 55 := ⟨by decide +kernel, rfl⟩
theorem d_D_fareOf_55 : mD m_D_fareOf 55 (.iand) 1 56 := ⟨by decide +kernel, rfl⟩
theorem d_D_fareOf_56 : mJ m_D_fareOf 56 (.ifCond .eq 67) (67) 59 123 := ⟨by decide +kernel, rfl, rfl⟩
theorem d_D_fareOf_59 : mD m_D_fareOf 59 (.iload_n 2) 1 60 := ⟨by decide +kernel, rfl⟩
theorem d_D_fareOf_60 : mD m_D_fareOf 60 (.aload_n 0) 1 61 := ⟨by decide +kernel, rfl⟩
theorem d_D_fareOf_61 : mD m_D_fareOf 61 (.getfield 28) 3 64 := ⟨by decide +kernel, rfl⟩
theorem d_D_fareOf_64 : mD m_D_fareOf 64 (.getfield 68) 3 67 := ⟨by decide +kernel, rfl⟩
theorem d_D_fareOf_67 : mD m_D_fareOf 67 (.iload 6) 2 69 := ⟨by decide +kernel, rfl⟩
theorem d_D_fareOf_69 : mD m_D_fareOf 69 (.iaload) 1 70 := ⟨by decide +kernel, rfl⟩
theorem d_D_fareOf_70 : mD m_D_fareOf 70 (.invokestatic 71) 3 73 := ⟨by decide +kernel, rfl⟩
theorem d_D_fareOf_73 : mD m_D_fareOf 73 (.istore_n 2) 1 74 := ⟨by decide +kernel, rfl⟩
theorem d_D_fareOf_74 : mD m_D_fareOf 74 (.iload_n 3) 1 75 := ⟨by decide +kernel, rfl⟩
theorem d_D_fareOf_75 : mD m_D_fareOf 75 (.aload_n 0) 1 76 := ⟨by decide +kernel, rfl⟩
theorem d_D_fareOf_76 : mD m_D_fareOf 76 (.getfield 28) 3 79 := ⟨by decide +kernel, rfl⟩
theorem d_D_fareOf_79 : mD m_D_fareOf 79 (.getfield 68) 3 82 := ⟨by decide +kernel, rfl⟩
theorem d_D_fareOf_82 : mD m_D_fareOf 82 (.iload 6) 2 84 := ⟨by decide +kernel, rfl⟩
theorem d_D_fareOf_84 : mD m_D_fareOf 84 (.iaload) 1 85 := ⟨by decide +kernel, rfl⟩
theorem d_D_fareOf_85 : mD m_D_fareOf 85 (.invokestatic 77) 3 88 := ⟨by decide +kernel, rfl⟩
theorem d_D_fareOf_88 : mD m_D_fareOf 88 (.istore_n 3) 1 89 := ⟨by decide +kernel, rfl⟩
theorem d_D_fareOf_89 : mD m_D_fareOf 89 (.iload 4) 2 91 := ⟨by decide +kernel, rfl⟩
theorem d_D_fareOf_91 : mD m_D_fareOf 91 (.aload_n 0) 1 92 := ⟨by decide +kernel, rfl⟩
theorem d_D_fareOf_92 : mD m_D_fareOf 92 (.getfield 28) 3 95 := ⟨by decide +kernel, rfl⟩
theorem d_D_fareOf_95 : mD m_D_fareOf 95 (.getfield 80) 3 98 := ⟨by decide +kernel, rfl⟩
theorem d_D_fareOf_98 : mD m_D_fareOf 98 (.iload 6) 2 100 := ⟨by decide +kernel, rfl⟩
theorem d_D_fareOf_100 : mD m_D_fareOf 100 (.iaload) 1 101 := ⟨by decide +kernel, rfl⟩
theorem d_D_fareOf_101 : mD m_D_fareOf 101 (.invokestatic 71) 3 104 := ⟨by decide +kernel, rfl⟩
theorem d_D_fareOf_104 : mD m_D_fareOf 104 (.istore 4) 2 106 := ⟨by decide +kernel, rfl⟩
theorem d_D_fareOf_106 : mD m_D_fareOf 106 (.iload 5) 2 108 := ⟨by decide +kernel, rfl⟩
theorem d_D_fareOf_108 : mD m_D_fareOf 108 (.aload_n 0) 1 109 := ⟨by decide +kernel, rfl⟩
theorem d_D_fareOf_109 : mD m_D_fareOf 109 (.getfield 28) 3 112 := ⟨by decide +kernel, rfl⟩
theorem d_D_fareOf_112 : mD m_D_fareOf 112 (.getfield 80) 3 115 := ⟨by decide +kernel, rfl⟩
theorem d_D_fareOf_115 : mD m_D_fareOf 115 (.iload 6) 2 117 := ⟨by decide +kernel, rfl⟩
theorem d_D_fareOf_117 : mD m_D_fareOf 117 (.iaload) 1 118 := ⟨by decide +kernel, rfl⟩
theorem d_D_fareOf_118 : mD m_D_fareOf 118 (.invokestatic 77) 3 121 := ⟨by decide +kernel, rfl⟩
theorem d_D_fareOf_121 : mD m_D_fareOf 121 (.istore 5) 2 123 := ⟨by decide +kernel, rfl⟩
theorem d_D_fareOf_123 : mD m_D_fareOf 123 (.iinc 6 1) 3 126 := ⟨by decide +kernel, rfl⟩
theorem d_D_fareOf_126 : mJ m_D_fareOf 126 (.goto (-83)) (-83) 129 43 := ⟨by decide +kernel, rfl, rfl⟩
theorem d_D_fareOf_129 : mD m_D_fareOf 129 (.aload_n 0) 1 130 := ⟨by decide +kernel, rfl⟩
theorem d_D_fareOf_130 : mD m_D_fareOf 130 (.getfield 32) 3 133 := ⟨by decide +kernel, rfl⟩
theorem d_D_fareOf_133 : mD m_D_fareOf 133 (.getfield 63) 3 136 := ⟨by decide +kernel, rfl⟩
theorem d_D_fareOf_136 : mD m_D_fareOf 136 (.iconst 1) 1 137 := ⟨by decide +kernel, rfl⟩
theorem d_D_fareOf_137 : mD m_D_fareOf 137 (.iaload) 1 138 := ⟨by decide +kernel, rfl⟩
theorem d_D_fareOf_138 : mD m_D_fareOf 138 (.istore 6) 2 140 := ⟨by decide +kernel, rfl⟩
theorem d_D_fareOf_140 : mD m_D_fareOf 140 (.iload 6) 2 142 := ⟨by decide +kernel, rfl⟩
theorem d_D_fareOf_142 : mD m_D_fareOf 142 (.iconst 1) 1 143 := ⟨by decide +kernel, rfl⟩
theorem d_D_fareOf_143 : mJ m_D_fareOf 143 (.if_icmp .ne 7) (7) 146 150 := ⟨by decide +kernel, rfl, rfl⟩
theorem d_D_fareOf_146 : mD m_D_fareOf 146 (.iconst 0) 1 147 := ⟨by decide +kernel, rfl⟩
theorem d_D_fareOf_147 : mJ m_D_fareOf 147 (.goto 6) (6) 150 153 := ⟨by decide +kernel, rfl, rfl⟩
theorem d_D_fareOf_150 : mD m_D_fareOf 150 (.iload_n 2) 1 151 := ⟨by decide +kernel, rfl⟩
theorem d_D_fareOf_151 : mD m_D_fareOf 151 (.iload_n 3) 1 152 := ⟨by decide +kernel, rfl⟩
theorem d_D_fareOf_152 : mD m_D_fareOf 152 (.isub) 1 153 := ⟨by decide +kernel, rfl⟩
theorem d_D_fareOf_153 : mD m_D_fareOf 153 (.iload 6) 2 155 := ⟨by decide +kernel, rfl⟩
theorem d_D_fareOf_155 : mJ m_D_fareOf 155 (.ifCond .ne 7) (7) 158 162 := ⟨by decide +kernel, rfl, rfl⟩
theorem d_D_fareOf_158 : mD m_D_fareOf 158 (.iconst 0) 1 159 := ⟨by decide +kernel, rfl⟩
theorem d_D_fareOf_159 : mJ m_D_fareOf 159 (.goto 8) (8) 162 167 := ⟨by decide +kernel, rfl, rfl⟩
theorem d_D_fareOf_162 : mD m_D_fareOf 162 (.iload 4) 2 164 := ⟨by decide +kernel, rfl⟩
theorem d_D_fareOf_164 : mD m_D_fareOf 164 (.iload 5) 2 166 := ⟨by decide +kernel, rfl⟩
theorem d_D_fareOf_166 : mD m_D_fareOf 166 (.isub) 1 167 := ⟨by decide +kernel, rfl⟩
theorem d_D_fareOf_167 : mD m_D_fareOf 167 (.iadd) 1 168 := ⟨by decide +kernel, rfl⟩
theorem d_D_fareOf_168 : mD m_D_fareOf 168 (.ireturn) 1 169 := ⟨by decide +kernel, rfl⟩
theorem d_D_firstBoatOf_0 : mD m_D_firstBoatOf 0 (.aload_n 0) 1 1 := ⟨by decide +kernel, rfl⟩
theorem d_D_firstBoatOf_1 : mD m_D_firstBoatOf 1 (.iload_n 1) 1 2 := ⟨by decide +kernel, rfl⟩
theorem d_D_firstBoatOf_2 : mD m_D_firstBoatOf 2 (.invokevirtual 89) 3 5 := ⟨by decide +kernel, rfl⟩
theorem d_D_firstBoatOf_5 : mD m_D_firstBoatOf 5 (.istore_n 2) 1 6 := ⟨by decide +kernel, rfl⟩
theorem d_D_firstBoatOf_6 : mD m_D_firstBoatOf 6 (.iload_n 2) 1 7 := ⟨by decide +kernel, rfl⟩
theorem d_D_firstBoatOf_7 : mD m_D_firstBoatOf 7 (.ldc 67) 2 9 := ⟨by decide +kernel, rfl⟩
theorem d_D_firstBoatOf_9 : mJ m_D_firstBoatOf 9 (.if_icmp .ne 7) (7) 12 16 := ⟨by decide +kernel, rfl, rfl⟩
theorem d_D_firstBoatOf_12 : mD m_D_firstBoatOf 12 (.iconst 0) 1 13 := ⟨by decide +kernel, rfl⟩
theorem d_D_firstBoatOf_13 : mJ m_D_firstBoatOf 13 (.goto 8) (8) 16 21 := ⟨by decide +kernel, rfl, rfl⟩
theorem d_D_firstBoatOf_16 : mD m_D_firstBoatOf 16 (.iload_n 2) 1 17 := ⟨by decide +kernel, rfl⟩
theorem d_D_firstBoatOf_17 : mD m_D_firstBoatOf 17 (.sipush 1023) 3 20 := ⟨by decide +kernel, rfl⟩
theorem d_D_firstBoatOf_20 : mD m_D_firstBoatOf 20 (.iand) 1 21 := ⟨by decide +kernel, rfl⟩
theorem d_D_firstBoatOf_21 : mD m_D_firstBoatOf 21 (.ireturn) 1 22 := ⟨by decide +kernel, rfl⟩
theorem d_D_leastOf_0 : mD m_D_leastOf 0 (.aload_n 0) 1 1 := ⟨by decide +kernel, rfl⟩
theorem d_D_leastOf_1 : mD m_D_leastOf 1 (.iload_n 1) 1 2 := ⟨by decide +kernel, rfl⟩
theorem d_D_leastOf_2 : mD m_D_leastOf 2 (.invokevirtual 89) 3 5 := ⟨by decide +kernel, rfl⟩
theorem d_D_leastOf_5 : mD m_D_leastOf 5 (.istore_n 2) 1 6 := ⟨by decide +kernel, rfl⟩
theorem d_D_leastOf_6 : mD m_D_leastOf 6 (.iload_n 2) 1 7 := ⟨by decide +kernel, rfl⟩
theorem d_D_leastOf_7 : mD m_D_leastOf 7 (.ldc 67) 2 9 := ⟨by decide +kernel, rfl⟩
theorem d_D_leastOf_9 : mJ m_D_leastOf 9 (.if_icmp .ne 7) (7) 12 16 := ⟨by decide +kernel, rfl, rfl⟩
theorem d_D_leastOf_12 : mD m_D_leastOf 12 (.iconst (-1)) 1 13 := ⟨by decide +kernel, rfl⟩
theorem d_D_leastOf_13 : mJ m_D_leastOf 13 (.goto 7) (7) 16 20 := ⟨by decide +kernel, rfl, rfl⟩
theorem d_D_leastOf_16 : mD m_D_leastOf 16 (.iload_n 2) 1 17 := ⟨by decide +kernel, rfl⟩
theorem d_D_leastOf_17 : mD m_D_leastOf 17 (.bipush 14) 2 19 := ⟨by decide +kernel, rfl⟩
theorem d_D_leastOf_19 : mD m_D_leastOf 19 (.ishr) 1 20 := ⟨by decide +kernel, rfl⟩
theorem d_D_leastOf_20 : mD m_D_leastOf 20 (.ireturn) 1 21 := ⟨by decide +kernel, rfl⟩
theorem d_D_lowestBit_0 : mD m_D_lowestBit 0 (.iload_n 0) 1 1 := ⟨by decide +kernel, rfl⟩
theorem d_D_lowestBit_1 : mD m_D_lowestBit 1 (.iload_n 0) 1 2 := ⟨by decide +kernel, rfl⟩
theorem d_D_lowestBit_2 : mD m_D_lowestBit 2 (.ineg) 1 3 := ⟨by decide +kernel, rfl⟩
theorem d_D_lowestBit_3 : mD m_D_lowestBit 3 (.iand) 1 4 := ⟨by decide +kernel, rfl⟩
theorem d_D_lowestBit_4 : mD m_D_lowestBit 4 (.ireturn) 1 5 := ⟨by decide +kernel, rfl⟩
theorem d_D_mayGo_0 : mD m_D_mayGo 0 (.iload_n 1) 1 1 := ⟨by decide +kernel, rfl⟩
theorem d_D_mayGo_1 : mJ m_D_mayGo 1 (.ifCond .le 39) (39) 4 40 := ⟨by decide +kernel, rfl, rfl⟩
theorem d_D_mayGo_4 : mD m_D_mayGo 4 (.iload_n 1) 1 5 := ⟨by decide +kernel, rfl⟩
theorem d_D_mayGo_5 : mD m_D_mayGo 5 (.sipush 1024) 3 8 := ⟨by decide +kernel, rfl⟩
theorem d_D_mayGo_8 : mJ m_D_mayGo 8 (.if_icmp .ge 32) (32) 11 40 := ⟨by decide +kernel, rfl, rfl⟩
theorem d_D_mayGo_11 : mD m_D_mayGo 11 (.aload_n 0) 1 12 := ⟨by decide +kernel, rfl⟩
theorem d_D_mayGo_12 : mD m_D_mayGo 12 (.getfield 11) 3 15 := ⟨by decide +kernel, rfl⟩
theorem d_D_mayGo_15 : mD m_D_mayGo 15 (.iload_n 1) 1 16 := ⟨by decide +kernel, rfl⟩
theorem d_D_mayGo_16 : mD m_D_mayGo 16 (.iaload) 1 17 := ⟨by decide +kernel, rfl⟩
theorem d_D_mayGo_17 : mD m_D_mayGo 17 (.iconst (-1)) 1 18 := ⟨by decide +kernel, rfl⟩
theorem d_D_mayGo_18 : mJ m_D_mayGo 18 (.if_icmp .eq 22) (22) 21 40 := ⟨by decide +kernel, rfl, rfl⟩
theorem d_D_mayGo_21 : mD m_D_mayGo 21 (.aload_n 0) 1 22 := ⟨by decide +kernel, rfl⟩
theorem d_D_mayGo_22 : mD m_D_mayGo 22 (.getfield 15) 3 25 := ⟨by decide +kernel, rfl⟩
theorem d_D_mayGo_25 : mD m_D_mayGo 25 (.iload_n 1) 1 26 := ⟨by decide +kernel, rfl⟩
theorem d_D_mayGo_26 : mD m_D_mayGo 26 (.iaload) 1 27 := ⟨by decide +kernel, rfl⟩
theorem d_D_mayGo_27 : mD m_D_mayGo 27 (.iload_n 2) 1 28 := ⟨by decide +kernel, rfl⟩
theorem d_D_mayGo_28 : mD m_D_mayGo 28 (.iand) 1 29 := ⟨by decide +kernel, rfl⟩
theorem d_D_mayGo_29 : mD m_D_mayGo 29 (.iload_n 1) 1 30 := ⟨by decide +kernel, rfl⟩
theorem d_D_mayGo_30 : mD m_D_mayGo 30 (.iconst (-1)) 1 31 := ⟨by decide +kernel, rfl⟩
theorem d_D_mayGo_31 : mD m_D_mayGo 31 (.ixor) 1 32 := ⟨by decide +kernel, rfl⟩
theorem d_D_mayGo_32 : mD m_D_mayGo 32 (.iand) 1 33 := ⟨by decide +kernel, rfl⟩
theorem d_D_mayGo_33 : mJ m_D_mayGo 33 (.ifCond .ne 7) (7) 36 40 := ⟨by decide +kernel, rfl, rfl⟩
theorem d_D_mayGo_36 : mD m_D_mayGo 36 (.iconst 1) 1 37 := ⟨by decide +kernel, rfl⟩
theorem d_D_mayGo_37 : mJ m_D_mayGo 37 (.goto 4) (4) 40 41 := ⟨by decide +kernel, rfl, rfl⟩
theorem d_D_mayGo_40 : mD m_D_mayGo 40 (.iconst 0) 1 41 := ⟨by decide +kernel, rfl⟩
theorem d_D_mayGo_41 : mD m_D_mayGo 41 (.ireturn) 1 42 := ⟨by decide +kernel, rfl⟩
theorem d_D_mostOf_0 : mD m_D_mostOf 0 (.iload_n 1) 1 1 := ⟨by decide +kernel, rfl⟩
theorem d_D_mostOf_1 : mJ m_D_mostOf 1 (.ifCond .lt 19) (19) 4 20 := ⟨by decide +kernel, rfl, rfl⟩
theorem d_D_mostOf_4 : mD m_D_mostOf 4 (.iload_n 1) 1 5 := ⟨by decide +kernel, rfl⟩
theorem d_D_mostOf_5 : mD m_D_mostOf 5 (.sipush 1024) 3 8 := ⟨by decide +kernel, rfl⟩
theorem d_D_mostOf_8 : mJ m_D_mostOf 8 (.if_icmp .ge 12) (12) 11 20 := ⟨by decide +kernel, rfl, rfl⟩
theorem d_D_mostOf_11 : mD m_D_mostOf 11 (.aload_n 0) 1 12 := ⟨by decide +kernel, rfl⟩
theorem d_D_mostOf_12 : mD m_D_mostOf 12 (.getfield 21) 3 15 := ⟨by decide +kernel, rfl⟩
theorem d_D_mostOf_15 : mD m_D_mostOf 15 (.iload_n 1) 1 16 := ⟨by decide +kernel, rfl⟩
theorem d_D_mostOf_16 : mD m_D_mostOf 16 (.iaload) 1 17 := ⟨by decide +kernel, rfl⟩
theorem d_D_mostOf_17 : mJ m_D_mostOf 17 (.goto 4) (4) 20 21 := ⟨by decide +kernel, rfl, rfl⟩
theorem d_D_mostOf_20 : mD m_D_mostOf 20 (.iconst (-1)) 1 21 := ⟨by decide +kernel, rfl⟩
theorem d_D_mostOf_21 : mD m_D_mostOf 21 (.ireturn) 1 22 := ⟨by decide +kernel, rfl⟩
theorem d_D_nextPart_0 : mD m_D_nextPart 0 (.iload_n 0) 1 1 := ⟨by decide +kernel, rfl⟩
theorem d_D_nextPart_1 : mD m_D_nextPart 1 (.iload_n 1) 1 2 := ⟨by decide +kernel, rfl⟩
theorem d_D_nextPart_2 : mD m_D_nextPart 2 (.isub) 1 3 := ⟨by decide +kernel, rfl⟩
theorem d_D_nextPart_3 : mD m_D_nextPart 3 (.iload_n 1) 1 4 := ⟨by decide +kernel, rfl⟩
theorem d_D_nextPart_4 : mD m_D_nextPart 4 (.iand) 1 5 := ⟨by decide +kernel, rfl⟩
theorem d_D_nextPart_5 : mD m_D_nextPart 5 (.ireturn) 1 6 := ⟨by decide +kernel, rfl⟩
theorem d_D_orders_0 : mD m_D_orders 0 (.iload_n 1) 1 1 := ⟨by decide +kernel, rfl⟩
theorem d_D_orders_1 : mJ m_D_orders 1 (.ifCond .lt 19) (19) 4 20 := ⟨by decide +kernel, rfl, rfl⟩
theorem d_D_orders_4 : mD m_D_orders 4 (.iload_n 1) 1 5 := ⟨by decide +kernel, rfl⟩
theorem d_D_orders_5 : mD m_D_orders 5 (.getstatic 95) 3 8 := ⟨by decide +kernel, rfl⟩
theorem d_D_orders_8 : mD m_D_orders 8 (.arraylength) 1 9 := ⟨by decide +kernel, rfl⟩
theorem d_D_orders_9 : mJ m_D_orders 9 (.if_icmp .ge 11) (11) 12 20 := ⟨by decide +kernel, rfl, rfl⟩
theorem d_D_orders_12 : mD m_D_orders 12 (.getstatic 95) 3 15 := ⟨by decide +kernel, rfl⟩
theorem d_D_orders_15 : mD m_D_orders 15 (.iload_n 1) 1 16 := ⟨by decide +kernel, rfl⟩
theorem d_D_orders_16 : mD m_D_orders 16 (.iaload) 1 17 := ⟨by decide +kernel, rfl⟩
theorem d_D_orders_17 : mJ m_D_orders 17 (.goto 4) (4) 20 21 := ⟨by decide +kernel, rfl, rfl⟩
theorem d_D_orders_20 : mD m_D_orders 20 (.iconst 0) 1 21 := ⟨by decide +kernel, rfl⟩
theorem d_D_orders_21 : mD m_D_orders 21 (.ireturn) 1 22 := ⟨by decide +kernel, rfl⟩
theorem d_D_outdate_0 : mD m_D_outdate 0 (.aload_n 0) 1 1 := ⟨by decide +kernel, rfl⟩
theorem d_D_outdate_1 : mD m_D_outdate 1 (.iconst 1) 1 2 := ⟨by decide +kernel, rfl⟩
theorem d_D_outdate_2 : mD m_D_outdate 2 (.putfield 24) 3 5 := ⟨by decide +kernel, rfl⟩
theorem d_D_outdate_5 : mD m_D_outdate 5 (.return_) 1 6 := ⟨by decide +kernel, rfl⟩
theorem d_D_plan_0 : mD m_D_plan 0 (.iload_n 1) 1 1 := ⟨by decide +kernel, rfl⟩
theorem d_D_plan_1 : mJ m_D_plan 1 (.ifCond .le 10) (10) 4 11 := ⟨by decide +kernel, rfl, rfl⟩
theorem d_D_plan_4 : mD m_D_plan 4 (.iload_n 1) 1 5 := ⟨by decide +kernel, rfl⟩
theorem d_D_plan_5 : mD m_D_plan 5 (.sipush 1024) 3 8 := ⟨by decide +kernel, rfl⟩
theorem d_D_plan_8 : mJ m_D_plan 8 (.if_icmp .lt 4) (4) 11 12 := ⟨by decide +kernel, rfl, rfl⟩
theorem d_D_plan_11 : mD m_D_plan 11 (.return_) 1 12 := ⟨by decide +kernel, rfl⟩
theorem d_D_plan_12 : mD m_D_plan 12 (.iload_n 1) 1 13 := ⟨by decide +kernel, rfl⟩
theorem d_D_plan_13 : mD m_D_plan 13 (.invokestatic 42) 3 16 := ⟨by decide +kernel, rfl⟩
theorem d_D_plan_16 : mD m_D_plan 16 (.istore_n 2) 1 17 := ⟨by decide +kernel, rfl⟩
theorem d_D_plan_17 : mD m_D_plan 17 (.iload_n 1) 1 18 := ⟨by decide +kernel, rfl⟩
theorem d_D_plan_18 : mD m_D_plan 18 (.iload_n 2) 1 19 := ⟨by decide +kernel, rfl⟩
theorem d_D_plan_19 : mD m_D_plan 19 (.ixor) 1 20 := ⟨by decide +kernel, rfl⟩
theorem d_D_plan_20 : mD m_D_plan 20 (.istore_n 3) 1 21 := ⟨by decide +kernel, rfl⟩
theorem d_D_plan_21 : mD m_D_plan 21 (.iconst 1) 1 22 := ⟨by decide +kernel, rfl⟩
theorem d_D_plan_22 : mD m_D_plan 22 (.iload_n 3) 1 23 := ⟨by decide +kernel, rfl⟩
theorem d_D_plan_23 : mD m_D_plan 23 (.invokestatic 46) 3 26 := ⟨by decide +kernel, rfl⟩
theorem d_D_plan_26 : mD m_D_plan 26 (.ishl) 1 27 := ⟨by decide +kernel, rfl⟩
theorem d_D_plan_27 : mD m_D_plan 27 (.istore 4) 2 29 := ⟨by decide +kernel, rfl⟩
theorem d_D_plan_29 : mD m_D_plan 29 (.ldc 67) 2 31 := ⟨by decide +kernel, rfl⟩
theorem d_D_plan_31 : mD m_D_plan 31 (.istore 5) 2 33 := ⟨by decide +kernel, rfl⟩
theorem d_D_plan_33 : mD m_D_plan 33 (.iconst (-1)) 1 34 := ⟨by decide +kernel, rfl⟩
theorem d_D_plan_34 : mD m_D_plan 34 (.istore 6) 2 36 := ⟨by decide +kernel, rfl⟩
theorem d_D_plan_36 : mD m_D_plan 36 (.iconst 0) 1 37 := ⟨by decide +kernel, rfl⟩
theorem d_D_plan_37 : mD m_D_plan 37 (.istore 7) 2 39 := ⟨by decide +kernel, rfl⟩
theorem d_D_plan_39 : mD m_D_plan 39 (.iconst 0) 1 40 := ⟨by decide +kernel, rfl⟩
theorem d_D_plan_40 : mD m_D_plan 40 (.istore 8) 2 42 := ⟨by decide +kernel, rfl⟩
theorem d_D_plan_42 : mD m_D_plan 42 (.iload 8) 2 44 := ⟨by decide +kernel, rfl⟩
theorem d_D_plan_44 : mD m_D_plan 44 (.iload 4) 2 46 := ⟨by decide +kernel, rfl⟩
theorem d_D_plan_46 : mJ m_D_plan 46 (.if_icmp .ge 116) (116) 49 162 := ⟨by decide +kernel, rfl, rfl⟩
theorem d_D_plan_49 : mD m_D_plan 49 (.iload_n 2) 1 50 := ⟨by decide +kernel, rfl⟩
theorem d_D_plan_50 : mD m_D_plan 50 (.iload 7) 2 52 := ⟨by decide +kernel, rfl⟩
theorem d_D_plan_52 : mD m_D_plan 52 (.ior) 1 53 := ⟨by decide +kernel, rfl⟩
theorem d_D_plan_53 : mD m_D_plan 53 (.istore 9) 2 55 := ⟨by decide +kernel, rfl⟩
theorem d_D_plan_55 : mD m_D_plan 55 (.iload_n 1) 1 56 := ⟨by decide +kernel, rfl⟩
theorem d_D_plan_56 : mD m_D_plan 56 (.iload 9) 2 58 := ⟨by decide +kernel, rfl⟩
theorem d_D_plan_58 : mD m_D_plan 58 (.ixor) 1 59 := ⟨by decide +kernel, rfl⟩
theorem d_D_plan_59 : mD m_D_plan 59 (.istore 10) 2 61 := ⟨by decide +kernel, rfl⟩
theorem d_D_plan_61 : mD m_D_plan 61 (.aload_n 0) 1 62 := ⟨by decide +kernel, rfl⟩
theorem d_D_plan_62 : mD m_D_plan 62 (.iload 9) 2 64 := ⟨by decide +kernel, rfl⟩
theorem d_D_plan_64 : mD m_D_plan 64 (.iload_n 1) 1 65 := ⟨by decide +kernel, rfl⟩
theorem d_D_plan_65 : mD m_D_plan 65 (.invokevirtual 127) 3 68 := ⟨by decide +kernel, rfl⟩
theorem d_D_plan_68 : mJ m_D_plan 68 (.ifCond .eq 80) (80) 71 148 := ⟨by decide +kernel, rfl, rfl⟩
theorem d_D_plan_71 : mD m_D_plan 71 (.aload_n 0) 1 72 := ⟨by decide +kernel, rfl⟩
theorem d_D_plan_72 : mD m_D_plan 72 (.getfield 18) 3 75 := ⟨by decide +kernel, rfl⟩
theorem d_D_plan_75 : mD m_D_plan 75 (.iload 10) 2 77 := ⟨by decide +kernel, rfl⟩
theorem d_D_plan_77 : mD m_D_plan 77 (.iaload) 1 78 := ⟨by decide +kernel, rfl⟩
theorem d_D_plan_78 : mD m_D_plan 78 (.ldc 67) 2 80 := ⟨by decide +kernel, rfl⟩
theorem d_D_plan_80 : mJ m_D_plan 80 (.if_icmp .eq 68) (68) 83 148 := ⟨by decide +kernel, rfl, rfl⟩
theorem d_D_plan_83 : mD m_D_plan 83 (.aload_n 0) 1 84 := ⟨by decide +kernel, rfl⟩
theorem d_D_plan_84 : mD m_D_plan 84 (.getfield 18) 3 87 := ⟨by decide +kernel, rfl⟩
theorem d_D_plan_87 : mD m_D_plan 87 (.iload 10) 2 89 := ⟨by decide +kernel, rfl⟩
theorem d_D_plan_89 : mD m_D_plan 89 (.iaload) 1 90 := ⟨by decide +kernel, rfl⟩
theorem d_D_plan_90 : mD m_D_plan 90 (.bipush 10) 2 92 := ⟨by decide +kernel, rfl⟩
theorem d_D_plan_92 : mD m_D_plan 92 (.ishr) 1 93 := ⟨by decide +kernel, rfl⟩
theorem d_D_plan_93 : mD m_D_plan 93 (.istore 11) 2 95 := ⟨by decide +kernel, rfl⟩
theorem d_D_plan_95 : mD m_D_plan 95 (.aload_n 0) 1 96 := ⟨by decide +kernel, rfl⟩
theorem d_D_plan_96 : mD m_D_plan 96 (.getfield 11) 3 99 := ⟨by decide +kernel, rfl⟩
theorem d_D_plan_99 : mD m_D_plan 99 (.iload 9) 2 101 := ⟨by decide +kernel, rfl⟩
theorem d_D_plan_101 : mD m_D_plan 101 (.iaload) 1 102 := ⟨by decide +kernel, rfl⟩
theorem d_D_plan_102 : mD m_D_plan 102 (.iconst 4) 1 103 := ⟨by decide +kernel, rfl⟩
theorem d_D_plan_103 : mD m_D_plan 103 (.ishl) 1 104 := ⟨by decide +kernel, rfl⟩
theorem d_D_plan_104 : mD m_D_plan 104 (.istore 12) 2 106 := ⟨by decide +kernel, rfl⟩
theorem d_D_plan_106 : mD m_D_plan 106 (.iload 5) 2 108 := ⟨by decide +kernel, rfl⟩
theorem d_D_plan_108 : mD m_D_plan 108 (.iload 11) 2 110 := ⟨by decide +kernel, rfl⟩
theorem d_D_plan_110 : mD m_D_plan 110 (.iload 12) 2 112 := ⟨by decide +kernel, rfl⟩
theorem d_D_plan_112 : mD m_D_plan 112 (.iadd) 1 113 := ⟨by decide +kernel, rfl⟩
theorem d_D_plan_113 : mD m_D_plan 113 (.iconst 1) 1 114 := ⟨by decide +kernel, rfl⟩
theorem d_D_plan_114 : mD m_D_plan 114 (.iadd) 1 115 := ⟨by decide +kernel, rfl⟩
theorem d_D_plan_115 : mD m_D_plan 115 (.bipush 10) 2 117 := ⟨by decide +kernel, rfl⟩
theorem d_D_plan_117 : mD m_D_plan 117 (.ishl) 1 118 := ⟨by decide +kernel, rfl⟩
theorem d_D_plan_118 : mD m_D_plan 118 (.iload 9) 2 120 := ⟨by decide +kernel, rfl⟩
theorem d_D_plan_120 : mD m_D_plan 120 (.ior) 1 121 := ⟨by decide +kernel, rfl⟩
theorem d_D_plan_121 : mD m_D_plan 121 (.invokestatic 77) 3 124 := ⟨by decide +kernel, rfl⟩
theorem d_D_plan_124 : mD m_D_plan 124 (.istore 5) 2 126 := ⟨by decide +kernel, rfl⟩
theorem d_D_plan_126 : mD m_D_plan 126 (.iload 6) 2 128 := ⟨by decide +kernel, rfl⟩
theorem d_D_plan_128 : mD m_D_plan 128 (.aload_n 0) 1 129 := ⟨by decide +kernel, rfl⟩
theorem d_D_plan_129 : mD m_D_plan 129 (.getfield 11) 3 132 := ⟨by decide +kernel, rfl⟩
theorem d_D_plan_132 : mD m_D_plan 132 (.iload 9) 2 134 := ⟨by decide +kernel, rfl⟩
theorem d_D_plan_134 : mD m_D_plan 134 (.iaload) 1 135 := ⟨by decide +kernel, rfl⟩
theorem d_D_plan_135 : mD m_D_plan 135 (.aload_n 0) 1 136 := ⟨by decide +kernel, rfl⟩
theorem d_D_plan_136 : mD m_D_plan 136 (.getfield 21) 3 139 := ⟨by decide +kernel, rfl⟩
theorem d_D_plan_139 : mD m_D_plan 139 (.iload 10) 2 141 := ⟨by decide +kernel, rfl⟩
theorem d_D_plan_141 : mD m_D_plan 141 (.iaload) 1 142 := ⟨by decide +kernel, rfl⟩
theorem d_D_plan_142 : mD m_D_plan 142 (.iadd) 1 143 := ⟨by decide +kernel, rfl⟩
theorem d_D_plan_143 : mD m_D_plan 143 (.invokestatic 71) 3 146 := ⟨by decide +kernel, rfl⟩
theorem d_D_plan_146 : mD m_D_plan 146 (.istore 6) 2 148 := ⟨by decide +kernel, rfl⟩
theorem d_D_plan_148 : mD m_D_plan 148 (.iload 7) 2 150 := ⟨by decide +kernel, rfl⟩
theorem d_D_plan_150 : mD m_D_plan 150 (.iload_n 3) 1 151 := ⟨by decide +kernel, rfl⟩
theorem d_D_plan_151 : mD m_D_plan 151 (.invokestatic 131) 3 154 := ⟨by decide +kernel, rfl⟩
theorem d_D_plan_154 : mD m_D_plan 154 (.istore 7) 2 156 := ⟨by decide +kernel, rfl⟩
theorem d_D_plan_156 : mD m_D_plan 156 (.iinc 8 1) 3 159 := ⟨by decide +kernel, rfl⟩
theorem d_D_plan_159 : mJ m_D_plan 159 (.goto (-117)) (-117) 162 42 := ⟨by decide +kernel, rfl, rfl⟩
theorem d_D_plan_162 : mD m_D_plan 162 (.aload_n 0) 1 163 := ⟨by decide +kernel, rfl⟩
theorem d_D_plan_163 : mD m_D_plan 163 (.getfield 18) 3 166 := ⟨by decide +kernel, rfl⟩
theorem d_D_plan_166 : mD m_D_plan 166 (.iload_n 1) 1 167 := ⟨by decide +kernel, rfl⟩
theorem d_D_plan_167 : mD m_D_plan 167 (.iload 5) 2 169 := ⟨by decide +kernel, rfl⟩
theorem d_D_plan_169 : mD m_D_plan 169 (.iastore) 1 170 := ⟨by decide +kernel, rfl⟩
theorem d_D_plan_170 : mD m_D_plan 170 (.aload_n 0) 1 171 := ⟨by decide +kernel, rfl⟩
theorem d_D_plan_171 : mD m_D_plan 171 (.getfield 21) 3 174 := ⟨by decide +kernel, rfl⟩
theorem d_D_plan_174 : mD m_D_plan 174 (.iload_n 1) 1 175 := ⟨by decide +kernel, rfl⟩
theorem d_D_plan_175 : mD m_D_plan 175 (.iload 6) 2 177 := ⟨by decide +kernel, rfl⟩
theorem d_D_plan_177 : mD m_D_plan 177 (.iastore) 1 178 := ⟨by decide +kernel, rfl⟩
theorem d_D_plan_178 : mD m_D_plan 178 (.return_) 1 179 := ⟨by decide +kernel, rfl⟩
theorem d_D_planOf_0 : mD m_D_planOf 0 (.iload_n 1) 1 1 := ⟨by decide +kernel, rfl⟩
theorem d_D_planOf_1 : mJ m_D_planOf 1 (.ifCond .lt 19) (19) 4 20 := ⟨by decide +kernel, rfl, rfl⟩
theorem d_D_planOf_4 : mD m_D_planOf 4 (.iload_n 1) 1 5 := ⟨by decide +kernel, rfl⟩
theorem d_D_planOf_5 : mD m_D_planOf 5 (.sipush 1024) 3 8 := ⟨by decide +kernel, rfl⟩
theorem d_D_planOf_8 : mJ m_D_planOf 8 (.if_icmp .ge 12) (12) 11 20 := ⟨by decide +kernel, rfl, rfl⟩
theorem d_D_planOf_11 : mD m_D_planOf 11 (.aload_n 0) 1 12 := ⟨by decide +kernel, rfl⟩
theorem d_D_planOf_12 : mD m_D_planOf 12 (.getfield 18) 3 15 := ⟨by decide +kernel, rfl⟩
theorem d_D_planOf_15 : mD m_D_planOf 15 (.iload_n 1) 1 16 := ⟨by decide +kernel, rfl⟩
theorem d_D_planOf_16 : mD m_D_planOf 16 (.iaload) 1 17 := ⟨by decide +kernel, rfl⟩
theorem d_D_planOf_17 : mJ m_D_planOf 17 (.goto 5) (5) 20 22 := ⟨by decide +kernel, rfl, rfl⟩
theorem d_D_planOf_20 : mD m_D_planOf 20 (.ldc 67) 2 22 := ⟨by decide +kernel, rfl⟩
theorem d_D_planOf_22 : mD m_D_planOf 22 (.ireturn) 1 23 := ⟨by decide +kernel, rfl⟩
theorem d_D_priceAt_0 : mD m_D_priceAt 0 (.iload_n 1) 1 1 := ⟨by decide +kernel, rfl⟩
theorem d_D_priceAt_1 : mJ m_D_priceAt 1 (.ifCond .lt 19) (19) 4 20 := ⟨by decide +kernel, rfl, rfl⟩
theorem d_D_priceAt_4 : mD m_D_priceAt 4 (.iload_n 1) 1 5 := ⟨by decide +kernel, rfl⟩
theorem d_D_priceAt_5 : mD m_D_priceAt 5 (.sipush 1024) 3 8 := ⟨by decide +kernel, rfl⟩
theorem d_D_priceAt_8 : mJ m_D_priceAt 8 (.if_icmp .ge 12) (12) 11 20 := ⟨by decide +kernel, rfl, rfl⟩
theorem d_D_priceAt_11 : mD m_D_priceAt 11 (.aload_n 0) 1 12 := ⟨by decide +kernel, rfl⟩
theorem d_D_priceAt_12 : mD m_D_priceAt 12 (.getfield 11) 3 15 := ⟨by decide +kernel, rfl⟩
theorem d_D_priceAt_15 : mD m_D_priceAt 15 (.iload_n 1) 1 16 := ⟨by decide +kernel, rfl⟩
theorem d_D_priceAt_16 : mD m_D_priceAt 16 (.iaload) 1 17 := ⟨by decide +kernel, rfl⟩
theorem d_D_priceAt_17 : mJ m_D_priceAt 17 (.goto 4) (4) 20 21 := ⟨by decide +kernel, rfl, rfl⟩
theorem d_D_priceAt_20 : mD m_D_priceAt 20 (.iconst (-1)) 1 21 := ⟨by decide +kernel, rfl⟩
theorem d_D_priceAt_21 : mD m_D_priceAt 21 (.ireturn) 1 22 := ⟨by decide +kernel, rfl⟩
theorem d_D_priceOf_0 : mD m_D_priceOf 0 (.iload_n 1) 1 1 := ⟨by decide +kernel, rfl⟩
theorem d_D_priceOf_1 : mD m_D_priceOf 1 (.invokestatic 46) 3 4 := ⟨by decide +kernel, rfl⟩
theorem d_D_priceOf_4 : mD m_D_priceOf 4 (.aload_n 0) 1 5 := ⟨by decide +kernel, rfl⟩
theorem d_D_priceOf_5 : mD m_D_priceOf 5 (.getfield 32) 3 8 := ⟨by decide +kernel, rfl⟩
theorem d_D_priceOf_8 : mD m_D_priceOf 8 (.getfield 63) 3 11 := ⟨by decide +kernel, rfl⟩
theorem d_D_priceOf_11 : mD m_D_priceOf 11 (.iconst 0) 1 12 := ⟨by decide +kernel, rfl⟩
theorem d_D_priceOf_12 : mD m_D_priceOf 12 (.iaload) 1 13 := ⟨by decide +kernel, rfl⟩
theorem d_D_priceOf_13 : mJ m_D_priceOf 13 (.if_icmp .le 5) (5) 16 18 := ⟨by decide +kernel, rfl, rfl⟩
theorem d_D_priceOf_16 : mD m_D_priceOf 16 (.iconst (-1)) 1 17 := ⟨by decide +kernel, rfl⟩
theorem d_D_priceOf_17 : mD m_D_priceOf 17 (.ireturn) 1 18 := ⟨by decide +kernel, rfl⟩
theorem d_D_priceOf_18 : mD m_D_priceOf 18 (.iconst 0) 1 19 := ⟨by decide +kernel, rfl⟩
theorem d_D_priceOf_19 : mD m_D_priceOf 19 (.istore_n 2) 1 20 := ⟨by decide +kernel, rfl⟩
theorem d_D_priceOf_20 : mD m_D_priceOf 20 (.iload_n 2) 1 21 := ⟨by decide +kernel, rfl⟩
theorem d_D_priceOf_21 : mD m_D_priceOf 21 (.bipush 10) 2 23 := ⟨by decide +kernel, rfl⟩
theorem d_D_priceOf_23 : mJ m_D_priceOf 23 (.if_icmp .ge 33) (33) 26 56 := ⟨by decide +kernel, rfl, rfl⟩
theorem d_D_priceOf_26 : mD m_D_priceOf 26 (.iload_n 1) 1 27 := ⟨by decide +kernel, rfl⟩
theorem d_D_priceOf_27 : mD m_D_priceOf 27 (.iconst 1) 1 28 := ⟨by decide +kernel, rfl⟩
theorem d_D_priceOf_28 : mD m_D_priceOf 28 (.iload_n 2) 1 29 := ⟨by decide +kernel, rfl⟩
theorem d_D_priceOf_29 : mD m_D_priceOf 29 (.ishl) 1 30 := ⟨by decide +kernel, rfl⟩
theorem d_D_priceOf_30 : mD m_D_priceOf 30 (.iand) 1 31 := ⟨by decide +kernel, rfl⟩
theorem d_D_priceOf_31 : mJ m_D_priceOf 31 (.ifCond .eq 19) (19) 34 50 := ⟨by decide +kernel, rfl, rfl⟩
theorem d_D_priceOf_34 : mD m_D_priceOf 34 (.aload_n 0) 1 35 := ⟨by decide +kernel, rfl⟩
theorem d_D_priceOf_35 : mD m_D_priceOf 35 (.getfield 32) 3 38 := ⟨by decide +kernel, rfl⟩
theorem d_D_priceOf_38 : mD m_D_priceOf 38 (.getfield 124) 3 41 := ⟨by decide +kernel, rfl⟩
theorem d_D_priceOf_41 : mD m_D_priceOf 41 (.iload_n 2) 1 42 := ⟨by decide +kernel, rfl⟩
theorem d_D_priceOf_42 : mD m_D_priceOf 42 (.iaload) 1 43 := ⟨by decide +kernel, rfl⟩
theorem d_D_priceOf_43 : mD m_D_priceOf 43 (.iload_n 1) 1 44 := ⟨by decide +kernel, rfl⟩
theorem d_D_priceOf_44 : mD m_D_priceOf 44 (.iand) 1 45 := ⟨by decide +kernel, rfl⟩
theorem d_D_priceOf_45 : mJ m_D_priceOf 45 (.ifCond .eq 5) (5) 48 50 := ⟨by decide +kernel, rfl, rfl⟩
theorem d_D_priceOf_48 : mD m_D_priceOf 48 (.iconst (-1)) 1 49 := ⟨by decide +kernel, rfl⟩
theorem d_D_priceOf_49 : mD m_D_priceOf 49 (.ireturn) 1 50 := ⟨by decide +kernel, rfl⟩
theorem d_D_priceOf_50 : mD m_D_priceOf 50 (.iinc 2 1) 3 53 := ⟨by decide +kernel, rfl⟩
theorem d_D_priceOf_53 : mJ m_D_priceOf 53 (.goto (-33)) (-33) 56 20 := ⟨by decide +kernel, rfl, rfl⟩
theorem d_D_priceOf_56 : mD m_D_priceOf 56 (.aload_n 0) 1 57 := ⟨by decide +kernel, rfl⟩
theorem d_D_priceOf_57 : mD m_D_priceOf 57 (.iload_n 1) 1 58 := ⟨by decide +kernel, rfl⟩
theorem d_D_priceOf_58 : mD m_D_priceOf 58 (.invokevirtual 121) 3 61 := ⟨by decide +kernel, rfl⟩
theorem d_D_priceOf_61 : mD m_D_priceOf 61 (.ireturn) 1 62 := ⟨by decide +kernel, rfl⟩
theorem d_D_replanAround_0 : mD m_D_replanAround 0 (.aload_n 0) 1 1 := ⟨by decide +kernel, rfl⟩
theorem d_D_replanAround_1 : mD m_D_replanAround 1 (.getfield 28) 3 4 := ⟨by decide +kernel, rfl⟩
theorem d_D_replanAround_4 : mD m_D_replanAround 4 (.invokevirtual 36) 3 7 := ⟨by decide +kernel, rfl⟩
theorem d_D_replanAround_7 : mD m_D_replanAround 7 (.istore_n 2) 1 8 := ⟨by decide +kernel, rfl⟩
theorem d_D_replanAround_8 : mD m_D_replanAround 8 (.iload_n 1) 1 9 := ⟨by decide +kernel, rfl⟩
theorem d_D_replanAround_9 : mD m_D_replanAround 9 (.istore_n 3) 1 10 := ⟨by decide +kernel, rfl⟩
theorem d_D_replanAround_10 : mD m_D_replanAround 10 (.iload_n 3) 1 11 := ⟨by decide +kernel, rfl⟩
theorem d_D_replanAround_11 : mD m_D_replanAround 11 (.iload_n 2) 1 12 := ⟨by decide +kernel, rfl⟩
theorem d_D_replanAround_12 : mJ m_D_replanAround 12 (.if_icmp .gt 33) (33) 15 45 := ⟨by decide +kernel, rfl, rfl⟩
theorem d_D_replanAround_15 : mD m_D_replanAround 15 (.iload_n 3) 1 16 := ⟨by decide +kernel, rfl⟩
theorem d_D_replanAround_16 : mD m_D_replanAround 16 (.sipush 1024) 3 19 := ⟨by decide +kernel, rfl⟩
theorem d_D_replanAround_19 : mJ m_D_replanAround 19 (.if_icmp .ge 26) (26) 22 45 := ⟨by decide +kernel, rfl, rfl⟩
theorem d_D_replanAround_22 : mD m_D_replanAround 22 (.iload_n 3) 1 23 := ⟨by decide +kernel, rfl⟩
theorem d_D_replanAround_23 : mD m_D_replanAround 23 (.iload_n 1) 1 24 := ⟨by decide +kernel, rfl⟩
theorem d_D_replanAround_24 : mD m_D_replanAround 24 (.iand) 1 25 := ⟨by decide +kernel, rfl⟩
theorem d_D_replanAround_25 : mJ m_D_replanAround 25 (.ifCond .eq 14) (14) 28 39 := ⟨by decide +kernel, rfl, rfl⟩
theorem d_D_replanAround_28 : mD m_D_replanAround 28 (.aload_n 0) 1 29 := ⟨by decide +kernel, rfl⟩
theorem d_D_replanAround_29 : mD m_D_replanAround 29 (.getfield 11) 3 32 := ⟨by decide +kernel, rfl⟩
theorem d_D_replanAround_32 : mD m_D_replanAround 32 (.iload_n 3) 1 33 := ⟨by decide +kernel, rfl⟩
theorem d_D_replanAround_33 : mD m_D_replanAround 33 (.aload_n 0) 1 34 := ⟨by decide +kernel, rfl⟩
theorem d_D_replanAround_34 : mD m_D_replanAround 34 (.iload_n 3) 1 35 := ⟨by decide +kernel, rfl⟩
theorem d_D_replanAround_35 : mD m_D_replanAround 35 (.invokevirtual 56) 3 38 := ⟨by decide +kernel, rfl⟩
theorem d_D_replanAround_38 : mD m_D_replanAround 38 (.iastore) 1 39 := ⟨by decide +kernel, rfl⟩
theorem d_D_replanAround_39 : mD m_D_replanAround 39 (.iinc 3 1) 3 42 := ⟨by decide +kernel, rfl⟩
theorem d_D_replanAround_42 : mJ m_D_replanAround 42 (.goto (-32)) (-32) 45 10 := ⟨by decide +kernel, rfl, rfl⟩
theorem d_D_replanAround_45 : mD m_D_replanAround 45 (.iload_n 1) 1 46 := ⟨by decide +kernel, rfl⟩
theorem d_D_replanAround_46 : mD m_D_replanAround 46 (.istore_n 3) 1 47 := ⟨by decide +kernel, rfl⟩
theorem d_D_replanAround_47 : mD m_D_replanAround 47 (.iload_n 3) 1 48 := ⟨by decide +kernel, rfl⟩
theorem d_D_replanAround_48 : mD m_D_replanAround 48 (.iload_n 2) 1 49 := ⟨by decide +kernel, rfl⟩
theorem d_D_replanAround_49 : mJ m_D_replanAround 49 (.if_icmp .gt 38) (38) 52 87 := ⟨by decide +kernel, rfl, rfl⟩
theorem d_D_replanAround_52 : mD m_D_replanAround 52 (.iload_n 3) 1 53 := ⟨by decide +kernel, rfl⟩
theorem d_D_replanAround_53 : mD m_D_replanAround 53 (.sipush 1024) 3 56 := ⟨by decide +kernel, rfl⟩
theorem d_D_replanAround_56 : mJ m_D_replanAround 56 (.if_icmp .ge 31) (31) 59 87 := ⟨by decide +kernel, rfl, rfl⟩
theorem d_D_replanAround_59 : mD m_D_replanAround 59 (.iload_n 3) 1 60 := ⟨by decide +kernel, rfl⟩
theorem d_D_replanAround_60 : mD m_D_replanAround 60 (.iload_n 1) 1 61 := ⟨by decide +kernel, rfl⟩
theorem d_D_replanAround_61 : mD m_D_replanAround 61 (.iand) 1 62 := ⟨by decide +kernel, rfl⟩
theorem d_D_replanAround_62 : mJ m_D_replanAround 62 (.ifCond .eq 19) (19) 65 81 := ⟨by decide +kernel, rfl, rfl⟩
theorem d_D_replanAround_65 : mD m_D_replanAround 65 (.iload_n 3) 1 66 := ⟨by decide +kernel, rfl⟩
theorem d_D_replanAround_66 : mD m_D_replanAround 66 (.iload_n 2) 1 67 := ⟨by decide +kernel, rfl⟩
theorem d_D_replanAround_67 : mJ m_D_replanAround 67 (.if_icmp .eq 9) (9) 70 76 := ⟨by decide +kernel, rfl, rfl⟩
theorem d_D_replanAround_70 : mD m_D_replanAround 70 (.iload_n 3) 1 71 := ⟨by decide +kernel, rfl⟩
theorem d_D_replanAround_71 : mD m_D_replanAround 71 (.iconst 1) 1 72 := ⟨by decide +kernel, rfl⟩
theorem d_D_replanAround_72 : mD m_D_replanAround 72 (.iand) 1 73 := ⟨by decide +kernel, rfl⟩
theorem d_D_replanAround_73 : mJ m_D_replanAround 73 (.ifCond .ne 8) (8) 76 81 := ⟨by decide +kernel, rfl, rfl⟩
theorem d_D_replanAround_76 : mD m_D_replanAround 76 (.aload_n 0) 1 77 := ⟨by decide +kernel, rfl⟩
theorem d_D_replanAround_77 : mD m_D_replanAround 77 (.iload_n 3) 1 78 := ⟨by decide +kernel, rfl⟩
theorem d_D_replanAround_78 : mD m_D_replanAround 78 (.invokevirtual 59) 3 81 := ⟨by decide +kernel, rfl⟩
theorem d_D_replanAround_81 : mD m_D_replanAround 81 (.iinc 3 1) 3 84 := ⟨by decide +kernel, rfl⟩
theorem d_D_replanAround_84 : mJ m_D_replanAround 84 (.goto (-37)) (-37) 87 47 := ⟨by decide +kernel, rfl, rfl⟩
theorem d_D_replanAround_87 : mD m_D_replanAround 87 (.return_) 1 88 := ⟨by decide +kernel, rfl⟩
theorem d_F_ages_0 : mD m_F_ages 0 (.aload_n 0) 1 1 := ⟨by decide +kernel, rfl⟩
theorem d_F_ages_1 : mD m_F_ages 1 (.getfield 10) 3 4 := ⟨by decide +kernel, rfl⟩
theorem d_F_ages_4 : mD m_F_ages 4 (.iload_n 1) 1 5 := ⟨by decide +kernel, rfl⟩
theorem d_F_ages_5 : mD m_F_ages 5 (.invokevirtual 82) 3 8 := ⟨by decide +kernel, rfl⟩
theorem d_F_ages_8 : mJ m_F_ages 8 (.ifCond .eq 12) (12) 11 20 := ⟨by decide +kernel, rfl, rfl⟩
theorem d_F_ages_11 : mD m_F_ages 11 (.iload_n 2) 1 12 := ⟨by decide +kernel, rfl⟩
theorem d_F_ages_12 : mD m_F_ages 12 (.iconst 0) 1 13 := ⟨by decide +kernel, rfl⟩
theorem d_F_ages_13 : mD m_F_ages 13 (.iconst 2) 1 14 := ⟨by decide +kernel, rfl⟩
theorem d_F_ages_14 : mD m_F_ages 14 (.invokestatic 59) 3 17 := ⟨by decide +kernel, rfl⟩
theorem d_F_ages_17 : mJ m_F_ages 17 (.ifCond .ne 6) (6) 20 23 := ⟨by decide +kernel, rfl, rfl⟩
theorem d_F_ages_20 : mD m_F_ages 20 (.bipush (-2)) 2 22 := ⟨by decide +kernel, rfl⟩
theorem d_F_ages_22 : mD m_F_ages 22 (.ireturn) 1 23 := ⟨by decide +kernel, rfl⟩
theorem d_F_ages_23 : mD m_F_ages 23 (.iconst 0) 1 24 := ⟨by decide +kernel, rfl⟩
theorem d_F_ages_24 : mD m_F_ages 24 (.istore_n 3) 1 25 := ⟨by decide +kernel, rfl⟩
theorem d_F_ages_25 : mD m_F_ages 25 (.iconst (-1)) 1 26 := ⟨by decide +kernel, rfl⟩
theorem d_F_ages_26 : mD m_F_ages 26 (.istore 4) 2 28 := ⟨by decide +kernel, rfl⟩
theorem d_F_ages_28 : mD m_F_ages 28 (.iconst (-1)) 1 29 := ⟨by decide +kernel, rfl⟩
theorem d_F_ages_29 : mD m_F_ages 29 (.istore 5) 2 31 := ⟨by decide +kernel, rfl⟩
theorem d_F_ages_31 : mD m_F_ages 31 (.iconst 0) 1 32 := ⟨by decide +kernel, rfl⟩
theorem d_F_ages_32 : mD m_F_ages 32 (.istore 6) 2 34 := ⟨by decide +kernel, rfl⟩
theorem d_F_ages_34 : mD m_F_ages 34 (.iload 6) 2 36 := ⟨by decide +kernel, rfl⟩
theorem d_F_ages_36 : mD m_F_ages 36 (.bipush 120) 2 38 := ⟨by decide +kernel, rfl⟩
theorem d_F_ages_38 : mJ m_F_ages 38 (.if_icmp .gt 48) (48) 41 86 := ⟨by decide +kernel, rfl, rfl⟩
theorem d_F_ages_41 : mD m_F_ages 41 (.aload_n 0) 1 42 := ⟨by decide +kernel, rfl⟩
theorem d_F_ages_42 : mD m_F_ages 42 (.getfield 44) 3 45 := ⟨by decide +kernel, rfl⟩
theorem d_F_ages_45 : mD m_F_ages 45 (.aload_n 0) 1 46 := ⟨by decide +kernel, rfl⟩
theorem d_F_ages_46 : mD m_F_ages 46 (.getfield 10) 3 49 := ⟨by decide +kernel, rfl⟩
theorem d_F_ages_49 : mD m_F_ages 49 (.iload_n 1) 1 50 := ⟨by decide +kernel, rfl⟩
theorem d_F_ages_50 : mD m_F_ages 50 (.iload 6) 2 52 := ⟨by decide +kernel, rfl⟩
theorem d_F_ages_52 : mD m_F_ages 52 (.invokevirtual 233) 3 55 := ⟨by decide +kernel, rfl⟩
theorem d_F_ages_55 : mJ m_F_ages 55 (.ifCond .eq 25) (25) 58 80 := ⟨by decide +kernel, rfl, rfl⟩
theorem d_F_ages_58 : mD m_F_ages 58 (.iinc 3 1) 3 61 := ⟨by decide +kernel, rfl⟩
theorem d_F_ages_61 : mD m_F_ages 61 (.iload 4) 2 63 := ⟨by decide +kernel, rfl⟩
theorem d_F_ages_63 : mD m_F_ages 63 (.iconst (-1)) 1 64 := ⟨by decide +kernel, rfl⟩
theorem d_F_ages_64 : mJ m_F_ages 64 (.if_icmp .ne 8) (8) 67 72 := ⟨by decide +kernel, rfl, rfl⟩
theorem d_F_ages_67 : mD m_F_ages 67 (.iload 6) 2 69 := ⟨by decide +kernel, rfl⟩
theorem d_F_ages_69 : mJ m_F_ages 69 (.goto 5) (5) 72 74 := ⟨by decide +kernel, rfl, rfl⟩
theorem d_F_ages_72 : mD m_F_ages 72 (.iload 4) 2 74 := ⟨by decide +kernel, rfl⟩
theorem d_F_ages_74 : mD m_F_ages 74 (.istore 4) 2 76 := ⟨by decide +kernel, rfl⟩
theorem d_F_ages_76 : mD m_F_ages 76 (.iload 6) 2 78 := ⟨by decide +kernel, rfl⟩
theorem d_F_ages_78 : mD m_F_ages 78 (.istore 5) 2 80 := ⟨by decide +kernel, rfl⟩
theorem d_F_ages_80 : mD m_F_ages 80 (.iinc 6 1) 3 83 := ⟨by decide +kernel, rfl⟩
theorem d_F_ages_83 : mJ m_F_ages 83 (.goto (-49)) (-49) 86 34 := ⟨by decide +kernel, rfl, rfl⟩
theorem d_F_ages_86 : mD m_F_ages 86 (.iload_n 2) 1 87 := ⟨by decide +kernel, rfl⟩
theorem d_F_ages_87 : mJ m_F_ages 87 (.ifCond .ne 5) (5) 90 92 := ⟨by decide +kernel, rfl, rfl⟩
theorem d_F_ages_90 : mD m_F_ages 90 (.iload_n 3) 1 91 := ⟨by decide +kernel, rfl⟩
theorem d_F_ages_91 : mD m_F_ages 91 (.ireturn) 1 92 := ⟨by decide +kernel, rfl⟩
theorem d_F_ages_92 : mD m_F_ages 92 (.iload_n 2) 1 93 := ⟨by decide +kernel, rfl⟩
theorem d_F_ages_93 : mD m_F_ages 93 (.iconst 1) 1 94 := ⟨by decide +kernel, rfl⟩
theorem d_F_ages_94 : mJ m_F_ages 94 (.if_icmp .ne 8) (8) 97 102 := ⟨by decide +kernel, rfl, rfl⟩
theorem d_F_ages_97 : mD m_F_ages 97 (.iload 4) 2 99 := ⟨by decide +kernel, rfl⟩
theorem d_F_ages_99 : mJ m_F_ages 99 (.goto 5) (5) 102 104 := ⟨by decide +kernel, rfl, rfl⟩
theorem d_F_ages_102 : mD m_F_ages 102 (.iload 5) 2 104 := ⟨by decide +kernel, rfl⟩
theorem d_F_ages_104 : mD m_F_ages 104 (.ireturn) 1 105 := ⟨by decide +kernel, rfl⟩
theorem d_F_anyNumberRefusal_0 : mD m_F_anyNumberRefusal 0 (.sipush (-1000)) 3 3 := ⟨by decide +kernel, rfl⟩
theorem d_F_anyNumberRefusal_3 : mD m_F_anyNumberRefusal 3 (.iload_n 0) 1 4 := ⟨by decide +kernel, rfl⟩
theorem d_F_anyNumberRefusal_4 : mD m_F_anyNumberRefusal 4 (.iadd) 1 5 := ⟨by decide +kernel, rfl⟩
theorem d_F_anyNumberRefusal_5 : mD m_F_anyNumberRefusal 5 (.ireturn) 1 6 := ⟨by decide +kernel, rfl⟩
theorem d_F_areThere_0 : mD m_F_areThere 0 (.iload_n 1) 1 1 := ⟨by decide +kernel, rfl⟩
theorem d_F_areThere_1 : mD m_F_areThere 1 (.aload_n 0) 1 2 := ⟨by decide +kernel, rfl⟩
theorem d_F_areThere_2 : mD m_F_areThere 2 (.getfield 10) 3 5 := ⟨by decide +kernel, rfl⟩
theorem d_F_areThere_5 : mD m_F_areThere 5 (.invokevirtual 180) 3 8 := ⟨by decide +kernel, rfl⟩
theorem d_F_areThere_8 : mD m_F_areThere 8 (.iconst (-1)) 1 9 := ⟨by decide +kernel, rfl⟩
theorem d_F_areThere_9 : mD m_F_areThere 9 (.ixor) 1 10 := ⟨by decide +kernel, rfl⟩
theorem d_F_areThere_10 : mD m_F_areThere 10 (.iand) 1 11 := ⟨by decide +kernel, rfl⟩
theorem d_F_areThere_11 : mJ m_F_areThere 11 (.ifCond .ne 7) (7) 14 18 := ⟨by decide +kernel, rfl, rfl⟩
theorem d_F_areThere_14 : mD m_F_areThere 14 (.iconst 1) 1 15 := ⟨by decide +kernel, rfl⟩
theorem d_F_areThere_15 : mJ m_F_areThere 15 (.goto 4) (4) 18 19 := ⟨by decide +kernel, rfl, rfl⟩
theorem d_F_areThere_18 : mD m_F_areThere 18 (.iconst 0) 1 19 := ⟨by decide +kernel, rfl⟩
theorem d_F_areThere_19 : mD m_F_areThere 19 (.ireturn) 1 20 := ⟨by decide +kernel, rfl⟩
theorem d_F_back_0 : mD m_F_back 0 (.aload_n 0) 1 1 := ⟨by decide +kernel, rfl⟩
theorem d_F_back_1 : mD m_F_back 1 (.getfield 10) 3 4 := ⟨by decide +kernel, rfl⟩
theorem d_F_back_4 : mD m_F_back 4 (.getfield 177) 3 7 := ⟨by decide +kernel, rfl⟩
theorem d_F_back_7 : mD m_F_back 7 (.bipush 8) 2 9 := ⟨by decide +kernel, rfl⟩
theorem d_F_back_9 : mJ m_F_back 9 (.if_icmp .le 6) (6) 12 15 := ⟨by decide +kernel, rfl, rfl⟩
theorem d_F_back_12 : mD m_F_back 12 (.bipush (-4)) 2 14 := ⟨by decide +kernel, rfl⟩
theorem d_F_back_14 : mD m_F_back 14 (.ireturn) 1 15 := ⟨by decide +kernel, rfl⟩
theorem d_F_back_15 : mD m_F_back 15 (.aload_n 0) 1 16 := ⟨by decide +kernel, rfl⟩
theorem d_F_back_16 : mD m_F_back 16 (.getfield 28) 3 19 := ⟨by decide +kernel, rfl⟩
theorem d_F_back_19 : mD m_F_back 19 (.invokevirtual 162) 3 22 := ⟨by decide +kernel, rfl⟩
theorem d_F_back_22 : mD m_F_back 22 (.aload_n 0) 1 23 := ⟨by decide +kernel, rfl⟩
theorem d_F_back_23 : mD m_F_back 23 (.getfield 37) 3 26 := ⟨by decide +kernel, rfl⟩
theorem d_F_back_26 : mD m_F_back 26 (.aload_n 0) 1 27 := ⟨by decide +kernel, rfl⟩
theorem d_F_back_27 : mD m_F_back 27 (.getfield 10) 3 30 := ⟨by decide +kernel, rfl⟩
theorem d_F_back_30 : mD m_F_back 30 (.invokevirtual 180) 3 33 := ⟨by decide +kernel, rfl⟩
theorem d_F_back_33 : mD m_F_back 33 (.invokevirtual 223) 3 36 := ⟨by decide +kernel, rfl⟩
theorem d_F_back_36 : mD m_F_back 36 (.ireturn) 1 37 := ⟨by decide +kernel, rfl⟩
theorem d_F_boat_0 : mD m_F_boat 0 (.iload_n 1) 1 1 := ⟨by decide +kernel, rfl⟩
theorem d_F_boat_1 : mJ m_F_boat 1 (.ifCond .eq 20) (20) 4 21 := ⟨by decide +kernel, rfl, rfl⟩
theorem d_F_boat_4 : mD m_F_boat 4 (.aload_n 0) 1 5 := ⟨by decide +kernel, rfl⟩
theorem d_F_boat_5 : mD m_F_boat 5 (.iload_n 1) 1 6 := ⟨by decide +kernel, rfl⟩
theorem d_F_boat_6 : mD m_F_boat 6 (.invokevirtual 153) 3 9 := ⟨by decide +kernel, rfl⟩
theorem d_F_boat_9 : mJ m_F_boat 9 (.ifCond .eq 12) (12) 12 21 := ⟨by decide +kernel, rfl, rfl⟩
theorem d_F_boat_12 : mD m_F_boat 12 (.iload_n 2) 1 13 := ⟨by decide +kernel, rfl⟩
theorem d_F_boat_13 : mD m_F_boat 13 (.iconst 0) 1 14 := ⟨by decide +kernel, rfl⟩
theorem d_F_boat_14 : mD m_F_boat 14 (.iconst 1) 1 15 := ⟨by decide +kernel, rfl⟩
theorem d_F_boat_15 : mD m_F_boat 15 (.invokestatic 59) 3 18 := ⟨by decide +kernel, rfl⟩
theorem d_F_boat_18 : mJ m_F_boat 18 (.ifCond .ne 6) (6) 21 24 := ⟨by decide +kernel, rfl, rfl⟩
theorem d_F_boat_21 : mD m_F_boat 21 (.bipush (-2)) 2 23 := ⟨by decide +kernel, rfl⟩
theorem d_F_boat_23 : mD m_F_boat 23 (.ireturn) 1 24 := ⟨by decide +kernel, rfl⟩
theorem d_F_boat_24 : mD m_F_boat 24 (.iload_n 2) 1 25 := ⟨by decide +kernel, rfl⟩
theorem d_F_boat_25 : mJ m_F_boat 25 (.ifCond .ne 14) (14) 28 39 := ⟨by decide +kernel, rfl, rfl⟩
theorem d_F_boat_28 : mD m_F_boat 28 (.aload_n 0) 1 29 := ⟨by decide +kernel, rfl⟩
theorem d_F_boat_29 : mD m_F_boat 29 (.getfield 28) 3 32 := ⟨by decide +kernel, rfl⟩
theorem d_F_boat_32 : mD m_F_boat 32 (.iload_n 1) 1 33 := ⟨by decide +kernel, rfl⟩
theorem d_F_boat_33 : mD m_F_boat 33 (.invokevirtual 156) 3 36 := ⟨by decide +kernel, rfl⟩
theorem d_F_boat_36 : mJ m_F_boat 36 (.goto 11) (11) 39 47 := ⟨by decide +kernel, rfl, rfl⟩
theorem d_F_boat_39 : mD m_F_boat 39 (.aload_n 0) 1 40 := ⟨by decide +kernel, rfl⟩
theorem d_F_boat_40 : mD m_F_boat 40 (.getfield 28) 3 43 := ⟨by decide +kernel, rfl⟩
theorem d_F_boat_43 : mD m_F_boat 43 (.iload_n 1) 1 44 := ⟨by decide +kernel, rfl⟩
theorem d_F_boat_44 : mD m_F_boat 44 (.invokevirtual 159) 3 47 := ⟨by decide +kernel, rfl⟩
theorem d_F_boat_47 : mD m_F_boat 47 (.ireturn) 1 48 := ⟨by decide +kernel, rfl⟩
theorem d_F_copy_0 : mD m_F_copy 0 (.iload_n 1) 1 1 := ⟨by decide +kernel, rfl⟩
theorem d_F_copy_1 : mD m_F_copy 1 (.invokestatic 115) 3 4 := ⟨by decide +kernel, rfl⟩
theorem d_F_copy_4 : mJ m_F_copy 4 (.ifCond .eq 10) (10) 7 14 := ⟨by decide +kernel, rfl, rfl⟩
theorem d_F_copy_7 : mD m_F_copy 7 (.iload_n 3) 1 8 := ⟨by decide +kernel, rfl⟩
theorem d_F_copy_8 : mD m_F_copy 8 (.invokestatic 115) 3 11 := ⟨by decide +kernel, rfl⟩
theorem d_F_copy_11 : mJ m_F_copy 11 (.ifCond .ne 6) (6) 14 17 := ⟨by decide +kernel, rfl, rfl⟩
theorem d_F_copy_14 : mD m_F_copy 14 (.bipush (-2)) 2 16 := ⟨by decide +kernel, rfl⟩
theorem d_F_copy_16 : mD m_F_copy 16 (.ireturn) 1 17 := ⟨by decide +kernel, rfl⟩
theorem d_F_copy_17 : mD m_F_copy 17 (.aload_n 0) 1 18 := ⟨by decide +kernel, rfl⟩
theorem d_F_copy_18 : mD m_F_copy 18 (.getfield 50) 3 21 := ⟨by decide +kernel, rfl⟩
theorem d_F_copy_21 : mD m_F_copy 21 (.iload_n 1) 1 22 := ⟨by decide +kernel, rfl⟩
theorem d_F_copy_22 : mD m_F_copy 22 (.aaload) 1 23 := ⟨by decide +kernel, rfl⟩
theorem d_F_copy_23 : mD m_F_copy 23 (.astore 6) 2 25 := ⟨by decide +kernel, rfl⟩
theorem d_F_copy_25 : mD m_F_copy 25 (.aload_n 0) 1 26 := ⟨by decide +kernel, rfl⟩
theorem d_F_copy_26 : mD m_F_copy 26 (.getfield 50) 3 29 := ⟨by decide +kernel, rfl⟩
theorem d_F_copy_29 : mD m_F_copy 29 (.iload_n 3) 1 30 := ⟨by decide +kernel, rfl⟩
theorem d_F_copy_30 : mD m_F_copy 30 (.aaload) 1 31 := ⟨by decide +kernel, rfl⟩
theorem d_F_copy_31 : mD m_F_copy 31 (.astore 7) 2 33 := ⟨by decide +kernel, rfl⟩
theorem d_F_copy_33 : mD m_F_copy 33 (.aload 6) 2 35 := ⟨by decide +kernel, rfl⟩
theorem d_F_copy_35 : mD m_F_copy 35 (.invokevirtual 118) 3 38 := ⟨by decide +kernel, rfl⟩
theorem d_F_copy_38 : mJ m_F_copy 38 (.ifCond .ne 11) (11) 41 49 := ⟨by decide +kernel, rfl, rfl⟩
theorem d_F_copy_41 : mD m_F_copy 41 (.aload 7) 2 43 := ⟨by decide +kernel, rfl⟩
theorem d_F_copy_43 : mD m_F_copy 43 (.invokevirtual 118) 3 46 := ⟨by decide +kernel, rfl⟩
theorem d_F_copy_46 : mJ m_F_copy 46 (.ifCond .eq 9) (9) 49 55 := ⟨by decide +kernel, rfl, rfl⟩
theorem d_F_copy_49 : mD m_F_copy 49 (.aload_n 0) 1 50 := ⟨by decide +kernel, rfl⟩
theorem d_F_copy_50 : mD m_F_copy 50 (.iconst 1) 1 51 := ⟨by decide +kernel, rfl⟩
theorem d_F_copy_51 : mD m_F_copy 51 (.invokevirtual 121) 3 54 := ⟨by decide +kernel, rfl⟩
theorem d_F_copy_54 : mD m_F_copy 54 (.ireturn) 1 55 := ⟨by decide +kernel, rfl⟩
theorem d_F_copy_55 : mD m_F_copy 55 (.aload 6) 2 57 := ⟨by decide +kernel, rfl⟩
theorem d_F_copy_57 : mD m_F_copy 57 (.getfield 267) 3 60 := ⟨by decide +kernel, rfl⟩
theorem d_F_copy_60 : mD m_F_copy 60 (.aload 7) 2 62 := ⟨by decide +kernel, rfl⟩
theorem d_F_copy_62 : mD m_F_copy 62 (.getfield 267) 3 65 := ⟨by decide +kernel, rfl⟩
theorem d_F_copy_65 : mJ m_F_copy 65 (.if_icmp .eq 9) (9) 68 74 := ⟨by decide +kernel, rfl, rfl⟩
theorem d_F_copy_68 : mD m_F_copy 68 (.aload_n 0) 1 69 := ⟨by decide +kernel, rfl⟩
theorem d_F_copy_69 : mD m_F_copy 69 (.iconst 4) 1 70 := ⟨by decide +kernel, rfl⟩
theorem d_F_copy_70 : mD m_F_copy 70 (.invokevirtual 121) 3 73 := ⟨by decide +kernel, rfl⟩
theorem d_F_copy_73 : mD m_F_copy 73 (.ireturn) 1 74 := ⟨by decide +kernel, rfl⟩
theorem d_F_copy_74 : mD m_F_copy 74 (.aload 6) 2 76 := ⟨by decide +kernel, rfl⟩
theorem d_F_copy_76 : mD m_F_copy 76 (.iload_n 2) 1 77 := ⟨by decide +kernel, rfl⟩
theorem d_F_copy_77 : mD m_F_copy 77 (.iload 5) 2 79 := ⟨by decide +kernel, rfl⟩
theorem d_F_copy_79 : mD m_F_copy 79 (.invokevirtual 270) 3 82 := ⟨by decide +kernel, rfl⟩
theorem d_F_copy_82 : mJ m_F_copy 82 (.ifCond .eq 15) (15) 85 97 := ⟨by decide +kernel, rfl, rfl⟩
theorem d_F_copy_85 : mD m_F_copy 85 (.aload 7) 2 87 := ⟨by decide +kernel, rfl⟩
theorem d_F_copy_87 : mD m_F_copy 87 (.iload 4) 2 89 := ⟨by decide +kernel, rfl⟩
theorem d_F_copy_89 : mD m_F_copy 89 (.iload 5) 2 91 := ⟨by decide +kernel, rfl⟩
theorem d_F_copy_91 : mD m_F_copy 91 (.invokevirtual 270) 3 94 := ⟨by decide +kernel, rfl⟩
theorem d_F_copy_94 : mJ m_F_copy 94 (.ifCond .ne 9) (9) 97 103 := ⟨by decide +kernel, rfl, rfl⟩
theorem d_F_copy_97 : mD m_F_copy 97 (.aload_n 0) 1 98 := ⟨by decide +kernel, rfl⟩
theorem d_F_copy_98 : mD m_F_copy 98 (.iconst 2) 1 99 := ⟨by decide +kernel, rfl⟩
theorem d_F_copy_99 : mD m_F_copy 99 (.invokevirtual 121) 3 102 := ⟨by decide +kernel, rfl⟩
theorem d_F_copy_102 : mD m_F_copy 102 (.ireturn) 1 103 := ⟨by decide +kernel, rfl⟩
theorem d_F_copy_103 : mD m_F_copy 103 (.aload 6) 2 105 := ⟨by decide +kernel, rfl⟩
theorem d_F_copy_105 : mD m_F_copy 105 (.getfield 273) 3 108 := ⟨by decide +kernel, rfl⟩
theorem d_F_copy_108 : mD m_F_copy 108 (.iload_n 2) 1 109 := ⟨by decide +kernel, rfl⟩
theorem d_F_copy_109 : mD m_F_copy 109 (.aload 7) 2 111 := ⟨by decide +kernel, rfl⟩
theorem d_F_copy_111 : mD m_F_copy 111 (.getfield 273) 3 114 := ⟨by decide +kernel, rfl⟩
theorem d_F_copy_114 : mD m_F_copy 114 (.iload 4) 2 116 := ⟨by decide +kernel, rfl⟩
theorem d_F_copy_116 : mD m_F_copy 116 (.iload 5) 2 118 := ⟨by decide +kernel, rfl⟩
theorem d_F_copy_118 : mD m_F_copy 118 (.invokestatic 276) 3 121 := ⟨by decide +kernel, rfl⟩
theorem d_F_copy_121 : mD m_F_copy 121 (.iconst 1) 1 122 := ⟨by decide +kernel, rfl⟩
theorem d_F_copy_122 : mD m_F_copy 122 (.ireturn) 1 123 := ⟨by decide +kernel, rfl⟩
theorem d_F_costOfBoats_0 : mD m_F_costOfBoats 0 (.iconst 0) 1 1 := ⟨by decide +kernel, rfl⟩
theorem d_F_costOfBoats_1 : mD m_F_costOfBoats 1 (.istore_n 1) 1 2 := ⟨by decide +kernel, rfl⟩
theorem d_F_costOfBoats_2 : mD m_F_costOfBoats 2 (.iconst 0) 1 3 := ⟨by decide +kernel, rfl⟩
theorem d_F_costOfBoats_3 : mD m_F_costOfBoats 3 (.istore_n 2) 1 4 := ⟨by decide +kernel, rfl⟩
theorem d_F_costOfBoats_4 : mD m_F_costOfBoats 4 (.iload_n 2) 1 5 := ⟨by decide +kernel, rfl⟩
theorem d_F_costOfBoats_5 : mD m_F_costOfBoats 5 (.bipush 10) 2 7 := ⟨by decide +kernel, rfl⟩
theorem d_F_costOfBoats_7 : mJ m_F_costOfBoats 7 (.if_icmp .ge 25) (25) 10 32 := ⟨by decide +kernel, rfl, rfl⟩
theorem d_F_costOfBoats_10 : mD m_F_costOfBoats 10 (.iload_n 1) 1 11 := ⟨by decide +kernel, rfl⟩
theorem d_F_costOfBoats_11 : mD m_F_costOfBoats 11 (.aload_n 0) 1 12 := ⟨by decide +kernel, rfl⟩
theorem d_F_costOfBoats_12 : mD m_F_costOfBoats 12 (.getfield 28) 3 15 := ⟨by decide +kernel, rfl⟩
theorem d_F_costOfBoats_15 : mD m_F_costOfBoats 15 (.aload_n 0) 1 16 := ⟨by decide +kernel, rfl⟩
theorem d_F_costOfBoats_16 : mD m_F_costOfBoats 16 (.getfield 55) 3 19 := ⟨by decide +kernel, rfl⟩
theorem d_F_costOfBoats_19 : mD m_F_costOfBoats 19 (.iload_n 2) 1 20 := ⟨by decide +kernel, rfl⟩
theorem d_F_costOfBoats_20 : mD m_F_costOfBoats 20 (.iaload) 1 21 := ⟨by decide +kernel, rfl⟩
theorem d_F_costOfBoats_21 : mD m_F_costOfBoats 21 (.invokevirtual 156) 3 24 := ⟨by decide +kernel, rfl⟩
theorem d_F_costOfBoats_24 : mD m_F_costOfBoats 24 (.iadd) 1 25 := ⟨by decide +kernel, rfl⟩
theorem d_F_costOfBoats_25 : mD m_F_costOfBoats 25 (.istore_n 1) 1 26 := ⟨by decide +kernel, rfl⟩
theorem d_F_costOfBoats_26 : mD m_F_costOfBoats 26 (.iinc 2 1) 3 29 := ⟨by decide +kernel, rfl⟩
theorem d_F_costOfBoats_29 : mJ m_F_costOfBoats 29 (.goto (-25)) (-25) 32 4 := ⟨by decide +kernel, rfl, rfl⟩
theorem d_F_costOfBoats_32 : mD m_F_costOfBoats 32 (.iload_n 1) 1 33 := ⟨by decide +kernel, rfl⟩
theorem d_F_costOfBoats_33 : mD m_F_costOfBoats 33 (.ireturn) 1 34 := ⟨by decide +kernel, rfl⟩
theorem d_F_costs_0 : mD m_F_costs 0 (.aload_n 0) 1 1 := ⟨by decide +kernel, rfl⟩
theorem d_F_costs_1 : mD m_F_costs 1 (.iload_n 1) 1 2 := ⟨by decide +kernel, rfl⟩
theorem d_F_costs_2 : mD m_F_costs 2 (.invokevirtual 183) 3 5 := ⟨by decide +kernel, rfl⟩
theorem d_F_costs_5 : mD m_F_costs 5 (.istore_n 2) 1 6 := ⟨by decide +kernel, rfl⟩
theorem d_F_costs_6 : mD m_F_costs 6 (.iload_n 2) 1 7 := ⟨by decide +kernel, rfl⟩
theorem d_F_costs_7 : mJ m_F_costs 7 (.ifCond .eq 5) (5) 10 12 := ⟨by decide +kernel, rfl, rfl⟩
theorem d_F_costs_10 : mD m_F_costs 10 (.iload_n 2) 1 11 := ⟨by decide +kernel, rfl⟩
theorem d_F_costs_11 : mD m_F_costs 11 (.ireturn) 1 12 := ⟨by decide +kernel, rfl⟩
theorem d_F_costs_12 : mD m_F_costs 12 (.aload_n 0) 1 13 := ⟨by decide +kernel, rfl⟩
theorem d_F_costs_13 : mD m_F_costs 13 (.getfield 50) 3 16 := ⟨by decide +kernel, rfl⟩
theorem d_F_costs_16 : mD m_F_costs 16 (.iload_n 1) 1 17 := ⟨by decide +kernel, rfl⟩
theorem d_F_costs_17 : mD m_F_costs 17 (.aaload) 1 18 := ⟨by decide +kernel, rfl⟩
theorem d_F_costs_18 : mD m_F_costs 18 (.astore_n 3) 1 19 := ⟨by decide +kernel, rfl⟩
theorem d_F_costs_19 : mD m_F_costs 19 (.aload_n 0) 1 20 := ⟨by decide +kernel, rfl⟩
theorem d_F_costs_20 : mD m_F_costs 20 (.aload_n 3) 1 21 := ⟨by decide +kernel, rfl⟩
theorem d_F_costs_21 : mD m_F_costs 21 (.invokevirtual 186) 3 24 := ⟨by decide +kernel, rfl⟩
theorem d_F_costs_24 : mD m_F_costs 24 (.iconst (-1)) 1 25 := ⟨by decide +kernel, rfl⟩
theorem d_F_costs_25 : mJ m_F_costs 25 (.if_icmp .eq 6) (6) 28 31 := ⟨by decide +kernel, rfl, rfl⟩
theorem d_F_costs_28 : mD m_F_costs 28 (.bipush (-3)) 2 30 := ⟨by decide +kernel, rfl⟩
theorem d_F_costs_30 : mD m_F_costs 30 (.ireturn) 1 31 := ⟨by decide +kernel, rfl⟩
theorem d_F_costs_31 : mD m_F_costs 31 (.iconst 0) 1 32 := ⟨by decide +kernel, rfl⟩
theorem d_F_costs_32 : mD m_F_costs 32 (.istore 4) 2 34 := ⟨by decide +kernel, rfl⟩
theorem d_F_costs_34 : mD m_F_costs 34 (.iload 4) 2 36 := ⟨by decide +kernel, rfl⟩
theorem d_F_costs_36 : mD m_F_costs 36 (.bipush 10) 2 38 := ⟨by decide +kernel, rfl⟩
theorem d_F_costs_38 : mJ m_F_costs 38 (.if_icmp .ge 23) (23) 41 61 := ⟨by decide +kernel, rfl, rfl⟩
theorem d_F_costs_41 : mD m_F_costs 41 (.aload_n 0) 1 42 := ⟨by decide +kernel, rfl⟩
theorem d_F_costs_42 : mD m_F_costs 42 (.getfield 55) 3 45 := ⟨by decide +kernel, rfl⟩
theorem d_F_costs_45 : mD m_F_costs 45 (.iload 4) 2 47 := ⟨by decide +kernel, rfl⟩
theorem d_F_costs_47 : mD m_F_costs 47 (.aload_n 0) 1 48 := ⟨by decide +kernel, rfl⟩
theorem d_F_costs_48 : mD m_F_costs 48 (.aload_n 3) 1 49 := ⟨by decide +kernel, rfl⟩
theorem d_F_costs_49 : mD m_F_costs 49 (.iload 4) 2 51 := ⟨by decide +kernel, rfl⟩
theorem d_F_costs_51 : mD m_F_costs 51 (.invokevirtual 190) 3 54 := ⟨by decide +kernel, rfl⟩
theorem d_F_costs_54 : mD m_F_costs 54 (.iastore) 1 55 := ⟨by decide +kernel, rfl⟩
theorem d_F_costs_55 : mD m_F_costs 55 (.iinc 4 1) 3 58 := ⟨by decide +kernel, rfl⟩
theorem d_F_costs_58 : mJ m_F_costs 58 (.goto (-24)) (-24) 61 34 := ⟨by decide +kernel, rfl, rfl⟩
theorem d_F_costs_61 : mD m_F_costs 61 (.aload_n 0) 1 62 := ⟨by decide +kernel, rfl⟩
theorem d_F_costs_62 : mD m_F_costs 62 (.invokevirtual 194) 3 65 := ⟨by decide +kernel, rfl⟩
theorem d_F_costs_65 : mD m_F_costs 65 (.ireturn) 1 66 := ⟨by decide +kernel, rfl⟩
theorem d_F_count_0 : mD m_F_count 0 (.iload_n 1) 1 1 := ⟨by decide +kernel, rfl⟩
theorem d_F_count_1 : mD m_F_count 1 (.tableswitch 136 0 8 #[51, 59, 67, 75, 83, 98, 113, 121, 131]) 51 52 := ⟨by decide +kernel, rfl⟩
theorem d_F_count_52 : mD m_F_count 52 (.aload_n 0) 1 53 := ⟨by decide +kernel, rfl⟩
theorem d_F_count_53 : mD m_F_count 53 (.getfield 10) 3 56 := ⟨by decide +kernel, rfl⟩
theorem d_F_count_56 : mD m_F_count 56 (.getfield 177) 3 59 := ⟨by decide +kernel, rfl⟩
theorem d_F_count_59 : mD m_F_count 59 (.ireturn) 1 60 := ⟨by decide +kernel, rfl⟩
theorem d_F_count_60 : mD m_F_count 60 (.aload_n 0) 1 61 := ⟨by decide +kernel, rfl⟩
theorem d_F_count_61 : mD m_F_count 61 (.getfield 10) 3 64 := ⟨by decide +kernel, rfl⟩
theorem d_F_count_64 : mD m_F_count 64 (.getfield 286) 3 67 := ⟨by decide +kernel, rfl⟩
theorem d_F_count_67 : mD m_F_count 67 (.ireturn) 1 68 := ⟨by decide +kernel, rfl⟩
theorem d_F_count_68 : mD m_F_count 68 (.aload_n 0) 1 69 := ⟨by decide +kernel, rfl⟩
theorem d_F_count_69 : mD m_F_count 69 (.getfield 10) 3 72 := ⟨by decide +kernel, rfl⟩
theorem d_F_count_72 : mD m_F_count 72 (.invokevirtual 287) 3 75 := ⟨by decide +kernel, rfl⟩
theorem d_F_count_75 : mD m_F_count 75 (.ireturn) 1 76 := ⟨by decide +kernel, rfl⟩
theorem d_F_count_76 : mD m_F_count 76 (.aload_n 0) 1 77 := ⟨by decide +kernel, rfl⟩
theorem d_F_count_77 : mD m_F_count 77 (.getfield 10) 3 80 := ⟨by decide +kernel, rfl⟩
theorem d_F_count_80 : mD m_F_count 80 (.invokevirtual 290) 3 83 := ⟨by decide +kernel, rfl⟩
theorem d_F_count_83 : mD m_F_count 83 (.ireturn) 1 84 := ⟨by decide +kernel, rfl⟩
theorem d_F_count_84 : mD m_F_count 84 (.aload_n 0) 1 85 := ⟨by decide +kernel, rfl⟩
theorem d_F_count_85 : mD m_F_count 85 (.getfield 19) 3 88 := ⟨by decide +kernel, rfl⟩
theorem d_F_count_88 : mD m_F_count 88 (.aload_n 0) 1 89 := ⟨by decide +kernel, rfl⟩
theorem d_F_count_89 : mD m_F_count 89 (.getfield 19) 3 92 := ⟨by decide +kernel, rfl⟩
theorem d_F_count_92 : mD m_F_count 92 (.getfield 143) 3 95 := ⟨by decide +kernel, rfl⟩
theorem d_F_count_95 : mD m_F_count 95 (.invokevirtual 293) 3 98 := ⟨by decide +kernel, rfl⟩
theorem d_F_count_98 : mD m_F_count 98 (.ireturn) 1 99 := ⟨by decide +kernel, rfl⟩
theorem d_F_count_99 : mD m_F_count 99 (.aload_n 0) 1 100 := ⟨by decide +kernel, rfl⟩
theorem d_F_count_100 : mD m_F_count 100 (.getfield 19) 3 103 := ⟨by decide +kernel, rfl⟩
theorem d_F_count_103 : mD m_F_count 103 (.aload_n 0) 1 104 := ⟨by decide +kernel, rfl⟩
theorem d_F_count_104 : mD m_F_count 104 (.getfield 19) 3 107 := ⟨by decide +kernel, rfl⟩
theorem d_F_count_107 : mD m_F_count 107 (.getfield 146) 3 110 := ⟨by decide +kernel, rfl⟩
theorem d_F_count_110 : mD m_F_count 110 (.invokevirtual 293) 3 113 := ⟨by decide +kernel, rfl⟩
theorem d_F_count_113 : mD m_F_count 113 (.ireturn) 1 114 := ⟨by decide +kernel, rfl⟩
theorem d_F_count_114 : mD m_F_count 114 (.aload_n 0) 1 115 := ⟨by decide +kernel, rfl⟩
theorem d_F_count_115 : mD m_F_count 115 (.getfield 44) 3 118 := ⟨by decide +kernel, rfl⟩
theorem d_F_count_118 : mD m_F_count 118 (.getfield 297) 3 121 := ⟨by decide +kernel, rfl⟩
theorem d_F_count_121 : mD m_F_count 121 (.ireturn) 1 122 := ⟨by decide +kernel, rfl⟩
theorem d_F_count_122 : mD m_F_count 122 (.aload_n 0) 1 123 := ⟨by decide +kernel, rfl⟩
theorem d_F_count_123 : mD m_F_count 123 (.getfield 19) 3 126 := ⟨by decide +kernel, rfl⟩
theorem d_F_count_126 : mD m_F_count 126 (.getfield 140) 3 129 := ⟨by decide +kernel, rfl⟩
theorem d_F_count_129 : mD m_F_count 129 (.iconst 0) 1 130 := ⟨by decide +kernel, rfl⟩
theorem d_F_count_130 : mD m_F_count 130 (.iaload) 1 131 := ⟨by decide +kernel, rfl⟩
theorem d_F_count_131 : mD m_F_count 131 (.ireturn) 1 132 := ⟨by decide +kernel, rfl⟩
theorem d_F_count_132 : mD m_F_count 132 (.aload_n 0) 1 133 := ⟨by decide +kernel, rfl⟩
theorem d_F_count_133 : mD m_F_count 133 (.getfield 264) 3 136 := ⟨by decide +kernel, rfl⟩
theorem d_F_count_136 : mD m_F_count 136 (.ireturn) 1 137 := ⟨by decide +kernel, rfl⟩
theorem d_F_count_137 : mD m_F_count 137 (.bipush (-2)) 2 139 := ⟨by decide +kernel, rfl⟩
theorem d_F_count_139 : mD m_F_count 139 (.ireturn) 1 140 := ⟨by decide +kernel, rfl⟩
theorem d_F_crewOf_0 : mD m_F_crewOf 0 (.iconst 0) 1 1 := ⟨by decide +kernel, rfl⟩
theorem d_F_crewOf_1 : mD m_F_crewOf 1 (.istore_n 3) 1 2 := ⟨by decide +kernel, rfl⟩
theorem d_F_crewOf_2 : mD m_F_crewOf 2 (.iconst 0) 1 3 := ⟨by decide +kernel, rfl⟩
theorem d_F_crewOf_3 : mD m_F_crewOf 3 (.istore 4) 2 5 := ⟨by decide +kernel, rfl⟩
theorem d_F_crewOf_5 : mD m_F_crewOf 5 (.iload 4) 2 7 := ⟨by decide +kernel, rfl⟩
theorem d_F_crewOf_7 : mD m_F_crewOf 7 (.aload_n 0) 1 8 := ⟨by decide +kernel, rfl⟩
theorem d_F_crewOf_8 : mD m_F_crewOf 8 (.getfield 10) 3 11 := ⟨by decide +kernel, rfl⟩
theorem d_F_crewOf_11 : mD m_F_crewOf 11 (.getfield 177) 3 14 := ⟨by decide +kernel, rfl⟩
theorem d_F_crewOf_14 : mJ m_F_crewOf 14 (.if_icmp .ge 26) (26) 17 40 := ⟨by decide +kernel, rfl, rfl⟩
theorem d_F_crewOf_17 : mD m_F_crewOf 17 (.aload_n 1) 1 18 := ⟨by decide +kernel, rfl⟩
theorem d_F_crewOf_18 : mD m_F_crewOf 18 (.iload 4) 2 20 := ⟨by decide +kernel, rfl⟩
theorem d_F_crewOf_20 : mD m_F_crewOf 20 (.invokevirtual 133) 3 23 := ⟨by decide +kernel, rfl⟩
theorem d_F_crewOf_23 : mD m_F_crewOf 23 (.iload_n 2) 1 24 := ⟨by decide +kernel, rfl⟩
theorem d_F_crewOf_24 : mJ m_F_crewOf 24 (.if_icmp .ne 10) (10) 27 34 := ⟨by decide +kernel, rfl, rfl⟩
theorem d_F_crewOf_27 : mD m_F_crewOf 27 (.iload_n 3) 1 28 := ⟨by decide +kernel, rfl⟩
theorem d_F_crewOf_28 : mD m_F_crewOf 28 (.iconst 1) 1 29 := ⟨by decide +kernel, rfl⟩
theorem d_F_crewOf_29 : mD m_F_crewOf 29 (.iload 4) 2 31 := ⟨by decide +kernel, rfl⟩
theorem d_F_crewOf_31 : mD m_F_crewOf 31 (.ishl) 1 32 := ⟨by decide +kernel, rfl⟩
theorem d_F_crewOf_32 : mD m_F_crewOf 32 (.ior) 1 33 := ⟨by decide +kernel, rfl⟩
theorem d_F_crewOf_33 : mD m_F_crewOf 33 (.istore_n 3) 1 34 := ⟨by decide +kernel, rfl⟩
theorem d_F_crewOf_34 : mD m_F_crewOf 34 (.iinc 4 1) 3 37 := ⟨by decide +kernel, rfl⟩
theorem d_F_crewOf_37 : mJ m_F_crewOf 37 (.goto (-32)) (-32) 40 5 := ⟨by decide +kernel, rfl, rfl⟩
theorem d_F_crewOf_40 : mD m_F_crewOf 40 (.iload_n 3) 1 41 := ⟨by decide +kernel, rfl⟩
theorem d_F_crewOf_41 : mD m_F_crewOf 41 (.ireturn) 1 42 := ⟨by decide +kernel, rfl⟩
theorem d_F_day_0 : mD m_F_day 0 (.aload_n 0) 1 1 := ⟨by decide +kernel, rfl⟩
theorem d_F_day_1 : mD m_F_day 1 (.iload_n 1) 1 2 := ⟨by decide +kernel, rfl⟩
theorem d_F_day_2 : mD m_F_day 2 (.invokevirtual 153) 3 5 := ⟨by decide +kernel, rfl⟩
theorem d_F_day_5 : mJ m_F_day 5 (.ifCond .eq 12) (12) 8 17 := ⟨by decide +kernel, rfl, rfl⟩
theorem d_F_day_8 : mD m_F_day 8 (.iload_n 2) 1 9 := ⟨by decide +kernel, rfl⟩
theorem d_F_day_9 : mD m_F_day 9 (.iconst 0) 1 10 := ⟨by decide +kernel, rfl⟩
theorem d_F_day_10 : mD m_F_day 10 (.iconst 2) 1 11 := ⟨by decide +kernel, rfl⟩
theorem d_F_day_11 : mD m_F_day 11 (.invokestatic 59) 3 14 := ⟨by decide +kernel, rfl⟩
theorem d_F_day_14 : mJ m_F_day 14 (.ifCond .ne 6) (6) 17 20 := ⟨by decide +kernel, rfl, rfl⟩
theorem d_F_day_17 : mD m_F_day 17 (.bipush (-2)) 2 19 := ⟨by decide +kernel, rfl⟩
theorem d_F_day_19 : mD m_F_day 19 (.ireturn) 1 20 := ⟨by decide +kernel, rfl⟩
theorem d_F_day_20 : mD m_F_day 20 (.aload_n 0) 1 21 := ⟨by decide +kernel, rfl⟩
theorem d_F_day_21 : mD m_F_day 21 (.getfield 28) 3 24 := ⟨by decide +kernel, rfl⟩
theorem d_F_day_24 : mD m_F_day 24 (.invokevirtual 162) 3 27 := ⟨by decide +kernel, rfl⟩
theorem d_F_day_27 : mD m_F_day 27 (.iload_n 2) 1 28 := ⟨by decide +kernel, rfl⟩
theorem d_F_day_28 : mJ m_F_day 28 (.ifCond .ne 12) (12) 31 40 := ⟨by decide +kernel, rfl, rfl⟩
theorem d_F_day_31 : mD m_F_day 31 (.aload_n 0) 1 32 := ⟨by decide +kernel, rfl⟩
theorem d_F_day_32 : mD m_F_day 32 (.getfield 28) 3 35 := ⟨by decide +kernel, rfl⟩
theorem d_F_day_35 : mD m_F_day 35 (.iload_n 1) 1 36 := ⟨by decide +kernel, rfl⟩
theorem d_F_day_36 : mD m_F_day 36 (.invokevirtual 165) 3 39 := ⟨by decide +kernel, rfl⟩
theorem d_F_day_39 : mD m_F_day 39 (.ireturn) 1 40 := ⟨by decide +kernel, rfl⟩
theorem d_F_day_40 : mD m_F_day 40 (.iload_n 2) 1 41 := ⟨by decide +kernel, rfl⟩
theorem d_F_day_41 : mD m_F_day 41 (.iconst 1) 1 42 := ⟨by decide +kernel, rfl⟩
theorem d_F_day_42 : mJ m_F_day 42 (.if_icmp .ne 14) (14) 45 56 := ⟨by decide +kernel, rfl, rfl⟩
theorem d_F_day_45 : mD m_F_day 45 (.aload_n 0) 1 46 := ⟨by decide +kernel, rfl⟩
theorem d_F_day_46 : mD m_F_day 46 (.getfield 28) 3 49 := ⟨by decide +kernel, rfl⟩
theorem d_F_day_49 : mD m_F_day 49 (.iload_n 1) 1 50 := ⟨by decide +kernel, rfl⟩
theorem d_F_day_50 : mD m_F_day 50 (.invokevirtual 168) 3 53 := ⟨by decide +kernel, rfl⟩
theorem d_F_day_53 : mJ m_F_day 53 (.goto 11) (11) 56 64 := ⟨by decide +kernel, rfl, rfl⟩
theorem d_F_day_56 : mD m_F_day 56 (.aload_n 0) 1 57 := ⟨by decide +kernel, rfl⟩
theorem d_F_day_57 : mD m_F_day 57 (.getfield 28) 3 60 := ⟨by decide +kernel, rfl⟩
theorem d_F_day_60 : mD m_F_day 60 (.iload_n 1) 1 61 := ⟨by decide +kernel, rfl⟩
theorem d_F_day_61 : mD m_F_day 61 (.invokevirtual 171) 3 64 := ⟨by decide +kernel, rfl⟩
theorem d_F_day_64 : mD m_F_day 64 (.ireturn) 1 65 := ⟨by decide +kernel, rfl⟩
theorem d_F_digest_0 : mD m_F_digest 0 (.ldc2_w 298) 3 3 := ⟨by decide +kernel, rfl⟩
theorem d_F_digest_3 : mD m_F_digest 3 (.lstore_n 1) 1 4 := ⟨by decide +kernel, rfl⟩
theorem d_F_digest_4 : mD m_F_digest 4 (.iconst 0) 1 5 := ⟨by decide +kernel, rfl⟩
theorem d_F_digest_5 : mD m_F_digest 5 (.istore_n 3) 1 6 := ⟨by decide +kernel, rfl⟩
theorem d_F_digest_6 : mD m_F_digest 6 (.iload_n 3) 1 7 := ⟨by decide +kernel, rfl⟩
theorem d_F_digest_7 : mD m_F_digest 7 (.bipush 7) 2 9 := ⟨by decide +kernel, rfl⟩
theorem d_F_digest_9 : mJ m_F_digest 9 (.if_icmp .gt 22) (22) 12 31 := ⟨by decide +kernel, rfl, rfl⟩
theorem d_F_digest_12 : mD m_F_digest 12 (.ldc2_w 300) 3 15 := ⟨by decide +kernel, rfl⟩
theorem d_F_digest_15 : mD m_F_digest 15 (.lload_n 1) 1 16 := ⟨by decide +kernel, rfl⟩
theorem d_F_digest_16 : mD m_F_digest 16 (.lmul) 1 17 := ⟨by decide +kernel, rfl⟩
theorem d_F_digest_17 : mD m_F_digest 17 (.aload_n 0) 1 18 := ⟨by decide +kernel, rfl⟩
theorem d_F_digest_18 : mD m_F_digest 18 (.iload_n 3) 1 19 := ⟨by decide +kernel, rfl⟩
theorem d_F_digest_19 : mD m_F_digest 19 (.invokevirtual 302) 3 22 := ⟨by decide +kernel, rfl⟩
theorem d_F_digest_22 : mD m_F_digest 22 (.i2l) 1 23 := ⟨by decide +kernel, rfl⟩
theorem d_F_digest_23 : mD m_F_digest 23 (.ladd) 1 24 := ⟨by decide +kernel, rfl⟩
theorem d_F_digest_24 : mD m_F_digest 24 (.lstore_n 1) 1 25 := ⟨by decide +kernel, rfl⟩
theorem d_F_digest_25 : mD m_F_digest 25 (.iinc 3 1) 3 28 := ⟨by decide +kernel, rfl⟩
theorem d_F_digest_28 : mJ m_F_digest 28 (.goto (-22)) (-22) 31 6 := ⟨by decide +kernel, rfl, rfl⟩
theorem d_F_digest_31 : mD m_F_digest 31 (.ldc2_w 300) 3 34 := ⟨by decide +kernel, rfl⟩
theorem d_F_digest_34 : mD m_F_digest 34 (.lload_n 1) 1 35 := ⟨by decide +kernel, rfl⟩
theorem d_F_digest_35 : mD m_F_digest 35 (.lmul) 1 36 := ⟨by decide +kernel, rfl⟩
theorem d_F_digest_36 : mD m_F_digest 36 (.aload_n 0) 1 37 := ⟨by decide +kernel, rfl⟩
theorem d_F_digest_37 : mD m_F_digest 37 (.invokevirtual 305) 3 40 := ⟨by decide +kernel, rfl⟩
theorem d_F_digest_40 : mD m_F_digest 40 (.i2l) 1 41 := ⟨by decide +kernel, rfl⟩
theorem d_F_digest_41 : mD m_F_digest 41 (.ladd) 1 42 := ⟨by decide +kernel, rfl⟩
theorem d_F_digest_42 : mD m_F_digest 42 (.lstore_n 1) 1 43 := ⟨by decide +kernel, rfl⟩
theorem d_F_digest_43 : mD m_F_digest 43 (.iconst 0) 1 44 := ⟨by decide +kernel, rfl⟩
theorem d_F_digest_44 : mD m_F_digest 44 (.istore_n 3) 1 45 := ⟨by decide +kernel, rfl⟩
theorem d_F_digest_45 : mD m_F_digest 45 (.iload_n 3) 1 46 := ⟨by decide +kernel, rfl⟩
theorem d_F_digest_46 : mD m_F_digest 46 (.aload_n 0) 1 47 := ⟨by decide +kernel, rfl⟩
theorem d_F_digest_47 : mD m_F_digest 47 (.getfield 10) 3 50 := ⟨by decide +kernel, rfl⟩
theorem d_F_digest_50 : mD m_F_digest 50 (.getfield 177) 3 53 := ⟨by decide +kernel, rfl⟩
theorem d_F_digest_53 : mJ m_F_digest 53 (.if_icmp .ge 146) (146) 56 199 := ⟨by decide +kernel, rfl, rfl⟩
theorem d_F_digest_56 : mD m_F_digest 56 (.ldc2_w 300) 3 59 := ⟨by decide +kernel, rfl⟩
theorem d_F_digest_59 : mD m_F_digest 59 (.lload_n 1) 1 60 := ⟨by decide +kernel, rfl⟩
theorem d_F_digest_60 : mD m_F_digest 60 (.lmul) 1 61 := ⟨by decide +kernel, rfl⟩
theorem d_F_digest_61 : mD m_F_digest 61 (.aload_n 0) 1 62 := ⟨by decide +kernel, rfl⟩
theorem d_F_digest_62 : mD m_F_digest 62 (.iload_n 3) 1 63 := ⟨by decide +kernel, rfl⟩
theorem d_F_digest_63 : mD m_F_digest 63 (.iconst 0) 1 64 := ⟨by decide +kernel, rfl⟩
theorem d_F_digest_64 : mD m_F_digest 64 (.invokevirtual 307) 3 67 := ⟨by decide +kernel, rfl⟩
theorem d_F_digest_67 : mD m_F_digest 67 (.i2l) 1 68 := ⟨by decide +kernel, rfl⟩
theorem d_F_digest_68 : mD m_F_digest 68 (.ladd) 1 69 := ⟨by decide +kernel, rfl⟩
theorem d_F_digest_69 : mD m_F_digest 69 (.lstore_n 1) 1 70 := ⟨by decide +kernel, rfl⟩
theorem d_F_digest_70 : mD m_F_digest 70 (.ldc2_w 300) 3 73 := ⟨by decide +kernel, rfl⟩
theorem d_F_digest_73 : mD m_F_digest 73 (.lload_n 1) 1 74 := ⟨by decide +kernel, rfl⟩
theorem d_F_digest_74 : mD m_F_digest 74 (.lmul) 1 75 := ⟨by decide +kernel, rfl⟩
theorem d_F_digest_75 : mD m_F_digest 75 (.aload_n 0) 1 76 := ⟨by decide +kernel, rfl⟩
theorem d_F_digest_76 : mD m_F_digest 76 (.iload_n 3) 1 77 := ⟨by decide +kernel, rfl⟩
theorem d_F_digest_77 : mD m_F_digest 77 (.iconst 1) 1 78 := ⟨by decide +kernel, rfl⟩
theorem d_F_digest_78 : mD m_F_digest 78 (.invokevirtual 307) 3 81 := ⟨by decide +kernel, rfl⟩
theorem d_F_digest_81 : mD m_F_digest 81 (.i2l) 1 82 := ⟨by decide +kernel, rfl⟩
theorem d_F_digest_82 : mD m_F_digest 82 (.ladd) 1 83 := ⟨by decide +kernel, rfl⟩
theorem d_F_digest_83 : mD m_F_digest 83 (.lstore_n 1) 1 84 := ⟨by decide +kernel, rfl⟩
theorem d_F_digest_84 : mD m_F_digest 84 (.ldc2_w 300) 3 87 := ⟨by decide +kernel, rfl⟩
theorem d_F_digest_87 : mD m_F_digest 87 (.lload_n 1) 1 88 := ⟨by decide +kernel, rfl⟩
theorem d_F_digest_88 : mD m_F_digest 88 (.lmul) 1 89 := ⟨by decide +kernel, rfl⟩
theorem d_F_digest_89 : mD m_F_digest 89 (.aload_n 0) 1 90 := ⟨by decide +kernel, rfl⟩
theorem d_F_digest_90 : mD m_F_digest 90 (.iload_n 3) 1 91 := ⟨by decide +kernel, rfl⟩
theorem d_F_digest_91 : mD m_F_digest 91 (.invokevirtual 310) 3 94 := ⟨by decide +kernel, rfl⟩
theorem d_F_digest_94 : mD m_F_digest 94 (.i2l) 1 95 := ⟨by decide +kernel, rfl⟩
theorem d_F_digest_95 : mD m_F_digest 95 (.ladd) 1 96 := ⟨by decide +kernel, rfl⟩
theorem d_F_digest_96 : mD m_F_digest 96 (.lstore_n 1) 1 97 := ⟨by decide +kernel, rfl⟩
theorem d_F_digest_97 : mD m_F_digest 97 (.ldc2_w 300) 3 100 := ⟨by decide +kernel, rfl⟩
theorem d_F_digest_100 : mD m_F_digest 100 (.lload_n 1) 1 101 := ⟨by decide +kernel, rfl⟩
theorem d_F_digest_101 : mD m_F_digest 101 (.lmul) 1 102 := ⟨by decide +kernel, rfl⟩
theorem d_F_digest_102 : mD m_F_digest 102 (.aload_n 0) 1 103 := ⟨by decide +kernel, rfl⟩
theorem d_F_digest_103 : mD m_F_digest 103 (.iload_n 3) 1 104 := ⟨by decide +kernel, rfl⟩
theorem d_F_digest_104 : mD m_F_digest 104 (.iconst 0) 1 105 := ⟨by decide +kernel, rfl⟩
theorem d_F_digest_105 : mD m_F_digest 105 (.invokevirtual 313) 3 108 := ⟨by decide +kernel, rfl⟩
theorem d_F_digest_108 : mD m_F_digest 108 (.ladd) 1 109 := ⟨by decide +kernel, rfl⟩
theorem d_F_digest_109 : mD m_F_digest 109 (.lstore_n 1) 1 110 := ⟨by decide +kernel, rfl⟩
theorem d_F_digest_110 : mD m_F_digest 110 (.ldc2_w 300) 3 113 := ⟨by decide +kernel, rfl⟩
theorem d_F_digest_113 : mD m_F_digest 113 (.lload_n 1) 1 114 := ⟨by decide +kernel, rfl⟩
theorem d_F_digest_114 : mD m_F_digest 114 (.lmul) 1 115 := ⟨by decide +kernel, rfl⟩
theorem d_F_digest_115 : mD m_F_digest 115 (.aload_n 0) 1 116 := ⟨by decide +kernel, rfl⟩
theorem d_F_digest_116 : mD m_F_digest 116 (.iload_n 3) 1 117 := ⟨by decide +kernel, rfl⟩
theorem d_F_digest_117 : mD m_F_digest 117 (.iconst 1) 1 118 := ⟨by decide +kernel, rfl⟩
theorem d_F_digest_118 : mD m_F_digest 118 (.invokevirtual 313) 3 121 := ⟨by decide +kernel, rfl⟩
theorem d_F_digest_121 : mD m_F_digest 121 (.ladd) 1 122 := ⟨by decide +kernel, rfl⟩
theorem d_F_digest_122 : mD m_F_digest 122 (.lstore_n 1) 1 123 := ⟨by decide +kernel, rfl⟩
theorem d_F_digest_123 : mD m_F_digest 123 (.ldc2_w 300) 3 126 := ⟨by decide +kernel, rfl⟩
theorem d_F_digest_126 : mD m_F_digest 126 (.lload_n 1) 1 127 := ⟨by decide +kernel, rfl⟩
theorem d_F_digest_127 : mD m_F_digest 127 (.lmul) 1 128 := ⟨by decide +kernel, rfl⟩
theorem d_F_digest_128 : mD m_F_digest 128 (.aload_n 0) 1 129 := ⟨by decide +kernel, rfl⟩
theorem d_F_digest_129 : mD m_F_digest 129 (.iload_n 3) 1 130 := ⟨by decide +kernel, rfl⟩
theorem d_F_digest_130 : mD m_F_digest 130 (.iconst 0) 1 131 := ⟨by decide +kernel, rfl⟩
theorem d_F_digest_131 : mD m_F_digest 131 (.invokevirtual 317) 3 134 := ⟨by decide +kernel, rfl⟩
theorem d_F_digest_134 : mD m_F_digest 134 (.ladd) 1 135 := ⟨by decide +kernel, rfl⟩
theorem d_F_digest_135 : mD m_F_digest 135 (.lstore_n 1) 1 136 := ⟨by decide +kernel, rfl⟩
theorem d_F_digest_136 : mD m_F_digest 136 (.ldc2_w 300) 3 139 := ⟨by decide +kernel, rfl⟩
theorem d_F_digest_139 : mD m_F_digest 139 (.lload_n 1) 1 140 := ⟨by decide +kernel, rfl⟩
theorem d_F_digest_140 : mD m_F_digest 140 (.lmul) 1 141 := ⟨by decide +kernel, rfl⟩
theorem d_F_digest_141 : mD m_F_digest 141 (.aload_n 0) 1 142 := ⟨by decide +kernel, rfl⟩
theorem d_F_digest_142 : mD m_F_digest 142 (.iload_n 3) 1 143 := ⟨by decide +kernel, rfl⟩
theorem d_F_digest_143 : mD m_F_digest 143 (.iconst 1) 1 144 := ⟨by decide +kernel, rfl⟩
theorem d_F_digest_144 : mD m_F_digest 144 (.invokevirtual 317) 3 147 := ⟨by decide +kernel, rfl⟩
theorem d_F_digest_147 : mD m_F_digest 147 (.ladd) 1 148 := ⟨by decide +kernel, rfl⟩
theorem d_F_digest_148 : mD m_F_digest 148 (.lstore_n 1) 1 149 := ⟨by decide +kernel, rfl⟩
theorem d_F_digest_149 : mD m_F_digest 149 (.ldc2_w 300) 3 152 := ⟨by decide +kernel, rfl⟩
theorem d_F_digest_152 : mD m_F_digest 152 (.lload_n 1) 1 153 := ⟨by decide +kernel, rfl⟩
theorem d_F_digest_153 : mD m_F_digest 153 (.lmul) 1 154 := ⟨by decide +kernel, rfl⟩
theorem d_F_digest_154 : mD m_F_digest 154 (.aload_n 0) 1 155 := ⟨by decide +kernel, rfl⟩
theorem d_F_digest_155 : mD m_F_digest 155 (.iload_n 3) 1 156 := ⟨by decide +kernel, rfl⟩
theorem d_F_digest_156 : mD m_F_digest 156 (.iconst 3) 1 157 := ⟨by decide +kernel, rfl⟩
theorem d_F_digest_157 : mD m_F_digest 157 (.invokevirtual 320) 3 160 := ⟨by decide +kernel, rfl⟩
theorem d_F_digest_160 : mD m_F_digest 160 (.i2l) 1 161 := ⟨by decide +kernel, rfl⟩
theorem d_F_digest_161 : mD m_F_digest 161 (.ladd) 1 162 := ⟨by decide +kernel, rfl⟩
theorem d_F_digest_162 : mD m_F_digest 162 (.lstore_n 1) 1 163 := ⟨by decide +kernel, rfl⟩
theorem d_F_digest_163 : mD m_F_digest 163 (.iconst 0) 1 164 := ⟨by decide +kernel, rfl⟩
theorem d_F_digest_164 : mD m_F_digest 164 (.istore 4) 2 166 := ⟨by decide +kernel, rfl⟩
theorem d_F_digest_166 : mD m_F_digest 166 (.iload 4) 2 168 := ⟨by decide +kernel, rfl⟩
theorem d_F_digest_168 : mD m_F_digest 168 (.iconst 2) 1 169 := ⟨by decide +kernel, rfl⟩
theorem d_F_digest_169 : mJ m_F_digest 169 (.if_icmp .gt 24) (24) 172 193 := ⟨by decide +kernel, rfl, rfl⟩
theorem d_F_digest_172 : mD m_F_digest 172 (.ldc2_w 300) 3 175 := ⟨by decide +kernel, rfl⟩
theorem d_F_digest_175 : mD m_F_digest 175 (.lload_n 1) 1 176 := ⟨by decide +kernel, rfl⟩
theorem d_F_digest_176 : mD m_F_digest 176 (.lmul) 1 177 := ⟨by decide +kernel, rfl⟩
theorem d_F_digest_177 : mD m_F_digest 177 (.aload_n 0) 1 178 := ⟨by decide +kernel, rfl⟩
theorem d_F_digest_178 : mD m_F_digest 178 (.iload_n 3) 1 179 := ⟨by decide +kernel, rfl⟩
theorem d_F_digest_179 : mD m_F_digest 179 (.iload 4) 2 181 := ⟨by decide +kernel, rfl⟩
theorem d_F_digest_181 : mD m_F_digest 181 (.invokevirtual 322) 3 184 := ⟨by decide +kernel, rfl⟩
theorem d_F_digest_184 : mD m_F_digest 184 (.i2l) 1 185 := ⟨by decide +kernel, rfl⟩
theorem d_F_digest_185 : mD m_F_digest 185 (.ladd) 1 186 := ⟨by decide +kernel, rfl⟩
theorem d_F_digest_186 : mD m_F_digest 186 (.lstore_n 1) 1 187 := ⟨by decide +kernel, rfl⟩
theorem d_F_digest_187 : mD m_F_digest 187 (.iinc 4 1) 3 190 := ⟨by decide +kernel, rfl⟩
theorem d_F_digest_190 : mJ m_F_digest 190 (.goto (-24)) (-24) 193 166 := ⟨by decide +kernel, rfl, rfl⟩
theorem d_F_digest_193 : mD m_F_digest 193 (.iinc 3 1) 3 196 := ⟨by decide +kernel, rfl⟩
theorem d_F_digest_196 : mJ m_F_digest 196 (.goto (-151)) (-151) 199 45 := ⟨by decide +kernel, rfl, rfl⟩
theorem d_F_digest_199 : mD m_F_digest 199 (.iconst 0) 1 200 := ⟨by decide +kernel, rfl⟩
theorem d_F_digest_200 : mD m_F_digest 200 (.istore_n 3) 1 201 := ⟨by decide +kernel, rfl⟩
theorem d_F_digest_201 : mD m_F_digest 201 (.iload_n 3) 1 202 := ⟨by decide +kernel, rfl⟩
theorem d_F_digest_202 : mD m_F_digest 202 (.iconst 2) 1 203 := ⟨by decide +kernel, rfl⟩
theorem d_F_digest_203 : mJ m_F_digest 203 (.if_icmp .gt 29) (29) 206 232 := ⟨by decide +kernel, rfl, rfl⟩
theorem d_F_digest_206 : mD m_F_digest 206 (.ldc2_w 300) 3 209 := ⟨by decide +kernel, rfl⟩
theorem d_F_digest_209 : mD m_F_digest 209 (.lload_n 1) 1 210 := ⟨by decide +kernel, rfl⟩
theorem d_F_digest_210 : mD m_F_digest 210 (.lmul) 1 211 := ⟨by decide +kernel, rfl⟩
theorem d_F_digest_211 : mD m_F_digest 211 (.aload_n 0) 1 212 := ⟨by decide +kernel, rfl⟩
theorem d_F_digest_212 : mD m_F_digest 212 (.aload_n 0) 1 213 := ⟨by decide +kernel, rfl⟩
theorem d_F_digest_213 : mD m_F_digest 213 (.getfield 10) 3 216 := ⟨by decide +kernel, rfl⟩
theorem d_F_digest_216 : mD m_F_digest 216 (.invokevirtual 180) 3 219 := ⟨by decide +kernel, rfl⟩
theorem d_F_digest_219 : mD m_F_digest 219 (.iload_n 3) 1 220 := ⟨by decide +kernel, rfl⟩
theorem d_F_digest_220 : mD m_F_digest 220 (.invokevirtual 324) 3 223 := ⟨by decide +kernel, rfl⟩
theorem d_F_digest_223 : mD m_F_digest 223 (.i2l) 1 224 := ⟨by decide +kernel, rfl⟩
theorem d_F_digest_224 : mD m_F_digest 224 (.ladd) 1 225 := ⟨by decide +kernel, rfl⟩
theorem d_F_digest_225 : mD m_F_digest 225 (.lstore_n 1) 1 226 := ⟨by decide +kernel, rfl⟩
theorem d_F_digest_226 : mD m_F_digest 226 (.iinc 3 1) 3 229 := ⟨by decide +kernel, rfl⟩
theorem d_F_digest_229 : mJ m_F_digest 229 (.goto (-28)) (-28) 232 201 := ⟨by decide +kernel, rfl, rfl⟩
theorem d_F_digest_232 : mD m_F_digest 232 (.ldc2_w 300) 3 235 := ⟨by decide +kernel, rfl⟩
theorem d_F_digest_235 : mD m_F_digest 235 (.lload_n 1) 1 236 := ⟨by decide +kernel, rfl⟩
theorem d_F_digest_236 : mD m_F_digest 236 (.lmul) 1 237 := ⟨by decide +kernel, rfl⟩
theorem d_F_digest_237 : mD m_F_digest 237 (.aload_n 0) 1 238 := ⟨by decide +kernel, rfl⟩
theorem d_F_digest_238 : mD m_F_digest 238 (.invokevirtual 327) 3 241 := ⟨by decide +kernel, rfl⟩
theorem d_F_digest_241 : mD m_F_digest 241 (.i2l) 1 242 := ⟨by decide +kernel, rfl⟩
theorem d_F_digest_242 : mD m_F_digest 242 (.ladd) 1 243 := ⟨by decide +kernel, rfl⟩
theorem d_F_digest_243 : mD m_F_digest 243 (.lstore_n 1) 1 244 := ⟨by decide +kernel, rfl⟩
theorem d_F_digest_244 : mD m_F_digest 244 (.ldc2_w 300) 3 247 := ⟨by decide +kernel, rfl⟩
theorem d_F_digest_247 : mD m_F_digest 247 (.lload_n 1) 1 248 := ⟨by decide +kernel, rfl⟩
theorem d_F_digest_248 : mD m_F_digest 248 (.lmul) 1 249 := ⟨by decide +kernel, rfl⟩
theorem d_F_digest_249 : mD m_F_digest 249 (.aload_n 0) 1 250 := ⟨by decide +kernel, rfl⟩
theorem d_F_digest_250 : mD m_F_digest 250 (.invokevirtual 330) 3 253 := ⟨by decide +kernel, rfl⟩
theorem d_F_digest_253 : mD m_F_digest 253 (.i2l) 1 254 := ⟨by decide +kernel, rfl⟩
theorem d_F_digest_254 : mD m_F_digest 254 (.ladd) 1 255 := ⟨by decide +kernel, rfl⟩
theorem d_F_digest_255 : mD m_F_digest 255 (.lstore_n 1) 1 256 := ⟨by decide +kernel, rfl⟩
theorem d_F_digest_256 : mD m_F_digest 256 (.ldc2_w 300) 3 259 := ⟨by decide +kernel, rfl⟩
theorem d_F_digest_259 : mD m_F_digest 259 (.lload_n 1) 1 260 := ⟨by decide +kernel, rfl⟩
theorem d_F_digest_260 : mD m_F_digest 260 (.lmul) 1 261 := ⟨by decide +kernel, rfl⟩
theorem d_F_digest_261 : mD m_F_digest 261 (.aload_n 0) 1 262 := ⟨by decide +kernel, rfl⟩
theorem d_F_digest_262 : mD m_F_digest 262 (.bipush 7) 2 264 := ⟨by decide +kernel, rfl⟩
theorem d_F_digest_264 : mD m_F_digest 264 (.invokevirtual 333) 3 267 := ⟨by decide +kernel, rfl⟩
theorem d_F_digest_267 : mD m_F_digest 267 (.i2l) 1 268 := ⟨by decide +kernel, rfl⟩
theorem d_F_digest_268 : mD m_F_digest 268 (.ladd) 1 269 := ⟨by decide +kernel, rfl⟩
theorem d_F_digest_269 : mD m_F_digest 269 (.lreturn) 1 270 := ⟨by decide +kernel, rfl⟩
theorem d_F_exchange_0 : mD m_F_exchange 0 (.iload_n 1) 1 1 := ⟨by decide +kernel, rfl⟩
theorem d_F_exchange_1 : mJ m_F_exchange 1 (.ifCond .lt 9) (9) 4 10 := ⟨by decide +kernel, rfl, rfl⟩
theorem d_F_exchange_4 : mD m_F_exchange 4 (.iload_n 1) 1 5 := ⟨by decide +kernel, rfl⟩
theorem d_F_exchange_5 : mD m_F_exchange 5 (.aload_n 0) 1 6 := ⟨by decide +kernel, rfl⟩
theorem d_F_exchange_6 : mD m_F_exchange 6 (.arraylength) 1 7 := ⟨by decide +kernel, rfl⟩
theorem d_F_exchange_7 : mJ m_F_exchange 7 (.if_icmp .lt 6) (6) 10 13 := ⟨by decide +kernel, rfl, rfl⟩
theorem d_F_exchange_10 : mD m_F_exchange 10 (.bipush (-2)) 2 12 := ⟨by decide +kernel, rfl⟩
theorem d_F_exchange_12 : mD m_F_exchange 12 (.ireturn) 1 13 := ⟨by decide +kernel, rfl⟩
theorem d_F_exchange_13 : mD m_F_exchange 13 (.aload_n 0) 1 14 := ⟨by decide +kernel, rfl⟩
theorem d_F_exchange_14 : mD m_F_exchange 14 (.iload_n 1) 1 15 := ⟨by decide +kernel, rfl⟩
theorem d_F_exchange_15 : mD m_F_exchange 15 (.iaload) 1 16 := ⟨by decide +kernel, rfl⟩
theorem d_F_exchange_16 : mD m_F_exchange 16 (.istore_n 3) 1 17 := ⟨by decide +kernel, rfl⟩
theorem d_F_exchange_17 : mD m_F_exchange 17 (.aload_n 0) 1 18 := ⟨by decide +kernel, rfl⟩
theorem d_F_exchange_18 : mD m_F_exchange 18 (.iload_n 1) 1 19 := ⟨by decide +kernel, rfl⟩
theorem d_F_exchange_19 : mD m_F_exchange 19 (.iload_n 2) 1 20 := ⟨by decide +kernel, rfl⟩
theorem d_F_exchange_20 : mD m_F_exchange 20 (.iastore) 1 21 := ⟨by decide +kernel, rfl⟩
theorem d_F_exchange_21 : mD m_F_exchange 21 (.iload_n 3) 1 22 := ⟨by decide +kernel, rfl⟩
theorem d_F_exchange_22 : mD m_F_exchange 22 (.ireturn) 1 23 := ⟨by decide +kernel, rfl⟩
theorem d_F_fault_0 : mD m_F_fault 0 (.aload_n 0) 1 1 := ⟨by decide +kernel, rfl⟩
theorem d_F_fault_1 : mD m_F_fault 1 (.getfield 10) 3 4 := ⟨by decide +kernel, rfl⟩
theorem d_F_fault_4 : mD m_F_fault 4 (.getfield 78) 3 7 := ⟨by decide +kernel, rfl⟩
theorem d_F_fault_7 : mD m_F_fault 7 (.ireturn) 1 8 := ⟨by decide +kernel, rfl⟩
theorem d_F_find_0 : mD m_F_find 0 (.aload_n 0) 1 1 := ⟨by decide +kernel, rfl⟩
theorem d_F_find_1 : mD m_F_find 1 (.iload_n 1) 1 2 := ⟨by decide +kernel, rfl⟩
theorem d_F_find_2 : mD m_F_find 2 (.putfield 264) 3 5 := ⟨by decide +kernel, rfl⟩
theorem d_F_find_5 : mD m_F_find 5 (.bipush (-10)) 2 7 := ⟨by decide +kernel, rfl⟩
theorem d_F_find_7 : mD m_F_find 7 (.iload_n 1) 1 8 := ⟨by decide +kernel, rfl⟩
theorem d_F_find_8 : mD m_F_find 8 (.isub) 1 9 := ⟨by decide +kernel, rfl⟩
theorem d_F_find_9 : mD m_F_find 9 (.ireturn) 1 10 := ⟨by decide +kernel, rfl⟩
theorem d_F_findingAt_0 : mD m_F_findingAt 0 (.aload_n 0) 1 1 := ⟨by decide +kernel, rfl⟩
theorem d_F_findingAt_1 : mD m_F_findingAt 1 (.invokevirtual 118) 3 4 := ⟨by decide +kernel, rfl⟩
theorem d_F_findingAt_4 : mJ m_F_findingAt 4 (.ifCond .eq 5) (5) 7 9 := ⟨by decide +kernel, rfl, rfl⟩
theorem d_F_findingAt_7 : mD m_F_findingAt 7 (.iconst 1) 1 8 := ⟨by decide +kernel, rfl⟩
theorem d_F_findingAt_8 : mD m_F_findingAt 8 (.ireturn) 1 9 := ⟨by decide +kernel, rfl⟩
theorem d_F_findingAt_9 : mD m_F_findingAt 9 (.aload_n 0) 1 10 := ⟨by decide +kernel, rfl⟩
theorem d_F_findingAt_10 : mD m_F_findingAt 10 (.getfield 267) 3 13 := ⟨by decide +kernel, rfl⟩
theorem d_F_findingAt_13 : mD m_F_findingAt 13 (.iload_n 1) 1 14 := ⟨by decide +kernel, rfl⟩
theorem d_F_findingAt_14 : mJ m_F_findingAt 14 (.if_icmp .eq 5) (5) 17 19 := ⟨by decide +kernel, rfl, rfl⟩
theorem d_F_findingAt_17 : mD m_F_findingAt 17 (.iconst 3) 1 18 := ⟨by decide +kernel, rfl⟩
theorem d_F_findingAt_18 : mD m_F_findingAt 18 (.ireturn) 1 19 := ⟨by decide +kernel, rfl⟩
theorem d_F_findingAt_19 : mD m_F_findingAt 19 (.aload_n 0) 1 20 := ⟨by decide +kernel, rfl⟩
theorem d_F_findingAt_20 : mD m_F_findingAt 20 (.iload_n 2) 1 21 := ⟨by decide +kernel, rfl⟩
theorem d_F_findingAt_21 : mD m_F_findingAt 21 (.invokevirtual 336) 3 24 := ⟨by decide +kernel, rfl⟩
theorem d_F_findingAt_24 : mJ m_F_findingAt 24 (.ifCond .eq 7) (7) 27 31 := ⟨by decide +kernel, rfl, rfl⟩
theorem d_F_findingAt_27 : mD m_F_findingAt 27 (.iconst 0) 1 28 := ⟨by decide +kernel, rfl⟩
theorem d_F_findingAt_28 : mJ m_F_findingAt 28 (.goto 4) (4) 31 32 := ⟨by decide +kernel, rfl, rfl⟩
theorem d_F_findingAt_31 : mD m_F_findingAt 31 (.iconst 2) 1 32 := ⟨by decide +kernel, rfl⟩
theorem d_F_findingAt_32 : mD m_F_findingAt 32 (.ireturn) 1 33 := ⟨by decide +kernel, rfl⟩
theorem d_F_firstJudged_0 : mD m_F_firstJudged 0 (.aload_n 0) 1 1 := ⟨by decide +kernel, rfl⟩
theorem d_F_firstJudged_1 : mD m_F_firstJudged 1 (.getfield 28) 3 4 := ⟨by decide +kernel, rfl⟩
theorem d_F_firstJudged_4 : mD m_F_firstJudged 4 (.invokevirtual 162) 3 7 := ⟨by decide +kernel, rfl⟩
theorem d_F_firstJudged_7 : mD m_F_firstJudged 7 (.iconst 0) 1 8 := ⟨by decide +kernel, rfl⟩
theorem d_F_firstJudged_8 : mD m_F_firstJudged 8 (.istore_n 2) 1 9 := ⟨by decide +kernel, rfl⟩
theorem d_F_firstJudged_9 : mD m_F_firstJudged 9 (.iload_n 2) 1 10 := ⟨by decide +kernel, rfl⟩
theorem d_F_firstJudged_10 : mD m_F_firstJudged 10 (.aload_n 0) 1 11 := ⟨by decide +kernel, rfl⟩
theorem d_F_firstJudged_11 : mD m_F_firstJudged 11 (.getfield 10) 3 14 := ⟨by decide +kernel, rfl⟩
theorem d_F_firstJudged_14 : mD m_F_firstJudged 14 (.getfield 177) 3 17 := ⟨by decide +kernel, rfl⟩
theorem d_F_firstJudged_17 : mJ m_F_firstJudged 17 (.if_icmp .ge 47) (47) 20 64 := ⟨by decide +kernel, rfl, rfl⟩
theorem d_F_firstJudged_20 : mD m_F_firstJudged 20 (.aload_n 1) 1 21 := ⟨by decide +kernel, rfl⟩
theorem d_F_firstJudged_21 : mD m_F_firstJudged 21 (.iload_n 2) 1 22 := ⟨by decide +kernel, rfl⟩
theorem d_F_firstJudged_22 : mD m_F_firstJudged 22 (.invokevirtual 133) 3 25 := ⟨by decide +kernel, rfl⟩
theorem d_F_firstJudged_25 : mD m_F_firstJudged 25 (.istore_n 3) 1 26 := ⟨by decide +kernel, rfl⟩
theorem d_F_firstJudged_26 : mD m_F_firstJudged 26 (.iload_n 3) 1 27 := ⟨by decide +kernel, rfl⟩
theorem d_F_firstJudged_27 : mD m_F_firstJudged 27 (.invokestatic 92) 3 30 := ⟨by decide +kernel, rfl⟩
theorem d_F_firstJudged_30 : mJ m_F_firstJudged 30 (.ifCond .eq 26) (26) 33 56 := ⟨by decide +kernel, rfl, rfl⟩
theorem d_F_firstJudged_33 : mD m_F_firstJudged 33 (.aload_n 0) 1 34 := ⟨by decide +kernel, rfl⟩
theorem d_F_firstJudged_34 : mD m_F_firstJudged 34 (.getfield 28) 3 37 := ⟨by decide +kernel, rfl⟩
theorem d_F_firstJudged_37 : mD m_F_firstJudged 37 (.aload_n 0) 1 38 := ⟨by decide +kernel, rfl⟩
theorem d_F_firstJudged_38 : mD m_F_firstJudged 38 (.aload_n 1) 1 39 := ⟨by decide +kernel, rfl⟩
theorem d_F_firstJudged_39 : mD m_F_firstJudged 39 (.iload_n 3) 1 40 := ⟨by decide +kernel, rfl⟩
theorem d_F_firstJudged_40 : mD m_F_firstJudged 40 (.invokevirtual 190) 3 43 := ⟨by decide +kernel, rfl⟩
theorem d_F_firstJudged_43 : mD m_F_firstJudged 43 (.aload_n 0) 1 44 := ⟨by decide +kernel, rfl⟩
theorem d_F_firstJudged_44 : mD m_F_firstJudged 44 (.getfield 10) 3 47 := ⟨by decide +kernel, rfl⟩
theorem d_F_firstJudged_47 : mD m_F_firstJudged 47 (.invokevirtual 180) 3 50 := ⟨by decide +kernel, rfl⟩
theorem d_F_firstJudged_50 : mD m_F_firstJudged 50 (.invokevirtual 341) 3 53 := ⟨by decide +kernel, rfl⟩
theorem d_F_firstJudged_53 : mJ m_F_firstJudged 53 (.ifCond .ne 5) (5) 56 58 := ⟨by decide +kernel, rfl, rfl⟩
theorem d_F_firstJudged_56 : mD m_F_firstJudged 56 (.iload_n 2) 1 57 := ⟨by decide +kernel, rfl⟩
theorem d_F_firstJudged_57 : mD m_F_firstJudged 57 (.ireturn) 1 58 := ⟨by decide +kernel, rfl⟩
theorem d_F_firstJudged_58 : mD m_F_firstJudged 58 (.iinc 2 1) 3 61 := ⟨by decide +kernel, rfl⟩
theorem d_F_firstJudged_61 : mJ m_F_firstJudged 61 (.goto (-52)) (-52) 64 9 := ⟨by decide +kernel, rfl, rfl⟩
theorem d_F_firstJudged_64 : mD m_F_firstJudged 64 (.iconst (-1)) 1 65 := ⟨by decide +kernel, rfl⟩
theorem d_F_firstJudged_65 : mD m_F_firstJudged 65 (.ireturn) 1 66 := ⟨by decide +kernel, rfl⟩
theorem d_F_forget_0 : mD m_F_forget 0 (.aload_n 0) 1 1 := ⟨by decide +kernel, rfl⟩
theorem d_F_forget_1 : mD m_F_forget 1 (.getfield 44) 3 4 := ⟨by decide +kernel, rfl⟩
theorem d_F_forget_4 : mD m_F_forget 4 (.invokevirtual 230) 3 7 := ⟨by decide +kernel, rfl⟩
theorem d_F_forget_7 : mD m_F_forget 7 (.ireturn) 1 8 := ⟨by decide +kernel, rfl⟩
theorem d_F_get_0 : mD m_F_get 0 (.iload_n 1) 1 1 := ⟨by decide +kernel, rfl⟩
theorem d_F_get_1 : mD m_F_get 1 (.invokestatic 115) 3 4 := ⟨by decide +kernel, rfl⟩
theorem d_F_get_4 : mJ m_F_get 4 (.ifCond .eq 10) (10) 7 14 := ⟨by decide +kernel, rfl, rfl⟩
theorem d_F_get_7 : mD m_F_get 7 (.iload_n 2) 1 8 := ⟨by decide +kernel, rfl⟩
theorem d_F_get_8 : mD m_F_get 8 (.invokestatic 247) 3 11 := ⟨by decide +kernel, rfl⟩
theorem d_F_get_11 : mJ m_F_get 11 (.ifCond .ne 7) (7) 14 18 := ⟨by decide +kernel, rfl, rfl⟩
theorem d_F_get_14 : mD m_F_get 14 (.ldc_w 263) 3 17 := ⟨by decide +kernel, rfl⟩
theorem d_F_get_17 : mD m_F_get 17 (.ireturn) 1 18 := ⟨by decide +kernel, rfl⟩
theorem d_F_get_18 : mD m_F_get 18 (.aload_n 0) 1 19 := ⟨by decide +kernel, rfl⟩
theorem d_F_get_19 : mD m_F_get 19 (.getfield 50) 3 22 := ⟨by decide +kernel, rfl⟩
theorem d_F_get_22 : mD m_F_get 22 (.iload_n 1) 1 23 := ⟨by decide +kernel, rfl⟩
theorem d_F_get_23 : mD m_F_get 23 (.aaload) 1 24 := ⟨by decide +kernel, rfl⟩
theorem d_F_get_24 : mD m_F_get 24 (.iload_n 2) 1 25 := ⟨by decide +kernel, rfl⟩
theorem d_F_get_25 : mD m_F_get 25 (.iload_n 3) 1 26 := ⟨by decide +kernel, rfl⟩
theorem d_F_get_26 : mD m_F_get 26 (.invokestatic 256) 3 29 := ⟨by decide +kernel, rfl⟩
theorem d_F_get_29 : mD m_F_get 29 (.istore 4) 2 31 := ⟨by decide +kernel, rfl⟩
theorem d_F_get_31 : mD m_F_get 31 (.iload 4) 2 33 := ⟨by decide +kernel, rfl⟩
theorem d_F_get_33 : mJ m_F_get 33 (.ifCond .eq 13) (13) 36 46 := ⟨by decide +kernel, rfl, rfl⟩
theorem d_F_get_36 : mD m_F_get 36 (.aload_n 0) 1 37 := ⟨by decide +kernel, rfl⟩
theorem d_F_get_37 : mD m_F_get 37 (.iload 4) 2 39 := ⟨by decide +kernel, rfl⟩
theorem d_F_get_39 : mD m_F_get 39 (.putfield 264) 3 42 := ⟨by decide +kernel, rfl⟩
theorem d_F_get_42 : mD m_F_get 42 (.ldc_w 263) 3 45 := ⟨by decide +kernel, rfl⟩
theorem d_F_get_45 : mD m_F_get 45 (.ireturn) 1 46 := ⟨by decide +kernel, rfl⟩
theorem d_F_get_46 : mD m_F_get 46 (.aload_n 0) 1 47 := ⟨by decide +kernel, rfl⟩
theorem d_F_get_47 : mD m_F_get 47 (.getfield 50) 3 50 := ⟨by decide +kernel, rfl⟩
theorem d_F_get_50 : mD m_F_get 50 (.iload_n 1) 1 51 := ⟨by decide +kernel, rfl⟩
theorem d_F_get_51 : mD m_F_get 51 (.aaload) 1 52 := ⟨by decide +kernel, rfl⟩
theorem d_F_get_52 : mD m_F_get 52 (.iload_n 3) 1 53 := ⟨by decide +kernel, rfl⟩
theorem d_F_get_53 : mD m_F_get 53 (.invokevirtual 133) 3 56 := ⟨by decide +kernel, rfl⟩
theorem d_F_get_56 : mD m_F_get 56 (.ireturn) 1 57 := ⟨by decide +kernel, rfl⟩
theorem d_F_isForm_0 : mD m_F_isForm 0 (.iload_n 0) 1 1 := ⟨by decide +kernel, rfl⟩
theorem d_F_isForm_1 : mD m_F_isForm 1 (.iconst 0) 1 2 := ⟨by decide +kernel, rfl⟩
theorem d_F_isForm_2 : mD m_F_isForm 2 (.iconst 2) 1 3 := ⟨by decide +kernel, rfl⟩
theorem d_F_isForm_3 : mD m_F_isForm 3 (.invokestatic 59) 3 6 := ⟨by decide +kernel, rfl⟩
theorem d_F_isForm_6 : mD m_F_isForm 6 (.ireturn) 1 7 := ⟨by decide +kernel, rfl⟩
theorem d_F_isNumber_0 : mD m_F_isNumber 0 (.iload_n 0) 1 1 := ⟨by decide +kernel, rfl⟩
theorem d_F_isNumber_1 : mD m_F_isNumber 1 (.iconst 0) 1 2 := ⟨by decide +kernel, rfl⟩
theorem d_F_isNumber_2 : mD m_F_isNumber 2 (.bipush 9) 2 4 := ⟨by decide +kernel, rfl⟩
theorem d_F_isNumber_4 : mD m_F_isNumber 4 (.invokestatic 59) 3 7 := ⟨by decide +kernel, rfl⟩
theorem d_F_isNumber_7 : mD m_F_isNumber 7 (.ireturn) 1 8 := ⟨by decide +kernel, rfl⟩
theorem d_F_isSheet_0 : mD m_F_isSheet 0 (.iload_n 0) 1 1 := ⟨by decide +kernel, rfl⟩
theorem d_F_isSheet_1 : mD m_F_isSheet 1 (.iconst 0) 1 2 := ⟨by decide +kernel, rfl⟩
theorem d_F_isSheet_2 : mD m_F_isSheet 2 (.iconst 3) 1 3 := ⟨by decide +kernel, rfl⟩
theorem d_F_isSheet_3 : mD m_F_isSheet 3 (.invokestatic 59) 3 6 := ⟨by decide +kernel, rfl⟩
theorem d_F_isSheet_6 : mD m_F_isSheet 6 (.ireturn) 1 7 := ⟨by decide +kernel, rfl⟩
theorem d_F_isWithin_0 : mD m_F_isWithin 0 (.iload_n 0) 1 1 := ⟨by decide +kernel, rfl⟩
theorem d_F_isWithin_1 : mD m_F_isWithin 1 (.iload_n 1) 1 2 := ⟨by decide +kernel, rfl⟩
theorem d_F_isWithin_2 : mJ m_F_isWithin 2 (.if_icmp .lt 12) (12) 5 14 := ⟨by decide +kernel, rfl, rfl⟩
theorem d_F_isWithin_5 : mD m_F_isWithin 5 (.iload_n 0) 1 6 := ⟨by decide +kernel, rfl⟩
theorem d_F_isWithin_6 : mD m_F_isWithin 6 (.iload_n 2) 1 7 := ⟨by decide +kernel, rfl⟩
theorem d_F_isWithin_7 : mJ m_F_isWithin 7 (.if_icmp .gt 7) (7) 10 14 := ⟨by decide +kernel, rfl, rfl⟩
theorem d_F_isWithin_10 : mD m_F_isWithin 10 (.iconst 1) 1 11 := ⟨by decide +kernel, rfl⟩
theorem d_F_isWithin_11 : mJ m_F_isWithin 11 (.goto 4) (4) 14 15 := ⟨by decide +kernel, rfl, rfl⟩
theorem d_F_isWithin_14 : mD m_F_isWithin 14 (.iconst 0) 1 15 := ⟨by decide +kernel, rfl⟩
theorem d_F_isWithin_15 : mD m_F_isWithin 15 (.ireturn) 1 16 := ⟨by decide +kernel, rfl⟩
theorem d_F_judged_0 : mD m_F_judged 0 (.aload_n 0) 1 1 := ⟨by decide +kernel, rfl⟩
theorem d_F_judged_1 : mD m_F_judged 1 (.iload_n 1) 1 2 := ⟨by decide +kernel, rfl⟩
theorem d_F_judged_2 : mD m_F_judged 2 (.invokevirtual 183) 3 5 := ⟨by decide +kernel, rfl⟩
theorem d_F_judged_5 : mD m_F_judged 5 (.istore_n 2) 1 6 := ⟨by decide +kernel, rfl⟩
theorem d_F_judged_6 : mD m_F_judged 6 (.iload_n 2) 1 7 := ⟨by decide +kernel, rfl⟩
theorem d_F_judged_7 : mJ m_F_judged 7 (.ifCond .eq 7) (7) 10 14 := ⟨by decide +kernel, rfl, rfl⟩
theorem d_F_judged_10 : mD m_F_judged 10 (.iload_n 2) 1 11 := ⟨by decide +kernel, rfl⟩
theorem d_F_judged_11 : mJ m_F_judged 11 (.goto 13) (13) 14 24 := ⟨by decide +kernel, rfl, rfl⟩
theorem d_F_judged_14 : mD m_F_judged 14 (.aload_n 0) 1 15 := ⟨by decide +kernel, rfl⟩
theorem d_F_judged_15 : mD m_F_judged 15 (.aload_n 0) 1 16 := ⟨by decide +kernel, rfl⟩
theorem d_F_judged_16 : mD m_F_judged 16 (.getfield 50) 3 19 := ⟨by decide +kernel, rfl⟩
theorem d_F_judged_19 : mD m_F_judged 19 (.iload_n 1) 1 20 := ⟨by decide +kernel, rfl⟩
theorem d_F_judged_20 : mD m_F_judged 20 (.aaload) 1 21 := ⟨by decide +kernel, rfl⟩
theorem d_F_judged_21 : mD m_F_judged 21 (.invokevirtual 186) 3 24 := ⟨by decide +kernel, rfl⟩
theorem d_F_judged_24 : mD m_F_judged 24 (.ireturn) 1 25 := ⟨by decide +kernel, rfl⟩
theorem d_F_lay_0 : mD m_F_lay 0 (.iload_n 1) 1 1 := ⟨by decide +kernel, rfl⟩
theorem d_F_lay_1 : mD m_F_lay 1 (.invokestatic 115) 3 4 := ⟨by decide +kernel, rfl⟩
theorem d_F_lay_4 : mJ m_F_lay 4 (.ifCond .eq 10) (10) 7 14 := ⟨by decide +kernel, rfl, rfl⟩
theorem d_F_lay_7 : mD m_F_lay 7 (.iload_n 2) 1 8 := ⟨by decide +kernel, rfl⟩
theorem d_F_lay_8 : mD m_F_lay 8 (.invokestatic 247) 3 11 := ⟨by decide +kernel, rfl⟩
theorem d_F_lay_11 : mJ m_F_lay 11 (.ifCond .ne 6) (6) 14 17 := ⟨by decide +kernel, rfl, rfl⟩
theorem d_F_lay_14 : mD m_F_lay 14 (.bipush (-2)) 2 16 := ⟨by decide +kernel, rfl⟩
theorem d_F_lay_16 : mD m_F_lay 16 (.ireturn) 1 17 := ⟨by decide +kernel, rfl⟩
theorem d_F_lay_17 : mD m_F_lay 17 (.aload_n 0) 1 18 := ⟨by decide +kernel, rfl⟩
theorem d_F_lay_18 : mD m_F_lay 18 (.getfield 50) 3 21 := ⟨by decide +kernel, rfl⟩
theorem d_F_lay_21 : mD m_F_lay 21 (.iload_n 1) 1 22 := ⟨by decide +kernel, rfl⟩
theorem d_F_lay_22 : mD m_F_lay 22 (.aaload) 1 23 := ⟨by decide +kernel, rfl⟩
theorem d_F_lay_23 : mD m_F_lay 23 (.iload_n 2) 1 24 := ⟨by decide +kernel, rfl⟩
theorem d_F_lay_24 : mD m_F_lay 24 (.iload_n 3) 1 25 := ⟨by decide +kernel, rfl⟩
theorem d_F_lay_25 : mD m_F_lay 25 (.invokestatic 256) 3 28 := ⟨by decide +kernel, rfl⟩
theorem d_F_lay_28 : mD m_F_lay 28 (.istore 5) 2 30 := ⟨by decide +kernel, rfl⟩
theorem d_F_lay_30 : mD m_F_lay 30 (.iload 5) 2 32 := ⟨by decide +kernel, rfl⟩
theorem d_F_lay_32 : mJ m_F_lay 32 (.ifCond .eq 10) (10) 35 42 := ⟨by decide +kernel, rfl, rfl⟩
theorem d_F_lay_35 : mD m_F_lay 35 (.aload_n 0) 1 36 := ⟨by decide +kernel, rfl⟩
theorem d_F_lay_36 : mD m_F_lay 36 (.iload 5) 2 38 := ⟨by decide +kernel, rfl⟩
theorem d_F_lay_38 : mD m_F_lay 38 (.invokevirtual 121) 3 41 := ⟨by decide +kernel, rfl⟩
theorem d_F_lay_41 : mD m_F_lay 41 (.ireturn) 1 42 := ⟨by decide +kernel, rfl⟩
theorem d_F_lay_42 : mD m_F_lay 42 (.aload_n 0) 1 43 := ⟨by decide +kernel, rfl⟩
theorem d_F_lay_43 : mD m_F_lay 43 (.getfield 50) 3 46 := ⟨by decide +kernel, rfl⟩
theorem d_F_lay_46 : mD m_F_lay 46 (.iload_n 1) 1 47 := ⟨by decide +kernel, rfl⟩
theorem d_F_lay_47 : mD m_F_lay 47 (.aaload) 1 48 := ⟨by decide +kernel, rfl⟩
theorem d_F_lay_48 : mD m_F_lay 48 (.iload_n 3) 1 49 := ⟨by decide +kernel, rfl⟩
theorem d_F_lay_49 : mD m_F_lay 49 (.iload 4) 2 51 := ⟨by decide +kernel, rfl⟩
theorem d_F_lay_51 : mD m_F_lay 51 (.invokevirtual 260) 3 54 := ⟨by decide +kernel, rfl⟩
theorem d_F_lay_54 : mD m_F_lay 54 (.iconst 1) 1 55 := ⟨by decide +kernel, rfl⟩
theorem d_F_lay_55 : mD m_F_lay 55 (.ireturn) 1 56 := ⟨by decide +kernel, rfl⟩
theorem d_F_lie_0 : mD m_F_lie 0 (.iload_n 1) 1 1 := ⟨by decide +kernel, rfl⟩
theorem d_F_lie_1 : mD m_F_lie 1 (.invokestatic 92) 3 4 := ⟨by decide +kernel, rfl⟩
theorem d_F_lie_4 : mJ m_F_lie 4 (.ifCond .eq 14) (14) 7 18 := ⟨by decide +kernel, rfl, rfl⟩
theorem d_F_lie_7 : mD m_F_lie 7 (.iload_n 2) 1 8 := ⟨by decide +kernel, rfl⟩
theorem d_F_lie_8 : mD m_F_lie 8 (.bipush (-30)) 2 10 := ⟨by decide +kernel, rfl⟩
theorem d_F_lie_10 : mD m_F_lie 10 (.bipush 30) 2 12 := ⟨by decide +kernel, rfl⟩
theorem d_F_lie_12 : mD m_F_lie 12 (.invokestatic 59) 3 15 := ⟨by decide +kernel, rfl⟩
theorem d_F_lie_15 : mJ m_F_lie 15 (.ifCond .ne 9) (9) 18 24 := ⟨by decide +kernel, rfl, rfl⟩
theorem d_F_lie_18 : mD m_F_lie 18 (.bipush (-2)) 2 20 := ⟨by decide +kernel, rfl⟩
theorem d_F_lie_20 : mD m_F_lie 20 (.invokestatic 105) 3 23 := ⟨by decide +kernel, rfl⟩
theorem d_F_lie_23 : mD m_F_lie 23 (.ireturn) 1 24 := ⟨by decide +kernel, rfl⟩
theorem d_F_lie_24 : mD m_F_lie 24 (.aload_n 0) 1 25 := ⟨by decide +kernel, rfl⟩
theorem d_F_lie_25 : mD m_F_lie 25 (.getfield 28) 3 28 := ⟨by decide +kernel, rfl⟩
theorem d_F_lie_28 : mD m_F_lie 28 (.invokevirtual 67) 3 31 := ⟨by decide +kernel, rfl⟩
theorem d_F_lie_31 : mD m_F_lie 31 (.aload_n 0) 1 32 := ⟨by decide +kernel, rfl⟩
theorem d_F_lie_32 : mD m_F_lie 32 (.getfield 10) 3 35 := ⟨by decide +kernel, rfl⟩
theorem d_F_lie_35 : mD m_F_lie 35 (.getfield 108) 3 38 := ⟨by decide +kernel, rfl⟩
theorem d_F_lie_38 : mD m_F_lie 38 (.iload_n 1) 1 39 := ⟨by decide +kernel, rfl⟩
theorem d_F_lie_39 : mD m_F_lie 39 (.iaload) 1 40 := ⟨by decide +kernel, rfl⟩
theorem d_F_lie_40 : mD m_F_lie 40 (.istore_n 3) 1 41 := ⟨by decide +kernel, rfl⟩
theorem d_F_lie_41 : mD m_F_lie 41 (.aload_n 0) 1 42 := ⟨by decide +kernel, rfl⟩
theorem d_F_lie_42 : mD m_F_lie 42 (.getfield 10) 3 45 := ⟨by decide +kernel, rfl⟩
theorem d_F_lie_45 : mD m_F_lie 45 (.iload_n 1) 1 46 := ⟨by decide +kernel, rfl⟩
theorem d_F_lie_46 : mD m_F_lie 46 (.iload_n 2) 1 47 := ⟨by decide +kernel, rfl⟩
theorem d_F_lie_47 : mD m_F_lie 47 (.invokevirtual 111) 3 50 := ⟨by decide +kernel, rfl⟩
theorem d_F_lie_50 : mD m_F_lie 50 (.iload_n 3) 1 51 := ⟨by decide +kernel, rfl⟩
theorem d_F_lie_51 : mD m_F_lie 51 (.ireturn) 1 52 := ⟨by decide +kernel, rfl⟩
theorem d_F_lies_0 : mD m_F_lies 0 (.aload_n 0) 1 1 := ⟨by decide +kernel, rfl⟩
theorem d_F_lies_1 : mD m_F_lies 1 (.getfield 10) 3 4 := ⟨by decide +kernel, rfl⟩
theorem d_F_lies_4 : mD m_F_lies 4 (.iload_n 1) 1 5 := ⟨by decide +kernel, rfl⟩
theorem d_F_lies_5 : mD m_F_lies 5 (.invokevirtual 82) 3 8 := ⟨by decide +kernel, rfl⟩
theorem d_F_lies_8 : mJ m_F_lies 8 (.ifCond .eq 13) (13) 11 21 := ⟨by decide +kernel, rfl, rfl⟩
theorem d_F_lies_11 : mD m_F_lies 11 (.iload_n 2) 1 12 := ⟨by decide +kernel, rfl⟩
theorem d_F_lies_12 : mD m_F_lies 12 (.iconst 0) 1 13 := ⟨by decide +kernel, rfl⟩
theorem d_F_lies_13 : mD m_F_lies 13 (.bipush 30) 2 15 := ⟨by decide +kernel, rfl⟩
theorem d_F_lies_15 : mD m_F_lies 15 (.invokestatic 59) 3 18 := ⟨by decide +kernel, rfl⟩
theorem d_F_lies_18 : mJ m_F_lies 18 (.ifCond .ne 9) (9) 21 27 := ⟨by decide +kernel, rfl, rfl⟩
theorem d_F_lies_21 : mD m_F_lies 21 (.bipush (-2)) 2 23 := ⟨by decide +kernel, rfl⟩
theorem d_F_lies_23 : mD m_F_lies 23 (.invokestatic 105) 3 26 := ⟨by decide +kernel, rfl⟩
theorem d_F_lies_26 : mD m_F_lies 26 (.ireturn) 1 27 := ⟨by decide +kernel, rfl⟩
theorem d_F_lies_27 : mD m_F_lies 27 (.aload_n 0) 1 28 := ⟨by decide +kernel, rfl⟩
theorem d_F_lies_28 : mD m_F_lies 28 (.getfield 28) 3 31 := ⟨by decide +kernel, rfl⟩
theorem d_F_lies_31 : mD m_F_lies 31 (.invokevirtual 162) 3 34 := ⟨by decide +kernel, rfl⟩
theorem d_F_lies_34 : mD m_F_lies 34 (.aload_n 0) 1 35 := ⟨by decide +kernel, rfl⟩
theorem d_F_lies_35 : mD m_F_lies 35 (.getfield 28) 3 38 := ⟨by decide +kernel, rfl⟩
theorem d_F_lies_38 : mD m_F_lies 38 (.aload_n 0) 1 39 := ⟨by decide +kernel, rfl⟩
theorem d_F_lies_39 : mD m_F_lies 39 (.getfield 10) 3 42 := ⟨by decide +kernel, rfl⟩
theorem d_F_lies_42 : mD m_F_lies 42 (.invokevirtual 180) 3 45 := ⟨by decide +kernel, rfl⟩
theorem d_F_lies_45 : mD m_F_lies 45 (.invokevirtual 165) 3 48 := ⟨by decide +kernel, rfl⟩
theorem d_F_lies_48 : mD m_F_lies 48 (.iconst (-1)) 1 49 := ⟨by decide +kernel, rfl⟩
theorem d_F_lies_49 : mJ m_F_lies 49 (.if_icmp .ne 9) (9) 52 58 := ⟨by decide +kernel, rfl, rfl⟩
theorem d_F_lies_52 : mD m_F_lies 52 (.bipush (-3)) 2 54 := ⟨by decide +kernel, rfl⟩
theorem d_F_lies_54 : mD m_F_lies 54 (.invokestatic 105) 3 57 := ⟨by decide +kernel, rfl⟩
theorem d_F_lies_57 : mD m_F_lies 57 (.ireturn) 1 58 := ⟨by decide +kernel, rfl⟩
theorem d_F_lies_58 : mD m_F_lies 58 (.aload_n 0) 1 59 := ⟨by decide +kernel, rfl⟩
theorem d_F_lies_59 : mD m_F_lies 59 (.getfield 28) 3 62 := ⟨by decide +kernel, rfl⟩
theorem d_F_lies_62 : mD m_F_lies 62 (.iload_n 1) 1 63 := ⟨by decide +kernel, rfl⟩
theorem d_F_lies_63 : mD m_F_lies 63 (.iload_n 2) 1 64 := ⟨by decide +kernel, rfl⟩
theorem d_F_lies_64 : mD m_F_lies 64 (.invokevirtual 220) 3 67 := ⟨by decide +kernel, rfl⟩
theorem d_F_lies_67 : mD m_F_lies 67 (.ireturn) 1 68 := ⟨by decide +kernel, rfl⟩
theorem d_F_longRefusal_0 : mD m_F_longRefusal 0 (.ldc2_w 339) 3 3 := ⟨by decide +kernel, rfl⟩
theorem d_F_longRefusal_3 : mD m_F_longRefusal 3 (.iload_n 0) 1 4 := ⟨by decide +kernel, rfl⟩
theorem d_F_longRefusal_4 : mD m_F_longRefusal 4 (.i2l) 1 5 := ⟨by decide +kernel, rfl⟩
theorem d_F_longRefusal_5 : mD m_F_longRefusal 5 (.lsub) 1 6 := ⟨by decide +kernel, rfl⟩
theorem d_F_longRefusal_6 : mD m_F_longRefusal 6 (.lreturn) 1 7 := ⟨by decide +kernel, rfl⟩
theorem d_F_lose_0 : mD m_F_lose 0 (.iload_n 1) 1 1 := ⟨by decide +kernel, rfl⟩
theorem d_F_lose_1 : mD m_F_lose 1 (.invokestatic 115) 3 4 := ⟨by decide +kernel, rfl⟩
theorem d_F_lose_4 : mJ m_F_lose 4 (.ifCond .ne 6) (6) 7 10 := ⟨by decide +kernel, rfl, rfl⟩
theorem d_F_lose_7 : mD m_F_lose 7 (.bipush (-2)) 2 9 := ⟨by decide +kernel, rfl⟩
theorem d_F_lose_9 : mD m_F_lose 9 (.ireturn) 1 10 := ⟨by decide +kernel, rfl⟩
theorem d_F_lose_10 : mD m_F_lose 10 (.aload_n 0) 1 11 := ⟨by decide +kernel, rfl⟩
theorem d_F_lose_11 : mD m_F_lose 11 (.getfield 50) 3 14 := ⟨by decide +kernel, rfl⟩
theorem d_F_lose_14 : mD m_F_lose 14 (.iload_n 1) 1 15 := ⟨by decide +kernel, rfl⟩
theorem d_F_lose_15 : mD m_F_lose 15 (.aaload) 1 16 := ⟨by decide +kernel, rfl⟩
theorem d_F_lose_16 : mD m_F_lose 16 (.invokevirtual 118) 3 19 := ⟨by decide +kernel, rfl⟩
theorem d_F_lose_19 : mJ m_F_lose 19 (.ifCond .eq 9) (9) 22 28 := ⟨by decide +kernel, rfl, rfl⟩
theorem d_F_lose_22 : mD m_F_lose 22 (.aload_n 0) 1 23 := ⟨by decide +kernel, rfl⟩
theorem d_F_lose_23 : mD m_F_lose 23 (.iconst 1) 1 24 := ⟨by decide +kernel, rfl⟩
theorem d_F_lose_24 : mD m_F_lose 24 (.invokevirtual 121) 3 27 := ⟨by decide +kernel, rfl⟩
theorem d_F_lose_27 : mD m_F_lose 27 (.ireturn) 1 28 := ⟨by decide +kernel, rfl⟩
theorem d_F_lose_28 : mD m_F_lose 28 (.aload_n 0) 1 29 := ⟨by decide +kernel, rfl⟩
theorem d_F_lose_29 : mD m_F_lose 29 (.getfield 50) 3 32 := ⟨by decide +kernel, rfl⟩
theorem d_F_lose_32 : mD m_F_lose 32 (.iload_n 1) 1 33 := ⟨by decide +kernel, rfl⟩
theorem d_F_lose_33 : mD m_F_lose 33 (.aaload) 1 34 := ⟨by decide +kernel, rfl⟩
theorem d_F_lose_34 : mD m_F_lose 34 (.getfield 124) 3 37 := ⟨by decide +kernel, rfl⟩
theorem d_F_lose_37 : mD m_F_lose 37 (.istore_n 2) 1 38 := ⟨by decide +kernel, rfl⟩
theorem d_F_lose_38 : mD m_F_lose 38 (.aload_n 0) 1 39 := ⟨by decide +kernel, rfl⟩
theorem d_F_lose_39 : mD m_F_lose 39 (.getfield 50) 3 42 := ⟨by decide +kernel, rfl⟩
theorem d_F_lose_42 : mD m_F_lose 42 (.iload_n 1) 1 43 := ⟨by decide +kernel, rfl⟩
theorem d_F_lose_43 : mD m_F_lose 43 (.aaload) 1 44 := ⟨by decide +kernel, rfl⟩
theorem d_F_lose_44 : mD m_F_lose 44 (.invokevirtual 253) 3 47 := ⟨by decide +kernel, rfl⟩
theorem d_F_lose_47 : mD m_F_lose 47 (.iload_n 2) 1 48 := ⟨by decide +kernel, rfl⟩
theorem d_F_lose_48 : mD m_F_lose 48 (.ireturn) 1 49 := ⟨by decide +kernel, rfl⟩
theorem d_F_lot_0 : mD m_F_lot 0 (.iconst 0) 1 1 := ⟨by decide +kernel, rfl⟩
theorem d_F_lot_1 : mD m_F_lot 1 (.istore_n 2) 1 2 := ⟨by decide +kernel, rfl⟩
theorem d_F_lot_2 : mD m_F_lot 2 (.iload_n 2) 1 3 := ⟨by decide +kernel, rfl⟩
theorem d_F_lot_3 : mD m_F_lot 3 (.bipush 10) 2 5 := ⟨by decide +kernel, rfl⟩
theorem d_F_lot_5 : mJ m_F_lot 5 (.if_icmp .ge 16) (16) 8 21 := ⟨by decide +kernel, rfl, rfl⟩
theorem d_F_lot_8 : mD m_F_lot 8 (.aload_n 0) 1 9 := ⟨by decide +kernel, rfl⟩
theorem d_F_lot_9 : mD m_F_lot 9 (.getfield 55) 3 12 := ⟨by decide +kernel, rfl⟩
theorem d_F_lot_12 : mD m_F_lot 12 (.iload_n 2) 1 13 := ⟨by decide +kernel, rfl⟩
theorem d_F_lot_13 : mD m_F_lot 13 (.iconst 0) 1 14 := ⟨by decide +kernel, rfl⟩
theorem d_F_lot_14 : mD m_F_lot 14 (.iastore) 1 15 := ⟨by decide +kernel, rfl⟩
theorem d_F_lot_15 : mD m_F_lot 15 (.iinc 2 1) 3 18 := ⟨by decide +kernel, rfl⟩
theorem d_F_lot_18 : mJ m_F_lot 18 (.goto (-16)) (-16) 21 2 := ⟨by decide +kernel, rfl, rfl⟩
theorem d_F_lot_21 : mD m_F_lot 21 (.aload_n 0) 1 22 := ⟨by decide +kernel, rfl⟩
theorem d_F_lot_22 : mD m_F_lot 22 (.getfield 10) 3 25 := ⟨by decide +kernel, rfl⟩
theorem d_F_lot_25 : mD m_F_lot 25 (.invokevirtual 180) 3 28 := ⟨by decide +kernel, rfl⟩
theorem d_F_lot_28 : mD m_F_lot 28 (.istore_n 2) 1 29 := ⟨by decide +kernel, rfl⟩
theorem d_F_lot_29 : mD m_F_lot 29 (.iload_n 1) 1 30 := ⟨by decide +kernel, rfl⟩
theorem d_F_lot_30 : mD m_F_lot 30 (.istore_n 3) 1 31 := ⟨by decide +kernel, rfl⟩
theorem d_F_lot_31 : mD m_F_lot 31 (.iconst 0) 1 32 := ⟨by decide +kernel, rfl⟩
theorem d_F_lot_32 : mD m_F_lot 32 (.istore 4) 2 34 := ⟨by decide +kernel, rfl⟩
theorem d_F_lot_34 : mD m_F_lot 34 (.iload 4) 2 36 := ⟨by decide +kernel, rfl⟩
theorem d_F_lot_36 : mD m_F_lot 36 (.aload_n 0) 1 37 := ⟨by decide +kernel, rfl⟩
theorem d_F_lot_37 : mD m_F_lot 37 (.getfield 10) 3 40 := ⟨by decide +kernel, rfl⟩
theorem d_F_lot_40 : mD m_F_lot 40 (.getfield 177) 3 43 := ⟨by decide +kernel, rfl⟩
theorem d_F_lot_43 : mJ m_F_lot 43 (.if_icmp .ge 84) (84) 46 127 := ⟨by decide +kernel, rfl, rfl⟩
theorem d_F_lot_46 : mD m_F_lot 46 (.ldc 237) 2 48 := ⟨by decide +kernel, rfl⟩
theorem d_F_lot_48 : mD m_F_lot 48 (.iload_n 3) 1 49 := ⟨by decide +kernel, rfl⟩
theorem d_F_lot_49 : mD m_F_lot 49 (.imul) 1 50 := ⟨by decide +kernel, rfl⟩
theorem d_F_lot_50 : mD m_F_lot 50 (.sipush 12345) 3 53 := ⟨by decide +kernel, rfl⟩
theorem d_F_lot_53 : mD m_F_lot 53 (.iadd) 1 54 := ⟨by decide +kernel, rfl⟩
theorem d_F_lot_54 : mD m_F_lot 54 (.istore_n 3) 1 55 := ⟨by decide +kernel, rfl⟩
theorem d_F_lot_55 : mD m_F_lot 55 (.iload_n 2) 1 56 := ⟨by decide +kernel, rfl⟩
theorem d_F_lot_56 : mD m_F_lot 56 (.iload_n 3) 1 57 := ⟨by decide +kernel, rfl⟩
theorem d_F_lot_57 : mD m_F_lot 57 (.aload_n 0) 1 58 := ⟨by decide +kernel, rfl⟩
theorem d_F_lot_58 : mD m_F_lot 58 (.getfield 10) 3 61 := ⟨by decide +kernel, rfl⟩
theorem d_F_lot_61 : mD m_F_lot 61 (.getfield 177) 3 64 := ⟨by decide +kernel, rfl⟩
theorem d_F_lot_64 : mD m_F_lot 64 (.iload 4) 2 66 := ⟨by decide +kernel, rfl⟩
theorem d_F_lot_66 : mD m_F_lot 66 (.isub) 1 67 := ⟨by decide +kernel, rfl⟩
theorem d_F_lot_67 : mD m_F_lot 67 (.invokestatic 238) 3 70 := ⟨by decide +kernel, rfl⟩
theorem d_F_lot_70 : mD m_F_lot 70 (.invokestatic 241) 3 73 := ⟨by decide +kernel, rfl⟩
theorem d_F_lot_73 : mD m_F_lot 73 (.istore 5) 2 75 := ⟨by decide +kernel, rfl⟩
theorem d_F_lot_75 : mD m_F_lot 75 (.iload_n 2) 1 76 := ⟨by decide +kernel, rfl⟩
theorem d_F_lot_76 : mD m_F_lot 76 (.iconst 1) 1 77 := ⟨by decide +kernel, rfl⟩
theorem d_F_lot_77 : mD m_F_lot 77 (.iload 5) 2 79 := ⟨by decide +kernel, rfl⟩
theorem d_F_lot_79 : mD m_F_lot 79 (.ishl) 1 80 := ⟨by decide +kernel, rfl⟩
theorem d_F_lot_80 : mD m_F_lot 80 (.iconst (-1)) 1 81 := ⟨by decide +kernel, rfl⟩
theorem d_F_lot_81 : mD m_F_lot 81 (.ixor) 1 82 := ⟨by decide +kernel, rfl⟩
theorem d_F_lot_82 : mD m_F_lot 82 (.iand) 1 83 := ⟨by decide +kernel, rfl⟩
theorem d_F_lot_83 : mD m_F_lot 83 (.istore_n 2) 1 84 := ⟨by decide +kernel, rfl⟩
theorem d_F_lot_84 : mD m_F_lot 84 (.aload_n 0) 1 85 := ⟨by decide +kernel, rfl⟩
theorem d_F_lot_85 : mD m_F_lot 85 (.getfield 19) 3 88 := ⟨by decide +kernel, rfl⟩
theorem d_F_lot_88 : mD m_F_lot 88 (.iload 5) 2 90 := ⟨by decide +kernel, rfl⟩
theorem d_F_lot_90 : mD m_F_lot 90 (.invokevirtual 244) 3 93 := ⟨by decide +kernel, rfl⟩
theorem d_F_lot_93 : mD m_F_lot 93 (.istore 6) 2 95 := ⟨by decide +kernel, rfl⟩
theorem d_F_lot_95 : mD m_F_lot 95 (.iload 6) 2 97 := ⟨by decide +kernel, rfl⟩
theorem d_F_lot_97 : mJ m_F_lot 97 (.ifCond .lt 24) (24) 100 121 := ⟨by decide +kernel, rfl, rfl⟩
theorem d_F_lot_100 : mD m_F_lot 100 (.iload 6) 2 102 := ⟨by decide +kernel, rfl⟩
theorem d_F_lot_102 : mD m_F_lot 102 (.bipush 10) 2 104 := ⟨by decide +kernel, rfl⟩
theorem d_F_lot_104 : mJ m_F_lot 104 (.if_icmp .ge 17) (17) 107 121 := ⟨by decide +kernel, rfl, rfl⟩
theorem d_F_lot_107 : mD m_F_lot 107 (.aload_n 0) 1 108 := ⟨by decide +kernel, rfl⟩
theorem d_F_lot_108 : mD m_F_lot 108 (.getfield 55) 3 111 := ⟨by decide +kernel, rfl⟩
theorem d_F_lot_111 : mD m_F_lot 111 (.iload 6) 2 113 := ⟨by decide +kernel, rfl⟩
theorem d_F_lot_113 : mD m_F_lot 113 (.dup2) 1 114 := ⟨by decide +kernel, rfl⟩
theorem d_F_lot_114 : mD m_F_lot 114 (.iaload) 1 115 := ⟨by decide +kernel, rfl⟩
theorem d_F_lot_115 : mD m_F_lot 115 (.iconst 1) 1 116 := ⟨by decide +kernel, rfl⟩
theorem d_F_lot_116 : mD m_F_lot 116 (.iload 4) 2 118 := ⟨by decide +kernel, rfl⟩
theorem d_F_lot_118 : mD m_F_lot 118 (.ishl) 1 119 := ⟨by decide +kernel, rfl⟩
theorem d_F_lot_119 : mD m_F_lot 119 (.ior) 1 120 := ⟨by decide +kernel, rfl⟩
theorem d_F_lot_120 : mD m_F_lot 120 (.iastore) 1 121 := ⟨by decide +kernel, rfl⟩
theorem d_F_lot_121 : mD m_F_lot 121 (.iinc 4 1) 3 124 := ⟨by decide +kernel, rfl⟩
theorem d_F_lot_124 : mJ m_F_lot 124 (.goto (-90)) (-90) 127 34 := ⟨by decide +kernel, rfl, rfl⟩
theorem d_F_lot_127 : mD m_F_lot 127 (.aload_n 0) 1 128 := ⟨by decide +kernel, rfl⟩
theorem d_F_lot_128 : mD m_F_lot 128 (.invokevirtual 194) 3 131 := ⟨by decide +kernel, rfl⟩
theorem d_F_lot_131 : mD m_F_lot 131 (.ireturn) 1 132 := ⟨by decide +kernel, rfl⟩
theorem d_F_lotOf_0 : mD m_F_lotOf 0 (.iload_n 1) 1 1 := ⟨by decide +kernel, rfl⟩
theorem d_F_lotOf_1 : mJ m_F_lotOf 1 (.ifCond .le 12) (12) 4 13 := ⟨by decide +kernel, rfl, rfl⟩
theorem d_F_lotOf_4 : mD m_F_lotOf 4 (.iload_n 0) 1 5 := ⟨by decide +kernel, rfl⟩
theorem d_F_lotOf_5 : mD m_F_lotOf 5 (.bipush 16) 2 7 := ⟨by decide +kernel, rfl⟩
theorem d_F_lotOf_7 : mD m_F_lotOf 7 (.iushr) 1 8 := ⟨by decide +kernel, rfl⟩
theorem d_F_lotOf_8 : mD m_F_lotOf 8 (.iload_n 1) 1 9 := ⟨by decide +kernel, rfl⟩
theorem d_F_lotOf_9 : mD m_F_lotOf 9 (.irem) 1 10 := ⟨by decide +kernel, rfl⟩
theorem d_F_lotOf_10 : mJ m_F_lotOf 10 (.goto 4) (4) 13 14 := ⟨by decide +kernel, rfl, rfl⟩
theorem d_F_lotOf_13 : mD m_F_lotOf 13 (.iconst 0) 1 14 := ⟨by decide +kernel, rfl⟩
theorem d_F_lotOf_14 : mD m_F_lotOf 14 (.ireturn) 1 15 := ⟨by decide +kernel, rfl⟩
theorem d_F_lowestTerms_0 : mD m_F_lowestTerms 0 (.lload_n 0) 1 1 := ⟨by decide +kernel, rfl⟩
theorem d_F_lowestTerms_1 : mD m_F_lowestTerms 1 (.invokestatic 347) 3 4 := ⟨by decide +kernel, rfl⟩
theorem d_F_lowestTerms_4 : mD m_F_lowestTerms 4 (.lstore 5) 2 6 := ⟨by decide +kernel, rfl⟩
theorem d_F_lowestTerms_6 : mD m_F_lowestTerms 6 (.lload_n 2) 1 7 := ⟨by decide +kernel, rfl⟩
theorem d_F_lowestTerms_7 : mD m_F_lowestTerms 7 (.lstore 7) 2 9 := ⟨by decide +kernel, rfl⟩
theorem d_F_lowestTerms_9 : mD m_F_lowestTerms 9 (.iconst 0) 1 10 := ⟨by decide +kernel, rfl⟩
theorem d_F_lowestTerms_10 : mD m_F_lowestTerms 10 (.istore 9) 2 12 := ⟨by decide +kernel, rfl⟩
theorem d_F_lowestTerms_12 : mD m_F_lowestTerms 12 (.iload 9) 2 14 := ⟨by decide +kernel, rfl⟩
theorem d_F_lowestTerms_14 : mD m_F_lowestTerms 14 (.bipush 100) 2 16 := ⟨by decide +kernel, rfl⟩
theorem d_F_lowestTerms_16 : mJ m_F_lowestTerms 16 (.if_icmp .ge 31) (31) 19 47 := ⟨by decide +kernel, rfl, rfl⟩
theorem d_F_lowestTerms_19 : mD m_F_lowestTerms 19 (.lload 7) 2 21 := ⟨by decide +kernel, rfl⟩
theorem d_F_lowestTerms_21 : mD m_F_lowestTerms 21 (.lconst 0) 1 22 := ⟨by decide +kernel, rfl⟩
theorem d_F_lowestTerms_22 : mD m_F_lowestTerms 22 (.lcmp) 1 23 := ⟨by decide +kernel, rfl⟩
theorem d_F_lowestTerms_23 : mJ m_F_lowestTerms 23 (.ifCond .eq 24) (24) 26 47 := ⟨by decide +kernel, rfl, rfl⟩
theorem d_F_lowestTerms_26 : mD m_F_lowestTerms 26 (.lload 5) 2 28 := ⟨by decide +kernel, rfl⟩
theorem d_F_lowestTerms_28 : mD m_F_lowestTerms 28 (.lload 7) 2 30 := ⟨by decide +kernel, rfl⟩
theorem d_F_lowestTerms_30 : mD m_F_lowestTerms 30 (.lrem) 1 31 := ⟨by decide +kernel, rfl⟩
theorem d_F_lowestTerms_31 : mD m_F_lowestTerms 31 (.lstore 10) 2 33 := ⟨by decide +kernel, rfl⟩
theorem d_F_lowestTerms_33 : mD m_F_lowestTerms 33 (.lload 7) 2 35 := ⟨by decide +kernel, rfl⟩
theorem d_F_lowestTerms_35 : mD m_F_lowestTerms 35 (.lstore 5) 2 37 := ⟨by decide +kernel, rfl⟩
theorem d_F_lowestTerms_37 : mD m_F_lowestTerms 37 (.lload 10) 2 39 := ⟨by decide +kernel, rfl⟩
theorem d_F_lowestTerms_39 : mD m_F_lowestTerms 39 (.lstore 7) 2 41 := ⟨by decide +kernel, rfl⟩
theorem d_F_lowestTerms_41 : mD m_F_lowestTerms 41 (.iinc 9 1) 3 44 := ⟨by decide +kernel, rfl⟩
theorem d_F_lowestTerms_44 : mJ m_F_lowestTerms 44 (.goto (-32)) (-32) 47 12 := ⟨by decide +kernel, rfl, rfl⟩
theorem d_F_lowestTerms_47 : mD m_F_lowestTerms 47 (.lload 5) 2 49 := ⟨by decide +kernel, rfl⟩
theorem d_F_lowestTerms_49 : mD m_F_lowestTerms 49 (.lconst 0) 1 50 := ⟨by decide +kernel, rfl⟩
theorem d_F_lowestTerms_50 : mD m_F_lowestTerms 50 (.lcmp) 1 51 := ⟨by decide +kernel, rfl⟩
theorem d_F_lowestTerms_51 : mJ m_F_lowestTerms 51 (.ifCond .ne 5) (5) 54 56 := ⟨by decide +kernel, rfl, rfl⟩
theorem d_F_lowestTerms_54 : mD m_F_lowestTerms 54 (.lconst 0) 1 55 := ⟨by decide +kernel, rfl⟩
theorem d_F_lowestTerms_55 : mD m_F_lowestTerms 55 (.lreturn) 1 56 := ⟨by decide +kernel, rfl⟩
theorem d_F_lowestTerms_56 : mD m_F_lowestTerms 56 (.iload 4) 2 58 := ⟨by decide +kernel, rfl⟩
theorem d_F_lowestTerms_58 : mJ m_F_lowestTerms 58 (.ifCond .ne 7) (7) 61 65 := ⟨by decide +kernel, rfl, rfl⟩
theorem d_F_lowestTerms_61 : mD m_F_lowestTerms 61 (.lload_n 0) 1 62 := ⟨by decide +kernel, rfl⟩
theorem d_F_lowestTerms_62 : mJ m_F_lowestTerms 62 (.goto 4) (4) 65 66 := ⟨by decide +kernel, rfl, rfl⟩
theorem d_F_lowestTerms_65 : mD m_F_lowestTerms 65 (.lload_n 2) 1 66 := ⟨by decide +kernel, rfl⟩
theorem d_F_lowestTerms_66 : mD m_F_lowestTerms 66 (.lload 5) 2 68 := ⟨by decide +kernel, rfl⟩
theorem d_F_lowestTerms_68 : mD m_F_lowestTerms 68 (.ldiv) 1 69 := ⟨by decide +kernel, rfl⟩
theorem d_F_lowestTerms_69 : mD m_F_lowestTerms 69 (.lreturn) 1 70 := ⟨by decide +kernel, rfl⟩
theorem d_F_odd_0 : mD m_F_odd 0 (.aload_n 0) 1 1 := ⟨by decide +kernel, rfl⟩
theorem d_F_odd_1 : mD m_F_odd 1 (.getfield 28) 3 4 := ⟨by decide +kernel, rfl⟩
theorem d_F_odd_4 : mD m_F_odd 4 (.invokevirtual 162) 3 7 := ⟨by decide +kernel, rfl⟩
theorem d_F_odd_7 : mD m_F_odd 7 (.iconst (-1)) 1 8 := ⟨by decide +kernel, rfl⟩
theorem d_F_odd_8 : mD m_F_odd 8 (.istore_n 1) 1 9 := ⟨by decide +kernel, rfl⟩
theorem d_F_odd_9 : mD m_F_odd 9 (.iconst (-1)) 1 10 := ⟨by decide +kernel, rfl⟩
theorem d_F_odd_10 : mD m_F_odd 10 (.istore_n 2) 1 11 := ⟨by decide +kernel, rfl⟩
theorem d_F_odd_11 : mD m_F_odd 11 (.iconst 0) 1 12 := ⟨by decide +kernel, rfl⟩
theorem d_F_odd_12 : mD m_F_odd 12 (.istore_n 3) 1 13 := ⟨by decide +kernel, rfl⟩
theorem d_F_odd_13 : mD m_F_odd 13 (.iload_n 3) 1 14 := ⟨by decide +kernel, rfl⟩
theorem d_F_odd_14 : mD m_F_odd 14 (.aload_n 0) 1 15 := ⟨by decide +kernel, rfl⟩
theorem d_F_odd_15 : mD m_F_odd 15 (.getfield 10) 3 18 := ⟨by decide +kernel, rfl⟩
theorem d_F_odd_18 : mD m_F_odd 18 (.getfield 177) 3 21 := ⟨by decide +kernel, rfl⟩
theorem d_F_odd_21 : mJ m_F_odd 21 (.if_icmp .ge 53) (53) 24 74 := ⟨by decide +kernel, rfl, rfl⟩
theorem d_F_odd_24 : mD m_F_odd 24 (.aload_n 0) 1 25 := ⟨by decide +kernel, rfl⟩
theorem d_F_odd_25 : mD m_F_odd 25 (.getfield 28) 3 28 := ⟨by decide +kernel, rfl⟩
theorem d_F_odd_28 : mD m_F_odd 28 (.aload_n 0) 1 29 := ⟨by decide +kernel, rfl⟩
theorem d_F_odd_29 : mD m_F_odd 29 (.getfield 10) 3 32 := ⟨by decide +kernel, rfl⟩
theorem d_F_odd_32 : mD m_F_odd 32 (.invokevirtual 180) 3 35 := ⟨by decide +kernel, rfl⟩
theorem d_F_odd_35 : mD m_F_odd 35 (.iconst 1) 1 36 := ⟨by decide +kernel, rfl⟩
theorem d_F_odd_36 : mD m_F_odd 36 (.iload_n 3) 1 37 := ⟨by decide +kernel, rfl⟩
theorem d_F_odd_37 : mD m_F_odd 37 (.ishl) 1 38 := ⟨by decide +kernel, rfl⟩
theorem d_F_odd_38 : mD m_F_odd 38 (.iconst (-1)) 1 39 := ⟨by decide +kernel, rfl⟩
theorem d_F_odd_39 : mD m_F_odd 39 (.ixor) 1 40 := ⟨by decide +kernel, rfl⟩
theorem d_F_odd_40 : mD m_F_odd 40 (.iand) 1 41 := ⟨by decide +kernel, rfl⟩
theorem d_F_odd_41 : mD m_F_odd 41 (.invokevirtual 165) 3 44 := ⟨by decide +kernel, rfl⟩
theorem d_F_odd_44 : mD m_F_odd 44 (.istore 4) 2 46 := ⟨by decide +kernel, rfl⟩
theorem d_F_odd_46 : mD m_F_odd 46 (.iload 4) 2 48 := ⟨by decide +kernel, rfl⟩
theorem d_F_odd_48 : mD m_F_odd 48 (.iconst (-1)) 1 49 := ⟨by decide +kernel, rfl⟩
theorem d_F_odd_49 : mJ m_F_odd 49 (.if_icmp .eq 19) (19) 52 68 := ⟨by decide +kernel, rfl, rfl⟩
theorem d_F_odd_52 : mD m_F_odd 52 (.iload_n 1) 1 53 := ⟨by decide +kernel, rfl⟩
theorem d_F_odd_53 : mD m_F_odd 53 (.iconst (-1)) 1 54 := ⟨by decide +kernel, rfl⟩
theorem d_F_odd_54 : mJ m_F_odd 54 (.if_icmp .eq 9) (9) 57 63 := ⟨by decide +kernel, rfl, rfl⟩
theorem d_F_odd_57 : mD m_F_odd 57 (.iload 4) 2 59 := ⟨by decide +kernel, rfl⟩
theorem d_F_odd_59 : mD m_F_odd 59 (.iload_n 2) 1 60 := ⟨by decide +kernel, rfl⟩
theorem d_F_odd_60 : mJ m_F_odd 60 (.if_icmp .ge 8) (8) 63 68 := ⟨by decide +kernel, rfl, rfl⟩
theorem d_F_odd_63 : mD m_F_odd 63 (.iload_n 3) 1 64 := ⟨by decide +kernel, rfl⟩
theorem d_F_odd_64 : mD m_F_odd 64 (.istore_n 1) 1 65 := ⟨by decide +kernel, rfl⟩
theorem d_F_odd_65 : mD m_F_odd 65 (.iload 4) 2 67 := ⟨by decide +kernel, rfl⟩
theorem d_F_odd_67 : mD m_F_odd 67 (.istore_n 2) 1 68 := ⟨by decide +kernel, rfl⟩
theorem d_F_odd_68 : mD m_F_odd 68 (.iinc 3 1) 3 71 := ⟨by decide +kernel, rfl⟩
theorem d_F_odd_71 : mJ m_F_odd 71 (.goto (-58)) (-58) 74 13 := ⟨by decide +kernel, rfl, rfl⟩
theorem d_F_odd_74 : mD m_F_odd 74 (.iload_n 1) 1 75 := ⟨by decide +kernel, rfl⟩
theorem d_F_odd_75 : mD m_F_odd 75 (.ireturn) 1 76 := ⟨by decide +kernel, rfl⟩
theorem d_F_paidTogether_0 : mD m_F_paidTogether 0 (.lconst 0) 1 1 := ⟨by decide +kernel, rfl⟩
theorem d_F_paidTogether_1 : mD m_F_paidTogether 1 (.lstore_n 3) 1 2 := ⟨by decide +kernel, rfl⟩
theorem d_F_paidTogether_2 : mD m_F_paidTogether 2 (.iconst 0) 1 3 := ⟨by decide +kernel, rfl⟩
theorem d_F_paidTogether_3 : mD m_F_paidTogether 3 (.istore 5) 2 5 := ⟨by decide +kernel, rfl⟩
theorem d_F_paidTogether_5 : mD m_F_paidTogether 5 (.iload 5) 2 7 := ⟨by decide +kernel, rfl⟩
theorem d_F_paidTogether_7 : mD m_F_paidTogether 7 (.aload_n 0) 1 8 := ⟨by decide +kernel, rfl⟩
theorem d_F_paidTogether_8 : mD m_F_paidTogether 8 (.getfield 10) 3 11 := ⟨by decide +kernel, rfl⟩
theorem d_F_paidTogether_11 : mD m_F_paidTogether 11 (.getfield 177) 3 14 := ⟨by decide +kernel, rfl⟩
theorem d_F_paidTogether_14 : mJ m_F_paidTogether 14 (.if_icmp .ge 28) (28) 17 42 := ⟨by decide +kernel, rfl, rfl⟩
theorem d_F_paidTogether_17 : mD m_F_paidTogether 17 (.iload_n 2) 1 18 := ⟨by decide +kernel, rfl⟩
theorem d_F_paidTogether_18 : mD m_F_paidTogether 18 (.iconst 1) 1 19 := ⟨by decide +kernel, rfl⟩
theorem d_F_paidTogether_19 : mD m_F_paidTogether 19 (.iload 5) 2 21 := ⟨by decide +kernel, rfl⟩
theorem d_F_paidTogether_21 : mD m_F_paidTogether 21 (.ishl) 1 22 := ⟨by decide +kernel, rfl⟩
theorem d_F_paidTogether_22 : mD m_F_paidTogether 22 (.iand) 1 23 := ⟨by decide +kernel, rfl⟩
theorem d_F_paidTogether_23 : mJ m_F_paidTogether 23 (.ifCond .eq 13) (13) 26 36 := ⟨by decide +kernel, rfl, rfl⟩
theorem d_F_paidTogether_26 : mD m_F_paidTogether 26 (.lload_n 3) 1 27 := ⟨by decide +kernel, rfl⟩
theorem d_F_paidTogether_27 : mD m_F_paidTogether 27 (.aload_n 1) 1 28 := ⟨by decide +kernel, rfl⟩
theorem d_F_paidTogether_28 : mD m_F_paidTogether 28 (.iload 5) 2 30 := ⟨by decide +kernel, rfl⟩
theorem d_F_paidTogether_30 : mD m_F_paidTogether 30 (.invokevirtual 133) 3 33 := ⟨by decide +kernel, rfl⟩
theorem d_F_paidTogether_33 : mD m_F_paidTogether 33 (.i2l) 1 34 := ⟨by decide +kernel, rfl⟩
theorem d_F_paidTogether_34 : mD m_F_paidTogether 34 (.ladd) 1 35 := ⟨by decide +kernel, rfl⟩
theorem d_F_paidTogether_35 : mD m_F_paidTogether 35 (.lstore_n 3) 1 36 := ⟨by decide +kernel, rfl⟩
theorem d_F_paidTogether_36 : mD m_F_paidTogether 36 (.iinc 5 1) 3 39 := ⟨by decide +kernel, rfl⟩
theorem d_F_paidTogether_39 : mJ m_F_paidTogether 39 (.goto (-34)) (-34) 42 5 := ⟨by decide +kernel, rfl, rfl⟩
theorem d_F_paidTogether_42 : mD m_F_paidTogether 42 (.lload_n 3) 1 43 := ⟨by decide +kernel, rfl⟩
theorem d_F_paidTogether_43 : mD m_F_paidTogether 43 (.lreturn) 1 44 := ⟨by decide +kernel, rfl⟩
theorem d_F_pair_0 : mD m_F_pair 0 (.iload_n 1) 1 1 := ⟨by decide +kernel, rfl⟩
theorem d_F_pair_1 : mD m_F_pair 1 (.iconst 0) 1 2 := ⟨by decide +kernel, rfl⟩
theorem d_F_pair_2 : mD m_F_pair 2 (.iconst 1) 1 3 := ⟨by decide +kernel, rfl⟩
theorem d_F_pair_3 : mD m_F_pair 3 (.invokestatic 59) 3 6 := ⟨by decide +kernel, rfl⟩
theorem d_F_pair_6 : mJ m_F_pair 6 (.ifCond .eq 32) (32) 9 38 := ⟨by decide +kernel, rfl, rfl⟩
theorem d_F_pair_9 : mD m_F_pair 9 (.iload_n 2) 1 10 := ⟨by decide +kernel, rfl⟩
theorem d_F_pair_10 : mD m_F_pair 10 (.invokestatic 92) 3 13 := ⟨by decide +kernel, rfl⟩
theorem d_F_pair_13 : mJ m_F_pair 13 (.ifCond .eq 25) (25) 16 38 := ⟨by decide +kernel, rfl, rfl⟩
theorem d_F_pair_16 : mD m_F_pair 16 (.iload_n 3) 1 17 := ⟨by decide +kernel, rfl⟩
theorem d_F_pair_17 : mD m_F_pair 17 (.invokestatic 92) 3 20 := ⟨by decide +kernel, rfl⟩
theorem d_F_pair_20 : mJ m_F_pair 20 (.ifCond .eq 18) (18) 23 38 := ⟨by decide +kernel, rfl, rfl⟩
theorem d_F_pair_23 : mD m_F_pair 23 (.iload_n 2) 1 24 := ⟨by decide +kernel, rfl⟩
theorem d_F_pair_24 : mD m_F_pair 24 (.iload_n 3) 1 25 := ⟨by decide +kernel, rfl⟩
theorem d_F_pair_25 : mJ m_F_pair 25 (.if_icmp .eq 13) (13) 28 38 := ⟨by decide +kernel, rfl, rfl⟩
theorem d_F_pair_28 : mD m_F_pair 28 (.iload 4) 2 30 := ⟨by decide +kernel, rfl⟩
theorem d_F_pair_30 : mD m_F_pair 30 (.iconst 0) 1 31 := ⟨by decide +kernel, rfl⟩
theorem d_F_pair_31 : mD m_F_pair 31 (.iconst 1) 1 32 := ⟨by decide +kernel, rfl⟩
theorem d_F_pair_32 : mD m_F_pair 32 (.invokestatic 59) 3 35 := ⟨by decide +kernel, rfl⟩
theorem d_F_pair_35 : mJ m_F_pair 35 (.ifCond .ne 6) (6) 38 41 := ⟨by decide +kernel, rfl, rfl⟩
theorem d_F_pair_38 : mD m_F_pair 38 (.bipush (-2)) 2 40 := ⟨by decide +kernel, rfl⟩
theorem d_F_pair_40 : mD m_F_pair 40 (.ireturn) 1 41 := ⟨by decide +kernel, rfl⟩
theorem d_F_pair_41 : mD m_F_pair 41 (.aload_n 0) 1 42 := ⟨by decide +kernel, rfl⟩
theorem d_F_pair_42 : mD m_F_pair 42 (.getfield 28) 3 45 := ⟨by decide +kernel, rfl⟩
theorem d_F_pair_45 : mD m_F_pair 45 (.invokevirtual 67) 3 48 := ⟨by decide +kernel, rfl⟩
theorem d_F_pair_48 : mD m_F_pair 48 (.aload_n 0) 1 49 := ⟨by decide +kernel, rfl⟩
theorem d_F_pair_49 : mD m_F_pair 49 (.getfield 19) 3 52 := ⟨by decide +kernel, rfl⟩
theorem d_F_pair_52 : mD m_F_pair 52 (.iload_n 1) 1 53 := ⟨by decide +kernel, rfl⟩
theorem d_F_pair_53 : mJ m_F_pair 53 (.ifCond .ne 13) (13) 56 66 := ⟨by decide +kernel, rfl, rfl⟩
theorem d_F_pair_56 : mD m_F_pair 56 (.aload_n 0) 1 57 := ⟨by decide +kernel, rfl⟩
theorem d_F_pair_57 : mD m_F_pair 57 (.getfield 19) 3 60 := ⟨by decide +kernel, rfl⟩
theorem d_F_pair_60 : mD m_F_pair 60 (.getfield 143) 3 63 := ⟨by decide +kernel, rfl⟩
theorem d_F_pair_63 : mJ m_F_pair 63 (.goto 10) (10) 66 73 := ⟨by decide +kernel, rfl, rfl⟩
theorem d_F_pair_66 : mD m_F_pair 66 (.aload_n 0) 1 67 := ⟨by decide +kernel, rfl⟩
theorem d_F_pair_67 : mD m_F_pair 67 (.getfield 19) 3 70 := ⟨by decide +kernel, rfl⟩
theorem d_F_pair_70 : mD m_F_pair 70 (.getfield 146) 3 73 := ⟨by decide +kernel, rfl⟩
theorem d_F_pair_73 : mD m_F_pair 73 (.iload_n 2) 1 74 := ⟨by decide +kernel, rfl⟩
theorem d_F_pair_74 : mD m_F_pair 74 (.iload_n 3) 1 75 := ⟨by decide +kernel, rfl⟩
theorem d_F_pair_75 : mD m_F_pair 75 (.iload 4) 2 77 := ⟨by decide +kernel, rfl⟩
theorem d_F_pair_77 : mD m_F_pair 77 (.invokevirtual 149) 3 80 := ⟨by decide +kernel, rfl⟩
theorem d_F_pair_80 : mD m_F_pair 80 (.ireturn) 1 81 := ⟨by decide +kernel, rfl⟩
theorem d_F_pays_0 : mD m_F_pays 0 (.aload_n 0) 1 1 := ⟨by decide +kernel, rfl⟩
theorem d_F_pays_1 : mD m_F_pays 1 (.getfield 10) 3 4 := ⟨by decide +kernel, rfl⟩
theorem d_F_pays_4 : mD m_F_pays 4 (.iload_n 1) 1 5 := ⟨by decide +kernel, rfl⟩
theorem d_F_pays_5 : mD m_F_pays 5 (.invokevirtual 82) 3 8 := ⟨by decide +kernel, rfl⟩
theorem d_F_pays_8 : mJ m_F_pays 8 (.ifCond .eq 12) (12) 11 20 := ⟨by decide +kernel, rfl, rfl⟩
theorem d_F_pays_11 : mD m_F_pays 11 (.iload_n 2) 1 12 := ⟨by decide +kernel, rfl⟩
theorem d_F_pays_12 : mD m_F_pays 12 (.iconst 0) 1 13 := ⟨by decide +kernel, rfl⟩
theorem d_F_pays_13 : mD m_F_pays 13 (.iconst 1) 1 14 := ⟨by decide +kernel, rfl⟩
theorem d_F_pays_14 : mD m_F_pays 14 (.invokestatic 59) 3 17 := ⟨by decide +kernel, rfl⟩
theorem d_F_pays_17 : mJ m_F_pays 17 (.ifCond .ne 9) (9) 20 26 := ⟨by decide +kernel, rfl, rfl⟩
theorem d_F_pays_20 : mD m_F_pays 20 (.bipush (-2)) 2 22 := ⟨by decide +kernel, rfl⟩
theorem d_F_pays_22 : mD m_F_pays 22 (.invokestatic 197) 3 25 := ⟨by decide +kernel, rfl⟩
theorem d_F_pays_25 : mD m_F_pays 25 (.lreturn) 1 26 := ⟨by decide +kernel, rfl⟩
theorem d_F_pays_26 : mD m_F_pays 26 (.aload_n 0) 1 27 := ⟨by decide +kernel, rfl⟩
theorem d_F_pays_27 : mD m_F_pays 27 (.getfield 28) 3 30 := ⟨by decide +kernel, rfl⟩
theorem d_F_pays_30 : mD m_F_pays 30 (.invokevirtual 162) 3 33 := ⟨by decide +kernel, rfl⟩
theorem d_F_pays_33 : mD m_F_pays 33 (.aload_n 0) 1 34 := ⟨by decide +kernel, rfl⟩
theorem d_F_pays_34 : mD m_F_pays 34 (.getfield 28) 3 37 := ⟨by decide +kernel, rfl⟩
theorem d_F_pays_37 : mD m_F_pays 37 (.iconst 1) 1 38 := ⟨by decide +kernel, rfl⟩
theorem d_F_pays_38 : mD m_F_pays 38 (.iload_n 1) 1 39 := ⟨by decide +kernel, rfl⟩
theorem d_F_pays_39 : mD m_F_pays 39 (.ishl) 1 40 := ⟨by decide +kernel, rfl⟩
theorem d_F_pays_40 : mD m_F_pays 40 (.invokevirtual 174) 3 43 := ⟨by decide +kernel, rfl⟩
theorem d_F_pays_43 : mD m_F_pays 43 (.istore_n 3) 1 44 := ⟨by decide +kernel, rfl⟩
theorem d_F_pays_44 : mD m_F_pays 44 (.iload_n 3) 1 45 := ⟨by decide +kernel, rfl⟩
theorem d_F_pays_45 : mD m_F_pays 45 (.iconst (-1)) 1 46 := ⟨by decide +kernel, rfl⟩
theorem d_F_pays_46 : mJ m_F_pays 46 (.if_icmp .ne 9) (9) 49 55 := ⟨by decide +kernel, rfl, rfl⟩
theorem d_F_pays_49 : mD m_F_pays 49 (.bipush (-3)) 2 51 := ⟨by decide +kernel, rfl⟩
theorem d_F_pays_51 : mD m_F_pays 51 (.invokestatic 197) 3 54 := ⟨by decide +kernel, rfl⟩
theorem d_F_pays_54 : mD m_F_pays 54 (.lreturn) 1 55 := ⟨by decide +kernel, rfl⟩
theorem d_F_pays_55 : mD m_F_pays 55 (.aload_n 0) 1 56 := ⟨by decide +kernel, rfl⟩
theorem d_F_pays_56 : mD m_F_pays 56 (.getfield 28) 3 59 := ⟨by decide +kernel, rfl⟩
theorem d_F_pays_59 : mD m_F_pays 59 (.iload_n 3) 1 60 := ⟨by decide +kernel, rfl⟩
theorem d_F_pays_60 : mD m_F_pays 60 (.invokevirtual 156) 3 63 := ⟨by decide +kernel, rfl⟩
theorem d_F_pays_63 : mD m_F_pays 63 (.i2l) 1 64 := ⟨by decide +kernel, rfl⟩
theorem d_F_pays_64 : mD m_F_pays 64 (.iload_n 3) 1 65 := ⟨by decide +kernel, rfl⟩
theorem d_F_pays_65 : mD m_F_pays 65 (.invokestatic 201) 3 68 := ⟨by decide +kernel, rfl⟩
theorem d_F_pays_68 : mD m_F_pays 68 (.i2l) 1 69 := ⟨by decide +kernel, rfl⟩
theorem d_F_pays_69 : mD m_F_pays 69 (.iload_n 2) 1 70 := ⟨by decide +kernel, rfl⟩
theorem d_F_pays_70 : mD m_F_pays 70 (.invokestatic 206) 3 73 := ⟨by decide +kernel, rfl⟩
theorem d_F_pays_73 : mD m_F_pays 73 (.lreturn) 1 74 := ⟨by decide +kernel, rfl⟩
theorem d_F_person_0 : mD m_F_person 0 (.aload_n 0) 1 1 := ⟨by decide +kernel, rfl⟩
theorem d_F_person_1 : mD m_F_person 1 (.getfield 10) 3 4 := ⟨by decide +kernel, rfl⟩
theorem d_F_person_4 : mD m_F_person 4 (.iload_n 1) 1 5 := ⟨by decide +kernel, rfl⟩
theorem d_F_person_5 : mD m_F_person 5 (.invokevirtual 82) 3 8 := ⟨by decide +kernel, rfl⟩
theorem d_F_person_8 : mJ m_F_person 8 (.ifCond .eq 12) (12) 11 20 := ⟨by decide +kernel, rfl, rfl⟩
theorem d_F_person_11 : mD m_F_person 11 (.iload_n 2) 1 12 := ⟨by decide +kernel, rfl⟩
theorem d_F_person_12 : mD m_F_person 12 (.iconst 0) 1 13 := ⟨by decide +kernel, rfl⟩
theorem d_F_person_13 : mD m_F_person 13 (.iconst 1) 1 14 := ⟨by decide +kernel, rfl⟩
theorem d_F_person_14 : mD m_F_person 14 (.invokestatic 59) 3 17 := ⟨by decide +kernel, rfl⟩
theorem d_F_person_17 : mJ m_F_person 17 (.ifCond .ne 6) (6) 20 23 := ⟨by decide +kernel, rfl, rfl⟩
theorem d_F_person_20 : mD m_F_person 20 (.bipush (-2)) 2 22 := ⟨by decide +kernel, rfl⟩
theorem d_F_person_22 : mD m_F_person 22 (.ireturn) 1 23 := ⟨by decide +kernel, rfl⟩
theorem d_F_person_23 : mD m_F_person 23 (.iload_n 2) 1 24 := ⟨by decide +kernel, rfl⟩
theorem d_F_person_24 : mJ m_F_person 24 (.ifCond .ne 15) (15) 27 39 := ⟨by decide +kernel, rfl, rfl⟩
theorem d_F_person_27 : mD m_F_person 27 (.aload_n 0) 1 28 := ⟨by decide +kernel, rfl⟩
theorem d_F_person_28 : mD m_F_person 28 (.getfield 10) 3 31 := ⟨by decide +kernel, rfl⟩
theorem d_F_person_31 : mD m_F_person 31 (.getfield 86) 3 34 := ⟨by decide +kernel, rfl⟩
theorem d_F_person_34 : mD m_F_person 34 (.iload_n 1) 1 35 := ⟨by decide +kernel, rfl⟩
theorem d_F_person_35 : mD m_F_person 35 (.iaload) 1 36 := ⟨by decide +kernel, rfl⟩
theorem d_F_person_36 : mJ m_F_person 36 (.goto 12) (12) 39 48 := ⟨by decide +kernel, rfl, rfl⟩
theorem d_F_person_39 : mD m_F_person 39 (.aload_n 0) 1 40 := ⟨by decide +kernel, rfl⟩
theorem d_F_person_40 : mD m_F_person 40 (.getfield 10) 3 43 := ⟨by decide +kernel, rfl⟩
theorem d_F_person_43 : mD m_F_person 43 (.getfield 89) 3 46 := ⟨by decide +kernel, rfl⟩
theorem d_F_person_46 : mD m_F_person 46 (.iload_n 1) 1 47 := ⟨by decide +kernel, rfl⟩
theorem d_F_person_47 : mD m_F_person 47 (.iaload) 1 48 := ⟨by decide +kernel, rfl⟩
theorem d_F_person_48 : mD m_F_person 48 (.ireturn) 1 49 := ⟨by decide +kernel, rfl⟩
theorem d_F_placeOf_0 : mD m_F_placeOf 0 (.iconst 0) 1 1 := ⟨by decide +kernel, rfl⟩
theorem d_F_placeOf_1 : mD m_F_placeOf 1 (.istore_n 2) 1 2 := ⟨by decide +kernel, rfl⟩
theorem d_F_placeOf_2 : mD m_F_placeOf 2 (.iconst 0) 1 3 := ⟨by decide +kernel, rfl⟩
theorem d_F_placeOf_3 : mD m_F_placeOf 3 (.istore_n 3) 1 4 := ⟨by decide +kernel, rfl⟩
theorem d_F_placeOf_4 : mD m_F_placeOf 4 (.iload_n 3) 1 5 := ⟨by decide +kernel, rfl⟩
theorem d_F_placeOf_5 : mD m_F_placeOf 5 (.bipush 10) 2 7 := ⟨by decide +kernel, rfl⟩
theorem d_F_placeOf_7 : mJ m_F_placeOf 7 (.if_icmp .ge 27) (27) 10 34 := ⟨by decide +kernel, rfl, rfl⟩
theorem d_F_placeOf_10 : mD m_F_placeOf 10 (.iload_n 0) 1 11 := ⟨by decide +kernel, rfl⟩
theorem d_F_placeOf_11 : mD m_F_placeOf 11 (.iconst 1) 1 12 := ⟨by decide +kernel, rfl⟩
theorem d_F_placeOf_12 : mD m_F_placeOf 12 (.iload_n 3) 1 13 := ⟨by decide +kernel, rfl⟩
theorem d_F_placeOf_13 : mD m_F_placeOf 13 (.ishl) 1 14 := ⟨by decide +kernel, rfl⟩
theorem d_F_placeOf_14 : mD m_F_placeOf 14 (.iand) 1 15 := ⟨by decide +kernel, rfl⟩
theorem d_F_placeOf_15 : mJ m_F_placeOf 15 (.ifCond .eq 13) (13) 18 28 := ⟨by decide +kernel, rfl, rfl⟩
theorem d_F_placeOf_18 : mD m_F_placeOf 18 (.iload_n 2) 1 19 := ⟨by decide +kernel, rfl⟩
theorem d_F_placeOf_19 : mD m_F_placeOf 19 (.iload_n 1) 1 20 := ⟨by decide +kernel, rfl⟩
theorem d_F_placeOf_20 : mJ m_F_placeOf 20 (.if_icmp .ne 5) (5) 23 25 := ⟨by decide +kernel, rfl, rfl⟩
theorem d_F_placeOf_23 : mD m_F_placeOf 23 (.iload_n 3) 1 24 := ⟨by decide +kernel, rfl⟩
theorem d_F_placeOf_24 : mD m_F_placeOf 24 (.ireturn) 1 25 := ⟨by decide +kernel, rfl⟩
theorem d_F_placeOf_25 : mD m_F_placeOf 25 (.iinc 2 1) 3 28 := ⟨by decide +kernel, rfl⟩
theorem d_F_placeOf_28 : mD m_F_placeOf 28 (.iinc 3 1) 3 31 := ⟨by decide +kernel, rfl⟩
theorem d_F_placeOf_31 : mJ m_F_placeOf 31 (.goto (-27)) (-27) 34 4 := ⟨by decide +kernel, rfl, rfl⟩
theorem d_F_placeOf_34 : mD m_F_placeOf 34 (.iconst 0) 1 35 := ⟨by decide +kernel, rfl⟩
theorem d_F_placeOf_35 : mD m_F_placeOf 35 (.ireturn) 1 36 := ⟨by decide +kernel, rfl⟩
theorem d_F_put_0 : mD m_F_put 0 (.iload_n 1) 1 1 := ⟨by decide +kernel, rfl⟩
theorem d_F_put_1 : mD m_F_put 1 (.invokestatic 92) 3 4 := ⟨by decide +kernel, rfl⟩
theorem d_F_put_4 : mJ m_F_put 4 (.ifCond .eq 22) (22) 7 26 := ⟨by decide +kernel, rfl, rfl⟩
theorem d_F_put_7 : mD m_F_put 7 (.iload_n 2) 1 8 := ⟨by decide +kernel, rfl⟩
theorem d_F_put_8 : mD m_F_put 8 (.iconst 0) 1 9 := ⟨by decide +kernel, rfl⟩
theorem d_F_put_9 : mD m_F_put 9 (.iconst 1) 1 10 := ⟨by decide +kernel, rfl⟩
theorem d_F_put_10 : mD m_F_put 10 (.invokestatic 59) 3 13 := ⟨by decide +kernel, rfl⟩
theorem d_F_put_13 : mJ m_F_put 13 (.ifCond .eq 13) (13) 16 26 := ⟨by decide +kernel, rfl, rfl⟩
theorem d_F_put_16 : mD m_F_put 16 (.iload_n 3) 1 17 := ⟨by decide +kernel, rfl⟩
theorem d_F_put_17 : mD m_F_put 17 (.iconst 0) 1 18 := ⟨by decide +kernel, rfl⟩
theorem d_F_put_18 : mD m_F_put 18 (.bipush 99) 2 20 := ⟨by decide +kernel, rfl⟩
theorem d_F_put_20 : mD m_F_put 20 (.invokestatic 59) 3 23 := ⟨by decide +kernel, rfl⟩
theorem d_F_put_23 : mJ m_F_put 23 (.ifCond .ne 6) (6) 26 29 := ⟨by decide +kernel, rfl, rfl⟩
theorem d_F_put_26 : mD m_F_put 26 (.bipush (-2)) 2 28 := ⟨by decide +kernel, rfl⟩
theorem d_F_put_28 : mD m_F_put 28 (.ireturn) 1 29 := ⟨by decide +kernel, rfl⟩
theorem d_F_put_29 : mD m_F_put 29 (.aload_n 0) 1 30 := ⟨by decide +kernel, rfl⟩
theorem d_F_put_30 : mD m_F_put 30 (.getfield 28) 3 33 := ⟨by decide +kernel, rfl⟩
theorem d_F_put_33 : mD m_F_put 33 (.invokevirtual 67) 3 36 := ⟨by decide +kernel, rfl⟩
theorem d_F_put_36 : mD m_F_put 36 (.iload_n 2) 1 37 := ⟨by decide +kernel, rfl⟩
theorem d_F_put_37 : mJ m_F_put 37 (.ifCond .ne 13) (13) 40 50 := ⟨by decide +kernel, rfl, rfl⟩
theorem d_F_put_40 : mD m_F_put 40 (.aload_n 0) 1 41 := ⟨by decide +kernel, rfl⟩
theorem d_F_put_41 : mD m_F_put 41 (.getfield 10) 3 44 := ⟨by decide +kernel, rfl⟩
theorem d_F_put_44 : mD m_F_put 44 (.getfield 95) 3 47 := ⟨by decide +kernel, rfl⟩
theorem d_F_put_47 : mJ m_F_put 47 (.goto 10) (10) 50 57 := ⟨by decide +kernel, rfl, rfl⟩
theorem d_F_put_50 : mD m_F_put 50 (.aload_n 0) 1 51 := ⟨by decide +kernel, rfl⟩
theorem d_F_put_51 : mD m_F_put 51 (.getfield 10) 3 54 := ⟨by decide +kernel, rfl⟩
theorem d_F_put_54 : mD m_F_put 54 (.getfield 98) 3 57 := ⟨by decide +kernel, rfl⟩
theorem d_F_put_57 : mD m_F_put 57 (.iload_n 1) 1 58 := ⟨by decide +kernel, rfl⟩
theorem d_F_put_58 : mD m_F_put 58 (.iload_n 3) 1 59 := ⟨by decide +kernel, rfl⟩
theorem d_F_put_59 : mD m_F_put 59 (.invokestatic 101) 3 62 := ⟨by decide +kernel, rfl⟩
theorem d_F_put_62 : mD m_F_put 62 (.ireturn) 1 63 := ⟨by decide +kernel, rfl⟩
theorem d_F_rather_0 : mD m_F_rather 0 (.aload_n 0) 1 1 := ⟨by decide +kernel, rfl⟩
theorem d_F_rather_1 : mD m_F_rather 1 (.iload_n 1) 1 2 := ⟨by decide +kernel, rfl⟩
theorem d_F_rather_2 : mD m_F_rather 2 (.invokevirtual 183) 3 5 := ⟨by decide +kernel, rfl⟩
theorem d_F_rather_5 : mD m_F_rather 5 (.istore_n 2) 1 6 := ⟨by decide +kernel, rfl⟩
theorem d_F_rather_6 : mD m_F_rather 6 (.iload_n 2) 1 7 := ⟨by decide +kernel, rfl⟩
theorem d_F_rather_7 : mJ m_F_rather 7 (.ifCond .eq 5) (5) 10 12 := ⟨by decide +kernel, rfl, rfl⟩
theorem d_F_rather_10 : mD m_F_rather 10 (.iload_n 2) 1 11 := ⟨by decide +kernel, rfl⟩
theorem d_F_rather_11 : mD m_F_rather 11 (.ireturn) 1 12 := ⟨by decide +kernel, rfl⟩
theorem d_F_rather_12 : mD m_F_rather 12 (.aload_n 0) 1 13 := ⟨by decide +kernel, rfl⟩
theorem d_F_rather_13 : mD m_F_rather 13 (.getfield 28) 3 16 := ⟨by decide +kernel, rfl⟩
theorem d_F_rather_16 : mD m_F_rather 16 (.invokevirtual 162) 3 19 := ⟨by decide +kernel, rfl⟩
theorem d_F_rather_19 : mD m_F_rather 19 (.aload_n 0) 1 20 := ⟨by decide +kernel, rfl⟩
theorem d_F_rather_20 : mD m_F_rather 20 (.getfield 28) 3 23 := ⟨by decide +kernel, rfl⟩
theorem d_F_rather_23 : mD m_F_rather 23 (.aload_n 0) 1 24 := ⟨by decide +kernel, rfl⟩
theorem d_F_rather_24 : mD m_F_rather 24 (.getfield 10) 3 27 := ⟨by decide +kernel, rfl⟩
theorem d_F_rather_27 : mD m_F_rather 27 (.invokevirtual 180) 3 30 := ⟨by decide +kernel, rfl⟩
theorem d_F_rather_30 : mD m_F_rather 30 (.invokevirtual 165) 3 33 := ⟨by decide +kernel, rfl⟩
theorem d_F_rather_33 : mD m_F_rather 33 (.iconst (-1)) 1 34 := ⟨by decide +kernel, rfl⟩
theorem d_F_rather_34 : mJ m_F_rather 34 (.if_icmp .ne 6) (6) 37 40 := ⟨by decide +kernel, rfl, rfl⟩
theorem d_F_rather_37 : mD m_F_rather 37 (.bipush (-3)) 2 39 := ⟨by decide +kernel, rfl⟩
theorem d_F_rather_39 : mD m_F_rather 39 (.ireturn) 1 40 := ⟨by decide +kernel, rfl⟩
theorem d_F_rather_40 : mD m_F_rather 40 (.iconst 1) 1 41 := ⟨by decide +kernel, rfl⟩
theorem d_F_rather_41 : mD m_F_rather 41 (.istore_n 3) 1 42 := ⟨by decide +kernel, rfl⟩
theorem d_F_rather_42 : mD m_F_rather 42 (.iload_n 3) 1 43 := ⟨by decide +kernel, rfl⟩
theorem d_F_rather_43 : mD m_F_rather 43 (.aload_n 0) 1 44 := ⟨by decide +kernel, rfl⟩
theorem d_F_rather_44 : mD m_F_rather 44 (.getfield 10) 3 47 := ⟨by decide +kernel, rfl⟩
theorem d_F_rather_47 : mD m_F_rather 47 (.invokevirtual 180) 3 50 := ⟨by decide +kernel, rfl⟩
theorem d_F_rather_50 : mJ m_F_rather 50 (.if_icmp .gt 35) (35) 53 85 := ⟨by decide +kernel, rfl, rfl⟩
theorem d_F_rather_53 : mD m_F_rather 53 (.aload_n 0) 1 54 := ⟨by decide +kernel, rfl⟩
theorem d_F_rather_54 : mD m_F_rather 54 (.aload_n 0) 1 55 := ⟨by decide +kernel, rfl⟩
theorem d_F_rather_55 : mD m_F_rather 55 (.getfield 50) 3 58 := ⟨by decide +kernel, rfl⟩
theorem d_F_rather_58 : mD m_F_rather 58 (.iload_n 1) 1 59 := ⟨by decide +kernel, rfl⟩
theorem d_F_rather_59 : mD m_F_rather 59 (.aaload) 1 60 := ⟨by decide +kernel, rfl⟩
theorem d_F_rather_60 : mD m_F_rather 60 (.iload_n 3) 1 61 := ⟨by decide +kernel, rfl⟩
theorem d_F_rather_61 : mD m_F_rather 61 (.invokevirtual 216) 3 64 := ⟨by decide +kernel, rfl⟩
theorem d_F_rather_64 : mD m_F_rather 64 (.aload_n 0) 1 65 := ⟨by decide +kernel, rfl⟩
theorem d_F_rather_65 : mD m_F_rather 65 (.getfield 28) 3 68 := ⟨by decide +kernel, rfl⟩
theorem d_F_rather_68 : mD m_F_rather 68 (.iload_n 3) 1 69 := ⟨by decide +kernel, rfl⟩
theorem d_F_rather_69 : mD m_F_rather 69 (.invokevirtual 165) 3 72 := ⟨by decide +kernel, rfl⟩
theorem d_F_rather_72 : mD m_F_rather 72 (.i2l) 1 73 := ⟨by decide +kernel, rfl⟩
theorem d_F_rather_73 : mD m_F_rather 73 (.lcmp) 1 74 := ⟨by decide +kernel, rfl⟩
theorem d_F_rather_74 : mJ m_F_rather 74 (.ifCond .le 5) (5) 77 79 := ⟨by decide +kernel, rfl, rfl⟩
theorem d_F_rather_77 : mD m_F_rather 77 (.iload_n 3) 1 78 := ⟨by decide +kernel, rfl⟩
theorem d_F_rather_78 : mD m_F_rather 78 (.ireturn) 1 79 := ⟨by decide +kernel, rfl⟩
theorem d_F_rather_79 : mD m_F_rather 79 (.iinc 3 1) 3 82 := ⟨by decide +kernel, rfl⟩
theorem d_F_rather_82 : mJ m_F_rather 82 (.goto (-40)) (-40) 85 42 := ⟨by decide +kernel, rfl, rfl⟩
theorem d_F_rather_85 : mD m_F_rather 85 (.iconst (-1)) 1 86 := ⟨by decide +kernel, rfl⟩
theorem d_F_rather_86 : mD m_F_rather 86 (.ireturn) 1 87 := ⟨by decide +kernel, rfl⟩
theorem d_F_read_0 : mD m_F_read 0 (.iload_n 1) 1 1 := ⟨by decide +kernel, rfl⟩
theorem d_F_read_1 : mD m_F_read 1 (.invokestatic 115) 3 4 := ⟨by decide +kernel, rfl⟩
theorem d_F_read_4 : mJ m_F_read 4 (.ifCond .ne 6) (6) 7 10 := ⟨by decide +kernel, rfl, rfl⟩
theorem d_F_read_7 : mD m_F_read 7 (.bipush (-2)) 2 9 := ⟨by decide +kernel, rfl⟩
theorem d_F_read_9 : mD m_F_read 9 (.ireturn) 1 10 := ⟨by decide +kernel, rfl⟩
theorem d_F_read_10 : mD m_F_read 10 (.aload_n 0) 1 11 := ⟨by decide +kernel, rfl⟩
theorem d_F_read_11 : mD m_F_read 11 (.getfield 50) 3 14 := ⟨by decide +kernel, rfl⟩
theorem d_F_read_14 : mD m_F_read 14 (.iload_n 1) 1 15 := ⟨by decide +kernel, rfl⟩
theorem d_F_read_15 : mD m_F_read 15 (.aaload) 1 16 := ⟨by decide +kernel, rfl⟩
theorem d_F_read_16 : mD m_F_read 16 (.astore_n 2) 1 17 := ⟨by decide +kernel, rfl⟩
theorem d_F_read_17 : mD m_F_read 17 (.aload_n 2) 1 18 := ⟨by decide +kernel, rfl⟩
theorem d_F_read_18 : mD m_F_read 18 (.invokevirtual 118) 3 21 := ⟨by decide +kernel, rfl⟩
theorem d_F_read_21 : mJ m_F_read 21 (.ifCond .eq 9) (9) 24 30 := ⟨by decide +kernel, rfl, rfl⟩
theorem d_F_read_24 : mD m_F_read 24 (.aload_n 0) 1 25 := ⟨by decide +kernel, rfl⟩
theorem d_F_read_25 : mD m_F_read 25 (.iconst 1) 1 26 := ⟨by decide +kernel, rfl⟩
theorem d_F_read_26 : mD m_F_read 26 (.invokevirtual 121) 3 29 := ⟨by decide +kernel, rfl⟩
theorem d_F_read_29 : mD m_F_read 29 (.ireturn) 1 30 := ⟨by decide +kernel, rfl⟩
theorem d_F_read_30 : mD m_F_read 30 (.aload_n 0) 1 31 := ⟨by decide +kernel, rfl⟩
theorem d_F_read_31 : mD m_F_read 31 (.getfield 28) 3 34 := ⟨by decide +kernel, rfl⟩
theorem d_F_read_34 : mD m_F_read 34 (.invokevirtual 67) 3 37 := ⟨by decide +kernel, rfl⟩
theorem d_F_read_37 : mD m_F_read 37 (.iconst 0) 1 38 := ⟨by decide +kernel, rfl⟩
theorem d_F_read_38 : mD m_F_read 38 (.istore_n 3) 1 39 := ⟨by decide +kernel, rfl⟩
theorem d_F_read_39 : mD m_F_read 39 (.bipush 10) 2 41 := ⟨by decide +kernel, rfl⟩
theorem d_F_read_41 : mD m_F_read 41 (.aload_n 2) 1 42 := ⟨by decide +kernel, rfl⟩
theorem d_F_read_42 : mD m_F_read 42 (.getfield 124) 3 45 := ⟨by decide +kernel, rfl⟩
theorem d_F_read_45 : mD m_F_read 45 (.invokestatic 127) 3 48 := ⟨by decide +kernel, rfl⟩
theorem d_F_read_48 : mD m_F_read 48 (.istore 4) 2 50 := ⟨by decide +kernel, rfl⟩
theorem d_F_read_50 : mD m_F_read 50 (.iload_n 3) 1 51 := ⟨by decide +kernel, rfl⟩
theorem d_F_read_51 : mD m_F_read 51 (.iload 4) 2 53 := ⟨by decide +kernel, rfl⟩
theorem d_F_read_53 : mJ m_F_read 53 (.if_icmp .ge 37) (37) 56 90 := ⟨by decide +kernel, rfl, rfl⟩
theorem d_F_read_56 : mD m_F_read 56 (.aload_n 2) 1 57 := ⟨by decide +kernel, rfl⟩
theorem d_F_read_57 : mD m_F_read 57 (.iload_n 3) 1 58 := ⟨by decide +kernel, rfl⟩
theorem d_F_read_58 : mD m_F_read 58 (.invokevirtual 133) 3 61 := ⟨by decide +kernel, rfl⟩
theorem d_F_read_61 : mD m_F_read 61 (.iconst 0) 1 62 := ⟨by decide +kernel, rfl⟩
theorem d_F_read_62 : mD m_F_read 62 (.bipush 99) 2 64 := ⟨by decide +kernel, rfl⟩
theorem d_F_read_64 : mD m_F_read 64 (.invokestatic 59) 3 67 := ⟨by decide +kernel, rfl⟩
theorem d_F_read_67 : mJ m_F_read 67 (.ifCond .eq 23) (23) 70 90 := ⟨by decide +kernel, rfl, rfl⟩
theorem d_F_read_70 : mD m_F_read 70 (.aload_n 0) 1 71 := ⟨by decide +kernel, rfl⟩
theorem d_F_read_71 : mD m_F_read 71 (.getfield 10) 3 74 := ⟨by decide +kernel, rfl⟩
theorem d_F_read_74 : mD m_F_read 74 (.getfield 95) 3 77 := ⟨by decide +kernel, rfl⟩
theorem d_F_read_77 : mD m_F_read 77 (.iload_n 3) 1 78 := ⟨by decide +kernel, rfl⟩
theorem d_F_read_78 : mD m_F_read 78 (.aload_n 2) 1 79 := ⟨by decide +kernel, rfl⟩
theorem d_F_read_79 : mD m_F_read 79 (.iload_n 3) 1 80 := ⟨by decide +kernel, rfl⟩
theorem d_F_read_80 : mD m_F_read 80 (.invokevirtual 133) 3 83 := ⟨by decide +kernel, rfl⟩
theorem d_F_read_83 : mD m_F_read 83 (.iastore) 1 84 := ⟨by decide +kernel, rfl⟩
theorem d_F_read_84 : mD m_F_read 84 (.iinc 3 1) 3 87 := ⟨by decide +kernel, rfl⟩
theorem d_F_read_87 : mJ m_F_read 87 (.goto (-37)) (-37) 90 50 := ⟨by decide +kernel, rfl, rfl⟩
theorem d_F_read_90 : mD m_F_read 90 (.iload_n 3) 1 91 := ⟨by decide +kernel, rfl⟩
theorem d_F_read_91 : mD m_F_read 91 (.ireturn) 1 92 := ⟨by decide +kernel, rfl⟩
theorem d_F_refusalOf_0 : mD m_F_refusalOf 0 (.iload_n 1) 1 1 := ⟨by decide +kernel, rfl⟩
theorem d_F_refusalOf_1 : mD m_F_refusalOf 1 (.invokestatic 115) 3 4 := ⟨by decide +kernel, rfl⟩
theorem d_F_refusalOf_4 : mJ m_F_refusalOf 4 (.ifCond .ne 6) (6) 7 10 := ⟨by decide +kernel, rfl, rfl⟩
theorem d_F_refusalOf_7 : mD m_F_refusalOf 7 (.bipush (-2)) 2 9 := ⟨by decide +kernel, rfl⟩
theorem d_F_refusalOf_9 : mD m_F_refusalOf 9 (.ireturn) 1 10 := ⟨by decide +kernel, rfl⟩
theorem d_F_refusalOf_10 : mD m_F_refusalOf 10 (.aload_n 0) 1 11 := ⟨by decide +kernel, rfl⟩
theorem d_F_refusalOf_11 : mD m_F_refusalOf 11 (.getfield 50) 3 14 := ⟨by decide +kernel, rfl⟩
theorem d_F_refusalOf_14 : mD m_F_refusalOf 14 (.iload_n 1) 1 15 := ⟨by decide +kernel, rfl⟩
theorem d_F_refusalOf_15 : mD m_F_refusalOf 15 (.aaload) 1 16 := ⟨by decide +kernel, rfl⟩
theorem d_F_refusalOf_16 : mD m_F_refusalOf 16 (.invokevirtual 118) 3 19 := ⟨by decide +kernel, rfl⟩
theorem d_F_refusalOf_19 : mJ m_F_refusalOf 19 (.ifCond .eq 9) (9) 22 28 := ⟨by decide +kernel, rfl, rfl⟩
theorem d_F_refusalOf_22 : mD m_F_refusalOf 22 (.aload_n 0) 1 23 := ⟨by decide +kernel, rfl⟩
theorem d_F_refusalOf_23 : mD m_F_refusalOf 23 (.iconst 1) 1 24 := ⟨by decide +kernel, rfl⟩
theorem d_F_refusalOf_24 : mD m_F_refusalOf 24 (.invokevirtual 121) 3 27 := ⟨by decide +kernel, rfl⟩
theorem d_F_refusalOf_27 : mD m_F_refusalOf 27 (.ireturn) 1 28 := ⟨by decide +kernel, rfl⟩
theorem d_F_refusalOf_28 : mD m_F_refusalOf 28 (.aload_n 0) 1 29 := ⟨by decide +kernel, rfl⟩
theorem d_F_refusalOf_29 : mD m_F_refusalOf 29 (.getfield 50) 3 32 := ⟨by decide +kernel, rfl⟩
theorem d_F_refusalOf_32 : mD m_F_refusalOf 32 (.iload_n 1) 1 33 := ⟨by decide +kernel, rfl⟩
theorem d_F_refusalOf_33 : mD m_F_refusalOf 33 (.aaload) 1 34 := ⟨by decide +kernel, rfl⟩
theorem d_F_refusalOf_34 : mD m_F_refusalOf 34 (.getfield 124) 3 37 := ⟨by decide +kernel, rfl⟩
theorem d_F_refusalOf_37 : mD m_F_refusalOf 37 (.aload_n 0) 1 38 := ⟨by decide +kernel, rfl⟩
theorem d_F_refusalOf_38 : mD m_F_refusalOf 38 (.getfield 10) 3 41 := ⟨by decide +kernel, rfl⟩
theorem d_F_refusalOf_41 : mD m_F_refusalOf 41 (.getfield 177) 3 44 := ⟨by decide +kernel, rfl⟩
theorem d_F_refusalOf_44 : mJ m_F_refusalOf 44 (.if_icmp .ge 8) (8) 47 52 := ⟨by decide +kernel, rfl, rfl⟩
theorem d_F_refusalOf_47 : mD m_F_refusalOf 47 (.bipush (-3)) 2 49 := ⟨by decide +kernel, rfl⟩
theorem d_F_refusalOf_49 : mJ m_F_refusalOf 49 (.goto 4) (4) 52 53 := ⟨by decide +kernel, rfl, rfl⟩
theorem d_F_refusalOf_52 : mD m_F_refusalOf 52 (.iconst 0) 1 53 := ⟨by decide +kernel, rfl⟩
theorem d_F_refusalOf_53 : mD m_F_refusalOf 53 (.ireturn) 1 54 := ⟨by decide +kernel, rfl⟩
theorem d_F_seen_0 : mD m_F_seen 0 (.iload_n 1) 1 1 := ⟨by decide +kernel, rfl⟩
theorem d_F_seen_1 : mD m_F_seen 1 (.invokestatic 92) 3 4 := ⟨by decide +kernel, rfl⟩
theorem d_F_seen_4 : mJ m_F_seen 4 (.ifCond .eq 26) (26) 7 30 := ⟨by decide +kernel, rfl, rfl⟩
theorem d_F_seen_7 : mD m_F_seen 7 (.iload_n 2) 1 8 := ⟨by decide +kernel, rfl⟩
theorem d_F_seen_8 : mD m_F_seen 8 (.invokestatic 92) 3 11 := ⟨by decide +kernel, rfl⟩
theorem d_F_seen_11 : mJ m_F_seen 11 (.ifCond .eq 19) (19) 14 30 := ⟨by decide +kernel, rfl, rfl⟩
theorem d_F_seen_14 : mD m_F_seen 14 (.iload_n 1) 1 15 := ⟨by decide +kernel, rfl⟩
theorem d_F_seen_15 : mD m_F_seen 15 (.iload_n 2) 1 16 := ⟨by decide +kernel, rfl⟩
theorem d_F_seen_16 : mJ m_F_seen 16 (.if_icmp .eq 14) (14) 19 30 := ⟨by decide +kernel, rfl, rfl⟩
theorem d_F_seen_19 : mD m_F_seen 19 (.iload_n 3) 1 20 := ⟨by decide +kernel, rfl⟩
theorem d_F_seen_20 : mD m_F_seen 20 (.iconst 0) 1 21 := ⟨by decide +kernel, rfl⟩
theorem d_F_seen_21 : mD m_F_seen 21 (.sipush 200) 3 24 := ⟨by decide +kernel, rfl⟩
theorem d_F_seen_24 : mD m_F_seen 24 (.invokestatic 59) 3 27 := ⟨by decide +kernel, rfl⟩
theorem d_F_seen_27 : mJ m_F_seen 27 (.ifCond .ne 6) (6) 30 33 := ⟨by decide +kernel, rfl, rfl⟩
theorem d_F_seen_30 : mD m_F_seen 30 (.bipush (-2)) 2 32 := ⟨by decide +kernel, rfl⟩
theorem d_F_seen_32 : mD m_F_seen 32 (.ireturn) 1 33 := ⟨by decide +kernel, rfl⟩
theorem d_F_seen_33 : mD m_F_seen 33 (.aload_n 0) 1 34 := ⟨by decide +kernel, rfl⟩
theorem d_F_seen_34 : mD m_F_seen 34 (.getfield 44) 3 37 := ⟨by decide +kernel, rfl⟩
theorem d_F_seen_37 : mD m_F_seen 37 (.iload_n 1) 1 38 := ⟨by decide +kernel, rfl⟩
theorem d_F_seen_38 : mD m_F_seen 38 (.iload_n 2) 1 39 := ⟨by decide +kernel, rfl⟩
theorem d_F_seen_39 : mD m_F_seen 39 (.iload_n 3) 1 40 := ⟨by decide +kernel, rfl⟩
theorem d_F_seen_40 : mD m_F_seen 40 (.invokevirtual 226) 3 43 := ⟨by decide +kernel, rfl⟩
theorem d_F_seen_43 : mD m_F_seen 43 (.ireturn) 1 44 := ⟨by decide +kernel, rfl⟩
theorem d_F_set_0 : mD m_F_set 0 (.aload_n 0) 1 1 := ⟨by decide +kernel, rfl⟩
theorem d_F_set_1 : mD m_F_set 1 (.getfield 19) 3 4 := ⟨by decide +kernel, rfl⟩
theorem d_F_set_4 : mD m_F_set 4 (.iload_n 1) 1 5 := ⟨by decide +kernel, rfl⟩
theorem d_F_set_5 : mD m_F_set 5 (.iload_n 2) 1 6 := ⟨by decide +kernel, rfl⟩
theorem d_F_set_6 : mD m_F_set 6 (.invokevirtual 136) 3 9 := ⟨by decide +kernel, rfl⟩
theorem d_F_set_9 : mJ m_F_set 9 (.ifCond .ne 6) (6) 12 15 := ⟨by decide +kernel, rfl, rfl⟩
theorem d_F_set_12 : mD m_F_set 12 (.bipush (-2)) 2 14 := ⟨by decide +kernel, rfl⟩
theorem d_F_set_14 : mD m_F_set 14 (.ireturn) 1 15 := ⟨by decide +kernel, rfl⟩
theorem d_F_set_15 : mD m_F_set 15 (.aload_n 0) 1 16 := ⟨by decide +kernel, rfl⟩
theorem d_F_set_16 : mD m_F_set 16 (.getfield 28) 3 19 := ⟨by decide +kernel, rfl⟩
theorem d_F_set_19 : mD m_F_set 19 (.invokevirtual 67) 3 22 := ⟨by decide +kernel, rfl⟩
theorem d_F_set_22 : mD m_F_set 22 (.aload_n 0) 1 23 := ⟨by decide +kernel, rfl⟩
theorem d_F_set_23 : mD m_F_set 23 (.getfield 19) 3 26 := ⟨by decide +kernel, rfl⟩
theorem d_F_set_26 : mD m_F_set 26 (.getfield 140) 3 29 := ⟨by decide +kernel, rfl⟩
theorem d_F_set_29 : mD m_F_set 29 (.iload_n 1) 1 30 := ⟨by decide +kernel, rfl⟩
theorem d_F_set_30 : mD m_F_set 30 (.iload_n 2) 1 31 := ⟨by decide +kernel, rfl⟩
theorem d_F_set_31 : mD m_F_set 31 (.invokestatic 101) 3 34 := ⟨by decide +kernel, rfl⟩
theorem d_F_set_34 : mD m_F_set 34 (.ireturn) 1 35 := ⟨by decide +kernel, rfl⟩
theorem d_F_share_0 : mD m_F_share 0 (.aload_n 0) 1 1 := ⟨by decide +kernel, rfl⟩
theorem d_F_share_1 : mD m_F_share 1 (.getfield 10) 3 4 := ⟨by decide +kernel, rfl⟩
theorem d_F_share_4 : mD m_F_share 4 (.iload_n 1) 1 5 := ⟨by decide +kernel, rfl⟩
theorem d_F_share_5 : mD m_F_share 5 (.invokevirtual 82) 3 8 := ⟨by decide +kernel, rfl⟩
theorem d_F_share_8 : mJ m_F_share 8 (.ifCond .eq 12) (12) 11 20 := ⟨by decide +kernel, rfl, rfl⟩
theorem d_F_share_11 : mD m_F_share 11 (.iload_n 2) 1 12 := ⟨by decide +kernel, rfl⟩
theorem d_F_share_12 : mD m_F_share 12 (.iconst 0) 1 13 := ⟨by decide +kernel, rfl⟩
theorem d_F_share_13 : mD m_F_share 13 (.iconst 1) 1 14 := ⟨by decide +kernel, rfl⟩
theorem d_F_share_14 : mD m_F_share 14 (.invokestatic 59) 3 17 := ⟨by decide +kernel, rfl⟩
theorem d_F_share_17 : mJ m_F_share 17 (.ifCond .ne 9) (9) 20 26 := ⟨by decide +kernel, rfl, rfl⟩
theorem d_F_share_20 : mD m_F_share 20 (.bipush (-2)) 2 22 := ⟨by decide +kernel, rfl⟩
theorem d_F_share_22 : mD m_F_share 22 (.invokestatic 197) 3 25 := ⟨by decide +kernel, rfl⟩
theorem d_F_share_25 : mD m_F_share 25 (.lreturn) 1 26 := ⟨by decide +kernel, rfl⟩
theorem d_F_share_26 : mD m_F_share 26 (.aload_n 0) 1 27 := ⟨by decide +kernel, rfl⟩
theorem d_F_share_27 : mD m_F_share 27 (.getfield 10) 3 30 := ⟨by decide +kernel, rfl⟩
theorem d_F_share_30 : mD m_F_share 30 (.getfield 177) 3 33 := ⟨by decide +kernel, rfl⟩
theorem d_F_share_33 : mD m_F_share 33 (.bipush 6) 2 35 := ⟨by decide +kernel, rfl⟩
theorem d_F_share_35 : mJ m_F_share 35 (.if_icmp .le 9) (9) 38 44 := ⟨by decide +kernel, rfl, rfl⟩
theorem d_F_share_38 : mD m_F_share 38 (.bipush (-4)) 2 40 := ⟨by decide +kernel, rfl⟩
theorem d_F_share_40 : mD m_F_share 40 (.invokestatic 197) 3 43 := ⟨by decide +kernel, rfl⟩
theorem d_F_share_43 : mD m_F_share 43 (.lreturn) 1 44 := ⟨by decide +kernel, rfl⟩
theorem d_F_share_44 : mD m_F_share 44 (.aload_n 0) 1 45 := ⟨by decide +kernel, rfl⟩
theorem d_F_share_45 : mD m_F_share 45 (.getfield 28) 3 48 := ⟨by decide +kernel, rfl⟩
theorem d_F_share_48 : mD m_F_share 48 (.invokevirtual 162) 3 51 := ⟨by decide +kernel, rfl⟩
theorem d_F_share_51 : mD m_F_share 51 (.aload_n 0) 1 52 := ⟨by decide +kernel, rfl⟩
theorem d_F_share_52 : mD m_F_share 52 (.getfield 28) 3 55 := ⟨by decide +kernel, rfl⟩
theorem d_F_share_55 : mD m_F_share 55 (.aload_n 0) 1 56 := ⟨by decide +kernel, rfl⟩
theorem d_F_share_56 : mD m_F_share 56 (.getfield 10) 3 59 := ⟨by decide +kernel, rfl⟩
theorem d_F_share_59 : mD m_F_share 59 (.invokevirtual 180) 3 62 := ⟨by decide +kernel, rfl⟩
theorem d_F_share_62 : mD m_F_share 62 (.invokevirtual 165) 3 65 := ⟨by decide +kernel, rfl⟩
theorem d_F_share_65 : mD m_F_share 65 (.iconst (-1)) 1 66 := ⟨by decide +kernel, rfl⟩
theorem d_F_share_66 : mJ m_F_share 66 (.if_icmp .ne 9) (9) 69 75 := ⟨by decide +kernel, rfl, rfl⟩
theorem d_F_share_69 : mD m_F_share 69 (.bipush (-3)) 2 71 := ⟨by decide +kernel, rfl⟩
theorem d_F_share_71 : mD m_F_share 71 (.invokestatic 197) 3 74 := ⟨by decide +kernel, rfl⟩
theorem d_F_share_74 : mD m_F_share 74 (.lreturn) 1 75 := ⟨by decide +kernel, rfl⟩
theorem d_F_share_75 : mD m_F_share 75 (.aload_n 0) 1 76 := ⟨by decide +kernel, rfl⟩
theorem d_F_share_76 : mD m_F_share 76 (.getfield 28) 3 79 := ⟨by decide +kernel, rfl⟩
theorem d_F_share_79 : mD m_F_share 79 (.iload_n 1) 1 80 := ⟨by decide +kernel, rfl⟩
theorem d_F_share_80 : mD m_F_share 80 (.invokevirtual 210) 3 83 := ⟨by decide +kernel, rfl⟩
theorem d_F_share_83 : mD m_F_share 83 (.aload_n 0) 1 84 := ⟨by decide +kernel, rfl⟩
theorem d_F_share_84 : mD m_F_share 84 (.getfield 28) 3 87 := ⟨by decide +kernel, rfl⟩
theorem d_F_share_87 : mD m_F_share 87 (.aload_n 0) 1 88 := ⟨by decide +kernel, rfl⟩
theorem d_F_share_88 : mD m_F_share 88 (.getfield 10) 3 91 := ⟨by decide +kernel, rfl⟩
theorem d_F_share_91 : mD m_F_share 91 (.getfield 177) 3 94 := ⟨by decide +kernel, rfl⟩
theorem d_F_share_94 : mD m_F_share 94 (.invokevirtual 213) 3 97 := ⟨by decide +kernel, rfl⟩
theorem d_F_share_97 : mD m_F_share 97 (.i2l) 1 98 := ⟨by decide +kernel, rfl⟩
theorem d_F_share_98 : mD m_F_share 98 (.iload_n 2) 1 99 := ⟨by decide +kernel, rfl⟩
theorem d_F_share_99 : mD m_F_share 99 (.invokestatic 206) 3 102 := ⟨by decide +kernel, rfl⟩
theorem d_F_share_102 : mD m_F_share 102 (.lreturn) 1 103 := ⟨by decide +kernel, rfl⟩
theorem d_F_sheet_0 : mD m_F_sheet 0 (.iload_n 1) 1 1 := ⟨by decide +kernel, rfl⟩
theorem d_F_sheet_1 : mD m_F_sheet 1 (.invokestatic 115) 3 4 := ⟨by decide +kernel, rfl⟩
theorem d_F_sheet_4 : mJ m_F_sheet 4 (.ifCond .eq 16) (16) 7 20 := ⟨by decide +kernel, rfl, rfl⟩
theorem d_F_sheet_7 : mD m_F_sheet 7 (.iload_n 2) 1 8 := ⟨by decide +kernel, rfl⟩
theorem d_F_sheet_8 : mD m_F_sheet 8 (.invokestatic 247) 3 11 := ⟨by decide +kernel, rfl⟩
theorem d_F_sheet_11 : mJ m_F_sheet 11 (.ifCond .eq 9) (9) 14 20 := ⟨by decide +kernel, rfl, rfl⟩
theorem d_F_sheet_14 : mD m_F_sheet 14 (.iload_n 3) 1 15 := ⟨by decide +kernel, rfl⟩
theorem d_F_sheet_15 : mD m_F_sheet 15 (.bipush 60) 2 17 := ⟨by decide +kernel, rfl⟩
theorem d_F_sheet_17 : mJ m_F_sheet 17 (.if_icmp .le 6) (6) 20 23 := ⟨by decide +kernel, rfl, rfl⟩
theorem d_F_sheet_20 : mD m_F_sheet 20 (.bipush (-2)) 2 22 := ⟨by decide +kernel, rfl⟩
theorem d_F_sheet_22 : mD m_F_sheet 22 (.ireturn) 1 23 := ⟨by decide +kernel, rfl⟩
theorem d_F_sheet_23 : mD m_F_sheet 23 (.iload_n 3) 1 24 := ⟨by decide +kernel, rfl⟩
theorem d_F_sheet_24 : mJ m_F_sheet 24 (.ifCond .ge 9) (9) 27 33 := ⟨by decide +kernel, rfl, rfl⟩
theorem d_F_sheet_27 : mD m_F_sheet 27 (.aload_n 0) 1 28 := ⟨by decide +kernel, rfl⟩
theorem d_F_sheet_28 : mD m_F_sheet 28 (.iconst 5) 1 29 := ⟨by decide +kernel, rfl⟩
theorem d_F_sheet_29 : mD m_F_sheet 29 (.invokevirtual 121) 3 32 := ⟨by decide +kernel, rfl⟩
theorem d_F_sheet_32 : mD m_F_sheet 32 (.ireturn) 1 33 := ⟨by decide +kernel, rfl⟩
theorem d_F_sheet_33 : mD m_F_sheet 33 (.aload_n 0) 1 34 := ⟨by decide +kernel, rfl⟩
theorem d_F_sheet_34 : mD m_F_sheet 34 (.getfield 50) 3 37 := ⟨by decide +kernel, rfl⟩
theorem d_F_sheet_37 : mD m_F_sheet 37 (.iload_n 1) 1 38 := ⟨by decide +kernel, rfl⟩
theorem d_F_sheet_38 : mD m_F_sheet 38 (.aaload) 1 39 := ⟨by decide +kernel, rfl⟩
theorem d_F_sheet_39 : mD m_F_sheet 39 (.iload_n 2) 1 40 := ⟨by decide +kernel, rfl⟩
theorem d_F_sheet_40 : mD m_F_sheet 40 (.iload_n 3) 1 41 := ⟨by decide +kernel, rfl⟩
theorem d_F_sheet_41 : mD m_F_sheet 41 (.invokevirtual 250) 3 44 := ⟨by decide +kernel, rfl⟩
theorem d_F_sheet_44 : mD m_F_sheet 44 (.iload_n 3) 1 45 := ⟨by decide +kernel, rfl⟩
theorem d_F_sheet_45 : mD m_F_sheet 45 (.ireturn) 1 46 := ⟨by decide +kernel, rfl⟩
theorem d_F_type_0 : mD m_F_type 0 (.iload_n 1) 1 1 := ⟨by decide +kernel, rfl⟩
theorem d_F_type_1 : mD m_F_type 1 (.iconst 0) 1 2 := ⟨by decide +kernel, rfl⟩
theorem d_F_type_2 : mD m_F_type 2 (.sipush 255) 3 5 := ⟨by decide +kernel, rfl⟩
theorem d_F_type_5 : mD m_F_type 5 (.invokestatic 59) 3 8 := ⟨by decide +kernel, rfl⟩
theorem d_F_type_8 : mJ m_F_type 8 (.ifCond .ne 6) (6) 11 14 := ⟨by decide +kernel, rfl, rfl⟩
theorem d_F_type_11 : mD m_F_type 11 (.bipush (-2)) 2 13 := ⟨by decide +kernel, rfl⟩
theorem d_F_type_13 : mD m_F_type 13 (.ireturn) 1 14 := ⟨by decide +kernel, rfl⟩
theorem d_F_type_14 : mD m_F_type 14 (.aload_n 0) 1 15 := ⟨by decide +kernel, rfl⟩
theorem d_F_type_15 : mD m_F_type 15 (.getfield 10) 3 18 := ⟨by decide +kernel, rfl⟩
theorem d_F_type_18 : mD m_F_type 18 (.invokevirtual 63) 3 21 := ⟨by decide +kernel, rfl⟩
theorem d_F_type_21 : mJ m_F_type 21 (.ifCond .eq 6) (6) 24 27 := ⟨by decide +kernel, rfl, rfl⟩
theorem d_F_type_24 : mD m_F_type 24 (.bipush (-4)) 2 26 := ⟨by decide +kernel, rfl⟩
theorem d_F_type_26 : mD m_F_type 26 (.ireturn) 1 27 := ⟨by decide +kernel, rfl⟩
theorem d_F_type_27 : mD m_F_type 27 (.aload_n 0) 1 28 := ⟨by decide +kernel, rfl⟩
theorem d_F_type_28 : mD m_F_type 28 (.getfield 28) 3 31 := ⟨by decide +kernel, rfl⟩
theorem d_F_type_31 : mD m_F_type 31 (.invokevirtual 67) 3 34 := ⟨by decide +kernel, rfl⟩
theorem d_F_type_34 : mD m_F_type 34 (.aload_n 0) 1 35 := ⟨by decide +kernel, rfl⟩
theorem d_F_type_35 : mD m_F_type 35 (.getfield 10) 3 38 := ⟨by decide +kernel, rfl⟩
theorem d_F_type_38 : mD m_F_type 38 (.iload_n 1) 1 39 := ⟨by decide +kernel, rfl⟩
theorem d_F_type_39 : mD m_F_type 39 (.invokevirtual 70) 3 42 := ⟨by decide +kernel, rfl⟩
theorem d_F_type_42 : mD m_F_type 42 (.ireturn) 1 43 := ⟨by decide +kernel, rfl⟩
theorem d_F_wipe_0 : mD m_F_wipe 0 (.aload_n 0) 1 1 := ⟨by decide +kernel, rfl⟩
theorem d_F_wipe_1 : mD m_F_wipe 1 (.getfield 28) 3 4 := ⟨by decide +kernel, rfl⟩
theorem d_F_wipe_4 : mD m_F_wipe 4 (.invokevirtual 67) 3 7 := ⟨by decide +kernel, rfl⟩
theorem d_F_wipe_7 : mD m_F_wipe 7 (.aload_n 0) 1 8 := ⟨by decide +kernel, rfl⟩
theorem d_F_wipe_8 : mD m_F_wipe 8 (.getfield 10) 3 11 := ⟨by decide +kernel, rfl⟩
theorem d_F_wipe_11 : mD m_F_wipe 11 (.invokevirtual 74) 3 14 := ⟨by decide +kernel, rfl⟩
theorem d_F_wipe_14 : mD m_F_wipe 14 (.ireturn) 1 15 := ⟨by decide +kernel, rfl⟩
theorem d_F_with_0 : mD m_F_with 0 (.aload_n 0) 1 1 := ⟨by decide +kernel, rfl⟩
theorem d_F_with_1 : mD m_F_with 1 (.getfield 10) 3 4 := ⟨by decide +kernel, rfl⟩
theorem d_F_with_4 : mD m_F_with 4 (.iload_n 1) 1 5 := ⟨by decide +kernel, rfl⟩
theorem d_F_with_5 : mD m_F_with 5 (.invokevirtual 82) 3 8 := ⟨by decide +kernel, rfl⟩
theorem d_F_with_8 : mJ m_F_with 8 (.ifCond .ne 6) (6) 11 14 := ⟨by decide +kernel, rfl, rfl⟩
theorem d_F_with_11 : mD m_F_with 11 (.bipush (-2)) 2 13 := ⟨by decide +kernel, rfl⟩
theorem d_F_with_13 : mD m_F_with 13 (.ireturn) 1 14 := ⟨by decide +kernel, rfl⟩
theorem d_F_with_14 : mD m_F_with 14 (.aload_n 0) 1 15 := ⟨by decide +kernel, rfl⟩
theorem d_F_with_15 : mD m_F_with 15 (.getfield 28) 3 18 := ⟨by decide +kernel, rfl⟩
theorem d_F_with_18 : mD m_F_with 18 (.invokevirtual 162) 3 21 := ⟨by decide +kernel, rfl⟩
theorem d_F_with_21 : mD m_F_with 21 (.aload_n 0) 1 22 := ⟨by decide +kernel, rfl⟩
theorem d_F_with_22 : mD m_F_with 22 (.getfield 28) 3 25 := ⟨by decide +kernel, rfl⟩
theorem d_F_with_25 : mD m_F_with 25 (.iconst 1) 1 26 := ⟨by decide +kernel, rfl⟩
theorem d_F_with_26 : mD m_F_with 26 (.iload_n 1) 1 27 := ⟨by decide +kernel, rfl⟩
theorem d_F_with_27 : mD m_F_with 27 (.ishl) 1 28 := ⟨by decide +kernel, rfl⟩
theorem d_F_with_28 : mD m_F_with 28 (.invokevirtual 174) 3 31 := ⟨by decide +kernel, rfl⟩
theorem d_F_with_31 : mD m_F_with 31 (.ireturn) 1 32 := ⟨by decide +kernel, rfl⟩
theorem d_F_write_0 : mD m_F_write 0 (.iload_n 1) 1 1 := ⟨by decide +kernel, rfl⟩
theorem d_F_write_1 : mD m_F_write 1 (.invokestatic 115) 3 4 := ⟨by decide +kernel, rfl⟩
theorem d_F_write_4 : mJ m_F_write 4 (.ifCond .ne 6) (6) 7 10 := ⟨by decide +kernel, rfl, rfl⟩
theorem d_F_write_7 : mD m_F_write 7 (.bipush (-2)) 2 9 := ⟨by decide +kernel, rfl⟩
theorem d_F_write_9 : mD m_F_write 9 (.ireturn) 1 10 := ⟨by decide +kernel, rfl⟩
theorem d_F_write_10 : mD m_F_write 10 (.aload_n 0) 1 11 := ⟨by decide +kernel, rfl⟩
theorem d_F_write_11 : mD m_F_write 11 (.getfield 50) 3 14 := ⟨by decide +kernel, rfl⟩
theorem d_F_write_14 : mD m_F_write 14 (.iload_n 1) 1 15 := ⟨by decide +kernel, rfl⟩
theorem d_F_write_15 : mD m_F_write 15 (.aaload) 1 16 := ⟨by decide +kernel, rfl⟩
theorem d_F_write_16 : mD m_F_write 16 (.invokevirtual 118) 3 19 := ⟨by decide +kernel, rfl⟩
theorem d_F_write_19 : mJ m_F_write 19 (.ifCond .eq 9) (9) 22 28 := ⟨by decide +kernel, rfl, rfl⟩
theorem d_F_write_22 : mD m_F_write 22 (.aload_n 0) 1 23 := ⟨by decide +kernel, rfl⟩
theorem d_F_write_23 : mD m_F_write 23 (.iconst 1) 1 24 := ⟨by decide +kernel, rfl⟩
theorem d_F_write_24 : mD m_F_write 24 (.invokevirtual 121) 3 27 := ⟨by decide +kernel, rfl⟩
theorem d_F_write_27 : mD m_F_write 27 (.ireturn) 1 28 := ⟨by decide +kernel, rfl⟩
theorem d_F_write_28 : mD m_F_write 28 (.aload_n 0) 1 29 := ⟨by decide +kernel, rfl⟩
theorem d_F_write_29 : mD m_F_write 29 (.getfield 28) 3 32 := ⟨by decide +kernel, rfl⟩
theorem d_F_write_32 : mD m_F_write 32 (.invokevirtual 162) 3 35 := ⟨by decide +kernel, rfl⟩
theorem d_F_write_35 : mD m_F_write 35 (.aload_n 0) 1 36 := ⟨by decide +kernel, rfl⟩
theorem d_F_write_36 : mD m_F_write 36 (.getfield 28) 3 39 := ⟨by decide +kernel, rfl⟩
theorem d_F_write_39 : mD m_F_write 39 (.aload_n 0) 1 40 := ⟨by decide +kernel, rfl⟩
theorem d_F_write_40 : mD m_F_write 40 (.getfield 10) 3 43 := ⟨by decide +kernel, rfl⟩
theorem d_F_write_43 : mD m_F_write 43 (.invokevirtual 180) 3 46 := ⟨by decide +kernel, rfl⟩
theorem d_F_write_46 : mD m_F_write 46 (.invokevirtual 165) 3 49 := ⟨by decide +kernel, rfl⟩
theorem d_F_write_49 : mD m_F_write 49 (.iconst (-1)) 1 50 := ⟨by decide +kernel, rfl⟩
theorem d_F_write_50 : mJ m_F_write 50 (.if_icmp .ne 6) (6) 53 56 := ⟨by decide +kernel, rfl, rfl⟩
theorem d_F_write_53 : mD m_F_write 53 (.bipush (-3)) 2 55 := ⟨by decide +kernel, rfl⟩
theorem d_F_write_55 : mD m_F_write 55 (.ireturn) 1 56 := ⟨by decide +kernel, rfl⟩
theorem d_F_write_56 : mD m_F_write 56 (.aload_n 0) 1 57 := ⟨by decide +kernel, rfl⟩
theorem d_F_write_57 : mD m_F_write 57 (.aload_n 0) 1 58 := ⟨by decide +kernel, rfl⟩
theorem d_F_write_58 : mD m_F_write 58 (.getfield 50) 3 61 := ⟨by decide +kernel, rfl⟩
theorem d_F_write_61 : mD m_F_write 61 (.iload_n 1) 1 62 := ⟨by decide +kernel, rfl⟩
theorem d_F_write_62 : mD m_F_write 62 (.aaload) 1 63 := ⟨by decide +kernel, rfl⟩
theorem d_F_write_63 : mD m_F_write 63 (.invokevirtual 282) 3 66 := ⟨by decide +kernel, rfl⟩
theorem d_F_write_66 : mD m_F_write 66 (.aload_n 0) 1 67 := ⟨by decide +kernel, rfl⟩
theorem d_F_write_67 : mD m_F_write 67 (.getfield 50) 3 70 := ⟨by decide +kernel, rfl⟩
theorem d_F_write_70 : mD m_F_write 70 (.iload_n 1) 1 71 := ⟨by decide +kernel, rfl⟩
theorem d_F_write_71 : mD m_F_write 71 (.aaload) 1 72 := ⟨by decide +kernel, rfl⟩
theorem d_F_write_72 : mD m_F_write 72 (.getfield 124) 3 75 := ⟨by decide +kernel, rfl⟩
theorem d_F_write_75 : mD m_F_write 75 (.aload_n 0) 1 76 := ⟨by decide +kernel, rfl⟩
theorem d_F_write_76 : mD m_F_write 76 (.getfield 10) 3 79 := ⟨by decide +kernel, rfl⟩
theorem d_F_write_79 : mD m_F_write 79 (.getfield 177) 3 82 := ⟨by decide +kernel, rfl⟩
theorem d_F_write_82 : mD m_F_write 82 (.invokestatic 127) 3 85 := ⟨by decide +kernel, rfl⟩
theorem d_F_write_85 : mD m_F_write 85 (.ireturn) 1 86 := ⟨by decide +kernel, rfl⟩
theorem d_F_writeBoats_0 : mD m_F_writeBoats 0 (.aload_n 0) 1 1 := ⟨by decide +kernel, rfl⟩
theorem d_F_writeBoats_1 : mD m_F_writeBoats 1 (.getfield 10) 3 4 := ⟨by decide +kernel, rfl⟩
theorem d_F_writeBoats_4 : mD m_F_writeBoats 4 (.invokevirtual 180) 3 7 := ⟨by decide +kernel, rfl⟩
theorem d_F_writeBoats_7 : mD m_F_writeBoats 7 (.istore_n 2) 1 8 := ⟨by decide +kernel, rfl⟩
theorem d_F_writeBoats_8 : mD m_F_writeBoats 8 (.iconst 0) 1 9 := ⟨by decide +kernel, rfl⟩
theorem d_F_writeBoats_9 : mD m_F_writeBoats 9 (.istore_n 3) 1 10 := ⟨by decide +kernel, rfl⟩
theorem d_F_writeBoats_10 : mD m_F_writeBoats 10 (.iload_n 3) 1 11 := ⟨by decide +kernel, rfl⟩
theorem d_F_writeBoats_11 : mD m_F_writeBoats 11 (.bipush 10) 2 13 := ⟨by decide +kernel, rfl⟩
theorem d_F_writeBoats_13 : mJ m_F_writeBoats 13 (.if_icmp .ge 71) (71) 16 84 := ⟨by decide +kernel, rfl, rfl⟩
theorem d_F_writeBoats_16 : mD m_F_writeBoats 16 (.iload_n 2) 1 17 := ⟨by decide +kernel, rfl⟩
theorem d_F_writeBoats_17 : mJ m_F_writeBoats 17 (.ifCond .eq 67) (67) 20 84 := ⟨by decide +kernel, rfl, rfl⟩
theorem d_F_writeBoats_20 : mD m_F_writeBoats 20 (.aload_n 0) 1 21 := ⟨by decide +kernel, rfl⟩
theorem d_F_writeBoats_21 : mD m_F_writeBoats 21 (.getfield 28) 3 24 := ⟨by decide +kernel, rfl⟩
theorem d_F_writeBoats_24 : mD m_F_writeBoats 24 (.iload_n 2) 1 25 := ⟨by decide +kernel, rfl⟩
theorem d_F_writeBoats_25 : mD m_F_writeBoats 25 (.invokestatic 344) 3 28 := ⟨by decide +kernel, rfl⟩
theorem d_F_writeBoats_28 : mD m_F_writeBoats 28 (.invokevirtual 174) 3 31 := ⟨by decide +kernel, rfl⟩
theorem d_F_writeBoats_31 : mD m_F_writeBoats 31 (.istore 4) 2 33 := ⟨by decide +kernel, rfl⟩
theorem d_F_writeBoats_33 : mD m_F_writeBoats 33 (.iconst 0) 1 34 := ⟨by decide +kernel, rfl⟩
theorem d_F_writeBoats_34 : mD m_F_writeBoats 34 (.istore 5) 2 36 := ⟨by decide +kernel, rfl⟩
theorem d_F_writeBoats_36 : mD m_F_writeBoats 36 (.iload 5) 2 38 := ⟨by decide +kernel, rfl⟩
theorem d_F_writeBoats_38 : mD m_F_writeBoats 38 (.aload_n 0) 1 39 := ⟨by decide +kernel, rfl⟩
theorem d_F_writeBoats_39 : mD m_F_writeBoats 39 (.getfield 10) 3 42 := ⟨by decide +kernel, rfl⟩
theorem d_F_writeBoats_42 : mD m_F_writeBoats 42 (.getfield 177) 3 45 := ⟨by decide +kernel, rfl⟩
theorem d_F_writeBoats_45 : mJ m_F_writeBoats 45 (.if_icmp .ge 26) (26) 48 71 := ⟨by decide +kernel, rfl, rfl⟩
theorem d_F_writeBoats_48 : mD m_F_writeBoats 48 (.iload 4) 2 50 := ⟨by decide +kernel, rfl⟩
theorem d_F_writeBoats_50 : mD m_F_writeBoats 50 (.iconst 1) 1 51 := ⟨by decide +kernel, rfl⟩
theorem d_F_writeBoats_51 : mD m_F_writeBoats 51 (.iload 5) 2 53 := ⟨by decide +kernel, rfl⟩
theorem d_F_writeBoats_53 : mD m_F_writeBoats 53 (.ishl) 1 54 := ⟨by decide +kernel, rfl⟩
theorem d_F_writeBoats_54 : mD m_F_writeBoats 54 (.iand) 1 55 := ⟨by decide +kernel, rfl⟩
theorem d_F_writeBoats_55 : mJ m_F_writeBoats 55 (.ifCond .eq 10) (10) 58 65 := ⟨by decide +kernel, rfl, rfl⟩
theorem d_F_writeBoats_58 : mD m_F_writeBoats 58 (.aload_n 1) 1 59 := ⟨by decide +kernel, rfl⟩
theorem d_F_writeBoats_59 : mD m_F_writeBoats 59 (.iload 5) 2 61 := ⟨by decide +kernel, rfl⟩
theorem d_F_writeBoats_61 : mD m_F_writeBoats 61 (.iload_n 3) 1 62 := ⟨by decide +kernel, rfl⟩
theorem d_F_writeBoats_62 : mD m_F_writeBoats 62 (.invokevirtual 260) 3 65 := ⟨by decide +kernel, rfl⟩
theorem d_F_writeBoats_65 : mD m_F_writeBoats 65 (.iinc 5 1) 3 68 := ⟨by decide +kernel, rfl⟩
theorem d_F_writeBoats_68 : mJ m_F_writeBoats 68 (.goto (-32)) (-32) 71 36 := ⟨by decide +kernel, rfl, rfl⟩
theorem d_F_writeBoats_71 : mD m_F_writeBoats 71 (.iload_n 2) 1 72 := ⟨by decide +kernel, rfl⟩
theorem d_F_writeBoats_72 : mD m_F_writeBoats 72 (.iload 4) 2 74 := ⟨by decide +kernel, rfl⟩
theorem d_F_writeBoats_74 : mD m_F_writeBoats 74 (.iconst (-1)) 1 75 := ⟨by decide +kernel, rfl⟩
theorem d_F_writeBoats_75 : mD m_F_writeBoats 75 (.ixor) 1 76 := ⟨by decide +kernel, rfl⟩
theorem d_F_writeBoats_76 : mD m_F_writeBoats 76 (.iand) 1 77 := ⟨by decide +kernel, rfl⟩
theorem d_F_writeBoats_77 : mD m_F_writeBoats 77 (.istore_n 2) 1 78 := ⟨by decide +kernel, rfl⟩
theorem d_F_writeBoats_78 : mD m_F_writeBoats 78 (.iinc 3 1) 3 81 := ⟨by decide +kernel, rfl⟩
theorem d_F_writeBoats_81 : mJ m_F_writeBoats 81 (.goto (-71)) (-71) 84 10 := ⟨by decide +kernel, rfl, rfl⟩
theorem d_F_writeBoats_84 : mD m_F_writeBoats 84 (.return_) 1 85 := ⟨by decide +kernel, rfl⟩
theorem d_G_add_0 : mD m_G_add 0 (.aload_n 0) 1 1 := ⟨by decide +kernel, rfl⟩
theorem d_G_add_1 : mD m_G_add 1 (.getfield 21) 3 4 := ⟨by decide +kernel, rfl⟩
theorem d_G_add_4 : mD m_G_add 4 (.bipush 8) 2 6 := ⟨by decide +kernel, rfl⟩
theorem d_G_add_6 : mJ m_G_add 6 (.if_icmp .lt 6) (6) 9 12 := ⟨by decide +kernel, rfl, rfl⟩
theorem d_G_add_9 : mD m_G_add 9 (.bipush (-4)) 2 11 := ⟨by decide +kernel, rfl⟩
theorem d_G_add_11 : mD m_G_add 11 (.ireturn) 1 12 := ⟨by decide +kernel, rfl⟩
theorem d_G_add_12 : mD m_G_add 12 (.aload_n 0) 1 13 := ⟨by decide +kernel, rfl⟩
theorem d_G_add_13 : mD m_G_add 13 (.getfield 11) 3 16 := ⟨by decide +kernel, rfl⟩
theorem d_G_add_16 : mD m_G_add 16 (.aload_n 0) 1 17 := ⟨by decide +kernel, rfl⟩
theorem d_G_add_17 : mD m_G_add 17 (.getfield 21) 3 20 := ⟨by decide +kernel, rfl⟩
theorem d_G_add_20 : mD m_G_add 20 (.iload_n 1) 1 21 := ⟨by decide +kernel, rfl⟩
theorem d_G_add_21 : mD m_G_add 21 (.iastore) 1 22 := ⟨by decide +kernel, rfl⟩
theorem d_G_add_22 : mD m_G_add 22 (.aload_n 0) 1 23 := ⟨by decide +kernel, rfl⟩
theorem d_G_add_23 : mD m_G_add 23 (.getfield 15) 3 26 := ⟨by decide +kernel, rfl⟩
theorem d_G_add_26 : mD m_G_add 26 (.aload_n 0) 1 27 := ⟨by decide +kernel, rfl⟩
theorem d_G_add_27 : mD m_G_add 27 (.getfield 21) 3 30 := ⟨by decide +kernel, rfl⟩
theorem d_G_add_30 : mD m_G_add 30 (.iload_n 2) 1 31 := ⟨by decide +kernel, rfl⟩
theorem d_G_add_31 : mD m_G_add 31 (.iastore) 1 32 := ⟨by decide +kernel, rfl⟩
theorem d_G_add_32 : mD m_G_add 32 (.aload_n 0) 1 33 := ⟨by decide +kernel, rfl⟩
theorem d_G_add_33 : mD m_G_add 33 (.getfield 18) 3 36 := ⟨by decide +kernel, rfl⟩
theorem d_G_add_36 : mD m_G_add 36 (.aload_n 0) 1 37 := ⟨by decide +kernel, rfl⟩
theorem d_G_add_37 : mD m_G_add 37 (.getfield 21) 3 40 := ⟨by decide +kernel, rfl⟩
theorem d_G_add_40 : mD m_G_add 40 (.iload_n 3) 1 41 := ⟨by decide +kernel, rfl⟩
theorem d_G_add_41 : mD m_G_add 41 (.iastore) 1 42 := ⟨by decide +kernel, rfl⟩
theorem d_G_add_42 : mD m_G_add 42 (.aload_n 0) 1 43 := ⟨by decide +kernel, rfl⟩
theorem d_G_add_43 : mD m_G_add 43 (.dup) 1 44 := ⟨by decide +kernel, rfl⟩
theorem d_G_add_44 : mD m_G_add 44 (.getfield 21) 3 47 := ⟨by decide +kernel, rfl⟩
theorem d_G_add_47 : mD m_G_add 47 (.iconst 1) 1 48 := ⟨by decide +kernel, rfl⟩
theorem d_G_add_48 : mD m_G_add 48 (.iadd) 1 49 := ⟨by decide +kernel, rfl⟩
theorem d_G_add_49 : mD m_G_add 49 (.putfield 21) 3 52 := ⟨by decide +kernel, rfl⟩
theorem d_G_add_52 : mD m_G_add 52 (.aload_n 0) 1 53 := ⟨by decide +kernel, rfl⟩
theorem d_G_add_53 : mD m_G_add 53 (.getfield 21) 3 56 := ⟨by decide +kernel, rfl⟩
theorem d_G_add_56 : mD m_G_add 56 (.ireturn) 1 57 := ⟨by decide +kernel, rfl⟩
theorem d_G_allow_0 : mD m_G_allow 0 (.aload_n 1) 1 1 := ⟨by decide +kernel, rfl⟩
theorem d_G_allow_1 : mD m_G_allow 1 (.iload_n 2) 1 2 := ⟨by decide +kernel, rfl⟩
theorem d_G_allow_2 : mD m_G_allow 2 (.iload_n 3) 1 3 := ⟨by decide +kernel, rfl⟩
theorem d_G_allow_3 : mD m_G_allow 3 (.invokevirtual 25) 3 6 := ⟨by decide +kernel, rfl⟩
theorem d_G_allow_6 : mD m_G_allow 6 (.istore 4) 2 8 := ⟨by decide +kernel, rfl⟩
theorem d_G_allow_8 : mD m_G_allow 8 (.iconst 0) 1 9 := ⟨by decide +kernel, rfl⟩
theorem d_G_allow_9 : mD m_G_allow 9 (.istore 5) 2 11 := ⟨by decide +kernel, rfl⟩
theorem d_G_allow_11 : mD m_G_allow 11 (.iload 5) 2 13 := ⟨by decide +kernel, rfl⟩
theorem d_G_allow_13 : mD m_G_allow 13 (.aload_n 0) 1 14 := ⟨by decide +kernel, rfl⟩
theorem d_G_allow_14 : mD m_G_allow 14 (.getfield 21) 3 17 := ⟨by decide +kernel, rfl⟩
theorem d_G_allow_17 : mJ m_G_allow 17 (.if_icmp .ge 59) (59) 20 76 := ⟨by decide +kernel, rfl, rfl⟩
theorem d_G_allow_20 : mD m_G_allow 20 (.iload 5) 2 22 := ⟨by decide +kernel, rfl⟩
theorem d_G_allow_22 : mD m_G_allow 22 (.bipush 8) 2 24 := ⟨by decide +kernel, rfl⟩
theorem d_G_allow_24 : mJ m_G_allow 24 (.if_icmp .ge 52) (52) 27 76 := ⟨by decide +kernel, rfl, rfl⟩
theorem d_G_allow_27 : mD m_G_allow 27 (.aload_n 0) 1 28 := ⟨by decide +kernel, rfl⟩
theorem d_G_allow_28 : mD m_G_allow 28 (.iload 5) 2 30 := ⟨by decide +kernel, rfl⟩
theorem d_G_allow_30 : mD m_G_allow 30 (.iload_n 2) 1 31 := ⟨by decide +kernel, rfl⟩
theorem d_G_allow_31 : mD m_G_allow 31 (.invokevirtual 31) 3 34 := ⟨by decide +kernel, rfl⟩
theorem d_G_allow_34 : mD m_G_allow 34 (.istore 6) 2 36 := ⟨by decide +kernel, rfl⟩
theorem d_G_allow_36 : mD m_G_allow 36 (.aload_n 1) 1 37 := ⟨by decide +kernel, rfl⟩
theorem d_G_allow_37 : mD m_G_allow 37 (.iload 6) 2 39 := ⟨by decide +kernel, rfl⟩
theorem d_G_allow_39 : mD m_G_allow 39 (.invokevirtual 34) 3 42 := ⟨by decide +kernel, rfl⟩
theorem d_G_allow_42 : mJ m_G_allow 42 (.ifCond .eq 28) (28) 45 70 := ⟨by decide +kernel, rfl, rfl⟩
theorem d_G_allow_45 : mD m_G_allow 45 (.iload 4) 2 47 := ⟨by decide +kernel, rfl⟩
theorem d_G_allow_47 : mD m_G_allow 47 (.aload_n 1) 1 48 := ⟨by decide +kernel, rfl⟩
theorem d_G_allow_48 : mD m_G_allow 48 (.getfield 38) 3 51 := ⟨by decide +kernel, rfl⟩
theorem d_G_allow_51 : mD m_G_allow 51 (.iload 6) 2 53 := ⟨by decide +kernel, rfl⟩
theorem d_G_allow_53 : mD m_G_allow 53 (.iaload) 1 54 := ⟨by decide +kernel, rfl⟩
theorem d_G_allow_54 : mD m_G_allow 54 (.isub) 1 55 := ⟨by decide +kernel, rfl⟩
theorem d_G_allow_55 : mD m_G_allow 55 (.invokestatic 41) 3 58 := ⟨by decide +kernel, rfl⟩
theorem d_G_allow_58 : mD m_G_allow 58 (.aload_n 0) 1 59 := ⟨by decide +kernel, rfl⟩
theorem d_G_allow_59 : mD m_G_allow 59 (.getfield 18) 3 62 := ⟨by decide +kernel, rfl⟩
theorem d_G_allow_62 : mD m_G_allow 62 (.iload 5) 2 64 := ⟨by decide +kernel, rfl⟩
theorem d_G_allow_64 : mD m_G_allow 64 (.iaload) 1 65 := ⟨by decide +kernel, rfl⟩
theorem d_G_allow_65 : mJ m_G_allow 65 (.if_icmp .eq 5) (5) 68 70 := ⟨by decide +kernel, rfl, rfl⟩
theorem d_G_allow_68 : mD m_G_allow 68 (.iconst 0) 1 69 := ⟨by decide +kernel, rfl⟩
theorem d_G_allow_69 : mD m_G_allow 69 (.ireturn) 1 70 := ⟨by decide +kernel, rfl⟩
theorem d_G_allow_70 : mD m_G_allow 70 (.iinc 5 1) 3 73 := ⟨by decide +kernel, rfl⟩
theorem d_G_allow_73 : mJ m_G_allow 73 (.goto (-62)) (-62) 76 11 := ⟨by decide +kernel, rfl, rfl⟩
theorem d_G_allow_76 : mD m_G_allow 76 (.iconst 1) 1 77 := ⟨by decide +kernel, rfl⟩
theorem d_G_allow_77 : mD m_G_allow 77 (.ireturn) 1 78 := ⟨by decide +kernel, rfl⟩
theorem d_G_drop_0 : mD m_G_drop 0 (.aload_n 0) 1 1 := ⟨by decide +kernel, rfl⟩
theorem d_G_drop_1 : mD m_G_drop 1 (.getfield 21) 3 4 := ⟨by decide +kernel, rfl⟩
theorem d_G_drop_4 : mD m_G_drop 4 (.istore_n 1) 1 5 := ⟨by decide +kernel, rfl⟩
theorem d_G_drop_5 : mD m_G_drop 5 (.aload_n 0) 1 6 := ⟨by decide +kernel, rfl⟩
theorem d_G_drop_6 : mD m_G_drop 6 (.iconst 0) 1 7 := ⟨by decide +kernel, rfl⟩
theorem d_G_drop_7 : mD m_G_drop 7 (.putfield 21) 3 10 := ⟨by decide +kernel, rfl⟩
theorem d_G_drop_10 : mD m_G_drop 10 (.iload_n 1) 1 11 := ⟨by decide +kernel, rfl⟩
theorem d_G_drop_11 : mD m_G_drop 11 (.ireturn) 1 12 := ⟨by decide +kernel, rfl⟩
theorem d_G_otherOf_0 : mD m_G_otherOf 0 (.aload_n 0) 1 1 := ⟨by decide +kernel, rfl⟩
theorem d_G_otherOf_1 : mD m_G_otherOf 1 (.getfield 11) 3 4 := ⟨by decide +kernel, rfl⟩
theorem d_G_otherOf_4 : mD m_G_otherOf 4 (.iload_n 1) 1 5 := ⟨by decide +kernel, rfl⟩
theorem d_G_otherOf_5 : mD m_G_otherOf 5 (.iaload) 1 6 := ⟨by decide +kernel, rfl⟩
theorem d_G_otherOf_6 : mD m_G_otherOf 6 (.iload_n 2) 1 7 := ⟨by decide +kernel, rfl⟩
theorem d_G_otherOf_7 : mJ m_G_otherOf 7 (.if_icmp .ne 10) (10) 10 17 := ⟨by decide +kernel, rfl, rfl⟩
theorem d_G_otherOf_10 : mD m_G_otherOf 10 (.aload_n 0) 1 11 := ⟨by decide +kernel, rfl⟩
theorem d_G_otherOf_11 : mD m_G_otherOf 11 (.getfield 15) 3 14 := ⟨by decide +kernel, rfl⟩
theorem d_G_otherOf_14 : mD m_G_otherOf 14 (.iload_n 1) 1 15 := ⟨by decide +kernel, rfl⟩
theorem d_G_otherOf_15 : mD m_G_otherOf 15 (.iaload) 1 16 := ⟨by decide +kernel, rfl⟩
theorem d_G_otherOf_16 : mD m_G_otherOf 16 (.ireturn) 1 17 := ⟨by decide +kernel, rfl⟩
theorem d_G_otherOf_17 : mD m_G_otherOf 17 (.aload_n 0) 1 18 := ⟨by decide +kernel, rfl⟩
theorem d_G_otherOf_18 : mD m_G_otherOf 18 (.getfield 15) 3 21 := ⟨by decide +kernel, rfl⟩
theorem d_G_otherOf_21 : mD m_G_otherOf 21 (.iload_n 1) 1 22 := ⟨by decide +kernel, rfl⟩
theorem d_G_otherOf_22 : mD m_G_otherOf 22 (.iaload) 1 23 := ⟨by decide +kernel, rfl⟩
theorem d_G_otherOf_23 : mD m_G_otherOf 23 (.iload_n 2) 1 24 := ⟨by decide +kernel, rfl⟩
theorem d_G_otherOf_24 : mJ m_G_otherOf 24 (.if_icmp .ne 12) (12) 27 36 := ⟨by decide +kernel, rfl, rfl⟩
theorem d_G_otherOf_27 : mD m_G_otherOf 27 (.aload_n 0) 1 28 := ⟨by decide +kernel, rfl⟩
theorem d_G_otherOf_28 : mD m_G_otherOf 28 (.getfield 11) 3 31 := ⟨by decide +kernel, rfl⟩
theorem d_G_otherOf_31 : mD m_G_otherOf 31 (.iload_n 1) 1 32 := ⟨by decide +kernel, rfl⟩
theorem d_G_otherOf_32 : mD m_G_otherOf 32 (.iaload) 1 33 := ⟨by decide +kernel, rfl⟩
theorem d_G_otherOf_33 : mJ m_G_otherOf 33 (.goto 4) (4) 36 37 := ⟨by decide +kernel, rfl, rfl⟩
theorem d_G_otherOf_36 : mD m_G_otherOf 36 (.iconst (-1)) 1 37 := ⟨by decide +kernel, rfl⟩
theorem d_G_otherOf_37 : mD m_G_otherOf 37 (.ireturn) 1 38 := ⟨by decide +kernel, rfl⟩
theorem d_J_abs_i_0 : mD m_J_abs_i 0 (.iload_n 0) 1 1 := ⟨by decide +kernel, rfl⟩
theorem d_J_abs_i_1 : mJ m_J_abs_i 1 (.ifCond .ge 8) (8) 4 9 := ⟨by decide +kernel, rfl, rfl⟩
theorem d_J_abs_i_4 : mD m_J_abs_i 4 (.iload_n 0) 1 5 := ⟨by decide +kernel, rfl⟩
theorem d_J_abs_i_5 : mD m_J_abs_i 5 (.ineg) 1 6 := ⟨by decide +kernel, rfl⟩
theorem d_J_abs_i_6 : mJ m_J_abs_i 6 (.goto 4) (4) 9 10 := ⟨by decide +kernel, rfl, rfl⟩
theorem d_J_abs_i_9 : mD m_J_abs_i 9 (.iload_n 0) 1 10 := ⟨by decide +kernel, rfl⟩
theorem d_J_abs_i_10 : mD m_J_abs_i 10 (.ireturn) 1 11 := ⟨by decide +kernel, rfl⟩
theorem d_J_abs_l_0 : mD m_J_abs_l 0 (.lload_n 0) 1 1 := ⟨by decide +kernel, rfl⟩
theorem d_J_abs_l_1 : mD m_J_abs_l 1 (.lconst 0) 1 2 := ⟨by decide +kernel, rfl⟩
theorem d_J_abs_l_2 : mD m_J_abs_l 2 (.lcmp) 1 3 := ⟨by decide +kernel, rfl⟩
theorem d_J_abs_l_3 : mJ m_J_abs_l 3 (.ifCond .ge 8) (8) 6 11 := ⟨by decide +kernel, rfl, rfl⟩
theorem d_J_abs_l_6 : mD m_J_abs_l 6 (.lload_n 0) 1 7 := ⟨by decide +kernel, rfl⟩
theorem d_J_abs_l_7 : mD m_J_abs_l 7 (.lneg) 1 8 := ⟨by decide +kernel, rfl⟩
theorem d_J_abs_l_8 : mJ m_J_abs_l 8 (.goto 4) (4) 11 12 := ⟨by decide +kernel, rfl, rfl⟩
theorem d_J_abs_l_11 : mD m_J_abs_l 11 (.lload_n 0) 1 12 := ⟨by decide +kernel, rfl⟩
theorem d_J_abs_l_12 : mD m_J_abs_l 12 (.lreturn) 1 13 := ⟨by decide +kernel, rfl⟩
theorem d_J_bitCount_0 : mD m_J_bitCount 0 (.iload_n 0) 1 1 := ⟨by decide +kernel, rfl⟩
theorem d_J_bitCount_1 : mD m_J_bitCount 1 (.iload_n 0) 1 2 := ⟨by decide +kernel, rfl⟩
theorem d_J_bitCount_2 : mD m_J_bitCount 2 (.iconst 1) 1 3 := ⟨by decide +kernel, rfl⟩
theorem d_J_bitCount_3 : mD m_J_bitCount 3 (.iushr) 1 4 := ⟨by decide +kernel, rfl⟩
theorem d_J_bitCount_4 : mD m_J_bitCount 4 (.ldc_w 265) 3 7 := ⟨by decide +kernel, rfl⟩
theorem d_J_bitCount_7 : mD m_J_bitCount 7 (.iand) 1 8 := ⟨by decide +kernel, rfl⟩
theorem d_J_bitCount_8 : mD m_J_bitCount 8 (.isub) 1 9 := ⟨by decide +kernel, rfl⟩
theorem d_J_bitCount_9 : mD m_J_bitCount 9 (.istore_n 0) 1 10 := ⟨by decide +kernel, rfl⟩
theorem d_J_bitCount_10 : mD m_J_bitCount 10 (.iload_n 0) 1 11 := ⟨by decide +kernel, rfl⟩
theorem d_J_bitCount_11 : mD m_J_bitCount 11 (.ldc_w 266) 3 14 := ⟨by decide +kernel, rfl⟩
theorem d_J_bitCount_14 : mD m_J_bitCount 14 (.iand) 1 15 := ⟨by decide +kernel, rfl⟩
theorem d_J_bitCount_15 : mD m_J_bitCount 15 (.iload_n 0) 1 16 := ⟨by decide +kernel, rfl⟩
theorem d_J_bitCount_16 : mD m_J_bitCount 16 (.iconst 2) 1 17 := ⟨by decide +kernel, rfl⟩
theorem d_J_bitCount_17 : mD m_J_bitCount 17 (.iushr) 1 18 := ⟨by decide +kernel, rfl⟩
theorem d_J_bitCount_18 : mD m_J_bitCount 18 (.ldc_w 266) 3 21 := ⟨by decide +kernel, rfl⟩
theorem d_J_bitCount_21 : mD m_J_bitCount 21 (.iand) 1 22 := ⟨by decide +kernel, rfl⟩
theorem d_J_bitCount_22 : mD m_J_bitCount 22 (.iadd) 1 23 := ⟨by decide +kernel, rfl⟩
theorem d_J_bitCount_23 : mD m_J_bitCount 23 (.istore_n 0) 1 24 := ⟨by decide +kernel, rfl⟩
theorem d_J_bitCount_24 : mD m_J_bitCount 24 (.iload_n 0) 1 25 := ⟨by decide +kernel, rfl⟩
theorem d_J_bitCount_25 : mD m_J_bitCount 25 (.iload_n 0) 1 26 := ⟨by decide +kernel, rfl⟩
theorem d_J_bitCount_26 : mD m_J_bitCount 26 (.iconst 4) 1 27 := ⟨by decide +kernel, rfl⟩
theorem d_J_bitCount_27 : mD m_J_bitCount 27 (.iushr) 1 28 := ⟨by decide +kernel, rfl⟩
theorem d_J_bitCount_28 : mD m_J_bitCount 28 (.iadd) 1 29 := ⟨by decide +kernel, rfl⟩
theorem d_J_bitCount_29 : mD m_J_bitCount 29 (.ldc_w 267) 3 32 := ⟨by decide +kernel, rfl⟩
theorem d_J_bitCount_32 : mD m_J_bitCount 32 (.iand) 1 33 := ⟨by decide +kernel, rfl⟩
theorem d_J_bitCount_33 : mD m_J_bitCount 33 (.istore_n 0) 1 34 := ⟨by decide +kernel, rfl⟩
theorem d_J_bitCount_34 : mD m_J_bitCount 34 (.iload_n 0) 1 35 := ⟨by decide +kernel, rfl⟩
theorem d_J_bitCount_35 : mD m_J_bitCount 35 (.iload_n 0) 1 36 := ⟨by decide +kernel, rfl⟩
theorem d_J_bitCount_36 : mD m_J_bitCount 36 (.bipush 8) 2 38 := ⟨by decide +kernel, rfl⟩
theorem d_J_bitCount_38 : mD m_J_bitCount 38 (.iushr) 1 39 := ⟨by decide +kernel, rfl⟩
theorem d_J_bitCount_39 : mD m_J_bitCount 39 (.iadd) 1 40 := ⟨by decide +kernel, rfl⟩
theorem d_J_bitCount_40 : mD m_J_bitCount 40 (.istore_n 0) 1 41 := ⟨by decide +kernel, rfl⟩
theorem d_J_bitCount_41 : mD m_J_bitCount 41 (.iload_n 0) 1 42 := ⟨by decide +kernel, rfl⟩
theorem d_J_bitCount_42 : mD m_J_bitCount 42 (.iload_n 0) 1 43 := ⟨by decide +kernel, rfl⟩
theorem d_J_bitCount_43 : mD m_J_bitCount 43 (.bipush 16) 2 45 := ⟨by decide +kernel, rfl⟩
theorem d_J_bitCount_45 : mD m_J_bitCount 45 (.iushr) 1 46 := ⟨by decide +kernel, rfl⟩
theorem d_J_bitCount_46 : mD m_J_bitCount 46 (.iadd) 1 47 := ⟨by decide +kernel, rfl⟩
theorem d_J_bitCount_47 : mD m_J_bitCount 47 (.istore_n 0) 1 48 := ⟨by decide +kernel, rfl⟩
theorem d_J_bitCount_48 : mD m_J_bitCount 48 (.iload_n 0) 1 49 := ⟨by decide +kernel, rfl⟩
theorem d_J_bitCount_49 : mD m_J_bitCount 49 (.bipush 63) 2 51 := ⟨by decide +kernel, rfl⟩
theorem d_J_bitCount_51 : mD m_J_bitCount 51 (.iand) 1 52 := ⟨by decide +kernel, rfl⟩
theorem d_J_bitCount_52 : mD m_J_bitCount 52 (.ireturn) 1 53 := ⟨by decide +kernel, rfl⟩
theorem d_J_max_0 : mD m_J_max 0 (.iload_n 0) 1 1 := ⟨by decide +kernel, rfl⟩
theorem d_J_max_1 : mD m_J_max 1 (.iload_n 1) 1 2 := ⟨by decide +kernel, rfl⟩
theorem d_J_max_2 : mJ m_J_max 2 (.if_icmp .lt 7) (7) 5 9 := ⟨by decide +kernel, rfl, rfl⟩
theorem d_J_max_5 : mD m_J_max 5 (.iload_n 0) 1 6 := ⟨by decide +kernel, rfl⟩
theorem d_J_max_6 : mJ m_J_max 6 (.goto 4) (4) 9 10 := ⟨by decide +kernel, rfl, rfl⟩
theorem d_J_max_9 : mD m_J_max 9 (.iload_n 1) 1 10 := ⟨by decide +kernel, rfl⟩
theorem d_J_max_10 : mD m_J_max 10 (.ireturn) 1 11 := ⟨by decide +kernel, rfl⟩
theorem d_J_min_0 : mD m_J_min 0 (.iload_n 0) 1 1 := ⟨by decide +kernel, rfl⟩
theorem d_J_min_1 : mD m_J_min 1 (.iload_n 1) 1 2 := ⟨by decide +kernel, rfl⟩
theorem d_J_min_2 : mJ m_J_min 2 (.if_icmp .gt 7) (7) 5 9 := ⟨by decide +kernel, rfl, rfl⟩
theorem d_J_min_5 : mD m_J_min 5 (.iload_n 0) 1 6 := ⟨by decide +kernel, rfl⟩
theorem d_J_min_6 : mJ m_J_min 6 (.goto 4) (4) 9 10 := ⟨by decide +kernel, rfl, rfl⟩
theorem d_J_min_9 : mD m_J_min 9 (.iload_n 1) 1 10 := ⟨by decide +kernel, rfl⟩
theorem d_J_min_10 : mD m_J_min 10 (.ireturn) 1 11 := ⟨by decide +kernel, rfl⟩
theorem d_L_law_0 : mD m_L_law 0 (.new 7) 3 3 := ⟨by decide +kernel, rfl⟩
theorem d_L_law_3 : mD m_L_law 3 (.dup) 1 4 := ⟨by decide +kernel, rfl⟩
theorem d_L_law_4 : mD m_L_law 4 (.invokespecial 9) 3 7 := ⟨by decide +kernel, rfl⟩
theorem d_L_law_7 : mD m_L_law 7 (.astore_n 1) 1 8 := ⟨by decide +kernel, rfl⟩
theorem d_L_law_8 : mD m_L_law 8 (.new 10) 3 11 := ⟨by decide +kernel, rfl⟩
theorem d_L_law_11 : mD m_L_law 11 (.dup) 1 12 := ⟨by decide +kernel, rfl⟩
theorem d_L_law_12 : mD m_L_law 12 (.invokespecial 12) 3 15 := ⟨by decide +kernel, rfl⟩
theorem d_L_law_15 : mD m_L_law 15 (.astore_n 2) 1 16 := ⟨by decide +kernel, rfl⟩
theorem d_L_law_16 : mD m_L_law 16 (.iconst 0) 1 17 := ⟨by decide +kernel, rfl⟩
theorem d_L_law_17 : mD m_L_law 17 (.istore_n 3) 1 18 := ⟨by decide +kernel, rfl⟩
theorem d_L_law_18 : mD m_L_law 18 (.iload_n 3) 1 19 := ⟨by decide +kernel, rfl⟩
theorem d_L_law_19 : mD m_L_law 19 (.aload_n 0) 1 20 := ⟨by decide +kernel, rfl⟩
theorem d_L_law_20 : mD m_L_law 20 (.arraylength) 1 21 := ⟨by decide +kernel, rfl⟩
theorem d_L_law_21 : mD m_L_law 21 (.bipush 6) 2 23 := ⟨by decide +kernel, rfl⟩
theorem d_L_law_23 : mD m_L_law 23 (.isub) 1 24 := ⟨by decide +kernel, rfl⟩
theorem d_L_law_24 : mJ m_L_law 24 (.if_icmp .gt 1107) (1107) 27 1131 := ⟨by decide +kernel, rfl, rfl⟩
theorem d_L_law_27 : mD m_L_law 27 (.aload_n 0) 1 28 := ⟨by decide +kernel, rfl⟩
theorem d_L_law_28 : mD m_L_law 28 (.iload_n 3) 1 29 := ⟨by decide +kernel, rfl⟩
theorem d_L_law_29 : mD m_L_law 29 (.iaload) 1 30 := ⟨by decide +kernel, rfl⟩
theorem d_L_law_30 : mD m_L_law 30 (.bipush 31) 2 32 := ⟨by decide +kernel, rfl⟩
theorem d_L_law_32 : mD m_L_law 32 (.iand) 1 33 := ⟨by decide +kernel, rfl⟩
theorem d_L_law_33 : mD m_L_law 33 (.tableswitch 1092 0 31 #[143, 166, 179, 192, 225, 268, 301, 324, 357, 410, 443, 476, 499, 512, 535, 558, 592, 626, 649, 682, 695, 738, 751, 784, 807, 850, 873, 926, 969, 1032, 1055, 1078]) 143 176 := ⟨by decide +kernel, rfl⟩
theorem d_L_law_176 : mD m_L_law 176 (.aload_n 1) 1 177 := ⟨by decide +kernel, rfl⟩
theorem d_L_law_177 : mD m_L_law 177 (.aload_n 0) 1 178 := ⟨by decide +kernel, rfl⟩
theorem d_L_law_178 : mD m_L_law 178 (.iload_n 3) 1 179 := ⟨by decide +kernel, rfl⟩
theorem d_L_law_179 : mD m_L_law 179 (.iconst 1) 1 180 := ⟨by decide +kernel, rfl⟩
theorem d_L_law_180 : mD m_L_law 180 (.iadd) 1 181 := ⟨by decide +kernel, rfl⟩
theorem d_L_law_181 : mD m_L_law 181 (.iaload) 1 182 := ⟨by decide +kernel, rfl⟩
theorem d_L_law_182 : mD m_L_law 182 (.invokevirtual 13) 3 185 := ⟨by decide +kernel, rfl⟩
theorem d_L_law_185 : mD m_L_law 185 (.aload_n 2) 1 186 := ⟨by decide +kernel, rfl⟩
theorem d_L_law_186 : mD m_L_law 186 (.aload_n 0) 1 187 := ⟨by decide +kernel, rfl⟩
theorem d_L_law_187 : mD m_L_law 187 (.iload_n 3) 1 188 := ⟨by decide +kernel, rfl⟩
theorem d_L_law_188 : mD m_L_law 188 (.iconst 1) 1 189 := ⟨by decide +kernel, rfl⟩
theorem d_L_law_189 : mD m_L_law 189 (.iadd) 1 190 := ⟨by decide +kernel, rfl⟩
theorem d_L_law_190 : mD m_L_law 190 (.iaload) 1 191 := ⟨by decide +kernel, rfl⟩
theorem d_L_law_191 : mD m_L_law 191 (.invokevirtual 17) 3 194 := ⟨by decide +kernel, rfl⟩
theorem d_L_law_194 : mJ m_L_law 194 (.if_icmp .eq 931) (931) 197 1125 := ⟨by decide +kernel, rfl, rfl⟩
theorem d_L_law_197 : mD m_L_law 197 (.iconst 0) 1 198 := ⟨by decide +kernel, rfl⟩
theorem d_L_law_198 : mD m_L_law 198 (.ireturn) 1 199 := ⟨by decide +kernel, rfl⟩
theorem d_L_law_199 : mD m_L_law 199 (.aload_n 1) 1 200 := ⟨by decide +kernel, rfl⟩
theorem d_L_law_200 : mD m_L_law 200 (.invokevirtual 18) 3 203 := ⟨by decide +kernel, rfl⟩
theorem d_L_law_203 : mD m_L_law 203 (.aload_n 2) 1 204 := ⟨by decide +kernel, rfl⟩
theorem d_L_law_204 : mD m_L_law 204 (.invokevirtual 22) 3 207 := ⟨by decide +kernel, rfl⟩
theorem d_L_law_207 : mJ m_L_law 207 (.if_icmp .eq 918) (918) 210 1125 := ⟨by decide +kernel, rfl, rfl⟩
theorem d_L_law_210 : mD m_L_law 210 (.iconst 0) 1 211 := ⟨by decide +kernel, rfl⟩
theorem d_L_law_211 : mD m_L_law 211 (.ireturn) 1 212 := ⟨by decide +kernel, rfl⟩
theorem d_L_law_212 : mD m_L_law 212 (.aload_n 1) 1 213 := ⟨by decide +kernel, rfl⟩
theorem d_L_law_213 : mD m_L_law 213 (.invokevirtual 23) 3 216 := ⟨by decide +kernel, rfl⟩
theorem d_L_law_216 : mD m_L_law 216 (.aload_n 2) 1 217 := ⟨by decide +kernel, rfl⟩
theorem d_L_law_217 : mD m_L_law 217 (.invokevirtual 26) 3 220 := ⟨by decide +kernel, rfl⟩
theorem d_L_law_220 : mJ m_L_law 220 (.if_icmp .eq 905) (905) 223 1125 := ⟨by decide +kernel, rfl, rfl⟩
theorem d_L_law_223 : mD m_L_law 223 (.iconst 0) 1 224 := ⟨by decide +kernel, rfl⟩
theorem d_L_law_224 : mD m_L_law 224 (.ireturn) 1 225 := ⟨by decide +kernel, rfl⟩
theorem d_L_law_225 : mD m_L_law 225 (.aload_n 1) 1 226 := ⟨by decide +kernel, rfl⟩
theorem d_L_law_226 : mD m_L_law 226 (.aload_n 0) 1 227 := ⟨by decide +kernel, rfl⟩
theorem d_L_law_227 : mD m_L_law 227 (.iload_n 3) 1 228 := ⟨by decide +kernel, rfl⟩
theorem d_L_law_228 : mD m_L_law 228 (.iconst 1) 1 229 := ⟨by decide +kernel, rfl⟩
theorem d_L_law_229 : mD m_L_law 229 (.iadd) 1 230 := ⟨by decide +kernel, rfl⟩
theorem d_L_law_230 : mD m_L_law 230 (.iaload) 1 231 := ⟨by decide +kernel, rfl⟩
theorem d_L_law_231 : mD m_L_law 231 (.aload_n 0) 1 232 := ⟨by decide +kernel, rfl⟩
theorem d_L_law_232 : mD m_L_law 232 (.iload_n 3) 1 233 := ⟨by decide +kernel, rfl⟩
theorem d_L_law_233 : mD m_L_law 233 (.iconst 2) 1 234 := ⟨by decide +kernel, rfl⟩
theorem d_L_law_234 : mD m_L_law 234 (.iadd) 1 235 := ⟨by decide +kernel, rfl⟩
theorem d_L_law_235 : mD m_L_law 235 (.iaload) 1 236 := ⟨by decide +kernel, rfl⟩
theorem d_L_law_236 : mD m_L_law 236 (.invokevirtual 27) 3 239 := ⟨by decide +kernel, rfl⟩
theorem d_L_law_239 : mD m_L_law 239 (.aload_n 2) 1 240 := ⟨by decide +kernel, rfl⟩
theorem d_L_law_240 : mD m_L_law 240 (.aload_n 0) 1 241 := ⟨by decide +kernel, rfl⟩
theorem d_L_law_241 : mD m_L_law 241 (.iload_n 3) 1 242 := ⟨by decide +kernel, rfl⟩
theorem d_L_law_242 : mD m_L_law 242 (.iconst 1) 1 243 := ⟨by decide +kernel, rfl⟩
theorem d_L_law_243 : mD m_L_law 243 (.iadd) 1 244 := ⟨by decide +kernel, rfl⟩
theorem d_L_law_244 : mD m_L_law 244 (.iaload) 1 245 := ⟨by decide +kernel, rfl⟩
theorem d_L_law_245 : mD m_L_law 245 (.aload_n 0) 1 246 := ⟨by decide +kernel, rfl⟩
theorem d_L_law_246 : mD m_L_law 246 (.iload_n 3) 1 247 := ⟨by decide +kernel, rfl⟩
theorem d_L_law_247 : mD m_L_law 247 (.iconst 2) 1 248 := ⟨by decide +kernel, rfl⟩
theorem d_L_law_248 : mD m_L_law 248 (.iadd) 1 249 := ⟨by decide +kernel, rfl⟩
theorem d_L_law_249 : mD m_L_law 249 (.iaload) 1 250 := ⟨by decide +kernel, rfl⟩
theorem d_L_law_250 : mD m_L_law 250 (.invokevirtual 31) 3 253 := ⟨by decide +kernel, rfl⟩
theorem d_L_law_253 : mJ m_L_law 253 (.if_icmp .eq 872) (872) 256 1125 := ⟨by decide +kernel, rfl, rfl⟩
theorem d_L_law_256 : mD m_L_law 256 (.iconst 0) 1 257 := ⟨by decide +kernel, rfl⟩
theorem d_L_law_257 : mD m_L_law 257 (.ireturn) 1 258 := ⟨by decide +kernel, rfl⟩
theorem d_L_law_258 : mD m_L_law 258 (.aload_n 1) 1 259 := ⟨by decide +kernel, rfl⟩
theorem d_L_law_259 : mD m_L_law 259 (.aload_n 0) 1 260 := ⟨by decide +kernel, rfl⟩
theorem d_L_law_260 : mD m_L_law 260 (.iload_n 3) 1 261 := ⟨by decide +kernel, rfl⟩
theorem d_L_law_261 : mD m_L_law 261 (.iconst 1) 1 262 := ⟨by decide +kernel, rfl⟩
theorem d_L_law_262 : mD m_L_law 262 (.iadd) 1 263 := ⟨by decide +kernel, rfl⟩
theorem d_L_law_263 : mD m_L_law 263 (.iaload) 1 264 := ⟨by decide +kernel, rfl⟩
theorem d_L_law_264 : mD m_L_law 264 (.aload_n 0) 1 265 := ⟨by decide +kernel, rfl⟩
theorem d_L_law_265 : mD m_L_law 265 (.iload_n 3) 1 266 := ⟨by decide +kernel, rfl⟩
theorem d_L_law_266 : mD m_L_law 266 (.iconst 2) 1 267 := ⟨by decide +kernel, rfl⟩
theorem d_L_law_267 : mD m_L_law 267 (.iadd) 1 268 := ⟨by decide +kernel, rfl⟩
theorem d_L_law_268 : mD m_L_law 268 (.iaload) 1 269 := ⟨by decide +kernel, rfl⟩
theorem d_L_law_269 : mD m_L_law 269 (.aload_n 0) 1 270 := ⟨by decide +kernel, rfl⟩
theorem d_L_law_270 : mD m_L_law 270 (.iload_n 3) 1 271 := ⟨by decide +kernel, rfl⟩
theorem d_L_law_271 : mD m_L_law 271 (.iconst 3) 1 272 := ⟨by decide +kernel, rfl⟩
theorem d_L_law_272 : mD m_L_law 272 (.iadd) 1 273 := ⟨by decide +kernel, rfl⟩
theorem d_L_law_273 : mD m_L_law 273 (.iaload) 1 274 := ⟨by decide +kernel, rfl⟩
theorem d_L_law_274 : mD m_L_law 274 (.invokevirtual 32) 3 277 := ⟨by decide +kernel, rfl⟩
theorem d_L_law_277 : mD m_L_law 277 (.aload_n 2) 1 278 := ⟨by decide +kernel, rfl⟩
theorem d_L_law_278 : mD m_L_law 278 (.aload_n 0) 1 279 := ⟨by decide +kernel, rfl⟩
theorem d_L_law_279 : mD m_L_law 279 (.iload_n 3) 1 280 := ⟨by decide +kernel, rfl⟩
theorem d_L_law_280 : mD m_L_law 280 (.iconst 1) 1 281 := ⟨by decide +kernel, rfl⟩
theorem d_L_law_281 : mD m_L_law 281 (.iadd) 1 282 := ⟨by decide +kernel, rfl⟩
theorem d_L_law_282 : mD m_L_law 282 (.iaload) 1 283 := ⟨by decide +kernel, rfl⟩
theorem d_L_law_283 : mD m_L_law 283 (.aload_n 0) 1 284 := ⟨by decide +kernel, rfl⟩
theorem d_L_law_284 : mD m_L_law 284 (.iload_n 3) 1 285 := ⟨by decide +kernel, rfl⟩
theorem d_L_law_285 : mD m_L_law 285 (.iconst 2) 1 286 := ⟨by decide +kernel, rfl⟩
theorem d_L_law_286 : mD m_L_law 286 (.iadd) 1 287 := ⟨by decide +kernel, rfl⟩
theorem d_L_law_287 : mD m_L_law 287 (.iaload) 1 288 := ⟨by decide +kernel, rfl⟩
theorem d_L_law_288 : mD m_L_law 288 (.aload_n 0) 1 289 := ⟨by decide +kernel, rfl⟩
theorem d_L_law_289 : mD m_L_law 289 (.iload_n 3) 1 290 := ⟨by decide +kernel, rfl⟩
theorem d_L_law_290 : mD m_L_law 290 (.iconst 3) 1 291 := ⟨by decide +kernel, rfl⟩
theorem d_L_law_291 : mD m_L_law 291 (.iadd) 1 292 := ⟨by decide +kernel, rfl⟩
theorem d_L_law_292 : mD m_L_law 292 (.iaload) 1 293 := ⟨by decide +kernel, rfl⟩
theorem d_L_law_293 : mD m_L_law 293 (.invokevirtual 36) 3 296 := ⟨by decide +kernel, rfl⟩
theorem d_L_law_296 : mJ m_L_law 296 (.if_icmp .eq 829) (829) 299 1125 := ⟨by decide +kernel, rfl, rfl⟩
theorem d_L_law_299 : mD m_L_law 299 (.iconst 0) 1 300 := ⟨by decide +kernel, rfl⟩
theorem d_L_law_300 : mD m_L_law 300 (.ireturn) 1 301 := ⟨by decide +kernel, rfl⟩
theorem d_L_law_301 : mD m_L_law 301 (.aload_n 1) 1 302 := ⟨by decide +kernel, rfl⟩
theorem d_L_law_302 : mD m_L_law 302 (.aload_n 0) 1 303 := ⟨by decide +kernel, rfl⟩
theorem d_L_law_303 : mD m_L_law 303 (.iload_n 3) 1 304 := ⟨by decide +kernel, rfl⟩
theorem d_L_law_304 : mD m_L_law 304 (.iconst 1) 1 305 := ⟨by decide +kernel, rfl⟩
theorem d_L_law_305 : mD m_L_law 305 (.iadd) 1 306 := ⟨by decide +kernel, rfl⟩
theorem d_L_law_306 : mD m_L_law 306 (.iaload) 1 307 := ⟨by decide +kernel, rfl⟩
theorem d_L_law_307 : mD m_L_law 307 (.aload_n 0) 1 308 := ⟨by decide +kernel, rfl⟩
theorem d_L_law_308 : mD m_L_law 308 (.iload_n 3) 1 309 := ⟨by decide +kernel, rfl⟩
theorem d_L_law_309 : mD m_L_law 309 (.iconst 2) 1 310 := ⟨by decide +kernel, rfl⟩
theorem d_L_law_310 : mD m_L_law 310 (.iadd) 1 311 := ⟨by decide +kernel, rfl⟩
theorem d_L_law_311 : mD m_L_law 311 (.iaload) 1 312 := ⟨by decide +kernel, rfl⟩
theorem d_L_law_312 : mD m_L_law 312 (.invokevirtual 37) 3 315 := ⟨by decide +kernel, rfl⟩
theorem d_L_law_315 : mD m_L_law 315 (.aload_n 2) 1 316 := ⟨by decide +kernel, rfl⟩
theorem d_L_law_316 : mD m_L_law 316 (.aload_n 0) 1 317 := ⟨by decide +kernel, rfl⟩
theorem d_L_law_317 : mD m_L_law 317 (.iload_n 3) 1 318 := ⟨by decide +kernel, rfl⟩
theorem d_L_law_318 : mD m_L_law 318 (.iconst 1) 1 319 := ⟨by decide +kernel, rfl⟩
theorem d_L_law_319 : mD m_L_law 319 (.iadd) 1 320 := ⟨by decide +kernel, rfl⟩
theorem d_L_law_320 : mD m_L_law 320 (.iaload) 1 321 := ⟨by decide +kernel, rfl⟩
theorem d_L_law_321 : mD m_L_law 321 (.aload_n 0) 1 322 := ⟨by decide +kernel, rfl⟩
theorem d_L_law_322 : mD m_L_law 322 (.iload_n 3) 1 323 := ⟨by decide +kernel, rfl⟩
theorem d_L_law_323 : mD m_L_law 323 (.iconst 2) 1 324 := ⟨by decide +kernel, rfl⟩
theorem d_L_law_324 : mD m_L_law 324 (.iadd) 1 325 := ⟨by decide +kernel, rfl⟩
theorem d_L_law_325 : mD m_L_law 325 (.iaload) 1 326 := ⟨by decide +kernel, rfl⟩
theorem d_L_law_326 : mD m_L_law 326 (.invokevirtual 40) 3 329 := ⟨by decide +kernel, rfl⟩
theorem d_L_law_329 : mJ m_L_law 329 (.if_icmp .eq 796) (796) 332 1125 := ⟨by decide +kernel, rfl, rfl⟩
theorem d_L_law_332 : mD m_L_law 332 (.iconst 0) 1 333 := ⟨by decide +kernel, rfl⟩
theorem d_L_law_333 : mD m_L_law 333 (.ireturn) 1 334 := ⟨by decide +kernel, rfl⟩
theorem d_L_law_334 : mD m_L_law 334 (.aload_n 1) 1 335 := ⟨by decide +kernel, rfl⟩
theorem d_L_law_335 : mD m_L_law 335 (.aload_n 0) 1 336 := ⟨by decide +kernel, rfl⟩
theorem d_L_law_336 : mD m_L_law 336 (.iload_n 3) 1 337 := ⟨by decide +kernel, rfl⟩
theorem d_L_law_337 : mD m_L_law 337 (.iconst 1) 1 338 := ⟨by decide +kernel, rfl⟩
theorem d_L_law_338 : mD m_L_law 338 (.iadd) 1 339 := ⟨by decide +kernel, rfl⟩
theorem d_L_law_339 : mD m_L_law 339 (.iaload) 1 340 := ⟨by decide +kernel, rfl⟩
theorem d_L_law_340 : mD m_L_law 340 (.invokevirtual 41) 3 343 := ⟨by decide +kernel, rfl⟩
theorem d_L_law_343 : mD m_L_law 343 (.aload_n 2) 1 344 := ⟨by decide +kernel, rfl⟩
theorem d_L_law_344 : mD m_L_law 344 (.aload_n 0) 1 345 := ⟨by decide +kernel, rfl⟩
theorem d_L_law_345 : mD m_L_law 345 (.iload_n 3) 1 346 := ⟨by decide +kernel, rfl⟩
theorem d_L_law_346 : mD m_L_law 346 (.iconst 1) 1 347 := ⟨by decide +kernel, rfl⟩
theorem d_L_law_347 : mD m_L_law 347 (.iadd) 1 348 := ⟨by decide +kernel, rfl⟩
theorem d_L_law_348 : mD m_L_law 348 (.iaload) 1 349 := ⟨by decide +kernel, rfl⟩
theorem d_L_law_349 : mD m_L_law 349 (.invokevirtual 44) 3 352 := ⟨by decide +kernel, rfl⟩
theorem d_L_law_352 : mJ m_L_law 352 (.if_icmp .eq 773) (773) 355 1125 := ⟨by decide +kernel, rfl, rfl⟩
theorem d_L_law_355 : mD m_L_law 355 (.iconst 0) 1 356 := ⟨by decide +kernel, rfl⟩
theorem d_L_law_356 : mD m_L_law 356 (.ireturn) 1 357 := ⟨by decide +kernel, rfl⟩
theorem d_L_law_357 : mD m_L_law 357 (.aload_n 1) 1 358 := ⟨by decide +kernel, rfl⟩
theorem d_L_law_358 : mD m_L_law 358 (.aload_n 0) 1 359 := ⟨by decide +kernel, rfl⟩
theorem d_L_law_359 : mD m_L_law 359 (.iload_n 3) 1 360 := ⟨by decide +kernel, rfl⟩
theorem d_L_law_360 : mD m_L_law 360 (.iconst 1) 1 361 := ⟨by decide +kernel, rfl⟩
theorem d_L_law_361 : mD m_L_law 361 (.iadd) 1 362 := ⟨by decide +kernel, rfl⟩
theorem d_L_law_362 : mD m_L_law 362 (.iaload) 1 363 := ⟨by decide +kernel, rfl⟩
theorem d_L_law_363 : mD m_L_law 363 (.aload_n 0) 1 364 := ⟨by decide +kernel, rfl⟩
theorem d_L_law_364 : mD m_L_law 364 (.iload_n 3) 1 365 := ⟨by decide +kernel, rfl⟩
theorem d_L_law_365 : mD m_L_law 365 (.iconst 2) 1 366 := ⟨by decide +kernel, rfl⟩
theorem d_L_law_366 : mD m_L_law 366 (.iadd) 1 367 := ⟨by decide +kernel, rfl⟩
theorem d_L_law_367 : mD m_L_law 367 (.iaload) 1 368 := ⟨by decide +kernel, rfl⟩
theorem d_L_law_368 : mD m_L_law 368 (.invokevirtual 45) 3 371 := ⟨by decide +kernel, rfl⟩
theorem d_L_law_371 : mD m_L_law 371 (.aload_n 2) 1 372 := ⟨by decide +kernel, rfl⟩
theorem d_L_law_372 : mD m_L_law 372 (.aload_n 0) 1 373 := ⟨by decide +kernel, rfl⟩
theorem d_L_law_373 : mD m_L_law 373 (.iload_n 3) 1 374 := ⟨by decide +kernel, rfl⟩
theorem d_L_law_374 : mD m_L_law 374 (.iconst 1) 1 375 := ⟨by decide +kernel, rfl⟩
theorem d_L_law_375 : mD m_L_law 375 (.iadd) 1 376 := ⟨by decide +kernel, rfl⟩
theorem d_L_law_376 : mD m_L_law 376 (.iaload) 1 377 := ⟨by decide +kernel, rfl⟩
theorem d_L_law_377 : mD m_L_law 377 (.aload_n 0) 1 378 := ⟨by decide +kernel, rfl⟩
theorem d_L_law_378 : mD m_L_law 378 (.iload_n 3) 1 379 := ⟨by decide +kernel, rfl⟩
theorem d_L_law_379 : mD m_L_law 379 (.iconst 2) 1 380 := ⟨by decide +kernel, rfl⟩
theorem d_L_law_380 : mD m_L_law 380 (.iadd) 1 381 := ⟨by decide +kernel, rfl⟩
theorem d_L_law_381 : mD m_L_law 381 (.iaload) 1 382 := ⟨by decide +kernel, rfl⟩
theorem d_L_law_382 : mD m_L_law 382 (.invokevirtual 48) 3 385 := ⟨by decide +kernel, rfl⟩
theorem d_L_law_385 : mJ m_L_law 385 (.if_icmp .eq 740) (740) 388 1125 := ⟨by decide +kernel, rfl, rfl⟩
theorem d_L_law_388 : mD m_L_law 388 (.iconst 0) 1 389 := ⟨by decide +kernel, rfl⟩
theorem d_L_law_389 : mD m_L_law 389 (.ireturn) 1 390 := ⟨by decide +kernel, rfl⟩
theorem d_L_law_390 : mD m_L_law 390 (.aload_n 1) 1 391 := ⟨by decide +kernel, rfl⟩
theorem d_L_law_391 : mD m_L_law 391 (.aload_n 0) 1 392 := ⟨by decide +kernel, rfl⟩
theorem d_L_law_392 : mD m_L_law 392 (.iload_n 3) 1 393 := ⟨by decide +kernel, rfl⟩
theorem d_L_law_393 : mD m_L_law 393 (.iconst 1) 1 394 := ⟨by decide +kernel, rfl⟩
theorem d_L_law_394 : mD m_L_law 394 (.iadd) 1 395 := ⟨by decide +kernel, rfl⟩
theorem d_L_law_395 : mD m_L_law 395 (.iaload) 1 396 := ⟨by decide +kernel, rfl⟩
theorem d_L_law_396 : mD m_L_law 396 (.aload_n 0) 1 397 := ⟨by decide +kernel, rfl⟩
theorem d_L_law_397 : mD m_L_law 397 (.iload_n 3) 1 398 := ⟨by decide +kernel, rfl⟩
theorem d_L_law_398 : mD m_L_law 398 (.iconst 2) 1 399 := ⟨by decide +kernel, rfl⟩
theorem d_L_law_399 : mD m_L_law 399 (.iadd) 1 400 := ⟨by decide +kernel, rfl⟩
theorem d_L_law_400 : mD m_L_law 400 (.iaload) 1 401 := ⟨by decide +kernel, rfl⟩
theorem d_L_law_401 : mD m_L_law 401 (.aload_n 0) 1 402 := ⟨by decide +kernel, rfl⟩
theorem d_L_law_402 : mD m_L_law 402 (.iload_n 3) 1 403 := ⟨by decide +kernel, rfl⟩
theorem d_L_law_403 : mD m_L_law 403 (.iconst 3) 1 404 := ⟨by decide +kernel, rfl⟩
theorem d_L_law_404 : mD m_L_law 404 (.iadd) 1 405 := ⟨by decide +kernel, rfl⟩
theorem d_L_law_405 : mD m_L_law 405 (.iaload) 1 406 := ⟨by decide +kernel, rfl⟩
theorem d_L_law_406 : mD m_L_law 406 (.aload_n 0) 1 407 := ⟨by decide +kernel, rfl⟩
theorem d_L_law_407 : mD m_L_law 407 (.iload_n 3) 1 408 := ⟨by decide +kernel, rfl⟩
theorem d_L_law_408 : mD m_L_law 408 (.iconst 4) 1 409 := ⟨by decide +kernel, rfl⟩
theorem d_L_law_409 : mD m_L_law 409 (.iadd) 1 410 := ⟨by decide +kernel, rfl⟩
theorem d_L_law_410 : mD m_L_law 410 (.iaload) 1 411 := ⟨by decide +kernel, rfl⟩
theorem d_L_law_411 : mD m_L_law 411 (.invokevirtual 49) 3 414 := ⟨by decide +kernel, rfl⟩
theorem d_L_law_414 : mD m_L_law 414 (.aload_n 2) 1 415 := ⟨by decide +kernel, rfl⟩
theorem d_L_law_415 : mD m_L_law 415 (.aload_n 0) 1 416 := ⟨by decide +kernel, rfl⟩
theorem d_L_law_416 : mD m_L_law 416 (.iload_n 3) 1 417 := ⟨by decide +kernel, rfl⟩
theorem d_L_law_417 : mD m_L_law 417 (.iconst 1) 1 418 := ⟨by decide +kernel, rfl⟩
theorem d_L_law_418 : mD m_L_law 418 (.iadd) 1 419 := ⟨by decide +kernel, rfl⟩
theorem d_L_law_419 : mD m_L_law 419 (.iaload) 1 420 := ⟨by decide +kernel, rfl⟩
theorem d_L_law_420 : mD m_L_law 420 (.aload_n 0) 1 421 := ⟨by decide +kernel, rfl⟩
theorem d_L_law_421 : mD m_L_law 421 (.iload_n 3) 1 422 := ⟨by decide +kernel, rfl⟩
theorem d_L_law_422 : mD m_L_law 422 (.iconst 2) 1 423 := ⟨by decide +kernel, rfl⟩
theorem d_L_law_423 : mD m_L_law 423 (.iadd) 1 424 := ⟨by decide +kernel, rfl⟩
theorem d_L_law_424 : mD m_L_law 424 (.iaload) 1 425 := ⟨by decide +kernel, rfl⟩
theorem d_L_law_425 : mD m_L_law 425 (.aload_n 0) 1 426 := ⟨by decide +kernel, rfl⟩
theorem d_L_law_426 : mD m_L_law 426 (.iload_n 3) 1 427 := ⟨by decide +kernel, rfl⟩
theorem d_L_law_427 : mD m_L_law 427 (.iconst 3) 1 428 := ⟨by decide +kernel, rfl⟩
theorem d_L_law_428 : mD m_L_law 428 (.iadd) 1 429 := ⟨by decide +kernel, rfl⟩
theorem d_L_law_429 : mD m_L_law 429 (.iaload) 1 430 := ⟨by decide +kernel, rfl⟩
theorem d_L_law_430 : mD m_L_law 430 (.aload_n 0) 1 431 := ⟨by decide +kernel, rfl⟩
theorem d_L_law_431 : mD m_L_law 431 (.iload_n 3) 1 432 := ⟨by decide +kernel, rfl⟩
theorem d_L_law_432 : mD m_L_law 432 (.iconst 4) 1 433 := ⟨by decide +kernel, rfl⟩
theorem d_L_law_433 : mD m_L_law 433 (.iadd) 1 434 := ⟨by decide +kernel, rfl⟩
theorem d_L_law_434 : mD m_L_law 434 (.iaload) 1 435 := ⟨by decide +kernel, rfl⟩
theorem d_L_law_435 : mD m_L_law 435 (.invokevirtual 53) 3 438 := ⟨by decide +kernel, rfl⟩
theorem d_L_law_438 : mJ m_L_law 438 (.if_icmp .eq 687) (687) 441 1125 := ⟨by decide +kernel, rfl, rfl⟩
theorem d_L_law_441 : mD m_L_law 441 (.iconst 0) 1 442 := ⟨by decide +kernel, rfl⟩
theorem d_L_law_442 : mD m_L_law 442 (.ireturn) 1 443 := ⟨by decide +kernel, rfl⟩
theorem d_L_law_443 : mD m_L_law 443 (.aload_n 1) 1 444 := ⟨by decide +kernel, rfl⟩
theorem d_L_law_444 : mD m_L_law 444 (.aload_n 0) 1 445 := ⟨by decide +kernel, rfl⟩
theorem d_L_law_445 : mD m_L_law 445 (.iload_n 3) 1 446 := ⟨by decide +kernel, rfl⟩
theorem d_L_law_446 : mD m_L_law 446 (.iconst 1) 1 447 := ⟨by decide +kernel, rfl⟩
theorem d_L_law_447 : mD m_L_law 447 (.iadd) 1 448 := ⟨by decide +kernel, rfl⟩
theorem d_L_law_448 : mD m_L_law 448 (.iaload) 1 449 := ⟨by decide +kernel, rfl⟩
theorem d_L_law_449 : mD m_L_law 449 (.aload_n 0) 1 450 := ⟨by decide +kernel, rfl⟩
theorem d_L_law_450 : mD m_L_law 450 (.iload_n 3) 1 451 := ⟨by decide +kernel, rfl⟩
theorem d_L_law_451 : mD m_L_law 451 (.iconst 2) 1 452 := ⟨by decide +kernel, rfl⟩
theorem d_L_law_452 : mD m_L_law 452 (.iadd) 1 453 := ⟨by decide +kernel, rfl⟩
theorem d_L_law_453 : mD m_L_law 453 (.iaload) 1 454 := ⟨by decide +kernel, rfl⟩
theorem d_L_law_454 : mD m_L_law 454 (.invokevirtual 54) 3 457 := ⟨by decide +kernel, rfl⟩
theorem d_L_law_457 : mD m_L_law 457 (.aload_n 2) 1 458 := ⟨by decide +kernel, rfl⟩
theorem d_L_law_458 : mD m_L_law 458 (.aload_n 0) 1 459 := ⟨by decide +kernel, rfl⟩
theorem d_L_law_459 : mD m_L_law 459 (.iload_n 3) 1 460 := ⟨by decide +kernel, rfl⟩
theorem d_L_law_460 : mD m_L_law 460 (.iconst 1) 1 461 := ⟨by decide +kernel, rfl⟩
theorem d_L_law_461 : mD m_L_law 461 (.iadd) 1 462 := ⟨by decide +kernel, rfl⟩
theorem d_L_law_462 : mD m_L_law 462 (.iaload) 1 463 := ⟨by decide +kernel, rfl⟩
theorem d_L_law_463 : mD m_L_law 463 (.aload_n 0) 1 464 := ⟨by decide +kernel, rfl⟩
theorem d_L_law_464 : mD m_L_law 464 (.iload_n 3) 1 465 := ⟨by decide +kernel, rfl⟩
theorem d_L_law_465 : mD m_L_law 465 (.iconst 2) 1 466 := ⟨by decide +kernel, rfl⟩
theorem d_L_law_466 : mD m_L_law 466 (.iadd) 1 467 := ⟨by decide +kernel, rfl⟩
theorem d_L_law_467 : mD m_L_law 467 (.iaload) 1 468 := ⟨by decide +kernel, rfl⟩
theorem d_L_law_468 : mD m_L_law 468 (.invokevirtual 57) 3 471 := ⟨by decide +kernel, rfl⟩
theorem d_L_law_471 : mJ m_L_law 471 (.if_icmp .eq 654) (654) 474 1125 := ⟨by decide +kernel, rfl, rfl⟩
theorem d_L_law_474 : mD m_L_law 474 (.iconst 0) 1 475 := ⟨by decide +kernel, rfl⟩
theorem d_L_law_475 : mD m_L_law 475 (.ireturn) 1 476 := ⟨by decide +kernel, rfl⟩
theorem d_L_law_476 : mD m_L_law 476 (.aload_n 1) 1 477 := ⟨by decide +kernel, rfl⟩
theorem d_L_law_477 : mD m_L_law 477 (.aload_n 0) 1 478 := ⟨by decide +kernel, rfl⟩
theorem d_L_law_478 : mD m_L_law 478 (.iload_n 3) 1 479 := ⟨by decide +kernel, rfl⟩
theorem d_L_law_479 : mD m_L_law 479 (.iconst 1) 1 480 := ⟨by decide +kernel, rfl⟩
theorem d_L_law_480 : mD m_L_law 480 (.iadd) 1 481 := ⟨by decide +kernel, rfl⟩
theorem d_L_law_481 : mD m_L_law 481 (.iaload) 1 482 := ⟨by decide +kernel, rfl⟩
theorem d_L_law_482 : mD m_L_law 482 (.aload_n 0) 1 483 := ⟨by decide +kernel, rfl⟩
theorem d_L_law_483 : mD m_L_law 483 (.iload_n 3) 1 484 := ⟨by decide +kernel, rfl⟩
theorem d_L_law_484 : mD m_L_law 484 (.iconst 2) 1 485 := ⟨by decide +kernel, rfl⟩
theorem d_L_law_485 : mD m_L_law 485 (.iadd) 1 486 := ⟨by decide +kernel, rfl⟩
theorem d_L_law_486 : mD m_L_law 486 (.iaload) 1 487 := ⟨by decide +kernel, rfl⟩
theorem d_L_law_487 : mD m_L_law 487 (.invokevirtual 58) 3 490 := ⟨by decide +kernel, rfl⟩
theorem d_L_law_490 : mD m_L_law 490 (.aload_n 2) 1 491 := ⟨by decide +kernel, rfl⟩
theorem d_L_law_491 : mD m_L_law 491 (.aload_n 0) 1 492 := ⟨by decide +kernel, rfl⟩
theorem d_L_law_492 : mD m_L_law 492 (.iload_n 3) 1 493 := ⟨by decide +kernel, rfl⟩
theorem d_L_law_493 : mD m_L_law 493 (.iconst 1) 1 494 := ⟨by decide +kernel, rfl⟩
theorem d_L_law_494 : mD m_L_law 494 (.iadd) 1 495 := ⟨by decide +kernel, rfl⟩
theorem d_L_law_495 : mD m_L_law 495 (.iaload) 1 496 := ⟨by decide +kernel, rfl⟩
theorem d_L_law_496 : mD m_L_law 496 (.aload_n 0) 1 497 := ⟨by decide +kernel, rfl⟩
theorem d_L_law_497 : mD m_L_law 497 (.iload_n 3) 1 498 := ⟨by decide +kernel, rfl⟩
theorem d_L_law_498 : mD m_L_law 498 (.iconst 2) 1 499 := ⟨by decide +kernel, rfl⟩
theorem d_L_law_499 : mD m_L_law 499 (.iadd) 1 500 := ⟨by decide +kernel, rfl⟩
theorem d_L_law_500 : mD m_L_law 500 (.iaload) 1 501 := ⟨by decide +kernel, rfl⟩
theorem d_L_law_501 : mD m_L_law 501 (.invokevirtual 61) 3 504 := ⟨by decide +kernel, rfl⟩
theorem d_L_law_504 : mJ m_L_law 504 (.if_icmp .eq 621) (621) 507 1125 := ⟨by decide +kernel, rfl, rfl⟩
theorem d_L_law_507 : mD m_L_law 507 (.iconst 0) 1 508 := ⟨by decide +kernel, rfl⟩
theorem d_L_law_508 : mD m_L_law 508 (.ireturn) 1 509 := ⟨by decide +kernel, rfl⟩
theorem d_L_law_509 : mD m_L_law 509 (.aload_n 1) 1 510 := ⟨by decide +kernel, rfl⟩
theorem d_L_law_510 : mD m_L_law 510 (.aload_n 0) 1 511 := ⟨by decide +kernel, rfl⟩
theorem d_L_law_511 : mD m_L_law 511 (.iload_n 3) 1 512 := ⟨by decide +kernel, rfl⟩
theorem d_L_law_512 : mD m_L_law 512 (.iconst 1) 1 513 := ⟨by decide +kernel, rfl⟩
theorem d_L_law_513 : mD m_L_law 513 (.iadd) 1 514 := ⟨by decide +kernel, rfl⟩
theorem d_L_law_514 : mD m_L_law 514 (.iaload) 1 515 := ⟨by decide +kernel, rfl⟩
theorem d_L_law_515 : mD m_L_law 515 (.invokevirtual 62) 3 518 := ⟨by decide +kernel, rfl⟩
theorem d_L_law_518 : mD m_L_law 518 (.aload_n 2) 1 519 := ⟨by decide +kernel, rfl⟩
theorem d_L_law_519 : mD m_L_law 519 (.aload_n 0) 1 520 := ⟨by decide +kernel, rfl⟩
theorem d_L_law_520 : mD m_L_law 520 (.iload_n 3) 1 521 := ⟨by decide +kernel, rfl⟩
theorem d_L_law_521 : mD m_L_law 521 (.iconst 1) 1 522 := ⟨by decide +kernel, rfl⟩
theorem d_L_law_522 : mD m_L_law 522 (.iadd) 1 523 := ⟨by decide +kernel, rfl⟩
theorem d_L_law_523 : mD m_L_law 523 (.iaload) 1 524 := ⟨by decide +kernel, rfl⟩
theorem d_L_law_524 : mD m_L_law 524 (.invokevirtual 65) 3 527 := ⟨by decide +kernel, rfl⟩
theorem d_L_law_527 : mJ m_L_law 527 (.if_icmp .eq 598) (598) 530 1125 := ⟨by decide +kernel, rfl, rfl⟩
theorem d_L_law_530 : mD m_L_law 530 (.iconst 0) 1 531 := ⟨by decide +kernel, rfl⟩
theorem d_L_law_531 : mD m_L_law 531 (.ireturn) 1 532 := ⟨by decide +kernel, rfl⟩
theorem d_L_law_532 : mD m_L_law 532 (.aload_n 1) 1 533 := ⟨by decide +kernel, rfl⟩
theorem d_L_law_533 : mD m_L_law 533 (.invokevirtual 66) 3 536 := ⟨by decide +kernel, rfl⟩
theorem d_L_law_536 : mD m_L_law 536 (.aload_n 2) 1 537 := ⟨by decide +kernel, rfl⟩
theorem d_L_law_537 : mD m_L_law 537 (.invokevirtual 69) 3 540 := ⟨by decide +kernel, rfl⟩
theorem d_L_law_540 : mJ m_L_law 540 (.if_icmp .eq 585) (585) 543 1125 := ⟨by decide +kernel, rfl, rfl⟩
theorem d_L_law_543 : mD m_L_law 543 (.iconst 0) 1 544 := ⟨by decide +kernel, rfl⟩
theorem d_L_law_544 : mD m_L_law 544 (.ireturn) 1 545 := ⟨by decide +kernel, rfl⟩
theorem d_L_law_545 : mD m_L_law 545 (.aload_n 1) 1 546 := ⟨by decide +kernel, rfl⟩
theorem d_L_law_546 : mD m_L_law 546 (.aload_n 0) 1 547 := ⟨by decide +kernel, rfl⟩
theorem d_L_law_547 : mD m_L_law 547 (.iload_n 3) 1 548 := ⟨by decide +kernel, rfl⟩
theorem d_L_law_548 : mD m_L_law 548 (.iconst 1) 1 549 := ⟨by decide +kernel, rfl⟩
theorem d_L_law_549 : mD m_L_law 549 (.iadd) 1 550 := ⟨by decide +kernel, rfl⟩
theorem d_L_law_550 : mD m_L_law 550 (.iaload) 1 551 := ⟨by decide +kernel, rfl⟩
theorem d_L_law_551 : mD m_L_law 551 (.invokevirtual 70) 3 554 := ⟨by decide +kernel, rfl⟩
theorem d_L_law_554 : mD m_L_law 554 (.aload_n 2) 1 555 := ⟨by decide +kernel, rfl⟩
theorem d_L_law_555 : mD m_L_law 555 (.aload_n 0) 1 556 := ⟨by decide +kernel, rfl⟩
theorem d_L_law_556 : mD m_L_law 556 (.iload_n 3) 1 557 := ⟨by decide +kernel, rfl⟩
theorem d_L_law_557 : mD m_L_law 557 (.iconst 1) 1 558 := ⟨by decide +kernel, rfl⟩
theorem d_L_law_558 : mD m_L_law 558 (.iadd) 1 559 := ⟨by decide +kernel, rfl⟩
theorem d_L_law_559 : mD m_L_law 559 (.iaload) 1 560 := ⟨by decide +kernel, rfl⟩
theorem d_L_law_560 : mD m_L_law 560 (.invokevirtual 73) 3 563 := ⟨by decide +kernel, rfl⟩
theorem d_L_law_563 : mJ m_L_law 563 (.if_icmp .eq 562) (562) 566 1125 := ⟨by decide +kernel, rfl, rfl⟩
theorem d_L_law_566 : mD m_L_law 566 (.iconst 0) 1 567 := ⟨by decide +kernel, rfl⟩
theorem d_L_law_567 : mD m_L_law 567 (.ireturn) 1 568 := ⟨by decide +kernel, rfl⟩
theorem d_L_law_568 : mD m_L_law 568 (.aload_n 1) 1 569 := ⟨by decide +kernel, rfl⟩
theorem d_L_law_569 : mD m_L_law 569 (.aload_n 0) 1 570 := ⟨by decide +kernel, rfl⟩
theorem d_L_law_570 : mD m_L_law 570 (.iload_n 3) 1 571 := ⟨by decide +kernel, rfl⟩
theorem d_L_law_571 : mD m_L_law 571 (.iconst 1) 1 572 := ⟨by decide +kernel, rfl⟩
theorem d_L_law_572 : mD m_L_law 572 (.iadd) 1 573 := ⟨by decide +kernel, rfl⟩
theorem d_L_law_573 : mD m_L_law 573 (.iaload) 1 574 := ⟨by decide +kernel, rfl⟩
theorem d_L_law_574 : mD m_L_law 574 (.invokevirtual 74) 3 577 := ⟨by decide +kernel, rfl⟩
theorem d_L_law_577 : mD m_L_law 577 (.aload_n 2) 1 578 := ⟨by decide +kernel, rfl⟩
theorem d_L_law_578 : mD m_L_law 578 (.aload_n 0) 1 579 := ⟨by decide +kernel, rfl⟩
theorem d_L_law_579 : mD m_L_law 579 (.iload_n 3) 1 580 := ⟨by decide +kernel, rfl⟩
theorem d_L_law_580 : mD m_L_law 580 (.iconst 1) 1 581 := ⟨by decide +kernel, rfl⟩
theorem d_L_law_581 : mD m_L_law 581 (.iadd) 1 582 := ⟨by decide +kernel, rfl⟩
theorem d_L_law_582 : mD m_L_law 582 (.iaload) 1 583 := ⟨by decide +kernel, rfl⟩
theorem d_L_law_583 : mD m_L_law 583 (.invokevirtual 77) 3 586 := ⟨by decide +kernel, rfl⟩
theorem d_L_law_586 : mJ m_L_law 586 (.if_icmp .eq 539) (539) 589 1125 := ⟨by decide +kernel, rfl, rfl⟩
theorem d_L_law_589 : mD m_L_law 589 (.iconst 0) 1 590 := ⟨by decide +kernel, rfl⟩
theorem d_L_law_590 : mD m_L_law 590 (.ireturn) 1 591 := ⟨by decide +kernel, rfl⟩
theorem d_L_law_591 : mD m_L_law 591 (.aload_n 1) 1 592 := ⟨by decide +kernel, rfl⟩
theorem d_L_law_592 : mD m_L_law 592 (.aload_n 0) 1 593 := ⟨by decide +kernel, rfl⟩
theorem d_L_law_593 : mD m_L_law 593 (.iload_n 3) 1 594 := ⟨by decide +kernel, rfl⟩
theorem d_L_law_594 : mD m_L_law 594 (.iconst 1) 1 595 := ⟨by decide +kernel, rfl⟩
theorem d_L_law_595 : mD m_L_law 595 (.iadd) 1 596 := ⟨by decide +kernel, rfl⟩
theorem d_L_law_596 : mD m_L_law 596 (.iaload) 1 597 := ⟨by decide +kernel, rfl⟩
theorem d_L_law_597 : mD m_L_law 597 (.aload_n 0) 1 598 := ⟨by decide +kernel, rfl⟩
theorem d_L_law_598 : mD m_L_law 598 (.iload_n 3) 1 599 := ⟨by decide +kernel, rfl⟩
theorem d_L_law_599 : mD m_L_law 599 (.iconst 2) 1 600 := ⟨by decide +kernel, rfl⟩
theorem d_L_law_600 : mD m_L_law 600 (.iadd) 1 601 := ⟨by decide +kernel, rfl⟩
theorem d_L_law_601 : mD m_L_law 601 (.iaload) 1 602 := ⟨by decide +kernel, rfl⟩
theorem d_L_law_602 : mD m_L_law 602 (.invokevirtual 78) 3 605 := ⟨by decide +kernel, rfl⟩
theorem d_L_law_605 : mD m_L_law 605 (.aload_n 2) 1 606 := ⟨by decide +kernel, rfl⟩
theorem d_L_law_606 : mD m_L_law 606 (.aload_n 0) 1 607 := ⟨by decide +kernel, rfl⟩
theorem d_L_law_607 : mD m_L_law 607 (.iload_n 3) 1 608 := ⟨by decide +kernel, rfl⟩
theorem d_L_law_608 : mD m_L_law 608 (.iconst 1) 1 609 := ⟨by decide +kernel, rfl⟩
theorem d_L_law_609 : mD m_L_law 609 (.iadd) 1 610 := ⟨by decide +kernel, rfl⟩
theorem d_L_law_610 : mD m_L_law 610 (.iaload) 1 611 := ⟨by decide +kernel, rfl⟩
theorem d_L_law_611 : mD m_L_law 611 (.aload_n 0) 1 612 := ⟨by decide +kernel, rfl⟩
theorem d_L_law_612 : mD m_L_law 612 (.iload_n 3) 1 613 := ⟨by decide +kernel, rfl⟩
theorem d_L_law_613 : mD m_L_law 613 (.iconst 2) 1 614 := ⟨by decide +kernel, rfl⟩
theorem d_L_law_614 : mD m_L_law 614 (.iadd) 1 615 := ⟨by decide +kernel, rfl⟩
theorem d_L_law_615 : mD m_L_law 615 (.iaload) 1 616 := ⟨by decide +kernel, rfl⟩
theorem d_L_law_616 : mD m_L_law 616 (.invokevirtual 82) 3 619 := ⟨by decide +kernel, rfl⟩
theorem d_L_law_619 : mD m_L_law 619 (.lcmp) 1 620 := ⟨by decide +kernel, rfl⟩
theorem d_L_law_620 : mJ m_L_law 620 (.ifCond .eq 505) (505) 623 1125 := ⟨by decide +kernel, rfl, rfl⟩
theorem d_L_law_623 : mD m_L_law 623 (.iconst 0) 1 624 := ⟨by decide +kernel, rfl⟩
theorem d_L_law_624 : mD m_L_law 624 (.ireturn) 1 625 := ⟨by decide +kernel, rfl⟩
theorem d_L_law_625 : mD m_L_law 625 (.aload_n 1) 1 626 := ⟨by decide +kernel, rfl⟩
theorem d_L_law_626 : mD m_L_law 626 (.aload_n 0) 1 627 := ⟨by decide +kernel, rfl⟩
theorem d_L_law_627 : mD m_L_law 627 (.iload_n 3) 1 628 := ⟨by decide +kernel, rfl⟩
theorem d_L_law_628 : mD m_L_law 628 (.iconst 1) 1 629 := ⟨by decide +kernel, rfl⟩
theorem d_L_law_629 : mD m_L_law 629 (.iadd) 1 630 := ⟨by decide +kernel, rfl⟩
theorem d_L_law_630 : mD m_L_law 630 (.iaload) 1 631 := ⟨by decide +kernel, rfl⟩
theorem d_L_law_631 : mD m_L_law 631 (.aload_n 0) 1 632 := ⟨by decide +kernel, rfl⟩
theorem d_L_law_632 : mD m_L_law 632 (.iload_n 3) 1 633 := ⟨by decide +kernel, rfl⟩
theorem d_L_law_633 : mD m_L_law 633 (.iconst 2) 1 634 := ⟨by decide +kernel, rfl⟩
theorem d_L_law_634 : mD m_L_law 634 (.iadd) 1 635 := ⟨by decide +kernel, rfl⟩
theorem d_L_law_635 : mD m_L_law 635 (.iaload) 1 636 := ⟨by decide +kernel, rfl⟩
theorem d_L_law_636 : mD m_L_law 636 (.invokevirtual 83) 3 639 := ⟨by decide +kernel, rfl⟩
theorem d_L_law_639 : mD m_L_law 639 (.aload_n 2) 1 640 := ⟨by decide +kernel, rfl⟩
theorem d_L_law_640 : mD m_L_law 640 (.aload_n 0) 1 641 := ⟨by decide +kernel, rfl⟩
theorem d_L_law_641 : mD m_L_law 641 (.iload_n 3) 1 642 := ⟨by decide +kernel, rfl⟩
theorem d_L_law_642 : mD m_L_law 642 (.iconst 1) 1 643 := ⟨by decide +kernel, rfl⟩
theorem d_L_law_643 : mD m_L_law 643 (.iadd) 1 644 := ⟨by decide +kernel, rfl⟩
theorem d_L_law_644 : mD m_L_law 644 (.iaload) 1 645 := ⟨by decide +kernel, rfl⟩
theorem d_L_law_645 : mD m_L_law 645 (.aload_n 0) 1 646 := ⟨by decide +kernel, rfl⟩
theorem d_L_law_646 : mD m_L_law 646 (.iload_n 3) 1 647 := ⟨by decide +kernel, rfl⟩
theorem d_L_law_647 : mD m_L_law 647 (.iconst 2) 1 648 := ⟨by decide +kernel, rfl⟩
theorem d_L_law_648 : mD m_L_law 648 (.iadd) 1 649 := ⟨by decide +kernel, rfl⟩
theorem d_L_law_649 : mD m_L_law 649 (.iaload) 1 650 := ⟨by decide +kernel, rfl⟩
theorem d_L_law_650 : mD m_L_law 650 (.invokevirtual 86) 3 653 := ⟨by decide +kernel, rfl⟩
theorem d_L_law_653 : mD m_L_law 653 (.lcmp) 1 654 := ⟨by decide +kernel, rfl⟩
theorem d_L_law_654 : mJ m_L_law 654 (.ifCond .eq 471) (471) 657 1125 := ⟨by decide +kernel, rfl, rfl⟩
theorem d_L_law_657 : mD m_L_law 657 (.iconst 0) 1 658 := ⟨by decide +kernel, rfl⟩
theorem d_L_law_658 : mD m_L_law 658 (.ireturn) 1 659 := ⟨by decide +kernel, rfl⟩
theorem d_L_law_659 : mD m_L_law 659 (.aload_n 1) 1 660 := ⟨by decide +kernel, rfl⟩
theorem d_L_law_660 : mD m_L_law 660 (.aload_n 0) 1 661 := ⟨by decide +kernel, rfl⟩
theorem d_L_law_661 : mD m_L_law 661 (.iload_n 3) 1 662 := ⟨by decide +kernel, rfl⟩
theorem d_L_law_662 : mD m_L_law 662 (.iconst 1) 1 663 := ⟨by decide +kernel, rfl⟩
theorem d_L_law_663 : mD m_L_law 663 (.iadd) 1 664 := ⟨by decide +kernel, rfl⟩
theorem d_L_law_664 : mD m_L_law 664 (.iaload) 1 665 := ⟨by decide +kernel, rfl⟩
theorem d_L_law_665 : mD m_L_law 665 (.invokevirtual 87) 3 668 := ⟨by decide +kernel, rfl⟩
theorem d_L_law_668 : mD m_L_law 668 (.aload_n 2) 1 669 := ⟨by decide +kernel, rfl⟩
theorem d_L_law_669 : mD m_L_law 669 (.aload_n 0) 1 670 := ⟨by decide +kernel, rfl⟩
theorem d_L_law_670 : mD m_L_law 670 (.iload_n 3) 1 671 := ⟨by decide +kernel, rfl⟩
theorem d_L_law_671 : mD m_L_law 671 (.iconst 1) 1 672 := ⟨by decide +kernel, rfl⟩
theorem d_L_law_672 : mD m_L_law 672 (.iadd) 1 673 := ⟨by decide +kernel, rfl⟩
theorem d_L_law_673 : mD m_L_law 673 (.iaload) 1 674 := ⟨by decide +kernel, rfl⟩
theorem d_L_law_674 : mD m_L_law 674 (.invokevirtual 90) 3 677 := ⟨by decide +kernel, rfl⟩
theorem d_L_law_677 : mJ m_L_law 677 (.if_icmp .eq 448) (448) 680 1125 := ⟨by decide +kernel, rfl, rfl⟩
theorem d_L_law_680 : mD m_L_law 680 (.iconst 0) 1 681 := ⟨by decide +kernel, rfl⟩
theorem d_L_law_681 : mD m_L_law 681 (.ireturn) 1 682 := ⟨by decide +kernel, rfl⟩
theorem d_L_law_682 : mD m_L_law 682 (.aload_n 1) 1 683 := ⟨by decide +kernel, rfl⟩
theorem d_L_law_683 : mD m_L_law 683 (.aload_n 0) 1 684 := ⟨by decide +kernel, rfl⟩
theorem d_L_law_684 : mD m_L_law 684 (.iload_n 3) 1 685 := ⟨by decide +kernel, rfl⟩
theorem d_L_law_685 : mD m_L_law 685 (.iconst 1) 1 686 := ⟨by decide +kernel, rfl⟩
theorem d_L_law_686 : mD m_L_law 686 (.iadd) 1 687 := ⟨by decide +kernel, rfl⟩
theorem d_L_law_687 : mD m_L_law 687 (.iaload) 1 688 := ⟨by decide +kernel, rfl⟩
theorem d_L_law_688 : mD m_L_law 688 (.aload_n 0) 1 689 := ⟨by decide +kernel, rfl⟩
theorem d_L_law_689 : mD m_L_law 689 (.iload_n 3) 1 690 := ⟨by decide +kernel, rfl⟩
theorem d_L_law_690 : mD m_L_law 690 (.iconst 2) 1 691 := ⟨by decide +kernel, rfl⟩
theorem d_L_law_691 : mD m_L_law 691 (.iadd) 1 692 := ⟨by decide +kernel, rfl⟩
theorem d_L_law_692 : mD m_L_law 692 (.iaload) 1 693 := ⟨by decide +kernel, rfl⟩
theorem d_L_law_693 : mD m_L_law 693 (.invokevirtual 91) 3 696 := ⟨by decide +kernel, rfl⟩
theorem d_L_law_696 : mD m_L_law 696 (.aload_n 2) 1 697 := ⟨by decide +kernel, rfl⟩
theorem d_L_law_697 : mD m_L_law 697 (.aload_n 0) 1 698 := ⟨by decide +kernel, rfl⟩
theorem d_L_law_698 : mD m_L_law 698 (.iload_n 3) 1 699 := ⟨by decide +kernel, rfl⟩
theorem d_L_law_699 : mD m_L_law 699 (.iconst 1) 1 700 := ⟨by decide +kernel, rfl⟩
theorem d_L_law_700 : mD m_L_law 700 (.iadd) 1 701 := ⟨by decide +kernel, rfl⟩
theorem d_L_law_701 : mD m_L_law 701 (.iaload) 1 702 := ⟨by decide +kernel, rfl⟩
theorem d_L_law_702 : mD m_L_law 702 (.aload_n 0) 1 703 := ⟨by decide +kernel, rfl⟩
theorem d_L_law_703 : mD m_L_law 703 (.iload_n 3) 1 704 := ⟨by decide +kernel, rfl⟩
theorem d_L_law_704 : mD m_L_law 704 (.iconst 2) 1 705 := ⟨by decide +kernel, rfl⟩
theorem d_L_law_705 : mD m_L_law 705 (.iadd) 1 706 := ⟨by decide +kernel, rfl⟩
theorem d_L_law_706 : mD m_L_law 706 (.iaload) 1 707 := ⟨by decide +kernel, rfl⟩
theorem d_L_law_707 : mD m_L_law 707 (.invokevirtual 94) 3 710 := ⟨by decide +kernel, rfl⟩
theorem d_L_law_710 : mJ m_L_law 710 (.if_icmp .eq 415) (415) 713 1125 := ⟨by decide +kernel, rfl, rfl⟩
theorem d_L_law_713 : mD m_L_law 713 (.iconst 0) 1 714 := ⟨by decide +kernel, rfl⟩
theorem d_L_law_714 : mD m_L_law 714 (.ireturn) 1 715 := ⟨by decide +kernel, rfl⟩
theorem d_L_law_715 : mD m_L_law 715 (.aload_n 1) 1 716 := ⟨by decide +kernel, rfl⟩
theorem d_L_law_716 : mD m_L_law 716 (.invokevirtual 95) 3 719 := ⟨by decide +kernel, rfl⟩
theorem d_L_law_719 : mD m_L_law 719 (.aload_n 2) 1 720 := ⟨by decide +kernel, rfl⟩
theorem d_L_law_720 : mD m_L_law 720 (.invokevirtual 98) 3 723 := ⟨by decide +kernel, rfl⟩
theorem d_L_law_723 : mJ m_L_law 723 (.if_icmp .eq 402) (402) 726 1125 := ⟨by decide +kernel, rfl, rfl⟩
theorem d_L_law_726 : mD m_L_law 726 (.iconst 0) 1 727 := ⟨by decide +kernel, rfl⟩
theorem d_L_law_727 : mD m_L_law 727 (.ireturn) 1 728 := ⟨by decide +kernel, rfl⟩
theorem d_L_law_728 : mD m_L_law 728 (.aload_n 1) 1 729 := ⟨by decide +kernel, rfl⟩
theorem d_L_law_729 : mD m_L_law 729 (.aload_n 0) 1 730 := ⟨by decide +kernel, rfl⟩
theorem d_L_law_730 : mD m_L_law 730 (.iload_n 3) 1 731 := ⟨by decide +kernel, rfl⟩
theorem d_L_law_731 : mD m_L_law 731 (.iconst 1) 1 732 := ⟨by decide +kernel, rfl⟩
theorem d_L_law_732 : mD m_L_law 732 (.iadd) 1 733 := ⟨by decide +kernel, rfl⟩
theorem d_L_law_733 : mD m_L_law 733 (.iaload) 1 734 := ⟨by decide +kernel, rfl⟩
theorem d_L_law_734 : mD m_L_law 734 (.aload_n 0) 1 735 := ⟨by decide +kernel, rfl⟩
theorem d_L_law_735 : mD m_L_law 735 (.iload_n 3) 1 736 := ⟨by decide +kernel, rfl⟩
theorem d_L_law_736 : mD m_L_law 736 (.iconst 2) 1 737 := ⟨by decide +kernel, rfl⟩
theorem d_L_law_737 : mD m_L_law 737 (.iadd) 1 738 := ⟨by decide +kernel, rfl⟩
theorem d_L_law_738 : mD m_L_law 738 (.iaload) 1 739 := ⟨by decide +kernel, rfl⟩
theorem d_L_law_739 : mD m_L_law 739 (.aload_n 0) 1 740 := ⟨by decide +kernel, rfl⟩
theorem d_L_law_740 : mD m_L_law 740 (.iload_n 3) 1 741 := ⟨by decide +kernel, rfl⟩
theorem d_L_law_741 : mD m_L_law 741 (.iconst 3) 1 742 := ⟨by decide +kernel, rfl⟩
theorem d_L_law_742 : mD m_L_law 742 (.iadd) 1 743 := ⟨by decide +kernel, rfl⟩
theorem d_L_law_743 : mD m_L_law 743 (.iaload) 1 744 := ⟨by decide +kernel, rfl⟩
theorem d_L_law_744 : mD m_L_law 744 (.invokevirtual 99) 3 747 := ⟨by decide +kernel, rfl⟩
theorem d_L_law_747 : mD m_L_law 747 (.aload_n 2) 1 748 := ⟨by decide +kernel, rfl⟩
theorem d_L_law_748 : mD m_L_law 748 (.aload_n 0) 1 749 := ⟨by decide +kernel, rfl⟩
theorem d_L_law_749 : mD m_L_law 749 (.iload_n 3) 1 750 := ⟨by decide +kernel, rfl⟩
theorem d_L_law_750 : mD m_L_law 750 (.iconst 1) 1 751 := ⟨by decide +kernel, rfl⟩
theorem d_L_law_751 : mD m_L_law 751 (.iadd) 1 752 := ⟨by decide +kernel, rfl⟩
theorem d_L_law_752 : mD m_L_law 752 (.iaload) 1 753 := ⟨by decide +kernel, rfl⟩
theorem d_L_law_753 : mD m_L_law 753 (.aload_n 0) 1 754 := ⟨by decide +kernel, rfl⟩
theorem d_L_law_754 : mD m_L_law 754 (.iload_n 3) 1 755 := ⟨by decide +kernel, rfl⟩
theorem d_L_law_755 : mD m_L_law 755 (.iconst 2) 1 756 := ⟨by decide +kernel, rfl⟩
theorem d_L_law_756 : mD m_L_law 756 (.iadd) 1 757 := ⟨by decide +kernel, rfl⟩
theorem d_L_law_757 : mD m_L_law 757 (.iaload) 1 758 := ⟨by decide +kernel, rfl⟩
theorem d_L_law_758 : mD m_L_law 758 (.aload_n 0) 1 759 := ⟨by decide +kernel, rfl⟩
theorem d_L_law_759 : mD m_L_law 759 (.iload_n 3) 1 760 := ⟨by decide +kernel, rfl⟩
theorem d_L_law_760 : mD m_L_law 760 (.iconst 3) 1 761 := ⟨by decide +kernel, rfl⟩
theorem d_L_law_761 : mD m_L_law 761 (.iadd) 1 762 := ⟨by decide +kernel, rfl⟩
theorem d_L_law_762 : mD m_L_law 762 (.iaload) 1 763 := ⟨by decide +kernel, rfl⟩
theorem d_L_law_763 : mD m_L_law 763 (.invokevirtual 102) 3 766 := ⟨by decide +kernel, rfl⟩
theorem d_L_law_766 : mJ m_L_law 766 (.if_icmp .eq 359) (359) 769 1125 := ⟨by decide +kernel, rfl, rfl⟩
theorem d_L_law_769 : mD m_L_law 769 (.iconst 0) 1 770 := ⟨by decide +kernel, rfl⟩
theorem d_L_law_770 : mD m_L_law 770 (.ireturn) 1 771 := ⟨by decide +kernel, rfl⟩
theorem d_L_law_771 : mD m_L_law 771 (.aload_n 1) 1 772 := ⟨by decide +kernel, rfl⟩
theorem d_L_law_772 : mD m_L_law 772 (.invokevirtual 103) 3 775 := ⟨by decide +kernel, rfl⟩
theorem d_L_law_775 : mD m_L_law 775 (.aload_n 2) 1 776 := ⟨by decide +kernel, rfl⟩
theorem d_L_law_776 : mD m_L_law 776 (.invokevirtual 106) 3 779 := ⟨by decide +kernel, rfl⟩
theorem d_L_law_779 : mJ m_L_law 779 (.if_icmp .eq 346) (346) 782 1125 := ⟨by decide +kernel, rfl, rfl⟩
theorem d_L_law_782 : mD m_L_law 782 (.iconst 0) 1 783 := ⟨by decide +kernel, rfl⟩
theorem d_L_law_783 : mD m_L_law 783 (.ireturn) 1 784 := ⟨by decide +kernel, rfl⟩
theorem d_L_law_784 : mD m_L_law 784 (.aload_n 1) 1 785 := ⟨by decide +kernel, rfl⟩
theorem d_L_law_785 : mD m_L_law 785 (.aload_n 0) 1 786 := ⟨by decide +kernel, rfl⟩
theorem d_L_law_786 : mD m_L_law 786 (.iload_n 3) 1 787 := ⟨by decide +kernel, rfl⟩
theorem d_L_law_787 : mD m_L_law 787 (.iconst 1) 1 788 := ⟨by decide +kernel, rfl⟩
theorem d_L_law_788 : mD m_L_law 788 (.iadd) 1 789 := ⟨by decide +kernel, rfl⟩
theorem d_L_law_789 : mD m_L_law 789 (.iaload) 1 790 := ⟨by decide +kernel, rfl⟩
theorem d_L_law_790 : mD m_L_law 790 (.aload_n 0) 1 791 := ⟨by decide +kernel, rfl⟩
theorem d_L_law_791 : mD m_L_law 791 (.iload_n 3) 1 792 := ⟨by decide +kernel, rfl⟩
theorem d_L_law_792 : mD m_L_law 792 (.iconst 2) 1 793 := ⟨by decide +kernel, rfl⟩
theorem d_L_law_793 : mD m_L_law 793 (.iadd) 1 794 := ⟨by decide +kernel, rfl⟩
theorem d_L_law_794 : mD m_L_law 794 (.iaload) 1 795 := ⟨by decide +kernel, rfl⟩
theorem d_L_law_795 : mD m_L_law 795 (.invokevirtual 107) 3 798 := ⟨by decide +kernel, rfl⟩
theorem d_L_law_798 : mD m_L_law 798 (.aload_n 2) 1 799 := ⟨by decide +kernel, rfl⟩
theorem d_L_law_799 : mD m_L_law 799 (.aload_n 0) 1 800 := ⟨by decide +kernel, rfl⟩
theorem d_L_law_800 : mD m_L_law 800 (.iload_n 3) 1 801 := ⟨by decide +kernel, rfl⟩
theorem d_L_law_801 : mD m_L_law 801 (.iconst 1) 1 802 := ⟨by decide +kernel, rfl⟩
theorem d_L_law_802 : mD m_L_law 802 (.iadd) 1 803 := ⟨by decide +kernel, rfl⟩
theorem d_L_law_803 : mD m_L_law 803 (.iaload) 1 804 := ⟨by decide +kernel, rfl⟩
theorem d_L_law_804 : mD m_L_law 804 (.aload_n 0) 1 805 := ⟨by decide +kernel, rfl⟩
theorem d_L_law_805 : mD m_L_law 805 (.iload_n 3) 1 806 := ⟨by decide +kernel, rfl⟩
theorem d_L_law_806 : mD m_L_law 806 (.iconst 2) 1 807 := ⟨by decide +kernel, rfl⟩
theorem d_L_law_807 : mD m_L_law 807 (.iadd) 1 808 := ⟨by decide +kernel, rfl⟩
theorem d_L_law_808 : mD m_L_law 808 (.iaload) 1 809 := ⟨by decide +kernel, rfl⟩
theorem d_L_law_809 : mD m_L_law 809 (.invokevirtual 110) 3 812 := ⟨by decide +kernel, rfl⟩
theorem d_L_law_812 : mJ m_L_law 812 (.if_icmp .eq 313) (313) 815 1125 := ⟨by decide +kernel, rfl, rfl⟩
theorem d_L_law_815 : mD m_L_law 815 (.iconst 0) 1 816 := ⟨by decide +kernel, rfl⟩
theorem d_L_law_816 : mD m_L_law 816 (.ireturn) 1 817 := ⟨by decide +kernel, rfl⟩
theorem d_L_law_817 : mD m_L_law 817 (.aload_n 1) 1 818 := ⟨by decide +kernel, rfl⟩
theorem d_L_law_818 : mD m_L_law 818 (.aload_n 0) 1 819 := ⟨by decide +kernel, rfl⟩
theorem d_L_law_819 : mD m_L_law 819 (.iload_n 3) 1 820 := ⟨by decide +kernel, rfl⟩
theorem d_L_law_820 : mD m_L_law 820 (.iconst 1) 1 821 := ⟨by decide +kernel, rfl⟩
theorem d_L_law_821 : mD m_L_law 821 (.iadd) 1 822 := ⟨by decide +kernel, rfl⟩
theorem d_L_law_822 : mD m_L_law 822 (.iaload) 1 823 := ⟨by decide +kernel, rfl⟩
theorem d_L_law_823 : mD m_L_law 823 (.invokevirtual 111) 3 826 := ⟨by decide +kernel, rfl⟩
theorem d_L_law_826 : mD m_L_law 826 (.aload_n 2) 1 827 := ⟨by decide +kernel, rfl⟩
theorem d_L_law_827 : mD m_L_law 827 (.aload_n 0) 1 828 := ⟨by decide +kernel, rfl⟩
theorem d_L_law_828 : mD m_L_law 828 (.iload_n 3) 1 829 := ⟨by decide +kernel, rfl⟩
theorem d_L_law_829 : mD m_L_law 829 (.iconst 1) 1 830 := ⟨by decide +kernel, rfl⟩
theorem d_L_law_830 : mD m_L_law 830 (.iadd) 1 831 := ⟨by decide +kernel, rfl⟩
theorem d_L_law_831 : mD m_L_law 831 (.iaload) 1 832 := ⟨by decide +kernel, rfl⟩
theorem d_L_law_832 : mD m_L_law 832 (.invokevirtual 114) 3 835 := ⟨by decide +kernel, rfl⟩
theorem d_L_law_835 : mJ m_L_law 835 (.if_icmp .eq 290) (290) 838 1125 := ⟨by decide +kernel, rfl, rfl⟩
theorem d_L_law_838 : mD m_L_law 838 (.iconst 0) 1 839 := ⟨by decide +kernel, rfl⟩
theorem d_L_law_839 : mD m_L_law 839 (.ireturn) 1 840 := ⟨by decide +kernel, rfl⟩
theorem d_L_law_840 : mD m_L_law 840 (.aload_n 1) 1 841 := ⟨by decide +kernel, rfl⟩
theorem d_L_law_841 : mD m_L_law 841 (.aload_n 0) 1 842 := ⟨by decide +kernel, rfl⟩
theorem d_L_law_842 : mD m_L_law 842 (.iload_n 3) 1 843 := ⟨by decide +kernel, rfl⟩
theorem d_L_law_843 : mD m_L_law 843 (.iconst 1) 1 844 := ⟨by decide +kernel, rfl⟩
theorem d_L_law_844 : mD m_L_law 844 (.iadd) 1 845 := ⟨by decide +kernel, rfl⟩
theorem d_L_law_845 : mD m_L_law 845 (.iaload) 1 846 := ⟨by decide +kernel, rfl⟩
theorem d_L_law_846 : mD m_L_law 846 (.aload_n 0) 1 847 := ⟨by decide +kernel, rfl⟩
theorem d_L_law_847 : mD m_L_law 847 (.iload_n 3) 1 848 := ⟨by decide +kernel, rfl⟩
theorem d_L_law_848 : mD m_L_law 848 (.iconst 2) 1 849 := ⟨by decide +kernel, rfl⟩
theorem d_L_law_849 : mD m_L_law 849 (.iadd) 1 850 := ⟨by decide +kernel, rfl⟩
theorem d_L_law_850 : mD m_L_law 850 (.iaload) 1 851 := ⟨by decide +kernel, rfl⟩
theorem d_L_law_851 : mD m_L_law 851 (.aload_n 0) 1 852 := ⟨by decide +kernel, rfl⟩
theorem d_L_law_852 : mD m_L_law 852 (.iload_n 3) 1 853 := ⟨by decide +kernel, rfl⟩
theorem d_L_law_853 : mD m_L_law 853 (.iconst 3) 1 854 := ⟨by decide +kernel, rfl⟩
theorem d_L_law_854 : mD m_L_law 854 (.iadd) 1 855 := ⟨by decide +kernel, rfl⟩
theorem d_L_law_855 : mD m_L_law 855 (.iaload) 1 856 := ⟨by decide +kernel, rfl⟩
theorem d_L_law_856 : mD m_L_law 856 (.invokevirtual 115) 3 859 := ⟨by decide +kernel, rfl⟩
theorem d_L_law_859 : mD m_L_law 859 (.aload_n 2) 1 860 := ⟨by decide +kernel, rfl⟩
theorem d_L_law_860 : mD m_L_law 860 (.aload_n 0) 1 861 := ⟨by decide +kernel, rfl⟩
theorem d_L_law_861 : mD m_L_law 861 (.iload_n 3) 1 862 := ⟨by decide +kernel, rfl⟩
theorem d_L_law_862 : mD m_L_law 862 (.iconst 1) 1 863 := ⟨by decide +kernel, rfl⟩
theorem d_L_law_863 : mD m_L_law 863 (.iadd) 1 864 := ⟨by decide +kernel, rfl⟩
theorem d_L_law_864 : mD m_L_law 864 (.iaload) 1 865 := ⟨by decide +kernel, rfl⟩
theorem d_L_law_865 : mD m_L_law 865 (.aload_n 0) 1 866 := ⟨by decide +kernel, rfl⟩
theorem d_L_law_866 : mD m_L_law 866 (.iload_n 3) 1 867 := ⟨by decide +kernel, rfl⟩
theorem d_L_law_867 : mD m_L_law 867 (.iconst 2) 1 868 := ⟨by decide +kernel, rfl⟩
theorem d_L_law_868 : mD m_L_law 868 (.iadd) 1 869 := ⟨by decide +kernel, rfl⟩
theorem d_L_law_869 : mD m_L_law 869 (.iaload) 1 870 := ⟨by decide +kernel, rfl⟩
theorem d_L_law_870 : mD m_L_law 870 (.aload_n 0) 1 871 := ⟨by decide +kernel, rfl⟩
theorem d_L_law_871 : mD m_L_law 871 (.iload_n 3) 1 872 := ⟨by decide +kernel, rfl⟩
theorem d_L_law_872 : mD m_L_law 872 (.iconst 3) 1 873 := ⟨by decide +kernel, rfl⟩
theorem d_L_law_873 : mD m_L_law 873 (.iadd) 1 874 := ⟨by decide +kernel, rfl⟩
theorem d_L_law_874 : mD m_L_law 874 (.iaload) 1 875 := ⟨by decide +kernel, rfl⟩
theorem d_L_law_875 : mD m_L_law 875 (.invokevirtual 118) 3 878 := ⟨by decide +kernel, rfl⟩
theorem d_L_law_878 : mJ m_L_law 878 (.if_icmp .eq 247) (247) 881 1125 := ⟨by decide +kernel, rfl, rfl⟩
theorem d_L_law_881 : mD m_L_law 881 (.iconst 0) 1 882 := ⟨by decide +kernel, rfl⟩
theorem d_L_law_882 : mD m_L_law 882 (.ireturn) 1 883 := ⟨by decide +kernel, rfl⟩
theorem d_L_law_883 : mD m_L_law 883 (.aload_n 1) 1 884 := ⟨by decide +kernel, rfl⟩
theorem d_L_law_884 : mD m_L_law 884 (.aload_n 0) 1 885 := ⟨by decide +kernel, rfl⟩
theorem d_L_law_885 : mD m_L_law 885 (.iload_n 3) 1 886 := ⟨by decide +kernel, rfl⟩
theorem d_L_law_886 : mD m_L_law 886 (.iconst 1) 1 887 := ⟨by decide +kernel, rfl⟩
theorem d_L_law_887 : mD m_L_law 887 (.iadd) 1 888 := ⟨by decide +kernel, rfl⟩
theorem d_L_law_888 : mD m_L_law 888 (.iaload) 1 889 := ⟨by decide +kernel, rfl⟩
theorem d_L_law_889 : mD m_L_law 889 (.invokevirtual 119) 3 892 := ⟨by decide +kernel, rfl⟩
theorem d_L_law_892 : mD m_L_law 892 (.aload_n 2) 1 893 := ⟨by decide +kernel, rfl⟩
theorem d_L_law_893 : mD m_L_law 893 (.aload_n 0) 1 894 := ⟨by decide +kernel, rfl⟩
theorem d_L_law_894 : mD m_L_law 894 (.iload_n 3) 1 895 := ⟨by decide +kernel, rfl⟩
theorem d_L_law_895 : mD m_L_law 895 (.iconst 1) 1 896 := ⟨by decide +kernel, rfl⟩
theorem d_L_law_896 : mD m_L_law 896 (.iadd) 1 897 := ⟨by decide +kernel, rfl⟩
theorem d_L_law_897 : mD m_L_law 897 (.iaload) 1 898 := ⟨by decide +kernel, rfl⟩
theorem d_L_law_898 : mD m_L_law 898 (.invokevirtual 122) 3 901 := ⟨by decide +kernel, rfl⟩
theorem d_L_law_901 : mJ m_L_law 901 (.if_icmp .eq 224) (224) 904 1125 := ⟨by decide +kernel, rfl, rfl⟩
theorem d_L_law_904 : mD m_L_law 904 (.iconst 0) 1 905 := ⟨by decide +kernel, rfl⟩
theorem d_L_law_905 : mD m_L_law 905 (.ireturn) 1 906 := ⟨by decide +kernel, rfl⟩
theorem d_L_law_906 : mD m_L_law 906 (.aload_n 1) 1 907 := ⟨by decide +kernel, rfl⟩
theorem d_L_law_907 : mD m_L_law 907 (.aload_n 0) 1 908 := ⟨by decide +kernel, rfl⟩
theorem d_L_law_908 : mD m_L_law 908 (.iload_n 3) 1 909 := ⟨by decide +kernel, rfl⟩
theorem d_L_law_909 : mD m_L_law 909 (.iconst 1) 1 910 := ⟨by decide +kernel, rfl⟩
theorem d_L_law_910 : mD m_L_law 910 (.iadd) 1 911 := ⟨by decide +kernel, rfl⟩
theorem d_L_law_911 : mD m_L_law 911 (.iaload) 1 912 := ⟨by decide +kernel, rfl⟩
theorem d_L_law_912 : mD m_L_law 912 (.aload_n 0) 1 913 := ⟨by decide +kernel, rfl⟩
theorem d_L_law_913 : mD m_L_law 913 (.iload_n 3) 1 914 := ⟨by decide +kernel, rfl⟩
theorem d_L_law_914 : mD m_L_law 914 (.iconst 2) 1 915 := ⟨by decide +kernel, rfl⟩
theorem d_L_law_915 : mD m_L_law 915 (.iadd) 1 916 := ⟨by decide +kernel, rfl⟩
theorem d_L_law_916 : mD m_L_law 916 (.iaload) 1 917 := ⟨by decide +kernel, rfl⟩
theorem d_L_law_917 : mD m_L_law 917 (.aload_n 0) 1 918 := ⟨by decide +kernel, rfl⟩
theorem d_L_law_918 : mD m_L_law 918 (.iload_n 3) 1 919 := ⟨by decide +kernel, rfl⟩
theorem d_L_law_919 : mD m_L_law 919 (.iconst 3) 1 920 := ⟨by decide +kernel, rfl⟩
theorem d_L_law_920 : mD m_L_law 920 (.iadd) 1 921 := ⟨by decide +kernel, rfl⟩
theorem d_L_law_921 : mD m_L_law 921 (.iaload) 1 922 := ⟨by decide +kernel, rfl⟩
theorem d_L_law_922 : mD m_L_law 922 (.aload_n 0) 1 923 := ⟨by decide +kernel, rfl⟩
theorem d_L_law_923 : mD m_L_law 923 (.iload_n 3) 1 924 := ⟨by decide +kernel, rfl⟩
theorem d_L_law_924 : mD m_L_law 924 (.iconst 4) 1 925 := ⟨by decide +kernel, rfl⟩
theorem d_L_law_925 : mD m_L_law 925 (.iadd) 1 926 := ⟨by decide +kernel, rfl⟩
theorem d_L_law_926 : mD m_L_law 926 (.iaload) 1 927 := ⟨by decide +kernel, rfl⟩
theorem d_L_law_927 : mD m_L_law 927 (.invokevirtual 123) 3 930 := ⟨by decide +kernel, rfl⟩
theorem d_L_law_930 : mD m_L_law 930 (.aload_n 2) 1 931 := ⟨by decide +kernel, rfl⟩
theorem d_L_law_931 : mD m_L_law 931 (.aload_n 0) 1 932 := ⟨by decide +kernel, rfl⟩
theorem d_L_law_932 : mD m_L_law 932 (.iload_n 3) 1 933 := ⟨by decide +kernel, rfl⟩
theorem d_L_law_933 : mD m_L_law 933 (.iconst 1) 1 934 := ⟨by decide +kernel, rfl⟩
theorem d_L_law_934 : mD m_L_law 934 (.iadd) 1 935 := ⟨by decide +kernel, rfl⟩
theorem d_L_law_935 : mD m_L_law 935 (.iaload) 1 936 := ⟨by decide +kernel, rfl⟩
theorem d_L_law_936 : mD m_L_law 936 (.aload_n 0) 1 937 := ⟨by decide +kernel, rfl⟩
theorem d_L_law_937 : mD m_L_law 937 (.iload_n 3) 1 938 := ⟨by decide +kernel, rfl⟩
theorem d_L_law_938 : mD m_L_law 938 (.iconst 2) 1 939 := ⟨by decide +kernel, rfl⟩
theorem d_L_law_939 : mD m_L_law 939 (.iadd) 1 940 := ⟨by decide +kernel, rfl⟩
theorem d_L_law_940 : mD m_L_law 940 (.iaload) 1 941 := ⟨by decide +kernel, rfl⟩
theorem d_L_law_941 : mD m_L_law 941 (.aload_n 0) 1 942 := ⟨by decide +kernel, rfl⟩
theorem d_L_law_942 : mD m_L_law 942 (.iload_n 3) 1 943 := ⟨by decide +kernel, rfl⟩
theorem d_L_law_943 : mD m_L_law 943 (.iconst 3) 1 944 := ⟨by decide +kernel, rfl⟩
theorem d_L_law_944 : mD m_L_law 944 (.iadd) 1 945 := ⟨by decide +kernel, rfl⟩
theorem d_L_law_945 : mD m_L_law 945 (.iaload) 1 946 := ⟨by decide +kernel, rfl⟩
theorem d_L_law_946 : mD m_L_law 946 (.aload_n 0) 1 947 := ⟨by decide +kernel, rfl⟩
theorem d_L_law_947 : mD m_L_law 947 (.iload_n 3) 1 948 := ⟨by decide +kernel, rfl⟩
theorem d_L_law_948 : mD m_L_law 948 (.iconst 4) 1 949 := ⟨by decide +kernel, rfl⟩
theorem d_L_law_949 : mD m_L_law 949 (.iadd) 1 950 := ⟨by decide +kernel, rfl⟩
theorem d_L_law_950 : mD m_L_law 950 (.iaload) 1 951 := ⟨by decide +kernel, rfl⟩
theorem d_L_law_951 : mD m_L_law 951 (.invokevirtual 126) 3 954 := ⟨by decide +kernel, rfl⟩
theorem d_L_law_954 : mJ m_L_law 954 (.if_icmp .eq 171) (171) 957 1125 := ⟨by decide +kernel, rfl, rfl⟩
theorem d_L_law_957 : mD m_L_law 957 (.iconst 0) 1 958 := ⟨by decide +kernel, rfl⟩
theorem d_L_law_958 : mD m_L_law 958 (.ireturn) 1 959 := ⟨by decide +kernel, rfl⟩
theorem d_L_law_959 : mD m_L_law 959 (.aload_n 1) 1 960 := ⟨by decide +kernel, rfl⟩
theorem d_L_law_960 : mD m_L_law 960 (.aload_n 0) 1 961 := ⟨by decide +kernel, rfl⟩
theorem d_L_law_961 : mD m_L_law 961 (.iload_n 3) 1 962 := ⟨by decide +kernel, rfl⟩
theorem d_L_law_962 : mD m_L_law 962 (.iconst 1) 1 963 := ⟨by decide +kernel, rfl⟩
theorem d_L_law_963 : mD m_L_law 963 (.iadd) 1 964 := ⟨by decide +kernel, rfl⟩
theorem d_L_law_964 : mD m_L_law 964 (.iaload) 1 965 := ⟨by decide +kernel, rfl⟩
theorem d_L_law_965 : mD m_L_law 965 (.aload_n 0) 1 966 := ⟨by decide +kernel, rfl⟩
theorem d_L_law_966 : mD m_L_law 966 (.iload_n 3) 1 967 := ⟨by decide +kernel, rfl⟩
theorem d_L_law_967 : mD m_L_law 967 (.iconst 2) 1 968 := ⟨by decide +kernel, rfl⟩
theorem d_L_law_968 : mD m_L_law 968 (.iadd) 1 969 := ⟨by decide +kernel, rfl⟩
theorem d_L_law_969 : mD m_L_law 969 (.iaload) 1 970 := ⟨by decide +kernel, rfl⟩
theorem d_L_law_970 : mD m_L_law 970 (.aload_n 0) 1 971 := ⟨by decide +kernel, rfl⟩
theorem d_L_law_971 : mD m_L_law 971 (.iload_n 3) 1 972 := ⟨by decide +kernel, rfl⟩
theorem d_L_law_972 : mD m_L_law 972 (.iconst 3) 1 973 := ⟨by decide +kernel, rfl⟩
theorem d_L_law_973 : mD m_L_law 973 (.iadd) 1 974 := ⟨by decide +kernel, rfl⟩
theorem d_L_law_974 : mD m_L_law 974 (.iaload) 1 975 := ⟨by decide +kernel, rfl⟩
theorem d_L_law_975 : mD m_L_law 975 (.invokevirtual 127) 3 978 := ⟨by decide +kernel, rfl⟩
theorem d_L_law_978 : mD m_L_law 978 (.aload_n 2) 1 979 := ⟨by decide +kernel, rfl⟩
theorem d_L_law_979 : mD m_L_law 979 (.aload_n 0) 1 980 := ⟨by decide +kernel, rfl⟩
theorem d_L_law_980 : mD m_L_law 980 (.iload_n 3) 1 981 := ⟨by decide +kernel, rfl⟩
theorem d_L_law_981 : mD m_L_law 981 (.iconst 1) 1 982 := ⟨by decide +kernel, rfl⟩
theorem d_L_law_982 : mD m_L_law 982 (.iadd) 1 983 := ⟨by decide +kernel, rfl⟩
theorem d_L_law_983 : mD m_L_law 983 (.iaload) 1 984 := ⟨by decide +kernel, rfl⟩
theorem d_L_law_984 : mD m_L_law 984 (.aload_n 0) 1 985 := ⟨by decide +kernel, rfl⟩
theorem d_L_law_985 : mD m_L_law 985 (.iload_n 3) 1 986 := ⟨by decide +kernel, rfl⟩
theorem d_L_law_986 : mD m_L_law 986 (.iconst 2) 1 987 := ⟨by decide +kernel, rfl⟩
theorem d_L_law_987 : mD m_L_law 987 (.iadd) 1 988 := ⟨by decide +kernel, rfl⟩
theorem d_L_law_988 : mD m_L_law 988 (.iaload) 1 989 := ⟨by decide +kernel, rfl⟩
theorem d_L_law_989 : mD m_L_law 989 (.aload_n 0) 1 990 := ⟨by decide +kernel, rfl⟩
theorem d_L_law_990 : mD m_L_law 990 (.iload_n 3) 1 991 := ⟨by decide +kernel, rfl⟩
theorem d_L_law_991 : mD m_L_law 991 (.iconst 3) 1 992 := ⟨by decide +kernel, rfl⟩
theorem d_L_law_992 : mD m_L_law 992 (.iadd) 1 993 := ⟨by decide +kernel, rfl⟩
theorem d_L_law_993 : mD m_L_law 993 (.iaload) 1 994 := ⟨by decide +kernel, rfl⟩
theorem d_L_law_994 : mD m_L_law 994 (.invokevirtual 130) 3 997 := ⟨by decide +kernel, rfl⟩
theorem d_L_law_997 : mJ m_L_law 997 (.if_icmp .eq 128) (128) 1000 1125 := ⟨by decide +kernel, rfl, rfl⟩
theorem d_L_law_1000 : mD m_L_law 1000 (.iconst 0) 1 1001 := ⟨by decide +kernel, rfl⟩
theorem d_L_law_1001 : mD m_L_law 1001 (.ireturn) 1 1002 := ⟨by decide +kernel, rfl⟩
theorem d_L_law_1002 : mD m_L_law 1002 (.aload_n 1) 1 1003 := ⟨by decide +kernel, rfl⟩
theorem d_L_law_1003 : mD m_L_law 1003 (.aload_n 0) 1 1004 := ⟨by decide +kernel, rfl⟩
theorem d_L_law_1004 : mD m_L_law 1004 (.iload_n 3) 1 1005 := ⟨by decide +kernel, rfl⟩
theorem d_L_law_1005 : mD m_L_law 1005 (.iconst 1) 1 1006 := ⟨by decide +kernel, rfl⟩
theorem d_L_law_1006 : mD m_L_law 1006 (.iadd) 1 1007 := ⟨by decide +kernel, rfl⟩
theorem d_L_law_1007 : mD m_L_law 1007 (.iaload) 1 1008 := ⟨by decide +kernel, rfl⟩
theorem d_L_law_1008 : mD m_L_law 1008 (.aload_n 0) 1 1009 := ⟨by decide +kernel, rfl⟩
theorem d_L_law_1009 : mD m_L_law 1009 (.iload_n 3) 1 1010 := ⟨by decide +kernel, rfl⟩
theorem d_L_law_1010 : mD m_L_law 1010 (.iconst 2) 1 1011 := ⟨by decide +kernel, rfl⟩
theorem d_L_law_1011 : mD m_L_law 1011 (.iadd) 1 1012 := ⟨by decide +kernel, rfl⟩
theorem d_L_law_1012 : mD m_L_law 1012 (.iaload) 1 1013 := ⟨by decide +kernel, rfl⟩
theorem d_L_law_1013 : mD m_L_law 1013 (.aload_n 0) 1 1014 := ⟨by decide +kernel, rfl⟩
theorem d_L_law_1014 : mD m_L_law 1014 (.iload_n 3) 1 1015 := ⟨by decide +kernel, rfl⟩
theorem d_L_law_1015 : mD m_L_law 1015 (.iconst 3) 1 1016 := ⟨by decide +kernel, rfl⟩
theorem d_L_law_1016 : mD m_L_law 1016 (.iadd) 1 1017 := ⟨by decide +kernel, rfl⟩
theorem d_L_law_1017 : mD m_L_law 1017 (.iaload) 1 1018 := ⟨by decide +kernel, rfl⟩
theorem d_L_law_1018 : mD m_L_law 1018 (.aload_n 0) 1 1019 := ⟨by decide +kernel, rfl⟩
theorem d_L_law_1019 : mD m_L_law 1019 (.iload_n 3) 1 1020 := ⟨by decide +kernel, rfl⟩
theorem d_L_law_1020 : mD m_L_law 1020 (.iconst 4) 1 1021 := ⟨by decide +kernel, rfl⟩
theorem d_L_law_1021 : mD m_L_law 1021 (.iadd) 1 1022 := ⟨by decide +kernel, rfl⟩
theorem d_L_law_1022 : mD m_L_law 1022 (.iaload) 1 1023 := ⟨by decide +kernel, rfl⟩
theorem d_L_law_1023 : mD m_L_law 1023 (.aload_n 0) 1 1024 := ⟨by decide +kernel, rfl⟩
theorem d_L_law_1024 : mD m_L_law 1024 (.iload_n 3) 1 1025 := ⟨by decide +kernel, rfl⟩
theorem d_L_law_1025 : mD m_L_law 1025 (.iconst 5) 1 1026 := ⟨by decide +kernel, rfl⟩
theorem d_L_law_1026 : mD m_L_law 1026 (.iadd) 1 1027 := ⟨by decide +kernel, rfl⟩
theorem d_L_law_1027 : mD m_L_law 1027 (.iaload) 1 1028 := ⟨by decide +kernel, rfl⟩
theorem d_L_law_1028 : mD m_L_law 1028 (.invokevirtual 131) 3 1031 := ⟨by decide +kernel, rfl⟩
theorem d_L_law_1031 : mD m_L_law 1031 (.aload_n 2) 1 1032 := ⟨by decide +kernel, rfl⟩
theorem d_L_law_1032 : mD m_L_law 1032 (.aload_n 0) 1 1033 := ⟨by decide +kernel, rfl⟩
theorem d_L_law_1033 : mD m_L_law 1033 (.iload_n 3) 1 1034 := ⟨by decide +kernel, rfl⟩
theorem d_L_law_1034 : mD m_L_law 1034 (.iconst 1) 1 1035 := ⟨by decide +kernel, rfl⟩
theorem d_L_law_1035 : mD m_L_law 1035 (.iadd) 1 1036 := ⟨by decide +kernel, rfl⟩
theorem d_L_law_1036 : mD m_L_law 1036 (.iaload) 1 1037 := ⟨by decide +kernel, rfl⟩
theorem d_L_law_1037 : mD m_L_law 1037 (.aload_n 0) 1 1038 := ⟨by decide +kernel, rfl⟩
theorem d_L_law_1038 : mD m_L_law 1038 (.iload_n 3) 1 1039 := ⟨by decide +kernel, rfl⟩
theorem d_L_law_1039 : mD m_L_law 1039 (.iconst 2) 1 1040 := ⟨by decide +kernel, rfl⟩
theorem d_L_law_1040 : mD m_L_law 1040 (.iadd) 1 1041 := ⟨by decide +kernel, rfl⟩
theorem d_L_law_1041 : mD m_L_law 1041 (.iaload) 1 1042 := ⟨by decide +kernel, rfl⟩
theorem d_L_law_1042 : mD m_L_law 1042 (.aload_n 0) 1 1043 := ⟨by decide +kernel, rfl⟩
theorem d_L_law_1043 : mD m_L_law 1043 (.iload_n 3) 1 1044 := ⟨by decide +kernel, rfl⟩
theorem d_L_law_1044 : mD m_L_law 1044 (.iconst 3) 1 1045 := ⟨by decide +kernel, rfl⟩
theorem d_L_law_1045 : mD m_L_law 1045 (.iadd) 1 1046 := ⟨by decide +kernel, rfl⟩
theorem d_L_law_1046 : mD m_L_law 1046 (.iaload) 1 1047 := ⟨by decide +kernel, rfl⟩
theorem d_L_law_1047 : mD m_L_law 1047 (.aload_n 0) 1 1048 := ⟨by decide +kernel, rfl⟩
theorem d_L_law_1048 : mD m_L_law 1048 (.iload_n 3) 1 1049 := ⟨by decide +kernel, rfl⟩
theorem d_L_law_1049 : mD m_L_law 1049 (.iconst 4) 1 1050 := ⟨by decide +kernel, rfl⟩
theorem d_L_law_1050 : mD m_L_law 1050 (.iadd) 1 1051 := ⟨by decide +kernel, rfl⟩
theorem d_L_law_1051 : mD m_L_law 1051 (.iaload) 1 1052 := ⟨by decide +kernel, rfl⟩
theorem d_L_law_1052 : mD m_L_law 1052 (.aload_n 0) 1 1053 := ⟨by decide +kernel, rfl⟩
theorem d_L_law_1053 : mD m_L_law 1053 (.iload_n 3) 1 1054 := ⟨by decide +kernel, rfl⟩
theorem d_L_law_1054 : mD m_L_law 1054 (.iconst 5) 1 1055 := ⟨by decide +kernel, rfl⟩
theorem d_L_law_1055 : mD m_L_law 1055 (.iadd) 1 1056 := ⟨by decide +kernel, rfl⟩
theorem d_L_law_1056 : mD m_L_law 1056 (.iaload) 1 1057 := ⟨by decide +kernel, rfl⟩
theorem d_L_law_1057 : mD m_L_law 1057 (.invokevirtual 135) 3 1060 := ⟨by decide +kernel, rfl⟩
theorem d_L_law_1060 : mJ m_L_law 1060 (.if_icmp .eq 65) (65) 1063 1125 := ⟨by decide +kernel, rfl, rfl⟩
theorem d_L_law_1063 : mD m_L_law 1063 (.iconst 0) 1 1064 := ⟨by decide +kernel, rfl⟩
theorem d_L_law_1064 : mD m_L_law 1064 (.ireturn) 1 1065 := ⟨by decide +kernel, rfl⟩
theorem d_L_law_1065 : mD m_L_law 1065 (.aload_n 1) 1 1066 := ⟨by decide +kernel, rfl⟩
theorem d_L_law_1066 : mD m_L_law 1066 (.aload_n 0) 1 1067 := ⟨by decide +kernel, rfl⟩
theorem d_L_law_1067 : mD m_L_law 1067 (.iload_n 3) 1 1068 := ⟨by decide +kernel, rfl⟩
theorem d_L_law_1068 : mD m_L_law 1068 (.iconst 1) 1 1069 := ⟨by decide +kernel, rfl⟩
theorem d_L_law_1069 : mD m_L_law 1069 (.iadd) 1 1070 := ⟨by decide +kernel, rfl⟩
theorem d_L_law_1070 : mD m_L_law 1070 (.iaload) 1 1071 := ⟨by decide +kernel, rfl⟩
theorem d_L_law_1071 : mD m_L_law 1071 (.invokevirtual 136) 3 1074 := ⟨by decide +kernel, rfl⟩
theorem d_L_law_1074 : mD m_L_law 1074 (.aload_n 2) 1 1075 := ⟨by decide +kernel, rfl⟩
theorem d_L_law_1075 : mD m_L_law 1075 (.aload_n 0) 1 1076 := ⟨by decide +kernel, rfl⟩
theorem d_L_law_1076 : mD m_L_law 1076 (.iload_n 3) 1 1077 := ⟨by decide +kernel, rfl⟩
theorem d_L_law_1077 : mD m_L_law 1077 (.iconst 1) 1 1078 := ⟨by decide +kernel, rfl⟩
theorem d_L_law_1078 : mD m_L_law 1078 (.iadd) 1 1079 := ⟨by decide +kernel, rfl⟩
theorem d_L_law_1079 : mD m_L_law 1079 (.iaload) 1 1080 := ⟨by decide +kernel, rfl⟩
theorem d_L_law_1080 : mD m_L_law 1080 (.invokevirtual 139) 3 1083 := ⟨by decide +kernel, rfl⟩
theorem d_L_law_1083 : mJ m_L_law 1083 (.if_icmp .eq 42) (42) 1086 1125 := ⟨by decide +kernel, rfl, rfl⟩
theorem d_L_law_1086 : mD m_L_law 1086 (.iconst 0) 1 1087 := ⟨by decide +kernel, rfl⟩
theorem d_L_law_1087 : mD m_L_law 1087 (.ireturn) 1 1088 := ⟨by decide +kernel, rfl⟩
theorem d_L_law_1088 : mD m_L_law 1088 (.aload_n 1) 1 1089 := ⟨by decide +kernel, rfl⟩
theorem d_L_law_1089 : mD m_L_law 1089 (.aload_n 0) 1 1090 := ⟨by decide +kernel, rfl⟩
theorem d_L_law_1090 : mD m_L_law 1090 (.iload_n 3) 1 1091 := ⟨by decide +kernel, rfl⟩
theorem d_L_law_1091 : mD m_L_law 1091 (.iconst 1) 1 1092 := ⟨by decide +kernel, rfl⟩
theorem d_L_law_1092 : mD m_L_law 1092 (.iadd) 1 1093 := ⟨by decide +kernel, rfl⟩
theorem d_L_law_1093 : mD m_L_law 1093 (.iaload) 1 1094 := ⟨by decide +kernel, rfl⟩
theorem d_L_law_1094 : mD m_L_law 1094 (.invokevirtual 140) 3 1097 := ⟨by decide +kernel, rfl⟩
theorem d_L_law_1097 : mD m_L_law 1097 (.aload_n 2) 1 1098 := ⟨by decide +kernel, rfl⟩
theorem d_L_law_1098 : mD m_L_law 1098 (.aload_n 0) 1 1099 := ⟨by decide +kernel, rfl⟩
theorem d_L_law_1099 : mD m_L_law 1099 (.iload_n 3) 1 1100 := ⟨by decide +kernel, rfl⟩
theorem d_L_law_1100 : mD m_L_law 1100 (.iconst 1) 1 1101 := ⟨by decide +kernel, rfl⟩
theorem d_L_law_1101 : mD m_L_law 1101 (.iadd) 1 1102 := ⟨by decide +kernel, rfl⟩
theorem d_L_law_1102 : mD m_L_law 1102 (.iaload) 1 1103 := ⟨by decide +kernel, rfl⟩
theorem d_L_law_1103 : mD m_L_law 1103 (.invokevirtual 143) 3 1106 := ⟨by decide +kernel, rfl⟩
theorem d_L_law_1106 : mJ m_L_law 1106 (.if_icmp .eq 19) (19) 1109 1125 := ⟨by decide +kernel, rfl, rfl⟩
theorem d_L_law_1109 : mD m_L_law 1109 (.iconst 0) 1 1110 := ⟨by decide +kernel, rfl⟩
theorem d_L_law_1110 : mD m_L_law 1110 (.ireturn) 1 1111 := ⟨by decide +kernel, rfl⟩
theorem d_L_law_1111 : mD m_L_law 1111 (.aload_n 1) 1 1112 := ⟨by decide +kernel, rfl⟩
theorem d_L_law_1112 : mD m_L_law 1112 (.invokevirtual 144) 3 1115 := ⟨by decide +kernel, rfl⟩
theorem d_L_law_1115 : mD m_L_law 1115 (.aload_n 2) 1 1116 := ⟨by decide +kernel, rfl⟩
theorem d_L_law_1116 : mD m_L_law 1116 (.invokevirtual 148) 3 1119 := ⟨by decide +kernel, rfl⟩
theorem d_L_law_1119 : mD m_L_law 1119 (.lcmp) 1 1120 := ⟨by decide +kernel, rfl⟩
theorem d_L_law_1120 : mJ m_L_law 1120 (.ifCond .eq 5) (5) 1123 1125 := ⟨by decide +kernel, rfl, rfl⟩
theorem d_L_law_1123 : mD m_L_law 1123 (.iconst 0) 1 1124 := ⟨by decide +kernel, rfl⟩
theorem d_L_law_1124 : mD m_L_law 1124 (.ireturn) 1 1125 := ⟨by decide +kernel, rfl⟩
theorem d_L_law_1125 : mD m_L_law 1125 (.iinc 3 6) 3 1128 := ⟨by decide +kernel, rfl⟩
theorem d_L_law_1128 : mJ m_L_law 1128 (.goto (-1110)) (-1110) 1131 18 := ⟨by decide +kernel, rfl, rfl⟩
theorem d_L_law_1131 : mD m_L_law 1131 (.iconst 1) 1 1132 := ⟨by decide +kernel, rfl⟩
theorem d_L_law_1132 : mD m_L_law 1132 (.ireturn) 1 1133 := ⟨by decide +kernel, rfl⟩
theorem d_M_ages_0 : mD m_M_ages 0 (.aload_n 0) 1 1 := ⟨by decide +kernel, rfl⟩
theorem d_M_ages_1 : mD m_M_ages 1 (.iload_n 1) 1 2 := ⟨by decide +kernel, rfl⟩
theorem d_M_ages_2 : mD m_M_ages 2 (.invokevirtual 148) 3 5 := ⟨by decide +kernel, rfl⟩
theorem d_M_ages_5 : mJ m_M_ages 5 (.ifCond .eq 24) (24) 8 29 := ⟨by decide +kernel, rfl, rfl⟩
theorem d_M_ages_8 : mD m_M_ages 8 (.iload_n 2) 1 9 := ⟨by decide +kernel, rfl⟩
theorem d_M_ages_9 : mD m_M_ages 9 (.i2l) 1 10 := ⟨by decide +kernel, rfl⟩
theorem d_M_ages_10 : mD m_M_ages 10 (.lconst 0) 1 11 := ⟨by decide +kernel, rfl⟩
theorem d_M_ages_11 : mD m_M_ages 11 (.ldc2_w 102) 3 14 := ⟨by decide +kernel, rfl⟩
theorem d_M_ages_14 : mD m_M_ages 14 (.invokestatic 88) 3 17 := ⟨by decide +kernel, rfl⟩
theorem d_M_ages_17 : mJ m_M_ages 17 (.ifCond .eq 12) (12) 20 29 := ⟨by decide +kernel, rfl, rfl⟩
theorem d_M_ages_20 : mD m_M_ages 20 (.aload_n 0) 1 21 := ⟨by decide +kernel, rfl⟩
theorem d_M_ages_21 : mD m_M_ages 21 (.iload_n 1) 1 22 := ⟨by decide +kernel, rfl⟩
theorem d_M_ages_22 : mD m_M_ages 22 (.iload_n 2) 1 23 := ⟨by decide +kernel, rfl⟩
theorem d_M_ages_23 : mD m_M_ages 23 (.invokevirtual 269) 3 26 := ⟨by decide +kernel, rfl⟩
theorem d_M_ages_26 : mJ m_M_ages 26 (.goto 5) (5) 29 31 := ⟨by decide +kernel, rfl, rfl⟩
theorem d_M_ages_29 : mD m_M_ages 29 (.bipush (-2)) 2 31 := ⟨by decide +kernel, rfl⟩
theorem d_M_ages_31 : mD m_M_ages 31 (.ireturn) 1 32 := ⟨by decide +kernel, rfl⟩
theorem d_M_agesOf_0 : mD m_M_agesOf 0 (.iconst 0) 1 1 := ⟨by decide +kernel, rfl⟩
theorem d_M_agesOf_1 : mD m_M_agesOf 1 (.istore_n 3) 1 2 := ⟨by decide +kernel, rfl⟩
theorem d_M_agesOf_2 : mD m_M_agesOf 2 (.iconst (-1)) 1 3 := ⟨by decide +kernel, rfl⟩
theorem d_M_agesOf_3 : mD m_M_agesOf 3 (.istore 4) 2 5 := ⟨by decide +kernel, rfl⟩
theorem d_M_agesOf_5 : mD m_M_agesOf 5 (.iconst (-1)) 1 6 := ⟨by decide +kernel, rfl⟩
theorem d_M_agesOf_6 : mD m_M_agesOf 6 (.istore 5) 2 8 := ⟨by decide +kernel, rfl⟩
theorem d_M_agesOf_8 : mD m_M_agesOf 8 (.iconst 0) 1 9 := ⟨by decide +kernel, rfl⟩
theorem d_M_agesOf_9 : mD m_M_agesOf 9 (.istore 6) 2 11 := ⟨by decide +kernel, rfl⟩
theorem d_M_agesOf_11 : mD m_M_agesOf 11 (.iload 6) 2 13 := ⟨by decide +kernel, rfl⟩
theorem d_M_agesOf_13 : mD m_M_agesOf 13 (.bipush 120) 2 15 := ⟨by decide +kernel, rfl⟩
theorem d_M_agesOf_15 : mJ m_M_agesOf 15 (.if_icmp .gt 68) (68) 18 83 := ⟨by decide +kernel, rfl, rfl⟩
theorem d_M_agesOf_18 : mD m_M_agesOf 18 (.iload 6) 2 20 := ⟨by decide +kernel, rfl⟩
theorem d_M_agesOf_20 : mD m_M_agesOf 20 (.aload_n 0) 1 21 := ⟨by decide +kernel, rfl⟩
theorem d_M_agesOf_21 : mD m_M_agesOf 21 (.getfield 34) 3 24 := ⟨by decide +kernel, rfl⟩
theorem d_M_agesOf_24 : mD m_M_agesOf 24 (.iload_n 1) 1 25 := ⟨by decide +kernel, rfl⟩
theorem d_M_agesOf_25 : mD m_M_agesOf 25 (.iaload) 1 26 := ⟨by decide +kernel, rfl⟩
theorem d_M_agesOf_26 : mD m_M_agesOf 26 (.iadd) 1 27 := ⟨by decide +kernel, rfl⟩
theorem d_M_agesOf_27 : mJ m_M_agesOf 27 (.ifCond .ge 7) (7) 30 34 := ⟨by decide +kernel, rfl, rfl⟩
theorem d_M_agesOf_30 : mD m_M_agesOf 30 (.iconst 0) 1 31 := ⟨by decide +kernel, rfl⟩
theorem d_M_agesOf_31 : mJ m_M_agesOf 31 (.goto 12) (12) 34 43 := ⟨by decide +kernel, rfl, rfl⟩
theorem d_M_agesOf_34 : mD m_M_agesOf 34 (.iload 6) 2 36 := ⟨by decide +kernel, rfl⟩
theorem d_M_agesOf_36 : mD m_M_agesOf 36 (.aload_n 0) 1 37 := ⟨by decide +kernel, rfl⟩
theorem d_M_agesOf_37 : mD m_M_agesOf 37 (.getfield 34) 3 40 := ⟨by decide +kernel, rfl⟩
theorem d_M_agesOf_40 : mD m_M_agesOf 40 (.iload_n 1) 1 41 := ⟨by decide +kernel, rfl⟩
theorem d_M_agesOf_41 : mD m_M_agesOf 41 (.iaload) 1 42 := ⟨by decide +kernel, rfl⟩
theorem d_M_agesOf_42 : mD m_M_agesOf 42 (.iadd) 1 43 := ⟨by decide +kernel, rfl⟩
theorem d_M_agesOf_43 : mD m_M_agesOf 43 (.istore 7) 2 45 := ⟨by decide +kernel, rfl⟩
theorem d_M_agesOf_45 : mD m_M_agesOf 45 (.aload_n 0) 1 46 := ⟨by decide +kernel, rfl⟩
theorem d_M_agesOf_46 : mD m_M_agesOf 46 (.iload_n 1) 1 47 := ⟨by decide +kernel, rfl⟩
theorem d_M_agesOf_47 : mD m_M_agesOf 47 (.iload 7) 2 49 := ⟨by decide +kernel, rfl⟩
theorem d_M_agesOf_49 : mD m_M_agesOf 49 (.invokevirtual 266) 3 52 := ⟨by decide +kernel, rfl⟩
theorem d_M_agesOf_52 : mJ m_M_agesOf 52 (.ifCond .eq 25) (25) 55 77 := ⟨by decide +kernel, rfl, rfl⟩
theorem d_M_agesOf_55 : mD m_M_agesOf 55 (.iinc 3 1) 3 58 := ⟨by decide +kernel, rfl⟩
theorem d_M_agesOf_58 : mD m_M_agesOf 58 (.iload 4) 2 60 := ⟨by decide +kernel, rfl⟩
theorem d_M_agesOf_60 : mD m_M_agesOf 60 (.iconst (-1)) 1 61 := ⟨by decide +kernel, rfl⟩
theorem d_M_agesOf_61 : mJ m_M_agesOf 61 (.if_icmp .ne 8) (8) 64 69 := ⟨by decide +kernel, rfl, rfl⟩
theorem d_M_agesOf_64 : mD m_M_agesOf 64 (.iload 6) 2 66 := ⟨by decide +kernel, rfl⟩
theorem d_M_agesOf_66 : mJ m_M_agesOf 66 (.goto 5) (5) 69 71 := ⟨by decide +kernel, rfl, rfl⟩
theorem d_M_agesOf_69 : mD m_M_agesOf 69 (.iload 4) 2 71 := ⟨by decide +kernel, rfl⟩
theorem d_M_agesOf_71 : mD m_M_agesOf 71 (.istore 4) 2 73 := ⟨by decide +kernel, rfl⟩
theorem d_M_agesOf_73 : mD m_M_agesOf 73 (.iload 6) 2 75 := ⟨by decide +kernel, rfl⟩
theorem d_M_agesOf_75 : mD m_M_agesOf 75 (.istore 5) 2 77 := ⟨by decide +kernel, rfl⟩
theorem d_M_agesOf_77 : mD m_M_agesOf 77 (.iinc 6 1) 3 80 := ⟨by decide +kernel, rfl⟩
theorem d_M_agesOf_80 : mJ m_M_agesOf 80 (.goto (-69)) (-69) 83 11 := ⟨by decide +kernel, rfl, rfl⟩
theorem d_M_agesOf_83 : mD m_M_agesOf 83 (.iload_n 2) 1 84 := ⟨by decide +kernel, rfl⟩
theorem d_M_agesOf_84 : mJ m_M_agesOf 84 (.ifCond .ne 7) (7) 87 91 := ⟨by decide +kernel, rfl, rfl⟩
theorem d_M_agesOf_87 : mD m_M_agesOf 87 (.iload_n 3) 1 88 := ⟨by decide +kernel, rfl⟩
theorem d_M_agesOf_88 : mJ m_M_agesOf 88 (.goto 15) (15) 91 103 := ⟨by decide +kernel, rfl, rfl⟩
theorem d_M_agesOf_91 : mD m_M_agesOf 91 (.iload_n 2) 1 92 := ⟨by decide +kernel, rfl⟩
theorem d_M_agesOf_92 : mD m_M_agesOf 92 (.iconst 1) 1 93 := ⟨by decide +kernel, rfl⟩
theorem d_M_agesOf_93 : mJ m_M_agesOf 93 (.if_icmp .ne 8) (8) 96 101 := ⟨by decide +kernel, rfl, rfl⟩
theorem d_M_agesOf_96 : mD m_M_agesOf 96 (.iload 4) 2 98 := ⟨by decide +kernel, rfl⟩
theorem d_M_agesOf_98 : mJ m_M_agesOf 98 (.goto 5) (5) 101 103 := ⟨by decide +kernel, rfl, rfl⟩
theorem d_M_agesOf_101 : mD m_M_agesOf 101 (.iload 5) 2 103 := ⟨by decide +kernel, rfl⟩
theorem d_M_agesOf_103 : mD m_M_agesOf 103 (.ireturn) 1 104 := ⟨by decide +kernel, rfl⟩
theorem d_M_back_0 : mD m_M_back 0 (.aload_n 0) 1 1 := ⟨by decide +kernel, rfl⟩
theorem d_M_back_1 : mD m_M_back 1 (.invokevirtual 143) 3 4 := ⟨by decide +kernel, rfl⟩
theorem d_M_back_4 : mD m_M_back 4 (.pop) 1 5 := ⟨by decide +kernel, rfl⟩
theorem d_M_back_5 : mD m_M_back 5 (.aload_n 0) 1 6 := ⟨by decide +kernel, rfl⟩
theorem d_M_back_6 : mD m_M_back 6 (.invokevirtual 258) 3 9 := ⟨by decide +kernel, rfl⟩
theorem d_M_back_9 : mD m_M_back 9 (.ireturn) 1 10 := ⟨by decide +kernel, rfl⟩
theorem d_M_backNow_0 : mD m_M_backNow 0 (.aload_n 0) 1 1 := ⟨by decide +kernel, rfl⟩
theorem d_M_backNow_1 : mD m_M_backNow 1 (.getfield 125) 3 4 := ⟨by decide +kernel, rfl⟩
theorem d_M_backNow_4 : mD m_M_backNow 4 (.bipush 8) 2 6 := ⟨by decide +kernel, rfl⟩
theorem d_M_backNow_6 : mJ m_M_backNow 6 (.if_icmp .le 6) (6) 9 12 := ⟨by decide +kernel, rfl, rfl⟩
theorem d_M_backNow_9 : mD m_M_backNow 9 (.bipush (-4)) 2 11 := ⟨by decide +kernel, rfl⟩
theorem d_M_backNow_11 : mD m_M_backNow 11 (.ireturn) 1 12 := ⟨by decide +kernel, rfl⟩
theorem d_M_backNow_12 : mD m_M_backNow 12 (.aload_n 0) 1 13 := ⟨by decide +kernel, rfl⟩
theorem d_M_backNow_13 : mD m_M_backNow 13 (.invokevirtual 201) 3 16 := ⟨by decide +kernel, rfl⟩
theorem d_M_backNow_16 : mD m_M_backNow 16 (.aload_n 0) 1 17 := ⟨by decide +kernel, rfl⟩
theorem d_M_backNow_17 : mD m_M_backNow 17 (.iconst 0) 1 18 := ⟨by decide +kernel, rfl⟩
theorem d_M_backNow_18 : mD m_M_backNow 18 (.putfield 249) 3 21 := ⟨by decide +kernel, rfl⟩
theorem d_M_backNow_21 : mD m_M_backNow 21 (.iconst 0) 1 22 := ⟨by decide +kernel, rfl⟩
theorem d_M_backNow_22 : mD m_M_backNow 22 (.istore_n 1) 1 23 := ⟨by decide +kernel, rfl⟩
theorem d_M_backNow_23 : mD m_M_backNow 23 (.iload_n 1) 1 24 := ⟨by decide +kernel, rfl⟩
theorem d_M_backNow_24 : mD m_M_backNow 24 (.bipush 9) 2 26 := ⟨by decide +kernel, rfl⟩
theorem d_M_backNow_26 : mJ m_M_backNow 26 (.if_icmp .ge 16) (16) 29 42 := ⟨by decide +kernel, rfl, rfl⟩
theorem d_M_backNow_29 : mD m_M_backNow 29 (.aload_n 0) 1 30 := ⟨by decide +kernel, rfl⟩
theorem d_M_backNow_30 : mD m_M_backNow 30 (.getfield 71) 3 33 := ⟨by decide +kernel, rfl⟩
theorem d_M_backNow_33 : mD m_M_backNow 33 (.iload_n 1) 1 34 := ⟨by decide +kernel, rfl⟩
theorem d_M_backNow_34 : mD m_M_backNow 34 (.iconst 0) 1 35 := ⟨by decide +kernel, rfl⟩
theorem d_M_backNow_35 : mD m_M_backNow 35 (.iastore) 1 36 := ⟨by decide +kernel, rfl⟩
theorem d_M_backNow_36 : mD m_M_backNow 36 (.iinc 1 1) 3 39 := ⟨by decide +kernel, rfl⟩
theorem d_M_backNow_39 : mJ m_M_backNow 39 (.goto (-16)) (-16) 42 23 := ⟨by decide +kernel, rfl, rfl⟩
theorem d_M_backNow_42 : mD m_M_backNow 42 (.iconst 1) 1 43 := ⟨by decide +kernel, rfl⟩
theorem d_M_backNow_43 : mD m_M_backNow 43 (.istore_n 1) 1 44 := ⟨by decide +kernel, rfl⟩
theorem d_M_backNow_44 : mD m_M_backNow 44 (.iload_n 1) 1 45 := ⟨by decide +kernel, rfl⟩
theorem d_M_backNow_45 : mJ m_M_backNow 45 (.ifCond .eq 15) (15) 48 60 := ⟨by decide +kernel, rfl, rfl⟩
theorem d_M_backNow_48 : mD m_M_backNow 48 (.aload_n 0) 1 49 := ⟨by decide +kernel, rfl⟩
theorem d_M_backNow_49 : mD m_M_backNow 49 (.invokevirtual 252) 3 52 := ⟨by decide +kernel, rfl⟩
theorem d_M_backNow_52 : mD m_M_backNow 52 (.aload_n 0) 1 53 := ⟨by decide +kernel, rfl⟩
theorem d_M_backNow_53 : mD m_M_backNow 53 (.invokevirtual 255) 3 56 := ⟨by decide +kernel, rfl⟩
theorem d_M_backNow_56 : mD m_M_backNow 56 (.istore_n 1) 1 57 := ⟨by decide +kernel, rfl⟩
theorem d_M_backNow_57 : mJ m_M_backNow 57 (.goto (-13)) (-13) 60 44 := ⟨by decide +kernel, rfl, rfl⟩
theorem d_M_backNow_60 : mD m_M_backNow 60 (.iconst (-1)) 1 61 := ⟨by decide +kernel, rfl⟩
theorem d_M_backNow_61 : mD m_M_backNow 61 (.istore_n 2) 1 62 := ⟨by decide +kernel, rfl⟩
theorem d_M_backNow_62 : mD m_M_backNow 62 (.iconst 0) 1 63 := ⟨by decide +kernel, rfl⟩
theorem d_M_backNow_63 : mD m_M_backNow 63 (.istore_n 3) 1 64 := ⟨by decide +kernel, rfl⟩
theorem d_M_backNow_64 : mD m_M_backNow 64 (.iload_n 3) 1 65 := ⟨by decide +kernel, rfl⟩
theorem d_M_backNow_65 : mD m_M_backNow 65 (.aload_n 0) 1 66 := ⟨by decide +kernel, rfl⟩
theorem d_M_backNow_66 : mD m_M_backNow 66 (.getfield 249) 3 69 := ⟨by decide +kernel, rfl⟩
theorem d_M_backNow_69 : mJ m_M_backNow 69 (.if_icmp .ge 78) (78) 72 147 := ⟨by decide +kernel, rfl, rfl⟩
theorem d_M_backNow_72 : mD m_M_backNow 72 (.iload_n 3) 1 73 := ⟨by decide +kernel, rfl⟩
theorem d_M_backNow_73 : mD m_M_backNow 73 (.istore 4) 2 75 := ⟨by decide +kernel, rfl⟩
theorem d_M_backNow_75 : mD m_M_backNow 75 (.iload 4) 2 77 := ⟨by decide +kernel, rfl⟩
theorem d_M_backNow_77 : mD m_M_backNow 77 (.aload_n 0) 1 78 := ⟨by decide +kernel, rfl⟩
theorem d_M_backNow_78 : mD m_M_backNow 78 (.getfield 249) 3 81 := ⟨by decide +kernel, rfl⟩
theorem d_M_backNow_81 : mJ m_M_backNow 81 (.if_icmp .ge 60) (60) 84 141 := ⟨by decide +kernel, rfl, rfl⟩
theorem d_M_backNow_84 : mD m_M_backNow 84 (.aload_n 0) 1 85 := ⟨by decide +kernel, rfl⟩
theorem d_M_backNow_85 : mD m_M_backNow 85 (.getfield 77) 3 88 := ⟨by decide +kernel, rfl⟩
theorem d_M_backNow_88 : mD m_M_backNow 88 (.iload_n 3) 1 89 := ⟨by decide +kernel, rfl⟩
theorem d_M_backNow_89 : mD m_M_backNow 89 (.iaload) 1 90 := ⟨by decide +kernel, rfl⟩
theorem d_M_backNow_90 : mD m_M_backNow 90 (.aload_n 0) 1 91 := ⟨by decide +kernel, rfl⟩
theorem d_M_backNow_91 : mD m_M_backNow 91 (.getfield 77) 3 94 := ⟨by decide +kernel, rfl⟩
theorem d_M_backNow_94 : mD m_M_backNow 94 (.iload 4) 2 96 := ⟨by decide +kernel, rfl⟩
theorem d_M_backNow_96 : mD m_M_backNow 96 (.iaload) 1 97 := ⟨by decide +kernel, rfl⟩
theorem d_M_backNow_97 : mD m_M_backNow 97 (.iadd) 1 98 := ⟨by decide +kernel, rfl⟩
theorem d_M_backNow_98 : mD m_M_backNow 98 (.istore 5) 2 100 := ⟨by decide +kernel, rfl⟩
theorem d_M_backNow_100 : mD m_M_backNow 100 (.iload_n 2) 1 101 := ⟨by decide +kernel, rfl⟩
theorem d_M_backNow_101 : mD m_M_backNow 101 (.iconst (-1)) 1 102 := ⟨by decide +kernel, rfl⟩
theorem d_M_backNow_102 : mJ m_M_backNow 102 (.if_icmp .eq 9) (9) 105 111 := ⟨by decide +kernel, rfl, rfl⟩
theorem d_M_backNow_105 : mD m_M_backNow 105 (.iload 5) 2 107 := ⟨by decide +kernel, rfl⟩
theorem d_M_backNow_107 : mD m_M_backNow 107 (.iload_n 2) 1 108 := ⟨by decide +kernel, rfl⟩
theorem d_M_backNow_108 : mJ m_M_backNow 108 (.if_icmp .ge 25) (25) 111 133 := ⟨by decide +kernel, rfl, rfl⟩
theorem d_M_backNow_111 : mD m_M_backNow 111 (.aload_n 0) 1 112 := ⟨by decide +kernel, rfl⟩
theorem d_M_backNow_112 : mD m_M_backNow 112 (.getfield 74) 3 115 := ⟨by decide +kernel, rfl⟩
theorem d_M_backNow_115 : mD m_M_backNow 115 (.iload_n 3) 1 116 := ⟨by decide +kernel, rfl⟩
theorem d_M_backNow_116 : mD m_M_backNow 116 (.iaload) 1 117 := ⟨by decide +kernel, rfl⟩
theorem d_M_backNow_117 : mD m_M_backNow 117 (.aload_n 0) 1 118 := ⟨by decide +kernel, rfl⟩
theorem d_M_backNow_118 : mD m_M_backNow 118 (.getfield 74) 3 121 := ⟨by decide +kernel, rfl⟩
theorem d_M_backNow_121 : mD m_M_backNow 121 (.iload 4) 2 123 := ⟨by decide +kernel, rfl⟩
theorem d_M_backNow_123 : mD m_M_backNow 123 (.iaload) 1 124 := ⟨by decide +kernel, rfl⟩
theorem d_M_backNow_124 : mD m_M_backNow 124 (.iand) 1 125 := ⟨by decide +kernel, rfl⟩
theorem d_M_backNow_125 : mJ m_M_backNow 125 (.ifCond .ne 8) (8) 128 133 := ⟨by decide +kernel, rfl, rfl⟩
theorem d_M_backNow_128 : mD m_M_backNow 128 (.iload 5) 2 130 := ⟨by decide +kernel, rfl⟩
theorem d_M_backNow_130 : mJ m_M_backNow 130 (.goto 4) (4) 133 134 := ⟨by decide +kernel, rfl, rfl⟩
theorem d_M_backNow_133 : mD m_M_backNow 133 (.iload_n 2) 1 134 := ⟨by decide +kernel, rfl⟩
theorem d_M_backNow_134 : mD m_M_backNow 134 (.istore_n 2) 1 135 := ⟨by decide +kernel, rfl⟩
theorem d_M_backNow_135 : mD m_M_backNow 135 (.iinc 4 1) 3 138 := ⟨by decide +kernel, rfl⟩
theorem d_M_backNow_138 : mJ m_M_backNow 138 (.goto (-63)) (-63) 141 75 := ⟨by decide +kernel, rfl, rfl⟩
theorem d_M_backNow_141 : mD m_M_backNow 141 (.iinc 3 1) 3 144 := ⟨by decide +kernel, rfl⟩
theorem d_M_backNow_144 : mJ m_M_backNow 144 (.goto (-80)) (-80) 147 64 := ⟨by decide +kernel, rfl, rfl⟩
theorem d_M_backNow_147 : mD m_M_backNow 147 (.iload_n 2) 1 148 := ⟨by decide +kernel, rfl⟩
theorem d_M_backNow_148 : mD m_M_backNow 148 (.ireturn) 1 149 := ⟨by decide +kernel, rfl⟩
theorem d_M_boat_0 : mD m_M_boat 0 (.aload_n 0) 1 1 := ⟨by decide +kernel, rfl⟩
theorem d_M_boat_1 : mD m_M_boat 1 (.invokevirtual 143) 3 4 := ⟨by decide +kernel, rfl⟩
theorem d_M_boat_4 : mD m_M_boat 4 (.pop) 1 5 := ⟨by decide +kernel, rfl⟩
theorem d_M_boat_5 : mD m_M_boat 5 (.iload_n 1) 1 6 := ⟨by decide +kernel, rfl⟩
theorem d_M_boat_6 : mD m_M_boat 6 (.i2l) 1 7 := ⟨by decide +kernel, rfl⟩
theorem d_M_boat_7 : mD m_M_boat 7 (.lconst 1) 1 8 := ⟨by decide +kernel, rfl⟩
theorem d_M_boat_8 : mD m_M_boat 8 (.aload_n 0) 1 9 := ⟨by decide +kernel, rfl⟩
theorem d_M_boat_9 : mD m_M_boat 9 (.invokevirtual 184) 3 12 := ⟨by decide +kernel, rfl⟩
theorem d_M_boat_12 : mD m_M_boat 12 (.i2l) 1 13 := ⟨by decide +kernel, rfl⟩
theorem d_M_boat_13 : mD m_M_boat 13 (.invokestatic 88) 3 16 := ⟨by decide +kernel, rfl⟩
theorem d_M_boat_16 : mJ m_M_boat 16 (.ifCond .eq 10) (10) 19 26 := ⟨by decide +kernel, rfl, rfl⟩
theorem d_M_boat_19 : mD m_M_boat 19 (.iload_n 2) 1 20 := ⟨by decide +kernel, rfl⟩
theorem d_M_boat_20 : mD m_M_boat 20 (.invokestatic 151) 3 23 := ⟨by decide +kernel, rfl⟩
theorem d_M_boat_23 : mJ m_M_boat 23 (.ifCond .ne 6) (6) 26 29 := ⟨by decide +kernel, rfl, rfl⟩
theorem d_M_boat_26 : mD m_M_boat 26 (.bipush (-2)) 2 28 := ⟨by decide +kernel, rfl⟩
theorem d_M_boat_28 : mD m_M_boat 28 (.ireturn) 1 29 := ⟨by decide +kernel, rfl⟩
theorem d_M_boat_29 : mD m_M_boat 29 (.iload_n 2) 1 30 := ⟨by decide +kernel, rfl⟩
theorem d_M_boat_30 : mJ m_M_boat 30 (.ifCond .ne 11) (11) 33 41 := ⟨by decide +kernel, rfl, rfl⟩
theorem d_M_boat_33 : mD m_M_boat 33 (.aload_n 0) 1 34 := ⟨by decide +kernel, rfl⟩
theorem d_M_boat_34 : mD m_M_boat 34 (.iload_n 1) 1 35 := ⟨by decide +kernel, rfl⟩
theorem d_M_boat_35 : mD m_M_boat 35 (.invokevirtual 190) 3 38 := ⟨by decide +kernel, rfl⟩
theorem d_M_boat_38 : mJ m_M_boat 38 (.goto 8) (8) 41 46 := ⟨by decide +kernel, rfl, rfl⟩
theorem d_M_boat_41 : mD m_M_boat 41 (.aload_n 0) 1 42 := ⟨by decide +kernel, rfl⟩
theorem d_M_boat_42 : mD m_M_boat 42 (.iload_n 1) 1 43 := ⟨by decide +kernel, rfl⟩
theorem d_M_boat_43 : mD m_M_boat 43 (.invokevirtual 181) 3 46 := ⟨by decide +kernel, rfl⟩
theorem d_M_boat_46 : mD m_M_boat 46 (.ireturn) 1 47 := ⟨by decide +kernel, rfl⟩
theorem d_M_boatWith_0 : mD m_M_boatWith 0 (.aload_n 0) 1 1 := ⟨by decide +kernel, rfl⟩
theorem d_M_boatWith_1 : mD m_M_boatWith 1 (.invokevirtual 184) 3 4 := ⟨by decide +kernel, rfl⟩
theorem d_M_boatWith_4 : mD m_M_boatWith 4 (.istore_n 2) 1 5 := ⟨by decide +kernel, rfl⟩
theorem d_M_boatWith_5 : mD m_M_boatWith 5 (.aload_n 0) 1 6 := ⟨by decide +kernel, rfl⟩
theorem d_M_boatWith_6 : mD m_M_boatWith 6 (.getfield 65) 3 9 := ⟨by decide +kernel, rfl⟩
theorem d_M_boatWith_9 : mD m_M_boatWith 9 (.iload_n 2) 1 10 := ⟨by decide +kernel, rfl⟩
theorem d_M_boatWith_10 : mD m_M_boatWith 10 (.iaload) 1 11 := ⟨by decide +kernel, rfl⟩
theorem d_M_boatWith_11 : mJ m_M_boatWith 11 (.ifCond .ge 5) (5) 14 16 := ⟨by decide +kernel, rfl, rfl⟩
theorem d_M_boatWith_14 : mD m_M_boatWith 14 (.iconst 0) 1 15 := ⟨by decide +kernel, rfl⟩
theorem d_M_boatWith_15 : mD m_M_boatWith 15 (.ireturn) 1 16 := ⟨by decide +kernel, rfl⟩
theorem d_M_boatWith_16 : mD m_M_boatWith 16 (.aload_n 0) 1 17 := ⟨by decide +kernel, rfl⟩
theorem d_M_boatWith_17 : mD m_M_boatWith 17 (.getfield 62) 3 20 := ⟨by decide +kernel, rfl⟩
theorem d_M_boatWith_20 : mD m_M_boatWith 20 (.iload_n 2) 1 21 := ⟨by decide +kernel, rfl⟩
theorem d_M_boatWith_21 : mD m_M_boatWith 21 (.iaload) 1 22 := ⟨by decide +kernel, rfl⟩
theorem d_M_boatWith_22 : mD m_M_boatWith 22 (.iload_n 1) 1 23 := ⟨by decide +kernel, rfl⟩
theorem d_M_boatWith_23 : mD m_M_boatWith 23 (.invokestatic 177) 3 26 := ⟨by decide +kernel, rfl⟩
theorem d_M_boatWith_26 : mJ m_M_boatWith 26 (.ifCond .ne 17) (17) 29 43 := ⟨by decide +kernel, rfl, rfl⟩
theorem d_M_boatWith_29 : mD m_M_boatWith 29 (.iload_n 2) 1 30 := ⟨by decide +kernel, rfl⟩
theorem d_M_boatWith_30 : mD m_M_boatWith 30 (.aload_n 0) 1 31 := ⟨by decide +kernel, rfl⟩
theorem d_M_boatWith_31 : mD m_M_boatWith 31 (.getfield 62) 3 34 := ⟨by decide +kernel, rfl⟩
theorem d_M_boatWith_34 : mD m_M_boatWith 34 (.iload_n 2) 1 35 := ⟨by decide +kernel, rfl⟩
theorem d_M_boatWith_35 : mD m_M_boatWith 35 (.iaload) 1 36 := ⟨by decide +kernel, rfl⟩
theorem d_M_boatWith_36 : mD m_M_boatWith 36 (.iconst (-1)) 1 37 := ⟨by decide +kernel, rfl⟩
theorem d_M_boatWith_37 : mD m_M_boatWith 37 (.ixor) 1 38 := ⟨by decide +kernel, rfl⟩
theorem d_M_boatWith_38 : mD m_M_boatWith 38 (.iand) 1 39 := ⟨by decide +kernel, rfl⟩
theorem d_M_boatWith_39 : mD m_M_boatWith 39 (.istore_n 2) 1 40 := ⟨by decide +kernel, rfl⟩
theorem d_M_boatWith_40 : mJ m_M_boatWith 40 (.goto (-24)) (-24) 43 16 := ⟨by decide +kernel, rfl, rfl⟩
theorem d_M_boatWith_43 : mD m_M_boatWith 43 (.aload_n 0) 1 44 := ⟨by decide +kernel, rfl⟩
theorem d_M_boatWith_44 : mD m_M_boatWith 44 (.getfield 62) 3 47 := ⟨by decide +kernel, rfl⟩
theorem d_M_boatWith_47 : mD m_M_boatWith 47 (.iload_n 2) 1 48 := ⟨by decide +kernel, rfl⟩
theorem d_M_boatWith_48 : mD m_M_boatWith 48 (.iaload) 1 49 := ⟨by decide +kernel, rfl⟩
theorem d_M_boatWith_49 : mD m_M_boatWith 49 (.ireturn) 1 50 := ⟨by decide +kernel, rfl⟩
theorem d_M_copy_0 : mD m_M_copy 0 (.iload_n 1) 1 1 := ⟨by decide +kernel, rfl⟩
theorem d_M_copy_1 : mD m_M_copy 1 (.invokestatic 98) 3 4 := ⟨by decide +kernel, rfl⟩
theorem d_M_copy_4 : mJ m_M_copy 4 (.ifCond .eq 10) (10) 7 14 := ⟨by decide +kernel, rfl, rfl⟩
theorem d_M_copy_7 : mD m_M_copy 7 (.iload_n 3) 1 8 := ⟨by decide +kernel, rfl⟩
theorem d_M_copy_8 : mD m_M_copy 8 (.invokestatic 98) 3 11 := ⟨by decide +kernel, rfl⟩
theorem d_M_copy_11 : mJ m_M_copy 11 (.ifCond .ne 6) (6) 14 17 := ⟨by decide +kernel, rfl, rfl⟩
theorem d_M_copy_14 : mD m_M_copy 14 (.bipush (-2)) 2 16 := ⟨by decide +kernel, rfl⟩
theorem d_M_copy_16 : mD m_M_copy 16 (.ireturn) 1 17 := ⟨by decide +kernel, rfl⟩
theorem d_M_copy_17 : mD m_M_copy 17 (.aload_n 0) 1 18 := ⟨by decide +kernel, rfl⟩
theorem d_M_copy_18 : mD m_M_copy 18 (.getfield 7) 3 21 := ⟨by decide +kernel, rfl⟩
theorem d_M_copy_21 : mD m_M_copy 21 (.iload_n 1) 1 22 := ⟨by decide +kernel, rfl⟩
theorem d_M_copy_22 : mD m_M_copy 22 (.iaload) 1 23 := ⟨by decide +kernel, rfl⟩
theorem d_M_copy_23 : mJ m_M_copy 23 (.ifCond .lt 12) (12) 26 35 := ⟨by decide +kernel, rfl, rfl⟩
theorem d_M_copy_26 : mD m_M_copy 26 (.aload_n 0) 1 27 := ⟨by decide +kernel, rfl⟩
theorem d_M_copy_27 : mD m_M_copy 27 (.getfield 7) 3 30 := ⟨by decide +kernel, rfl⟩
theorem d_M_copy_30 : mD m_M_copy 30 (.iload_n 3) 1 31 := ⟨by decide +kernel, rfl⟩
theorem d_M_copy_31 : mD m_M_copy 31 (.iaload) 1 32 := ⟨by decide +kernel, rfl⟩
theorem d_M_copy_32 : mJ m_M_copy 32 (.ifCond .ge 9) (9) 35 41 := ⟨by decide +kernel, rfl, rfl⟩
theorem d_M_copy_35 : mD m_M_copy 35 (.aload_n 0) 1 36 := ⟨by decide +kernel, rfl⟩
theorem d_M_copy_36 : mD m_M_copy 36 (.iconst 1) 1 37 := ⟨by decide +kernel, rfl⟩
theorem d_M_copy_37 : mD m_M_copy 37 (.invokevirtual 104) 3 40 := ⟨by decide +kernel, rfl⟩
theorem d_M_copy_40 : mD m_M_copy 40 (.ireturn) 1 41 := ⟨by decide +kernel, rfl⟩
theorem d_M_copy_41 : mD m_M_copy 41 (.aload_n 0) 1 42 := ⟨by decide +kernel, rfl⟩
theorem d_M_copy_42 : mD m_M_copy 42 (.getfield 7) 3 45 := ⟨by decide +kernel, rfl⟩
theorem d_M_copy_45 : mD m_M_copy 45 (.iload_n 1) 1 46 := ⟨by decide +kernel, rfl⟩
theorem d_M_copy_46 : mD m_M_copy 46 (.iaload) 1 47 := ⟨by decide +kernel, rfl⟩
theorem d_M_copy_47 : mD m_M_copy 47 (.aload_n 0) 1 48 := ⟨by decide +kernel, rfl⟩
theorem d_M_copy_48 : mD m_M_copy 48 (.getfield 7) 3 51 := ⟨by decide +kernel, rfl⟩
theorem d_M_copy_51 : mD m_M_copy 51 (.iload_n 3) 1 52 := ⟨by decide +kernel, rfl⟩
theorem d_M_copy_52 : mD m_M_copy 52 (.iaload) 1 53 := ⟨by decide +kernel, rfl⟩
theorem d_M_copy_53 : mJ m_M_copy 53 (.if_icmp .eq 9) (9) 56 62 := ⟨by decide +kernel, rfl, rfl⟩
theorem d_M_copy_56 : mD m_M_copy 56 (.aload_n 0) 1 57 := ⟨by decide +kernel, rfl⟩
theorem d_M_copy_57 : mD m_M_copy 57 (.iconst 4) 1 58 := ⟨by decide +kernel, rfl⟩
theorem d_M_copy_58 : mD m_M_copy 58 (.invokevirtual 104) 3 61 := ⟨by decide +kernel, rfl⟩
theorem d_M_copy_61 : mD m_M_copy 61 (.ireturn) 1 62 := ⟨by decide +kernel, rfl⟩
theorem d_M_copy_62 : mD m_M_copy 62 (.iload_n 2) 1 63 := ⟨by decide +kernel, rfl⟩
theorem d_M_copy_63 : mJ m_M_copy 63 (.ifCond .lt 48) (48) 66 111 := ⟨by decide +kernel, rfl, rfl⟩
theorem d_M_copy_66 : mD m_M_copy 66 (.iload 4) 2 68 := ⟨by decide +kernel, rfl⟩
theorem d_M_copy_68 : mJ m_M_copy 68 (.ifCond .lt 43) (43) 71 111 := ⟨by decide +kernel, rfl, rfl⟩
theorem d_M_copy_71 : mD m_M_copy 71 (.iload 5) 2 73 := ⟨by decide +kernel, rfl⟩
theorem d_M_copy_73 : mJ m_M_copy 73 (.ifCond .lt 38) (38) 76 111 := ⟨by decide +kernel, rfl, rfl⟩
theorem d_M_copy_76 : mD m_M_copy 76 (.iload_n 2) 1 77 := ⟨by decide +kernel, rfl⟩
theorem d_M_copy_77 : mD m_M_copy 77 (.i2l) 1 78 := ⟨by decide +kernel, rfl⟩
theorem d_M_copy_78 : mD m_M_copy 78 (.iload 5) 2 80 := ⟨by decide +kernel, rfl⟩
theorem d_M_copy_80 : mD m_M_copy 80 (.i2l) 1 81 := ⟨by decide +kernel, rfl⟩
theorem d_M_copy_81 : mD m_M_copy 81 (.ladd) 1 82 := ⟨by decide +kernel, rfl⟩
theorem d_M_copy_82 : mD m_M_copy 82 (.aload_n 0) 1 83 := ⟨by decide +kernel, rfl⟩
theorem d_M_copy_83 : mD m_M_copy 83 (.getfield 13) 3 86 := ⟨by decide +kernel, rfl⟩
theorem d_M_copy_86 : mD m_M_copy 86 (.iload_n 1) 1 87 := ⟨by decide +kernel, rfl⟩
theorem d_M_copy_87 : mD m_M_copy 87 (.iaload) 1 88 := ⟨by decide +kernel, rfl⟩
theorem d_M_copy_88 : mD m_M_copy 88 (.i2l) 1 89 := ⟨by decide +kernel, rfl⟩
theorem d_M_copy_89 : mD m_M_copy 89 (.lcmp) 1 90 := ⟨by decide +kernel, rfl⟩
theorem d_M_copy_90 : mJ m_M_copy 90 (.ifCond .gt 21) (21) 93 111 := ⟨by decide +kernel, rfl, rfl⟩
theorem d_M_copy_93 : mD m_M_copy 93 (.iload 4) 2 95 := ⟨by decide +kernel, rfl⟩
theorem d_M_copy_95 : mD m_M_copy 95 (.i2l) 1 96 := ⟨by decide +kernel, rfl⟩
theorem d_M_copy_96 : mD m_M_copy 96 (.iload 5) 2 98 := ⟨by decide +kernel, rfl⟩
theorem d_M_copy_98 : mD m_M_copy 98 (.i2l) 1 99 := ⟨by decide +kernel, rfl⟩
theorem d_M_copy_99 : mD m_M_copy 99 (.ladd) 1 100 := ⟨by decide +kernel, rfl⟩
theorem d_M_copy_100 : mD m_M_copy 100 (.aload_n 0) 1 101 := ⟨by decide +kernel, rfl⟩
theorem d_M_copy_101 : mD m_M_copy 101 (.getfield 13) 3 104 := ⟨by decide +kernel, rfl⟩
theorem d_M_copy_104 : mD m_M_copy 104 (.iload_n 3) 1 105 := ⟨by decide +kernel, rfl⟩
theorem d_M_copy_105 : mD m_M_copy 105 (.iaload) 1 106 := ⟨by decide +kernel, rfl⟩
theorem d_M_copy_106 : mD m_M_copy 106 (.i2l) 1 107 := ⟨by decide +kernel, rfl⟩
theorem d_M_copy_107 : mD m_M_copy 107 (.lcmp) 1 108 := ⟨by decide +kernel, rfl⟩
theorem d_M_copy_108 : mJ m_M_copy 108 (.ifCond .le 9) (9) 111 117 := ⟨by decide +kernel, rfl, rfl⟩
theorem d_M_copy_111 : mD m_M_copy 111 (.aload_n 0) 1 112 := ⟨by decide +kernel, rfl⟩
theorem d_M_copy_112 : mD m_M_copy 112 (.iconst 2) 1 113 := ⟨by decide +kernel, rfl⟩
theorem d_M_copy_113 : mD m_M_copy 113 (.invokevirtual 104) 3 116 := ⟨by decide +kernel, rfl⟩
theorem d_M_copy_116 : mD m_M_copy 116 (.ireturn) 1 117 := ⟨by decide +kernel, rfl⟩
theorem d_M_copy_117 : mD m_M_copy 117 (.iconst 0) 1 118 := ⟨by decide +kernel, rfl⟩
theorem d_M_copy_118 : mD m_M_copy 118 (.istore 6) 2 120 := ⟨by decide +kernel, rfl⟩
theorem d_M_copy_120 : mD m_M_copy 120 (.iload 6) 2 122 := ⟨by decide +kernel, rfl⟩
theorem d_M_copy_122 : mD m_M_copy 122 (.iload 5) 2 124 := ⟨by decide +kernel, rfl⟩
theorem d_M_copy_124 : mJ m_M_copy 124 (.if_icmp .ge 30) (30) 127 154 := ⟨by decide +kernel, rfl, rfl⟩
theorem d_M_copy_127 : mD m_M_copy 127 (.aload_n 0) 1 128 := ⟨by decide +kernel, rfl⟩
theorem d_M_copy_128 : mD m_M_copy 128 (.getfield 19) 3 131 := ⟨by decide +kernel, rfl⟩
theorem d_M_copy_131 : mD m_M_copy 131 (.iload 6) 2 133 := ⟨by decide +kernel, rfl⟩
theorem d_M_copy_133 : mD m_M_copy 133 (.aload_n 0) 1 134 := ⟨by decide +kernel, rfl⟩
theorem d_M_copy_134 : mD m_M_copy 134 (.getfield 16) 3 137 := ⟨by decide +kernel, rfl⟩
theorem d_M_copy_137 : mD m_M_copy 137 (.bipush 60) 2 139 := ⟨by decide +kernel, rfl⟩
theorem d_M_copy_139 : mD m_M_copy 139 (.iload_n 1) 1 140 := ⟨by decide +kernel, rfl⟩
theorem d_M_copy_140 : mD m_M_copy 140 (.imul) 1 141 := ⟨by decide +kernel, rfl⟩
theorem d_M_copy_141 : mD m_M_copy 141 (.iload_n 2) 1 142 := ⟨by decide +kernel, rfl⟩
theorem d_M_copy_142 : mD m_M_copy 142 (.iadd) 1 143 := ⟨by decide +kernel, rfl⟩
theorem d_M_copy_143 : mD m_M_copy 143 (.iload 6) 2 145 := ⟨by decide +kernel, rfl⟩
theorem d_M_copy_145 : mD m_M_copy 145 (.iadd) 1 146 := ⟨by decide +kernel, rfl⟩
theorem d_M_copy_146 : mD m_M_copy 146 (.iaload) 1 147 := ⟨by decide +kernel, rfl⟩
theorem d_M_copy_147 : mD m_M_copy 147 (.iastore) 1 148 := ⟨by decide +kernel, rfl⟩
theorem d_M_copy_148 : mD m_M_copy 148 (.iinc 6 1) 3 151 := ⟨by decide +kernel, rfl⟩
theorem d_M_copy_151 : mJ m_M_copy 151 (.goto (-31)) (-31) 154 120 := ⟨by decide +kernel, rfl, rfl⟩
theorem d_M_copy_154 : mD m_M_copy 154 (.iconst 0) 1 155 := ⟨by decide +kernel, rfl⟩
theorem d_M_copy_155 : mD m_M_copy 155 (.istore 6) 2 157 := ⟨by decide +kernel, rfl⟩
theorem d_M_copy_157 : mD m_M_copy 157 (.iload 6) 2 159 := ⟨by decide +kernel, rfl⟩
theorem d_M_copy_159 : mD m_M_copy 159 (.iload 5) 2 161 := ⟨by decide +kernel, rfl⟩
theorem d_M_copy_161 : mJ m_M_copy 161 (.if_icmp .ge 31) (31) 164 192 := ⟨by decide +kernel, rfl, rfl⟩
theorem d_M_copy_164 : mD m_M_copy 164 (.aload_n 0) 1 165 := ⟨by decide +kernel, rfl⟩
theorem d_M_copy_165 : mD m_M_copy 165 (.getfield 16) 3 168 := ⟨by decide +kernel, rfl⟩
theorem d_M_copy_168 : mD m_M_copy 168 (.bipush 60) 2 170 := ⟨by decide +kernel, rfl⟩
theorem d_M_copy_170 : mD m_M_copy 170 (.iload_n 3) 1 171 := ⟨by decide +kernel, rfl⟩
theorem d_M_copy_171 : mD m_M_copy 171 (.imul) 1 172 := ⟨by decide +kernel, rfl⟩
theorem d_M_copy_172 : mD m_M_copy 172 (.iload 4) 2 174 := ⟨by decide +kernel, rfl⟩
theorem d_M_copy_174 : mD m_M_copy 174 (.iadd) 1 175 := ⟨by decide +kernel, rfl⟩
theorem d_M_copy_175 : mD m_M_copy 175 (.iload 6) 2 177 := ⟨by decide +kernel, rfl⟩
theorem d_M_copy_177 : mD m_M_copy 177 (.iadd) 1 178 := ⟨by decide +kernel, rfl⟩
theorem d_M_copy_178 : mD m_M_copy 178 (.aload_n 0) 1 179 := ⟨by decide +kernel, rfl⟩
theorem d_M_copy_179 : mD m_M_copy 179 (.getfield 19) 3 182 := ⟨by decide +kernel, rfl⟩
theorem d_M_copy_182 : mD m_M_copy 182 (.iload 6) 2 184 := ⟨by decide +kernel, rfl⟩
theorem d_M_copy_184 : mD m_M_copy 184 (.iaload) 1 185 := ⟨by decide +kernel, rfl⟩
theorem d_M_copy_185 : mD m_M_copy 185 (.iastore) 1 186 := ⟨by decide +kernel, rfl⟩
theorem d_M_copy_186 : mD m_M_copy 186 (.iinc 6 1) 3 189 := ⟨by decide +kernel, rfl⟩
theorem d_M_copy_189 : mJ m_M_copy 189 (.goto (-32)) (-32) 192 157 := ⟨by decide +kernel, rfl, rfl⟩
theorem d_M_copy_192 : mD m_M_copy 192 (.iconst 1) 1 193 := ⟨by decide +kernel, rfl⟩
theorem d_M_copy_193 : mD m_M_copy 193 (.ireturn) 1 194 := ⟨by decide +kernel, rfl⟩
theorem d_M_costOf_0 : mD m_M_costOf 0 (.iconst 0) 1 1 := ⟨by decide +kernel, rfl⟩
theorem d_M_costOf_1 : mD m_M_costOf 1 (.istore_n 2) 1 2 := ⟨by decide +kernel, rfl⟩
theorem d_M_costOf_2 : mD m_M_costOf 2 (.iconst 0) 1 3 := ⟨by decide +kernel, rfl⟩
theorem d_M_costOf_3 : mD m_M_costOf 3 (.istore_n 3) 1 4 := ⟨by decide +kernel, rfl⟩
theorem d_M_costOf_4 : mD m_M_costOf 4 (.iconst 0) 1 5 := ⟨by decide +kernel, rfl⟩
theorem d_M_costOf_5 : mD m_M_costOf 5 (.istore 4) 2 7 := ⟨by decide +kernel, rfl⟩
theorem d_M_costOf_7 : mD m_M_costOf 7 (.iload 4) 2 9 := ⟨by decide +kernel, rfl⟩
theorem d_M_costOf_9 : mD m_M_costOf 9 (.aload_n 0) 1 10 := ⟨by decide +kernel, rfl⟩
theorem d_M_costOf_10 : mD m_M_costOf 10 (.getfield 125) 3 13 := ⟨by decide +kernel, rfl⟩
theorem d_M_costOf_13 : mJ m_M_costOf 13 (.if_icmp .ge 51) (51) 16 64 := ⟨by decide +kernel, rfl, rfl⟩
theorem d_M_costOf_16 : mD m_M_costOf 16 (.iload_n 1) 1 17 := ⟨by decide +kernel, rfl⟩
theorem d_M_costOf_17 : mD m_M_costOf 17 (.iload 4) 2 19 := ⟨by decide +kernel, rfl⟩
theorem d_M_costOf_19 : mD m_M_costOf 19 (.invokestatic 177) 3 22 := ⟨by decide +kernel, rfl⟩
theorem d_M_costOf_22 : mJ m_M_costOf 22 (.ifCond .eq 36) (36) 25 58 := ⟨by decide +kernel, rfl, rfl⟩
theorem d_M_costOf_25 : mD m_M_costOf 25 (.aload_n 0) 1 26 := ⟨by decide +kernel, rfl⟩
theorem d_M_costOf_26 : mD m_M_costOf 26 (.getfield 31) 3 29 := ⟨by decide +kernel, rfl⟩
theorem d_M_costOf_29 : mD m_M_costOf 29 (.iload 4) 2 31 := ⟨by decide +kernel, rfl⟩
theorem d_M_costOf_31 : mD m_M_costOf 31 (.iaload) 1 32 := ⟨by decide +kernel, rfl⟩
theorem d_M_costOf_32 : mD m_M_costOf 32 (.iload_n 2) 1 33 := ⟨by decide +kernel, rfl⟩
theorem d_M_costOf_33 : mJ m_M_costOf 33 (.if_icmp .le 13) (13) 36 46 := ⟨by decide +kernel, rfl, rfl⟩
theorem d_M_costOf_36 : mD m_M_costOf 36 (.aload_n 0) 1 37 := ⟨by decide +kernel, rfl⟩
theorem d_M_costOf_37 : mD m_M_costOf 37 (.getfield 31) 3 40 := ⟨by decide +kernel, rfl⟩
theorem d_M_costOf_40 : mD m_M_costOf 40 (.iload 4) 2 42 := ⟨by decide +kernel, rfl⟩
theorem d_M_costOf_42 : mD m_M_costOf 42 (.iaload) 1 43 := ⟨by decide +kernel, rfl⟩
theorem d_M_costOf_43 : mJ m_M_costOf 43 (.goto 4) (4) 46 47 := ⟨by decide +kernel, rfl, rfl⟩
theorem d_M_costOf_46 : mD m_M_costOf 46 (.iload_n 2) 1 47 := ⟨by decide +kernel, rfl⟩
theorem d_M_costOf_47 : mD m_M_costOf 47 (.istore_n 2) 1 48 := ⟨by decide +kernel, rfl⟩
theorem d_M_costOf_48 : mD m_M_costOf 48 (.iload_n 3) 1 49 := ⟨by decide +kernel, rfl⟩
theorem d_M_costOf_49 : mD m_M_costOf 49 (.aload_n 0) 1 50 := ⟨by decide +kernel, rfl⟩
theorem d_M_costOf_50 : mD m_M_costOf 50 (.getfield 31) 3 53 := ⟨by decide +kernel, rfl⟩
theorem d_M_costOf_53 : mD m_M_costOf 53 (.iload 4) 2 55 := ⟨by decide +kernel, rfl⟩
theorem d_M_costOf_55 : mD m_M_costOf 55 (.iaload) 1 56 := ⟨by decide +kernel, rfl⟩
theorem d_M_costOf_56 : mD m_M_costOf 56 (.iadd) 1 57 := ⟨by decide +kernel, rfl⟩
theorem d_M_costOf_57 : mD m_M_costOf 57 (.istore_n 3) 1 58 := ⟨by decide +kernel, rfl⟩
theorem d_M_costOf_58 : mD m_M_costOf 58 (.iinc 4 1) 3 61 := ⟨by decide +kernel, rfl⟩
theorem d_M_costOf_61 : mJ m_M_costOf 61 (.goto (-54)) (-54) 64 7 := ⟨by decide +kernel, rfl, rfl⟩
theorem d_M_costOf_64 : mD m_M_costOf 64 (.aload_n 0) 1 65 := ⟨by decide +kernel, rfl⟩
theorem d_M_costOf_65 : mD m_M_costOf 65 (.iload_n 1) 1 66 := ⟨by decide +kernel, rfl⟩
theorem d_M_costOf_66 : mD m_M_costOf 66 (.invokevirtual 181) 3 69 := ⟨by decide +kernel, rfl⟩
theorem d_M_costOf_69 : mD m_M_costOf 69 (.aload_n 0) 1 70 := ⟨by decide +kernel, rfl⟩
theorem d_M_costOf_70 : mD m_M_costOf 70 (.getfield 37) 3 73 := ⟨by decide +kernel, rfl⟩
theorem d_M_costOf_73 : mD m_M_costOf 73 (.iconst 3) 1 74 := ⟨by decide +kernel, rfl⟩
theorem d_M_costOf_74 : mD m_M_costOf 74 (.iaload) 1 75 := ⟨by decide +kernel, rfl⟩
theorem d_M_costOf_75 : mD m_M_costOf 75 (.iload_n 1) 1 76 := ⟨by decide +kernel, rfl⟩
theorem d_M_costOf_76 : mD m_M_costOf 76 (.invokestatic 173) 3 79 := ⟨by decide +kernel, rfl⟩
theorem d_M_costOf_79 : mD m_M_costOf 79 (.iload_n 2) 1 80 := ⟨by decide +kernel, rfl⟩
theorem d_M_costOf_80 : mD m_M_costOf 80 (.imul) 1 81 := ⟨by decide +kernel, rfl⟩
theorem d_M_costOf_81 : mD m_M_costOf 81 (.iload_n 3) 1 82 := ⟨by decide +kernel, rfl⟩
theorem d_M_costOf_82 : mD m_M_costOf 82 (.isub) 1 83 := ⟨by decide +kernel, rfl⟩
theorem d_M_costOf_83 : mD m_M_costOf 83 (.imul) 1 84 := ⟨by decide +kernel, rfl⟩
theorem d_M_costOf_84 : mD m_M_costOf 84 (.iadd) 1 85 := ⟨by decide +kernel, rfl⟩
theorem d_M_costOf_85 : mD m_M_costOf 85 (.ireturn) 1 86 := ⟨by decide +kernel, rfl⟩
theorem d_M_costs_0 : mD m_M_costs 0 (.aload_n 0) 1 1 := ⟨by decide +kernel, rfl⟩
theorem d_M_costs_1 : mD m_M_costs 1 (.iload_n 1) 1 2 := ⟨by decide +kernel, rfl⟩
theorem d_M_costs_2 : mD m_M_costs 2 (.invokevirtual 219) 3 5 := ⟨by decide +kernel, rfl⟩
theorem d_M_costs_5 : mD m_M_costs 5 (.istore_n 2) 1 6 := ⟨by decide +kernel, rfl⟩
theorem d_M_costs_6 : mD m_M_costs 6 (.iload_n 2) 1 7 := ⟨by decide +kernel, rfl⟩
theorem d_M_costs_7 : mJ m_M_costs 7 (.ifCond .eq 5) (5) 10 12 := ⟨by decide +kernel, rfl, rfl⟩
theorem d_M_costs_10 : mD m_M_costs 10 (.iload_n 2) 1 11 := ⟨by decide +kernel, rfl⟩
theorem d_M_costs_11 : mD m_M_costs 11 (.ireturn) 1 12 := ⟨by decide +kernel, rfl⟩
theorem d_M_costs_12 : mD m_M_costs 12 (.aload_n 0) 1 13 := ⟨by decide +kernel, rfl⟩
theorem d_M_costs_13 : mD m_M_costs 13 (.iload_n 1) 1 14 := ⟨by decide +kernel, rfl⟩
theorem d_M_costs_14 : mD m_M_costs 14 (.invokevirtual 222) 3 17 := ⟨by decide +kernel, rfl⟩
theorem d_M_costs_17 : mD m_M_costs 17 (.iconst (-1)) 1 18 := ⟨by decide +kernel, rfl⟩
theorem d_M_costs_18 : mJ m_M_costs 18 (.if_icmp .eq 6) (6) 21 24 := ⟨by decide +kernel, rfl, rfl⟩
theorem d_M_costs_21 : mD m_M_costs 21 (.bipush (-3)) 2 23 := ⟨by decide +kernel, rfl⟩
theorem d_M_costs_23 : mD m_M_costs 23 (.ireturn) 1 24 := ⟨by decide +kernel, rfl⟩
theorem d_M_costs_24 : mD m_M_costs 24 (.iconst 0) 1 25 := ⟨by decide +kernel, rfl⟩
theorem d_M_costs_25 : mD m_M_costs 25 (.istore_n 3) 1 26 := ⟨by decide +kernel, rfl⟩
theorem d_M_costs_26 : mD m_M_costs 26 (.iconst 0) 1 27 := ⟨by decide +kernel, rfl⟩
theorem d_M_costs_27 : mD m_M_costs 27 (.istore 4) 2 29 := ⟨by decide +kernel, rfl⟩
theorem d_M_costs_29 : mD m_M_costs 29 (.iload 4) 2 31 := ⟨by decide +kernel, rfl⟩
theorem d_M_costs_31 : mD m_M_costs 31 (.bipush 10) 2 33 := ⟨by decide +kernel, rfl⟩
theorem d_M_costs_33 : mJ m_M_costs 33 (.if_icmp .ge 37) (37) 36 70 := ⟨by decide +kernel, rfl, rfl⟩
theorem d_M_costs_36 : mD m_M_costs 36 (.aload_n 0) 1 37 := ⟨by decide +kernel, rfl⟩
theorem d_M_costs_37 : mD m_M_costs 37 (.iload_n 1) 1 38 := ⟨by decide +kernel, rfl⟩
theorem d_M_costs_38 : mD m_M_costs 38 (.iload 4) 2 40 := ⟨by decide +kernel, rfl⟩
theorem d_M_costs_40 : mD m_M_costs 40 (.invokevirtual 216) 3 43 := ⟨by decide +kernel, rfl⟩
theorem d_M_costs_43 : mD m_M_costs 43 (.istore 5) 2 45 := ⟨by decide +kernel, rfl⟩
theorem d_M_costs_45 : mD m_M_costs 45 (.iload_n 3) 1 46 := ⟨by decide +kernel, rfl⟩
theorem d_M_costs_46 : mD m_M_costs 46 (.iload 5) 2 48 := ⟨by decide +kernel, rfl⟩
theorem d_M_costs_48 : mJ m_M_costs 48 (.ifCond .ne 7) (7) 51 55 := ⟨by decide +kernel, rfl, rfl⟩
theorem d_M_costs_51 : mD m_M_costs 51 (.iconst 0) 1 52 := ⟨by decide +kernel, rfl⟩
theorem d_M_costs_52 : mJ m_M_costs 52 (.goto 10) (10) 55 62 := ⟨by decide +kernel, rfl, rfl⟩
theorem d_M_costs_55 : mD m_M_costs 55 (.aload_n 0) 1 56 := ⟨by decide +kernel, rfl⟩
theorem d_M_costs_56 : mD m_M_costs 56 (.getfield 46) 3 59 := ⟨by decide +kernel, rfl⟩
theorem d_M_costs_59 : mD m_M_costs 59 (.iload 5) 2 61 := ⟨by decide +kernel, rfl⟩
theorem d_M_costs_61 : mD m_M_costs 61 (.iaload) 1 62 := ⟨by decide +kernel, rfl⟩
theorem d_M_costs_62 : mD m_M_costs 62 (.iadd) 1 63 := ⟨by decide +kernel, rfl⟩
theorem d_M_costs_63 : mD m_M_costs 63 (.istore_n 3) 1 64 := ⟨by decide +kernel, rfl⟩
theorem d_M_costs_64 : mD m_M_costs 64 (.iinc 4 1) 3 67 := ⟨by decide +kernel, rfl⟩
theorem d_M_costs_67 : mJ m_M_costs 67 (.goto (-38)) (-38) 70 29 := ⟨by decide +kernel, rfl, rfl⟩
theorem d_M_costs_70 : mD m_M_costs 70 (.iload_n 3) 1 71 := ⟨by decide +kernel, rfl⟩
theorem d_M_costs_71 : mD m_M_costs 71 (.ireturn) 1 72 := ⟨by decide +kernel, rfl⟩
theorem d_M_count_0 : mD m_M_count 0 (.iconst 0) 1 1 := ⟨by decide +kernel, rfl⟩
theorem d_M_count_1 : mD m_M_count 1 (.istore_n 2) 1 2 := ⟨by decide +kernel, rfl⟩
theorem d_M_count_2 : mD m_M_count 2 (.aload_n 0) 1 3 := ⟨by decide +kernel, rfl⟩
theorem d_M_count_3 : mD m_M_count 3 (.invokevirtual 143) 3 6 := ⟨by decide +kernel, rfl⟩
theorem d_M_count_6 : mD m_M_count 6 (.pop) 1 7 := ⟨by decide +kernel, rfl⟩
theorem d_M_count_7 : mD m_M_count 7 (.iload_n 1) 1 8 := ⟨by decide +kernel, rfl⟩
theorem d_M_count_8 : mD m_M_count 8 (.tableswitch 157 0 8 #[52, 57, 62, 89, 124, 132, 140, 145, 152]) 52 60 := ⟨by decide +kernel, rfl⟩
theorem d_M_count_60 : mD m_M_count 60 (.aload_n 0) 1 61 := ⟨by decide +kernel, rfl⟩
theorem d_M_count_61 : mD m_M_count 61 (.getfield 125) 3 64 := ⟨by decide +kernel, rfl⟩
theorem d_M_count_64 : mD m_M_count 64 (.ireturn) 1 65 := ⟨by decide +kernel, rfl⟩
theorem d_M_count_65 : mD m_M_count 65 (.aload_n 0) 1 66 := ⟨by decide +kernel, rfl⟩
theorem d_M_count_66 : mD m_M_count 66 (.getfield 119) 3 69 := ⟨by decide +kernel, rfl⟩
theorem d_M_count_69 : mD m_M_count 69 (.ireturn) 1 70 := ⟨by decide +kernel, rfl⟩
theorem d_M_count_70 : mD m_M_count 70 (.iconst 0) 1 71 := ⟨by decide +kernel, rfl⟩
theorem d_M_count_71 : mD m_M_count 71 (.istore_n 3) 1 72 := ⟨by decide +kernel, rfl⟩
theorem d_M_count_72 : mD m_M_count 72 (.iload_n 3) 1 73 := ⟨by decide +kernel, rfl⟩
theorem d_M_count_73 : mD m_M_count 73 (.aload_n 0) 1 74 := ⟨by decide +kernel, rfl⟩
theorem d_M_count_74 : mD m_M_count 74 (.getfield 125) 3 77 := ⟨by decide +kernel, rfl⟩
theorem d_M_count_77 : mJ m_M_count 77 (.if_icmp .ge 18) (18) 80 95 := ⟨by decide +kernel, rfl, rfl⟩
theorem d_M_count_80 : mD m_M_count 80 (.iload_n 2) 1 81 := ⟨by decide +kernel, rfl⟩
theorem d_M_count_81 : mD m_M_count 81 (.aload_n 0) 1 82 := ⟨by decide +kernel, rfl⟩
theorem d_M_count_82 : mD m_M_count 82 (.getfield 25) 3 85 := ⟨by decide +kernel, rfl⟩
theorem d_M_count_85 : mD m_M_count 85 (.iload_n 3) 1 86 := ⟨by decide +kernel, rfl⟩
theorem d_M_count_86 : mD m_M_count 86 (.iaload) 1 87 := ⟨by decide +kernel, rfl⟩
theorem d_M_count_87 : mD m_M_count 87 (.iadd) 1 88 := ⟨by decide +kernel, rfl⟩
theorem d_M_count_88 : mD m_M_count 88 (.istore_n 2) 1 89 := ⟨by decide +kernel, rfl⟩
theorem d_M_count_89 : mD m_M_count 89 (.iinc 3 1) 3 92 := ⟨by decide +kernel, rfl⟩
theorem d_M_count_92 : mJ m_M_count 92 (.goto (-20)) (-20) 95 72 := ⟨by decide +kernel, rfl, rfl⟩
theorem d_M_count_95 : mD m_M_count 95 (.iload_n 2) 1 96 := ⟨by decide +kernel, rfl⟩
theorem d_M_count_96 : mD m_M_count 96 (.ireturn) 1 97 := ⟨by decide +kernel, rfl⟩
theorem d_M_count_97 : mD m_M_count 97 (.iconst 0) 1 98 := ⟨by decide +kernel, rfl⟩
theorem d_M_count_98 : mD m_M_count 98 (.istore_n 3) 1 99 := ⟨by decide +kernel, rfl⟩
theorem d_M_count_99 : mD m_M_count 99 (.iload_n 3) 1 100 := ⟨by decide +kernel, rfl⟩
theorem d_M_count_100 : mD m_M_count 100 (.aload_n 0) 1 101 := ⟨by decide +kernel, rfl⟩
theorem d_M_count_101 : mD m_M_count 101 (.getfield 125) 3 104 := ⟨by decide +kernel, rfl⟩
theorem d_M_count_104 : mJ m_M_count 104 (.if_icmp .ge 26) (26) 107 130 := ⟨by decide +kernel, rfl, rfl⟩
theorem d_M_count_107 : mD m_M_count 107 (.iload_n 2) 1 108 := ⟨by decide +kernel, rfl⟩
theorem d_M_count_108 : mD m_M_count 108 (.aload_n 0) 1 109 := ⟨by decide +kernel, rfl⟩
theorem d_M_count_109 : mD m_M_count 109 (.getfield 34) 3 112 := ⟨by decide +kernel, rfl⟩
theorem d_M_count_112 : mD m_M_count 112 (.iload_n 3) 1 113 := ⟨by decide +kernel, rfl⟩
theorem d_M_count_113 : mD m_M_count 113 (.iaload) 1 114 := ⟨by decide +kernel, rfl⟩
theorem d_M_count_114 : mJ m_M_count 114 (.ifCond .ne 7) (7) 117 121 := ⟨by decide +kernel, rfl, rfl⟩
theorem d_M_count_117 : mD m_M_count 117 (.iconst 0) 1 118 := ⟨by decide +kernel, rfl⟩
theorem d_M_count_118 : mJ m_M_count 118 (.goto 4) (4) 121 122 := ⟨by decide +kernel, rfl, rfl⟩
theorem d_M_count_121 : mD m_M_count 121 (.iconst 1) 1 122 := ⟨by decide +kernel, rfl⟩
theorem d_M_count_122 : mD m_M_count 122 (.iadd) 1 123 := ⟨by decide +kernel, rfl⟩
theorem d_M_count_123 : mD m_M_count 123 (.istore_n 2) 1 124 := ⟨by decide +kernel, rfl⟩
theorem d_M_count_124 : mD m_M_count 124 (.iinc 3 1) 3 127 := ⟨by decide +kernel, rfl⟩
theorem d_M_count_127 : mJ m_M_count 127 (.goto (-28)) (-28) 130 99 := ⟨by decide +kernel, rfl, rfl⟩
theorem d_M_count_130 : mD m_M_count 130 (.iload_n 2) 1 131 := ⟨by decide +kernel, rfl⟩
theorem d_M_count_131 : mD m_M_count 131 (.ireturn) 1 132 := ⟨by decide +kernel, rfl⟩
theorem d_M_count_132 : mD m_M_count 132 (.aload_n 0) 1 133 := ⟨by decide +kernel, rfl⟩
theorem d_M_count_133 : mD m_M_count 133 (.getfield 40) 3 136 := ⟨by decide +kernel, rfl⟩
theorem d_M_count_136 : mD m_M_count 136 (.invokestatic 276) 3 139 := ⟨by decide +kernel, rfl⟩
theorem d_M_count_139 : mD m_M_count 139 (.ireturn) 1 140 := ⟨by decide +kernel, rfl⟩
theorem d_M_count_140 : mD m_M_count 140 (.aload_n 0) 1 141 := ⟨by decide +kernel, rfl⟩
theorem d_M_count_141 : mD m_M_count 141 (.getfield 43) 3 144 := ⟨by decide +kernel, rfl⟩
theorem d_M_count_144 : mD m_M_count 144 (.invokestatic 276) 3 147 := ⟨by decide +kernel, rfl⟩
theorem d_M_count_147 : mD m_M_count 147 (.ireturn) 1 148 := ⟨by decide +kernel, rfl⟩
theorem d_M_count_148 : mD m_M_count 148 (.aload_n 0) 1 149 := ⟨by decide +kernel, rfl⟩
theorem d_M_count_149 : mD m_M_count 149 (.getfield 263) 3 152 := ⟨by decide +kernel, rfl⟩
theorem d_M_count_152 : mD m_M_count 152 (.ireturn) 1 153 := ⟨by decide +kernel, rfl⟩
theorem d_M_count_153 : mD m_M_count 153 (.aload_n 0) 1 154 := ⟨by decide +kernel, rfl⟩
theorem d_M_count_154 : mD m_M_count 154 (.getfield 37) 3 157 := ⟨by decide +kernel, rfl⟩
theorem d_M_count_157 : mD m_M_count 157 (.iconst 0) 1 158 := ⟨by decide +kernel, rfl⟩
theorem d_M_count_158 : mD m_M_count 158 (.iaload) 1 159 := ⟨by decide +kernel, rfl⟩
theorem d_M_count_159 : mD m_M_count 159 (.ireturn) 1 160 := ⟨by decide +kernel, rfl⟩
theorem d_M_count_160 : mD m_M_count 160 (.aload_n 0) 1 161 := ⟨by decide +kernel, rfl⟩
theorem d_M_count_161 : mD m_M_count 161 (.getfield 92) 3 164 := ⟨by decide +kernel, rfl⟩
theorem d_M_count_164 : mD m_M_count 164 (.ireturn) 1 165 := ⟨by decide +kernel, rfl⟩
theorem d_M_count_165 : mD m_M_count 165 (.bipush (-2)) 2 167 := ⟨by decide +kernel, rfl⟩
theorem d_M_count_167 : mD m_M_count 167 (.ireturn) 1 168 := ⟨by decide +kernel, rfl⟩
theorem d_M_cut_0 : mD m_M_cut 0 (.iload_n 0) 1 1 := ⟨by decide +kernel, rfl⟩
theorem d_M_cut_1 : mJ m_M_cut 1 (.ifCond .ne 8) (8) 4 9 := ⟨by decide +kernel, rfl, rfl⟩
theorem d_M_cut_4 : mD m_M_cut 4 (.iload_n 1) 1 5 := ⟨by decide +kernel, rfl⟩
theorem d_M_cut_5 : mD m_M_cut 5 (.i2b) 1 6 := ⟨by decide +kernel, rfl⟩
theorem d_M_cut_6 : mJ m_M_cut 6 (.goto 14) (14) 9 20 := ⟨by decide +kernel, rfl, rfl⟩
theorem d_M_cut_9 : mD m_M_cut 9 (.iload_n 0) 1 10 := ⟨by decide +kernel, rfl⟩
theorem d_M_cut_10 : mD m_M_cut 10 (.iconst 1) 1 11 := ⟨by decide +kernel, rfl⟩
theorem d_M_cut_11 : mJ m_M_cut 11 (.if_icmp .ne 8) (8) 14 19 := ⟨by decide +kernel, rfl, rfl⟩
theorem d_M_cut_14 : mD m_M_cut 14 (.iload_n 1) 1 15 := ⟨by decide +kernel, rfl⟩
theorem d_M_cut_15 : mD m_M_cut 15 (.i2s) 1 16 := ⟨by decide +kernel, rfl⟩
theorem d_M_cut_16 : mJ m_M_cut 16 (.goto 4) (4) 19 20 := ⟨by decide +kernel, rfl, rfl⟩
theorem d_M_cut_19 : mD m_M_cut 19 (.iload_n 1) 1 20 := ⟨by decide +kernel, rfl⟩
theorem d_M_cut_20 : mD m_M_cut 20 (.ireturn) 1 21 := ⟨by decide +kernel, rfl⟩
theorem d_M_day_0 : mD m_M_day 0 (.aload_n 0) 1 1 := ⟨by decide +kernel, rfl⟩
theorem d_M_day_1 : mD m_M_day 1 (.invokevirtual 143) 3 4 := ⟨by decide +kernel, rfl⟩
theorem d_M_day_4 : mD m_M_day 4 (.pop) 1 5 := ⟨by decide +kernel, rfl⟩
theorem d_M_day_5 : mD m_M_day 5 (.iload_n 1) 1 6 := ⟨by decide +kernel, rfl⟩
theorem d_M_day_6 : mD m_M_day 6 (.i2l) 1 7 := ⟨by decide +kernel, rfl⟩
theorem d_M_day_7 : mD m_M_day 7 (.lconst 0) 1 8 := ⟨by decide +kernel, rfl⟩
theorem d_M_day_8 : mD m_M_day 8 (.aload_n 0) 1 9 := ⟨by decide +kernel, rfl⟩
theorem d_M_day_9 : mD m_M_day 9 (.invokevirtual 184) 3 12 := ⟨by decide +kernel, rfl⟩
theorem d_M_day_12 : mD m_M_day 12 (.i2l) 1 13 := ⟨by decide +kernel, rfl⟩
theorem d_M_day_13 : mD m_M_day 13 (.invokestatic 88) 3 16 := ⟨by decide +kernel, rfl⟩
theorem d_M_day_16 : mJ m_M_day 16 (.ifCond .eq 15) (15) 19 31 := ⟨by decide +kernel, rfl, rfl⟩
theorem d_M_day_19 : mD m_M_day 19 (.iload_n 2) 1 20 := ⟨by decide +kernel, rfl⟩
theorem d_M_day_20 : mD m_M_day 20 (.i2l) 1 21 := ⟨by decide +kernel, rfl⟩
theorem d_M_day_21 : mD m_M_day 21 (.lconst 0) 1 22 := ⟨by decide +kernel, rfl⟩
theorem d_M_day_22 : mD m_M_day 22 (.ldc2_w 102) 3 25 := ⟨by decide +kernel, rfl⟩
theorem d_M_day_25 : mD m_M_day 25 (.invokestatic 88) 3 28 := ⟨by decide +kernel, rfl⟩
theorem d_M_day_28 : mJ m_M_day 28 (.ifCond .ne 6) (6) 31 34 := ⟨by decide +kernel, rfl, rfl⟩
theorem d_M_day_31 : mD m_M_day 31 (.bipush (-2)) 2 33 := ⟨by decide +kernel, rfl⟩
theorem d_M_day_33 : mD m_M_day 33 (.ireturn) 1 34 := ⟨by decide +kernel, rfl⟩
theorem d_M_day_34 : mD m_M_day 34 (.aload_n 0) 1 35 := ⟨by decide +kernel, rfl⟩
theorem d_M_day_35 : mD m_M_day 35 (.invokevirtual 201) 3 38 := ⟨by decide +kernel, rfl⟩
theorem d_M_day_38 : mD m_M_day 38 (.aload_n 0) 1 39 := ⟨by decide +kernel, rfl⟩
theorem d_M_day_39 : mD m_M_day 39 (.iload_n 1) 1 40 := ⟨by decide +kernel, rfl⟩
theorem d_M_day_40 : mD m_M_day 40 (.iload_n 2) 1 41 := ⟨by decide +kernel, rfl⟩
theorem d_M_day_41 : mD m_M_day 41 (.invokevirtual 204) 3 44 := ⟨by decide +kernel, rfl⟩
theorem d_M_day_44 : mD m_M_day 44 (.ireturn) 1 45 := ⟨by decide +kernel, rfl⟩
theorem d_M_dayOf_0 : mD m_M_dayOf 0 (.aload_n 0) 1 1 := ⟨by decide +kernel, rfl⟩
theorem d_M_dayOf_1 : mD m_M_dayOf 1 (.iload_n 1) 1 2 := ⟨by decide +kernel, rfl⟩
theorem d_M_dayOf_2 : mD m_M_dayOf 2 (.invokevirtual 197) 3 5 := ⟨by decide +kernel, rfl⟩
theorem d_M_dayOf_5 : mD m_M_dayOf 5 (.aload_n 0) 1 6 := ⟨by decide +kernel, rfl⟩
theorem d_M_dayOf_6 : mD m_M_dayOf 6 (.getfield 65) 3 9 := ⟨by decide +kernel, rfl⟩
theorem d_M_dayOf_9 : mD m_M_dayOf 9 (.iload_n 1) 1 10 := ⟨by decide +kernel, rfl⟩
theorem d_M_dayOf_10 : mD m_M_dayOf 10 (.iaload) 1 11 := ⟨by decide +kernel, rfl⟩
theorem d_M_dayOf_11 : mJ m_M_dayOf 11 (.ifCond .ge 7) (7) 14 18 := ⟨by decide +kernel, rfl, rfl⟩
theorem d_M_dayOf_14 : mD m_M_dayOf 14 (.iconst (-1)) 1 15 := ⟨by decide +kernel, rfl⟩
theorem d_M_dayOf_15 : mJ m_M_dayOf 15 (.goto 36) (36) 18 51 := ⟨by decide +kernel, rfl, rfl⟩
theorem d_M_dayOf_18 : mD m_M_dayOf 18 (.iload_n 2) 1 19 := ⟨by decide +kernel, rfl⟩
theorem d_M_dayOf_19 : mJ m_M_dayOf 19 (.ifCond .ne 12) (12) 22 31 := ⟨by decide +kernel, rfl, rfl⟩
theorem d_M_dayOf_22 : mD m_M_dayOf 22 (.aload_n 0) 1 23 := ⟨by decide +kernel, rfl⟩
theorem d_M_dayOf_23 : mD m_M_dayOf 23 (.getfield 56) 3 26 := ⟨by decide +kernel, rfl⟩
theorem d_M_dayOf_26 : mD m_M_dayOf 26 (.iload_n 1) 1 27 := ⟨by decide +kernel, rfl⟩
theorem d_M_dayOf_27 : mD m_M_dayOf 27 (.iaload) 1 28 := ⟨by decide +kernel, rfl⟩
theorem d_M_dayOf_28 : mJ m_M_dayOf 28 (.goto 23) (23) 31 51 := ⟨by decide +kernel, rfl, rfl⟩
theorem d_M_dayOf_31 : mD m_M_dayOf 31 (.iload_n 2) 1 32 := ⟨by decide +kernel, rfl⟩
theorem d_M_dayOf_32 : mD m_M_dayOf 32 (.iconst 1) 1 33 := ⟨by decide +kernel, rfl⟩
theorem d_M_dayOf_33 : mJ m_M_dayOf 33 (.if_icmp .ne 12) (12) 36 45 := ⟨by decide +kernel, rfl, rfl⟩
theorem d_M_dayOf_36 : mD m_M_dayOf 36 (.aload_n 0) 1 37 := ⟨by decide +kernel, rfl⟩
theorem d_M_dayOf_37 : mD m_M_dayOf 37 (.getfield 59) 3 40 := ⟨by decide +kernel, rfl⟩
theorem d_M_dayOf_40 : mD m_M_dayOf 40 (.iload_n 1) 1 41 := ⟨by decide +kernel, rfl⟩
theorem d_M_dayOf_41 : mD m_M_dayOf 41 (.iaload) 1 42 := ⟨by decide +kernel, rfl⟩
theorem d_M_dayOf_42 : mJ m_M_dayOf 42 (.goto 9) (9) 45 51 := ⟨by decide +kernel, rfl, rfl⟩
theorem d_M_dayOf_45 : mD m_M_dayOf 45 (.aload_n 0) 1 46 := ⟨by decide +kernel, rfl⟩
theorem d_M_dayOf_46 : mD m_M_dayOf 46 (.getfield 65) 3 49 := ⟨by decide +kernel, rfl⟩
theorem d_M_dayOf_49 : mD m_M_dayOf 49 (.iload_n 1) 1 50 := ⟨by decide +kernel, rfl⟩
theorem d_M_dayOf_50 : mD m_M_dayOf 50 (.iaload) 1 51 := ⟨by decide +kernel, rfl⟩
theorem d_M_dayOf_51 : mD m_M_dayOf 51 (.ireturn) 1 52 := ⟨by decide +kernel, rfl⟩
theorem d_M_digest_0 : mD m_M_digest 0 (.ldc2_w 280) 3 3 := ⟨by decide +kernel, rfl⟩
theorem d_M_digest_3 : mD m_M_digest 3 (.lstore_n 1) 1 4 := ⟨by decide +kernel, rfl⟩
theorem d_M_digest_4 : mD m_M_digest 4 (.iconst 0) 1 5 := ⟨by decide +kernel, rfl⟩
theorem d_M_digest_5 : mD m_M_digest 5 (.istore_n 3) 1 6 := ⟨by decide +kernel, rfl⟩
theorem d_M_digest_6 : mD m_M_digest 6 (.iload_n 3) 1 7 := ⟨by decide +kernel, rfl⟩
theorem d_M_digest_7 : mD m_M_digest 7 (.bipush 8) 2 9 := ⟨by decide +kernel, rfl⟩
theorem d_M_digest_9 : mJ m_M_digest 9 (.if_icmp .ge 22) (22) 12 31 := ⟨by decide +kernel, rfl, rfl⟩
theorem d_M_digest_12 : mD m_M_digest 12 (.ldc2_w 282) 3 15 := ⟨by decide +kernel, rfl⟩
theorem d_M_digest_15 : mD m_M_digest 15 (.lload_n 1) 1 16 := ⟨by decide +kernel, rfl⟩
theorem d_M_digest_16 : mD m_M_digest 16 (.lmul) 1 17 := ⟨by decide +kernel, rfl⟩
theorem d_M_digest_17 : mD m_M_digest 17 (.aload_n 0) 1 18 := ⟨by decide +kernel, rfl⟩
theorem d_M_digest_18 : mD m_M_digest 18 (.iload_n 3) 1 19 := ⟨by decide +kernel, rfl⟩
theorem d_M_digest_19 : mD m_M_digest 19 (.invokevirtual 284) 3 22 := ⟨by decide +kernel, rfl⟩
theorem d_M_digest_22 : mD m_M_digest 22 (.i2l) 1 23 := ⟨by decide +kernel, rfl⟩
theorem d_M_digest_23 : mD m_M_digest 23 (.ladd) 1 24 := ⟨by decide +kernel, rfl⟩
theorem d_M_digest_24 : mD m_M_digest 24 (.lstore_n 1) 1 25 := ⟨by decide +kernel, rfl⟩
theorem d_M_digest_25 : mD m_M_digest 25 (.iinc 3 1) 3 28 := ⟨by decide +kernel, rfl⟩
theorem d_M_digest_28 : mJ m_M_digest 28 (.goto (-22)) (-22) 31 6 := ⟨by decide +kernel, rfl, rfl⟩
theorem d_M_digest_31 : mD m_M_digest 31 (.ldc2_w 282) 3 34 := ⟨by decide +kernel, rfl⟩
theorem d_M_digest_34 : mD m_M_digest 34 (.lload_n 1) 1 35 := ⟨by decide +kernel, rfl⟩
theorem d_M_digest_35 : mD m_M_digest 35 (.lmul) 1 36 := ⟨by decide +kernel, rfl⟩
theorem d_M_digest_36 : mD m_M_digest 36 (.aload_n 0) 1 37 := ⟨by decide +kernel, rfl⟩
theorem d_M_digest_37 : mD m_M_digest 37 (.invokevirtual 143) 3 40 := ⟨by decide +kernel, rfl⟩
theorem d_M_digest_40 : mD m_M_digest 40 (.i2l) 1 41 := ⟨by decide +kernel, rfl⟩
theorem d_M_digest_41 : mD m_M_digest 41 (.ladd) 1 42 := ⟨by decide +kernel, rfl⟩
theorem d_M_digest_42 : mD m_M_digest 42 (.lstore_n 1) 1 43 := ⟨by decide +kernel, rfl⟩
theorem d_M_digest_43 : mD m_M_digest 43 (.iconst 0) 1 44 := ⟨by decide +kernel, rfl⟩
theorem d_M_digest_44 : mD m_M_digest 44 (.istore_n 3) 1 45 := ⟨by decide +kernel, rfl⟩
theorem d_M_digest_45 : mD m_M_digest 45 (.iload_n 3) 1 46 := ⟨by decide +kernel, rfl⟩
theorem d_M_digest_46 : mD m_M_digest 46 (.aload_n 0) 1 47 := ⟨by decide +kernel, rfl⟩
theorem d_M_digest_47 : mD m_M_digest 47 (.getfield 125) 3 50 := ⟨by decide +kernel, rfl⟩
theorem d_M_digest_50 : mJ m_M_digest 50 (.if_icmp .ge 151) (151) 53 201 := ⟨by decide +kernel, rfl, rfl⟩
theorem d_M_digest_53 : mD m_M_digest 53 (.ldc2_w 282) 3 56 := ⟨by decide +kernel, rfl⟩
theorem d_M_digest_56 : mD m_M_digest 56 (.lload_n 1) 1 57 := ⟨by decide +kernel, rfl⟩
theorem d_M_digest_57 : mD m_M_digest 57 (.lmul) 1 58 := ⟨by decide +kernel, rfl⟩
theorem d_M_digest_58 : mD m_M_digest 58 (.aload_n 0) 1 59 := ⟨by decide +kernel, rfl⟩
theorem d_M_digest_59 : mD m_M_digest 59 (.getfield 25) 3 62 := ⟨by decide +kernel, rfl⟩
theorem d_M_digest_62 : mD m_M_digest 62 (.iload_n 3) 1 63 := ⟨by decide +kernel, rfl⟩
theorem d_M_digest_63 : mD m_M_digest 63 (.iaload) 1 64 := ⟨by decide +kernel, rfl⟩
theorem d_M_digest_64 : mD m_M_digest 64 (.i2l) 1 65 := ⟨by decide +kernel, rfl⟩
theorem d_M_digest_65 : mD m_M_digest 65 (.ladd) 1 66 := ⟨by decide +kernel, rfl⟩
theorem d_M_digest_66 : mD m_M_digest 66 (.lstore_n 1) 1 67 := ⟨by decide +kernel, rfl⟩
theorem d_M_digest_67 : mD m_M_digest 67 (.ldc2_w 282) 3 70 := ⟨by decide +kernel, rfl⟩
theorem d_M_digest_70 : mD m_M_digest 70 (.lload_n 1) 1 71 := ⟨by decide +kernel, rfl⟩
theorem d_M_digest_71 : mD m_M_digest 71 (.lmul) 1 72 := ⟨by decide +kernel, rfl⟩
theorem d_M_digest_72 : mD m_M_digest 72 (.aload_n 0) 1 73 := ⟨by decide +kernel, rfl⟩
theorem d_M_digest_73 : mD m_M_digest 73 (.iload_n 3) 1 74 := ⟨by decide +kernel, rfl⟩
theorem d_M_digest_74 : mD m_M_digest 74 (.invokevirtual 154) 3 77 := ⟨by decide +kernel, rfl⟩
theorem d_M_digest_77 : mD m_M_digest 77 (.i2l) 1 78 := ⟨by decide +kernel, rfl⟩
theorem d_M_digest_78 : mD m_M_digest 78 (.ladd) 1 79 := ⟨by decide +kernel, rfl⟩
theorem d_M_digest_79 : mD m_M_digest 79 (.lstore_n 1) 1 80 := ⟨by decide +kernel, rfl⟩
theorem d_M_digest_80 : mD m_M_digest 80 (.ldc2_w 282) 3 83 := ⟨by decide +kernel, rfl⟩
theorem d_M_digest_83 : mD m_M_digest 83 (.lload_n 1) 1 84 := ⟨by decide +kernel, rfl⟩
theorem d_M_digest_84 : mD m_M_digest 84 (.lmul) 1 85 := ⟨by decide +kernel, rfl⟩
theorem d_M_digest_85 : mD m_M_digest 85 (.aload_n 0) 1 86 := ⟨by decide +kernel, rfl⟩
theorem d_M_digest_86 : mD m_M_digest 86 (.iload_n 3) 1 87 := ⟨by decide +kernel, rfl⟩
theorem d_M_digest_87 : mD m_M_digest 87 (.invokevirtual 210) 3 90 := ⟨by decide +kernel, rfl⟩
theorem d_M_digest_90 : mD m_M_digest 90 (.i2l) 1 91 := ⟨by decide +kernel, rfl⟩
theorem d_M_digest_91 : mD m_M_digest 91 (.ladd) 1 92 := ⟨by decide +kernel, rfl⟩
theorem d_M_digest_92 : mD m_M_digest 92 (.lstore_n 1) 1 93 := ⟨by decide +kernel, rfl⟩
theorem d_M_digest_93 : mD m_M_digest 93 (.iconst 0) 1 94 := ⟨by decide +kernel, rfl⟩
theorem d_M_digest_94 : mD m_M_digest 94 (.istore 4) 2 96 := ⟨by decide +kernel, rfl⟩
theorem d_M_digest_96 : mD m_M_digest 96 (.iload 4) 2 98 := ⟨by decide +kernel, rfl⟩
theorem d_M_digest_98 : mD m_M_digest 98 (.iconst 2) 1 99 := ⟨by decide +kernel, rfl⟩
theorem d_M_digest_99 : mJ m_M_digest 99 (.if_icmp .ge 23) (23) 102 122 := ⟨by decide +kernel, rfl, rfl⟩
theorem d_M_digest_102 : mD m_M_digest 102 (.ldc2_w 282) 3 105 := ⟨by decide +kernel, rfl⟩
theorem d_M_digest_105 : mD m_M_digest 105 (.lload_n 1) 1 106 := ⟨by decide +kernel, rfl⟩
theorem d_M_digest_106 : mD m_M_digest 106 (.lmul) 1 107 := ⟨by decide +kernel, rfl⟩
theorem d_M_digest_107 : mD m_M_digest 107 (.aload_n 0) 1 108 := ⟨by decide +kernel, rfl⟩
theorem d_M_digest_108 : mD m_M_digest 108 (.iload_n 3) 1 109 := ⟨by decide +kernel, rfl⟩
theorem d_M_digest_109 : mD m_M_digest 109 (.iload 4) 2 111 := ⟨by decide +kernel, rfl⟩
theorem d_M_digest_111 : mD m_M_digest 111 (.invokevirtual 233) 3 114 := ⟨by decide +kernel, rfl⟩
theorem d_M_digest_114 : mD m_M_digest 114 (.ladd) 1 115 := ⟨by decide +kernel, rfl⟩
theorem d_M_digest_115 : mD m_M_digest 115 (.lstore_n 1) 1 116 := ⟨by decide +kernel, rfl⟩
theorem d_M_digest_116 : mD m_M_digest 116 (.iinc 4 1) 3 119 := ⟨by decide +kernel, rfl⟩
theorem d_M_digest_119 : mJ m_M_digest 119 (.goto (-23)) (-23) 122 96 := ⟨by decide +kernel, rfl, rfl⟩
theorem d_M_digest_122 : mD m_M_digest 122 (.iconst 0) 1 123 := ⟨by decide +kernel, rfl⟩
theorem d_M_digest_123 : mD m_M_digest 123 (.istore 4) 2 125 := ⟨by decide +kernel, rfl⟩
theorem d_M_digest_125 : mD m_M_digest 125 (.iload 4) 2 127 := ⟨by decide +kernel, rfl⟩
theorem d_M_digest_127 : mD m_M_digest 127 (.iconst 2) 1 128 := ⟨by decide +kernel, rfl⟩
theorem d_M_digest_128 : mJ m_M_digest 128 (.if_icmp .ge 23) (23) 131 151 := ⟨by decide +kernel, rfl, rfl⟩
theorem d_M_digest_131 : mD m_M_digest 131 (.ldc2_w 282) 3 134 := ⟨by decide +kernel, rfl⟩
theorem d_M_digest_134 : mD m_M_digest 134 (.lload_n 1) 1 135 := ⟨by decide +kernel, rfl⟩
theorem d_M_digest_135 : mD m_M_digest 135 (.lmul) 1 136 := ⟨by decide +kernel, rfl⟩
theorem d_M_digest_136 : mD m_M_digest 136 (.aload_n 0) 1 137 := ⟨by decide +kernel, rfl⟩
theorem d_M_digest_137 : mD m_M_digest 137 (.iload_n 3) 1 138 := ⟨by decide +kernel, rfl⟩
theorem d_M_digest_138 : mD m_M_digest 138 (.iload 4) 2 140 := ⟨by decide +kernel, rfl⟩
theorem d_M_digest_140 : mD m_M_digest 140 (.invokevirtual 243) 3 143 := ⟨by decide +kernel, rfl⟩
theorem d_M_digest_143 : mD m_M_digest 143 (.ladd) 1 144 := ⟨by decide +kernel, rfl⟩
theorem d_M_digest_144 : mD m_M_digest 144 (.lstore_n 1) 1 145 := ⟨by decide +kernel, rfl⟩
theorem d_M_digest_145 : mD m_M_digest 145 (.iinc 4 1) 3 148 := ⟨by decide +kernel, rfl⟩
theorem d_M_digest_148 : mJ m_M_digest 148 (.goto (-23)) (-23) 151 125 := ⟨by decide +kernel, rfl, rfl⟩
theorem d_M_digest_151 : mD m_M_digest 151 (.ldc2_w 282) 3 154 := ⟨by decide +kernel, rfl⟩
theorem d_M_digest_154 : mD m_M_digest 154 (.lload_n 1) 1 155 := ⟨by decide +kernel, rfl⟩
theorem d_M_digest_155 : mD m_M_digest 155 (.lmul) 1 156 := ⟨by decide +kernel, rfl⟩
theorem d_M_digest_156 : mD m_M_digest 156 (.aload_n 0) 1 157 := ⟨by decide +kernel, rfl⟩
theorem d_M_digest_157 : mD m_M_digest 157 (.iload_n 3) 1 158 := ⟨by decide +kernel, rfl⟩
theorem d_M_digest_158 : mD m_M_digest 158 (.iconst 3) 1 159 := ⟨by decide +kernel, rfl⟩
theorem d_M_digest_159 : mD m_M_digest 159 (.invokevirtual 246) 3 162 := ⟨by decide +kernel, rfl⟩
theorem d_M_digest_162 : mD m_M_digest 162 (.i2l) 1 163 := ⟨by decide +kernel, rfl⟩
theorem d_M_digest_163 : mD m_M_digest 163 (.ladd) 1 164 := ⟨by decide +kernel, rfl⟩
theorem d_M_digest_164 : mD m_M_digest 164 (.lstore_n 1) 1 165 := ⟨by decide +kernel, rfl⟩
theorem d_M_digest_165 : mD m_M_digest 165 (.iconst 0) 1 166 := ⟨by decide +kernel, rfl⟩
theorem d_M_digest_166 : mD m_M_digest 166 (.istore 4) 2 168 := ⟨by decide +kernel, rfl⟩
theorem d_M_digest_168 : mD m_M_digest 168 (.iload 4) 2 170 := ⟨by decide +kernel, rfl⟩
theorem d_M_digest_170 : mD m_M_digest 170 (.iconst 3) 1 171 := ⟨by decide +kernel, rfl⟩
theorem d_M_digest_171 : mJ m_M_digest 171 (.if_icmp .ge 24) (24) 174 195 := ⟨by decide +kernel, rfl, rfl⟩
theorem d_M_digest_174 : mD m_M_digest 174 (.ldc2_w 282) 3 177 := ⟨by decide +kernel, rfl⟩
theorem d_M_digest_177 : mD m_M_digest 177 (.lload_n 1) 1 178 := ⟨by decide +kernel, rfl⟩
theorem d_M_digest_178 : mD m_M_digest 178 (.lmul) 1 179 := ⟨by decide +kernel, rfl⟩
theorem d_M_digest_179 : mD m_M_digest 179 (.aload_n 0) 1 180 := ⟨by decide +kernel, rfl⟩
theorem d_M_digest_180 : mD m_M_digest 180 (.iload_n 3) 1 181 := ⟨by decide +kernel, rfl⟩
theorem d_M_digest_181 : mD m_M_digest 181 (.iload 4) 2 183 := ⟨by decide +kernel, rfl⟩
theorem d_M_digest_183 : mD m_M_digest 183 (.invokevirtual 269) 3 186 := ⟨by decide +kernel, rfl⟩
theorem d_M_digest_186 : mD m_M_digest 186 (.i2l) 1 187 := ⟨by decide +kernel, rfl⟩
theorem d_M_digest_187 : mD m_M_digest 187 (.ladd) 1 188 := ⟨by decide +kernel, rfl⟩
theorem d_M_digest_188 : mD m_M_digest 188 (.lstore_n 1) 1 189 := ⟨by decide +kernel, rfl⟩
theorem d_M_digest_189 : mD m_M_digest 189 (.iinc 4 1) 3 192 := ⟨by decide +kernel, rfl⟩
theorem d_M_digest_192 : mJ m_M_digest 192 (.goto (-24)) (-24) 195 168 := ⟨by decide +kernel, rfl, rfl⟩
theorem d_M_digest_195 : mD m_M_digest 195 (.iinc 3 1) 3 198 := ⟨by decide +kernel, rfl⟩
theorem d_M_digest_198 : mJ m_M_digest 198 (.goto (-153)) (-153) 201 45 := ⟨by decide +kernel, rfl, rfl⟩
theorem d_M_digest_201 : mD m_M_digest 201 (.aload_n 0) 1 202 := ⟨by decide +kernel, rfl⟩
theorem d_M_digest_202 : mD m_M_digest 202 (.invokevirtual 201) 3 205 := ⟨by decide +kernel, rfl⟩
theorem d_M_digest_205 : mD m_M_digest 205 (.iconst 0) 1 206 := ⟨by decide +kernel, rfl⟩
theorem d_M_digest_206 : mD m_M_digest 206 (.istore_n 3) 1 207 := ⟨by decide +kernel, rfl⟩
theorem d_M_digest_207 : mD m_M_digest 207 (.iload_n 3) 1 208 := ⟨by decide +kernel, rfl⟩
theorem d_M_digest_208 : mD m_M_digest 208 (.iconst 3) 1 209 := ⟨by decide +kernel, rfl⟩
theorem d_M_digest_209 : mJ m_M_digest 209 (.if_icmp .ge 26) (26) 212 235 := ⟨by decide +kernel, rfl, rfl⟩
theorem d_M_digest_212 : mD m_M_digest 212 (.ldc2_w 282) 3 215 := ⟨by decide +kernel, rfl⟩
theorem d_M_digest_215 : mD m_M_digest 215 (.lload_n 1) 1 216 := ⟨by decide +kernel, rfl⟩
theorem d_M_digest_216 : mD m_M_digest 216 (.lmul) 1 217 := ⟨by decide +kernel, rfl⟩
theorem d_M_digest_217 : mD m_M_digest 217 (.aload_n 0) 1 218 := ⟨by decide +kernel, rfl⟩
theorem d_M_digest_218 : mD m_M_digest 218 (.aload_n 0) 1 219 := ⟨by decide +kernel, rfl⟩
theorem d_M_digest_219 : mD m_M_digest 219 (.invokevirtual 184) 3 222 := ⟨by decide +kernel, rfl⟩
theorem d_M_digest_222 : mD m_M_digest 222 (.iload_n 3) 1 223 := ⟨by decide +kernel, rfl⟩
theorem d_M_digest_223 : mD m_M_digest 223 (.invokevirtual 204) 3 226 := ⟨by decide +kernel, rfl⟩
theorem d_M_digest_226 : mD m_M_digest 226 (.i2l) 1 227 := ⟨by decide +kernel, rfl⟩
theorem d_M_digest_227 : mD m_M_digest 227 (.ladd) 1 228 := ⟨by decide +kernel, rfl⟩
theorem d_M_digest_228 : mD m_M_digest 228 (.lstore_n 1) 1 229 := ⟨by decide +kernel, rfl⟩
theorem d_M_digest_229 : mD m_M_digest 229 (.iinc 3 1) 3 232 := ⟨by decide +kernel, rfl⟩
theorem d_M_digest_232 : mJ m_M_digest 232 (.goto (-25)) (-25) 235 207 := ⟨by decide +kernel, rfl, rfl⟩
theorem d_M_digest_235 : mD m_M_digest 235 (.ldc2_w 282) 3 238 := ⟨by decide +kernel, rfl⟩
theorem d_M_digest_238 : mD m_M_digest 238 (.lload_n 1) 1 239 := ⟨by decide +kernel, rfl⟩
theorem d_M_digest_239 : mD m_M_digest 239 (.lmul) 1 240 := ⟨by decide +kernel, rfl⟩
theorem d_M_digest_240 : mD m_M_digest 240 (.aload_n 0) 1 241 := ⟨by decide +kernel, rfl⟩
theorem d_M_digest_241 : mD m_M_digest 241 (.invokevirtual 213) 3 244 := ⟨by decide +kernel, rfl⟩
theorem d_M_digest_244 : mD m_M_digest 244 (.i2l) 1 245 := ⟨by decide +kernel, rfl⟩
theorem d_M_digest_245 : mD m_M_digest 245 (.ladd) 1 246 := ⟨by decide +kernel, rfl⟩
theorem d_M_digest_246 : mD m_M_digest 246 (.lstore_n 1) 1 247 := ⟨by decide +kernel, rfl⟩
theorem d_M_digest_247 : mD m_M_digest 247 (.ldc2_w 282) 3 250 := ⟨by decide +kernel, rfl⟩
theorem d_M_digest_250 : mD m_M_digest 250 (.lload_n 1) 1 251 := ⟨by decide +kernel, rfl⟩
theorem d_M_digest_251 : mD m_M_digest 251 (.lmul) 1 252 := ⟨by decide +kernel, rfl⟩
theorem d_M_digest_252 : mD m_M_digest 252 (.aload_n 0) 1 253 := ⟨by decide +kernel, rfl⟩
theorem d_M_digest_253 : mD m_M_digest 253 (.invokevirtual 258) 3 256 := ⟨by decide +kernel, rfl⟩
theorem d_M_digest_256 : mD m_M_digest 256 (.i2l) 1 257 := ⟨by decide +kernel, rfl⟩
theorem d_M_digest_257 : mD m_M_digest 257 (.ladd) 1 258 := ⟨by decide +kernel, rfl⟩
theorem d_M_digest_258 : mD m_M_digest 258 (.lstore_n 1) 1 259 := ⟨by decide +kernel, rfl⟩
theorem d_M_digest_259 : mD m_M_digest 259 (.ldc2_w 282) 3 262 := ⟨by decide +kernel, rfl⟩
theorem d_M_digest_262 : mD m_M_digest 262 (.lload_n 1) 1 263 := ⟨by decide +kernel, rfl⟩
theorem d_M_digest_263 : mD m_M_digest 263 (.lmul) 1 264 := ⟨by decide +kernel, rfl⟩
theorem d_M_digest_264 : mD m_M_digest 264 (.aload_n 0) 1 265 := ⟨by decide +kernel, rfl⟩
theorem d_M_digest_265 : mD m_M_digest 265 (.bipush 7) 2 267 := ⟨by decide +kernel, rfl⟩
theorem d_M_digest_267 : mD m_M_digest 267 (.invokevirtual 273) 3 270 := ⟨by decide +kernel, rfl⟩
theorem d_M_digest_270 : mD m_M_digest 270 (.i2l) 1 271 := ⟨by decide +kernel, rfl⟩
theorem d_M_digest_271 : mD m_M_digest 271 (.ladd) 1 272 := ⟨by decide +kernel, rfl⟩
theorem d_M_digest_272 : mD m_M_digest 272 (.lreturn) 1 273 := ⟨by decide +kernel, rfl⟩
theorem d_M_factorial_0 : mD m_M_factorial 0 (.lconst 1) 1 1 := ⟨by decide +kernel, rfl⟩
theorem d_M_factorial_1 : mD m_M_factorial 1 (.lstore_n 1) 1 2 := ⟨by decide +kernel, rfl⟩
theorem d_M_factorial_2 : mD m_M_factorial 2 (.iconst 2) 1 3 := ⟨by decide +kernel, rfl⟩
theorem d_M_factorial_3 : mD m_M_factorial 3 (.istore_n 3) 1 4 := ⟨by decide +kernel, rfl⟩
theorem d_M_factorial_4 : mD m_M_factorial 4 (.iload_n 3) 1 5 := ⟨by decide +kernel, rfl⟩
theorem d_M_factorial_5 : mD m_M_factorial 5 (.iload_n 0) 1 6 := ⟨by decide +kernel, rfl⟩
theorem d_M_factorial_6 : mJ m_M_factorial 6 (.if_icmp .gt 14) (14) 9 20 := ⟨by decide +kernel, rfl, rfl⟩
theorem d_M_factorial_9 : mD m_M_factorial 9 (.lload_n 1) 1 10 := ⟨by decide +kernel, rfl⟩
theorem d_M_factorial_10 : mD m_M_factorial 10 (.iload_n 3) 1 11 := ⟨by decide +kernel, rfl⟩
theorem d_M_factorial_11 : mD m_M_factorial 11 (.i2l) 1 12 := ⟨by decide +kernel, rfl⟩
theorem d_M_factorial_12 : mD m_M_factorial 12 (.lmul) 1 13 := ⟨by decide +kernel, rfl⟩
theorem d_M_factorial_13 : mD m_M_factorial 13 (.lstore_n 1) 1 14 := ⟨by decide +kernel, rfl⟩
theorem d_M_factorial_14 : mD m_M_factorial 14 (.iinc 3 1) 3 17 := ⟨by decide +kernel, rfl⟩
theorem d_M_factorial_17 : mJ m_M_factorial 17 (.goto (-13)) (-13) 20 4 := ⟨by decide +kernel, rfl, rfl⟩
theorem d_M_factorial_20 : mD m_M_factorial 20 (.lload_n 1) 1 21 := ⟨by decide +kernel, rfl⟩
theorem d_M_factorial_21 : mD m_M_factorial 21 (.lreturn) 1 22 := ⟨by decide +kernel, rfl⟩
theorem d_M_fareOf_0 : mD m_M_fareOf 0 (.iload_n 1) 1 1 := ⟨by decide +kernel, rfl⟩
theorem d_M_fareOf_1 : mD m_M_fareOf 1 (.invokestatic 173) 3 4 := ⟨by decide +kernel, rfl⟩
theorem d_M_fareOf_4 : mD m_M_fareOf 4 (.iconst 1) 1 5 := ⟨by decide +kernel, rfl⟩
theorem d_M_fareOf_5 : mJ m_M_fareOf 5 (.if_icmp .ne 10) (10) 8 15 := ⟨by decide +kernel, rfl, rfl⟩
theorem d_M_fareOf_8 : mD m_M_fareOf 8 (.aload_n 0) 1 9 := ⟨by decide +kernel, rfl⟩
theorem d_M_fareOf_9 : mD m_M_fareOf 9 (.getfield 37) 3 12 := ⟨by decide +kernel, rfl⟩
theorem d_M_fareOf_12 : mD m_M_fareOf 12 (.iconst 2) 1 13 := ⟨by decide +kernel, rfl⟩
theorem d_M_fareOf_13 : mD m_M_fareOf 13 (.iaload) 1 14 := ⟨by decide +kernel, rfl⟩
theorem d_M_fareOf_14 : mD m_M_fareOf 14 (.ireturn) 1 15 := ⟨by decide +kernel, rfl⟩
theorem d_M_fareOf_15 : mD m_M_fareOf 15 (.ldc 176) 2 17 := ⟨by decide +kernel, rfl⟩
theorem d_M_fareOf_17 : mD m_M_fareOf 17 (.istore_n 2) 1 18 := ⟨by decide +kernel, rfl⟩
theorem d_M_fareOf_18 : mD m_M_fareOf 18 (.iconst 0) 1 19 := ⟨by decide +kernel, rfl⟩
theorem d_M_fareOf_19 : mD m_M_fareOf 19 (.istore_n 3) 1 20 := ⟨by decide +kernel, rfl⟩
theorem d_M_fareOf_20 : mD m_M_fareOf 20 (.ldc 176) 2 22 := ⟨by decide +kernel, rfl⟩
theorem d_M_fareOf_22 : mD m_M_fareOf 22 (.istore 4) 2 24 := ⟨by decide +kernel, rfl⟩
theorem d_M_fareOf_24 : mD m_M_fareOf 24 (.iconst 0) 1 25 := ⟨by decide +kernel, rfl⟩
theorem d_M_fareOf_25 : mD m_M_fareOf 25 (.istore 5) 2 27 := ⟨by decide +kernel, rfl⟩
theorem d_M_fareOf_27 : mD m_M_fareOf 27 (.iconst 0) 1 28 := ⟨by decide +kernel, rfl⟩
theorem d_M_fareOf_28 : mD m_M_fareOf 28 (.istore 6) 2 30 := ⟨by decide +kernel, rfl⟩
theorem d_M_fareOf_30 : mD m_M_fareOf 30 (.iload 6) 2 32 := ⟨by decide +kernel, rfl⟩
theorem d_M_fareOf_32 : mD m_M_fareOf 32 (.aload_n 0) 1 33 := ⟨by decide +kernel, rfl⟩
theorem d_M_fareOf_33 : mD m_M_fareOf 33 (.getfield 125) 3 36 := ⟨by decide +kernel, rfl⟩
theorem d_M_fareOf_36 : mJ m_M_fareOf 36 (.if_icmp .ge 104) (104) 39 140 := ⟨by decide +kernel, rfl, rfl⟩
theorem d_M_fareOf_39 : mD m_M_fareOf 39 (.iload_n 1) 1 40 := ⟨by decide +kernel, rfl⟩
theorem d_M_fareOf_40 : mD m_M_fareOf 40 (.iload 6) 2 42 := ⟨by decide +kernel, rfl⟩
theorem d_M_fareOf_42 : mD m_M_fareOf 42 (.invokestatic 177) 3 45 := ⟨by decide +kernel, rfl⟩
theorem d_M_fareOf_45 : mJ m_M_fareOf 45 (.ifCond .eq 89) (89) 48 134 := ⟨by decide +kernel, rfl, rfl⟩
theorem d_M_fareOf_48 : mD m_M_fareOf 48 (.aload_n 0) 1 49 := ⟨by decide +kernel, rfl⟩
theorem d_M_fareOf_49 : mD m_M_fareOf 49 (.iload 6) 2 51 := ⟨by decide +kernel, rfl⟩
theorem d_M_fareOf_51 : mD m_M_fareOf 51 (.invokevirtual 154) 3 54 := ⟨by decide +kernel, rfl⟩
theorem d_M_fareOf_54 : mD m_M_fareOf 54 (.istore 7) 2 56 := ⟨by decide +kernel, rfl⟩
theorem d_M_fareOf_56 : mD m_M_fareOf 56 (.iload 7) 2 58 := ⟨by decide +kernel, rfl⟩
theorem d_M_fareOf_58 : mD m_M_fareOf 58 (.iload_n 2) 1 59 := ⟨by decide +kernel, rfl⟩
theorem d_M_fareOf_59 : mJ m_M_fareOf 59 (.if_icmp .ge 8) (8) 62 67 := ⟨by decide +kernel, rfl, rfl⟩
theorem d_M_fareOf_62 : mD m_M_fareOf 62 (.iload 7) 2 64 := ⟨by decide +kernel, rfl⟩
theorem d_M_fareOf_64 : mJ m_M_fareOf 64 (.goto 4) (4) 67 68 := ⟨by decide +kernel, rfl, rfl⟩
theorem d_M_fareOf_67 : mD m_M_fareOf 67 (.iload_n 2) 1 68 := ⟨by decide +kernel, rfl⟩
theorem d_M_fareOf_68 : mD m_M_fareOf 68 (.istore_n 2) 1 69 := ⟨by decide +kernel, rfl⟩
theorem d_M_fareOf_69 : mD m_M_fareOf 69 (.iload 7) 2 71 := ⟨by decide +kernel, rfl⟩
theorem d_M_fareOf_71 : mD m_M_fareOf 71 (.iload_n 3) 1 72 := ⟨by decide +kernel, rfl⟩
theorem d_M_fareOf_72 : mJ m_M_fareOf 72 (.if_icmp .le 8) (8) 75 80 := ⟨by decide +kernel, rfl, rfl⟩
theorem d_M_fareOf_75 : mD m_M_fareOf 75 (.iload 7) 2 77 := ⟨by decide +kernel, rfl⟩
theorem d_M_fareOf_77 : mJ m_M_fareOf 77 (.goto 4) (4) 80 81 := ⟨by decide +kernel, rfl, rfl⟩
theorem d_M_fareOf_80 : mD m_M_fareOf 80 (.iload_n 3) 1 81 := ⟨by decide +kernel, rfl⟩
theorem d_M_fareOf_81 : mD m_M_fareOf 81 (.istore_n 3) 1 82 := ⟨by decide +kernel, rfl⟩
theorem d_M_fareOf_82 : mD m_M_fareOf 82 (.aload_n 0) 1 83 := ⟨by decide +kernel, rfl⟩
theorem d_M_fareOf_83 : mD m_M_fareOf 83 (.getfield 28) 3 86 := ⟨by decide +kernel, rfl⟩
theorem d_M_fareOf_86 : mD m_M_fareOf 86 (.iload 6) 2 88 := ⟨by decide +kernel, rfl⟩
theorem d_M_fareOf_88 : mD m_M_fareOf 88 (.iaload) 1 89 := ⟨by decide +kernel, rfl⟩
theorem d_M_fareOf_89 : mD m_M_fareOf 89 (.iload 4) 2 91 := ⟨by decide +kernel, rfl⟩
theorem d_M_fareOf_91 : mJ m_M_fareOf 91 (.if_icmp .ge 13) (13) 94 104 := ⟨by decide +kernel, rfl, rfl⟩
theorem d_M_fareOf_94 : mD m_M_fareOf 94 (.aload_n 0) 1 95 := ⟨by decide +kernel, rfl⟩
theorem d_M_fareOf_95 : mD m_M_fareOf 95 (.getfield 28) 3 98 := ⟨by decide +kernel, rfl⟩
theorem d_M_fareOf_98 : mD m_M_fareOf 98 (.iload 6) 2 100 := ⟨by decide +kernel, rfl⟩
theorem d_M_fareOf_100 : mD m_M_fareOf 100 (.iaload) 1 101 := ⟨by decide +kernel, rfl⟩
theorem d_M_fareOf_101 : mJ m_M_fareOf 101 (.goto 5) (5) 104 106 := ⟨by decide +kernel, rfl, rfl⟩
theorem d_M_fareOf_104 : mD m_M_fareOf 104 (.iload 4) 2 106 := ⟨by decide +kernel, rfl⟩
theorem d_M_fareOf_106 : mD m_M_fareOf 106 (.istore 4) 2 108 := ⟨by decide +kernel, rfl⟩
theorem d_M_fareOf_108 : mD m_M_fareOf 108 (.aload_n 0) 1 109 := ⟨by decide +kernel, rfl⟩
theorem d_M_fareOf_109 : mD m_M_fareOf 109 (.getfield 28) 3 112 := ⟨by decide +kernel, rfl⟩
theorem d_M_fareOf_112 : mD m_M_fareOf 112 (.iload 6) 2 114 := ⟨by decide +kernel, rfl⟩
theorem d_M_fareOf_114 : mD m_M_fareOf 114 (.iaload) 1 115 := ⟨by decide +kernel, rfl⟩
theorem d_M_fareOf_115 : mD m_M_fareOf 115 (.iload 5) 2 117 := ⟨by decide +kernel, rfl⟩
theorem d_M_fareOf_117 : mJ m_M_fareOf 117 (.if_icmp .le 13) (13) 120 130 := ⟨by decide +kernel, rfl, rfl⟩
theorem d_M_fareOf_120 : mD m_M_fareOf 120 (.aload_n 0) 1 121 := ⟨by decide +kernel, rfl⟩
theorem d_M_fareOf_121 : mD m_M_fareOf 121 (.getfield 28) 3 124 := ⟨by decide +kernel, rfl⟩
theorem d_M_fareOf_124 : mD m_M_fareOf 124 (.iload 6) 2 126 := ⟨by decide +kernel, rfl⟩
theorem d_M_fareOf_126 : mD m_M_fareOf 126 (.iaload) 1 127 := ⟨by decide +kernel, rfl⟩
theorem d_M_fareOf_127 : mJ m_M_fareOf 127 (.goto 5) (5) 130 132 := ⟨by decide +kernel, rfl, rfl⟩
theorem d_M_fareOf_130 : mD m_M_fareOf 130 (.iload 5) 2 132 := ⟨by decide +kernel, rfl⟩
theorem d_M_fareOf_132 : mD m_M_fareOf 132 (.istore 5) 2 134 := ⟨by decide +kernel, rfl⟩
theorem d_M_fareOf_134 : mD m_M_fareOf 134 (.iinc 6 1) 3 137 := ⟨by decide +kernel, rfl⟩
theorem d_M_fareOf_137 : mJ m_M_fareOf 137 (.goto (-107)) (-107) 140 30 := ⟨by decide +kernel, rfl, rfl⟩
theorem d_M_fareOf_140 : mD m_M_fareOf 140 (.aload_n 0) 1 141 := ⟨by decide +kernel, rfl⟩
theorem d_M_fareOf_141 : mD m_M_fareOf 141 (.getfield 37) 3 144 := ⟨by decide +kernel, rfl⟩
theorem d_M_fareOf_144 : mD m_M_fareOf 144 (.iconst 1) 1 145 := ⟨by decide +kernel, rfl⟩
theorem d_M_fareOf_145 : mD m_M_fareOf 145 (.iaload) 1 146 := ⟨by decide +kernel, rfl⟩
theorem d_M_fareOf_146 : mD m_M_fareOf 146 (.iconst 1) 1 147 := ⟨by decide +kernel, rfl⟩
theorem d_M_fareOf_147 : mJ m_M_fareOf 147 (.if_icmp .ne 7) (7) 150 154 := ⟨by decide +kernel, rfl, rfl⟩
theorem d_M_fareOf_150 : mD m_M_fareOf 150 (.iconst 0) 1 151 := ⟨by decide +kernel, rfl⟩
theorem d_M_fareOf_151 : mJ m_M_fareOf 151 (.goto 6) (6) 154 157 := ⟨by decide +kernel, rfl, rfl⟩
theorem d_M_fareOf_154 : mD m_M_fareOf 154 (.iload_n 3) 1 155 := ⟨by decide +kernel, rfl⟩
theorem d_M_fareOf_155 : mD m_M_fareOf 155 (.iload_n 2) 1 156 := ⟨by decide +kernel, rfl⟩
theorem d_M_fareOf_156 : mD m_M_fareOf 156 (.isub) 1 157 := ⟨by decide +kernel, rfl⟩
theorem d_M_fareOf_157 : mD m_M_fareOf 157 (.aload_n 0) 1 158 := ⟨by decide +kernel, rfl⟩
theorem d_M_fareOf_158 : mD m_M_fareOf 158 (.getfield 37) 3 161 := ⟨by decide +kernel, rfl⟩
theorem d_M_fareOf_161 : mD m_M_fareOf 161 (.iconst 1) 1 162 := ⟨by decide +kernel, rfl⟩
theorem d_M_fareOf_162 : mD m_M_fareOf 162 (.iaload) 1 163 := ⟨by decide +kernel, rfl⟩
theorem d_M_fareOf_163 : mJ m_M_fareOf 163 (.ifCond .ne 7) (7) 166 170 := ⟨by decide +kernel, rfl, rfl⟩
theorem d_M_fareOf_166 : mD m_M_fareOf 166 (.iconst 0) 1 167 := ⟨by decide +kernel, rfl⟩
theorem d_M_fareOf_167 : mJ m_M_fareOf 167 (.goto 8) (8) 170 175 := ⟨by decide +kernel, rfl, rfl⟩
theorem d_M_fareOf_170 : mD m_M_fareOf 170 (.iload 5) 2 172 := ⟨by decide +kernel, rfl⟩
theorem d_M_fareOf_172 : mD m_M_fareOf 172 (.iload 4) 2 174 := ⟨by decide +kernel, rfl⟩
theorem d_M_fareOf_174 : mD m_M_fareOf 174 (.isub) 1 175 := ⟨by decide +kernel, rfl⟩
theorem d_M_fareOf_175 : mD m_M_fareOf 175 (.iadd) 1 176 := ⟨by decide +kernel, rfl⟩
theorem d_M_fareOf_176 : mD m_M_fareOf 176 (.ireturn) 1 177 := ⟨by decide +kernel, rfl⟩
theorem d_M_fault_0 : mD m_M_fault 0 (.aload_n 0) 1 1 := ⟨by decide +kernel, rfl⟩
theorem d_M_fault_1 : mD m_M_fault 1 (.invokevirtual 143) 3 4 := ⟨by decide +kernel, rfl⟩
theorem d_M_fault_4 : mD m_M_fault 4 (.ireturn) 1 5 := ⟨by decide +kernel, rfl⟩
theorem d_M_findBoats_0 : mD m_M_findBoats 0 (.iconst 1) 1 1 := ⟨by decide +kernel, rfl⟩
theorem d_M_findBoats_1 : mD m_M_findBoats 1 (.istore_n 1) 1 2 := ⟨by decide +kernel, rfl⟩
theorem d_M_findBoats_2 : mD m_M_findBoats 2 (.iload_n 1) 1 3 := ⟨by decide +kernel, rfl⟩
theorem d_M_findBoats_3 : mD m_M_findBoats 3 (.aload_n 0) 1 4 := ⟨by decide +kernel, rfl⟩
theorem d_M_findBoats_4 : mD m_M_findBoats 4 (.invokevirtual 184) 3 7 := ⟨by decide +kernel, rfl⟩
theorem d_M_findBoats_7 : mJ m_M_findBoats 7 (.if_icmp .gt 95) (95) 10 102 := ⟨by decide +kernel, rfl, rfl⟩
theorem d_M_findBoats_10 : mD m_M_findBoats 10 (.aload_n 0) 1 11 := ⟨by decide +kernel, rfl⟩
theorem d_M_findBoats_11 : mD m_M_findBoats 11 (.getfield 52) 3 14 := ⟨by decide +kernel, rfl⟩
theorem d_M_findBoats_14 : mD m_M_findBoats 14 (.iload_n 1) 1 15 := ⟨by decide +kernel, rfl⟩
theorem d_M_findBoats_15 : mD m_M_findBoats 15 (.aload_n 0) 1 16 := ⟨by decide +kernel, rfl⟩
theorem d_M_findBoats_16 : mD m_M_findBoats 16 (.iload_n 1) 1 17 := ⟨by decide +kernel, rfl⟩
theorem d_M_findBoats_17 : mD m_M_findBoats 17 (.invokevirtual 187) 3 20 := ⟨by decide +kernel, rfl⟩
theorem d_M_findBoats_20 : mD m_M_findBoats 20 (.bastore) 1 21 := ⟨by decide +kernel, rfl⟩
theorem d_M_findBoats_21 : mD m_M_findBoats 21 (.aload_n 0) 1 22 := ⟨by decide +kernel, rfl⟩
theorem d_M_findBoats_22 : mD m_M_findBoats 22 (.getfield 46) 3 25 := ⟨by decide +kernel, rfl⟩
theorem d_M_findBoats_25 : mD m_M_findBoats 25 (.iload_n 1) 1 26 := ⟨by decide +kernel, rfl⟩
theorem d_M_findBoats_26 : mD m_M_findBoats 26 (.aload_n 0) 1 27 := ⟨by decide +kernel, rfl⟩
theorem d_M_findBoats_27 : mD m_M_findBoats 27 (.getfield 52) 3 30 := ⟨by decide +kernel, rfl⟩
theorem d_M_findBoats_30 : mD m_M_findBoats 30 (.iload_n 1) 1 31 := ⟨by decide +kernel, rfl⟩
theorem d_M_findBoats_31 : mD m_M_findBoats 31 (.baload) 1 32 := ⟨by decide +kernel, rfl⟩
theorem d_M_findBoats_32 : mJ m_M_findBoats 32 (.ifCond .eq 11) (11) 35 43 := ⟨by decide +kernel, rfl, rfl⟩
theorem d_M_findBoats_35 : mD m_M_findBoats 35 (.aload_n 0) 1 36 := ⟨by decide +kernel, rfl⟩
theorem d_M_findBoats_36 : mD m_M_findBoats 36 (.iload_n 1) 1 37 := ⟨by decide +kernel, rfl⟩
theorem d_M_findBoats_37 : mD m_M_findBoats 37 (.invokevirtual 190) 3 40 := ⟨by decide +kernel, rfl⟩
theorem d_M_findBoats_40 : mJ m_M_findBoats 40 (.goto 5) (5) 43 45 := ⟨by decide +kernel, rfl, rfl⟩
theorem d_M_findBoats_43 : mD m_M_findBoats 43 (.ldc 176) 2 45 := ⟨by decide +kernel, rfl⟩
theorem d_M_findBoats_45 : mD m_M_findBoats 45 (.iastore) 1 46 := ⟨by decide +kernel, rfl⟩
theorem d_M_findBoats_46 : mD m_M_findBoats 46 (.aload_n 0) 1 47 := ⟨by decide +kernel, rfl⟩
theorem d_M_findBoats_47 : mD m_M_findBoats 47 (.getfield 49) 3 50 := ⟨by decide +kernel, rfl⟩
theorem d_M_findBoats_50 : mD m_M_findBoats 50 (.iload_n 1) 1 51 := ⟨by decide +kernel, rfl⟩
theorem d_M_findBoats_51 : mD m_M_findBoats 51 (.iconst 0) 1 52 := ⟨by decide +kernel, rfl⟩
theorem d_M_findBoats_52 : mD m_M_findBoats 52 (.iastore) 1 53 := ⟨by decide +kernel, rfl⟩
theorem d_M_findBoats_53 : mD m_M_findBoats 53 (.iconst 0) 1 54 := ⟨by decide +kernel, rfl⟩
theorem d_M_findBoats_54 : mD m_M_findBoats 54 (.istore_n 2) 1 55 := ⟨by decide +kernel, rfl⟩
theorem d_M_findBoats_55 : mD m_M_findBoats 55 (.iload_n 2) 1 56 := ⟨by decide +kernel, rfl⟩
theorem d_M_findBoats_56 : mD m_M_findBoats 56 (.aload_n 0) 1 57 := ⟨by decide +kernel, rfl⟩
theorem d_M_findBoats_57 : mD m_M_findBoats 57 (.getfield 125) 3 60 := ⟨by decide +kernel, rfl⟩
theorem d_M_findBoats_60 : mJ m_M_findBoats 60 (.if_icmp .ge 36) (36) 63 96 := ⟨by decide +kernel, rfl, rfl⟩
theorem d_M_findBoats_63 : mD m_M_findBoats 63 (.aload_n 0) 1 64 := ⟨by decide +kernel, rfl⟩
theorem d_M_findBoats_64 : mD m_M_findBoats 64 (.getfield 49) 3 67 := ⟨by decide +kernel, rfl⟩
theorem d_M_findBoats_67 : mD m_M_findBoats 67 (.iload_n 1) 1 68 := ⟨by decide +kernel, rfl⟩
theorem d_M_findBoats_68 : mD m_M_findBoats 68 (.dup2) 1 69 := ⟨by decide +kernel, rfl⟩
theorem d_M_findBoats_69 : mD m_M_findBoats 69 (.iaload) 1 70 := ⟨by decide +kernel, rfl⟩
theorem d_M_findBoats_70 : mD m_M_findBoats 70 (.iload_n 1) 1 71 := ⟨by decide +kernel, rfl⟩
theorem d_M_findBoats_71 : mD m_M_findBoats 71 (.iload_n 2) 1 72 := ⟨by decide +kernel, rfl⟩
theorem d_M_findBoats_72 : mD m_M_findBoats 72 (.invokestatic 177) 3 75 := ⟨by decide +kernel, rfl⟩
theorem d_M_findBoats_75 : mJ m_M_findBoats 75 (.ifCond .eq 12) (12) 78 87 := ⟨by decide +kernel, rfl, rfl⟩
theorem d_M_findBoats_78 : mD m_M_findBoats 78 (.aload_n 0) 1 79 := ⟨by decide +kernel, rfl⟩
theorem d_M_findBoats_79 : mD m_M_findBoats 79 (.getfield 43) 3 82 := ⟨by decide +kernel, rfl⟩
theorem d_M_findBoats_82 : mD m_M_findBoats 82 (.iload_n 2) 1 83 := ⟨by decide +kernel, rfl⟩
theorem d_M_findBoats_83 : mD m_M_findBoats 83 (.iaload) 1 84 := ⟨by decide +kernel, rfl⟩
theorem d_M_findBoats_84 : mJ m_M_findBoats 84 (.goto 4) (4) 87 88 := ⟨by decide +kernel, rfl, rfl⟩
theorem d_M_findBoats_87 : mD m_M_findBoats 87 (.iconst 0) 1 88 := ⟨by decide +kernel, rfl⟩
theorem d_M_findBoats_88 : mD m_M_findBoats 88 (.ior) 1 89 := ⟨by decide +kernel, rfl⟩
theorem d_M_findBoats_89 : mD m_M_findBoats 89 (.iastore) 1 90 := ⟨by decide +kernel, rfl⟩
theorem d_M_findBoats_90 : mD m_M_findBoats 90 (.iinc 2 1) 3 93 := ⟨by decide +kernel, rfl⟩
theorem d_M_findBoats_93 : mJ m_M_findBoats 93 (.goto (-38)) (-38) 96 55 := ⟨by decide +kernel, rfl, rfl⟩
theorem d_M_findBoats_96 : mD m_M_findBoats 96 (.iinc 1 1) 3 99 := ⟨by decide +kernel, rfl⟩
theorem d_M_findBoats_99 : mJ m_M_findBoats 99 (.goto (-97)) (-97) 102 2 := ⟨by decide +kernel, rfl, rfl⟩
theorem d_M_findBoats_102 : mD m_M_findBoats 102 (.return_) 1 103 := ⟨by decide +kernel, rfl⟩
theorem d_M_findDay_0 : mD m_M_findDay 0 (.iconst 0) 1 1 := ⟨by decide +kernel, rfl⟩
theorem d_M_findDay_1 : mD m_M_findDay 1 (.istore_n 2) 1 2 := ⟨by decide +kernel, rfl⟩
theorem d_M_findDay_2 : mD m_M_findDay 2 (.iload_n 2) 1 3 := ⟨by decide +kernel, rfl⟩
theorem d_M_findDay_3 : mD m_M_findDay 3 (.iload_n 1) 1 4 := ⟨by decide +kernel, rfl⟩
theorem d_M_findDay_4 : mJ m_M_findDay 4 (.if_icmp .gt 118) (118) 7 122 := ⟨by decide +kernel, rfl, rfl⟩
theorem d_M_findDay_7 : mD m_M_findDay 7 (.iload_n 2) 1 8 := ⟨by decide +kernel, rfl⟩
theorem d_M_findDay_8 : mD m_M_findDay 8 (.iload_n 1) 1 9 := ⟨by decide +kernel, rfl⟩
theorem d_M_findDay_9 : mD m_M_findDay 9 (.iconst (-1)) 1 10 := ⟨by decide +kernel, rfl⟩
theorem d_M_findDay_10 : mD m_M_findDay 10 (.ixor) 1 11 := ⟨by decide +kernel, rfl⟩
theorem d_M_findDay_11 : mD m_M_findDay 11 (.iand) 1 12 := ⟨by decide +kernel, rfl⟩
theorem d_M_findDay_12 : mJ m_M_findDay 12 (.ifCond .ne 104) (104) 15 116 := ⟨by decide +kernel, rfl, rfl⟩
theorem d_M_findDay_15 : mD m_M_findDay 15 (.aload_n 0) 1 16 := ⟨by decide +kernel, rfl⟩
theorem d_M_findDay_16 : mD m_M_findDay 16 (.getfield 56) 3 19 := ⟨by decide +kernel, rfl⟩
theorem d_M_findDay_19 : mD m_M_findDay 19 (.iload_n 2) 1 20 := ⟨by decide +kernel, rfl⟩
theorem d_M_findDay_20 : mD m_M_findDay 20 (.iload_n 2) 1 21 := ⟨by decide +kernel, rfl⟩
theorem d_M_findDay_21 : mJ m_M_findDay 21 (.ifCond .ne 7) (7) 24 28 := ⟨by decide +kernel, rfl, rfl⟩
theorem d_M_findDay_24 : mD m_M_findDay 24 (.iconst 0) 1 25 := ⟨by decide +kernel, rfl⟩
theorem d_M_findDay_25 : mJ m_M_findDay 25 (.goto 5) (5) 28 30 := ⟨by decide +kernel, rfl, rfl⟩
theorem d_M_findDay_28 : mD m_M_findDay 28 (.ldc 176) 2 30 := ⟨by decide +kernel, rfl⟩
theorem d_M_findDay_30 : mD m_M_findDay 30 (.iastore) 1 31 := ⟨by decide +kernel, rfl⟩
theorem d_M_findDay_31 : mD m_M_findDay 31 (.aload_n 0) 1 32 := ⟨by decide +kernel, rfl⟩
theorem d_M_findDay_32 : mD m_M_findDay 32 (.getfield 59) 3 35 := ⟨by decide +kernel, rfl⟩
theorem d_M_findDay_35 : mD m_M_findDay 35 (.iload_n 2) 1 36 := ⟨by decide +kernel, rfl⟩
theorem d_M_findDay_36 : mD m_M_findDay 36 (.iconst 0) 1 37 := ⟨by decide +kernel, rfl⟩
theorem d_M_findDay_37 : mD m_M_findDay 37 (.iastore) 1 38 := ⟨by decide +kernel, rfl⟩
theorem d_M_findDay_38 : mD m_M_findDay 38 (.aload_n 0) 1 39 := ⟨by decide +kernel, rfl⟩
theorem d_M_findDay_39 : mD m_M_findDay 39 (.getfield 62) 3 42 := ⟨by decide +kernel, rfl⟩
theorem d_M_findDay_42 : mD m_M_findDay 42 (.iload_n 2) 1 43 := ⟨by decide +kernel, rfl⟩
theorem d_M_findDay_43 : mD m_M_findDay 43 (.iconst 0) 1 44 := ⟨by decide +kernel, rfl⟩
theorem d_M_findDay_44 : mD m_M_findDay 44 (.iastore) 1 45 := ⟨by decide +kernel, rfl⟩
theorem d_M_findDay_45 : mD m_M_findDay 45 (.aload_n 0) 1 46 := ⟨by decide +kernel, rfl⟩
theorem d_M_findDay_46 : mD m_M_findDay 46 (.getfield 65) 3 49 := ⟨by decide +kernel, rfl⟩
theorem d_M_findDay_49 : mD m_M_findDay 49 (.iload_n 2) 1 50 := ⟨by decide +kernel, rfl⟩
theorem d_M_findDay_50 : mD m_M_findDay 50 (.iload_n 2) 1 51 := ⟨by decide +kernel, rfl⟩
theorem d_M_findDay_51 : mJ m_M_findDay 51 (.ifCond .ne 7) (7) 54 58 := ⟨by decide +kernel, rfl, rfl⟩
theorem d_M_findDay_54 : mD m_M_findDay 54 (.iconst 0) 1 55 := ⟨by decide +kernel, rfl⟩
theorem d_M_findDay_55 : mJ m_M_findDay 55 (.goto 4) (4) 58 59 := ⟨by decide +kernel, rfl, rfl⟩
theorem d_M_findDay_58 : mD m_M_findDay 58 (.iconst (-1)) 1 59 := ⟨by decide +kernel, rfl⟩
theorem d_M_findDay_59 : mD m_M_findDay 59 (.iastore) 1 60 := ⟨by decide +kernel, rfl⟩
theorem d_M_findDay_60 : mD m_M_findDay 60 (.iload_n 2) 1 61 := ⟨by decide +kernel, rfl⟩
theorem d_M_findDay_61 : mD m_M_findDay 61 (.iload_n 2) 1 62 := ⟨by decide +kernel, rfl⟩
theorem d_M_findDay_62 : mD m_M_findDay 62 (.iconst 1) 1 63 := ⟨by decide +kernel, rfl⟩
theorem d_M_findDay_63 : mD m_M_findDay 63 (.isub) 1 64 := ⟨by decide +kernel, rfl⟩
theorem d_M_findDay_64 : mD m_M_findDay 64 (.iand) 1 65 := ⟨by decide +kernel, rfl⟩
theorem d_M_findDay_65 : mD m_M_findDay 65 (.istore_n 3) 1 66 := ⟨by decide +kernel, rfl⟩
theorem d_M_findDay_66 : mD m_M_findDay 66 (.iload_n 2) 1 67 := ⟨by decide +kernel, rfl⟩
theorem d_M_findDay_67 : mD m_M_findDay 67 (.iload_n 2) 1 68 := ⟨by decide +kernel, rfl⟩
theorem d_M_findDay_68 : mD m_M_findDay 68 (.ineg) 1 69 := ⟨by decide +kernel, rfl⟩
theorem d_M_findDay_69 : mD m_M_findDay 69 (.iand) 1 70 := ⟨by decide +kernel, rfl⟩
theorem d_M_findDay_70 : mD m_M_findDay 70 (.istore 4) 2 72 := ⟨by decide +kernel, rfl⟩
theorem d_M_findDay_72 : mD m_M_findDay 72 (.iconst 0) 1 73 := ⟨by decide +kernel, rfl⟩
theorem d_M_findDay_73 : mD m_M_findDay 73 (.istore 5) 2 75 := ⟨by decide +kernel, rfl⟩
theorem d_M_findDay_75 : mD m_M_findDay 75 (.iload_n 2) 1 76 := ⟨by decide +kernel, rfl⟩
theorem d_M_findDay_76 : mJ m_M_findDay 76 (.ifCond .eq 40) (40) 79 116 := ⟨by decide +kernel, rfl, rfl⟩
theorem d_M_findDay_79 : mD m_M_findDay 79 (.iload 5) 2 81 := ⟨by decide +kernel, rfl⟩
theorem d_M_findDay_81 : mJ m_M_findDay 81 (.ifCond .lt 35) (35) 84 116 := ⟨by decide +kernel, rfl, rfl⟩
theorem d_M_findDay_84 : mD m_M_findDay 84 (.aload_n 0) 1 85 := ⟨by decide +kernel, rfl⟩
theorem d_M_findDay_85 : mD m_M_findDay 85 (.iload_n 2) 1 86 := ⟨by decide +kernel, rfl⟩
theorem d_M_findDay_86 : mD m_M_findDay 86 (.iload 4) 2 88 := ⟨by decide +kernel, rfl⟩
theorem d_M_findDay_88 : mD m_M_findDay 88 (.iload 5) 2 90 := ⟨by decide +kernel, rfl⟩
theorem d_M_findDay_90 : mD m_M_findDay 90 (.ior) 1 91 := ⟨by decide +kernel, rfl⟩
theorem d_M_findDay_91 : mD m_M_findDay 91 (.iload_n 1) 1 92 := ⟨by decide +kernel, rfl⟩
theorem d_M_findDay_92 : mD m_M_findDay 92 (.invokevirtual 193) 3 95 := ⟨by decide +kernel, rfl⟩
theorem d_M_findDay_95 : mD m_M_findDay 95 (.iload 5) 2 97 := ⟨by decide +kernel, rfl⟩
theorem d_M_findDay_97 : mD m_M_findDay 97 (.iload_n 3) 1 98 := ⟨by decide +kernel, rfl⟩
theorem d_M_findDay_98 : mJ m_M_findDay 98 (.if_icmp .ne 7) (7) 101 105 := ⟨by decide +kernel, rfl, rfl⟩
theorem d_M_findDay_101 : mD m_M_findDay 101 (.iconst (-1)) 1 102 := ⟨by decide +kernel, rfl⟩
theorem d_M_findDay_102 : mJ m_M_findDay 102 (.goto 9) (9) 105 111 := ⟨by decide +kernel, rfl, rfl⟩
theorem d_M_findDay_105 : mD m_M_findDay 105 (.iload 5) 2 107 := ⟨by decide +kernel, rfl⟩
theorem d_M_findDay_107 : mD m_M_findDay 107 (.iload_n 3) 1 108 := ⟨by decide +kernel, rfl⟩
theorem d_M_findDay_108 : mD m_M_findDay 108 (.isub) 1 109 := ⟨by decide +kernel, rfl⟩
theorem d_M_findDay_109 : mD m_M_findDay 109 (.iload_n 3) 1 110 := ⟨by decide +kernel, rfl⟩
theorem d_M_findDay_110 : mD m_M_findDay 110 (.iand) 1 111 := ⟨by decide +kernel, rfl⟩
theorem d_M_findDay_111 : mD m_M_findDay 111 (.istore 5) 2 113 := ⟨by decide +kernel, rfl⟩
theorem d_M_findDay_113 : mJ m_M_findDay 113 (.goto (-38)) (-38) 116 75 := ⟨by decide +kernel, rfl, rfl⟩
theorem d_M_findDay_116 : mD m_M_findDay 116 (.iinc 2 1) 3 119 := ⟨by decide +kernel, rfl⟩
theorem d_M_findDay_119 : mJ m_M_findDay 119 (.goto (-117)) (-117) 122 2 := ⟨by decide +kernel, rfl, rfl⟩
theorem d_M_findDay_122 : mD m_M_findDay 122 (.return_) 1 123 := ⟨by decide +kernel, rfl⟩
theorem d_M_findLeasts_0 : mD m_M_findLeasts 0 (.aload_n 0) 1 1 := ⟨by decide +kernel, rfl⟩
theorem d_M_findLeasts_1 : mD m_M_findLeasts 1 (.invokevirtual 201) 3 4 := ⟨by decide +kernel, rfl⟩
theorem d_M_findLeasts_4 : mD m_M_findLeasts 4 (.iconst 1) 1 5 := ⟨by decide +kernel, rfl⟩
theorem d_M_findLeasts_5 : mD m_M_findLeasts 5 (.istore_n 1) 1 6 := ⟨by decide +kernel, rfl⟩
theorem d_M_findLeasts_6 : mD m_M_findLeasts 6 (.iconst 0) 1 7 := ⟨by decide +kernel, rfl⟩
theorem d_M_findLeasts_7 : mD m_M_findLeasts 7 (.istore_n 2) 1 8 := ⟨by decide +kernel, rfl⟩
theorem d_M_findLeasts_8 : mD m_M_findLeasts 8 (.iload_n 2) 1 9 := ⟨by decide +kernel, rfl⟩
theorem d_M_findLeasts_9 : mD m_M_findLeasts 9 (.aload_n 0) 1 10 := ⟨by decide +kernel, rfl⟩
theorem d_M_findLeasts_10 : mD m_M_findLeasts 10 (.invokevirtual 184) 3 13 := ⟨by decide +kernel, rfl⟩
theorem d_M_findLeasts_13 : mJ m_M_findLeasts 13 (.if_icmp .gt 41) (41) 16 54 := ⟨by decide +kernel, rfl, rfl⟩
theorem d_M_findLeasts_16 : mD m_M_findLeasts 16 (.aload_n 0) 1 17 := ⟨by decide +kernel, rfl⟩
theorem d_M_findLeasts_17 : mD m_M_findLeasts 17 (.getfield 68) 3 20 := ⟨by decide +kernel, rfl⟩
theorem d_M_findLeasts_20 : mD m_M_findLeasts 20 (.iload_n 2) 1 21 := ⟨by decide +kernel, rfl⟩
theorem d_M_findLeasts_21 : mD m_M_findLeasts 21 (.aload_n 0) 1 22 := ⟨by decide +kernel, rfl⟩
theorem d_M_findLeasts_22 : mD m_M_findLeasts 22 (.iload_n 2) 1 23 := ⟨by decide +kernel, rfl⟩
theorem d_M_findLeasts_23 : mD m_M_findLeasts 23 (.iconst 0) 1 24 := ⟨by decide +kernel, rfl⟩
theorem d_M_findLeasts_24 : mD m_M_findLeasts 24 (.invokevirtual 204) 3 27 := ⟨by decide +kernel, rfl⟩
theorem d_M_findLeasts_27 : mD m_M_findLeasts 27 (.iastore) 1 28 := ⟨by decide +kernel, rfl⟩
theorem d_M_findLeasts_28 : mD m_M_findLeasts 28 (.iload_n 1) 1 29 := ⟨by decide +kernel, rfl⟩
theorem d_M_findLeasts_29 : mJ m_M_findLeasts 29 (.ifCond .eq 17) (17) 32 46 := ⟨by decide +kernel, rfl, rfl⟩
theorem d_M_findLeasts_32 : mD m_M_findLeasts 32 (.aload_n 0) 1 33 := ⟨by decide +kernel, rfl⟩
theorem d_M_findLeasts_33 : mD m_M_findLeasts 33 (.getfield 68) 3 36 := ⟨by decide +kernel, rfl⟩
theorem d_M_findLeasts_36 : mD m_M_findLeasts 36 (.iload_n 2) 1 37 := ⟨by decide +kernel, rfl⟩
theorem d_M_findLeasts_37 : mD m_M_findLeasts 37 (.iaload) 1 38 := ⟨by decide +kernel, rfl⟩
theorem d_M_findLeasts_38 : mD m_M_findLeasts 38 (.iconst (-1)) 1 39 := ⟨by decide +kernel, rfl⟩
theorem d_M_findLeasts_39 : mJ m_M_findLeasts 39 (.if_icmp .eq 7) (7) 42 46 := ⟨by decide +kernel, rfl, rfl⟩
theorem d_M_findLeasts_42 : mD m_M_findLeasts 42 (.iconst 1) 1 43 := ⟨by decide +kernel, rfl⟩
theorem d_M_findLeasts_43 : mJ m_M_findLeasts 43 (.goto 4) (4) 46 47 := ⟨by decide +kernel, rfl, rfl⟩
theorem d_M_findLeasts_46 : mD m_M_findLeasts 46 (.iconst 0) 1 47 := ⟨by decide +kernel, rfl⟩
theorem d_M_findLeasts_47 : mD m_M_findLeasts 47 (.istore_n 1) 1 48 := ⟨by decide +kernel, rfl⟩
theorem d_M_findLeasts_48 : mD m_M_findLeasts 48 (.iinc 2 1) 3 51 := ⟨by decide +kernel, rfl⟩
theorem d_M_findLeasts_51 : mJ m_M_findLeasts 51 (.goto (-43)) (-43) 54 8 := ⟨by decide +kernel, rfl, rfl⟩
theorem d_M_findLeasts_54 : mD m_M_findLeasts 54 (.iload_n 1) 1 55 := ⟨by decide +kernel, rfl⟩
theorem d_M_findLeasts_55 : mD m_M_findLeasts 55 (.ireturn) 1 56 := ⟨by decide +kernel, rfl⟩
theorem d_M_forget_0 : mD m_M_forget 0 (.aload_n 0) 1 1 := ⟨by decide +kernel, rfl⟩
theorem d_M_forget_1 : mD m_M_forget 1 (.getfield 263) 3 4 := ⟨by decide +kernel, rfl⟩
theorem d_M_forget_4 : mD m_M_forget 4 (.istore_n 1) 1 5 := ⟨by decide +kernel, rfl⟩
theorem d_M_forget_5 : mD m_M_forget 5 (.aload_n 0) 1 6 := ⟨by decide +kernel, rfl⟩
theorem d_M_forget_6 : mD m_M_forget 6 (.iconst 0) 1 7 := ⟨by decide +kernel, rfl⟩
theorem d_M_forget_7 : mD m_M_forget 7 (.putfield 263) 3 10 := ⟨by decide +kernel, rfl⟩
theorem d_M_forget_10 : mD m_M_forget 10 (.iload_n 1) 1 11 := ⟨by decide +kernel, rfl⟩
theorem d_M_forget_11 : mD m_M_forget 11 (.ireturn) 1 12 := ⟨by decide +kernel, rfl⟩
theorem d_M_get_0 : mD m_M_get 0 (.iload_n 1) 1 1 := ⟨by decide +kernel, rfl⟩
theorem d_M_get_1 : mD m_M_get 1 (.invokestatic 98) 3 4 := ⟨by decide +kernel, rfl⟩
theorem d_M_get_4 : mJ m_M_get 4 (.ifCond .eq 25) (25) 7 29 := ⟨by decide +kernel, rfl, rfl⟩
theorem d_M_get_7 : mD m_M_get 7 (.iload_n 2) 1 8 := ⟨by decide +kernel, rfl⟩
theorem d_M_get_8 : mD m_M_get 8 (.i2l) 1 9 := ⟨by decide +kernel, rfl⟩
theorem d_M_get_9 : mD m_M_get 9 (.lconst 0) 1 10 := ⟨by decide +kernel, rfl⟩
theorem d_M_get_10 : mD m_M_get 10 (.ldc2_w 102) 3 13 := ⟨by decide +kernel, rfl⟩
theorem d_M_get_13 : mD m_M_get 13 (.invokestatic 88) 3 16 := ⟨by decide +kernel, rfl⟩
theorem d_M_get_16 : mJ m_M_get 16 (.ifCond .eq 13) (13) 19 29 := ⟨by decide +kernel, rfl, rfl⟩
theorem d_M_get_19 : mD m_M_get 19 (.aload_n 0) 1 20 := ⟨by decide +kernel, rfl⟩
theorem d_M_get_20 : mD m_M_get 20 (.iload_n 1) 1 21 := ⟨by decide +kernel, rfl⟩
theorem d_M_get_21 : mD m_M_get 21 (.iload_n 2) 1 22 := ⟨by decide +kernel, rfl⟩
theorem d_M_get_22 : mD m_M_get 22 (.iload_n 3) 1 23 := ⟨by decide +kernel, rfl⟩
theorem d_M_get_23 : mD m_M_get 23 (.invokevirtual 108) 3 26 := ⟨by decide +kernel, rfl⟩
theorem d_M_get_26 : mJ m_M_get 26 (.ifCond .eq 6) (6) 29 32 := ⟨by decide +kernel, rfl, rfl⟩
theorem d_M_get_29 : mD m_M_get 29 (.ldc 116) 2 31 := ⟨by decide +kernel, rfl⟩
theorem d_M_get_31 : mD m_M_get 31 (.ireturn) 1 32 := ⟨by decide +kernel, rfl⟩
theorem d_M_get_32 : mD m_M_get 32 (.aload_n 0) 1 33 := ⟨by decide +kernel, rfl⟩
theorem d_M_get_33 : mD m_M_get 33 (.getfield 16) 3 36 := ⟨by decide +kernel, rfl⟩
theorem d_M_get_36 : mD m_M_get 36 (.bipush 60) 2 38 := ⟨by decide +kernel, rfl⟩
theorem d_M_get_38 : mD m_M_get 38 (.iload_n 1) 1 39 := ⟨by decide +kernel, rfl⟩
theorem d_M_get_39 : mD m_M_get 39 (.imul) 1 40 := ⟨by decide +kernel, rfl⟩
theorem d_M_get_40 : mD m_M_get 40 (.iload_n 3) 1 41 := ⟨by decide +kernel, rfl⟩
theorem d_M_get_41 : mD m_M_get 41 (.iadd) 1 42 := ⟨by decide +kernel, rfl⟩
theorem d_M_get_42 : mD m_M_get 42 (.iaload) 1 43 := ⟨by decide +kernel, rfl⟩
theorem d_M_get_43 : mD m_M_get 43 (.ireturn) 1 44 := ⟨by decide +kernel, rfl⟩
theorem d_M_goTogether_0 : mD m_M_goTogether 0 (.iload_n 1) 1 1 := ⟨by decide +kernel, rfl⟩
theorem d_M_goTogether_1 : mD m_M_goTogether 1 (.invokestatic 173) 3 4 := ⟨by decide +kernel, rfl⟩
theorem d_M_goTogether_4 : mD m_M_goTogether 4 (.aload_n 0) 1 5 := ⟨by decide +kernel, rfl⟩
theorem d_M_goTogether_5 : mD m_M_goTogether 5 (.getfield 37) 3 8 := ⟨by decide +kernel, rfl⟩
theorem d_M_goTogether_8 : mD m_M_goTogether 8 (.iconst 0) 1 9 := ⟨by decide +kernel, rfl⟩
theorem d_M_goTogether_9 : mD m_M_goTogether 9 (.iaload) 1 10 := ⟨by decide +kernel, rfl⟩
theorem d_M_goTogether_10 : mJ m_M_goTogether 10 (.if_icmp .gt 7) (7) 13 17 := ⟨by decide +kernel, rfl, rfl⟩
theorem d_M_goTogether_13 : mD m_M_goTogether 13 (.iconst 1) 1 14 := ⟨by decide +kernel, rfl⟩
theorem d_M_goTogether_14 : mJ m_M_goTogether 14 (.goto 4) (4) 17 18 := ⟨by decide +kernel, rfl, rfl⟩
theorem d_M_goTogether_17 : mD m_M_goTogether 17 (.iconst 0) 1 18 := ⟨by decide +kernel, rfl⟩
theorem d_M_goTogether_18 : mD m_M_goTogether 18 (.istore_n 2) 1 19 := ⟨by decide +kernel, rfl⟩
theorem d_M_goTogether_19 : mD m_M_goTogether 19 (.iconst 0) 1 20 := ⟨by decide +kernel, rfl⟩
theorem d_M_goTogether_20 : mD m_M_goTogether 20 (.istore_n 3) 1 21 := ⟨by decide +kernel, rfl⟩
theorem d_M_goTogether_21 : mD m_M_goTogether 21 (.iload_n 3) 1 22 := ⟨by decide +kernel, rfl⟩
theorem d_M_goTogether_22 : mD m_M_goTogether 22 (.aload_n 0) 1 23 := ⟨by decide +kernel, rfl⟩
theorem d_M_goTogether_23 : mD m_M_goTogether 23 (.getfield 125) 3 26 := ⟨by decide +kernel, rfl⟩
theorem d_M_goTogether_26 : mJ m_M_goTogether 26 (.if_icmp .ge 38) (38) 29 64 := ⟨by decide +kernel, rfl, rfl⟩
theorem d_M_goTogether_29 : mD m_M_goTogether 29 (.iload_n 2) 1 30 := ⟨by decide +kernel, rfl⟩
theorem d_M_goTogether_30 : mJ m_M_goTogether 30 (.ifCond .eq 26) (26) 33 56 := ⟨by decide +kernel, rfl, rfl⟩
theorem d_M_goTogether_33 : mD m_M_goTogether 33 (.iload_n 1) 1 34 := ⟨by decide +kernel, rfl⟩
theorem d_M_goTogether_34 : mD m_M_goTogether 34 (.iload_n 3) 1 35 := ⟨by decide +kernel, rfl⟩
theorem d_M_goTogether_35 : mD m_M_goTogether 35 (.invokestatic 177) 3 38 := ⟨by decide +kernel, rfl⟩
theorem d_M_goTogether_38 : mJ m_M_goTogether 38 (.ifCond .eq 14) (14) 41 52 := ⟨by decide +kernel, rfl, rfl⟩
theorem d_M_goTogether_41 : mD m_M_goTogether 41 (.aload_n 0) 1 42 := ⟨by decide +kernel, rfl⟩
theorem d_M_goTogether_42 : mD m_M_goTogether 42 (.getfield 40) 3 45 := ⟨by decide +kernel, rfl⟩
theorem d_M_goTogether_45 : mD m_M_goTogether 45 (.iload_n 3) 1 46 := ⟨by decide +kernel, rfl⟩
theorem d_M_goTogether_46 : mD m_M_goTogether 46 (.iaload) 1 47 := ⟨by decide +kernel, rfl⟩
theorem d_M_goTogether_47 : mD m_M_goTogether 47 (.iload_n 1) 1 48 := ⟨by decide +kernel, rfl⟩
theorem d_M_goTogether_48 : mD m_M_goTogether 48 (.iand) 1 49 := ⟨by decide +kernel, rfl⟩
theorem d_M_goTogether_49 : mJ m_M_goTogether 49 (.ifCond .ne 7) (7) 52 56 := ⟨by decide +kernel, rfl, rfl⟩
theorem d_M_goTogether_52 : mD m_M_goTogether 52 (.iconst 1) 1 53 := ⟨by decide +kernel, rfl⟩
theorem d_M_goTogether_53 : mJ m_M_goTogether 53 (.goto 4) (4) 56 57 := ⟨by decide +kernel, rfl, rfl⟩
theorem d_M_goTogether_56 : mD m_M_goTogether 56 (.iconst 0) 1 57 := ⟨by decide +kernel, rfl⟩
theorem d_M_goTogether_57 : mD m_M_goTogether 57 (.istore_n 2) 1 58 := ⟨by decide +kernel, rfl⟩
theorem d_M_goTogether_58 : mD m_M_goTogether 58 (.iinc 3 1) 3 61 := ⟨by decide +kernel, rfl⟩
theorem d_M_goTogether_61 : mJ m_M_goTogether 61 (.goto (-40)) (-40) 64 21 := ⟨by decide +kernel, rfl, rfl⟩
theorem d_M_goTogether_64 : mD m_M_goTogether 64 (.iload_n 2) 1 65 := ⟨by decide +kernel, rfl⟩
theorem d_M_goTogether_65 : mD m_M_goTogether 65 (.ireturn) 1 66 := ⟨by decide +kernel, rfl⟩
theorem d_M_goesOn_0 : mD m_M_goesOn 0 (.aload_n 0) 1 1 := ⟨by decide +kernel, rfl⟩
theorem d_M_goesOn_1 : mD m_M_goesOn 1 (.getfield 125) 3 4 := ⟨by decide +kernel, rfl⟩
theorem d_M_goesOn_4 : mD m_M_goesOn 4 (.iconst 1) 1 5 := ⟨by decide +kernel, rfl⟩
theorem d_M_goesOn_5 : mD m_M_goesOn 5 (.isub) 1 6 := ⟨by decide +kernel, rfl⟩
theorem d_M_goesOn_6 : mD m_M_goesOn 6 (.istore_n 1) 1 7 := ⟨by decide +kernel, rfl⟩
theorem d_M_goesOn_7 : mD m_M_goesOn 7 (.iconst 0) 1 8 := ⟨by decide +kernel, rfl⟩
theorem d_M_goesOn_8 : mD m_M_goesOn 8 (.istore_n 2) 1 9 := ⟨by decide +kernel, rfl⟩
theorem d_M_goesOn_9 : mD m_M_goesOn 9 (.iload_n 1) 1 10 := ⟨by decide +kernel, rfl⟩
theorem d_M_goesOn_10 : mJ m_M_goesOn 10 (.ifCond .le 93) (93) 13 103 := ⟨by decide +kernel, rfl, rfl⟩
theorem d_M_goesOn_13 : mD m_M_goesOn 13 (.iload_n 2) 1 14 := ⟨by decide +kernel, rfl⟩
theorem d_M_goesOn_14 : mJ m_M_goesOn 14 (.ifCond .ne 89) (89) 17 103 := ⟨by decide +kernel, rfl, rfl⟩
theorem d_M_goesOn_17 : mD m_M_goesOn 17 (.iconst 0) 1 18 := ⟨by decide +kernel, rfl⟩
theorem d_M_goesOn_18 : mD m_M_goesOn 18 (.istore_n 3) 1 19 := ⟨by decide +kernel, rfl⟩
theorem d_M_goesOn_19 : mD m_M_goesOn 19 (.iconst 0) 1 20 := ⟨by decide +kernel, rfl⟩
theorem d_M_goesOn_20 : mD m_M_goesOn 20 (.istore 4) 2 22 := ⟨by decide +kernel, rfl⟩
theorem d_M_goesOn_22 : mD m_M_goesOn 22 (.iload 4) 2 24 := ⟨by decide +kernel, rfl⟩
theorem d_M_goesOn_24 : mD m_M_goesOn 24 (.iload_n 1) 1 25 := ⟨by decide +kernel, rfl⟩
theorem d_M_goesOn_25 : mJ m_M_goesOn 25 (.if_icmp .ge 34) (34) 28 59 := ⟨by decide +kernel, rfl, rfl⟩
theorem d_M_goesOn_28 : mD m_M_goesOn 28 (.aload_n 0) 1 29 := ⟨by decide +kernel, rfl⟩
theorem d_M_goesOn_29 : mD m_M_goesOn 29 (.getfield 71) 3 32 := ⟨by decide +kernel, rfl⟩
theorem d_M_goesOn_32 : mD m_M_goesOn 32 (.iload 4) 2 34 := ⟨by decide +kernel, rfl⟩
theorem d_M_goesOn_34 : mD m_M_goesOn 34 (.iaload) 1 35 := ⟨by decide +kernel, rfl⟩
theorem d_M_goesOn_35 : mD m_M_goesOn 35 (.iload_n 3) 1 36 := ⟨by decide +kernel, rfl⟩
theorem d_M_goesOn_36 : mJ m_M_goesOn 36 (.if_icmp .lt 15) (15) 39 51 := ⟨by decide +kernel, rfl, rfl⟩
theorem d_M_goesOn_39 : mD m_M_goesOn 39 (.aload_n 0) 1 40 := ⟨by decide +kernel, rfl⟩
theorem d_M_goesOn_40 : mD m_M_goesOn 40 (.getfield 71) 3 43 := ⟨by decide +kernel, rfl⟩
theorem d_M_goesOn_43 : mD m_M_goesOn 43 (.iload 4) 2 45 := ⟨by decide +kernel, rfl⟩
theorem d_M_goesOn_45 : mD m_M_goesOn 45 (.iaload) 1 46 := ⟨by decide +kernel, rfl⟩
theorem d_M_goesOn_46 : mD m_M_goesOn 46 (.iconst 1) 1 47 := ⟨by decide +kernel, rfl⟩
theorem d_M_goesOn_47 : mD m_M_goesOn 47 (.iadd) 1 48 := ⟨by decide +kernel, rfl⟩
theorem d_M_goesOn_48 : mJ m_M_goesOn 48 (.goto 4) (4) 51 52 := ⟨by decide +kernel, rfl, rfl⟩
theorem d_M_goesOn_51 : mD m_M_goesOn 51 (.iload_n 3) 1 52 := ⟨by decide +kernel, rfl⟩
theorem d_M_goesOn_52 : mD m_M_goesOn 52 (.istore_n 3) 1 53 := ⟨by decide +kernel, rfl⟩
theorem d_M_goesOn_53 : mD m_M_goesOn 53 (.iinc 4 1) 3 56 := ⟨by decide +kernel, rfl⟩
theorem d_M_goesOn_56 : mJ m_M_goesOn 56 (.goto (-34)) (-34) 59 22 := ⟨by decide +kernel, rfl, rfl⟩
theorem d_M_goesOn_59 : mD m_M_goesOn 59 (.aload_n 0) 1 60 := ⟨by decide +kernel, rfl⟩
theorem d_M_goesOn_60 : mD m_M_goesOn 60 (.getfield 71) 3 63 := ⟨by decide +kernel, rfl⟩
theorem d_M_goesOn_63 : mD m_M_goesOn 63 (.iload_n 1) 1 64 := ⟨by decide +kernel, rfl⟩
theorem d_M_goesOn_64 : mD m_M_goesOn 64 (.iaload) 1 65 := ⟨by decide +kernel, rfl⟩
theorem d_M_goesOn_65 : mD m_M_goesOn 65 (.iload_n 3) 1 66 := ⟨by decide +kernel, rfl⟩
theorem d_M_goesOn_66 : mJ m_M_goesOn 66 (.if_icmp .ge 7) (7) 69 73 := ⟨by decide +kernel, rfl, rfl⟩
theorem d_M_goesOn_69 : mD m_M_goesOn 69 (.iconst 1) 1 70 := ⟨by decide +kernel, rfl⟩
theorem d_M_goesOn_70 : mJ m_M_goesOn 70 (.goto 4) (4) 73 74 := ⟨by decide +kernel, rfl, rfl⟩
theorem d_M_goesOn_73 : mD m_M_goesOn 73 (.iconst 0) 1 74 := ⟨by decide +kernel, rfl⟩
theorem d_M_goesOn_74 : mD m_M_goesOn 74 (.istore_n 2) 1 75 := ⟨by decide +kernel, rfl⟩
theorem d_M_goesOn_75 : mD m_M_goesOn 75 (.aload_n 0) 1 76 := ⟨by decide +kernel, rfl⟩
theorem d_M_goesOn_76 : mD m_M_goesOn 76 (.getfield 71) 3 79 := ⟨by decide +kernel, rfl⟩
theorem d_M_goesOn_79 : mD m_M_goesOn 79 (.iload_n 1) 1 80 := ⟨by decide +kernel, rfl⟩
theorem d_M_goesOn_80 : mD m_M_goesOn 80 (.iload_n 2) 1 81 := ⟨by decide +kernel, rfl⟩
theorem d_M_goesOn_81 : mJ m_M_goesOn 81 (.ifCond .eq 14) (14) 84 95 := ⟨by decide +kernel, rfl, rfl⟩
theorem d_M_goesOn_84 : mD m_M_goesOn 84 (.aload_n 0) 1 85 := ⟨by decide +kernel, rfl⟩
theorem d_M_goesOn_85 : mD m_M_goesOn 85 (.getfield 71) 3 88 := ⟨by decide +kernel, rfl⟩
theorem d_M_goesOn_88 : mD m_M_goesOn 88 (.iload_n 1) 1 89 := ⟨by decide +kernel, rfl⟩
theorem d_M_goesOn_89 : mD m_M_goesOn 89 (.iaload) 1 90 := ⟨by decide +kernel, rfl⟩
theorem d_M_goesOn_90 : mD m_M_goesOn 90 (.iconst 1) 1 91 := ⟨by decide +kernel, rfl⟩
theorem d_M_goesOn_91 : mD m_M_goesOn 91 (.iadd) 1 92 := ⟨by decide +kernel, rfl⟩
theorem d_M_goesOn_92 : mJ m_M_goesOn 92 (.goto 4) (4) 95 96 := ⟨by decide +kernel, rfl, rfl⟩
theorem d_M_goesOn_95 : mD m_M_goesOn 95 (.iconst 0) 1 96 := ⟨by decide +kernel, rfl⟩
theorem d_M_goesOn_96 : mD m_M_goesOn 96 (.iastore) 1 97 := ⟨by decide +kernel, rfl⟩
theorem d_M_goesOn_97 : mD m_M_goesOn 97 (.iinc 1 (-1)) 3 100 := ⟨by decide +kernel, rfl⟩
theorem d_M_goesOn_100 : mJ m_M_goesOn 100 (.goto (-91)) (-91) 103 9 := ⟨by decide +kernel, rfl, rfl⟩
theorem d_M_goesOn_103 : mD m_M_goesOn 103 (.iload_n 2) 1 104 := ⟨by decide +kernel, rfl⟩
theorem d_M_goesOn_104 : mD m_M_goesOn 104 (.ireturn) 1 105 := ⟨by decide +kernel, rfl⟩
theorem d_M_here_0 : mD m_M_here 0 (.aload_n 0) 1 1 := ⟨by decide +kernel, rfl⟩
theorem d_M_here_1 : mD m_M_here 1 (.getfield 122) 3 4 := ⟨by decide +kernel, rfl⟩
theorem d_M_here_4 : mD m_M_here 4 (.aload_n 0) 1 5 := ⟨by decide +kernel, rfl⟩
theorem d_M_here_5 : mD m_M_here 5 (.getfield 119) 3 8 := ⟨by decide +kernel, rfl⟩
theorem d_M_here_8 : mJ m_M_here 8 (.if_icmp .ge 15) (15) 11 23 := ⟨by decide +kernel, rfl, rfl⟩
theorem d_M_here_11 : mD m_M_here 11 (.aload_n 0) 1 12 := ⟨by decide +kernel, rfl⟩
theorem d_M_here_12 : mD m_M_here 12 (.getfield 22) 3 15 := ⟨by decide +kernel, rfl⟩
theorem d_M_here_15 : mD m_M_here 15 (.aload_n 0) 1 16 := ⟨by decide +kernel, rfl⟩
theorem d_M_here_16 : mD m_M_here 16 (.getfield 122) 3 19 := ⟨by decide +kernel, rfl⟩
theorem d_M_here_19 : mD m_M_here 19 (.iaload) 1 20 := ⟨by decide +kernel, rfl⟩
theorem d_M_here_20 : mJ m_M_here 20 (.goto 4) (4) 23 24 := ⟨by decide +kernel, rfl, rfl⟩
theorem d_M_here_23 : mD m_M_here 23 (.iconst (-1)) 1 24 := ⟨by decide +kernel, rfl⟩
theorem d_M_here_24 : mD m_M_here 24 (.ireturn) 1 25 := ⟨by decide +kernel, rfl⟩
theorem d_M_in_0 : mD m_M_in 0 (.lload_n 0) 1 1 := ⟨by decide +kernel, rfl⟩
theorem d_M_in_1 : mD m_M_in 1 (.lload_n 2) 1 2 := ⟨by decide +kernel, rfl⟩
theorem d_M_in_2 : mD m_M_in 2 (.lcmp) 1 3 := ⟨by decide +kernel, rfl⟩
theorem d_M_in_3 : mJ m_M_in 3 (.ifCond .lt 14) (14) 6 17 := ⟨by decide +kernel, rfl, rfl⟩
theorem d_M_in_6 : mD m_M_in 6 (.lload_n 0) 1 7 := ⟨by decide +kernel, rfl⟩
theorem d_M_in_7 : mD m_M_in 7 (.lload 4) 2 9 := ⟨by decide +kernel, rfl⟩
theorem d_M_in_9 : mD m_M_in 9 (.lcmp) 1 10 := ⟨by decide +kernel, rfl⟩
theorem d_M_in_10 : mJ m_M_in 10 (.ifCond .gt 7) (7) 13 17 := ⟨by decide +kernel, rfl, rfl⟩
theorem d_M_in_13 : mD m_M_in 13 (.iconst 1) 1 14 := ⟨by decide +kernel, rfl⟩
theorem d_M_in_14 : mJ m_M_in 14 (.goto 4) (4) 17 18 := ⟨by decide +kernel, rfl, rfl⟩
theorem d_M_in_17 : mD m_M_in 17 (.iconst 0) 1 18 := ⟨by decide +kernel, rfl⟩
theorem d_M_in_18 : mD m_M_in 18 (.ireturn) 1 19 := ⟨by decide +kernel, rfl⟩
theorem d_M_isIn_0 : mD m_M_isIn 0 (.iload_n 0) 1 1 := ⟨by decide +kernel, rfl⟩
theorem d_M_isIn_1 : mD m_M_isIn 1 (.iload_n 1) 1 2 := ⟨by decide +kernel, rfl⟩
theorem d_M_isIn_2 : mD m_M_isIn 2 (.ishr) 1 3 := ⟨by decide +kernel, rfl⟩
theorem d_M_isIn_3 : mD m_M_isIn 3 (.iconst 1) 1 4 := ⟨by decide +kernel, rfl⟩
theorem d_M_isIn_4 : mD m_M_isIn 4 (.iand) 1 5 := ⟨by decide +kernel, rfl⟩
theorem d_M_isIn_5 : mD m_M_isIn 5 (.iconst 1) 1 6 := ⟨by decide +kernel, rfl⟩
theorem d_M_isIn_6 : mJ m_M_isIn 6 (.if_icmp .ne 7) (7) 9 13 := ⟨by decide +kernel, rfl, rfl⟩
theorem d_M_isIn_9 : mD m_M_isIn 9 (.iconst 1) 1 10 := ⟨by decide +kernel, rfl⟩
theorem d_M_isIn_10 : mJ m_M_isIn 10 (.goto 4) (4) 13 14 := ⟨by decide +kernel, rfl, rfl⟩
theorem d_M_isIn_13 : mD m_M_isIn 13 (.iconst 0) 1 14 := ⟨by decide +kernel, rfl⟩
theorem d_M_isIn_14 : mD m_M_isIn 14 (.ireturn) 1 15 := ⟨by decide +kernel, rfl⟩
theorem d_M_isNumber_0 : mD m_M_isNumber 0 (.iload_n 0) 1 1 := ⟨by decide +kernel, rfl⟩
theorem d_M_isNumber_1 : mD m_M_isNumber 1 (.i2l) 1 2 := ⟨by decide +kernel, rfl⟩
theorem d_M_isNumber_2 : mD m_M_isNumber 2 (.lconst 0) 1 3 := ⟨by decide +kernel, rfl⟩
theorem d_M_isNumber_3 : mD m_M_isNumber 3 (.ldc2_w 146) 3 6 := ⟨by decide +kernel, rfl⟩
theorem d_M_isNumber_6 : mD m_M_isNumber 6 (.invokestatic 88) 3 9 := ⟨by decide +kernel, rfl⟩
theorem d_M_isNumber_9 : mD m_M_isNumber 9 (.ireturn) 1 10 := ⟨by decide +kernel, rfl⟩
theorem d_M_isPerson_0 : mD m_M_isPerson 0 (.aload_n 0) 1 1 := ⟨by decide +kernel, rfl⟩
theorem d_M_isPerson_1 : mD m_M_isPerson 1 (.invokevirtual 143) 3 4 := ⟨by decide +kernel, rfl⟩
theorem d_M_isPerson_4 : mD m_M_isPerson 4 (.pop) 1 5 := ⟨by decide +kernel, rfl⟩
theorem d_M_isPerson_5 : mD m_M_isPerson 5 (.iload_n 1) 1 6 := ⟨by decide +kernel, rfl⟩
theorem d_M_isPerson_6 : mD m_M_isPerson 6 (.i2l) 1 7 := ⟨by decide +kernel, rfl⟩
theorem d_M_isPerson_7 : mD m_M_isPerson 7 (.lconst 0) 1 8 := ⟨by decide +kernel, rfl⟩
theorem d_M_isPerson_8 : mD m_M_isPerson 8 (.aload_n 0) 1 9 := ⟨by decide +kernel, rfl⟩
theorem d_M_isPerson_9 : mD m_M_isPerson 9 (.getfield 125) 3 12 := ⟨by decide +kernel, rfl⟩
theorem d_M_isPerson_12 : mD m_M_isPerson 12 (.iconst 1) 1 13 := ⟨by decide +kernel, rfl⟩
theorem d_M_isPerson_13 : mD m_M_isPerson 13 (.isub) 1 14 := ⟨by decide +kernel, rfl⟩
theorem d_M_isPerson_14 : mD m_M_isPerson 14 (.i2l) 1 15 := ⟨by decide +kernel, rfl⟩
theorem d_M_isPerson_15 : mD m_M_isPerson 15 (.invokestatic 88) 3 18 := ⟨by decide +kernel, rfl⟩
theorem d_M_isPerson_18 : mD m_M_isPerson 18 (.ireturn) 1 19 := ⟨by decide +kernel, rfl⟩
theorem d_M_isSheet_0 : mD m_M_isSheet 0 (.iload_n 0) 1 1 := ⟨by decide +kernel, rfl⟩
theorem d_M_isSheet_1 : mD m_M_isSheet 1 (.i2l) 1 2 := ⟨by decide +kernel, rfl⟩
theorem d_M_isSheet_2 : mD m_M_isSheet 2 (.lconst 0) 1 3 := ⟨by decide +kernel, rfl⟩
theorem d_M_isSheet_3 : mD m_M_isSheet 3 (.ldc2_w 96) 3 6 := ⟨by decide +kernel, rfl⟩
theorem d_M_isSheet_6 : mD m_M_isSheet 6 (.invokestatic 88) 3 9 := ⟨by decide +kernel, rfl⟩
theorem d_M_isSheet_9 : mD m_M_isSheet 9 (.ireturn) 1 10 := ⟨by decide +kernel, rfl⟩
theorem d_M_isSo_0 : mD m_M_isSo 0 (.iconst 1) 1 1 := ⟨by decide +kernel, rfl⟩
theorem d_M_isSo_1 : mD m_M_isSo 1 (.istore_n 3) 1 2 := ⟨by decide +kernel, rfl⟩
theorem d_M_isSo_2 : mD m_M_isSo 2 (.iconst 0) 1 3 := ⟨by decide +kernel, rfl⟩
theorem d_M_isSo_3 : mD m_M_isSo 3 (.istore 4) 2 5 := ⟨by decide +kernel, rfl⟩
theorem d_M_isSo_5 : mD m_M_isSo 5 (.iload 4) 2 7 := ⟨by decide +kernel, rfl⟩
theorem d_M_isSo_7 : mD m_M_isSo 7 (.aload_n 0) 1 8 := ⟨by decide +kernel, rfl⟩
theorem d_M_isSo_8 : mD m_M_isSo 8 (.getfield 263) 3 11 := ⟨by decide +kernel, rfl⟩
theorem d_M_isSo_11 : mJ m_M_isSo 11 (.if_icmp .ge 121) (121) 14 132 := ⟨by decide +kernel, rfl, rfl⟩
theorem d_M_isSo_14 : mD m_M_isSo 14 (.aload_n 0) 1 15 := ⟨by decide +kernel, rfl⟩
theorem d_M_isSo_15 : mD m_M_isSo 15 (.getfield 80) 3 18 := ⟨by decide +kernel, rfl⟩
theorem d_M_isSo_18 : mD m_M_isSo 18 (.iconst 3) 1 19 := ⟨by decide +kernel, rfl⟩
theorem d_M_isSo_19 : mD m_M_isSo 19 (.iload 4) 2 21 := ⟨by decide +kernel, rfl⟩
theorem d_M_isSo_21 : mD m_M_isSo 21 (.imul) 1 22 := ⟨by decide +kernel, rfl⟩
theorem d_M_isSo_22 : mD m_M_isSo 22 (.iaload) 1 23 := ⟨by decide +kernel, rfl⟩
theorem d_M_isSo_23 : mD m_M_isSo 23 (.istore 5) 2 25 := ⟨by decide +kernel, rfl⟩
theorem d_M_isSo_25 : mD m_M_isSo 25 (.aload_n 0) 1 26 := ⟨by decide +kernel, rfl⟩
theorem d_M_isSo_26 : mD m_M_isSo 26 (.getfield 80) 3 29 := ⟨by decide +kernel, rfl⟩
theorem d_M_isSo_29 : mD m_M_isSo 29 (.iconst 3) 1 30 := ⟨by decide +kernel, rfl⟩
theorem d_M_isSo_30 : mD m_M_isSo 30 (.iload 4) 2 32 := ⟨by decide +kernel, rfl⟩
theorem d_M_isSo_32 : mD m_M_isSo 32 (.imul) 1 33 := ⟨by decide +kernel, rfl⟩
theorem d_M_isSo_33 : mD m_M_isSo 33 (.iconst 1) 1 34 := ⟨by decide +kernel, rfl⟩
theorem d_M_isSo_34 : mD m_M_isSo 34 (.iadd) 1 35 := ⟨by decide +kernel, rfl⟩
theorem d_M_isSo_35 : mD m_M_isSo 35 (.iaload) 1 36 := ⟨by decide +kernel, rfl⟩
theorem d_M_isSo_36 : mD m_M_isSo 36 (.istore 6) 2 38 := ⟨by decide +kernel, rfl⟩
theorem d_M_isSo_38 : mD m_M_isSo 38 (.iload 5) 2 40 := ⟨by decide +kernel, rfl⟩
theorem d_M_isSo_40 : mD m_M_isSo 40 (.iload_n 1) 1 41 := ⟨by decide +kernel, rfl⟩
theorem d_M_isSo_41 : mJ m_M_isSo 41 (.if_icmp .ne 12) (12) 44 53 := ⟨by decide +kernel, rfl, rfl⟩
theorem d_M_isSo_44 : mD m_M_isSo 44 (.iload 6) 2 46 := ⟨by decide +kernel, rfl⟩
theorem d_M_isSo_46 : mD m_M_isSo 46 (.aload_n 0) 1 47 := ⟨by decide +kernel, rfl⟩
theorem d_M_isSo_47 : mD m_M_isSo 47 (.getfield 125) 3 50 := ⟨by decide +kernel, rfl⟩
theorem d_M_isSo_50 : mJ m_M_isSo 50 (.if_icmp .lt 18) (18) 53 68 := ⟨by decide +kernel, rfl, rfl⟩
theorem d_M_isSo_53 : mD m_M_isSo 53 (.iload 6) 2 55 := ⟨by decide +kernel, rfl⟩
theorem d_M_isSo_55 : mD m_M_isSo 55 (.iload_n 1) 1 56 := ⟨by decide +kernel, rfl⟩
theorem d_M_isSo_56 : mJ m_M_isSo 56 (.if_icmp .ne 70) (70) 59 126 := ⟨by decide +kernel, rfl, rfl⟩
theorem d_M_isSo_59 : mD m_M_isSo 59 (.iload 5) 2 61 := ⟨by decide +kernel, rfl⟩
theorem d_M_isSo_61 : mD m_M_isSo 61 (.aload_n 0) 1 62 := ⟨by decide +kernel, rfl⟩
theorem d_M_isSo_62 : mD m_M_isSo 62 (.getfield 125) 3 65 := ⟨by decide +kernel, rfl⟩
theorem d_M_isSo_65 : mJ m_M_isSo 65 (.if_icmp .ge 61) (61) 68 126 := ⟨by decide +kernel, rfl, rfl⟩
theorem d_M_isSo_68 : mD m_M_isSo 68 (.iload_n 2) 1 69 := ⟨by decide +kernel, rfl⟩
theorem d_M_isSo_69 : mD m_M_isSo 69 (.aload_n 0) 1 70 := ⟨by decide +kernel, rfl⟩
theorem d_M_isSo_70 : mD m_M_isSo 70 (.iload 5) 2 72 := ⟨by decide +kernel, rfl⟩
theorem d_M_isSo_72 : mD m_M_isSo 72 (.iload_n 1) 1 73 := ⟨by decide +kernel, rfl⟩
theorem d_M_isSo_73 : mJ m_M_isSo 73 (.if_icmp .ne 8) (8) 76 81 := ⟨by decide +kernel, rfl, rfl⟩
theorem d_M_isSo_76 : mD m_M_isSo 76 (.iload 6) 2 78 := ⟨by decide +kernel, rfl⟩
theorem d_M_isSo_78 : mJ m_M_isSo 78 (.goto 5) (5) 81 83 := ⟨by decide +kernel, rfl, rfl⟩
theorem d_M_isSo_81 : mD m_M_isSo 81 (.iload 5) 2 83 := ⟨by decide +kernel, rfl⟩
theorem d_M_isSo_83 : mD m_M_isSo 83 (.invokevirtual 154) 3 86 := ⟨by decide +kernel, rfl⟩
theorem d_M_isSo_86 : mD m_M_isSo 86 (.isub) 1 87 := ⟨by decide +kernel, rfl⟩
theorem d_M_isSo_87 : mD m_M_isSo 87 (.istore 7) 2 89 := ⟨by decide +kernel, rfl⟩
theorem d_M_isSo_89 : mD m_M_isSo 89 (.iload_n 3) 1 90 := ⟨by decide +kernel, rfl⟩
theorem d_M_isSo_90 : mJ m_M_isSo 90 (.ifCond .eq 34) (34) 93 124 := ⟨by decide +kernel, rfl, rfl⟩
theorem d_M_isSo_93 : mD m_M_isSo 93 (.iload 7) 2 95 := ⟨by decide +kernel, rfl⟩
theorem d_M_isSo_95 : mJ m_M_isSo 95 (.ifCond .ge 9) (9) 98 104 := ⟨by decide +kernel, rfl, rfl⟩
theorem d_M_isSo_98 : mD m_M_isSo 98 (.iload 7) 2 100 := ⟨by decide +kernel, rfl⟩
theorem d_M_isSo_100 : mD m_M_isSo 100 (.ineg) 1 101 := ⟨by decide +kernel, rfl⟩
theorem d_M_isSo_101 : mJ m_M_isSo 101 (.goto 5) (5) 104 106 := ⟨by decide +kernel, rfl, rfl⟩
theorem d_M_isSo_104 : mD m_M_isSo 104 (.iload 7) 2 106 := ⟨by decide +kernel, rfl⟩
theorem d_M_isSo_106 : mD m_M_isSo 106 (.aload_n 0) 1 107 := ⟨by decide +kernel, rfl⟩
theorem d_M_isSo_107 : mD m_M_isSo 107 (.getfield 80) 3 110 := ⟨by decide +kernel, rfl⟩
theorem d_M_isSo_110 : mD m_M_isSo 110 (.iconst 3) 1 111 := ⟨by decide +kernel, rfl⟩
theorem d_M_isSo_111 : mD m_M_isSo 111 (.iload 4) 2 113 := ⟨by decide +kernel, rfl⟩
theorem d_M_isSo_113 : mD m_M_isSo 113 (.imul) 1 114 := ⟨by decide +kernel, rfl⟩
theorem d_M_isSo_114 : mD m_M_isSo 114 (.iconst 2) 1 115 := ⟨by decide +kernel, rfl⟩
theorem d_M_isSo_115 : mD m_M_isSo 115 (.iadd) 1 116 := ⟨by decide +kernel, rfl⟩
theorem d_M_isSo_116 : mD m_M_isSo 116 (.iaload) 1 117 := ⟨by decide +kernel, rfl⟩
theorem d_M_isSo_117 : mJ m_M_isSo 117 (.if_icmp .ne 7) (7) 120 124 := ⟨by decide +kernel, rfl, rfl⟩
theorem d_M_isSo_120 : mD m_M_isSo 120 (.iconst 1) 1 121 := ⟨by decide +kernel, rfl⟩
theorem d_M_isSo_121 : mJ m_M_isSo 121 (.goto 4) (4) 124 125 := ⟨by decide +kernel, rfl, rfl⟩
theorem d_M_isSo_124 : mD m_M_isSo 124 (.iconst 0) 1 125 := ⟨by decide +kernel, rfl⟩
theorem d_M_isSo_125 : mD m_M_isSo 125 (.istore_n 3) 1 126 := ⟨by decide +kernel, rfl⟩
theorem d_M_isSo_126 : mD m_M_isSo 126 (.iinc 4 1) 3 129 := ⟨by decide +kernel, rfl⟩
theorem d_M_isSo_129 : mJ m_M_isSo 129 (.goto (-124)) (-124) 132 5 := ⟨by decide +kernel, rfl, rfl⟩
theorem d_M_isSo_132 : mD m_M_isSo 132 (.iload_n 3) 1 133 := ⟨by decide +kernel, rfl⟩
theorem d_M_isSo_133 : mD m_M_isSo 133 (.ireturn) 1 134 := ⟨by decide +kernel, rfl⟩
theorem d_M_isTwo_0 : mD m_M_isTwo 0 (.iload_n 0) 1 1 := ⟨by decide +kernel, rfl⟩
theorem d_M_isTwo_1 : mD m_M_isTwo 1 (.i2l) 1 2 := ⟨by decide +kernel, rfl⟩
theorem d_M_isTwo_2 : mD m_M_isTwo 2 (.lconst 0) 1 3 := ⟨by decide +kernel, rfl⟩
theorem d_M_isTwo_3 : mD m_M_isTwo 3 (.lconst 1) 1 4 := ⟨by decide +kernel, rfl⟩
theorem d_M_isTwo_4 : mD m_M_isTwo 4 (.invokestatic 88) 3 7 := ⟨by decide +kernel, rfl⟩
theorem d_M_isTwo_7 : mD m_M_isTwo 7 (.ireturn) 1 8 := ⟨by decide +kernel, rfl⟩
theorem d_M_judged_0 : mD m_M_judged 0 (.aload_n 0) 1 1 := ⟨by decide +kernel, rfl⟩
theorem d_M_judged_1 : mD m_M_judged 1 (.iload_n 1) 1 2 := ⟨by decide +kernel, rfl⟩
theorem d_M_judged_2 : mD m_M_judged 2 (.invokevirtual 219) 3 5 := ⟨by decide +kernel, rfl⟩
theorem d_M_judged_5 : mD m_M_judged 5 (.istore_n 2) 1 6 := ⟨by decide +kernel, rfl⟩
theorem d_M_judged_6 : mD m_M_judged 6 (.iload_n 2) 1 7 := ⟨by decide +kernel, rfl⟩
theorem d_M_judged_7 : mJ m_M_judged 7 (.ifCond .eq 7) (7) 10 14 := ⟨by decide +kernel, rfl, rfl⟩
theorem d_M_judged_10 : mD m_M_judged 10 (.iload_n 2) 1 11 := ⟨by decide +kernel, rfl⟩
theorem d_M_judged_11 : mJ m_M_judged 11 (.goto 8) (8) 14 19 := ⟨by decide +kernel, rfl, rfl⟩
theorem d_M_judged_14 : mD m_M_judged 14 (.aload_n 0) 1 15 := ⟨by decide +kernel, rfl⟩
theorem d_M_judged_15 : mD m_M_judged 15 (.iload_n 1) 1 16 := ⟨by decide +kernel, rfl⟩
theorem d_M_judged_16 : mD m_M_judged 16 (.invokevirtual 222) 3 19 := ⟨by decide +kernel, rfl⟩
theorem d_M_judged_19 : mD m_M_judged 19 (.ireturn) 1 20 := ⟨by decide +kernel, rfl⟩
theorem d_M_judgedOf_0 : mD m_M_judgedOf 0 (.aload_n 0) 1 1 := ⟨by decide +kernel, rfl⟩
theorem d_M_judgedOf_1 : mD m_M_judgedOf 1 (.invokevirtual 201) 3 4 := ⟨by decide +kernel, rfl⟩
theorem d_M_judgedOf_4 : mD m_M_judgedOf 4 (.iconst 0) 1 5 := ⟨by decide +kernel, rfl⟩
theorem d_M_judgedOf_5 : mD m_M_judgedOf 5 (.istore_n 2) 1 6 := ⟨by decide +kernel, rfl⟩
theorem d_M_judgedOf_6 : mD m_M_judgedOf 6 (.iload_n 2) 1 7 := ⟨by decide +kernel, rfl⟩
theorem d_M_judgedOf_7 : mD m_M_judgedOf 7 (.aload_n 0) 1 8 := ⟨by decide +kernel, rfl⟩
theorem d_M_judgedOf_8 : mD m_M_judgedOf 8 (.getfield 125) 3 11 := ⟨by decide +kernel, rfl⟩
theorem d_M_judgedOf_11 : mJ m_M_judgedOf 11 (.if_icmp .ge 70) (70) 14 81 := ⟨by decide +kernel, rfl, rfl⟩
theorem d_M_judgedOf_14 : mD m_M_judgedOf 14 (.aload_n 0) 1 15 := ⟨by decide +kernel, rfl⟩
theorem d_M_judgedOf_15 : mD m_M_judgedOf 15 (.getfield 16) 3 18 := ⟨by decide +kernel, rfl⟩
theorem d_M_judgedOf_18 : mD m_M_judgedOf 18 (.bipush 60) 2 20 := ⟨by decide +kernel, rfl⟩
theorem d_M_judgedOf_20 : mD m_M_judgedOf 20 (.iload_n 1) 1 21 := ⟨by decide +kernel, rfl⟩
theorem d_M_judgedOf_21 : mD m_M_judgedOf 21 (.imul) 1 22 := ⟨by decide +kernel, rfl⟩
theorem d_M_judgedOf_22 : mD m_M_judgedOf 22 (.iload_n 2) 1 23 := ⟨by decide +kernel, rfl⟩
theorem d_M_judgedOf_23 : mD m_M_judgedOf 23 (.iadd) 1 24 := ⟨by decide +kernel, rfl⟩
theorem d_M_judgedOf_24 : mD m_M_judgedOf 24 (.iaload) 1 25 := ⟨by decide +kernel, rfl⟩
theorem d_M_judgedOf_25 : mD m_M_judgedOf 25 (.istore_n 3) 1 26 := ⟨by decide +kernel, rfl⟩
theorem d_M_judgedOf_26 : mD m_M_judgedOf 26 (.iload_n 3) 1 27 := ⟨by decide +kernel, rfl⟩
theorem d_M_judgedOf_27 : mD m_M_judgedOf 27 (.invokestatic 157) 3 30 := ⟨by decide +kernel, rfl⟩
theorem d_M_judgedOf_30 : mJ m_M_judgedOf 30 (.ifCond .ne 5) (5) 33 35 := ⟨by decide +kernel, rfl, rfl⟩
theorem d_M_judgedOf_33 : mD m_M_judgedOf 33 (.iload_n 2) 1 34 := ⟨by decide +kernel, rfl⟩
theorem d_M_judgedOf_34 : mD m_M_judgedOf 34 (.ireturn) 1 35 := ⟨by decide +kernel, rfl⟩
theorem d_M_judgedOf_35 : mD m_M_judgedOf 35 (.aload_n 0) 1 36 := ⟨by decide +kernel, rfl⟩
theorem d_M_judgedOf_36 : mD m_M_judgedOf 36 (.iload_n 1) 1 37 := ⟨by decide +kernel, rfl⟩
theorem d_M_judgedOf_37 : mD m_M_judgedOf 37 (.iload_n 3) 1 38 := ⟨by decide +kernel, rfl⟩
theorem d_M_judgedOf_38 : mD m_M_judgedOf 38 (.invokevirtual 216) 3 41 := ⟨by decide +kernel, rfl⟩
theorem d_M_judgedOf_41 : mD m_M_judgedOf 41 (.istore 4) 2 43 := ⟨by decide +kernel, rfl⟩
theorem d_M_judgedOf_43 : mD m_M_judgedOf 43 (.aload_n 0) 1 44 := ⟨by decide +kernel, rfl⟩
theorem d_M_judgedOf_44 : mD m_M_judgedOf 44 (.getfield 52) 3 47 := ⟨by decide +kernel, rfl⟩
theorem d_M_judgedOf_47 : mD m_M_judgedOf 47 (.iload 4) 2 49 := ⟨by decide +kernel, rfl⟩
theorem d_M_judgedOf_49 : mD m_M_judgedOf 49 (.baload) 1 50 := ⟨by decide +kernel, rfl⟩
theorem d_M_judgedOf_50 : mJ m_M_judgedOf 50 (.ifCond .eq 23) (23) 53 73 := ⟨by decide +kernel, rfl, rfl⟩
theorem d_M_judgedOf_53 : mD m_M_judgedOf 53 (.aload_n 0) 1 54 := ⟨by decide +kernel, rfl⟩
theorem d_M_judgedOf_54 : mD m_M_judgedOf 54 (.getfield 49) 3 57 := ⟨by decide +kernel, rfl⟩
theorem d_M_judgedOf_57 : mD m_M_judgedOf 57 (.iload 4) 2 59 := ⟨by decide +kernel, rfl⟩
theorem d_M_judgedOf_59 : mD m_M_judgedOf 59 (.iaload) 1 60 := ⟨by decide +kernel, rfl⟩
theorem d_M_judgedOf_60 : mD m_M_judgedOf 60 (.aload_n 0) 1 61 := ⟨by decide +kernel, rfl⟩
theorem d_M_judgedOf_61 : mD m_M_judgedOf 61 (.invokevirtual 184) 3 64 := ⟨by decide +kernel, rfl⟩
theorem d_M_judgedOf_64 : mD m_M_judgedOf 64 (.iand) 1 65 := ⟨by decide +kernel, rfl⟩
theorem d_M_judgedOf_65 : mD m_M_judgedOf 65 (.iload 4) 2 67 := ⟨by decide +kernel, rfl⟩
theorem d_M_judgedOf_67 : mD m_M_judgedOf 67 (.iconst (-1)) 1 68 := ⟨by decide +kernel, rfl⟩
theorem d_M_judgedOf_68 : mD m_M_judgedOf 68 (.ixor) 1 69 := ⟨by decide +kernel, rfl⟩
theorem d_M_judgedOf_69 : mD m_M_judgedOf 69 (.iand) 1 70 := ⟨by decide +kernel, rfl⟩
theorem d_M_judgedOf_70 : mJ m_M_judgedOf 70 (.ifCond .eq 5) (5) 73 75 := ⟨by decide +kernel, rfl, rfl⟩
theorem d_M_judgedOf_73 : mD m_M_judgedOf 73 (.iload_n 2) 1 74 := ⟨by decide +kernel, rfl⟩
theorem d_M_judgedOf_74 : mD m_M_judgedOf 74 (.ireturn) 1 75 := ⟨by decide +kernel, rfl⟩
theorem d_M_judgedOf_75 : mD m_M_judgedOf 75 (.iinc 2 1) 3 78 := ⟨by decide +kernel, rfl⟩
theorem d_M_judgedOf_78 : mJ m_M_judgedOf 78 (.goto (-72)) (-72) 81 6 := ⟨by decide +kernel, rfl, rfl⟩
theorem d_M_judgedOf_81 : mD m_M_judgedOf 81 (.iconst (-1)) 1 82 := ⟨by decide +kernel, rfl⟩
theorem d_M_judgedOf_82 : mD m_M_judgedOf 82 (.ireturn) 1 83 := ⟨by decide +kernel, rfl⟩
theorem d_M_keepsWay_0 : mD m_M_keepsWay 0 (.iconst 0) 1 1 := ⟨by decide +kernel, rfl⟩
theorem d_M_keepsWay_1 : mD m_M_keepsWay 1 (.istore_n 1) 1 2 := ⟨by decide +kernel, rfl⟩
theorem d_M_keepsWay_2 : mD m_M_keepsWay 2 (.iconst 0) 1 3 := ⟨by decide +kernel, rfl⟩
theorem d_M_keepsWay_3 : mD m_M_keepsWay 3 (.istore_n 2) 1 4 := ⟨by decide +kernel, rfl⟩
theorem d_M_keepsWay_4 : mD m_M_keepsWay 4 (.iconst 0) 1 5 := ⟨by decide +kernel, rfl⟩
theorem d_M_keepsWay_5 : mD m_M_keepsWay 5 (.istore_n 3) 1 6 := ⟨by decide +kernel, rfl⟩
theorem d_M_keepsWay_6 : mD m_M_keepsWay 6 (.iconst 0) 1 7 := ⟨by decide +kernel, rfl⟩
theorem d_M_keepsWay_7 : mD m_M_keepsWay 7 (.istore 4) 2 9 := ⟨by decide +kernel, rfl⟩
theorem d_M_keepsWay_9 : mD m_M_keepsWay 9 (.iload 4) 2 11 := ⟨by decide +kernel, rfl⟩
theorem d_M_keepsWay_11 : mD m_M_keepsWay 11 (.aload_n 0) 1 12 := ⟨by decide +kernel, rfl⟩
theorem d_M_keepsWay_12 : mD m_M_keepsWay 12 (.getfield 125) 3 15 := ⟨by decide +kernel, rfl⟩
theorem d_M_keepsWay_15 : mJ m_M_keepsWay 15 (.if_icmp .ge 101) (101) 18 116 := ⟨by decide +kernel, rfl, rfl⟩
theorem d_M_keepsWay_18 : mD m_M_keepsWay 18 (.iconst 0) 1 19 := ⟨by decide +kernel, rfl⟩
theorem d_M_keepsWay_19 : mD m_M_keepsWay 19 (.istore 5) 2 21 := ⟨by decide +kernel, rfl⟩
theorem d_M_keepsWay_21 : mD m_M_keepsWay 21 (.iconst 0) 1 22 := ⟨by decide +kernel, rfl⟩
theorem d_M_keepsWay_22 : mD m_M_keepsWay 22 (.istore 6) 2 24 := ⟨by decide +kernel, rfl⟩
theorem d_M_keepsWay_24 : mD m_M_keepsWay 24 (.iload 6) 2 26 := ⟨by decide +kernel, rfl⟩
theorem d_M_keepsWay_26 : mD m_M_keepsWay 26 (.aload_n 0) 1 27 := ⟨by decide +kernel, rfl⟩
theorem d_M_keepsWay_27 : mD m_M_keepsWay 27 (.getfield 125) 3 30 := ⟨by decide +kernel, rfl⟩
theorem d_M_keepsWay_30 : mJ m_M_keepsWay 30 (.if_icmp .ge 34) (34) 33 64 := ⟨by decide +kernel, rfl, rfl⟩
theorem d_M_keepsWay_33 : mD m_M_keepsWay 33 (.iload 5) 2 35 := ⟨by decide +kernel, rfl⟩
theorem d_M_keepsWay_35 : mD m_M_keepsWay 35 (.aload_n 0) 1 36 := ⟨by decide +kernel, rfl⟩
theorem d_M_keepsWay_36 : mD m_M_keepsWay 36 (.getfield 71) 3 39 := ⟨by decide +kernel, rfl⟩
theorem d_M_keepsWay_39 : mD m_M_keepsWay 39 (.iload 6) 2 41 := ⟨by decide +kernel, rfl⟩
theorem d_M_keepsWay_41 : mD m_M_keepsWay 41 (.iaload) 1 42 := ⟨by decide +kernel, rfl⟩
theorem d_M_keepsWay_42 : mD m_M_keepsWay 42 (.iload 4) 2 44 := ⟨by decide +kernel, rfl⟩
theorem d_M_keepsWay_44 : mJ m_M_keepsWay 44 (.if_icmp .ne 10) (10) 47 54 := ⟨by decide +kernel, rfl, rfl⟩
theorem d_M_keepsWay_47 : mD m_M_keepsWay 47 (.iconst 1) 1 48 := ⟨by decide +kernel, rfl⟩
theorem d_M_keepsWay_48 : mD m_M_keepsWay 48 (.iload 6) 2 50 := ⟨by decide +kernel, rfl⟩
theorem d_M_keepsWay_50 : mD m_M_keepsWay 50 (.ishl) 1 51 := ⟨by decide +kernel, rfl⟩
theorem d_M_keepsWay_51 : mJ m_M_keepsWay 51 (.goto 4) (4) 54 55 := ⟨by decide +kernel, rfl, rfl⟩
theorem d_M_keepsWay_54 : mD m_M_keepsWay 54 (.iconst 0) 1 55 := ⟨by decide +kernel, rfl⟩
theorem d_M_keepsWay_55 : mD m_M_keepsWay 55 (.ior) 1 56 := ⟨by decide +kernel, rfl⟩
theorem d_M_keepsWay_56 : mD m_M_keepsWay 56 (.istore 5) 2 58 := ⟨by decide +kernel, rfl⟩
theorem d_M_keepsWay_58 : mD m_M_keepsWay 58 (.iinc 6 1) 3 61 := ⟨by decide +kernel, rfl⟩
theorem d_M_keepsWay_61 : mJ m_M_keepsWay 61 (.goto (-37)) (-37) 64 24 := ⟨by decide +kernel, rfl, rfl⟩
theorem d_M_keepsWay_64 : mD m_M_keepsWay 64 (.iload 5) 2 66 := ⟨by decide +kernel, rfl⟩
theorem d_M_keepsWay_66 : mJ m_M_keepsWay 66 (.ifCond .eq 44) (44) 69 110 := ⟨by decide +kernel, rfl, rfl⟩
theorem d_M_keepsWay_69 : mD m_M_keepsWay 69 (.aload_n 0) 1 70 := ⟨by decide +kernel, rfl⟩
theorem d_M_keepsWay_70 : mD m_M_keepsWay 70 (.getfield 52) 3 73 := ⟨by decide +kernel, rfl⟩
theorem d_M_keepsWay_73 : mD m_M_keepsWay 73 (.iload 5) 2 75 := ⟨by decide +kernel, rfl⟩
theorem d_M_keepsWay_75 : mD m_M_keepsWay 75 (.baload) 1 76 := ⟨by decide +kernel, rfl⟩
theorem d_M_keepsWay_76 : mJ m_M_keepsWay 76 (.ifCond .eq 23) (23) 79 99 := ⟨by decide +kernel, rfl, rfl⟩
theorem d_M_keepsWay_79 : mD m_M_keepsWay 79 (.aload_n 0) 1 80 := ⟨by decide +kernel, rfl⟩
theorem d_M_keepsWay_80 : mD m_M_keepsWay 80 (.getfield 49) 3 83 := ⟨by decide +kernel, rfl⟩
theorem d_M_keepsWay_83 : mD m_M_keepsWay 83 (.iload 5) 2 85 := ⟨by decide +kernel, rfl⟩
theorem d_M_keepsWay_85 : mD m_M_keepsWay 85 (.iaload) 1 86 := ⟨by decide +kernel, rfl⟩
theorem d_M_keepsWay_86 : mD m_M_keepsWay 86 (.iload 5) 2 88 := ⟨by decide +kernel, rfl⟩
theorem d_M_keepsWay_88 : mD m_M_keepsWay 88 (.iconst (-1)) 1 89 := ⟨by decide +kernel, rfl⟩
theorem d_M_keepsWay_89 : mD m_M_keepsWay 89 (.ixor) 1 90 := ⟨by decide +kernel, rfl⟩
theorem d_M_keepsWay_90 : mD m_M_keepsWay 90 (.iand) 1 91 := ⟨by decide +kernel, rfl⟩
theorem d_M_keepsWay_91 : mD m_M_keepsWay 91 (.aload_n 0) 1 92 := ⟨by decide +kernel, rfl⟩
theorem d_M_keepsWay_92 : mD m_M_keepsWay 92 (.invokevirtual 184) 3 95 := ⟨by decide +kernel, rfl⟩
theorem d_M_keepsWay_95 : mD m_M_keepsWay 95 (.iand) 1 96 := ⟨by decide +kernel, rfl⟩
theorem d_M_keepsWay_96 : mJ m_M_keepsWay 96 (.ifCond .eq 4) (4) 99 100 := ⟨by decide +kernel, rfl, rfl⟩
theorem d_M_keepsWay_99 : mD m_M_keepsWay 99 (.return_) 1 100 := ⟨by decide +kernel, rfl⟩
theorem d_M_keepsWay_100 : mD m_M_keepsWay 100 (.iload_n 1) 1 101 := ⟨by decide +kernel, rfl⟩
theorem d_M_keepsWay_101 : mD m_M_keepsWay 101 (.aload_n 0) 1 102 := ⟨by decide +kernel, rfl⟩
theorem d_M_keepsWay_102 : mD m_M_keepsWay 102 (.getfield 46) 3 105 := ⟨by decide +kernel, rfl⟩
theorem d_M_keepsWay_105 : mD m_M_keepsWay 105 (.iload 5) 2 107 := ⟨by decide +kernel, rfl⟩
theorem d_M_keepsWay_107 : mD m_M_keepsWay 107 (.iaload) 1 108 := ⟨by decide +kernel, rfl⟩
theorem d_M_keepsWay_108 : mD m_M_keepsWay 108 (.iadd) 1 109 := ⟨by decide +kernel, rfl⟩
theorem d_M_keepsWay_109 : mD m_M_keepsWay 109 (.istore_n 1) 1 110 := ⟨by decide +kernel, rfl⟩
theorem d_M_keepsWay_110 : mD m_M_keepsWay 110 (.iinc 4 1) 3 113 := ⟨by decide +kernel, rfl⟩
theorem d_M_keepsWay_113 : mJ m_M_keepsWay 113 (.goto (-104)) (-104) 116 9 := ⟨by decide +kernel, rfl, rfl⟩
theorem d_M_keepsWay_116 : mD m_M_keepsWay 116 (.iconst 0) 1 117 := ⟨by decide +kernel, rfl⟩
theorem d_M_keepsWay_117 : mD m_M_keepsWay 117 (.istore 4) 2 119 := ⟨by decide +kernel, rfl⟩
theorem d_M_keepsWay_119 : mD m_M_keepsWay 119 (.iload 4) 2 121 := ⟨by decide +kernel, rfl⟩
theorem d_M_keepsWay_121 : mD m_M_keepsWay 121 (.aload_n 0) 1 122 := ⟨by decide +kernel, rfl⟩
theorem d_M_keepsWay_122 : mD m_M_keepsWay 122 (.getfield 125) 3 125 := ⟨by decide +kernel, rfl⟩
theorem d_M_keepsWay_125 : mJ m_M_keepsWay 125 (.if_icmp .ge 55) (55) 128 180 := ⟨by decide +kernel, rfl, rfl⟩
theorem d_M_keepsWay_128 : mD m_M_keepsWay 128 (.iconst 0) 1 129 := ⟨by decide +kernel, rfl⟩
theorem d_M_keepsWay_129 : mD m_M_keepsWay 129 (.istore 5) 2 131 := ⟨by decide +kernel, rfl⟩
theorem d_M_keepsWay_131 : mD m_M_keepsWay 131 (.iload 5) 2 133 := ⟨by decide +kernel, rfl⟩
theorem d_M_keepsWay_133 : mD m_M_keepsWay 133 (.iload 4) 2 135 := ⟨by decide +kernel, rfl⟩
theorem d_M_keepsWay_135 : mJ m_M_keepsWay 135 (.if_icmp .ge 39) (39) 138 174 := ⟨by decide +kernel, rfl, rfl⟩
theorem d_M_keepsWay_138 : mD m_M_keepsWay 138 (.iload_n 2) 1 139 := ⟨by decide +kernel, rfl⟩
theorem d_M_keepsWay_139 : mD m_M_keepsWay 139 (.aload_n 0) 1 140 := ⟨by decide +kernel, rfl⟩
theorem d_M_keepsWay_140 : mD m_M_keepsWay 140 (.getfield 71) 3 143 := ⟨by decide +kernel, rfl⟩
theorem d_M_keepsWay_143 : mD m_M_keepsWay 143 (.iload 4) 2 145 := ⟨by decide +kernel, rfl⟩
theorem d_M_keepsWay_145 : mD m_M_keepsWay 145 (.iaload) 1 146 := ⟨by decide +kernel, rfl⟩
theorem d_M_keepsWay_146 : mD m_M_keepsWay 146 (.aload_n 0) 1 147 := ⟨by decide +kernel, rfl⟩
theorem d_M_keepsWay_147 : mD m_M_keepsWay 147 (.getfield 71) 3 150 := ⟨by decide +kernel, rfl⟩
theorem d_M_keepsWay_150 : mD m_M_keepsWay 150 (.iload 5) 2 152 := ⟨by decide +kernel, rfl⟩
theorem d_M_keepsWay_152 : mD m_M_keepsWay 152 (.iaload) 1 153 := ⟨by decide +kernel, rfl⟩
theorem d_M_keepsWay_153 : mJ m_M_keepsWay 153 (.if_icmp .ne 9) (9) 156 162 := ⟨by decide +kernel, rfl, rfl⟩
theorem d_M_keepsWay_156 : mD m_M_keepsWay 156 (.iconst 1) 1 157 := ⟨by decide +kernel, rfl⟩
theorem d_M_keepsWay_157 : mD m_M_keepsWay 157 (.iload_n 3) 1 158 := ⟨by decide +kernel, rfl⟩
theorem d_M_keepsWay_158 : mD m_M_keepsWay 158 (.ishl) 1 159 := ⟨by decide +kernel, rfl⟩
theorem d_M_keepsWay_159 : mJ m_M_keepsWay 159 (.goto 4) (4) 162 163 := ⟨by decide +kernel, rfl, rfl⟩
theorem d_M_keepsWay_162 : mD m_M_keepsWay 162 (.iconst 0) 1 163 := ⟨by decide +kernel, rfl⟩
theorem d_M_keepsWay_163 : mD m_M_keepsWay 163 (.ior) 1 164 := ⟨by decide +kernel, rfl⟩
theorem d_M_keepsWay_164 : mD m_M_keepsWay 164 (.istore_n 2) 1 165 := ⟨by decide +kernel, rfl⟩
theorem d_M_keepsWay_165 : mD m_M_keepsWay 165 (.iinc 3 1) 3 168 := ⟨by decide +kernel, rfl⟩
theorem d_M_keepsWay_168 : mD m_M_keepsWay 168 (.iinc 5 1) 3 171 := ⟨by decide +kernel, rfl⟩
theorem d_M_keepsWay_171 : mJ m_M_keepsWay 171 (.goto (-40)) (-40) 174 131 := ⟨by decide +kernel, rfl, rfl⟩
theorem d_M_keepsWay_174 : mD m_M_keepsWay 174 (.iinc 4 1) 3 177 := ⟨by decide +kernel, rfl⟩
theorem d_M_keepsWay_177 : mJ m_M_keepsWay 177 (.goto (-58)) (-58) 180 119 := ⟨by decide +kernel, rfl, rfl⟩
theorem d_M_keepsWay_180 : mD m_M_keepsWay 180 (.aload_n 0) 1 181 := ⟨by decide +kernel, rfl⟩
theorem d_M_keepsWay_181 : mD m_M_keepsWay 181 (.getfield 74) 3 184 := ⟨by decide +kernel, rfl⟩
theorem d_M_keepsWay_184 : mD m_M_keepsWay 184 (.aload_n 0) 1 185 := ⟨by decide +kernel, rfl⟩
theorem d_M_keepsWay_185 : mD m_M_keepsWay 185 (.getfield 249) 3 188 := ⟨by decide +kernel, rfl⟩
theorem d_M_keepsWay_188 : mD m_M_keepsWay 188 (.iload_n 2) 1 189 := ⟨by decide +kernel, rfl⟩
theorem d_M_keepsWay_189 : mD m_M_keepsWay 189 (.iastore) 1 190 := ⟨by decide +kernel, rfl⟩
theorem d_M_keepsWay_190 : mD m_M_keepsWay 190 (.aload_n 0) 1 191 := ⟨by decide +kernel, rfl⟩
theorem d_M_keepsWay_191 : mD m_M_keepsWay 191 (.getfield 77) 3 194 := ⟨by decide +kernel, rfl⟩
theorem d_M_keepsWay_194 : mD m_M_keepsWay 194 (.aload_n 0) 1 195 := ⟨by decide +kernel, rfl⟩
theorem d_M_keepsWay_195 : mD m_M_keepsWay 195 (.getfield 249) 3 198 := ⟨by decide +kernel, rfl⟩
theorem d_M_keepsWay_198 : mD m_M_keepsWay 198 (.iload_n 1) 1 199 := ⟨by decide +kernel, rfl⟩
theorem d_M_keepsWay_199 : mD m_M_keepsWay 199 (.iastore) 1 200 := ⟨by decide +kernel, rfl⟩
theorem d_M_keepsWay_200 : mD m_M_keepsWay 200 (.aload_n 0) 1 201 := ⟨by decide +kernel, rfl⟩
theorem d_M_keepsWay_201 : mD m_M_keepsWay 201 (.dup) 1 202 := ⟨by decide +kernel, rfl⟩
theorem d_M_keepsWay_202 : mD m_M_keepsWay 202 (.getfield 249) 3 205 := ⟨by decide +kernel, rfl⟩
theorem d_M_keepsWay_205 : mD m_M_keepsWay 205 (.iconst 1) 1 206 := ⟨by decide +kernel, rfl⟩
theorem d_M_keepsWay_206 : mD m_M_keepsWay 206 (.iadd) 1 207 := ⟨by decide +kernel, rfl⟩
theorem d_M_keepsWay_207 : mD m_M_keepsWay 207 (.putfield 249) 3 210 := ⟨by decide +kernel, rfl⟩
theorem d_M_keepsWay_210 : mD m_M_keepsWay 210 (.return_) 1 211 := ⟨by decide +kernel, rfl⟩
theorem d_M_lacks_0 : mD m_M_lacks 0 (.aload_n 0) 1 1 := ⟨by decide +kernel, rfl⟩
theorem d_M_lacks_1 : mD m_M_lacks 1 (.getfield 7) 3 4 := ⟨by decide +kernel, rfl⟩
theorem d_M_lacks_4 : mD m_M_lacks 4 (.iload_n 1) 1 5 := ⟨by decide +kernel, rfl⟩
theorem d_M_lacks_5 : mD m_M_lacks 5 (.iaload) 1 6 := ⟨by decide +kernel, rfl⟩
theorem d_M_lacks_6 : mJ m_M_lacks 6 (.ifCond .ge 9) (9) 9 15 := ⟨by decide +kernel, rfl, rfl⟩
theorem d_M_lacks_9 : mD m_M_lacks 9 (.aload_n 0) 1 10 := ⟨by decide +kernel, rfl⟩
theorem d_M_lacks_10 : mD m_M_lacks 10 (.iconst 1) 1 11 := ⟨by decide +kernel, rfl⟩
theorem d_M_lacks_11 : mD m_M_lacks 11 (.invokevirtual 104) 3 14 := ⟨by decide +kernel, rfl⟩
theorem d_M_lacks_14 : mD m_M_lacks 14 (.ireturn) 1 15 := ⟨by decide +kernel, rfl⟩
theorem d_M_lacks_15 : mD m_M_lacks 15 (.aload_n 0) 1 16 := ⟨by decide +kernel, rfl⟩
theorem d_M_lacks_16 : mD m_M_lacks 16 (.getfield 7) 3 19 := ⟨by decide +kernel, rfl⟩
theorem d_M_lacks_19 : mD m_M_lacks 19 (.iload_n 1) 1 20 := ⟨by decide +kernel, rfl⟩
theorem d_M_lacks_20 : mD m_M_lacks 20 (.iaload) 1 21 := ⟨by decide +kernel, rfl⟩
theorem d_M_lacks_21 : mD m_M_lacks 21 (.iload_n 2) 1 22 := ⟨by decide +kernel, rfl⟩
theorem d_M_lacks_22 : mJ m_M_lacks 22 (.if_icmp .eq 9) (9) 25 31 := ⟨by decide +kernel, rfl, rfl⟩
theorem d_M_lacks_25 : mD m_M_lacks 25 (.aload_n 0) 1 26 := ⟨by decide +kernel, rfl⟩
theorem d_M_lacks_26 : mD m_M_lacks 26 (.iconst 3) 1 27 := ⟨by decide +kernel, rfl⟩
theorem d_M_lacks_27 : mD m_M_lacks 27 (.invokevirtual 104) 3 30 := ⟨by decide +kernel, rfl⟩
theorem d_M_lacks_30 : mD m_M_lacks 30 (.ireturn) 1 31 := ⟨by decide +kernel, rfl⟩
theorem d_M_lacks_31 : mD m_M_lacks 31 (.iload_n 3) 1 32 := ⟨by decide +kernel, rfl⟩
theorem d_M_lacks_32 : mD m_M_lacks 32 (.i2l) 1 33 := ⟨by decide +kernel, rfl⟩
theorem d_M_lacks_33 : mD m_M_lacks 33 (.lconst 0) 1 34 := ⟨by decide +kernel, rfl⟩
theorem d_M_lacks_34 : mD m_M_lacks 34 (.aload_n 0) 1 35 := ⟨by decide +kernel, rfl⟩
theorem d_M_lacks_35 : mD m_M_lacks 35 (.getfield 13) 3 38 := ⟨by decide +kernel, rfl⟩
theorem d_M_lacks_38 : mD m_M_lacks 38 (.iload_n 1) 1 39 := ⟨by decide +kernel, rfl⟩
theorem d_M_lacks_39 : mD m_M_lacks 39 (.iaload) 1 40 := ⟨by decide +kernel, rfl⟩
theorem d_M_lacks_40 : mD m_M_lacks 40 (.iconst 1) 1 41 := ⟨by decide +kernel, rfl⟩
theorem d_M_lacks_41 : mD m_M_lacks 41 (.isub) 1 42 := ⟨by decide +kernel, rfl⟩
theorem d_M_lacks_42 : mD m_M_lacks 42 (.i2l) 1 43 := ⟨by decide +kernel, rfl⟩
theorem d_M_lacks_43 : mD m_M_lacks 43 (.invokestatic 88) 3 46 := ⟨by decide +kernel, rfl⟩
theorem d_M_lacks_46 : mJ m_M_lacks 46 (.ifCond .eq 7) (7) 49 53 := ⟨by decide +kernel, rfl, rfl⟩
theorem d_M_lacks_49 : mD m_M_lacks 49 (.iconst 0) 1 50 := ⟨by decide +kernel, rfl⟩
theorem d_M_lacks_50 : mJ m_M_lacks 50 (.goto 8) (8) 53 58 := ⟨by decide +kernel, rfl, rfl⟩
theorem d_M_lacks_53 : mD m_M_lacks 53 (.aload_n 0) 1 54 := ⟨by decide +kernel, rfl⟩
theorem d_M_lacks_54 : mD m_M_lacks 54 (.iconst 2) 1 55 := ⟨by decide +kernel, rfl⟩
theorem d_M_lacks_55 : mD m_M_lacks 55 (.invokevirtual 104) 3 58 := ⟨by decide +kernel, rfl⟩
theorem d_M_lacks_58 : mD m_M_lacks 58 (.ireturn) 1 59 := ⟨by decide +kernel, rfl⟩
theorem d_M_lay_0 : mD m_M_lay 0 (.iload_n 1) 1 1 := ⟨by decide +kernel, rfl⟩
theorem d_M_lay_1 : mD m_M_lay 1 (.invokestatic 98) 3 4 := ⟨by decide +kernel, rfl⟩
theorem d_M_lay_4 : mJ m_M_lay 4 (.ifCond .eq 15) (15) 7 19 := ⟨by decide +kernel, rfl, rfl⟩
theorem d_M_lay_7 : mD m_M_lay 7 (.iload_n 2) 1 8 := ⟨by decide +kernel, rfl⟩
theorem d_M_lay_8 : mD m_M_lay 8 (.i2l) 1 9 := ⟨by decide +kernel, rfl⟩
theorem d_M_lay_9 : mD m_M_lay 9 (.lconst 0) 1 10 := ⟨by decide +kernel, rfl⟩
theorem d_M_lay_10 : mD m_M_lay 10 (.ldc2_w 102) 3 13 := ⟨by decide +kernel, rfl⟩
theorem d_M_lay_13 : mD m_M_lay 13 (.invokestatic 88) 3 16 := ⟨by decide +kernel, rfl⟩
theorem d_M_lay_16 : mJ m_M_lay 16 (.ifCond .ne 6) (6) 19 22 := ⟨by decide +kernel, rfl, rfl⟩
theorem d_M_lay_19 : mD m_M_lay 19 (.bipush (-2)) 2 21 := ⟨by decide +kernel, rfl⟩
theorem d_M_lay_21 : mD m_M_lay 21 (.ireturn) 1 22 := ⟨by decide +kernel, rfl⟩
theorem d_M_lay_22 : mD m_M_lay 22 (.aload_n 0) 1 23 := ⟨by decide +kernel, rfl⟩
theorem d_M_lay_23 : mD m_M_lay 23 (.iload_n 1) 1 24 := ⟨by decide +kernel, rfl⟩
theorem d_M_lay_24 : mD m_M_lay 24 (.iload_n 2) 1 25 := ⟨by decide +kernel, rfl⟩
theorem d_M_lay_25 : mD m_M_lay 25 (.iload_n 3) 1 26 := ⟨by decide +kernel, rfl⟩
theorem d_M_lay_26 : mD m_M_lay 26 (.invokevirtual 108) 3 29 := ⟨by decide +kernel, rfl⟩
theorem d_M_lay_29 : mD m_M_lay 29 (.istore 5) 2 31 := ⟨by decide +kernel, rfl⟩
theorem d_M_lay_31 : mD m_M_lay 31 (.iload 5) 2 33 := ⟨by decide +kernel, rfl⟩
theorem d_M_lay_33 : mJ m_M_lay 33 (.ifCond .eq 6) (6) 36 39 := ⟨by decide +kernel, rfl, rfl⟩
theorem d_M_lay_36 : mD m_M_lay 36 (.iload 5) 2 38 := ⟨by decide +kernel, rfl⟩
theorem d_M_lay_38 : mD m_M_lay 38 (.ireturn) 1 39 := ⟨by decide +kernel, rfl⟩
theorem d_M_lay_39 : mD m_M_lay 39 (.aload_n 0) 1 40 := ⟨by decide +kernel, rfl⟩
theorem d_M_lay_40 : mD m_M_lay 40 (.getfield 16) 3 43 := ⟨by decide +kernel, rfl⟩
theorem d_M_lay_43 : mD m_M_lay 43 (.bipush 60) 2 45 := ⟨by decide +kernel, rfl⟩
theorem d_M_lay_45 : mD m_M_lay 45 (.iload_n 1) 1 46 := ⟨by decide +kernel, rfl⟩
theorem d_M_lay_46 : mD m_M_lay 46 (.imul) 1 47 := ⟨by decide +kernel, rfl⟩
theorem d_M_lay_47 : mD m_M_lay 47 (.iload_n 3) 1 48 := ⟨by decide +kernel, rfl⟩
theorem d_M_lay_48 : mD m_M_lay 48 (.iadd) 1 49 := ⟨by decide +kernel, rfl⟩
theorem d_M_lay_49 : mD m_M_lay 49 (.iload_n 2) 1 50 := ⟨by decide +kernel, rfl⟩
theorem d_M_lay_50 : mD m_M_lay 50 (.iload 4) 2 52 := ⟨by decide +kernel, rfl⟩
theorem d_M_lay_52 : mD m_M_lay 52 (.invokestatic 112) 3 55 := ⟨by decide +kernel, rfl⟩
theorem d_M_lay_55 : mD m_M_lay 55 (.iastore) 1 56 := ⟨by decide +kernel, rfl⟩
theorem d_M_lay_56 : mD m_M_lay 56 (.iconst 1) 1 57 := ⟨by decide +kernel, rfl⟩
theorem d_M_lay_57 : mD m_M_lay 57 (.ireturn) 1 58 := ⟨by decide +kernel, rfl⟩
theorem d_M_lays_0 : mD m_M_lays 0 (.aload_n 0) 1 1 := ⟨by decide +kernel, rfl⟩
theorem d_M_lays_1 : mD m_M_lays 1 (.iload_n 1) 1 2 := ⟨by decide +kernel, rfl⟩
theorem d_M_lays_2 : mD m_M_lays 2 (.iaload) 1 3 := ⟨by decide +kernel, rfl⟩
theorem d_M_lays_3 : mD m_M_lays 3 (.iload_n 2) 1 4 := ⟨by decide +kernel, rfl⟩
theorem d_M_lays_4 : mD m_M_lays 4 (.ishr) 1 5 := ⟨by decide +kernel, rfl⟩
theorem d_M_lays_5 : mD m_M_lays 5 (.iconst 1) 1 6 := ⟨by decide +kernel, rfl⟩
theorem d_M_lays_6 : mD m_M_lays 6 (.iand) 1 7 := ⟨by decide +kernel, rfl⟩
theorem d_M_lays_7 : mD m_M_lays 7 (.istore 4) 2 9 := ⟨by decide +kernel, rfl⟩
theorem d_M_lays_9 : mD m_M_lays 9 (.aload_n 0) 1 10 := ⟨by decide +kernel, rfl⟩
theorem d_M_lays_10 : mD m_M_lays 10 (.iload_n 1) 1 11 := ⟨by decide +kernel, rfl⟩
theorem d_M_lays_11 : mD m_M_lays 11 (.aload_n 0) 1 12 := ⟨by decide +kernel, rfl⟩
theorem d_M_lays_12 : mD m_M_lays 12 (.iload_n 1) 1 13 := ⟨by decide +kernel, rfl⟩
theorem d_M_lays_13 : mD m_M_lays 13 (.iaload) 1 14 := ⟨by decide +kernel, rfl⟩
theorem d_M_lays_14 : mD m_M_lays 14 (.iconst 1) 1 15 := ⟨by decide +kernel, rfl⟩
theorem d_M_lays_15 : mD m_M_lays 15 (.iload_n 2) 1 16 := ⟨by decide +kernel, rfl⟩
theorem d_M_lays_16 : mD m_M_lays 16 (.ishl) 1 17 := ⟨by decide +kernel, rfl⟩
theorem d_M_lays_17 : mD m_M_lays 17 (.iconst (-1)) 1 18 := ⟨by decide +kernel, rfl⟩
theorem d_M_lays_18 : mD m_M_lays 18 (.ixor) 1 19 := ⟨by decide +kernel, rfl⟩
theorem d_M_lays_19 : mD m_M_lays 19 (.iand) 1 20 := ⟨by decide +kernel, rfl⟩
theorem d_M_lays_20 : mD m_M_lays 20 (.iload_n 3) 1 21 := ⟨by decide +kernel, rfl⟩
theorem d_M_lays_21 : mD m_M_lays 21 (.iload_n 2) 1 22 := ⟨by decide +kernel, rfl⟩
theorem d_M_lays_22 : mD m_M_lays 22 (.ishl) 1 23 := ⟨by decide +kernel, rfl⟩
theorem d_M_lays_23 : mD m_M_lays 23 (.ior) 1 24 := ⟨by decide +kernel, rfl⟩
theorem d_M_lays_24 : mD m_M_lays 24 (.iastore) 1 25 := ⟨by decide +kernel, rfl⟩
theorem d_M_lays_25 : mD m_M_lays 25 (.aload_n 0) 1 26 := ⟨by decide +kernel, rfl⟩
theorem d_M_lays_26 : mD m_M_lays 26 (.iload_n 2) 1 27 := ⟨by decide +kernel, rfl⟩
theorem d_M_lays_27 : mD m_M_lays 27 (.aload_n 0) 1 28 := ⟨by decide +kernel, rfl⟩
theorem d_M_lays_28 : mD m_M_lays 28 (.iload_n 2) 1 29 := ⟨by decide +kernel, rfl⟩
theorem d_M_lays_29 : mD m_M_lays 29 (.iaload) 1 30 := ⟨by decide +kernel, rfl⟩
theorem d_M_lays_30 : mD m_M_lays 30 (.iconst 1) 1 31 := ⟨by decide +kernel, rfl⟩
theorem d_M_lays_31 : mD m_M_lays 31 (.iload_n 1) 1 32 := ⟨by decide +kernel, rfl⟩
theorem d_M_lays_32 : mD m_M_lays 32 (.ishl) 1 33 := ⟨by decide +kernel, rfl⟩
theorem d_M_lays_33 : mD m_M_lays 33 (.iconst (-1)) 1 34 := ⟨by decide +kernel, rfl⟩
theorem d_M_lays_34 : mD m_M_lays 34 (.ixor) 1 35 := ⟨by decide +kernel, rfl⟩
theorem d_M_lays_35 : mD m_M_lays 35 (.iand) 1 36 := ⟨by decide +kernel, rfl⟩
theorem d_M_lays_36 : mD m_M_lays 36 (.iload_n 3) 1 37 := ⟨by decide +kernel, rfl⟩
theorem d_M_lays_37 : mD m_M_lays 37 (.iload_n 1) 1 38 := ⟨by decide +kernel, rfl⟩
theorem d_M_lays_38 : mD m_M_lays 38 (.ishl) 1 39 := ⟨by decide +kernel, rfl⟩
theorem d_M_lays_39 : mD m_M_lays 39 (.ior) 1 40 := ⟨by decide +kernel, rfl⟩
theorem d_M_lays_40 : mD m_M_lays 40 (.iastore) 1 41 := ⟨by decide +kernel, rfl⟩
theorem d_M_lays_41 : mD m_M_lays 41 (.iload 4) 2 43 := ⟨by decide +kernel, rfl⟩
theorem d_M_lays_43 : mD m_M_lays 43 (.ireturn) 1 44 := ⟨by decide +kernel, rfl⟩
theorem d_M_lie_0 : mD m_M_lie 0 (.iload_n 1) 1 1 := ⟨by decide +kernel, rfl⟩
theorem d_M_lie_1 : mD m_M_lie 1 (.invokestatic 157) 3 4 := ⟨by decide +kernel, rfl⟩
theorem d_M_lie_4 : mJ m_M_lie 4 (.ifCond .eq 17) (17) 7 21 := ⟨by decide +kernel, rfl, rfl⟩
theorem d_M_lie_7 : mD m_M_lie 7 (.iload_n 2) 1 8 := ⟨by decide +kernel, rfl⟩
theorem d_M_lie_8 : mD m_M_lie 8 (.i2l) 1 9 := ⟨by decide +kernel, rfl⟩
theorem d_M_lie_9 : mD m_M_lie 9 (.ldc2_w 162) 3 12 := ⟨by decide +kernel, rfl⟩
theorem d_M_lie_12 : mD m_M_lie 12 (.ldc2_w 164) 3 15 := ⟨by decide +kernel, rfl⟩
theorem d_M_lie_15 : mD m_M_lie 15 (.invokestatic 88) 3 18 := ⟨by decide +kernel, rfl⟩
theorem d_M_lie_18 : mJ m_M_lie 18 (.ifCond .ne 7) (7) 21 25 := ⟨by decide +kernel, rfl, rfl⟩
theorem d_M_lie_21 : mD m_M_lie 21 (.sipush (-1002)) 3 24 := ⟨by decide +kernel, rfl⟩
theorem d_M_lie_24 : mD m_M_lie 24 (.ireturn) 1 25 := ⟨by decide +kernel, rfl⟩
theorem d_M_lie_25 : mD m_M_lie 25 (.aload_n 0) 1 26 := ⟨by decide +kernel, rfl⟩
theorem d_M_lie_26 : mD m_M_lie 26 (.getfield 34) 3 29 := ⟨by decide +kernel, rfl⟩
theorem d_M_lie_29 : mD m_M_lie 29 (.iload_n 1) 1 30 := ⟨by decide +kernel, rfl⟩
theorem d_M_lie_30 : mD m_M_lie 30 (.iaload) 1 31 := ⟨by decide +kernel, rfl⟩
theorem d_M_lie_31 : mD m_M_lie 31 (.istore_n 3) 1 32 := ⟨by decide +kernel, rfl⟩
theorem d_M_lie_32 : mD m_M_lie 32 (.aload_n 0) 1 33 := ⟨by decide +kernel, rfl⟩
theorem d_M_lie_33 : mD m_M_lie 33 (.getfield 34) 3 36 := ⟨by decide +kernel, rfl⟩
theorem d_M_lie_36 : mD m_M_lie 36 (.iload_n 1) 1 37 := ⟨by decide +kernel, rfl⟩
theorem d_M_lie_37 : mD m_M_lie 37 (.iload_n 2) 1 38 := ⟨by decide +kernel, rfl⟩
theorem d_M_lie_38 : mD m_M_lie 38 (.iastore) 1 39 := ⟨by decide +kernel, rfl⟩
theorem d_M_lie_39 : mD m_M_lie 39 (.iload_n 3) 1 40 := ⟨by decide +kernel, rfl⟩
theorem d_M_lie_40 : mD m_M_lie 40 (.ireturn) 1 41 := ⟨by decide +kernel, rfl⟩
theorem d_M_lies_0 : mD m_M_lies 0 (.aload_n 0) 1 1 := ⟨by decide +kernel, rfl⟩
theorem d_M_lies_1 : mD m_M_lies 1 (.iload_n 1) 1 2 := ⟨by decide +kernel, rfl⟩
theorem d_M_lies_2 : mD m_M_lies 2 (.invokevirtual 148) 3 5 := ⟨by decide +kernel, rfl⟩
theorem d_M_lies_5 : mJ m_M_lies 5 (.ifCond .eq 24) (24) 8 29 := ⟨by decide +kernel, rfl, rfl⟩
theorem d_M_lies_8 : mD m_M_lies 8 (.iload_n 2) 1 9 := ⟨by decide +kernel, rfl⟩
theorem d_M_lies_9 : mD m_M_lies 9 (.i2l) 1 10 := ⟨by decide +kernel, rfl⟩
theorem d_M_lies_10 : mD m_M_lies 10 (.lconst 0) 1 11 := ⟨by decide +kernel, rfl⟩
theorem d_M_lies_11 : mD m_M_lies 11 (.ldc2_w 164) 3 14 := ⟨by decide +kernel, rfl⟩
theorem d_M_lies_14 : mD m_M_lies 14 (.invokestatic 88) 3 17 := ⟨by decide +kernel, rfl⟩
theorem d_M_lies_17 : mJ m_M_lies 17 (.ifCond .eq 12) (12) 20 29 := ⟨by decide +kernel, rfl, rfl⟩
theorem d_M_lies_20 : mD m_M_lies 20 (.aload_n 0) 1 21 := ⟨by decide +kernel, rfl⟩
theorem d_M_lies_21 : mD m_M_lies 21 (.iload_n 1) 1 22 := ⟨by decide +kernel, rfl⟩
theorem d_M_lies_22 : mD m_M_lies 22 (.iload_n 2) 1 23 := ⟨by decide +kernel, rfl⟩
theorem d_M_lies_23 : mD m_M_lies 23 (.invokevirtual 246) 3 26 := ⟨by decide +kernel, rfl⟩
theorem d_M_lies_26 : mJ m_M_lies 26 (.goto 6) (6) 29 32 := ⟨by decide +kernel, rfl, rfl⟩
theorem d_M_lies_29 : mD m_M_lies 29 (.sipush (-1002)) 3 32 := ⟨by decide +kernel, rfl⟩
theorem d_M_lies_32 : mD m_M_lies 32 (.ireturn) 1 33 := ⟨by decide +kernel, rfl⟩
theorem d_M_liesOf_0 : mD m_M_liesOf 0 (.aload_n 0) 1 1 := ⟨by decide +kernel, rfl⟩
theorem d_M_liesOf_1 : mD m_M_liesOf 1 (.getfield 34) 3 4 := ⟨by decide +kernel, rfl⟩
theorem d_M_liesOf_4 : mD m_M_liesOf 4 (.iload_n 1) 1 5 := ⟨by decide +kernel, rfl⟩
theorem d_M_liesOf_5 : mD m_M_liesOf 5 (.iaload) 1 6 := ⟨by decide +kernel, rfl⟩
theorem d_M_liesOf_6 : mD m_M_liesOf 6 (.istore_n 3) 1 7 := ⟨by decide +kernel, rfl⟩
theorem d_M_liesOf_7 : mD m_M_liesOf 7 (.iconst 0) 1 8 := ⟨by decide +kernel, rfl⟩
theorem d_M_liesOf_8 : mD m_M_liesOf 8 (.istore 4) 2 10 := ⟨by decide +kernel, rfl⟩
theorem d_M_liesOf_10 : mD m_M_liesOf 10 (.iconst 0) 1 11 := ⟨by decide +kernel, rfl⟩
theorem d_M_liesOf_11 : mD m_M_liesOf 11 (.istore 5) 2 13 := ⟨by decide +kernel, rfl⟩
theorem d_M_liesOf_13 : mD m_M_liesOf 13 (.iconst 0) 1 14 := ⟨by decide +kernel, rfl⟩
theorem d_M_liesOf_14 : mD m_M_liesOf 14 (.istore 6) 2 16 := ⟨by decide +kernel, rfl⟩
theorem d_M_liesOf_16 : mD m_M_liesOf 16 (.iconst 0) 1 17 := ⟨by decide +kernel, rfl⟩
theorem d_M_liesOf_17 : mD m_M_liesOf 17 (.istore 7) 2 19 := ⟨by decide +kernel, rfl⟩
theorem d_M_liesOf_19 : mD m_M_liesOf 19 (.iload 7) 2 21 := ⟨by decide +kernel, rfl⟩
theorem d_M_liesOf_21 : mD m_M_liesOf 21 (.iconst 2) 1 22 := ⟨by decide +kernel, rfl⟩
theorem d_M_liesOf_22 : mD m_M_liesOf 22 (.iload_n 2) 1 23 := ⟨by decide +kernel, rfl⟩
theorem d_M_liesOf_23 : mD m_M_liesOf 23 (.imul) 1 24 := ⟨by decide +kernel, rfl⟩
theorem d_M_liesOf_24 : mJ m_M_liesOf 24 (.if_icmp .gt 111) (111) 27 135 := ⟨by decide +kernel, rfl, rfl⟩
theorem d_M_liesOf_27 : mD m_M_liesOf 27 (.aload_n 0) 1 28 := ⟨by decide +kernel, rfl⟩
theorem d_M_liesOf_28 : mD m_M_liesOf 28 (.getfield 34) 3 31 := ⟨by decide +kernel, rfl⟩
theorem d_M_liesOf_31 : mD m_M_liesOf 31 (.iload_n 1) 1 32 := ⟨by decide +kernel, rfl⟩
theorem d_M_liesOf_32 : mD m_M_liesOf 32 (.iload 7) 2 34 := ⟨by decide +kernel, rfl⟩
theorem d_M_liesOf_34 : mD m_M_liesOf 34 (.iconst 2) 1 35 := ⟨by decide +kernel, rfl⟩
theorem d_M_liesOf_35 : mD m_M_liesOf 35 (.irem) 1 36 := ⟨by decide +kernel, rfl⟩
theorem d_M_liesOf_36 : mD m_M_liesOf 36 (.iconst 1) 1 37 := ⟨by decide +kernel, rfl⟩
theorem d_M_liesOf_37 : mJ m_M_liesOf 37 (.if_icmp .ne 13) (13) 40 50 := ⟨by decide +kernel, rfl, rfl⟩
theorem d_M_liesOf_40 : mD m_M_liesOf 40 (.iload 7) 2 42 := ⟨by decide +kernel, rfl⟩
theorem d_M_liesOf_42 : mD m_M_liesOf 42 (.iconst 1) 1 43 := ⟨by decide +kernel, rfl⟩
theorem d_M_liesOf_43 : mD m_M_liesOf 43 (.iadd) 1 44 := ⟨by decide +kernel, rfl⟩
theorem d_M_liesOf_44 : mD m_M_liesOf 44 (.ineg) 1 45 := ⟨by decide +kernel, rfl⟩
theorem d_M_liesOf_45 : mD m_M_liesOf 45 (.iconst 2) 1 46 := ⟨by decide +kernel, rfl⟩
theorem d_M_liesOf_46 : mD m_M_liesOf 46 (.idiv) 1 47 := ⟨by decide +kernel, rfl⟩
theorem d_M_liesOf_47 : mJ m_M_liesOf 47 (.goto 7) (7) 50 54 := ⟨by decide +kernel, rfl, rfl⟩
theorem d_M_liesOf_50 : mD m_M_liesOf 50 (.iload 7) 2 52 := ⟨by decide +kernel, rfl⟩
theorem d_M_liesOf_52 : mD m_M_liesOf 52 (.iconst 2) 1 53 := ⟨by decide +kernel, rfl⟩
theorem d_M_liesOf_53 : mD m_M_liesOf 53 (.idiv) 1 54 := ⟨by decide +kernel, rfl⟩
theorem d_M_liesOf_54 : mD m_M_liesOf 54 (.iastore) 1 55 := ⟨by decide +kernel, rfl⟩
theorem d_M_liesOf_55 : mD m_M_liesOf 55 (.aload_n 0) 1 56 := ⟨by decide +kernel, rfl⟩
theorem d_M_liesOf_56 : mD m_M_liesOf 56 (.invokevirtual 201) 3 59 := ⟨by decide +kernel, rfl⟩
theorem d_M_liesOf_59 : mD m_M_liesOf 59 (.aload_n 0) 1 60 := ⟨by decide +kernel, rfl⟩
theorem d_M_liesOf_60 : mD m_M_liesOf 60 (.aload_n 0) 1 61 := ⟨by decide +kernel, rfl⟩
theorem d_M_liesOf_61 : mD m_M_liesOf 61 (.invokevirtual 184) 3 64 := ⟨by decide +kernel, rfl⟩
theorem d_M_liesOf_64 : mD m_M_liesOf 64 (.invokevirtual 197) 3 67 := ⟨by decide +kernel, rfl⟩
theorem d_M_liesOf_67 : mD m_M_liesOf 67 (.aload_n 0) 1 68 := ⟨by decide +kernel, rfl⟩
theorem d_M_liesOf_68 : mD m_M_liesOf 68 (.iload_n 1) 1 69 := ⟨by decide +kernel, rfl⟩
theorem d_M_liesOf_69 : mD m_M_liesOf 69 (.invokevirtual 207) 3 72 := ⟨by decide +kernel, rfl⟩
theorem d_M_liesOf_72 : mD m_M_liesOf 72 (.istore 8) 2 74 := ⟨by decide +kernel, rfl⟩
theorem d_M_liesOf_74 : mD m_M_liesOf 74 (.iload 8) 2 76 := ⟨by decide +kernel, rfl⟩
theorem d_M_liesOf_76 : mJ m_M_liesOf 76 (.ifCond .eq 53) (53) 79 129 := ⟨by decide +kernel, rfl, rfl⟩
theorem d_M_liesOf_79 : mD m_M_liesOf 79 (.iload 6) 2 81 := ⟨by decide +kernel, rfl⟩
theorem d_M_liesOf_81 : mJ m_M_liesOf 81 (.ifCond .eq 24) (24) 84 105 := ⟨by decide +kernel, rfl, rfl⟩
theorem d_M_liesOf_84 : mD m_M_liesOf 84 (.aload_n 0) 1 85 := ⟨by decide +kernel, rfl⟩
theorem d_M_liesOf_85 : mD m_M_liesOf 85 (.getfield 46) 3 88 := ⟨by decide +kernel, rfl⟩
theorem d_M_liesOf_88 : mD m_M_liesOf 88 (.iload 8) 2 90 := ⟨by decide +kernel, rfl⟩
theorem d_M_liesOf_90 : mD m_M_liesOf 90 (.iaload) 1 91 := ⟨by decide +kernel, rfl⟩
theorem d_M_liesOf_91 : mD m_M_liesOf 91 (.iload 6) 2 93 := ⟨by decide +kernel, rfl⟩
theorem d_M_liesOf_93 : mD m_M_liesOf 93 (.imul) 1 94 := ⟨by decide +kernel, rfl⟩
theorem d_M_liesOf_94 : mD m_M_liesOf 94 (.iload 5) 2 96 := ⟨by decide +kernel, rfl⟩
theorem d_M_liesOf_96 : mD m_M_liesOf 96 (.iload 8) 2 98 := ⟨by decide +kernel, rfl⟩
theorem d_M_liesOf_98 : mD m_M_liesOf 98 (.invokestatic 173) 3 101 := ⟨by decide +kernel, rfl⟩
theorem d_M_liesOf_101 : mD m_M_liesOf 101 (.imul) 1 102 := ⟨by decide +kernel, rfl⟩
theorem d_M_liesOf_102 : mJ m_M_liesOf 102 (.if_icmp .ge 27) (27) 105 129 := ⟨by decide +kernel, rfl, rfl⟩
theorem d_M_liesOf_105 : mD m_M_liesOf 105 (.aload_n 0) 1 106 := ⟨by decide +kernel, rfl⟩
theorem d_M_liesOf_106 : mD m_M_liesOf 106 (.getfield 34) 3 109 := ⟨by decide +kernel, rfl⟩
theorem d_M_liesOf_109 : mD m_M_liesOf 109 (.iload_n 1) 1 110 := ⟨by decide +kernel, rfl⟩
theorem d_M_liesOf_110 : mD m_M_liesOf 110 (.iaload) 1 111 := ⟨by decide +kernel, rfl⟩
theorem d_M_liesOf_111 : mD m_M_liesOf 111 (.istore 4) 2 113 := ⟨by decide +kernel, rfl⟩
theorem d_M_liesOf_113 : mD m_M_liesOf 113 (.aload_n 0) 1 114 := ⟨by decide +kernel, rfl⟩
theorem d_M_liesOf_114 : mD m_M_liesOf 114 (.getfield 46) 3 117 := ⟨by decide +kernel, rfl⟩
theorem d_M_liesOf_117 : mD m_M_liesOf 117 (.iload 8) 2 119 := ⟨by decide +kernel, rfl⟩
theorem d_M_liesOf_119 : mD m_M_liesOf 119 (.iaload) 1 120 := ⟨by decide +kernel, rfl⟩
theorem d_M_liesOf_120 : mD m_M_liesOf 120 (.istore 5) 2 122 := ⟨by decide +kernel, rfl⟩
theorem d_M_liesOf_122 : mD m_M_liesOf 122 (.iload 8) 2 124 := ⟨by decide +kernel, rfl⟩
theorem d_M_liesOf_124 : mD m_M_liesOf 124 (.invokestatic 173) 3 127 := ⟨by decide +kernel, rfl⟩
theorem d_M_liesOf_127 : mD m_M_liesOf 127 (.istore 6) 2 129 := ⟨by decide +kernel, rfl⟩
theorem d_M_liesOf_129 : mD m_M_liesOf 129 (.iinc 7 1) 3 132 := ⟨by decide +kernel, rfl⟩
theorem d_M_liesOf_132 : mJ m_M_liesOf 132 (.goto (-113)) (-113) 135 19 := ⟨by decide +kernel, rfl, rfl⟩
theorem d_M_liesOf_135 : mD m_M_liesOf 135 (.aload_n 0) 1 136 := ⟨by decide +kernel, rfl⟩
theorem d_M_liesOf_136 : mD m_M_liesOf 136 (.getfield 34) 3 139 := ⟨by decide +kernel, rfl⟩
theorem d_M_liesOf_139 : mD m_M_liesOf 139 (.iload_n 1) 1 140 := ⟨by decide +kernel, rfl⟩
theorem d_M_liesOf_140 : mD m_M_liesOf 140 (.iload_n 3) 1 141 := ⟨by decide +kernel, rfl⟩
theorem d_M_liesOf_141 : mD m_M_liesOf 141 (.iastore) 1 142 := ⟨by decide +kernel, rfl⟩
theorem d_M_liesOf_142 : mD m_M_liesOf 142 (.iload 6) 2 144 := ⟨by decide +kernel, rfl⟩
theorem d_M_liesOf_144 : mJ m_M_liesOf 144 (.ifCond .ne 9) (9) 147 153 := ⟨by decide +kernel, rfl, rfl⟩
theorem d_M_liesOf_147 : mD m_M_liesOf 147 (.sipush (-1003)) 3 150 := ⟨by decide +kernel, rfl⟩
theorem d_M_liesOf_150 : mJ m_M_liesOf 150 (.goto 5) (5) 153 155 := ⟨by decide +kernel, rfl, rfl⟩
theorem d_M_liesOf_153 : mD m_M_liesOf 153 (.iload 4) 2 155 := ⟨by decide +kernel, rfl⟩
theorem d_M_liesOf_155 : mD m_M_liesOf 155 (.ireturn) 1 156 := ⟨by decide +kernel, rfl⟩
theorem d_M_lose_0 : mD m_M_lose 0 (.iload_n 1) 1 1 := ⟨by decide +kernel, rfl⟩
theorem d_M_lose_1 : mD m_M_lose 1 (.invokestatic 98) 3 4 := ⟨by decide +kernel, rfl⟩
theorem d_M_lose_4 : mJ m_M_lose 4 (.ifCond .ne 6) (6) 7 10 := ⟨by decide +kernel, rfl, rfl⟩
theorem d_M_lose_7 : mD m_M_lose 7 (.bipush (-2)) 2 9 := ⟨by decide +kernel, rfl⟩
theorem d_M_lose_9 : mD m_M_lose 9 (.ireturn) 1 10 := ⟨by decide +kernel, rfl⟩
theorem d_M_lose_10 : mD m_M_lose 10 (.aload_n 0) 1 11 := ⟨by decide +kernel, rfl⟩
theorem d_M_lose_11 : mD m_M_lose 11 (.getfield 7) 3 14 := ⟨by decide +kernel, rfl⟩
theorem d_M_lose_14 : mD m_M_lose 14 (.iload_n 1) 1 15 := ⟨by decide +kernel, rfl⟩
theorem d_M_lose_15 : mD m_M_lose 15 (.iaload) 1 16 := ⟨by decide +kernel, rfl⟩
theorem d_M_lose_16 : mJ m_M_lose 16 (.ifCond .ge 9) (9) 19 25 := ⟨by decide +kernel, rfl, rfl⟩
theorem d_M_lose_19 : mD m_M_lose 19 (.aload_n 0) 1 20 := ⟨by decide +kernel, rfl⟩
theorem d_M_lose_20 : mD m_M_lose 20 (.iconst 1) 1 21 := ⟨by decide +kernel, rfl⟩
theorem d_M_lose_21 : mD m_M_lose 21 (.invokevirtual 104) 3 24 := ⟨by decide +kernel, rfl⟩
theorem d_M_lose_24 : mD m_M_lose 24 (.ireturn) 1 25 := ⟨by decide +kernel, rfl⟩
theorem d_M_lose_25 : mD m_M_lose 25 (.aload_n 0) 1 26 := ⟨by decide +kernel, rfl⟩
theorem d_M_lose_26 : mD m_M_lose 26 (.getfield 7) 3 29 := ⟨by decide +kernel, rfl⟩
theorem d_M_lose_29 : mD m_M_lose 29 (.iload_n 1) 1 30 := ⟨by decide +kernel, rfl⟩
theorem d_M_lose_30 : mD m_M_lose 30 (.iconst (-1)) 1 31 := ⟨by decide +kernel, rfl⟩
theorem d_M_lose_31 : mD m_M_lose 31 (.iastore) 1 32 := ⟨by decide +kernel, rfl⟩
theorem d_M_lose_32 : mD m_M_lose 32 (.aload_n 0) 1 33 := ⟨by decide +kernel, rfl⟩
theorem d_M_lose_33 : mD m_M_lose 33 (.getfield 13) 3 36 := ⟨by decide +kernel, rfl⟩
theorem d_M_lose_36 : mD m_M_lose 36 (.iload_n 1) 1 37 := ⟨by decide +kernel, rfl⟩
theorem d_M_lose_37 : mD m_M_lose 37 (.iaload) 1 38 := ⟨by decide +kernel, rfl⟩
theorem d_M_lose_38 : mD m_M_lose 38 (.ireturn) 1 39 := ⟨by decide +kernel, rfl⟩
theorem d_M_lot_0 : mD m_M_lot 0 (.aload_n 0) 1 1 := ⟨by decide +kernel, rfl⟩
theorem d_M_lot_1 : mD m_M_lot 1 (.invokevirtual 143) 3 4 := ⟨by decide +kernel, rfl⟩
theorem d_M_lot_4 : mD m_M_lot 4 (.pop) 1 5 := ⟨by decide +kernel, rfl⟩
theorem d_M_lot_5 : mD m_M_lot 5 (.aload_n 0) 1 6 := ⟨by decide +kernel, rfl⟩
theorem d_M_lot_6 : mD m_M_lot 6 (.iload_n 1) 1 7 := ⟨by decide +kernel, rfl⟩
theorem d_M_lot_7 : mD m_M_lot 7 (.invokevirtual 273) 3 10 := ⟨by decide +kernel, rfl⟩
theorem d_M_lot_10 : mD m_M_lot 10 (.ireturn) 1 11 := ⟨by decide +kernel, rfl⟩
theorem d_M_lotOf_0 : mD m_M_lotOf 0 (.iload_n 1) 1 1 := ⟨by decide +kernel, rfl⟩
theorem d_M_lotOf_1 : mD m_M_lotOf 1 (.istore_n 2) 1 2 := ⟨by decide +kernel, rfl⟩
theorem d_M_lotOf_2 : mD m_M_lotOf 2 (.aload_n 0) 1 3 := ⟨by decide +kernel, rfl⟩
theorem d_M_lotOf_3 : mD m_M_lotOf 3 (.invokevirtual 184) 3 6 := ⟨by decide +kernel, rfl⟩
theorem d_M_lotOf_6 : mD m_M_lotOf 6 (.istore_n 3) 1 7 := ⟨by decide +kernel, rfl⟩
theorem d_M_lotOf_7 : mD m_M_lotOf 7 (.iconst 0) 1 8 := ⟨by decide +kernel, rfl⟩
theorem d_M_lotOf_8 : mD m_M_lotOf 8 (.istore 4) 2 10 := ⟨by decide +kernel, rfl⟩
theorem d_M_lotOf_10 : mD m_M_lotOf 10 (.iload 4) 2 12 := ⟨by decide +kernel, rfl⟩
theorem d_M_lotOf_12 : mD m_M_lotOf 12 (.bipush 10) 2 14 := ⟨by decide +kernel, rfl⟩
theorem d_M_lotOf_14 : mJ m_M_lotOf 14 (.if_icmp .ge 17) (17) 17 31 := ⟨by decide +kernel, rfl, rfl⟩
theorem d_M_lotOf_17 : mD m_M_lotOf 17 (.aload_n 0) 1 18 := ⟨by decide +kernel, rfl⟩
theorem d_M_lotOf_18 : mD m_M_lotOf 18 (.getfield 83) 3 21 := ⟨by decide +kernel, rfl⟩
theorem d_M_lotOf_21 : mD m_M_lotOf 21 (.iload 4) 2 23 := ⟨by decide +kernel, rfl⟩
theorem d_M_lotOf_23 : mD m_M_lotOf 23 (.iconst 0) 1 24 := ⟨by decide +kernel, rfl⟩
theorem d_M_lotOf_24 : mD m_M_lotOf 24 (.iastore) 1 25 := ⟨by decide +kernel, rfl⟩
theorem d_M_lotOf_25 : mD m_M_lotOf 25 (.iinc 4 1) 3 28 := ⟨by decide +kernel, rfl⟩
theorem d_M_lotOf_28 : mJ m_M_lotOf 28 (.goto (-18)) (-18) 31 10 := ⟨by decide +kernel, rfl, rfl⟩
theorem d_M_lotOf_31 : mD m_M_lotOf 31 (.iconst 0) 1 32 := ⟨by decide +kernel, rfl⟩
theorem d_M_lotOf_32 : mD m_M_lotOf 32 (.istore 4) 2 34 := ⟨by decide +kernel, rfl⟩
theorem d_M_lotOf_34 : mD m_M_lotOf 34 (.iload 4) 2 36 := ⟨by decide +kernel, rfl⟩
theorem d_M_lotOf_36 : mD m_M_lotOf 36 (.aload_n 0) 1 37 := ⟨by decide +kernel, rfl⟩
theorem d_M_lotOf_37 : mD m_M_lotOf 37 (.getfield 125) 3 40 := ⟨by decide +kernel, rfl⟩
theorem d_M_lotOf_40 : mJ m_M_lotOf 40 (.if_icmp .ge 105) (105) 43 145 := ⟨by decide +kernel, rfl, rfl⟩
theorem d_M_lotOf_43 : mD m_M_lotOf 43 (.ldc_w 272) 3 46 := ⟨by decide +kernel, rfl⟩
theorem d_M_lotOf_46 : mD m_M_lotOf 46 (.iload_n 2) 1 47 := ⟨by decide +kernel, rfl⟩
theorem d_M_lotOf_47 : mD m_M_lotOf 47 (.imul) 1 48 := ⟨by decide +kernel, rfl⟩
theorem d_M_lotOf_48 : mD m_M_lotOf 48 (.sipush 12345) 3 51 := ⟨by decide +kernel, rfl⟩
theorem d_M_lotOf_51 : mD m_M_lotOf 51 (.iadd) 1 52 := ⟨by decide +kernel, rfl⟩
theorem d_M_lotOf_52 : mD m_M_lotOf 52 (.istore_n 2) 1 53 := ⟨by decide +kernel, rfl⟩
theorem d_M_lotOf_53 : mD m_M_lotOf 53 (.iload_n 2) 1 54 := ⟨by decide +kernel, rfl⟩
theorem d_M_lotOf_54 : mD m_M_lotOf 54 (.bipush 16) 2 56 := ⟨by decide +kernel, rfl⟩
theorem d_M_lotOf_56 : mD m_M_lotOf 56 (.iushr) 1 57 := ⟨by decide +kernel, rfl⟩
theorem d_M_lotOf_57 : mD m_M_lotOf 57 (.aload_n 0) 1 58 := ⟨by decide +kernel, rfl⟩
theorem d_M_lotOf_58 : mD m_M_lotOf 58 (.getfield 125) 3 61 := ⟨by decide +kernel, rfl⟩
theorem d_M_lotOf_61 : mD m_M_lotOf 61 (.iload 4) 2 63 := ⟨by decide +kernel, rfl⟩
theorem d_M_lotOf_63 : mD m_M_lotOf 63 (.isub) 1 64 := ⟨by decide +kernel, rfl⟩
theorem d_M_lotOf_64 : mD m_M_lotOf 64 (.irem) 1 65 := ⟨by decide +kernel, rfl⟩
theorem d_M_lotOf_65 : mD m_M_lotOf 65 (.istore 5) 2 67 := ⟨by decide +kernel, rfl⟩
theorem d_M_lotOf_67 : mD m_M_lotOf 67 (.iconst 0) 1 68 := ⟨by decide +kernel, rfl⟩
theorem d_M_lotOf_68 : mD m_M_lotOf 68 (.istore 6) 2 70 := ⟨by decide +kernel, rfl⟩
theorem d_M_lotOf_70 : mD m_M_lotOf 70 (.iload_n 3) 1 71 := ⟨by decide +kernel, rfl⟩
theorem d_M_lotOf_71 : mD m_M_lotOf 71 (.iload 6) 2 73 := ⟨by decide +kernel, rfl⟩
theorem d_M_lotOf_73 : mD m_M_lotOf 73 (.invokestatic 177) 3 76 := ⟨by decide +kernel, rfl⟩
theorem d_M_lotOf_76 : mJ m_M_lotOf 76 (.ifCond .eq 8) (8) 79 84 := ⟨by decide +kernel, rfl, rfl⟩
theorem d_M_lotOf_79 : mD m_M_lotOf 79 (.iload 5) 2 81 := ⟨by decide +kernel, rfl⟩
theorem d_M_lotOf_81 : mJ m_M_lotOf 81 (.ifCond .le 28) (28) 84 109 := ⟨by decide +kernel, rfl, rfl⟩
theorem d_M_lotOf_84 : mD m_M_lotOf 84 (.iload 5) 2 86 := ⟨by decide +kernel, rfl⟩
theorem d_M_lotOf_86 : mD m_M_lotOf 86 (.iload_n 3) 1 87 := ⟨by decide +kernel, rfl⟩
theorem d_M_lotOf_87 : mD m_M_lotOf 87 (.iload 6) 2 89 := ⟨by decide +kernel, rfl⟩
theorem d_M_lotOf_89 : mD m_M_lotOf 89 (.invokestatic 177) 3 92 := ⟨by decide +kernel, rfl⟩
theorem d_M_lotOf_92 : mJ m_M_lotOf 92 (.ifCond .eq 7) (7) 95 99 := ⟨by decide +kernel, rfl, rfl⟩
theorem d_M_lotOf_95 : mD m_M_lotOf 95 (.iconst 1) 1 96 := ⟨by decide +kernel, rfl⟩
theorem d_M_lotOf_96 : mJ m_M_lotOf 96 (.goto 4) (4) 99 100 := ⟨by decide +kernel, rfl, rfl⟩
theorem d_M_lotOf_99 : mD m_M_lotOf 99 (.iconst 0) 1 100 := ⟨by decide +kernel, rfl⟩
theorem d_M_lotOf_100 : mD m_M_lotOf 100 (.isub) 1 101 := ⟨by decide +kernel, rfl⟩
theorem d_M_lotOf_101 : mD m_M_lotOf 101 (.istore 5) 2 103 := ⟨by decide +kernel, rfl⟩
theorem d_M_lotOf_103 : mD m_M_lotOf 103 (.iinc 6 1) 3 106 := ⟨by decide +kernel, rfl⟩
theorem d_M_lotOf_106 : mJ m_M_lotOf 106 (.goto (-36)) (-36) 109 70 := ⟨by decide +kernel, rfl, rfl⟩
theorem d_M_lotOf_109 : mD m_M_lotOf 109 (.iload_n 3) 1 110 := ⟨by decide +kernel, rfl⟩
theorem d_M_lotOf_110 : mD m_M_lotOf 110 (.iconst 1) 1 111 := ⟨by decide +kernel, rfl⟩
theorem d_M_lotOf_111 : mD m_M_lotOf 111 (.iload 6) 2 113 := ⟨by decide +kernel, rfl⟩
theorem d_M_lotOf_113 : mD m_M_lotOf 113 (.ishl) 1 114 := ⟨by decide +kernel, rfl⟩
theorem d_M_lotOf_114 : mD m_M_lotOf 114 (.iconst (-1)) 1 115 := ⟨by decide +kernel, rfl⟩
theorem d_M_lotOf_115 : mD m_M_lotOf 115 (.ixor) 1 116 := ⟨by decide +kernel, rfl⟩
theorem d_M_lotOf_116 : mD m_M_lotOf 116 (.iand) 1 117 := ⟨by decide +kernel, rfl⟩
theorem d_M_lotOf_117 : mD m_M_lotOf 117 (.istore_n 3) 1 118 := ⟨by decide +kernel, rfl⟩
theorem d_M_lotOf_118 : mD m_M_lotOf 118 (.aload_n 0) 1 119 := ⟨by decide +kernel, rfl⟩
theorem d_M_lotOf_119 : mD m_M_lotOf 119 (.getfield 83) 3 122 := ⟨by decide +kernel, rfl⟩
theorem d_M_lotOf_122 : mD m_M_lotOf 122 (.iload 6) 2 124 := ⟨by decide +kernel, rfl⟩
theorem d_M_lotOf_124 : mD m_M_lotOf 124 (.aload_n 0) 1 125 := ⟨by decide +kernel, rfl⟩
theorem d_M_lotOf_125 : mD m_M_lotOf 125 (.getfield 37) 3 128 := ⟨by decide +kernel, rfl⟩
theorem d_M_lotOf_128 : mD m_M_lotOf 128 (.iconst 0) 1 129 := ⟨by decide +kernel, rfl⟩
theorem d_M_lotOf_129 : mD m_M_lotOf 129 (.iaload) 1 130 := ⟨by decide +kernel, rfl⟩
theorem d_M_lotOf_130 : mD m_M_lotOf 130 (.idiv) 1 131 := ⟨by decide +kernel, rfl⟩
theorem d_M_lotOf_131 : mD m_M_lotOf 131 (.dup2) 1 132 := ⟨by decide +kernel, rfl⟩
theorem d_M_lotOf_132 : mD m_M_lotOf 132 (.iaload) 1 133 := ⟨by decide +kernel, rfl⟩
theorem d_M_lotOf_133 : mD m_M_lotOf 133 (.iconst 1) 1 134 := ⟨by decide +kernel, rfl⟩
theorem d_M_lotOf_134 : mD m_M_lotOf 134 (.iload 4) 2 136 := ⟨by decide +kernel, rfl⟩
theorem d_M_lotOf_136 : mD m_M_lotOf 136 (.ishl) 1 137 := ⟨by decide +kernel, rfl⟩
theorem d_M_lotOf_137 : mD m_M_lotOf 137 (.ior) 1 138 := ⟨by decide +kernel, rfl⟩
theorem d_M_lotOf_138 : mD m_M_lotOf 138 (.iastore) 1 139 := ⟨by decide +kernel, rfl⟩
theorem d_M_lotOf_139 : mD m_M_lotOf 139 (.iinc 4 1) 3 142 := ⟨by decide +kernel, rfl⟩
theorem d_M_lotOf_142 : mJ m_M_lotOf 142 (.goto (-108)) (-108) 145 34 := ⟨by decide +kernel, rfl, rfl⟩
theorem d_M_lotOf_145 : mD m_M_lotOf 145 (.iconst 0) 1 146 := ⟨by decide +kernel, rfl⟩
theorem d_M_lotOf_146 : mD m_M_lotOf 146 (.istore 4) 2 148 := ⟨by decide +kernel, rfl⟩
theorem d_M_lotOf_148 : mD m_M_lotOf 148 (.iconst 0) 1 149 := ⟨by decide +kernel, rfl⟩
theorem d_M_lotOf_149 : mD m_M_lotOf 149 (.istore 5) 2 151 := ⟨by decide +kernel, rfl⟩
theorem d_M_lotOf_151 : mD m_M_lotOf 151 (.iload 5) 2 153 := ⟨by decide +kernel, rfl⟩
theorem d_M_lotOf_153 : mD m_M_lotOf 153 (.bipush 10) 2 155 := ⟨by decide +kernel, rfl⟩
theorem d_M_lotOf_155 : mJ m_M_lotOf 155 (.if_icmp .ge 39) (39) 158 194 := ⟨by decide +kernel, rfl, rfl⟩
theorem d_M_lotOf_158 : mD m_M_lotOf 158 (.iload 4) 2 160 := ⟨by decide +kernel, rfl⟩
theorem d_M_lotOf_160 : mD m_M_lotOf 160 (.aload_n 0) 1 161 := ⟨by decide +kernel, rfl⟩
theorem d_M_lotOf_161 : mD m_M_lotOf 161 (.getfield 83) 3 164 := ⟨by decide +kernel, rfl⟩
theorem d_M_lotOf_164 : mD m_M_lotOf 164 (.iload 5) 2 166 := ⟨by decide +kernel, rfl⟩
theorem d_M_lotOf_166 : mD m_M_lotOf 166 (.iaload) 1 167 := ⟨by decide +kernel, rfl⟩
theorem d_M_lotOf_167 : mJ m_M_lotOf 167 (.ifCond .ne 7) (7) 170 174 := ⟨by decide +kernel, rfl, rfl⟩
theorem d_M_lotOf_170 : mD m_M_lotOf 170 (.iconst 0) 1 171 := ⟨by decide +kernel, rfl⟩
theorem d_M_lotOf_171 : mJ m_M_lotOf 171 (.goto 14) (14) 174 185 := ⟨by decide +kernel, rfl, rfl⟩
theorem d_M_lotOf_174 : mD m_M_lotOf 174 (.aload_n 0) 1 175 := ⟨by decide +kernel, rfl⟩
theorem d_M_lotOf_175 : mD m_M_lotOf 175 (.aload_n 0) 1 176 := ⟨by decide +kernel, rfl⟩
theorem d_M_lotOf_176 : mD m_M_lotOf 176 (.getfield 83) 3 179 := ⟨by decide +kernel, rfl⟩
theorem d_M_lotOf_179 : mD m_M_lotOf 179 (.iload 5) 2 181 := ⟨by decide +kernel, rfl⟩
theorem d_M_lotOf_181 : mD m_M_lotOf 181 (.iaload) 1 182 := ⟨by decide +kernel, rfl⟩
theorem d_M_lotOf_182 : mD m_M_lotOf 182 (.invokevirtual 190) 3 185 := ⟨by decide +kernel, rfl⟩
theorem d_M_lotOf_185 : mD m_M_lotOf 185 (.iadd) 1 186 := ⟨by decide +kernel, rfl⟩
theorem d_M_lotOf_186 : mD m_M_lotOf 186 (.istore 4) 2 188 := ⟨by decide +kernel, rfl⟩
theorem d_M_lotOf_188 : mD m_M_lotOf 188 (.iinc 5 1) 3 191 := ⟨by decide +kernel, rfl⟩
theorem d_M_lotOf_191 : mJ m_M_lotOf 191 (.goto (-40)) (-40) 194 151 := ⟨by decide +kernel, rfl, rfl⟩
theorem d_M_lotOf_194 : mD m_M_lotOf 194 (.iload 4) 2 196 := ⟨by decide +kernel, rfl⟩
theorem d_M_lotOf_196 : mD m_M_lotOf 196 (.ireturn) 1 197 := ⟨by decide +kernel, rfl⟩
theorem d_M_met_0 : mD m_M_met 0 (.aload_n 0) 1 1 := ⟨by decide +kernel, rfl⟩
theorem d_M_met_1 : mD m_M_met 1 (.iload_n 1) 1 2 := ⟨by decide +kernel, rfl⟩
theorem d_M_met_2 : mD m_M_met 2 (.putfield 92) 3 5 := ⟨by decide +kernel, rfl⟩
theorem d_M_met_5 : mD m_M_met 5 (.bipush (-10)) 2 7 := ⟨by decide +kernel, rfl⟩
theorem d_M_met_7 : mD m_M_met 7 (.iload_n 1) 1 8 := ⟨by decide +kernel, rfl⟩
theorem d_M_met_8 : mD m_M_met 8 (.isub) 1 9 := ⟨by decide +kernel, rfl⟩
theorem d_M_met_9 : mD m_M_met 9 (.ireturn) 1 10 := ⟨by decide +kernel, rfl⟩
theorem d_M_no_0 : mD m_M_no 0 (.ldc2_w 86) 3 3 := ⟨by decide +kernel, rfl⟩
theorem d_M_no_3 : mD m_M_no 3 (.iload_n 0) 1 4 := ⟨by decide +kernel, rfl⟩
theorem d_M_no_4 : mD m_M_no 4 (.i2l) 1 5 := ⟨by decide +kernel, rfl⟩
theorem d_M_no_5 : mD m_M_no 5 (.lsub) 1 6 := ⟨by decide +kernel, rfl⟩
theorem d_M_no_6 : mD m_M_no 6 (.lreturn) 1 7 := ⟨by decide +kernel, rfl⟩
theorem d_M_noDay_0 : mD m_M_noDay 0 (.iload_n 1) 1 1 := ⟨by decide +kernel, rfl⟩
theorem d_M_noDay_1 : mD m_M_noDay 1 (.invokestatic 98) 3 4 := ⟨by decide +kernel, rfl⟩
theorem d_M_noDay_4 : mJ m_M_noDay 4 (.ifCond .ne 6) (6) 7 10 := ⟨by decide +kernel, rfl, rfl⟩
theorem d_M_noDay_7 : mD m_M_noDay 7 (.bipush (-2)) 2 9 := ⟨by decide +kernel, rfl⟩
theorem d_M_noDay_9 : mD m_M_noDay 9 (.ireturn) 1 10 := ⟨by decide +kernel, rfl⟩
theorem d_M_noDay_10 : mD m_M_noDay 10 (.aload_n 0) 1 11 := ⟨by decide +kernel, rfl⟩
theorem d_M_noDay_11 : mD m_M_noDay 11 (.getfield 7) 3 14 := ⟨by decide +kernel, rfl⟩
theorem d_M_noDay_14 : mD m_M_noDay 14 (.iload_n 1) 1 15 := ⟨by decide +kernel, rfl⟩
theorem d_M_noDay_15 : mD m_M_noDay 15 (.iaload) 1 16 := ⟨by decide +kernel, rfl⟩
theorem d_M_noDay_16 : mJ m_M_noDay 16 (.ifCond .ge 9) (9) 19 25 := ⟨by decide +kernel, rfl, rfl⟩
theorem d_M_noDay_19 : mD m_M_noDay 19 (.aload_n 0) 1 20 := ⟨by decide +kernel, rfl⟩
theorem d_M_noDay_20 : mD m_M_noDay 20 (.iconst 1) 1 21 := ⟨by decide +kernel, rfl⟩
theorem d_M_noDay_21 : mD m_M_noDay 21 (.invokevirtual 104) 3 24 := ⟨by decide +kernel, rfl⟩
theorem d_M_noDay_24 : mD m_M_noDay 24 (.ireturn) 1 25 := ⟨by decide +kernel, rfl⟩
theorem d_M_noDay_25 : mD m_M_noDay 25 (.aload_n 0) 1 26 := ⟨by decide +kernel, rfl⟩
theorem d_M_noDay_26 : mD m_M_noDay 26 (.invokevirtual 143) 3 29 := ⟨by decide +kernel, rfl⟩
theorem d_M_noDay_29 : mD m_M_noDay 29 (.pop) 1 30 := ⟨by decide +kernel, rfl⟩
theorem d_M_noDay_30 : mD m_M_noDay 30 (.aload_n 0) 1 31 := ⟨by decide +kernel, rfl⟩
theorem d_M_noDay_31 : mD m_M_noDay 31 (.getfield 13) 3 34 := ⟨by decide +kernel, rfl⟩
theorem d_M_noDay_34 : mD m_M_noDay 34 (.iload_n 1) 1 35 := ⟨by decide +kernel, rfl⟩
theorem d_M_noDay_35 : mD m_M_noDay 35 (.iaload) 1 36 := ⟨by decide +kernel, rfl⟩
theorem d_M_noDay_36 : mD m_M_noDay 36 (.aload_n 0) 1 37 := ⟨by decide +kernel, rfl⟩
theorem d_M_noDay_37 : mD m_M_noDay 37 (.getfield 125) 3 40 := ⟨by decide +kernel, rfl⟩
theorem d_M_noDay_40 : mJ m_M_noDay 40 (.if_icmp .ge 8) (8) 43 48 := ⟨by decide +kernel, rfl, rfl⟩
theorem d_M_noDay_43 : mD m_M_noDay 43 (.bipush (-3)) 2 45 := ⟨by decide +kernel, rfl⟩
theorem d_M_noDay_45 : mJ m_M_noDay 45 (.goto 4) (4) 48 49 := ⟨by decide +kernel, rfl, rfl⟩
theorem d_M_noDay_48 : mD m_M_noDay 48 (.iconst 0) 1 49 := ⟨by decide +kernel, rfl⟩
theorem d_M_noDay_49 : mD m_M_noDay 49 (.ireturn) 1 50 := ⟨by decide +kernel, rfl⟩
theorem d_M_nobody_0 : mD m_M_nobody 0 (.aload_n 0) 1 1 := ⟨by decide +kernel, rfl⟩
theorem d_M_nobody_1 : mD m_M_nobody 1 (.iconst 0) 1 2 := ⟨by decide +kernel, rfl⟩
theorem d_M_nobody_2 : mD m_M_nobody 2 (.putfield 125) 3 5 := ⟨by decide +kernel, rfl⟩
theorem d_M_nobody_5 : mD m_M_nobody 5 (.aload_n 0) 1 6 := ⟨by decide +kernel, rfl⟩
theorem d_M_nobody_6 : mD m_M_nobody 6 (.getfield 122) 3 9 := ⟨by decide +kernel, rfl⟩
theorem d_M_nobody_9 : mD m_M_nobody 9 (.ireturn) 1 10 := ⟨by decide +kernel, rfl⟩
theorem d_M_odd_0 : mD m_M_odd 0 (.aload_n 0) 1 1 := ⟨by decide +kernel, rfl⟩
theorem d_M_odd_1 : mD m_M_odd 1 (.invokevirtual 143) 3 4 := ⟨by decide +kernel, rfl⟩
theorem d_M_odd_4 : mD m_M_odd 4 (.pop) 1 5 := ⟨by decide +kernel, rfl⟩
theorem d_M_odd_5 : mD m_M_odd 5 (.aload_n 0) 1 6 := ⟨by decide +kernel, rfl⟩
theorem d_M_odd_6 : mD m_M_odd 6 (.invokevirtual 213) 3 9 := ⟨by decide +kernel, rfl⟩
theorem d_M_odd_9 : mD m_M_odd 9 (.ireturn) 1 10 := ⟨by decide +kernel, rfl⟩
theorem d_M_oddNow_0 : mD m_M_oddNow 0 (.aload_n 0) 1 1 := ⟨by decide +kernel, rfl⟩
theorem d_M_oddNow_1 : mD m_M_oddNow 1 (.invokevirtual 201) 3 4 := ⟨by decide +kernel, rfl⟩
theorem d_M_oddNow_4 : mD m_M_oddNow 4 (.iconst (-1)) 1 5 := ⟨by decide +kernel, rfl⟩
theorem d_M_oddNow_5 : mD m_M_oddNow 5 (.istore_n 1) 1 6 := ⟨by decide +kernel, rfl⟩
theorem d_M_oddNow_6 : mD m_M_oddNow 6 (.iconst 0) 1 7 := ⟨by decide +kernel, rfl⟩
theorem d_M_oddNow_7 : mD m_M_oddNow 7 (.istore_n 2) 1 8 := ⟨by decide +kernel, rfl⟩
theorem d_M_oddNow_8 : mD m_M_oddNow 8 (.iconst 0) 1 9 := ⟨by decide +kernel, rfl⟩
theorem d_M_oddNow_9 : mD m_M_oddNow 9 (.istore_n 3) 1 10 := ⟨by decide +kernel, rfl⟩
theorem d_M_oddNow_10 : mD m_M_oddNow 10 (.iload_n 3) 1 11 := ⟨by decide +kernel, rfl⟩
theorem d_M_oddNow_11 : mD m_M_oddNow 11 (.aload_n 0) 1 12 := ⟨by decide +kernel, rfl⟩
theorem d_M_oddNow_12 : mD m_M_oddNow 12 (.getfield 125) 3 15 := ⟨by decide +kernel, rfl⟩
theorem d_M_oddNow_15 : mJ m_M_oddNow 15 (.if_icmp .ge 48) (48) 18 63 := ⟨by decide +kernel, rfl, rfl⟩
theorem d_M_oddNow_18 : mD m_M_oddNow 18 (.aload_n 0) 1 19 := ⟨by decide +kernel, rfl⟩
theorem d_M_oddNow_19 : mD m_M_oddNow 19 (.aload_n 0) 1 20 := ⟨by decide +kernel, rfl⟩
theorem d_M_oddNow_20 : mD m_M_oddNow 20 (.invokevirtual 184) 3 23 := ⟨by decide +kernel, rfl⟩
theorem d_M_oddNow_23 : mD m_M_oddNow 23 (.iconst 1) 1 24 := ⟨by decide +kernel, rfl⟩
theorem d_M_oddNow_24 : mD m_M_oddNow 24 (.iload_n 3) 1 25 := ⟨by decide +kernel, rfl⟩
theorem d_M_oddNow_25 : mD m_M_oddNow 25 (.ishl) 1 26 := ⟨by decide +kernel, rfl⟩
theorem d_M_oddNow_26 : mD m_M_oddNow 26 (.iconst (-1)) 1 27 := ⟨by decide +kernel, rfl⟩
theorem d_M_oddNow_27 : mD m_M_oddNow 27 (.ixor) 1 28 := ⟨by decide +kernel, rfl⟩
theorem d_M_oddNow_28 : mD m_M_oddNow 28 (.iand) 1 29 := ⟨by decide +kernel, rfl⟩
theorem d_M_oddNow_29 : mD m_M_oddNow 29 (.iconst 0) 1 30 := ⟨by decide +kernel, rfl⟩
theorem d_M_oddNow_30 : mD m_M_oddNow 30 (.invokevirtual 204) 3 33 := ⟨by decide +kernel, rfl⟩
theorem d_M_oddNow_33 : mD m_M_oddNow 33 (.istore 4) 2 35 := ⟨by decide +kernel, rfl⟩
theorem d_M_oddNow_35 : mD m_M_oddNow 35 (.iload 4) 2 37 := ⟨by decide +kernel, rfl⟩
theorem d_M_oddNow_37 : mD m_M_oddNow 37 (.iconst (-1)) 1 38 := ⟨by decide +kernel, rfl⟩
theorem d_M_oddNow_38 : mJ m_M_oddNow 38 (.if_icmp .eq 19) (19) 41 57 := ⟨by decide +kernel, rfl, rfl⟩
theorem d_M_oddNow_41 : mD m_M_oddNow 41 (.iload_n 1) 1 42 := ⟨by decide +kernel, rfl⟩
theorem d_M_oddNow_42 : mD m_M_oddNow 42 (.iconst (-1)) 1 43 := ⟨by decide +kernel, rfl⟩
theorem d_M_oddNow_43 : mJ m_M_oddNow 43 (.if_icmp .eq 9) (9) 46 52 := ⟨by decide +kernel, rfl, rfl⟩
theorem d_M_oddNow_46 : mD m_M_oddNow 46 (.iload 4) 2 48 := ⟨by decide +kernel, rfl⟩
theorem d_M_oddNow_48 : mD m_M_oddNow 48 (.iload_n 2) 1 49 := ⟨by decide +kernel, rfl⟩
theorem d_M_oddNow_49 : mJ m_M_oddNow 49 (.if_icmp .ge 8) (8) 52 57 := ⟨by decide +kernel, rfl, rfl⟩
theorem d_M_oddNow_52 : mD m_M_oddNow 52 (.iload_n 3) 1 53 := ⟨by decide +kernel, rfl⟩
theorem d_M_oddNow_53 : mD m_M_oddNow 53 (.istore_n 1) 1 54 := ⟨by decide +kernel, rfl⟩
theorem d_M_oddNow_54 : mD m_M_oddNow 54 (.iload 4) 2 56 := ⟨by decide +kernel, rfl⟩
theorem d_M_oddNow_56 : mD m_M_oddNow 56 (.istore_n 2) 1 57 := ⟨by decide +kernel, rfl⟩
theorem d_M_oddNow_57 : mD m_M_oddNow 57 (.iinc 3 1) 3 60 := ⟨by decide +kernel, rfl⟩
theorem d_M_oddNow_60 : mJ m_M_oddNow 60 (.goto (-50)) (-50) 63 10 := ⟨by decide +kernel, rfl, rfl⟩
theorem d_M_oddNow_63 : mD m_M_oddNow 63 (.iload_n 1) 1 64 := ⟨by decide +kernel, rfl⟩
theorem d_M_oddNow_64 : mD m_M_oddNow 64 (.ireturn) 1 65 := ⟨by decide +kernel, rfl⟩
theorem d_M_ones_0 : mD m_M_ones 0 (.iconst 0) 1 1 := ⟨by decide +kernel, rfl⟩
theorem d_M_ones_1 : mD m_M_ones 1 (.istore_n 1) 1 2 := ⟨by decide +kernel, rfl⟩
theorem d_M_ones_2 : mD m_M_ones 2 (.iload_n 0) 1 3 := ⟨by decide +kernel, rfl⟩
theorem d_M_ones_3 : mD m_M_ones 3 (.istore_n 2) 1 4 := ⟨by decide +kernel, rfl⟩
theorem d_M_ones_4 : mD m_M_ones 4 (.iload_n 2) 1 5 := ⟨by decide +kernel, rfl⟩
theorem d_M_ones_5 : mJ m_M_ones 5 (.ifCond .eq 15) (15) 8 20 := ⟨by decide +kernel, rfl, rfl⟩
theorem d_M_ones_8 : mD m_M_ones 8 (.iinc 1 1) 3 11 := ⟨by decide +kernel, rfl⟩
theorem d_M_ones_11 : mD m_M_ones 11 (.iload_n 2) 1 12 := ⟨by decide +kernel, rfl⟩
theorem d_M_ones_12 : mD m_M_ones 12 (.iload_n 2) 1 13 := ⟨by decide +kernel, rfl⟩
theorem d_M_ones_13 : mD m_M_ones 13 (.iconst 1) 1 14 := ⟨by decide +kernel, rfl⟩
theorem d_M_ones_14 : mD m_M_ones 14 (.isub) 1 15 := ⟨by decide +kernel, rfl⟩
theorem d_M_ones_15 : mD m_M_ones 15 (.iand) 1 16 := ⟨by decide +kernel, rfl⟩
theorem d_M_ones_16 : mD m_M_ones 16 (.istore_n 2) 1 17 := ⟨by decide +kernel, rfl⟩
theorem d_M_ones_17 : mJ m_M_ones 17 (.goto (-13)) (-13) 20 4 := ⟨by decide +kernel, rfl, rfl⟩
theorem d_M_ones_20 : mD m_M_ones 20 (.iload_n 1) 1 21 := ⟨by decide +kernel, rfl⟩
theorem d_M_ones_21 : mD m_M_ones 21 (.ireturn) 1 22 := ⟨by decide +kernel, rfl⟩
theorem d_M_pair_0 : mD m_M_pair 0 (.iload_n 1) 1 1 := ⟨by decide +kernel, rfl⟩
theorem d_M_pair_1 : mD m_M_pair 1 (.invokestatic 151) 3 4 := ⟨by decide +kernel, rfl⟩
theorem d_M_pair_4 : mJ m_M_pair 4 (.ifCond .eq 30) (30) 7 34 := ⟨by decide +kernel, rfl, rfl⟩
theorem d_M_pair_7 : mD m_M_pair 7 (.iload_n 2) 1 8 := ⟨by decide +kernel, rfl⟩
theorem d_M_pair_8 : mD m_M_pair 8 (.invokestatic 157) 3 11 := ⟨by decide +kernel, rfl⟩
theorem d_M_pair_11 : mJ m_M_pair 11 (.ifCond .eq 23) (23) 14 34 := ⟨by decide +kernel, rfl, rfl⟩
theorem d_M_pair_14 : mD m_M_pair 14 (.iload_n 3) 1 15 := ⟨by decide +kernel, rfl⟩
theorem d_M_pair_15 : mD m_M_pair 15 (.invokestatic 157) 3 18 := ⟨by decide +kernel, rfl⟩
theorem d_M_pair_18 : mJ m_M_pair 18 (.ifCond .eq 16) (16) 21 34 := ⟨by decide +kernel, rfl, rfl⟩
theorem d_M_pair_21 : mD m_M_pair 21 (.iload_n 2) 1 22 := ⟨by decide +kernel, rfl⟩
theorem d_M_pair_22 : mD m_M_pair 22 (.iload_n 3) 1 23 := ⟨by decide +kernel, rfl⟩
theorem d_M_pair_23 : mJ m_M_pair 23 (.if_icmp .eq 11) (11) 26 34 := ⟨by decide +kernel, rfl, rfl⟩
theorem d_M_pair_26 : mD m_M_pair 26 (.iload 4) 2 28 := ⟨by decide +kernel, rfl⟩
theorem d_M_pair_28 : mD m_M_pair 28 (.invokestatic 151) 3 31 := ⟨by decide +kernel, rfl⟩
theorem d_M_pair_31 : mJ m_M_pair 31 (.ifCond .ne 6) (6) 34 37 := ⟨by decide +kernel, rfl, rfl⟩
theorem d_M_pair_34 : mD m_M_pair 34 (.bipush (-2)) 2 36 := ⟨by decide +kernel, rfl⟩
theorem d_M_pair_36 : mD m_M_pair 36 (.ireturn) 1 37 := ⟨by decide +kernel, rfl⟩
theorem d_M_pair_37 : mD m_M_pair 37 (.iload_n 1) 1 38 := ⟨by decide +kernel, rfl⟩
theorem d_M_pair_38 : mJ m_M_pair 38 (.ifCond .ne 17) (17) 41 55 := ⟨by decide +kernel, rfl, rfl⟩
theorem d_M_pair_41 : mD m_M_pair 41 (.aload_n 0) 1 42 := ⟨by decide +kernel, rfl⟩
theorem d_M_pair_42 : mD m_M_pair 42 (.getfield 40) 3 45 := ⟨by decide +kernel, rfl⟩
theorem d_M_pair_45 : mD m_M_pair 45 (.iload_n 2) 1 46 := ⟨by decide +kernel, rfl⟩
theorem d_M_pair_46 : mD m_M_pair 46 (.iload_n 3) 1 47 := ⟨by decide +kernel, rfl⟩
theorem d_M_pair_47 : mD m_M_pair 47 (.iload 4) 2 49 := ⟨by decide +kernel, rfl⟩
theorem d_M_pair_49 : mD m_M_pair 49 (.invokestatic 169) 3 52 := ⟨by decide +kernel, rfl⟩
theorem d_M_pair_52 : mJ m_M_pair 52 (.goto 14) (14) 55 66 := ⟨by decide +kernel, rfl, rfl⟩
theorem d_M_pair_55 : mD m_M_pair 55 (.aload_n 0) 1 56 := ⟨by decide +kernel, rfl⟩
theorem d_M_pair_56 : mD m_M_pair 56 (.getfield 43) 3 59 := ⟨by decide +kernel, rfl⟩
theorem d_M_pair_59 : mD m_M_pair 59 (.iload_n 2) 1 60 := ⟨by decide +kernel, rfl⟩
theorem d_M_pair_60 : mD m_M_pair 60 (.iload_n 3) 1 61 := ⟨by decide +kernel, rfl⟩
theorem d_M_pair_61 : mD m_M_pair 61 (.iload 4) 2 63 := ⟨by decide +kernel, rfl⟩
theorem d_M_pair_63 : mD m_M_pair 63 (.invokestatic 169) 3 66 := ⟨by decide +kernel, rfl⟩
theorem d_M_pair_66 : mD m_M_pair 66 (.ireturn) 1 67 := ⟨by decide +kernel, rfl⟩
theorem d_M_pairs_0 : mD m_M_pairs 0 (.iconst 0) 1 1 := ⟨by decide +kernel, rfl⟩
theorem d_M_pairs_1 : mD m_M_pairs 1 (.istore_n 1) 1 2 := ⟨by decide +kernel, rfl⟩
theorem d_M_pairs_2 : mD m_M_pairs 2 (.iconst 0) 1 3 := ⟨by decide +kernel, rfl⟩
theorem d_M_pairs_3 : mD m_M_pairs 3 (.istore_n 2) 1 4 := ⟨by decide +kernel, rfl⟩
theorem d_M_pairs_4 : mD m_M_pairs 4 (.iload_n 2) 1 5 := ⟨by decide +kernel, rfl⟩
theorem d_M_pairs_5 : mD m_M_pairs 5 (.bipush 10) 2 7 := ⟨by decide +kernel, rfl⟩
theorem d_M_pairs_7 : mJ m_M_pairs 7 (.if_icmp .ge 18) (18) 10 25 := ⟨by decide +kernel, rfl, rfl⟩
theorem d_M_pairs_10 : mD m_M_pairs 10 (.iload_n 1) 1 11 := ⟨by decide +kernel, rfl⟩
theorem d_M_pairs_11 : mD m_M_pairs 11 (.aload_n 0) 1 12 := ⟨by decide +kernel, rfl⟩
theorem d_M_pairs_12 : mD m_M_pairs 12 (.iload_n 2) 1 13 := ⟨by decide +kernel, rfl⟩
theorem d_M_pairs_13 : mD m_M_pairs 13 (.iaload) 1 14 := ⟨by decide +kernel, rfl⟩
theorem d_M_pairs_14 : mD m_M_pairs 14 (.invokestatic 173) 3 17 := ⟨by decide +kernel, rfl⟩
theorem d_M_pairs_17 : mD m_M_pairs 17 (.iadd) 1 18 := ⟨by decide +kernel, rfl⟩
theorem d_M_pairs_18 : mD m_M_pairs 18 (.istore_n 1) 1 19 := ⟨by decide +kernel, rfl⟩
theorem d_M_pairs_19 : mD m_M_pairs 19 (.iinc 2 1) 3 22 := ⟨by decide +kernel, rfl⟩
theorem d_M_pairs_22 : mJ m_M_pairs 22 (.goto (-18)) (-18) 25 4 := ⟨by decide +kernel, rfl, rfl⟩
theorem d_M_pairs_25 : mD m_M_pairs 25 (.iload_n 1) 1 26 := ⟨by decide +kernel, rfl⟩
theorem d_M_pairs_26 : mD m_M_pairs 26 (.iconst 2) 1 27 := ⟨by decide +kernel, rfl⟩
theorem d_M_pairs_27 : mD m_M_pairs 27 (.idiv) 1 28 := ⟨by decide +kernel, rfl⟩
theorem d_M_pairs_28 : mD m_M_pairs 28 (.ireturn) 1 29 := ⟨by decide +kernel, rfl⟩
theorem d_M_part_0 : mD m_M_part 0 (.lload_n 0) 1 1 := ⟨by decide +kernel, rfl⟩
theorem d_M_part_1 : mD m_M_part 1 (.lconst 0) 1 2 := ⟨by decide +kernel, rfl⟩
theorem d_M_part_2 : mD m_M_part 2 (.lcmp) 1 3 := ⟨by decide +kernel, rfl⟩
theorem d_M_part_3 : mJ m_M_part 3 (.ifCond .ge 8) (8) 6 11 := ⟨by decide +kernel, rfl, rfl⟩
theorem d_M_part_6 : mD m_M_part 6 (.lload_n 0) 1 7 := ⟨by decide +kernel, rfl⟩
theorem d_M_part_7 : mD m_M_part 7 (.lneg) 1 8 := ⟨by decide +kernel, rfl⟩
theorem d_M_part_8 : mJ m_M_part 8 (.goto 4) (4) 11 12 := ⟨by decide +kernel, rfl, rfl⟩
theorem d_M_part_11 : mD m_M_part 11 (.lload_n 0) 1 12 := ⟨by decide +kernel, rfl⟩
theorem d_M_part_12 : mD m_M_part 12 (.lstore 5) 2 14 := ⟨by decide +kernel, rfl⟩
theorem d_M_part_14 : mD m_M_part 14 (.lload_n 2) 1 15 := ⟨by decide +kernel, rfl⟩
theorem d_M_part_15 : mD m_M_part 15 (.lstore 7) 2 17 := ⟨by decide +kernel, rfl⟩
theorem d_M_part_17 : mD m_M_part 17 (.lload 7) 2 19 := ⟨by decide +kernel, rfl⟩
theorem d_M_part_19 : mD m_M_part 19 (.lconst 0) 1 20 := ⟨by decide +kernel, rfl⟩
theorem d_M_part_20 : mD m_M_part 20 (.lcmp) 1 21 := ⟨by decide +kernel, rfl⟩
theorem d_M_part_21 : mJ m_M_part 21 (.ifCond .eq 21) (21) 24 42 := ⟨by decide +kernel, rfl, rfl⟩
theorem d_M_part_24 : mD m_M_part 24 (.lload 5) 2 26 := ⟨by decide +kernel, rfl⟩
theorem d_M_part_26 : mD m_M_part 26 (.lload 7) 2 28 := ⟨by decide +kernel, rfl⟩
theorem d_M_part_28 : mD m_M_part 28 (.lrem) 1 29 := ⟨by decide +kernel, rfl⟩
theorem d_M_part_29 : mD m_M_part 29 (.lstore 9) 2 31 := ⟨by decide +kernel, rfl⟩
theorem d_M_part_31 : mD m_M_part 31 (.lload 7) 2 33 := ⟨by decide +kernel, rfl⟩
theorem d_M_part_33 : mD m_M_part 33 (.lstore 5) 2 35 := ⟨by decide +kernel, rfl⟩
theorem d_M_part_35 : mD m_M_part 35 (.lload 9) 2 37 := ⟨by decide +kernel, rfl⟩
theorem d_M_part_37 : mD m_M_part 37 (.lstore 7) 2 39 := ⟨by decide +kernel, rfl⟩
theorem d_M_part_39 : mJ m_M_part 39 (.goto (-22)) (-22) 42 17 := ⟨by decide +kernel, rfl, rfl⟩
theorem d_M_part_42 : mD m_M_part 42 (.iload 4) 2 44 := ⟨by decide +kernel, rfl⟩
theorem d_M_part_44 : mJ m_M_part 44 (.ifCond .ne 7) (7) 47 51 := ⟨by decide +kernel, rfl, rfl⟩
theorem d_M_part_47 : mD m_M_part 47 (.lload_n 0) 1 48 := ⟨by decide +kernel, rfl⟩
theorem d_M_part_48 : mJ m_M_part 48 (.goto 4) (4) 51 52 := ⟨by decide +kernel, rfl, rfl⟩
theorem d_M_part_51 : mD m_M_part 51 (.lload_n 2) 1 52 := ⟨by decide +kernel, rfl⟩
theorem d_M_part_52 : mD m_M_part 52 (.lload 5) 2 54 := ⟨by decide +kernel, rfl⟩
theorem d_M_part_54 : mD m_M_part 54 (.ldiv) 1 55 := ⟨by decide +kernel, rfl⟩
theorem d_M_part_55 : mD m_M_part 55 (.lreturn) 1 56 := ⟨by decide +kernel, rfl⟩
theorem d_M_pays_0 : mD m_M_pays 0 (.aload_n 0) 1 1 := ⟨by decide +kernel, rfl⟩
theorem d_M_pays_1 : mD m_M_pays 1 (.iload_n 1) 1 2 := ⟨by decide +kernel, rfl⟩
theorem d_M_pays_2 : mD m_M_pays 2 (.invokevirtual 148) 3 5 := ⟨by decide +kernel, rfl⟩
theorem d_M_pays_5 : mJ m_M_pays 5 (.ifCond .eq 19) (19) 8 24 := ⟨by decide +kernel, rfl, rfl⟩
theorem d_M_pays_8 : mD m_M_pays 8 (.iload_n 2) 1 9 := ⟨by decide +kernel, rfl⟩
theorem d_M_pays_9 : mD m_M_pays 9 (.invokestatic 151) 3 12 := ⟨by decide +kernel, rfl⟩
theorem d_M_pays_12 : mJ m_M_pays 12 (.ifCond .eq 12) (12) 15 24 := ⟨by decide +kernel, rfl, rfl⟩
theorem d_M_pays_15 : mD m_M_pays 15 (.aload_n 0) 1 16 := ⟨by decide +kernel, rfl⟩
theorem d_M_pays_16 : mD m_M_pays 16 (.iload_n 1) 1 17 := ⟨by decide +kernel, rfl⟩
theorem d_M_pays_17 : mD m_M_pays 17 (.iload_n 2) 1 18 := ⟨by decide +kernel, rfl⟩
theorem d_M_pays_18 : mD m_M_pays 18 (.invokevirtual 233) 3 21 := ⟨by decide +kernel, rfl⟩
theorem d_M_pays_21 : mJ m_M_pays 21 (.goto 8) (8) 24 29 := ⟨by decide +kernel, rfl, rfl⟩
theorem d_M_pays_24 : mD m_M_pays 24 (.bipush (-2)) 2 26 := ⟨by decide +kernel, rfl⟩
theorem d_M_pays_26 : mD m_M_pays 26 (.invokestatic 225) 3 29 := ⟨by decide +kernel, rfl⟩
theorem d_M_pays_29 : mD m_M_pays 29 (.lreturn) 1 30 := ⟨by decide +kernel, rfl⟩
theorem d_M_paysOf_0 : mD m_M_paysOf 0 (.aload_n 0) 1 1 := ⟨by decide +kernel, rfl⟩
theorem d_M_paysOf_1 : mD m_M_paysOf 1 (.invokevirtual 201) 3 4 := ⟨by decide +kernel, rfl⟩
theorem d_M_paysOf_4 : mD m_M_paysOf 4 (.aload_n 0) 1 5 := ⟨by decide +kernel, rfl⟩
theorem d_M_paysOf_5 : mD m_M_paysOf 5 (.aload_n 0) 1 6 := ⟨by decide +kernel, rfl⟩
theorem d_M_paysOf_6 : mD m_M_paysOf 6 (.invokevirtual 184) 3 9 := ⟨by decide +kernel, rfl⟩
theorem d_M_paysOf_9 : mD m_M_paysOf 9 (.invokevirtual 197) 3 12 := ⟨by decide +kernel, rfl⟩
theorem d_M_paysOf_12 : mD m_M_paysOf 12 (.aload_n 0) 1 13 := ⟨by decide +kernel, rfl⟩
theorem d_M_paysOf_13 : mD m_M_paysOf 13 (.iload_n 1) 1 14 := ⟨by decide +kernel, rfl⟩
theorem d_M_paysOf_14 : mD m_M_paysOf 14 (.invokevirtual 207) 3 17 := ⟨by decide +kernel, rfl⟩
theorem d_M_paysOf_17 : mD m_M_paysOf 17 (.istore_n 3) 1 18 := ⟨by decide +kernel, rfl⟩
theorem d_M_paysOf_18 : mD m_M_paysOf 18 (.iload_n 3) 1 19 := ⟨by decide +kernel, rfl⟩
theorem d_M_paysOf_19 : mJ m_M_paysOf 19 (.ifCond .ne 11) (11) 22 30 := ⟨by decide +kernel, rfl, rfl⟩
theorem d_M_paysOf_22 : mD m_M_paysOf 22 (.bipush (-3)) 2 24 := ⟨by decide +kernel, rfl⟩
theorem d_M_paysOf_24 : mD m_M_paysOf 24 (.invokestatic 225) 3 27 := ⟨by decide +kernel, rfl⟩
theorem d_M_paysOf_27 : mJ m_M_paysOf 27 (.goto 19) (19) 30 46 := ⟨by decide +kernel, rfl, rfl⟩
theorem d_M_paysOf_30 : mD m_M_paysOf 30 (.aload_n 0) 1 31 := ⟨by decide +kernel, rfl⟩
theorem d_M_paysOf_31 : mD m_M_paysOf 31 (.getfield 46) 3 34 := ⟨by decide +kernel, rfl⟩
theorem d_M_paysOf_34 : mD m_M_paysOf 34 (.iload_n 3) 1 35 := ⟨by decide +kernel, rfl⟩
theorem d_M_paysOf_35 : mD m_M_paysOf 35 (.iaload) 1 36 := ⟨by decide +kernel, rfl⟩
theorem d_M_paysOf_36 : mD m_M_paysOf 36 (.i2l) 1 37 := ⟨by decide +kernel, rfl⟩
theorem d_M_paysOf_37 : mD m_M_paysOf 37 (.iload_n 3) 1 38 := ⟨by decide +kernel, rfl⟩
theorem d_M_paysOf_38 : mD m_M_paysOf 38 (.invokestatic 173) 3 41 := ⟨by decide +kernel, rfl⟩
theorem d_M_paysOf_41 : mD m_M_paysOf 41 (.i2l) 1 42 := ⟨by decide +kernel, rfl⟩
theorem d_M_paysOf_42 : mD m_M_paysOf 42 (.iload_n 2) 1 43 := ⟨by decide +kernel, rfl⟩
theorem d_M_paysOf_43 : mD m_M_paysOf 43 (.invokestatic 229) 3 46 := ⟨by decide +kernel, rfl⟩
theorem d_M_paysOf_46 : mD m_M_paysOf 46 (.lreturn) 1 47 := ⟨by decide +kernel, rfl⟩
theorem d_M_person_0 : mD m_M_person 0 (.aload_n 0) 1 1 := ⟨by decide +kernel, rfl⟩
theorem d_M_person_1 : mD m_M_person 1 (.iload_n 1) 1 2 := ⟨by decide +kernel, rfl⟩
theorem d_M_person_2 : mD m_M_person 2 (.invokevirtual 148) 3 5 := ⟨by decide +kernel, rfl⟩
theorem d_M_person_5 : mJ m_M_person 5 (.ifCond .eq 31) (31) 8 36 := ⟨by decide +kernel, rfl, rfl⟩
theorem d_M_person_8 : mD m_M_person 8 (.iload_n 2) 1 9 := ⟨by decide +kernel, rfl⟩
theorem d_M_person_9 : mD m_M_person 9 (.invokestatic 151) 3 12 := ⟨by decide +kernel, rfl⟩
theorem d_M_person_12 : mJ m_M_person 12 (.ifCond .eq 24) (24) 15 36 := ⟨by decide +kernel, rfl, rfl⟩
theorem d_M_person_15 : mD m_M_person 15 (.iload_n 2) 1 16 := ⟨by decide +kernel, rfl⟩
theorem d_M_person_16 : mJ m_M_person 16 (.ifCond .ne 12) (12) 19 28 := ⟨by decide +kernel, rfl, rfl⟩
theorem d_M_person_19 : mD m_M_person 19 (.aload_n 0) 1 20 := ⟨by decide +kernel, rfl⟩
theorem d_M_person_20 : mD m_M_person 20 (.getfield 25) 3 23 := ⟨by decide +kernel, rfl⟩
theorem d_M_person_23 : mD m_M_person 23 (.iload_n 1) 1 24 := ⟨by decide +kernel, rfl⟩
theorem d_M_person_24 : mD m_M_person 24 (.iaload) 1 25 := ⟨by decide +kernel, rfl⟩
theorem d_M_person_25 : mJ m_M_person 25 (.goto 13) (13) 28 38 := ⟨by decide +kernel, rfl, rfl⟩
theorem d_M_person_28 : mD m_M_person 28 (.aload_n 0) 1 29 := ⟨by decide +kernel, rfl⟩
theorem d_M_person_29 : mD m_M_person 29 (.iload_n 1) 1 30 := ⟨by decide +kernel, rfl⟩
theorem d_M_person_30 : mD m_M_person 30 (.invokevirtual 154) 3 33 := ⟨by decide +kernel, rfl⟩
theorem d_M_person_33 : mJ m_M_person 33 (.goto 5) (5) 36 38 := ⟨by decide +kernel, rfl, rfl⟩
theorem d_M_person_36 : mD m_M_person 36 (.bipush (-2)) 2 38 := ⟨by decide +kernel, rfl⟩
theorem d_M_person_38 : mD m_M_person 38 (.ireturn) 1 39 := ⟨by decide +kernel, rfl⟩
theorem d_M_put_0 : mD m_M_put 0 (.iload_n 1) 1 1 := ⟨by decide +kernel, rfl⟩
theorem d_M_put_1 : mD m_M_put 1 (.invokestatic 157) 3 4 := ⟨by decide +kernel, rfl⟩
theorem d_M_put_4 : mJ m_M_put 4 (.ifCond .eq 22) (22) 7 26 := ⟨by decide +kernel, rfl, rfl⟩
theorem d_M_put_7 : mD m_M_put 7 (.iload_n 2) 1 8 := ⟨by decide +kernel, rfl⟩
theorem d_M_put_8 : mD m_M_put 8 (.invokestatic 151) 3 11 := ⟨by decide +kernel, rfl⟩
theorem d_M_put_11 : mJ m_M_put 11 (.ifCond .eq 15) (15) 14 26 := ⟨by decide +kernel, rfl, rfl⟩
theorem d_M_put_14 : mD m_M_put 14 (.iload_n 3) 1 15 := ⟨by decide +kernel, rfl⟩
theorem d_M_put_15 : mD m_M_put 15 (.i2l) 1 16 := ⟨by decide +kernel, rfl⟩
theorem d_M_put_16 : mD m_M_put 16 (.lconst 0) 1 17 := ⟨by decide +kernel, rfl⟩
theorem d_M_put_17 : mD m_M_put 17 (.ldc2_w 160) 3 20 := ⟨by decide +kernel, rfl⟩
theorem d_M_put_20 : mD m_M_put 20 (.invokestatic 88) 3 23 := ⟨by decide +kernel, rfl⟩
theorem d_M_put_23 : mJ m_M_put 23 (.ifCond .ne 6) (6) 26 29 := ⟨by decide +kernel, rfl, rfl⟩
theorem d_M_put_26 : mD m_M_put 26 (.bipush (-2)) 2 28 := ⟨by decide +kernel, rfl⟩
theorem d_M_put_28 : mD m_M_put 28 (.ireturn) 1 29 := ⟨by decide +kernel, rfl⟩
theorem d_M_put_29 : mD m_M_put 29 (.iload_n 2) 1 30 := ⟨by decide +kernel, rfl⟩
theorem d_M_put_30 : mJ m_M_put 30 (.ifCond .ne 12) (12) 33 42 := ⟨by decide +kernel, rfl, rfl⟩
theorem d_M_put_33 : mD m_M_put 33 (.aload_n 0) 1 34 := ⟨by decide +kernel, rfl⟩
theorem d_M_put_34 : mD m_M_put 34 (.getfield 28) 3 37 := ⟨by decide +kernel, rfl⟩
theorem d_M_put_37 : mD m_M_put 37 (.iload_n 1) 1 38 := ⟨by decide +kernel, rfl⟩
theorem d_M_put_38 : mD m_M_put 38 (.iaload) 1 39 := ⟨by decide +kernel, rfl⟩
theorem d_M_put_39 : mJ m_M_put 39 (.goto 9) (9) 42 48 := ⟨by decide +kernel, rfl, rfl⟩
theorem d_M_put_42 : mD m_M_put 42 (.aload_n 0) 1 43 := ⟨by decide +kernel, rfl⟩
theorem d_M_put_43 : mD m_M_put 43 (.getfield 31) 3 46 := ⟨by decide +kernel, rfl⟩
theorem d_M_put_46 : mD m_M_put 46 (.iload_n 1) 1 47 := ⟨by decide +kernel, rfl⟩
theorem d_M_put_47 : mD m_M_put 47 (.iaload) 1 48 := ⟨by decide +kernel, rfl⟩
theorem d_M_put_48 : mD m_M_put 48 (.istore 4) 2 50 := ⟨by decide +kernel, rfl⟩
theorem d_M_put_50 : mD m_M_put 50 (.iload_n 2) 1 51 := ⟨by decide +kernel, rfl⟩
theorem d_M_put_51 : mJ m_M_put 51 (.ifCond .ne 13) (13) 54 64 := ⟨by decide +kernel, rfl, rfl⟩
theorem d_M_put_54 : mD m_M_put 54 (.aload_n 0) 1 55 := ⟨by decide +kernel, rfl⟩
theorem d_M_put_55 : mD m_M_put 55 (.getfield 28) 3 58 := ⟨by decide +kernel, rfl⟩
theorem d_M_put_58 : mD m_M_put 58 (.iload_n 1) 1 59 := ⟨by decide +kernel, rfl⟩
theorem d_M_put_59 : mD m_M_put 59 (.iload_n 3) 1 60 := ⟨by decide +kernel, rfl⟩
theorem d_M_put_60 : mD m_M_put 60 (.iastore) 1 61 := ⟨by decide +kernel, rfl⟩
theorem d_M_put_61 : mJ m_M_put 61 (.goto 10) (10) 64 71 := ⟨by decide +kernel, rfl, rfl⟩
theorem d_M_put_64 : mD m_M_put 64 (.aload_n 0) 1 65 := ⟨by decide +kernel, rfl⟩
theorem d_M_put_65 : mD m_M_put 65 (.getfield 31) 3 68 := ⟨by decide +kernel, rfl⟩
theorem d_M_put_68 : mD m_M_put 68 (.iload_n 1) 1 69 := ⟨by decide +kernel, rfl⟩
theorem d_M_put_69 : mD m_M_put 69 (.iload_n 3) 1 70 := ⟨by decide +kernel, rfl⟩
theorem d_M_put_70 : mD m_M_put 70 (.iastore) 1 71 := ⟨by decide +kernel, rfl⟩
theorem d_M_put_71 : mD m_M_put 71 (.iload 4) 2 73 := ⟨by decide +kernel, rfl⟩
theorem d_M_put_73 : mD m_M_put 73 (.ireturn) 1 74 := ⟨by decide +kernel, rfl⟩
theorem d_M_rather_0 : mD m_M_rather 0 (.aload_n 0) 1 1 := ⟨by decide +kernel, rfl⟩
theorem d_M_rather_1 : mD m_M_rather 1 (.iload_n 1) 1 2 := ⟨by decide +kernel, rfl⟩
theorem d_M_rather_2 : mD m_M_rather 2 (.invokevirtual 219) 3 5 := ⟨by decide +kernel, rfl⟩
theorem d_M_rather_5 : mD m_M_rather 5 (.istore_n 2) 1 6 := ⟨by decide +kernel, rfl⟩
theorem d_M_rather_6 : mD m_M_rather 6 (.iload_n 2) 1 7 := ⟨by decide +kernel, rfl⟩
theorem d_M_rather_7 : mJ m_M_rather 7 (.ifCond .eq 5) (5) 10 12 := ⟨by decide +kernel, rfl, rfl⟩
theorem d_M_rather_10 : mD m_M_rather 10 (.iload_n 2) 1 11 := ⟨by decide +kernel, rfl⟩
theorem d_M_rather_11 : mD m_M_rather 11 (.ireturn) 1 12 := ⟨by decide +kernel, rfl⟩
theorem d_M_rather_12 : mD m_M_rather 12 (.aload_n 0) 1 13 := ⟨by decide +kernel, rfl⟩
theorem d_M_rather_13 : mD m_M_rather 13 (.invokevirtual 237) 3 16 := ⟨by decide +kernel, rfl⟩
theorem d_M_rather_16 : mJ m_M_rather 16 (.ifCond .ne 6) (6) 19 22 := ⟨by decide +kernel, rfl, rfl⟩
theorem d_M_rather_19 : mD m_M_rather 19 (.bipush (-3)) 2 21 := ⟨by decide +kernel, rfl⟩
theorem d_M_rather_21 : mD m_M_rather 21 (.ireturn) 1 22 := ⟨by decide +kernel, rfl⟩
theorem d_M_rather_22 : mD m_M_rather 22 (.iconst 1) 1 23 := ⟨by decide +kernel, rfl⟩
theorem d_M_rather_23 : mD m_M_rather 23 (.istore_n 3) 1 24 := ⟨by decide +kernel, rfl⟩
theorem d_M_rather_24 : mD m_M_rather 24 (.iload_n 3) 1 25 := ⟨by decide +kernel, rfl⟩
theorem d_M_rather_25 : mD m_M_rather 25 (.aload_n 0) 1 26 := ⟨by decide +kernel, rfl⟩
theorem d_M_rather_26 : mD m_M_rather 26 (.invokevirtual 184) 3 29 := ⟨by decide +kernel, rfl⟩
theorem d_M_rather_29 : mJ m_M_rather 29 (.if_icmp .gt 76) (76) 32 105 := ⟨by decide +kernel, rfl, rfl⟩
theorem d_M_rather_32 : mD m_M_rather 32 (.lconst 0) 1 33 := ⟨by decide +kernel, rfl⟩
theorem d_M_rather_33 : mD m_M_rather 33 (.lstore 4) 2 35 := ⟨by decide +kernel, rfl⟩
theorem d_M_rather_35 : mD m_M_rather 35 (.iconst 0) 1 36 := ⟨by decide +kernel, rfl⟩
theorem d_M_rather_36 : mD m_M_rather 36 (.istore 6) 2 38 := ⟨by decide +kernel, rfl⟩
theorem d_M_rather_38 : mD m_M_rather 38 (.iload 6) 2 40 := ⟨by decide +kernel, rfl⟩
theorem d_M_rather_40 : mD m_M_rather 40 (.aload_n 0) 1 41 := ⟨by decide +kernel, rfl⟩
theorem d_M_rather_41 : mD m_M_rather 41 (.getfield 125) 3 44 := ⟨by decide +kernel, rfl⟩
theorem d_M_rather_44 : mJ m_M_rather 44 (.if_icmp .ge 40) (40) 47 84 := ⟨by decide +kernel, rfl, rfl⟩
theorem d_M_rather_47 : mD m_M_rather 47 (.lload 4) 2 49 := ⟨by decide +kernel, rfl⟩
theorem d_M_rather_49 : mD m_M_rather 49 (.iload_n 3) 1 50 := ⟨by decide +kernel, rfl⟩
theorem d_M_rather_50 : mD m_M_rather 50 (.iload 6) 2 52 := ⟨by decide +kernel, rfl⟩
theorem d_M_rather_52 : mD m_M_rather 52 (.invokestatic 177) 3 55 := ⟨by decide +kernel, rfl⟩
theorem d_M_rather_55 : mJ m_M_rather 55 (.ifCond .eq 19) (19) 58 74 := ⟨by decide +kernel, rfl, rfl⟩
theorem d_M_rather_58 : mD m_M_rather 58 (.aload_n 0) 1 59 := ⟨by decide +kernel, rfl⟩
theorem d_M_rather_59 : mD m_M_rather 59 (.getfield 16) 3 62 := ⟨by decide +kernel, rfl⟩
theorem d_M_rather_62 : mD m_M_rather 62 (.bipush 60) 2 64 := ⟨by decide +kernel, rfl⟩
theorem d_M_rather_64 : mD m_M_rather 64 (.iload_n 1) 1 65 := ⟨by decide +kernel, rfl⟩
theorem d_M_rather_65 : mD m_M_rather 65 (.imul) 1 66 := ⟨by decide +kernel, rfl⟩
theorem d_M_rather_66 : mD m_M_rather 66 (.iload 6) 2 68 := ⟨by decide +kernel, rfl⟩
theorem d_M_rather_68 : mD m_M_rather 68 (.iadd) 1 69 := ⟨by decide +kernel, rfl⟩
theorem d_M_rather_69 : mD m_M_rather 69 (.iaload) 1 70 := ⟨by decide +kernel, rfl⟩
theorem d_M_rather_70 : mD m_M_rather 70 (.i2l) 1 71 := ⟨by decide +kernel, rfl⟩
theorem d_M_rather_71 : mJ m_M_rather 71 (.goto 4) (4) 74 75 := ⟨by decide +kernel, rfl, rfl⟩
theorem d_M_rather_74 : mD m_M_rather 74 (.lconst 0) 1 75 := ⟨by decide +kernel, rfl⟩
theorem d_M_rather_75 : mD m_M_rather 75 (.ladd) 1 76 := ⟨by decide +kernel, rfl⟩
theorem d_M_rather_76 : mD m_M_rather 76 (.lstore 4) 2 78 := ⟨by decide +kernel, rfl⟩
theorem d_M_rather_78 : mD m_M_rather 78 (.iinc 6 1) 3 81 := ⟨by decide +kernel, rfl⟩
theorem d_M_rather_81 : mJ m_M_rather 81 (.goto (-43)) (-43) 84 38 := ⟨by decide +kernel, rfl, rfl⟩
theorem d_M_rather_84 : mD m_M_rather 84 (.lload 4) 2 86 := ⟨by decide +kernel, rfl⟩
theorem d_M_rather_86 : mD m_M_rather 86 (.aload_n 0) 1 87 := ⟨by decide +kernel, rfl⟩
theorem d_M_rather_87 : mD m_M_rather 87 (.getfield 68) 3 90 := ⟨by decide +kernel, rfl⟩
theorem d_M_rather_90 : mD m_M_rather 90 (.iload_n 3) 1 91 := ⟨by decide +kernel, rfl⟩
theorem d_M_rather_91 : mD m_M_rather 91 (.iaload) 1 92 := ⟨by decide +kernel, rfl⟩
theorem d_M_rather_92 : mD m_M_rather 92 (.i2l) 1 93 := ⟨by decide +kernel, rfl⟩
theorem d_M_rather_93 : mD m_M_rather 93 (.lcmp) 1 94 := ⟨by decide +kernel, rfl⟩
theorem d_M_rather_94 : mJ m_M_rather 94 (.ifCond .le 5) (5) 97 99 := ⟨by decide +kernel, rfl, rfl⟩
theorem d_M_rather_97 : mD m_M_rather 97 (.iload_n 3) 1 98 := ⟨by decide +kernel, rfl⟩
theorem d_M_rather_98 : mD m_M_rather 98 (.ireturn) 1 99 := ⟨by decide +kernel, rfl⟩
theorem d_M_rather_99 : mD m_M_rather 99 (.iinc 3 1) 3 102 := ⟨by decide +kernel, rfl⟩
theorem d_M_rather_102 : mJ m_M_rather 102 (.goto (-78)) (-78) 105 24 := ⟨by decide +kernel, rfl, rfl⟩
theorem d_M_rather_105 : mD m_M_rather 105 (.iconst (-1)) 1 106 := ⟨by decide +kernel, rfl⟩
theorem d_M_rather_106 : mD m_M_rather 106 (.ireturn) 1 107 := ⟨by decide +kernel, rfl⟩
theorem d_M_read_0 : mD m_M_read 0 (.iload_n 1) 1 1 := ⟨by decide +kernel, rfl⟩
theorem d_M_read_1 : mD m_M_read 1 (.invokestatic 98) 3 4 := ⟨by decide +kernel, rfl⟩
theorem d_M_read_4 : mJ m_M_read 4 (.ifCond .ne 6) (6) 7 10 := ⟨by decide +kernel, rfl, rfl⟩
theorem d_M_read_7 : mD m_M_read 7 (.bipush (-2)) 2 9 := ⟨by decide +kernel, rfl⟩
theorem d_M_read_9 : mD m_M_read 9 (.ireturn) 1 10 := ⟨by decide +kernel, rfl⟩
theorem d_M_read_10 : mD m_M_read 10 (.aload_n 0) 1 11 := ⟨by decide +kernel, rfl⟩
theorem d_M_read_11 : mD m_M_read 11 (.getfield 7) 3 14 := ⟨by decide +kernel, rfl⟩
theorem d_M_read_14 : mD m_M_read 14 (.iload_n 1) 1 15 := ⟨by decide +kernel, rfl⟩
theorem d_M_read_15 : mD m_M_read 15 (.iaload) 1 16 := ⟨by decide +kernel, rfl⟩
theorem d_M_read_16 : mJ m_M_read 16 (.ifCond .ge 9) (9) 19 25 := ⟨by decide +kernel, rfl, rfl⟩
theorem d_M_read_19 : mD m_M_read 19 (.aload_n 0) 1 20 := ⟨by decide +kernel, rfl⟩
theorem d_M_read_20 : mD m_M_read 20 (.iconst 1) 1 21 := ⟨by decide +kernel, rfl⟩
theorem d_M_read_21 : mD m_M_read 21 (.invokevirtual 104) 3 24 := ⟨by decide +kernel, rfl⟩
theorem d_M_read_24 : mD m_M_read 24 (.ireturn) 1 25 := ⟨by decide +kernel, rfl⟩
theorem d_M_read_25 : mD m_M_read 25 (.iconst 0) 1 26 := ⟨by decide +kernel, rfl⟩
theorem d_M_read_26 : mD m_M_read 26 (.istore_n 2) 1 27 := ⟨by decide +kernel, rfl⟩
theorem d_M_read_27 : mD m_M_read 27 (.iload_n 2) 1 28 := ⟨by decide +kernel, rfl⟩
theorem d_M_read_28 : mD m_M_read 28 (.aload_n 0) 1 29 := ⟨by decide +kernel, rfl⟩
theorem d_M_read_29 : mD m_M_read 29 (.getfield 13) 3 32 := ⟨by decide +kernel, rfl⟩
theorem d_M_read_32 : mD m_M_read 32 (.iload_n 1) 1 33 := ⟨by decide +kernel, rfl⟩
theorem d_M_read_33 : mD m_M_read 33 (.iaload) 1 34 := ⟨by decide +kernel, rfl⟩
theorem d_M_read_34 : mJ m_M_read 34 (.if_icmp .ge 29) (29) 37 63 := ⟨by decide +kernel, rfl, rfl⟩
theorem d_M_read_37 : mD m_M_read 37 (.aload_n 0) 1 38 := ⟨by decide +kernel, rfl⟩
theorem d_M_read_38 : mD m_M_read 38 (.iload_n 2) 1 39 := ⟨by decide +kernel, rfl⟩
theorem d_M_read_39 : mD m_M_read 39 (.iconst 0) 1 40 := ⟨by decide +kernel, rfl⟩
theorem d_M_read_40 : mD m_M_read 40 (.aload_n 0) 1 41 := ⟨by decide +kernel, rfl⟩
theorem d_M_read_41 : mD m_M_read 41 (.getfield 16) 3 44 := ⟨by decide +kernel, rfl⟩
theorem d_M_read_44 : mD m_M_read 44 (.bipush 60) 2 46 := ⟨by decide +kernel, rfl⟩
theorem d_M_read_46 : mD m_M_read 46 (.iload_n 1) 1 47 := ⟨by decide +kernel, rfl⟩
theorem d_M_read_47 : mD m_M_read 47 (.imul) 1 48 := ⟨by decide +kernel, rfl⟩
theorem d_M_read_48 : mD m_M_read 48 (.iload_n 2) 1 49 := ⟨by decide +kernel, rfl⟩
theorem d_M_read_49 : mD m_M_read 49 (.iadd) 1 50 := ⟨by decide +kernel, rfl⟩
theorem d_M_read_50 : mD m_M_read 50 (.iaload) 1 51 := ⟨by decide +kernel, rfl⟩
theorem d_M_read_51 : mD m_M_read 51 (.invokevirtual 166) 3 54 := ⟨by decide +kernel, rfl⟩
theorem d_M_read_54 : mJ m_M_read 54 (.ifCond .lt 9) (9) 57 63 := ⟨by decide +kernel, rfl, rfl⟩
theorem d_M_read_57 : mD m_M_read 57 (.iinc 2 1) 3 60 := ⟨by decide +kernel, rfl⟩
theorem d_M_read_60 : mJ m_M_read 60 (.goto (-33)) (-33) 63 27 := ⟨by decide +kernel, rfl, rfl⟩
theorem d_M_read_63 : mD m_M_read 63 (.iload_n 2) 1 64 := ⟨by decide +kernel, rfl⟩
theorem d_M_read_64 : mD m_M_read 64 (.ireturn) 1 65 := ⟨by decide +kernel, rfl⟩
theorem d_M_reads_0 : mD m_M_reads 0 (.aload_n 0) 1 1 := ⟨by decide +kernel, rfl⟩
theorem d_M_reads_1 : mD m_M_reads 1 (.iconst 0) 1 2 := ⟨by decide +kernel, rfl⟩
theorem d_M_reads_2 : mD m_M_reads 2 (.putfield 122) 3 5 := ⟨by decide +kernel, rfl⟩
theorem d_M_reads_5 : mD m_M_reads 5 (.aload_n 0) 1 6 := ⟨by decide +kernel, rfl⟩
theorem d_M_reads_6 : mD m_M_reads 6 (.iconst 0) 1 7 := ⟨by decide +kernel, rfl⟩
theorem d_M_reads_7 : mD m_M_reads 7 (.putfield 125) 3 10 := ⟨by decide +kernel, rfl⟩
theorem d_M_reads_10 : mD m_M_reads 10 (.aload_n 0) 1 11 := ⟨by decide +kernel, rfl⟩
theorem d_M_reads_11 : mD m_M_reads 11 (.getfield 119) 3 14 := ⟨by decide +kernel, rfl⟩
theorem d_M_reads_14 : mJ m_M_reads 14 (.ifCond .le 7) (7) 17 21 := ⟨by decide +kernel, rfl, rfl⟩
theorem d_M_reads_17 : mD m_M_reads 17 (.iconst 1) 1 18 := ⟨by decide +kernel, rfl⟩
theorem d_M_reads_18 : mJ m_M_reads 18 (.goto 4) (4) 21 22 := ⟨by decide +kernel, rfl, rfl⟩
theorem d_M_reads_21 : mD m_M_reads 21 (.iconst 0) 1 22 := ⟨by decide +kernel, rfl⟩
theorem d_M_reads_22 : mD m_M_reads 22 (.istore_n 1) 1 23 := ⟨by decide +kernel, rfl⟩
theorem d_M_reads_23 : mD m_M_reads 23 (.iload_n 1) 1 24 := ⟨by decide +kernel, rfl⟩
theorem d_M_reads_24 : mJ m_M_reads 24 (.ifCond .eq 71) (71) 27 95 := ⟨by decide +kernel, rfl, rfl⟩
theorem d_M_reads_27 : mD m_M_reads 27 (.aload_n 0) 1 28 := ⟨by decide +kernel, rfl⟩
theorem d_M_reads_28 : mD m_M_reads 28 (.invokevirtual 136) 3 31 := ⟨by decide +kernel, rfl⟩
theorem d_M_reads_31 : mJ m_M_reads 31 (.ifCond .ne 8) (8) 34 39 := ⟨by decide +kernel, rfl, rfl⟩
theorem d_M_reads_34 : mD m_M_reads 34 (.aload_n 0) 1 35 := ⟨by decide +kernel, rfl⟩
theorem d_M_reads_35 : mD m_M_reads 35 (.invokevirtual 140) 3 38 := ⟨by decide +kernel, rfl⟩
theorem d_M_reads_38 : mD m_M_reads 38 (.ireturn) 1 39 := ⟨by decide +kernel, rfl⟩
theorem d_M_reads_39 : mD m_M_reads 39 (.aload_n 0) 1 40 := ⟨by decide +kernel, rfl⟩
theorem d_M_reads_40 : mD m_M_reads 40 (.getfield 122) 3 43 := ⟨by decide +kernel, rfl⟩
theorem d_M_reads_43 : mD m_M_reads 43 (.aload_n 0) 1 44 := ⟨by decide +kernel, rfl⟩
theorem d_M_reads_44 : mD m_M_reads 44 (.getfield 119) 3 47 := ⟨by decide +kernel, rfl⟩
theorem d_M_reads_47 : mJ m_M_reads 47 (.if_icmp .ge 7) (7) 50 54 := ⟨by decide +kernel, rfl, rfl⟩
theorem d_M_reads_50 : mD m_M_reads 50 (.iconst 1) 1 51 := ⟨by decide +kernel, rfl⟩
theorem d_M_reads_51 : mJ m_M_reads 51 (.goto 4) (4) 54 55 := ⟨by decide +kernel, rfl, rfl⟩
theorem d_M_reads_54 : mD m_M_reads 54 (.iconst 0) 1 55 := ⟨by decide +kernel, rfl⟩
theorem d_M_reads_55 : mD m_M_reads 55 (.istore_n 1) 1 56 := ⟨by decide +kernel, rfl⟩
theorem d_M_reads_56 : mD m_M_reads 56 (.iload_n 1) 1 57 := ⟨by decide +kernel, rfl⟩
theorem d_M_reads_57 : mJ m_M_reads 57 (.ifCond .eq 17) (17) 60 74 := ⟨by decide +kernel, rfl, rfl⟩
theorem d_M_reads_60 : mD m_M_reads 60 (.aload_n 0) 1 61 := ⟨by decide +kernel, rfl⟩
theorem d_M_reads_61 : mD m_M_reads 61 (.invokevirtual 128) 3 64 := ⟨by decide +kernel, rfl⟩
theorem d_M_reads_64 : mD m_M_reads 64 (.bipush 59) 2 66 := ⟨by decide +kernel, rfl⟩
theorem d_M_reads_66 : mJ m_M_reads 66 (.if_icmp .eq 8) (8) 69 74 := ⟨by decide +kernel, rfl, rfl⟩
theorem d_M_reads_69 : mD m_M_reads 69 (.aload_n 0) 1 70 := ⟨by decide +kernel, rfl⟩
theorem d_M_reads_70 : mD m_M_reads 70 (.invokevirtual 140) 3 73 := ⟨by decide +kernel, rfl⟩
theorem d_M_reads_73 : mD m_M_reads 73 (.ireturn) 1 74 := ⟨by decide +kernel, rfl⟩
theorem d_M_reads_74 : mD m_M_reads 74 (.aload_n 0) 1 75 := ⟨by decide +kernel, rfl⟩
theorem d_M_reads_75 : mD m_M_reads 75 (.dup) 1 76 := ⟨by decide +kernel, rfl⟩
theorem d_M_reads_76 : mD m_M_reads 76 (.getfield 122) 3 79 := ⟨by decide +kernel, rfl⟩
theorem d_M_reads_79 : mD m_M_reads 79 (.iload_n 1) 1 80 := ⟨by decide +kernel, rfl⟩
theorem d_M_reads_80 : mJ m_M_reads 80 (.ifCond .eq 7) (7) 83 87 := ⟨by decide +kernel, rfl, rfl⟩
theorem d_M_reads_83 : mD m_M_reads 83 (.iconst 1) 1 84 := ⟨by decide +kernel, rfl⟩
theorem d_M_reads_84 : mJ m_M_reads 84 (.goto 4) (4) 87 88 := ⟨by decide +kernel, rfl, rfl⟩
theorem d_M_reads_87 : mD m_M_reads 87 (.iconst 0) 1 88 := ⟨by decide +kernel, rfl⟩
theorem d_M_reads_88 : mD m_M_reads 88 (.iadd) 1 89 := ⟨by decide +kernel, rfl⟩
theorem d_M_reads_89 : mD m_M_reads 89 (.putfield 122) 3 92 := ⟨by decide +kernel, rfl⟩
theorem d_M_reads_92 : mJ m_M_reads 92 (.goto (-69)) (-69) 95 23 := ⟨by decide +kernel, rfl, rfl⟩
theorem d_M_reads_95 : mD m_M_reads 95 (.iconst (-1)) 1 96 := ⟨by decide +kernel, rfl⟩
theorem d_M_reads_96 : mD m_M_reads 96 (.ireturn) 1 97 := ⟨by decide +kernel, rfl⟩
theorem d_M_readsPart_0 : mD m_M_readsPart 0 (.aload_n 0) 1 1 := ⟨by decide +kernel, rfl⟩
theorem d_M_readsPart_1 : mD m_M_readsPart 1 (.getfield 125) 3 4 := ⟨by decide +kernel, rfl⟩
theorem d_M_readsPart_4 : mD m_M_readsPart 4 (.bipush 10) 2 6 := ⟨by decide +kernel, rfl⟩
theorem d_M_readsPart_6 : mJ m_M_readsPart 6 (.if_icmp .ne 5) (5) 9 11 := ⟨by decide +kernel, rfl, rfl⟩
theorem d_M_readsPart_9 : mD m_M_readsPart 9 (.iconst 0) 1 10 := ⟨by decide +kernel, rfl⟩
theorem d_M_readsPart_10 : mD m_M_readsPart 10 (.ireturn) 1 11 := ⟨by decide +kernel, rfl⟩
theorem d_M_readsPart_11 : mD m_M_readsPart 11 (.aload_n 0) 1 12 := ⟨by decide +kernel, rfl⟩
theorem d_M_readsPart_12 : mD m_M_readsPart 12 (.getfield 122) 3 15 := ⟨by decide +kernel, rfl⟩
theorem d_M_readsPart_15 : mD m_M_readsPart 15 (.istore_n 1) 1 16 := ⟨by decide +kernel, rfl⟩
theorem d_M_readsPart_16 : mD m_M_readsPart 16 (.iconst 0) 1 17 := ⟨by decide +kernel, rfl⟩
theorem d_M_readsPart_17 : mD m_M_readsPart 17 (.istore_n 2) 1 18 := ⟨by decide +kernel, rfl⟩
theorem d_M_readsPart_18 : mD m_M_readsPart 18 (.aload_n 0) 1 19 := ⟨by decide +kernel, rfl⟩
theorem d_M_readsPart_19 : mD m_M_readsPart 19 (.getfield 122) 3 22 := ⟨by decide +kernel, rfl⟩
theorem d_M_readsPart_22 : mD m_M_readsPart 22 (.iload_n 1) 1 23 := ⟨by decide +kernel, rfl⟩
theorem d_M_readsPart_23 : mD m_M_readsPart 23 (.iconst 3) 1 24 := ⟨by decide +kernel, rfl⟩
theorem d_M_readsPart_24 : mD m_M_readsPart 24 (.iadd) 1 25 := ⟨by decide +kernel, rfl⟩
theorem d_M_readsPart_25 : mJ m_M_readsPart 25 (.if_icmp .ge 46) (46) 28 71 := ⟨by decide +kernel, rfl, rfl⟩
theorem d_M_readsPart_28 : mD m_M_readsPart 28 (.aload_n 0) 1 29 := ⟨by decide +kernel, rfl⟩
theorem d_M_readsPart_29 : mD m_M_readsPart 29 (.invokevirtual 128) 3 32 := ⟨by decide +kernel, rfl⟩
theorem d_M_readsPart_32 : mD m_M_readsPart 32 (.i2l) 1 33 := ⟨by decide +kernel, rfl⟩
theorem d_M_readsPart_33 : mD m_M_readsPart 33 (.ldc2_w 132) 3 36 := ⟨by decide +kernel, rfl⟩
theorem d_M_readsPart_36 : mD m_M_readsPart 36 (.ldc2_w 134) 3 39 := ⟨by decide +kernel, rfl⟩
theorem d_M_readsPart_39 : mD m_M_readsPart 39 (.invokestatic 88) 3 42 := ⟨by decide +kernel, rfl⟩
theorem d_M_readsPart_42 : mJ m_M_readsPart 42 (.ifCond .eq 29) (29) 45 71 := ⟨by decide +kernel, rfl, rfl⟩
theorem d_M_readsPart_45 : mD m_M_readsPart 45 (.bipush 10) 2 47 := ⟨by decide +kernel, rfl⟩
theorem d_M_readsPart_47 : mD m_M_readsPart 47 (.iload_n 2) 1 48 := ⟨by decide +kernel, rfl⟩
theorem d_M_readsPart_48 : mD m_M_readsPart 48 (.imul) 1 49 := ⟨by decide +kernel, rfl⟩
theorem d_M_readsPart_49 : mD m_M_readsPart 49 (.aload_n 0) 1 50 := ⟨by decide +kernel, rfl⟩
theorem d_M_readsPart_50 : mD m_M_readsPart 50 (.invokevirtual 128) 3 53 := ⟨by decide +kernel, rfl⟩
theorem d_M_readsPart_53 : mD m_M_readsPart 53 (.iadd) 1 54 := ⟨by decide +kernel, rfl⟩
theorem d_M_readsPart_54 : mD m_M_readsPart 54 (.bipush 48) 2 56 := ⟨by decide +kernel, rfl⟩
theorem d_M_readsPart_56 : mD m_M_readsPart 56 (.isub) 1 57 := ⟨by decide +kernel, rfl⟩
theorem d_M_readsPart_57 : mD m_M_readsPart 57 (.istore_n 2) 1 58 := ⟨by decide +kernel, rfl⟩
theorem d_M_readsPart_58 : mD m_M_readsPart 58 (.aload_n 0) 1 59 := ⟨by decide +kernel, rfl⟩
theorem d_M_readsPart_59 : mD m_M_readsPart 59 (.dup) 1 60 := ⟨by decide +kernel, rfl⟩
theorem d_M_readsPart_60 : mD m_M_readsPart 60 (.getfield 122) 3 63 := ⟨by decide +kernel, rfl⟩
theorem d_M_readsPart_63 : mD m_M_readsPart 63 (.iconst 1) 1 64 := ⟨by decide +kernel, rfl⟩
theorem d_M_readsPart_64 : mD m_M_readsPart 64 (.iadd) 1 65 := ⟨by decide +kernel, rfl⟩
theorem d_M_readsPart_65 : mD m_M_readsPart 65 (.putfield 122) 3 68 := ⟨by decide +kernel, rfl⟩
theorem d_M_readsPart_68 : mJ m_M_readsPart 68 (.goto (-50)) (-50) 71 18 := ⟨by decide +kernel, rfl, rfl⟩
theorem d_M_readsPart_71 : mD m_M_readsPart 71 (.aload_n 0) 1 72 := ⟨by decide +kernel, rfl⟩
theorem d_M_readsPart_72 : mD m_M_readsPart 72 (.getfield 122) 3 75 := ⟨by decide +kernel, rfl⟩
theorem d_M_readsPart_75 : mD m_M_readsPart 75 (.iload_n 1) 1 76 := ⟨by decide +kernel, rfl⟩
theorem d_M_readsPart_76 : mJ m_M_readsPart 76 (.if_icmp .eq 9) (9) 79 85 := ⟨by decide +kernel, rfl, rfl⟩
theorem d_M_readsPart_79 : mD m_M_readsPart 79 (.iload_n 2) 1 80 := ⟨by decide +kernel, rfl⟩
theorem d_M_readsPart_80 : mD m_M_readsPart 80 (.bipush 120) 2 82 := ⟨by decide +kernel, rfl⟩
theorem d_M_readsPart_82 : mJ m_M_readsPart 82 (.if_icmp .le 10) (10) 85 92 := ⟨by decide +kernel, rfl, rfl⟩
theorem d_M_readsPart_85 : mD m_M_readsPart 85 (.aload_n 0) 1 86 := ⟨by decide +kernel, rfl⟩
theorem d_M_readsPart_86 : mD m_M_readsPart 86 (.iload_n 1) 1 87 := ⟨by decide +kernel, rfl⟩
theorem d_M_readsPart_87 : mD m_M_readsPart 87 (.putfield 122) 3 90 := ⟨by decide +kernel, rfl⟩
theorem d_M_readsPart_90 : mD m_M_readsPart 90 (.iconst 0) 1 91 := ⟨by decide +kernel, rfl⟩
theorem d_M_readsPart_91 : mD m_M_readsPart 91 (.ireturn) 1 92 := ⟨by decide +kernel, rfl⟩
theorem d_M_readsPart_92 : mD m_M_readsPart 92 (.aload_n 0) 1 93 := ⟨by decide +kernel, rfl⟩
theorem d_M_readsPart_93 : mD m_M_readsPart 93 (.getfield 25) 3 96 := ⟨by decide +kernel, rfl⟩
theorem d_M_readsPart_96 : mD m_M_readsPart 96 (.aload_n 0) 1 97 := ⟨by decide +kernel, rfl⟩
theorem d_M_readsPart_97 : mD m_M_readsPart 97 (.getfield 125) 3 100 := ⟨by decide +kernel, rfl⟩
theorem d_M_readsPart_100 : mD m_M_readsPart 100 (.iload_n 2) 1 101 := ⟨by decide +kernel, rfl⟩
theorem d_M_readsPart_101 : mD m_M_readsPart 101 (.iastore) 1 102 := ⟨by decide +kernel, rfl⟩
theorem d_M_readsPart_102 : mD m_M_readsPart 102 (.aload_n 0) 1 103 := ⟨by decide +kernel, rfl⟩
theorem d_M_readsPart_103 : mD m_M_readsPart 103 (.dup) 1 104 := ⟨by decide +kernel, rfl⟩
theorem d_M_readsPart_104 : mD m_M_readsPart 104 (.getfield 125) 3 107 := ⟨by decide +kernel, rfl⟩
theorem d_M_readsPart_107 : mD m_M_readsPart 107 (.iconst 1) 1 108 := ⟨by decide +kernel, rfl⟩
theorem d_M_readsPart_108 : mD m_M_readsPart 108 (.iadd) 1 109 := ⟨by decide +kernel, rfl⟩
theorem d_M_readsPart_109 : mD m_M_readsPart 109 (.putfield 125) 3 112 := ⟨by decide +kernel, rfl⟩
theorem d_M_readsPart_112 : mD m_M_readsPart 112 (.iconst 1) 1 113 := ⟨by decide +kernel, rfl⟩
theorem d_M_readsPart_113 : mD m_M_readsPart 113 (.ireturn) 1 114 := ⟨by decide +kernel, rfl⟩
theorem d_M_seen_0 : mD m_M_seen 0 (.iload_n 1) 1 1 := ⟨by decide +kernel, rfl⟩
theorem d_M_seen_1 : mD m_M_seen 1 (.invokestatic 157) 3 4 := ⟨by decide +kernel, rfl⟩
theorem d_M_seen_4 : mJ m_M_seen 4 (.ifCond .eq 27) (27) 7 31 := ⟨by decide +kernel, rfl, rfl⟩
theorem d_M_seen_7 : mD m_M_seen 7 (.iload_n 2) 1 8 := ⟨by decide +kernel, rfl⟩
theorem d_M_seen_8 : mD m_M_seen 8 (.invokestatic 157) 3 11 := ⟨by decide +kernel, rfl⟩
theorem d_M_seen_11 : mJ m_M_seen 11 (.ifCond .eq 20) (20) 14 31 := ⟨by decide +kernel, rfl, rfl⟩
theorem d_M_seen_14 : mD m_M_seen 14 (.iload_n 1) 1 15 := ⟨by decide +kernel, rfl⟩
theorem d_M_seen_15 : mD m_M_seen 15 (.iload_n 2) 1 16 := ⟨by decide +kernel, rfl⟩
theorem d_M_seen_16 : mJ m_M_seen 16 (.if_icmp .eq 15) (15) 19 31 := ⟨by decide +kernel, rfl, rfl⟩
theorem d_M_seen_19 : mD m_M_seen 19 (.iload_n 3) 1 20 := ⟨by decide +kernel, rfl⟩
theorem d_M_seen_20 : mD m_M_seen 20 (.i2l) 1 21 := ⟨by decide +kernel, rfl⟩
theorem d_M_seen_21 : mD m_M_seen 21 (.lconst 0) 1 22 := ⟨by decide +kernel, rfl⟩
theorem d_M_seen_22 : mD m_M_seen 22 (.ldc2_w 261) 3 25 := ⟨by decide +kernel, rfl⟩
theorem d_M_seen_25 : mD m_M_seen 25 (.invokestatic 88) 3 28 := ⟨by decide +kernel, rfl⟩
theorem d_M_seen_28 : mJ m_M_seen 28 (.ifCond .ne 6) (6) 31 34 := ⟨by decide +kernel, rfl, rfl⟩
theorem d_M_seen_31 : mD m_M_seen 31 (.bipush (-2)) 2 33 := ⟨by decide +kernel, rfl⟩
theorem d_M_seen_33 : mD m_M_seen 33 (.ireturn) 1 34 := ⟨by decide +kernel, rfl⟩
theorem d_M_seen_34 : mD m_M_seen 34 (.aload_n 0) 1 35 := ⟨by decide +kernel, rfl⟩
theorem d_M_seen_35 : mD m_M_seen 35 (.getfield 263) 3 38 := ⟨by decide +kernel, rfl⟩
theorem d_M_seen_38 : mD m_M_seen 38 (.bipush 8) 2 40 := ⟨by decide +kernel, rfl⟩
theorem d_M_seen_40 : mJ m_M_seen 40 (.if_icmp .ne 6) (6) 43 46 := ⟨by decide +kernel, rfl, rfl⟩
theorem d_M_seen_43 : mD m_M_seen 43 (.bipush (-4)) 2 45 := ⟨by decide +kernel, rfl⟩
theorem d_M_seen_45 : mD m_M_seen 45 (.ireturn) 1 46 := ⟨by decide +kernel, rfl⟩
theorem d_M_seen_46 : mD m_M_seen 46 (.aload_n 0) 1 47 := ⟨by decide +kernel, rfl⟩
theorem d_M_seen_47 : mD m_M_seen 47 (.getfield 80) 3 50 := ⟨by decide +kernel, rfl⟩
theorem d_M_seen_50 : mD m_M_seen 50 (.iconst 3) 1 51 := ⟨by decide +kernel, rfl⟩
theorem d_M_seen_51 : mD m_M_seen 51 (.aload_n 0) 1 52 := ⟨by decide +kernel, rfl⟩
theorem d_M_seen_52 : mD m_M_seen 52 (.getfield 263) 3 55 := ⟨by decide +kernel, rfl⟩
theorem d_M_seen_55 : mD m_M_seen 55 (.imul) 1 56 := ⟨by decide +kernel, rfl⟩
theorem d_M_seen_56 : mD m_M_seen 56 (.iload_n 1) 1 57 := ⟨by decide +kernel, rfl⟩
theorem d_M_seen_57 : mD m_M_seen 57 (.iastore) 1 58 := ⟨by decide +kernel, rfl⟩
theorem d_M_seen_58 : mD m_M_seen 58 (.aload_n 0) 1 59 := ⟨by decide +kernel, rfl⟩
theorem d_M_seen_59 : mD m_M_seen 59 (.getfield 80) 3 62 := ⟨by decide +kernel, rfl⟩
theorem d_M_seen_62 : mD m_M_seen 62 (.iconst 3) 1 63 := ⟨by decide +kernel, rfl⟩
theorem d_M_seen_63 : mD m_M_seen 63 (.aload_n 0) 1 64 := ⟨by decide +kernel, rfl⟩
theorem d_M_seen_64 : mD m_M_seen 64 (.getfield 263) 3 67 := ⟨by decide +kernel, rfl⟩
theorem d_M_seen_67 : mD m_M_seen 67 (.imul) 1 68 := ⟨by decide +kernel, rfl⟩
theorem d_M_seen_68 : mD m_M_seen 68 (.iconst 1) 1 69 := ⟨by decide +kernel, rfl⟩
theorem d_M_seen_69 : mD m_M_seen 69 (.iadd) 1 70 := ⟨by decide +kernel, rfl⟩
theorem d_M_seen_70 : mD m_M_seen 70 (.iload_n 2) 1 71 := ⟨by decide +kernel, rfl⟩
theorem d_M_seen_71 : mD m_M_seen 71 (.iastore) 1 72 := ⟨by decide +kernel, rfl⟩
theorem d_M_seen_72 : mD m_M_seen 72 (.aload_n 0) 1 73 := ⟨by decide +kernel, rfl⟩
theorem d_M_seen_73 : mD m_M_seen 73 (.getfield 80) 3 76 := ⟨by decide +kernel, rfl⟩
theorem d_M_seen_76 : mD m_M_seen 76 (.iconst 3) 1 77 := ⟨by decide +kernel, rfl⟩
theorem d_M_seen_77 : mD m_M_seen 77 (.aload_n 0) 1 78 := ⟨by decide +kernel, rfl⟩
theorem d_M_seen_78 : mD m_M_seen 78 (.getfield 263) 3 81 := ⟨by decide +kernel, rfl⟩
theorem d_M_seen_81 : mD m_M_seen 81 (.imul) 1 82 := ⟨by decide +kernel, rfl⟩
theorem d_M_seen_82 : mD m_M_seen 82 (.iconst 2) 1 83 := ⟨by decide +kernel, rfl⟩
theorem d_M_seen_83 : mD m_M_seen 83 (.iadd) 1 84 := ⟨by decide +kernel, rfl⟩
theorem d_M_seen_84 : mD m_M_seen 84 (.iload_n 3) 1 85 := ⟨by decide +kernel, rfl⟩
theorem d_M_seen_85 : mD m_M_seen 85 (.iastore) 1 86 := ⟨by decide +kernel, rfl⟩
theorem d_M_seen_86 : mD m_M_seen 86 (.aload_n 0) 1 87 := ⟨by decide +kernel, rfl⟩
theorem d_M_seen_87 : mD m_M_seen 87 (.dup) 1 88 := ⟨by decide +kernel, rfl⟩
theorem d_M_seen_88 : mD m_M_seen 88 (.getfield 263) 3 91 := ⟨by decide +kernel, rfl⟩
theorem d_M_seen_91 : mD m_M_seen 91 (.iconst 1) 1 92 := ⟨by decide +kernel, rfl⟩
theorem d_M_seen_92 : mD m_M_seen 92 (.iadd) 1 93 := ⟨by decide +kernel, rfl⟩
theorem d_M_seen_93 : mD m_M_seen 93 (.putfield 263) 3 96 := ⟨by decide +kernel, rfl⟩
theorem d_M_seen_96 : mD m_M_seen 96 (.aload_n 0) 1 97 := ⟨by decide +kernel, rfl⟩
theorem d_M_seen_97 : mD m_M_seen 97 (.getfield 263) 3 100 := ⟨by decide +kernel, rfl⟩
theorem d_M_seen_100 : mD m_M_seen 100 (.ireturn) 1 101 := ⟨by decide +kernel, rfl⟩
theorem d_M_set_0 : mD m_M_set 0 (.iload_n 1) 1 1 := ⟨by decide +kernel, rfl⟩
theorem d_M_set_1 : mJ m_M_set 1 (.ifCond .ne 7) (7) 4 8 := ⟨by decide +kernel, rfl, rfl⟩
theorem d_M_set_4 : mD m_M_set 4 (.iconst 1) 1 5 := ⟨by decide +kernel, rfl⟩
theorem d_M_set_5 : mJ m_M_set 5 (.goto 4) (4) 8 9 := ⟨by decide +kernel, rfl, rfl⟩
theorem d_M_set_8 : mD m_M_set 8 (.iconst 0) 1 9 := ⟨by decide +kernel, rfl⟩
theorem d_M_set_9 : mD m_M_set 9 (.istore_n 3) 1 10 := ⟨by decide +kernel, rfl⟩
theorem d_M_set_10 : mD m_M_set 10 (.iload_n 1) 1 11 := ⟨by decide +kernel, rfl⟩
theorem d_M_set_11 : mJ m_M_set 11 (.ifCond .ne 7) (7) 14 18 := ⟨by decide +kernel, rfl, rfl⟩
theorem d_M_set_14 : mD m_M_set 14 (.iconst 4) 1 15 := ⟨by decide +kernel, rfl⟩
theorem d_M_set_15 : mJ m_M_set 15 (.goto 24) (24) 18 39 := ⟨by decide +kernel, rfl, rfl⟩
theorem d_M_set_18 : mD m_M_set 18 (.iload_n 1) 1 19 := ⟨by decide +kernel, rfl⟩
theorem d_M_set_19 : mD m_M_set 19 (.iconst 1) 1 20 := ⟨by decide +kernel, rfl⟩
theorem d_M_set_20 : mJ m_M_set 20 (.if_icmp .ne 7) (7) 23 27 := ⟨by decide +kernel, rfl, rfl⟩
theorem d_M_set_23 : mD m_M_set 23 (.iconst 2) 1 24 := ⟨by decide +kernel, rfl⟩
theorem d_M_set_24 : mJ m_M_set 24 (.goto 15) (15) 27 39 := ⟨by decide +kernel, rfl, rfl⟩
theorem d_M_set_27 : mD m_M_set 27 (.iload_n 1) 1 28 := ⟨by decide +kernel, rfl⟩
theorem d_M_set_28 : mD m_M_set 28 (.iconst 2) 1 29 := ⟨by decide +kernel, rfl⟩
theorem d_M_set_29 : mJ m_M_set 29 (.if_icmp .ne 8) (8) 32 37 := ⟨by decide +kernel, rfl, rfl⟩
theorem d_M_set_32 : mD m_M_set 32 (.bipush 99) 2 34 := ⟨by decide +kernel, rfl⟩
theorem d_M_set_34 : mJ m_M_set 34 (.goto 5) (5) 37 39 := ⟨by decide +kernel, rfl, rfl⟩
theorem d_M_set_37 : mD m_M_set 37 (.bipush 9) 2 39 := ⟨by decide +kernel, rfl⟩
theorem d_M_set_39 : mD m_M_set 39 (.istore 4) 2 41 := ⟨by decide +kernel, rfl⟩
theorem d_M_set_41 : mD m_M_set 41 (.iload_n 1) 1 42 := ⟨by decide +kernel, rfl⟩
theorem d_M_set_42 : mD m_M_set 42 (.i2l) 1 43 := ⟨by decide +kernel, rfl⟩
theorem d_M_set_43 : mD m_M_set 43 (.lconst 0) 1 44 := ⟨by decide +kernel, rfl⟩
theorem d_M_set_44 : mD m_M_set 44 (.ldc2_w 96) 3 47 := ⟨by decide +kernel, rfl⟩
theorem d_M_set_47 : mD m_M_set 47 (.invokestatic 88) 3 50 := ⟨by decide +kernel, rfl⟩
theorem d_M_set_50 : mJ m_M_set 50 (.ifCond .eq 16) (16) 53 66 := ⟨by decide +kernel, rfl, rfl⟩
theorem d_M_set_53 : mD m_M_set 53 (.iload_n 2) 1 54 := ⟨by decide +kernel, rfl⟩
theorem d_M_set_54 : mD m_M_set 54 (.i2l) 1 55 := ⟨by decide +kernel, rfl⟩
theorem d_M_set_55 : mD m_M_set 55 (.iload_n 3) 1 56 := ⟨by decide +kernel, rfl⟩
theorem d_M_set_56 : mD m_M_set 56 (.i2l) 1 57 := ⟨by decide +kernel, rfl⟩
theorem d_M_set_57 : mD m_M_set 57 (.iload 4) 2 59 := ⟨by decide +kernel, rfl⟩
theorem d_M_set_59 : mD m_M_set 59 (.i2l) 1 60 := ⟨by decide +kernel, rfl⟩
theorem d_M_set_60 : mD m_M_set 60 (.invokestatic 88) 3 63 := ⟨by decide +kernel, rfl⟩
theorem d_M_set_63 : mJ m_M_set 63 (.ifCond .ne 6) (6) 66 69 := ⟨by decide +kernel, rfl, rfl⟩
theorem d_M_set_66 : mD m_M_set 66 (.bipush (-2)) 2 68 := ⟨by decide +kernel, rfl⟩
theorem d_M_set_68 : mD m_M_set 68 (.ireturn) 1 69 := ⟨by decide +kernel, rfl⟩
theorem d_M_set_69 : mD m_M_set 69 (.aload_n 0) 1 70 := ⟨by decide +kernel, rfl⟩
theorem d_M_set_70 : mD m_M_set 70 (.getfield 37) 3 73 := ⟨by decide +kernel, rfl⟩
theorem d_M_set_73 : mD m_M_set 73 (.iload_n 1) 1 74 := ⟨by decide +kernel, rfl⟩
theorem d_M_set_74 : mD m_M_set 74 (.iaload) 1 75 := ⟨by decide +kernel, rfl⟩
theorem d_M_set_75 : mD m_M_set 75 (.istore 5) 2 77 := ⟨by decide +kernel, rfl⟩
theorem d_M_set_77 : mD m_M_set 77 (.aload_n 0) 1 78 := ⟨by decide +kernel, rfl⟩
theorem d_M_set_78 : mD m_M_set 78 (.getfield 37) 3 81 := ⟨by decide +kernel, rfl⟩
theorem d_M_set_81 : mD m_M_set 81 (.iload_n 1) 1 82 := ⟨by decide +kernel, rfl⟩
theorem d_M_set_82 : mD m_M_set 82 (.iload_n 2) 1 83 := ⟨by decide +kernel, rfl⟩
theorem d_M_set_83 : mD m_M_set 83 (.iastore) 1 84 := ⟨by decide +kernel, rfl⟩
theorem d_M_set_84 : mD m_M_set 84 (.iload 5) 2 86 := ⟨by decide +kernel, rfl⟩
theorem d_M_set_86 : mD m_M_set 86 (.ireturn) 1 87 := ⟨by decide +kernel, rfl⟩
theorem d_M_share_0 : mD m_M_share 0 (.aload_n 0) 1 1 := ⟨by decide +kernel, rfl⟩
theorem d_M_share_1 : mD m_M_share 1 (.iload_n 1) 1 2 := ⟨by decide +kernel, rfl⟩
theorem d_M_share_2 : mD m_M_share 2 (.invokevirtual 148) 3 5 := ⟨by decide +kernel, rfl⟩
theorem d_M_share_5 : mJ m_M_share 5 (.ifCond .eq 19) (19) 8 24 := ⟨by decide +kernel, rfl, rfl⟩
theorem d_M_share_8 : mD m_M_share 8 (.iload_n 2) 1 9 := ⟨by decide +kernel, rfl⟩
theorem d_M_share_9 : mD m_M_share 9 (.invokestatic 151) 3 12 := ⟨by decide +kernel, rfl⟩
theorem d_M_share_12 : mJ m_M_share 12 (.ifCond .eq 12) (12) 15 24 := ⟨by decide +kernel, rfl, rfl⟩
theorem d_M_share_15 : mD m_M_share 15 (.aload_n 0) 1 16 := ⟨by decide +kernel, rfl⟩
theorem d_M_share_16 : mD m_M_share 16 (.iload_n 1) 1 17 := ⟨by decide +kernel, rfl⟩
theorem d_M_share_17 : mD m_M_share 17 (.iload_n 2) 1 18 := ⟨by decide +kernel, rfl⟩
theorem d_M_share_18 : mD m_M_share 18 (.invokevirtual 243) 3 21 := ⟨by decide +kernel, rfl⟩
theorem d_M_share_21 : mJ m_M_share 21 (.goto 8) (8) 24 29 := ⟨by decide +kernel, rfl, rfl⟩
theorem d_M_share_24 : mD m_M_share 24 (.bipush (-2)) 2 26 := ⟨by decide +kernel, rfl⟩
theorem d_M_share_26 : mD m_M_share 26 (.invokestatic 225) 3 29 := ⟨by decide +kernel, rfl⟩
theorem d_M_share_29 : mD m_M_share 29 (.lreturn) 1 30 := ⟨by decide +kernel, rfl⟩
theorem d_M_shareOf_0 : mD m_M_shareOf 0 (.aload_n 0) 1 1 := ⟨by decide +kernel, rfl⟩
theorem d_M_shareOf_1 : mD m_M_shareOf 1 (.getfield 125) 3 4 := ⟨by decide +kernel, rfl⟩
theorem d_M_shareOf_4 : mD m_M_shareOf 4 (.bipush 6) 2 6 := ⟨by decide +kernel, rfl⟩
theorem d_M_shareOf_6 : mJ m_M_shareOf 6 (.if_icmp .le 9) (9) 9 15 := ⟨by decide +kernel, rfl, rfl⟩
theorem d_M_shareOf_9 : mD m_M_shareOf 9 (.bipush (-4)) 2 11 := ⟨by decide +kernel, rfl⟩
theorem d_M_shareOf_11 : mD m_M_shareOf 11 (.invokestatic 225) 3 14 := ⟨by decide +kernel, rfl⟩
theorem d_M_shareOf_14 : mD m_M_shareOf 14 (.lreturn) 1 15 := ⟨by decide +kernel, rfl⟩
theorem d_M_shareOf_15 : mD m_M_shareOf 15 (.aload_n 0) 1 16 := ⟨by decide +kernel, rfl⟩
theorem d_M_shareOf_16 : mD m_M_shareOf 16 (.invokevirtual 237) 3 19 := ⟨by decide +kernel, rfl⟩
theorem d_M_shareOf_19 : mJ m_M_shareOf 19 (.ifCond .ne 9) (9) 22 28 := ⟨by decide +kernel, rfl, rfl⟩
theorem d_M_shareOf_22 : mD m_M_shareOf 22 (.bipush (-3)) 2 24 := ⟨by decide +kernel, rfl⟩
theorem d_M_shareOf_24 : mD m_M_shareOf 24 (.invokestatic 225) 3 27 := ⟨by decide +kernel, rfl⟩
theorem d_M_shareOf_27 : mD m_M_shareOf 27 (.lreturn) 1 28 := ⟨by decide +kernel, rfl⟩
theorem d_M_shareOf_28 : mD m_M_shareOf 28 (.lconst 0) 1 29 := ⟨by decide +kernel, rfl⟩
theorem d_M_shareOf_29 : mD m_M_shareOf 29 (.lstore_n 3) 1 30 := ⟨by decide +kernel, rfl⟩
theorem d_M_shareOf_30 : mD m_M_shareOf 30 (.iconst 0) 1 31 := ⟨by decide +kernel, rfl⟩
theorem d_M_shareOf_31 : mD m_M_shareOf 31 (.istore 5) 2 33 := ⟨by decide +kernel, rfl⟩
theorem d_M_shareOf_33 : mD m_M_shareOf 33 (.iload 5) 2 35 := ⟨by decide +kernel, rfl⟩
theorem d_M_shareOf_35 : mD m_M_shareOf 35 (.aload_n 0) 1 36 := ⟨by decide +kernel, rfl⟩
theorem d_M_shareOf_36 : mD m_M_shareOf 36 (.invokevirtual 184) 3 39 := ⟨by decide +kernel, rfl⟩
theorem d_M_shareOf_39 : mJ m_M_shareOf 39 (.if_icmp .gt 67) (67) 42 106 := ⟨by decide +kernel, rfl, rfl⟩
theorem d_M_shareOf_42 : mD m_M_shareOf 42 (.iload 5) 2 44 := ⟨by decide +kernel, rfl⟩
theorem d_M_shareOf_44 : mD m_M_shareOf 44 (.iload_n 1) 1 45 := ⟨by decide +kernel, rfl⟩
theorem d_M_shareOf_45 : mD m_M_shareOf 45 (.invokestatic 177) 3 48 := ⟨by decide +kernel, rfl⟩
theorem d_M_shareOf_48 : mJ m_M_shareOf 48 (.ifCond .ne 52) (52) 51 100 := ⟨by decide +kernel, rfl, rfl⟩
theorem d_M_shareOf_51 : mD m_M_shareOf 51 (.iload 5) 2 53 := ⟨by decide +kernel, rfl⟩
theorem d_M_shareOf_53 : mD m_M_shareOf 53 (.invokestatic 173) 3 56 := ⟨by decide +kernel, rfl⟩
theorem d_M_shareOf_56 : mD m_M_shareOf 56 (.istore 6) 2 58 := ⟨by decide +kernel, rfl⟩
theorem d_M_shareOf_58 : mD m_M_shareOf 58 (.lload_n 3) 1 59 := ⟨by decide +kernel, rfl⟩
theorem d_M_shareOf_59 : mD m_M_shareOf 59 (.iload 6) 2 61 := ⟨by decide +kernel, rfl⟩
theorem d_M_shareOf_61 : mD m_M_shareOf 61 (.invokestatic 240) 3 64 := ⟨by decide +kernel, rfl⟩
theorem d_M_shareOf_64 : mD m_M_shareOf 64 (.aload_n 0) 1 65 := ⟨by decide +kernel, rfl⟩
theorem d_M_shareOf_65 : mD m_M_shareOf 65 (.getfield 125) 3 68 := ⟨by decide +kernel, rfl⟩
theorem d_M_shareOf_68 : mD m_M_shareOf 68 (.iconst 1) 1 69 := ⟨by decide +kernel, rfl⟩
theorem d_M_shareOf_69 : mD m_M_shareOf 69 (.isub) 1 70 := ⟨by decide +kernel, rfl⟩
theorem d_M_shareOf_70 : mD m_M_shareOf 70 (.iload 6) 2 72 := ⟨by decide +kernel, rfl⟩
theorem d_M_shareOf_72 : mD m_M_shareOf 72 (.isub) 1 73 := ⟨by decide +kernel, rfl⟩
theorem d_M_shareOf_73 : mD m_M_shareOf 73 (.invokestatic 240) 3 76 := ⟨by decide +kernel, rfl⟩
theorem d_M_shareOf_76 : mD m_M_shareOf 76 (.lmul) 1 77 := ⟨by decide +kernel, rfl⟩
theorem d_M_shareOf_77 : mD m_M_shareOf 77 (.aload_n 0) 1 78 := ⟨by decide +kernel, rfl⟩
theorem d_M_shareOf_78 : mD m_M_shareOf 78 (.getfield 68) 3 81 := ⟨by decide +kernel, rfl⟩
theorem d_M_shareOf_81 : mD m_M_shareOf 81 (.iload 5) 2 83 := ⟨by decide +kernel, rfl⟩
theorem d_M_shareOf_83 : mD m_M_shareOf 83 (.iconst 1) 1 84 := ⟨by decide +kernel, rfl⟩
theorem d_M_shareOf_84 : mD m_M_shareOf 84 (.iload_n 1) 1 85 := ⟨by decide +kernel, rfl⟩
theorem d_M_shareOf_85 : mD m_M_shareOf 85 (.ishl) 1 86 := ⟨by decide +kernel, rfl⟩
theorem d_M_shareOf_86 : mD m_M_shareOf 86 (.ior) 1 87 := ⟨by decide +kernel, rfl⟩
theorem d_M_shareOf_87 : mD m_M_shareOf 87 (.iaload) 1 88 := ⟨by decide +kernel, rfl⟩
theorem d_M_shareOf_88 : mD m_M_shareOf 88 (.aload_n 0) 1 89 := ⟨by decide +kernel, rfl⟩
theorem d_M_shareOf_89 : mD m_M_shareOf 89 (.getfield 68) 3 92 := ⟨by decide +kernel, rfl⟩
theorem d_M_shareOf_92 : mD m_M_shareOf 92 (.iload 5) 2 94 := ⟨by decide +kernel, rfl⟩
theorem d_M_shareOf_94 : mD m_M_shareOf 94 (.iaload) 1 95 := ⟨by decide +kernel, rfl⟩
theorem d_M_shareOf_95 : mD m_M_shareOf 95 (.isub) 1 96 := ⟨by decide +kernel, rfl⟩
theorem d_M_shareOf_96 : mD m_M_shareOf 96 (.i2l) 1 97 := ⟨by decide +kernel, rfl⟩
theorem d_M_shareOf_97 : mD m_M_shareOf 97 (.lmul) 1 98 := ⟨by decide +kernel, rfl⟩
theorem d_M_shareOf_98 : mD m_M_shareOf 98 (.ladd) 1 99 := ⟨by decide +kernel, rfl⟩
theorem d_M_shareOf_99 : mD m_M_shareOf 99 (.lstore_n 3) 1 100 := ⟨by decide +kernel, rfl⟩
theorem d_M_shareOf_100 : mD m_M_shareOf 100 (.iinc 5 1) 3 103 := ⟨by decide +kernel, rfl⟩
theorem d_M_shareOf_103 : mJ m_M_shareOf 103 (.goto (-70)) (-70) 106 33 := ⟨by decide +kernel, rfl, rfl⟩
theorem d_M_shareOf_106 : mD m_M_shareOf 106 (.lload_n 3) 1 107 := ⟨by decide +kernel, rfl⟩
theorem d_M_shareOf_107 : mD m_M_shareOf 107 (.aload_n 0) 1 108 := ⟨by decide +kernel, rfl⟩
theorem d_M_shareOf_108 : mD m_M_shareOf 108 (.getfield 125) 3 111 := ⟨by decide +kernel, rfl⟩
theorem d_M_shareOf_111 : mD m_M_shareOf 111 (.invokestatic 240) 3 114 := ⟨by decide +kernel, rfl⟩
theorem d_M_shareOf_114 : mD m_M_shareOf 114 (.iload_n 2) 1 115 := ⟨by decide +kernel, rfl⟩
theorem d_M_shareOf_115 : mD m_M_shareOf 115 (.invokestatic 229) 3 118 := ⟨by decide +kernel, rfl⟩
theorem d_M_shareOf_118 : mD m_M_shareOf 118 (.lreturn) 1 119 := ⟨by decide +kernel, rfl⟩
theorem d_M_sheet_0 : mD m_M_sheet 0 (.iload_n 1) 1 1 := ⟨by decide +kernel, rfl⟩
theorem d_M_sheet_1 : mD m_M_sheet 1 (.invokestatic 98) 3 4 := ⟨by decide +kernel, rfl⟩
theorem d_M_sheet_4 : mJ m_M_sheet 4 (.ifCond .eq 21) (21) 7 25 := ⟨by decide +kernel, rfl, rfl⟩
theorem d_M_sheet_7 : mD m_M_sheet 7 (.iload_n 2) 1 8 := ⟨by decide +kernel, rfl⟩
theorem d_M_sheet_8 : mD m_M_sheet 8 (.i2l) 1 9 := ⟨by decide +kernel, rfl⟩
theorem d_M_sheet_9 : mD m_M_sheet 9 (.lconst 0) 1 10 := ⟨by decide +kernel, rfl⟩
theorem d_M_sheet_10 : mD m_M_sheet 10 (.ldc2_w 102) 3 13 := ⟨by decide +kernel, rfl⟩
theorem d_M_sheet_13 : mD m_M_sheet 13 (.invokestatic 88) 3 16 := ⟨by decide +kernel, rfl⟩
theorem d_M_sheet_16 : mJ m_M_sheet 16 (.ifCond .eq 9) (9) 19 25 := ⟨by decide +kernel, rfl, rfl⟩
theorem d_M_sheet_19 : mD m_M_sheet 19 (.iload_n 3) 1 20 := ⟨by decide +kernel, rfl⟩
theorem d_M_sheet_20 : mD m_M_sheet 20 (.bipush 60) 2 22 := ⟨by decide +kernel, rfl⟩
theorem d_M_sheet_22 : mJ m_M_sheet 22 (.if_icmp .le 6) (6) 25 28 := ⟨by decide +kernel, rfl, rfl⟩
theorem d_M_sheet_25 : mD m_M_sheet 25 (.bipush (-2)) 2 27 := ⟨by decide +kernel, rfl⟩
theorem d_M_sheet_27 : mD m_M_sheet 27 (.ireturn) 1 28 := ⟨by decide +kernel, rfl⟩
theorem d_M_sheet_28 : mD m_M_sheet 28 (.iload_n 3) 1 29 := ⟨by decide +kernel, rfl⟩
theorem d_M_sheet_29 : mJ m_M_sheet 29 (.ifCond .ge 9) (9) 32 38 := ⟨by decide +kernel, rfl, rfl⟩
theorem d_M_sheet_32 : mD m_M_sheet 32 (.aload_n 0) 1 33 := ⟨by decide +kernel, rfl⟩
theorem d_M_sheet_33 : mD m_M_sheet 33 (.iconst 5) 1 34 := ⟨by decide +kernel, rfl⟩
theorem d_M_sheet_34 : mD m_M_sheet 34 (.invokevirtual 104) 3 37 := ⟨by decide +kernel, rfl⟩
theorem d_M_sheet_37 : mD m_M_sheet 37 (.ireturn) 1 38 := ⟨by decide +kernel, rfl⟩
theorem d_M_sheet_38 : mD m_M_sheet 38 (.aload_n 0) 1 39 := ⟨by decide +kernel, rfl⟩
theorem d_M_sheet_39 : mD m_M_sheet 39 (.getfield 7) 3 42 := ⟨by decide +kernel, rfl⟩
theorem d_M_sheet_42 : mD m_M_sheet 42 (.iload_n 1) 1 43 := ⟨by decide +kernel, rfl⟩
theorem d_M_sheet_43 : mD m_M_sheet 43 (.iload_n 2) 1 44 := ⟨by decide +kernel, rfl⟩
theorem d_M_sheet_44 : mD m_M_sheet 44 (.iastore) 1 45 := ⟨by decide +kernel, rfl⟩
theorem d_M_sheet_45 : mD m_M_sheet 45 (.aload_n 0) 1 46 := ⟨by decide +kernel, rfl⟩
theorem d_M_sheet_46 : mD m_M_sheet 46 (.getfield 13) 3 49 := ⟨by decide +kernel, rfl⟩
theorem d_M_sheet_49 : mD m_M_sheet 49 (.iload_n 1) 1 50 := ⟨by decide +kernel, rfl⟩
theorem d_M_sheet_50 : mD m_M_sheet 50 (.iload_n 3) 1 51 := ⟨by decide +kernel, rfl⟩
theorem d_M_sheet_51 : mD m_M_sheet 51 (.iastore) 1 52 := ⟨by decide +kernel, rfl⟩
theorem d_M_sheet_52 : mD m_M_sheet 52 (.iconst 0) 1 53 := ⟨by decide +kernel, rfl⟩
theorem d_M_sheet_53 : mD m_M_sheet 53 (.istore 4) 2 55 := ⟨by decide +kernel, rfl⟩
theorem d_M_sheet_55 : mD m_M_sheet 55 (.iload 4) 2 57 := ⟨by decide +kernel, rfl⟩
theorem d_M_sheet_57 : mD m_M_sheet 57 (.iload_n 3) 1 58 := ⟨by decide +kernel, rfl⟩
theorem d_M_sheet_58 : mJ m_M_sheet 58 (.if_icmp .ge 22) (22) 61 80 := ⟨by decide +kernel, rfl, rfl⟩
theorem d_M_sheet_61 : mD m_M_sheet 61 (.aload_n 0) 1 62 := ⟨by decide +kernel, rfl⟩
theorem d_M_sheet_62 : mD m_M_sheet 62 (.getfield 16) 3 65 := ⟨by decide +kernel, rfl⟩
theorem d_M_sheet_65 : mD m_M_sheet 65 (.bipush 60) 2 67 := ⟨by decide +kernel, rfl⟩
theorem d_M_sheet_67 : mD m_M_sheet 67 (.iload_n 1) 1 68 := ⟨by decide +kernel, rfl⟩
theorem d_M_sheet_68 : mD m_M_sheet 68 (.imul) 1 69 := ⟨by decide +kernel, rfl⟩
theorem d_M_sheet_69 : mD m_M_sheet 69 (.iload 4) 2 71 := ⟨by decide +kernel, rfl⟩
theorem d_M_sheet_71 : mD m_M_sheet 71 (.iadd) 1 72 := ⟨by decide +kernel, rfl⟩
theorem d_M_sheet_72 : mD m_M_sheet 72 (.iconst 0) 1 73 := ⟨by decide +kernel, rfl⟩
theorem d_M_sheet_73 : mD m_M_sheet 73 (.iastore) 1 74 := ⟨by decide +kernel, rfl⟩
theorem d_M_sheet_74 : mD m_M_sheet 74 (.iinc 4 1) 3 77 := ⟨by decide +kernel, rfl⟩
theorem d_M_sheet_77 : mJ m_M_sheet 77 (.goto (-22)) (-22) 80 55 := ⟨by decide +kernel, rfl, rfl⟩
theorem d_M_sheet_80 : mD m_M_sheet 80 (.iload_n 3) 1 81 := ⟨by decide +kernel, rfl⟩
theorem d_M_sheet_81 : mD m_M_sheet 81 (.ireturn) 1 82 := ⟨by decide +kernel, rfl⟩
theorem d_M_toldBoat_0 : mD m_M_toldBoat 0 (.iconst 0) 1 1 := ⟨by decide +kernel, rfl⟩
theorem d_M_toldBoat_1 : mD m_M_toldBoat 1 (.istore_n 3) 1 2 := ⟨by decide +kernel, rfl⟩
theorem d_M_toldBoat_2 : mD m_M_toldBoat 2 (.iconst 0) 1 3 := ⟨by decide +kernel, rfl⟩
theorem d_M_toldBoat_3 : mD m_M_toldBoat 3 (.istore 4) 2 5 := ⟨by decide +kernel, rfl⟩
theorem d_M_toldBoat_5 : mD m_M_toldBoat 5 (.iload 4) 2 7 := ⟨by decide +kernel, rfl⟩
theorem d_M_toldBoat_7 : mD m_M_toldBoat 7 (.aload_n 0) 1 8 := ⟨by decide +kernel, rfl⟩
theorem d_M_toldBoat_8 : mD m_M_toldBoat 8 (.getfield 125) 3 11 := ⟨by decide +kernel, rfl⟩
theorem d_M_toldBoat_11 : mJ m_M_toldBoat 11 (.if_icmp .ge 36) (36) 14 47 := ⟨by decide +kernel, rfl, rfl⟩
theorem d_M_toldBoat_14 : mD m_M_toldBoat 14 (.iload_n 3) 1 15 := ⟨by decide +kernel, rfl⟩
theorem d_M_toldBoat_15 : mD m_M_toldBoat 15 (.aload_n 0) 1 16 := ⟨by decide +kernel, rfl⟩
theorem d_M_toldBoat_16 : mD m_M_toldBoat 16 (.getfield 16) 3 19 := ⟨by decide +kernel, rfl⟩
theorem d_M_toldBoat_19 : mD m_M_toldBoat 19 (.bipush 60) 2 21 := ⟨by decide +kernel, rfl⟩
theorem d_M_toldBoat_21 : mD m_M_toldBoat 21 (.iload_n 1) 1 22 := ⟨by decide +kernel, rfl⟩
theorem d_M_toldBoat_22 : mD m_M_toldBoat 22 (.imul) 1 23 := ⟨by decide +kernel, rfl⟩
theorem d_M_toldBoat_23 : mD m_M_toldBoat 23 (.iload 4) 2 25 := ⟨by decide +kernel, rfl⟩
theorem d_M_toldBoat_25 : mD m_M_toldBoat 25 (.iadd) 1 26 := ⟨by decide +kernel, rfl⟩
theorem d_M_toldBoat_26 : mD m_M_toldBoat 26 (.iaload) 1 27 := ⟨by decide +kernel, rfl⟩
theorem d_M_toldBoat_27 : mD m_M_toldBoat 27 (.iload_n 2) 1 28 := ⟨by decide +kernel, rfl⟩
theorem d_M_toldBoat_28 : mJ m_M_toldBoat 28 (.if_icmp .ne 10) (10) 31 38 := ⟨by decide +kernel, rfl, rfl⟩
theorem d_M_toldBoat_31 : mD m_M_toldBoat 31 (.iconst 1) 1 32 := ⟨by decide +kernel, rfl⟩
theorem d_M_toldBoat_32 : mD m_M_toldBoat 32 (.iload 4) 2 34 := ⟨by decide +kernel, rfl⟩
theorem d_M_toldBoat_34 : mD m_M_toldBoat 34 (.ishl) 1 35 := ⟨by decide +kernel, rfl⟩
theorem d_M_toldBoat_35 : mJ m_M_toldBoat 35 (.goto 4) (4) 38 39 := ⟨by decide +kernel, rfl, rfl⟩
theorem d_M_toldBoat_38 : mD m_M_toldBoat 38 (.iconst 0) 1 39 := ⟨by decide +kernel, rfl⟩
theorem d_M_toldBoat_39 : mD m_M_toldBoat 39 (.ior) 1 40 := ⟨by decide +kernel, rfl⟩
theorem d_M_toldBoat_40 : mD m_M_toldBoat 40 (.istore_n 3) 1 41 := ⟨by decide +kernel, rfl⟩
theorem d_M_toldBoat_41 : mD m_M_toldBoat 41 (.iinc 4 1) 3 44 := ⟨by decide +kernel, rfl⟩
theorem d_M_toldBoat_44 : mJ m_M_toldBoat 44 (.goto (-39)) (-39) 47 5 := ⟨by decide +kernel, rfl, rfl⟩
theorem d_M_toldBoat_47 : mD m_M_toldBoat 47 (.iload_n 3) 1 48 := ⟨by decide +kernel, rfl⟩
theorem d_M_toldBoat_48 : mD m_M_toldBoat 48 (.ireturn) 1 49 := ⟨by decide +kernel, rfl⟩
theorem d_M_toldOf_0 : mD m_M_toldOf 0 (.aload_n 0) 1 1 := ⟨by decide +kernel, rfl⟩
theorem d_M_toldOf_1 : mD m_M_toldOf 1 (.getfield 25) 3 4 := ⟨by decide +kernel, rfl⟩
theorem d_M_toldOf_4 : mD m_M_toldOf 4 (.iload_n 1) 1 5 := ⟨by decide +kernel, rfl⟩
theorem d_M_toldOf_5 : mD m_M_toldOf 5 (.iaload) 1 6 := ⟨by decide +kernel, rfl⟩
theorem d_M_toldOf_6 : mD m_M_toldOf 6 (.aload_n 0) 1 7 := ⟨by decide +kernel, rfl⟩
theorem d_M_toldOf_7 : mD m_M_toldOf 7 (.getfield 34) 3 10 := ⟨by decide +kernel, rfl⟩
theorem d_M_toldOf_10 : mD m_M_toldOf 10 (.iload_n 1) 1 11 := ⟨by decide +kernel, rfl⟩
theorem d_M_toldOf_11 : mD m_M_toldOf 11 (.iaload) 1 12 := ⟨by decide +kernel, rfl⟩
theorem d_M_toldOf_12 : mD m_M_toldOf 12 (.iadd) 1 13 := ⟨by decide +kernel, rfl⟩
theorem d_M_toldOf_13 : mD m_M_toldOf 13 (.istore_n 2) 1 14 := ⟨by decide +kernel, rfl⟩
theorem d_M_toldOf_14 : mD m_M_toldOf 14 (.iload_n 2) 1 15 := ⟨by decide +kernel, rfl⟩
theorem d_M_toldOf_15 : mJ m_M_toldOf 15 (.ifCond .ge 7) (7) 18 22 := ⟨by decide +kernel, rfl, rfl⟩
theorem d_M_toldOf_18 : mD m_M_toldOf 18 (.iconst 0) 1 19 := ⟨by decide +kernel, rfl⟩
theorem d_M_toldOf_19 : mJ m_M_toldOf 19 (.goto 4) (4) 22 23 := ⟨by decide +kernel, rfl, rfl⟩
theorem d_M_toldOf_22 : mD m_M_toldOf 22 (.iload_n 2) 1 23 := ⟨by decide +kernel, rfl⟩
theorem d_M_toldOf_23 : mD m_M_toldOf 23 (.ireturn) 1 24 := ⟨by decide +kernel, rfl⟩
theorem d_M_tries_0 : mD m_M_tries 0 (.iload_n 1) 1 1 := ⟨by decide +kernel, rfl⟩
theorem d_M_tries_1 : mD m_M_tries 1 (.iload_n 2) 1 2 := ⟨by decide +kernel, rfl⟩
theorem d_M_tries_2 : mD m_M_tries 2 (.iconst (-1)) 1 3 := ⟨by decide +kernel, rfl⟩
theorem d_M_tries_3 : mD m_M_tries 3 (.ixor) 1 4 := ⟨by decide +kernel, rfl⟩
theorem d_M_tries_4 : mD m_M_tries 4 (.iand) 1 5 := ⟨by decide +kernel, rfl⟩
theorem d_M_tries_5 : mD m_M_tries 5 (.istore 4) 2 7 := ⟨by decide +kernel, rfl⟩
theorem d_M_tries_7 : mD m_M_tries 7 (.aload_n 0) 1 8 := ⟨by decide +kernel, rfl⟩
theorem d_M_tries_8 : mD m_M_tries 8 (.getfield 52) 3 11 := ⟨by decide +kernel, rfl⟩
theorem d_M_tries_11 : mD m_M_tries 11 (.iload_n 2) 1 12 := ⟨by decide +kernel, rfl⟩
theorem d_M_tries_12 : mD m_M_tries 12 (.baload) 1 13 := ⟨by decide +kernel, rfl⟩
theorem d_M_tries_13 : mJ m_M_tries 13 (.ifCond .eq 28) (28) 16 41 := ⟨by decide +kernel, rfl, rfl⟩
theorem d_M_tries_16 : mD m_M_tries 16 (.aload_n 0) 1 17 := ⟨by decide +kernel, rfl⟩
theorem d_M_tries_17 : mD m_M_tries 17 (.getfield 49) 3 20 := ⟨by decide +kernel, rfl⟩
theorem d_M_tries_20 : mD m_M_tries 20 (.iload_n 2) 1 21 := ⟨by decide +kernel, rfl⟩
theorem d_M_tries_21 : mD m_M_tries 21 (.iaload) 1 22 := ⟨by decide +kernel, rfl⟩
theorem d_M_tries_22 : mD m_M_tries 22 (.iload_n 3) 1 23 := ⟨by decide +kernel, rfl⟩
theorem d_M_tries_23 : mD m_M_tries 23 (.iand) 1 24 := ⟨by decide +kernel, rfl⟩
theorem d_M_tries_24 : mD m_M_tries 24 (.iload_n 2) 1 25 := ⟨by decide +kernel, rfl⟩
theorem d_M_tries_25 : mD m_M_tries 25 (.iconst (-1)) 1 26 := ⟨by decide +kernel, rfl⟩
theorem d_M_tries_26 : mD m_M_tries 26 (.ixor) 1 27 := ⟨by decide +kernel, rfl⟩
theorem d_M_tries_27 : mD m_M_tries 27 (.iand) 1 28 := ⟨by decide +kernel, rfl⟩
theorem d_M_tries_28 : mJ m_M_tries 28 (.ifCond .ne 13) (13) 31 41 := ⟨by decide +kernel, rfl, rfl⟩
theorem d_M_tries_31 : mD m_M_tries 31 (.aload_n 0) 1 32 := ⟨by decide +kernel, rfl⟩
theorem d_M_tries_32 : mD m_M_tries 32 (.getfield 65) 3 35 := ⟨by decide +kernel, rfl⟩
theorem d_M_tries_35 : mD m_M_tries 35 (.iload 4) 2 37 := ⟨by decide +kernel, rfl⟩
theorem d_M_tries_37 : mD m_M_tries 37 (.iaload) 1 38 := ⟨by decide +kernel, rfl⟩
theorem d_M_tries_38 : mJ m_M_tries 38 (.ifCond .ge 4) (4) 41 42 := ⟨by decide +kernel, rfl, rfl⟩
theorem d_M_tries_41 : mD m_M_tries 41 (.return_) 1 42 := ⟨by decide +kernel, rfl⟩
theorem d_M_tries_42 : mD m_M_tries 42 (.aload_n 0) 1 43 := ⟨by decide +kernel, rfl⟩
theorem d_M_tries_43 : mD m_M_tries 43 (.getfield 46) 3 46 := ⟨by decide +kernel, rfl⟩
theorem d_M_tries_46 : mD m_M_tries 46 (.iload_n 2) 1 47 := ⟨by decide +kernel, rfl⟩
theorem d_M_tries_47 : mD m_M_tries 47 (.iaload) 1 48 := ⟨by decide +kernel, rfl⟩
theorem d_M_tries_48 : mD m_M_tries 48 (.aload_n 0) 1 49 := ⟨by decide +kernel, rfl⟩
theorem d_M_tries_49 : mD m_M_tries 49 (.getfield 56) 3 52 := ⟨by decide +kernel, rfl⟩
theorem d_M_tries_52 : mD m_M_tries 52 (.iload 4) 2 54 := ⟨by decide +kernel, rfl⟩
theorem d_M_tries_54 : mD m_M_tries 54 (.iaload) 1 55 := ⟨by decide +kernel, rfl⟩
theorem d_M_tries_55 : mD m_M_tries 55 (.iadd) 1 56 := ⟨by decide +kernel, rfl⟩
theorem d_M_tries_56 : mD m_M_tries 56 (.istore 5) 2 58 := ⟨by decide +kernel, rfl⟩
theorem d_M_tries_58 : mD m_M_tries 58 (.iconst 1) 1 59 := ⟨by decide +kernel, rfl⟩
theorem d_M_tries_59 : mD m_M_tries 59 (.aload_n 0) 1 60 := ⟨by decide +kernel, rfl⟩
theorem d_M_tries_60 : mD m_M_tries 60 (.getfield 59) 3 63 := ⟨by decide +kernel, rfl⟩
theorem d_M_tries_63 : mD m_M_tries 63 (.iload 4) 2 65 := ⟨by decide +kernel, rfl⟩
theorem d_M_tries_65 : mD m_M_tries 65 (.iaload) 1 66 := ⟨by decide +kernel, rfl⟩
theorem d_M_tries_66 : mD m_M_tries 66 (.iadd) 1 67 := ⟨by decide +kernel, rfl⟩
theorem d_M_tries_67 : mD m_M_tries 67 (.istore 6) 2 69 := ⟨by decide +kernel, rfl⟩
theorem d_M_tries_69 : mD m_M_tries 69 (.iload 5) 2 71 := ⟨by decide +kernel, rfl⟩
theorem d_M_tries_71 : mD m_M_tries 71 (.aload_n 0) 1 72 := ⟨by decide +kernel, rfl⟩
theorem d_M_tries_72 : mD m_M_tries 72 (.getfield 56) 3 75 := ⟨by decide +kernel, rfl⟩
theorem d_M_tries_75 : mD m_M_tries 75 (.iload_n 1) 1 76 := ⟨by decide +kernel, rfl⟩
theorem d_M_tries_76 : mD m_M_tries 76 (.iaload) 1 77 := ⟨by decide +kernel, rfl⟩
theorem d_M_tries_77 : mJ m_M_tries 77 (.if_icmp .lt 25) (25) 80 102 := ⟨by decide +kernel, rfl, rfl⟩
theorem d_M_tries_80 : mD m_M_tries 80 (.iload 5) 2 82 := ⟨by decide +kernel, rfl⟩
theorem d_M_tries_82 : mD m_M_tries 82 (.aload_n 0) 1 83 := ⟨by decide +kernel, rfl⟩
theorem d_M_tries_83 : mD m_M_tries 83 (.getfield 56) 3 86 := ⟨by decide +kernel, rfl⟩
theorem d_M_tries_86 : mD m_M_tries 86 (.iload_n 1) 1 87 := ⟨by decide +kernel, rfl⟩
theorem d_M_tries_87 : mD m_M_tries 87 (.iaload) 1 88 := ⟨by decide +kernel, rfl⟩
theorem d_M_tries_88 : mJ m_M_tries 88 (.if_icmp .ne 37) (37) 91 125 := ⟨by decide +kernel, rfl, rfl⟩
theorem d_M_tries_91 : mD m_M_tries 91 (.iload 6) 2 93 := ⟨by decide +kernel, rfl⟩
theorem d_M_tries_93 : mD m_M_tries 93 (.aload_n 0) 1 94 := ⟨by decide +kernel, rfl⟩
theorem d_M_tries_94 : mD m_M_tries 94 (.getfield 59) 3 97 := ⟨by decide +kernel, rfl⟩
theorem d_M_tries_97 : mD m_M_tries 97 (.iload_n 1) 1 98 := ⟨by decide +kernel, rfl⟩
theorem d_M_tries_98 : mD m_M_tries 98 (.iaload) 1 99 := ⟨by decide +kernel, rfl⟩
theorem d_M_tries_99 : mJ m_M_tries 99 (.if_icmp .ge 26) (26) 102 125 := ⟨by decide +kernel, rfl, rfl⟩
theorem d_M_tries_102 : mD m_M_tries 102 (.aload_n 0) 1 103 := ⟨by decide +kernel, rfl⟩
theorem d_M_tries_103 : mD m_M_tries 103 (.getfield 56) 3 106 := ⟨by decide +kernel, rfl⟩
theorem d_M_tries_106 : mD m_M_tries 106 (.iload_n 1) 1 107 := ⟨by decide +kernel, rfl⟩
theorem d_M_tries_107 : mD m_M_tries 107 (.iload 5) 2 109 := ⟨by decide +kernel, rfl⟩
theorem d_M_tries_109 : mD m_M_tries 109 (.iastore) 1 110 := ⟨by decide +kernel, rfl⟩
theorem d_M_tries_110 : mD m_M_tries 110 (.aload_n 0) 1 111 := ⟨by decide +kernel, rfl⟩
theorem d_M_tries_111 : mD m_M_tries 111 (.getfield 59) 3 114 := ⟨by decide +kernel, rfl⟩
theorem d_M_tries_114 : mD m_M_tries 114 (.iload_n 1) 1 115 := ⟨by decide +kernel, rfl⟩
theorem d_M_tries_115 : mD m_M_tries 115 (.iload 6) 2 117 := ⟨by decide +kernel, rfl⟩
theorem d_M_tries_117 : mD m_M_tries 117 (.iastore) 1 118 := ⟨by decide +kernel, rfl⟩
theorem d_M_tries_118 : mD m_M_tries 118 (.aload_n 0) 1 119 := ⟨by decide +kernel, rfl⟩
theorem d_M_tries_119 : mD m_M_tries 119 (.getfield 62) 3 122 := ⟨by decide +kernel, rfl⟩
theorem d_M_tries_122 : mD m_M_tries 122 (.iload_n 1) 1 123 := ⟨by decide +kernel, rfl⟩
theorem d_M_tries_123 : mD m_M_tries 123 (.iload_n 2) 1 124 := ⟨by decide +kernel, rfl⟩
theorem d_M_tries_124 : mD m_M_tries 124 (.iastore) 1 125 := ⟨by decide +kernel, rfl⟩
theorem d_M_tries_125 : mD m_M_tries 125 (.aload_n 0) 1 126 := ⟨by decide +kernel, rfl⟩
theorem d_M_tries_126 : mD m_M_tries 126 (.getfield 65) 3 129 := ⟨by decide +kernel, rfl⟩
theorem d_M_tries_129 : mD m_M_tries 129 (.iload_n 1) 1 130 := ⟨by decide +kernel, rfl⟩
theorem d_M_tries_130 : mD m_M_tries 130 (.aload_n 0) 1 131 := ⟨by decide +kernel, rfl⟩
theorem d_M_tries_131 : mD m_M_tries 131 (.getfield 46) 3 134 := ⟨by decide +kernel, rfl⟩
theorem d_M_tries_134 : mD m_M_tries 134 (.iload_n 2) 1 135 := ⟨by decide +kernel, rfl⟩
theorem d_M_tries_135 : mD m_M_tries 135 (.iaload) 1 136 := ⟨by decide +kernel, rfl⟩
theorem d_M_tries_136 : mD m_M_tries 136 (.aload_n 0) 1 137 := ⟨by decide +kernel, rfl⟩
theorem d_M_tries_137 : mD m_M_tries 137 (.getfield 65) 3 140 := ⟨by decide +kernel, rfl⟩
theorem d_M_tries_140 : mD m_M_tries 140 (.iload 4) 2 142 := ⟨by decide +kernel, rfl⟩
theorem d_M_tries_142 : mD m_M_tries 142 (.iaload) 1 143 := ⟨by decide +kernel, rfl⟩
theorem d_M_tries_143 : mD m_M_tries 143 (.iadd) 1 144 := ⟨by decide +kernel, rfl⟩
theorem d_M_tries_144 : mD m_M_tries 144 (.aload_n 0) 1 145 := ⟨by decide +kernel, rfl⟩
theorem d_M_tries_145 : mD m_M_tries 145 (.getfield 65) 3 148 := ⟨by decide +kernel, rfl⟩
theorem d_M_tries_148 : mD m_M_tries 148 (.iload_n 1) 1 149 := ⟨by decide +kernel, rfl⟩
theorem d_M_tries_149 : mD m_M_tries 149 (.iaload) 1 150 := ⟨by decide +kernel, rfl⟩
theorem d_M_tries_150 : mJ m_M_tries 150 (.if_icmp .le 20) (20) 153 170 := ⟨by decide +kernel, rfl, rfl⟩
theorem d_M_tries_153 : mD m_M_tries 153 (.aload_n 0) 1 154 := ⟨by decide +kernel, rfl⟩
theorem d_M_tries_154 : mD m_M_tries 154 (.getfield 46) 3 157 := ⟨by decide +kernel, rfl⟩
theorem d_M_tries_157 : mD m_M_tries 157 (.iload_n 2) 1 158 := ⟨by decide +kernel, rfl⟩
theorem d_M_tries_158 : mD m_M_tries 158 (.iaload) 1 159 := ⟨by decide +kernel, rfl⟩
theorem d_M_tries_159 : mD m_M_tries 159 (.aload_n 0) 1 160 := ⟨by decide +kernel, rfl⟩
theorem d_M_tries_160 : mD m_M_tries 160 (.getfield 65) 3 163 := ⟨by decide +kernel, rfl⟩
theorem d_M_tries_163 : mD m_M_tries 163 (.iload 4) 2 165 := ⟨by decide +kernel, rfl⟩
theorem d_M_tries_165 : mD m_M_tries 165 (.iaload) 1 166 := ⟨by decide +kernel, rfl⟩
theorem d_M_tries_166 : mD m_M_tries 166 (.iadd) 1 167 := ⟨by decide +kernel, rfl⟩
theorem d_M_tries_167 : mJ m_M_tries 167 (.goto 9) (9) 170 176 := ⟨by decide +kernel, rfl, rfl⟩
theorem d_M_tries_170 : mD m_M_tries 170 (.aload_n 0) 1 171 := ⟨by decide +kernel, rfl⟩
theorem d_M_tries_171 : mD m_M_tries 171 (.getfield 65) 3 174 := ⟨by decide +kernel, rfl⟩
theorem d_M_tries_174 : mD m_M_tries 174 (.iload_n 1) 1 175 := ⟨by decide +kernel, rfl⟩
theorem d_M_tries_175 : mD m_M_tries 175 (.iaload) 1 176 := ⟨by decide +kernel, rfl⟩
theorem d_M_tries_176 : mD m_M_tries 176 (.iastore) 1 177 := ⟨by decide +kernel, rfl⟩
theorem d_M_tries_177 : mD m_M_tries 177 (.return_) 1 178 := ⟨by decide +kernel, rfl⟩
theorem d_M_type_0 : mD m_M_type 0 (.iload_n 1) 1 1 := ⟨by decide +kernel, rfl⟩
theorem d_M_type_1 : mD m_M_type 1 (.i2l) 1 2 := ⟨by decide +kernel, rfl⟩
theorem d_M_type_2 : mD m_M_type 2 (.lconst 0) 1 3 := ⟨by decide +kernel, rfl⟩
theorem d_M_type_3 : mD m_M_type 3 (.ldc2_w 117) 3 6 := ⟨by decide +kernel, rfl⟩
theorem d_M_type_6 : mD m_M_type 6 (.invokestatic 88) 3 9 := ⟨by decide +kernel, rfl⟩
theorem d_M_type_9 : mJ m_M_type 9 (.ifCond .ne 6) (6) 12 15 := ⟨by decide +kernel, rfl, rfl⟩
theorem d_M_type_12 : mD m_M_type 12 (.bipush (-2)) 2 14 := ⟨by decide +kernel, rfl⟩
theorem d_M_type_14 : mD m_M_type 14 (.ireturn) 1 15 := ⟨by decide +kernel, rfl⟩
theorem d_M_type_15 : mD m_M_type 15 (.aload_n 0) 1 16 := ⟨by decide +kernel, rfl⟩
theorem d_M_type_16 : mD m_M_type 16 (.getfield 119) 3 19 := ⟨by decide +kernel, rfl⟩
theorem d_M_type_19 : mD m_M_type 19 (.bipush 40) 2 21 := ⟨by decide +kernel, rfl⟩
theorem d_M_type_21 : mJ m_M_type 21 (.if_icmp .ne 6) (6) 24 27 := ⟨by decide +kernel, rfl, rfl⟩
theorem d_M_type_24 : mD m_M_type 24 (.bipush (-4)) 2 26 := ⟨by decide +kernel, rfl⟩
theorem d_M_type_26 : mD m_M_type 26 (.ireturn) 1 27 := ⟨by decide +kernel, rfl⟩
theorem d_M_type_27 : mD m_M_type 27 (.aload_n 0) 1 28 := ⟨by decide +kernel, rfl⟩
theorem d_M_type_28 : mD m_M_type 28 (.getfield 22) 3 31 := ⟨by decide +kernel, rfl⟩
theorem d_M_type_31 : mD m_M_type 31 (.aload_n 0) 1 32 := ⟨by decide +kernel, rfl⟩
theorem d_M_type_32 : mD m_M_type 32 (.getfield 119) 3 35 := ⟨by decide +kernel, rfl⟩
theorem d_M_type_35 : mD m_M_type 35 (.iload_n 1) 1 36 := ⟨by decide +kernel, rfl⟩
theorem d_M_type_36 : mD m_M_type 36 (.iastore) 1 37 := ⟨by decide +kernel, rfl⟩
theorem d_M_type_37 : mD m_M_type 37 (.aload_n 0) 1 38 := ⟨by decide +kernel, rfl⟩
theorem d_M_type_38 : mD m_M_type 38 (.dup) 1 39 := ⟨by decide +kernel, rfl⟩
theorem d_M_type_39 : mD m_M_type 39 (.getfield 119) 3 42 := ⟨by decide +kernel, rfl⟩
theorem d_M_type_42 : mD m_M_type 42 (.iconst 1) 1 43 := ⟨by decide +kernel, rfl⟩
theorem d_M_type_43 : mD m_M_type 43 (.iadd) 1 44 := ⟨by decide +kernel, rfl⟩
theorem d_M_type_44 : mD m_M_type 44 (.putfield 119) 3 47 := ⟨by decide +kernel, rfl⟩
theorem d_M_type_47 : mD m_M_type 47 (.aload_n 0) 1 48 := ⟨by decide +kernel, rfl⟩
theorem d_M_type_48 : mD m_M_type 48 (.getfield 119) 3 51 := ⟨by decide +kernel, rfl⟩
theorem d_M_type_51 : mD m_M_type 51 (.ireturn) 1 52 := ⟨by decide +kernel, rfl⟩
theorem d_M_whole_0 : mD m_M_whole 0 (.iconst 1) 1 1 := ⟨by decide +kernel, rfl⟩
theorem d_M_whole_1 : mD m_M_whole 1 (.aload_n 0) 1 2 := ⟨by decide +kernel, rfl⟩
theorem d_M_whole_2 : mD m_M_whole 2 (.getfield 125) 3 5 := ⟨by decide +kernel, rfl⟩
theorem d_M_whole_5 : mD m_M_whole 5 (.ishl) 1 6 := ⟨by decide +kernel, rfl⟩
theorem d_M_whole_6 : mD m_M_whole 6 (.iconst 1) 1 7 := ⟨by decide +kernel, rfl⟩
theorem d_M_whole_7 : mD m_M_whole 7 (.isub) 1 8 := ⟨by decide +kernel, rfl⟩
theorem d_M_whole_8 : mD m_M_whole 8 (.ireturn) 1 9 := ⟨by decide +kernel, rfl⟩
theorem d_M_wipe_0 : mD m_M_wipe 0 (.aload_n 0) 1 1 := ⟨by decide +kernel, rfl⟩
theorem d_M_wipe_1 : mD m_M_wipe 1 (.getfield 119) 3 4 := ⟨by decide +kernel, rfl⟩
theorem d_M_wipe_4 : mD m_M_wipe 4 (.istore_n 1) 1 5 := ⟨by decide +kernel, rfl⟩
theorem d_M_wipe_5 : mD m_M_wipe 5 (.aload_n 0) 1 6 := ⟨by decide +kernel, rfl⟩
theorem d_M_wipe_6 : mD m_M_wipe 6 (.iconst 0) 1 7 := ⟨by decide +kernel, rfl⟩
theorem d_M_wipe_7 : mD m_M_wipe 7 (.putfield 119) 3 10 := ⟨by decide +kernel, rfl⟩
theorem d_M_wipe_10 : mD m_M_wipe 10 (.iload_n 1) 1 11 := ⟨by decide +kernel, rfl⟩
theorem d_M_wipe_11 : mD m_M_wipe 11 (.ireturn) 1 12 := ⟨by decide +kernel, rfl⟩
theorem d_M_with_0 : mD m_M_with 0 (.aload_n 0) 1 1 := ⟨by decide +kernel, rfl⟩
theorem d_M_with_1 : mD m_M_with 1 (.iload_n 1) 1 2 := ⟨by decide +kernel, rfl⟩
theorem d_M_with_2 : mD m_M_with 2 (.invokevirtual 148) 3 5 := ⟨by decide +kernel, rfl⟩
theorem d_M_with_5 : mJ m_M_with 5 (.ifCond .eq 11) (11) 8 16 := ⟨by decide +kernel, rfl, rfl⟩
theorem d_M_with_8 : mD m_M_with 8 (.aload_n 0) 1 9 := ⟨by decide +kernel, rfl⟩
theorem d_M_with_9 : mD m_M_with 9 (.iload_n 1) 1 10 := ⟨by decide +kernel, rfl⟩
theorem d_M_with_10 : mD m_M_with 10 (.invokevirtual 210) 3 13 := ⟨by decide +kernel, rfl⟩
theorem d_M_with_13 : mJ m_M_with 13 (.goto 5) (5) 16 18 := ⟨by decide +kernel, rfl, rfl⟩
theorem d_M_with_16 : mD m_M_with 16 (.bipush (-2)) 2 18 := ⟨by decide +kernel, rfl⟩
theorem d_M_with_18 : mD m_M_with 18 (.ireturn) 1 19 := ⟨by decide +kernel, rfl⟩
theorem d_M_withOf_0 : mD m_M_withOf 0 (.aload_n 0) 1 1 := ⟨by decide +kernel, rfl⟩
theorem d_M_withOf_1 : mD m_M_withOf 1 (.invokevirtual 201) 3 4 := ⟨by decide +kernel, rfl⟩
theorem d_M_withOf_4 : mD m_M_withOf 4 (.aload_n 0) 1 5 := ⟨by decide +kernel, rfl⟩
theorem d_M_withOf_5 : mD m_M_withOf 5 (.aload_n 0) 1 6 := ⟨by decide +kernel, rfl⟩
theorem d_M_withOf_6 : mD m_M_withOf 6 (.invokevirtual 184) 3 9 := ⟨by decide +kernel, rfl⟩
theorem d_M_withOf_9 : mD m_M_withOf 9 (.invokevirtual 197) 3 12 := ⟨by decide +kernel, rfl⟩
theorem d_M_withOf_12 : mD m_M_withOf 12 (.aload_n 0) 1 13 := ⟨by decide +kernel, rfl⟩
theorem d_M_withOf_13 : mD m_M_withOf 13 (.iload_n 1) 1 14 := ⟨by decide +kernel, rfl⟩
theorem d_M_withOf_14 : mD m_M_withOf 14 (.invokevirtual 207) 3 17 := ⟨by decide +kernel, rfl⟩
theorem d_M_withOf_17 : mD m_M_withOf 17 (.istore_n 2) 1 18 := ⟨by decide +kernel, rfl⟩
theorem d_M_withOf_18 : mD m_M_withOf 18 (.iload_n 2) 1 19 := ⟨by decide +kernel, rfl⟩
theorem d_M_withOf_19 : mJ m_M_withOf 19 (.ifCond .ne 7) (7) 22 26 := ⟨by decide +kernel, rfl, rfl⟩
theorem d_M_withOf_22 : mD m_M_withOf 22 (.iconst (-1)) 1 23 := ⟨by decide +kernel, rfl⟩
theorem d_M_withOf_23 : mJ m_M_withOf 23 (.goto 4) (4) 26 27 := ⟨by decide +kernel, rfl, rfl⟩
theorem d_M_withOf_26 : mD m_M_withOf 26 (.iload_n 2) 1 27 := ⟨by decide +kernel, rfl⟩
theorem d_M_withOf_27 : mD m_M_withOf 27 (.ireturn) 1 28 := ⟨by decide +kernel, rfl⟩
theorem d_M_write_0 : mD m_M_write 0 (.iload_n 1) 1 1 := ⟨by decide +kernel, rfl⟩
theorem d_M_write_1 : mD m_M_write 1 (.invokestatic 98) 3 4 := ⟨by decide +kernel, rfl⟩
theorem d_M_write_4 : mJ m_M_write 4 (.ifCond .ne 6) (6) 7 10 := ⟨by decide +kernel, rfl, rfl⟩
theorem d_M_write_7 : mD m_M_write 7 (.bipush (-2)) 2 9 := ⟨by decide +kernel, rfl⟩
theorem d_M_write_9 : mD m_M_write 9 (.ireturn) 1 10 := ⟨by decide +kernel, rfl⟩
theorem d_M_write_10 : mD m_M_write 10 (.aload_n 0) 1 11 := ⟨by decide +kernel, rfl⟩
theorem d_M_write_11 : mD m_M_write 11 (.getfield 7) 3 14 := ⟨by decide +kernel, rfl⟩
theorem d_M_write_14 : mD m_M_write 14 (.iload_n 1) 1 15 := ⟨by decide +kernel, rfl⟩
theorem d_M_write_15 : mD m_M_write 15 (.iaload) 1 16 := ⟨by decide +kernel, rfl⟩
theorem d_M_write_16 : mJ m_M_write 16 (.ifCond .ge 9) (9) 19 25 := ⟨by decide +kernel, rfl, rfl⟩
theorem d_M_write_19 : mD m_M_write 19 (.aload_n 0) 1 20 := ⟨by decide +kernel, rfl⟩
theorem d_M_write_20 : mD m_M_write 20 (.iconst 1) 1 21 := ⟨by decide +kernel, rfl⟩
theorem d_M_write_21 : mD m_M_write 21 (.invokevirtual 104) 3 24 := ⟨by decide +kernel, rfl⟩
theorem d_M_write_24 : mD m_M_write 24 (.ireturn) 1 25 := ⟨by decide +kernel, rfl⟩
theorem d_M_write_25 : mD m_M_write 25 (.aload_n 0) 1 26 := ⟨by decide +kernel, rfl⟩
theorem d_M_write_26 : mD m_M_write 26 (.invokevirtual 143) 3 29 := ⟨by decide +kernel, rfl⟩
theorem d_M_write_29 : mD m_M_write 29 (.pop) 1 30 := ⟨by decide +kernel, rfl⟩
theorem d_M_write_30 : mD m_M_write 30 (.aload_n 0) 1 31 := ⟨by decide +kernel, rfl⟩
theorem d_M_write_31 : mD m_M_write 31 (.invokevirtual 201) 3 34 := ⟨by decide +kernel, rfl⟩
theorem d_M_write_34 : mD m_M_write 34 (.aload_n 0) 1 35 := ⟨by decide +kernel, rfl⟩
theorem d_M_write_35 : mD m_M_write 35 (.aload_n 0) 1 36 := ⟨by decide +kernel, rfl⟩
theorem d_M_write_36 : mD m_M_write 36 (.invokevirtual 184) 3 39 := ⟨by decide +kernel, rfl⟩
theorem d_M_write_39 : mD m_M_write 39 (.invokevirtual 197) 3 42 := ⟨by decide +kernel, rfl⟩
theorem d_M_write_42 : mD m_M_write 42 (.aload_n 0) 1 43 := ⟨by decide +kernel, rfl⟩
theorem d_M_write_43 : mD m_M_write 43 (.getfield 65) 3 46 := ⟨by decide +kernel, rfl⟩
theorem d_M_write_46 : mD m_M_write 46 (.aload_n 0) 1 47 := ⟨by decide +kernel, rfl⟩
theorem d_M_write_47 : mD m_M_write 47 (.invokevirtual 184) 3 50 := ⟨by decide +kernel, rfl⟩
theorem d_M_write_50 : mD m_M_write 50 (.iaload) 1 51 := ⟨by decide +kernel, rfl⟩
theorem d_M_write_51 : mJ m_M_write 51 (.ifCond .ge 6) (6) 54 57 := ⟨by decide +kernel, rfl, rfl⟩
theorem d_M_write_54 : mD m_M_write 54 (.bipush (-3)) 2 56 := ⟨by decide +kernel, rfl⟩
theorem d_M_write_56 : mD m_M_write 56 (.ireturn) 1 57 := ⟨by decide +kernel, rfl⟩
theorem d_M_write_57 : mD m_M_write 57 (.aload_n 0) 1 58 := ⟨by decide +kernel, rfl⟩
theorem d_M_write_58 : mD m_M_write 58 (.getfield 13) 3 61 := ⟨by decide +kernel, rfl⟩
theorem d_M_write_61 : mD m_M_write 61 (.iload_n 1) 1 62 := ⟨by decide +kernel, rfl⟩
theorem d_M_write_62 : mD m_M_write 62 (.iaload) 1 63 := ⟨by decide +kernel, rfl⟩
theorem d_M_write_63 : mD m_M_write 63 (.aload_n 0) 1 64 := ⟨by decide +kernel, rfl⟩
theorem d_M_write_64 : mD m_M_write 64 (.getfield 125) 3 67 := ⟨by decide +kernel, rfl⟩
theorem d_M_write_67 : mJ m_M_write 67 (.if_icmp .ge 12) (12) 70 79 := ⟨by decide +kernel, rfl, rfl⟩
theorem d_M_write_70 : mD m_M_write 70 (.aload_n 0) 1 71 := ⟨by decide +kernel, rfl⟩
theorem d_M_write_71 : mD m_M_write 71 (.getfield 13) 3 74 := ⟨by decide +kernel, rfl⟩
theorem d_M_write_74 : mD m_M_write 74 (.iload_n 1) 1 75 := ⟨by decide +kernel, rfl⟩
theorem d_M_write_75 : mD m_M_write 75 (.iaload) 1 76 := ⟨by decide +kernel, rfl⟩
theorem d_M_write_76 : mJ m_M_write 76 (.goto 7) (7) 79 83 := ⟨by decide +kernel, rfl, rfl⟩
theorem d_M_write_79 : mD m_M_write 79 (.aload_n 0) 1 80 := ⟨by decide +kernel, rfl⟩
theorem d_M_write_80 : mD m_M_write 80 (.getfield 125) 3 83 := ⟨by decide +kernel, rfl⟩
theorem d_M_write_83 : mD m_M_write 83 (.istore_n 2) 1 84 := ⟨by decide +kernel, rfl⟩
theorem d_M_write_84 : mD m_M_write 84 (.iconst 0) 1 85 := ⟨by decide +kernel, rfl⟩
theorem d_M_write_85 : mD m_M_write 85 (.istore_n 3) 1 86 := ⟨by decide +kernel, rfl⟩
theorem d_M_write_86 : mD m_M_write 86 (.aload_n 0) 1 87 := ⟨by decide +kernel, rfl⟩
theorem d_M_write_87 : mD m_M_write 87 (.invokevirtual 184) 3 90 := ⟨by decide +kernel, rfl⟩
theorem d_M_write_90 : mD m_M_write 90 (.istore 4) 2 92 := ⟨by decide +kernel, rfl⟩
theorem d_M_write_92 : mD m_M_write 92 (.iload 4) 2 94 := ⟨by decide +kernel, rfl⟩
theorem d_M_write_94 : mJ m_M_write 94 (.ifCond .eq 90) (90) 97 184 := ⟨by decide +kernel, rfl, rfl⟩
theorem d_M_write_97 : mD m_M_write 97 (.iconst 0) 1 98 := ⟨by decide +kernel, rfl⟩
theorem d_M_write_98 : mD m_M_write 98 (.istore 5) 2 100 := ⟨by decide +kernel, rfl⟩
theorem d_M_write_100 : mD m_M_write 100 (.iload 5) 2 102 := ⟨by decide +kernel, rfl⟩
theorem d_M_write_102 : mD m_M_write 102 (.iload_n 2) 1 103 := ⟨by decide +kernel, rfl⟩
theorem d_M_write_103 : mJ m_M_write 103 (.if_icmp .ge 61) (61) 106 164 := ⟨by decide +kernel, rfl, rfl⟩
theorem d_M_write_106 : mD m_M_write 106 (.aload_n 0) 1 107 := ⟨by decide +kernel, rfl⟩
theorem d_M_write_107 : mD m_M_write 107 (.getfield 16) 3 110 := ⟨by decide +kernel, rfl⟩
theorem d_M_write_110 : mD m_M_write 110 (.bipush 60) 2 112 := ⟨by decide +kernel, rfl⟩
theorem d_M_write_112 : mD m_M_write 112 (.iload_n 1) 1 113 := ⟨by decide +kernel, rfl⟩
theorem d_M_write_113 : mD m_M_write 113 (.imul) 1 114 := ⟨by decide +kernel, rfl⟩
theorem d_M_write_114 : mD m_M_write 114 (.iload 5) 2 116 := ⟨by decide +kernel, rfl⟩
theorem d_M_write_116 : mD m_M_write 116 (.iadd) 1 117 := ⟨by decide +kernel, rfl⟩
theorem d_M_write_117 : mD m_M_write 117 (.aload_n 0) 1 118 := ⟨by decide +kernel, rfl⟩
theorem d_M_write_118 : mD m_M_write 118 (.getfield 62) 3 121 := ⟨by decide +kernel, rfl⟩
theorem d_M_write_121 : mD m_M_write 121 (.iload 4) 2 123 := ⟨by decide +kernel, rfl⟩
theorem d_M_write_123 : mD m_M_write 123 (.iaload) 1 124 := ⟨by decide +kernel, rfl⟩
theorem d_M_write_124 : mD m_M_write 124 (.iload 5) 2 126 := ⟨by decide +kernel, rfl⟩
theorem d_M_write_126 : mD m_M_write 126 (.invokestatic 177) 3 129 := ⟨by decide +kernel, rfl⟩
theorem d_M_write_129 : mJ m_M_write 129 (.ifCond .eq 16) (16) 132 145 := ⟨by decide +kernel, rfl, rfl⟩
theorem d_M_write_132 : mD m_M_write 132 (.aload_n 0) 1 133 := ⟨by decide +kernel, rfl⟩
theorem d_M_write_133 : mD m_M_write 133 (.getfield 7) 3 136 := ⟨by decide +kernel, rfl⟩
theorem d_M_write_136 : mD m_M_write 136 (.iload_n 1) 1 137 := ⟨by decide +kernel, rfl⟩
theorem d_M_write_137 : mD m_M_write 137 (.iaload) 1 138 := ⟨by decide +kernel, rfl⟩
theorem d_M_write_138 : mD m_M_write 138 (.iload_n 3) 1 139 := ⟨by decide +kernel, rfl⟩
theorem d_M_write_139 : mD m_M_write 139 (.invokestatic 112) 3 142 := ⟨by decide +kernel, rfl⟩
theorem d_M_write_142 : mJ m_M_write 142 (.goto 15) (15) 145 157 := ⟨by decide +kernel, rfl, rfl⟩
theorem d_M_write_145 : mD m_M_write 145 (.aload_n 0) 1 146 := ⟨by decide +kernel, rfl⟩
theorem d_M_write_146 : mD m_M_write 146 (.getfield 16) 3 149 := ⟨by decide +kernel, rfl⟩
theorem d_M_write_149 : mD m_M_write 149 (.bipush 60) 2 151 := ⟨by decide +kernel, rfl⟩
theorem d_M_write_151 : mD m_M_write 151 (.iload_n 1) 1 152 := ⟨by decide +kernel, rfl⟩
theorem d_M_write_152 : mD m_M_write 152 (.imul) 1 153 := ⟨by decide +kernel, rfl⟩
theorem d_M_write_153 : mD m_M_write 153 (.iload 5) 2 155 := ⟨by decide +kernel, rfl⟩
theorem d_M_write_155 : mD m_M_write 155 (.iadd) 1 156 := ⟨by decide +kernel, rfl⟩
theorem d_M_write_156 : mD m_M_write 156 (.iaload) 1 157 := ⟨by decide +kernel, rfl⟩
theorem d_M_write_157 : mD m_M_write 157 (.iastore) 1 158 := ⟨by decide +kernel, rfl⟩
theorem d_M_write_158 : mD m_M_write 158 (.iinc 5 1) 3 161 := ⟨by decide +kernel, rfl⟩
theorem d_M_write_161 : mJ m_M_write 161 (.goto (-61)) (-61) 164 100 := ⟨by decide +kernel, rfl, rfl⟩
theorem d_M_write_164 : mD m_M_write 164 (.iinc 3 1) 3 167 := ⟨by decide +kernel, rfl⟩
theorem d_M_write_167 : mD m_M_write 167 (.iload 4) 2 169 := ⟨by decide +kernel, rfl⟩
theorem d_M_write_169 : mD m_M_write 169 (.aload_n 0) 1 170 := ⟨by decide +kernel, rfl⟩
theorem d_M_write_170 : mD m_M_write 170 (.getfield 62) 3 173 := ⟨by decide +kernel, rfl⟩
theorem d_M_write_173 : mD m_M_write 173 (.iload 4) 2 175 := ⟨by decide +kernel, rfl⟩
theorem d_M_write_175 : mD m_M_write 175 (.iaload) 1 176 := ⟨by decide +kernel, rfl⟩
theorem d_M_write_176 : mD m_M_write 176 (.iconst (-1)) 1 177 := ⟨by decide +kernel, rfl⟩
theorem d_M_write_177 : mD m_M_write 177 (.ixor) 1 178 := ⟨by decide +kernel, rfl⟩
theorem d_M_write_178 : mD m_M_write 178 (.iand) 1 179 := ⟨by decide +kernel, rfl⟩
theorem d_M_write_179 : mD m_M_write 179 (.istore 4) 2 181 := ⟨by decide +kernel, rfl⟩
theorem d_M_write_181 : mJ m_M_write 181 (.goto (-89)) (-89) 184 92 := ⟨by decide +kernel, rfl, rfl⟩
theorem d_M_write_184 : mD m_M_write 184 (.iload_n 2) 1 185 := ⟨by decide +kernel, rfl⟩
theorem d_M_write_185 : mD m_M_write 185 (.ireturn) 1 186 := ⟨by decide +kernel, rfl⟩
theorem d_P_ageAt_0 : mD m_P_ageAt 0 (.iconst 0) 1 1 := ⟨by decide +kernel, rfl⟩
theorem d_P_ageAt_1 : mD m_P_ageAt 1 (.istore_n 3) 1 2 := ⟨by decide +kernel, rfl⟩
theorem d_P_ageAt_2 : mD m_P_ageAt 2 (.iload_n 1) 1 3 := ⟨by decide +kernel, rfl⟩
theorem d_P_ageAt_3 : mD m_P_ageAt 3 (.istore 4) 2 5 := ⟨by decide +kernel, rfl⟩
theorem d_P_ageAt_5 : mD m_P_ageAt 5 (.iload 4) 2 7 := ⟨by decide +kernel, rfl⟩
theorem d_P_ageAt_7 : mD m_P_ageAt 7 (.iload_n 2) 1 8 := ⟨by decide +kernel, rfl⟩
theorem d_P_ageAt_8 : mJ m_P_ageAt 8 (.if_icmp .ge 32) (32) 11 40 := ⟨by decide +kernel, rfl, rfl⟩
theorem d_P_ageAt_11 : mD m_P_ageAt 11 (.iload 4) 2 13 := ⟨by decide +kernel, rfl⟩
theorem d_P_ageAt_13 : mD m_P_ageAt 13 (.bipush 40) 2 15 := ⟨by decide +kernel, rfl⟩
theorem d_P_ageAt_15 : mJ m_P_ageAt 15 (.if_icmp .ge 25) (25) 18 40 := ⟨by decide +kernel, rfl, rfl⟩
theorem d_P_ageAt_18 : mD m_P_ageAt 18 (.bipush 10) 2 20 := ⟨by decide +kernel, rfl⟩
theorem d_P_ageAt_20 : mD m_P_ageAt 20 (.iload_n 3) 1 21 := ⟨by decide +kernel, rfl⟩
theorem d_P_ageAt_21 : mD m_P_ageAt 21 (.imul) 1 22 := ⟨by decide +kernel, rfl⟩
theorem d_P_ageAt_22 : mD m_P_ageAt 22 (.aload_n 0) 1 23 := ⟨by decide +kernel, rfl⟩
theorem d_P_ageAt_23 : mD m_P_ageAt 23 (.getfield 11) 3 26 := ⟨by decide +kernel, rfl⟩
theorem d_P_ageAt_26 : mD m_P_ageAt 26 (.iload 4) 2 28 := ⟨by decide +kernel, rfl⟩
theorem d_P_ageAt_28 : mD m_P_ageAt 28 (.iaload) 1 29 := ⟨by decide +kernel, rfl⟩
theorem d_P_ageAt_29 : mD m_P_ageAt 29 (.iadd) 1 30 := ⟨by decide +kernel, rfl⟩
theorem d_P_ageAt_30 : mD m_P_ageAt 30 (.bipush 48) 2 32 := ⟨by decide +kernel, rfl⟩
theorem d_P_ageAt_32 : mD m_P_ageAt 32 (.isub) 1 33 := ⟨by decide +kernel, rfl⟩
theorem d_P_ageAt_33 : mD m_P_ageAt 33 (.istore_n 3) 1 34 := ⟨by decide +kernel, rfl⟩
theorem d_P_ageAt_34 : mD m_P_ageAt 34 (.iinc 4 1) 3 37 := ⟨by decide +kernel, rfl⟩
theorem d_P_ageAt_37 : mJ m_P_ageAt 37 (.goto (-32)) (-32) 40 5 := ⟨by decide +kernel, rfl, rfl⟩
theorem d_P_ageAt_40 : mD m_P_ageAt 40 (.iload_n 3) 1 41 := ⟨by decide +kernel, rfl⟩
theorem d_P_ageAt_41 : mD m_P_ageAt 41 (.ireturn) 1 42 := ⟨by decide +kernel, rfl⟩
theorem d_P_append_0 : mD m_P_append 0 (.aload_n 0) 1 1 := ⟨by decide +kernel, rfl⟩
theorem d_P_append_1 : mD m_P_append 1 (.getfield 34) 3 4 := ⟨by decide +kernel, rfl⟩
theorem d_P_append_4 : mD m_P_append 4 (.bipush 40) 2 6 := ⟨by decide +kernel, rfl⟩
theorem d_P_append_6 : mJ m_P_append 6 (.if_icmp .ge 23) (23) 9 29 := ⟨by decide +kernel, rfl, rfl⟩
theorem d_P_append_9 : mD m_P_append 9 (.aload_n 0) 1 10 := ⟨by decide +kernel, rfl⟩
theorem d_P_append_10 : mD m_P_append 10 (.getfield 11) 3 13 := ⟨by decide +kernel, rfl⟩
theorem d_P_append_13 : mD m_P_append 13 (.aload_n 0) 1 14 := ⟨by decide +kernel, rfl⟩
theorem d_P_append_14 : mD m_P_append 14 (.getfield 34) 3 17 := ⟨by decide +kernel, rfl⟩
theorem d_P_append_17 : mD m_P_append 17 (.iload_n 1) 1 18 := ⟨by decide +kernel, rfl⟩
theorem d_P_append_18 : mD m_P_append 18 (.iastore) 1 19 := ⟨by decide +kernel, rfl⟩
theorem d_P_append_19 : mD m_P_append 19 (.aload_n 0) 1 20 := ⟨by decide +kernel, rfl⟩
theorem d_P_append_20 : mD m_P_append 20 (.dup) 1 21 := ⟨by decide +kernel, rfl⟩
theorem d_P_append_21 : mD m_P_append 21 (.getfield 34) 3 24 := ⟨by decide +kernel, rfl⟩
theorem d_P_append_24 : mD m_P_append 24 (.iconst 1) 1 25 := ⟨by decide +kernel, rfl⟩
theorem d_P_append_25 : mD m_P_append 25 (.iadd) 1 26 := ⟨by decide +kernel, rfl⟩
theorem d_P_append_26 : mD m_P_append 26 (.putfield 34) 3 29 := ⟨by decide +kernel, rfl⟩
theorem d_P_append_29 : mD m_P_append 29 (.aload_n 0) 1 30 := ⟨by decide +kernel, rfl⟩
theorem d_P_append_30 : mD m_P_append 30 (.invokevirtual 37) 3 33 := ⟨by decide +kernel, rfl⟩
theorem d_P_append_33 : mD m_P_append 33 (.aload_n 0) 1 34 := ⟨by decide +kernel, rfl⟩
theorem d_P_append_34 : mD m_P_append 34 (.getfield 34) 3 37 := ⟨by decide +kernel, rfl⟩
theorem d_P_append_37 : mD m_P_append 37 (.ireturn) 1 38 := ⟨by decide +kernel, rfl⟩
theorem d_P_endOfFigures_0 : mD m_P_endOfFigures 0 (.iload_n 1) 1 1 := ⟨by decide +kernel, rfl⟩
theorem d_P_endOfFigures_1 : mD m_P_endOfFigures 1 (.istore_n 2) 1 2 := ⟨by decide +kernel, rfl⟩
theorem d_P_endOfFigures_2 : mD m_P_endOfFigures 2 (.iload_n 2) 1 3 := ⟨by decide +kernel, rfl⟩
theorem d_P_endOfFigures_3 : mD m_P_endOfFigures 3 (.aload_n 0) 1 4 := ⟨by decide +kernel, rfl⟩
theorem d_P_endOfFigures_4 : mD m_P_endOfFigures 4 (.getfield 34) 3 7 := ⟨by decide +kernel, rfl⟩
theorem d_P_endOfFigures_7 : mJ m_P_endOfFigures 7 (.if_icmp .ge 38) (38) 10 45 := ⟨by decide +kernel, rfl, rfl⟩
theorem d_P_endOfFigures_10 : mD m_P_endOfFigures 10 (.iload_n 2) 1 11 := ⟨by decide +kernel, rfl⟩
theorem d_P_endOfFigures_11 : mD m_P_endOfFigures 11 (.iload_n 1) 1 12 := ⟨by decide +kernel, rfl⟩
theorem d_P_endOfFigures_12 : mD m_P_endOfFigures 12 (.iconst 3) 1 13 := ⟨by decide +kernel, rfl⟩
theorem d_P_endOfFigures_13 : mD m_P_endOfFigures 13 (.iadd) 1 14 := ⟨by decide +kernel, rfl⟩
theorem d_P_endOfFigures_14 : mJ m_P_endOfFigures 14 (.if_icmp .ge 31) (31) 17 45 := ⟨by decide +kernel, rfl, rfl⟩
theorem d_P_endOfFigures_17 : mD m_P_endOfFigures 17 (.aload_n 0) 1 18 := ⟨by decide +kernel, rfl⟩
theorem d_P_endOfFigures_18 : mD m_P_endOfFigures 18 (.getfield 11) 3 21 := ⟨by decide +kernel, rfl⟩
theorem d_P_endOfFigures_21 : mD m_P_endOfFigures 21 (.iload_n 2) 1 22 := ⟨by decide +kernel, rfl⟩
theorem d_P_endOfFigures_22 : mD m_P_endOfFigures 22 (.iaload) 1 23 := ⟨by decide +kernel, rfl⟩
theorem d_P_endOfFigures_23 : mD m_P_endOfFigures 23 (.bipush 48) 2 25 := ⟨by decide +kernel, rfl⟩
theorem d_P_endOfFigures_25 : mJ m_P_endOfFigures 25 (.if_icmp .lt 20) (20) 28 45 := ⟨by decide +kernel, rfl, rfl⟩
theorem d_P_endOfFigures_28 : mD m_P_endOfFigures 28 (.aload_n 0) 1 29 := ⟨by decide +kernel, rfl⟩
theorem d_P_endOfFigures_29 : mD m_P_endOfFigures 29 (.getfield 11) 3 32 := ⟨by decide +kernel, rfl⟩
theorem d_P_endOfFigures_32 : mD m_P_endOfFigures 32 (.iload_n 2) 1 33 := ⟨by decide +kernel, rfl⟩
theorem d_P_endOfFigures_33 : mD m_P_endOfFigures 33 (.iaload) 1 34 := ⟨by decide +kernel, rfl⟩
theorem d_P_endOfFigures_34 : mD m_P_endOfFigures 34 (.bipush 57) 2 36 := ⟨by decide +kernel, rfl⟩
theorem d_P_endOfFigures_36 : mJ m_P_endOfFigures 36 (.if_icmp .gt 9) (9) 39 45 := ⟨by decide +kernel, rfl, rfl⟩
theorem d_P_endOfFigures_39 : mD m_P_endOfFigures 39 (.iinc 2 1) 3 42 := ⟨by decide +kernel, rfl⟩
theorem d_P_endOfFigures_42 : mJ m_P_endOfFigures 42 (.goto (-40)) (-40) 45 2 := ⟨by decide +kernel, rfl, rfl⟩
theorem d_P_endOfFigures_45 : mD m_P_endOfFigures 45 (.iload_n 2) 1 46 := ⟨by decide +kernel, rfl⟩
theorem d_P_endOfFigures_46 : mD m_P_endOfFigures 46 (.ireturn) 1 47 := ⟨by decide +kernel, rfl⟩
theorem d_P_erase_0 : mD m_P_erase 0 (.aload_n 0) 1 1 := ⟨by decide +kernel, rfl⟩
theorem d_P_erase_1 : mD m_P_erase 1 (.getfield 34) 3 4 := ⟨by decide +kernel, rfl⟩
theorem d_P_erase_4 : mD m_P_erase 4 (.istore_n 1) 1 5 := ⟨by decide +kernel, rfl⟩
theorem d_P_erase_5 : mD m_P_erase 5 (.aload_n 0) 1 6 := ⟨by decide +kernel, rfl⟩
theorem d_P_erase_6 : mD m_P_erase 6 (.iconst 0) 1 7 := ⟨by decide +kernel, rfl⟩
theorem d_P_erase_7 : mD m_P_erase 7 (.putfield 34) 3 10 := ⟨by decide +kernel, rfl⟩
theorem d_P_erase_10 : mD m_P_erase 10 (.aload_n 0) 1 11 := ⟨by decide +kernel, rfl⟩
theorem d_P_erase_11 : mD m_P_erase 11 (.invokevirtual 37) 3 14 := ⟨by decide +kernel, rfl⟩
theorem d_P_erase_14 : mD m_P_erase 14 (.iload_n 1) 1 15 := ⟨by decide +kernel, rfl⟩
theorem d_P_erase_15 : mD m_P_erase 15 (.ireturn) 1 16 := ⟨by decide +kernel, rfl⟩
theorem d_P_everyone_0 : mD m_P_everyone 0 (.iconst 1) 1 1 := ⟨by decide +kernel, rfl⟩
theorem d_P_everyone_1 : mD m_P_everyone 1 (.aload_n 0) 1 2 := ⟨by decide +kernel, rfl⟩
theorem d_P_everyone_2 : mD m_P_everyone 2 (.getfield 40) 3 5 := ⟨by decide +kernel, rfl⟩
theorem d_P_everyone_5 : mD m_P_everyone 5 (.ishl) 1 6 := ⟨by decide +kernel, rfl⟩
theorem d_P_everyone_6 : mD m_P_everyone 6 (.iconst 1) 1 7 := ⟨by decide +kernel, rfl⟩
theorem d_P_everyone_7 : mD m_P_everyone 7 (.isub) 1 8 := ⟨by decide +kernel, rfl⟩
theorem d_P_everyone_8 : mD m_P_everyone 8 (.ireturn) 1 9 := ⟨by decide +kernel, rfl⟩
theorem d_P_isTextFull_0 : mD m_P_isTextFull 0 (.aload_n 0) 1 1 := ⟨by decide +kernel, rfl⟩
theorem d_P_isTextFull_1 : mD m_P_isTextFull 1 (.getfield 34) 3 4 := ⟨by decide +kernel, rfl⟩
theorem d_P_isTextFull_4 : mD m_P_isTextFull 4 (.bipush 40) 2 6 := ⟨by decide +kernel, rfl⟩
theorem d_P_isTextFull_6 : mJ m_P_isTextFull 6 (.if_icmp .lt 7) (7) 9 13 := ⟨by decide +kernel, rfl, rfl⟩
theorem d_P_isTextFull_9 : mD m_P_isTextFull 9 (.iconst 1) 1 10 := ⟨by decide +kernel, rfl⟩
theorem d_P_isTextFull_10 : mJ m_P_isTextFull 10 (.goto 4) (4) 13 14 := ⟨by decide +kernel, rfl, rfl⟩
theorem d_P_isTextFull_13 : mD m_P_isTextFull 13 (.iconst 0) 1 14 := ⟨by decide +kernel, rfl⟩
theorem d_P_isTextFull_14 : mD m_P_isTextFull 14 (.ireturn) 1 15 := ⟨by decide +kernel, rfl⟩
theorem d_P_isThere_0 : mD m_P_isThere 0 (.iload_n 1) 1 1 := ⟨by decide +kernel, rfl⟩
theorem d_P_isThere_1 : mJ m_P_isThere 1 (.ifCond .lt 15) (15) 4 16 := ⟨by decide +kernel, rfl, rfl⟩
theorem d_P_isThere_4 : mD m_P_isThere 4 (.iload_n 1) 1 5 := ⟨by decide +kernel, rfl⟩
theorem d_P_isThere_5 : mD m_P_isThere 5 (.aload_n 0) 1 6 := ⟨by decide +kernel, rfl⟩
theorem d_P_isThere_6 : mD m_P_isThere 6 (.getfield 40) 3 9 := ⟨by decide +kernel, rfl⟩
theorem d_P_isThere_9 : mJ m_P_isThere 9 (.if_icmp .ge 7) (7) 12 16 := ⟨by decide +kernel, rfl, rfl⟩
theorem d_P_isThere_12 : mD m_P_isThere 12 (.iconst 1) 1 13 := ⟨by decide +kernel, rfl⟩
theorem d_P_isThere_13 : mJ m_P_isThere 13 (.goto 4) (4) 16 17 := ⟨by decide +kernel, rfl, rfl⟩
theorem d_P_isThere_16 : mD m_P_isThere 16 (.iconst 0) 1 17 := ⟨by decide +kernel, rfl⟩
theorem d_P_isThere_17 : mD m_P_isThere 17 (.ireturn) 1 18 := ⟨by decide +kernel, rfl⟩
theorem d_P_liars_0 : mD m_P_liars 0 (.iconst 0) 1 1 := ⟨by decide +kernel, rfl⟩
theorem d_P_liars_1 : mD m_P_liars 1 (.istore_n 1) 1 2 := ⟨by decide +kernel, rfl⟩
theorem d_P_liars_2 : mD m_P_liars 2 (.iconst 0) 1 3 := ⟨by decide +kernel, rfl⟩
theorem d_P_liars_3 : mD m_P_liars 3 (.istore_n 2) 1 4 := ⟨by decide +kernel, rfl⟩
theorem d_P_liars_4 : mD m_P_liars 4 (.iload_n 2) 1 5 := ⟨by decide +kernel, rfl⟩
theorem d_P_liars_5 : mD m_P_liars 5 (.aload_n 0) 1 6 := ⟨by decide +kernel, rfl⟩
theorem d_P_liars_6 : mD m_P_liars 6 (.getfield 40) 3 9 := ⟨by decide +kernel, rfl⟩
theorem d_P_liars_9 : mJ m_P_liars 9 (.if_icmp .ge 21) (21) 12 30 := ⟨by decide +kernel, rfl, rfl⟩
theorem d_P_liars_12 : mD m_P_liars 12 (.aload_n 0) 1 13 := ⟨by decide +kernel, rfl⟩
theorem d_P_liars_13 : mD m_P_liars 13 (.getfield 27) 3 16 := ⟨by decide +kernel, rfl⟩
theorem d_P_liars_16 : mD m_P_liars 16 (.iload_n 2) 1 17 := ⟨by decide +kernel, rfl⟩
theorem d_P_liars_17 : mD m_P_liars 17 (.iaload) 1 18 := ⟨by decide +kernel, rfl⟩
theorem d_P_liars_18 : mJ m_P_liars 18 (.ifCond .eq 6) (6) 21 24 := ⟨by decide +kernel, rfl, rfl⟩
theorem d_P_liars_21 : mD m_P_liars 21 (.iinc 1 1) 3 24 := ⟨by decide +kernel, rfl⟩
theorem d_P_liars_24 : mD m_P_liars 24 (.iinc 2 1) 3 27 := ⟨by decide +kernel, rfl⟩
theorem d_P_liars_27 : mJ m_P_liars 27 (.goto (-23)) (-23) 30 4 := ⟨by decide +kernel, rfl, rfl⟩
theorem d_P_liars_30 : mD m_P_liars 30 (.iload_n 1) 1 31 := ⟨by decide +kernel, rfl⟩
theorem d_P_liars_31 : mD m_P_liars 31 (.ireturn) 1 32 := ⟨by decide +kernel, rfl⟩
theorem d_P_tell_0 : mD m_P_tell 0 (.iload_n 1) 1 1 := ⟨by decide +kernel, rfl⟩
theorem d_P_tell_1 : mD m_P_tell 1 (.invokestatic 43) 3 4 := ⟨by decide +kernel, rfl⟩
theorem d_P_tell_4 : mJ m_P_tell 4 (.ifCond .eq 27) (27) 7 31 := ⟨by decide +kernel, rfl, rfl⟩
theorem d_P_tell_7 : mD m_P_tell 7 (.aload_n 0) 1 8 := ⟨by decide +kernel, rfl⟩
theorem d_P_tell_8 : mD m_P_tell 8 (.getfield 27) 3 11 := ⟨by decide +kernel, rfl⟩
theorem d_P_tell_11 : mD m_P_tell 11 (.iload_n 1) 1 12 := ⟨by decide +kernel, rfl⟩
theorem d_P_tell_12 : mD m_P_tell 12 (.iload_n 2) 1 13 := ⟨by decide +kernel, rfl⟩
theorem d_P_tell_13 : mD m_P_tell 13 (.iastore) 1 14 := ⟨by decide +kernel, rfl⟩
theorem d_P_tell_14 : mD m_P_tell 14 (.aload_n 0) 1 15 := ⟨by decide +kernel, rfl⟩
theorem d_P_tell_15 : mD m_P_tell 15 (.getfield 18) 3 18 := ⟨by decide +kernel, rfl⟩
theorem d_P_tell_18 : mD m_P_tell 18 (.iload_n 1) 1 19 := ⟨by decide +kernel, rfl⟩
theorem d_P_tell_19 : mD m_P_tell 19 (.aload_n 0) 1 20 := ⟨by decide +kernel, rfl⟩
theorem d_P_tell_20 : mD m_P_tell 20 (.iload_n 1) 1 21 := ⟨by decide +kernel, rfl⟩
theorem d_P_tell_21 : mD m_P_tell 21 (.aload_n 0) 1 22 := ⟨by decide +kernel, rfl⟩
theorem d_P_tell_22 : mD m_P_tell 22 (.getfield 15) 3 25 := ⟨by decide +kernel, rfl⟩
theorem d_P_tell_25 : mD m_P_tell 25 (.iload_n 1) 1 26 := ⟨by decide +kernel, rfl⟩
theorem d_P_tell_26 : mD m_P_tell 26 (.iaload) 1 27 := ⟨by decide +kernel, rfl⟩
theorem d_P_tell_27 : mD m_P_tell 27 (.invokevirtual 47) 3 30 := ⟨by decide +kernel, rfl⟩
theorem d_P_tell_30 : mD m_P_tell 30 (.iastore) 1 31 := ⟨by decide +kernel, rfl⟩
theorem d_P_tell_31 : mD m_P_tell 31 (.return_) 1 32 := ⟨by decide +kernel, rfl⟩
theorem d_P_toldAt_0 : mD m_P_toldAt 0 (.iload_n 1) 1 1 := ⟨by decide +kernel, rfl⟩
theorem d_P_toldAt_1 : mD m_P_toldAt 1 (.invokestatic 43) 3 4 := ⟨by decide +kernel, rfl⟩
theorem d_P_toldAt_4 : mJ m_P_toldAt 4 (.ifCond .eq 18) (18) 7 22 := ⟨by decide +kernel, rfl, rfl⟩
theorem d_P_toldAt_7 : mD m_P_toldAt 7 (.iconst 0) 1 8 := ⟨by decide +kernel, rfl⟩
theorem d_P_toldAt_8 : mD m_P_toldAt 8 (.iload_n 2) 1 9 := ⟨by decide +kernel, rfl⟩
theorem d_P_toldAt_9 : mD m_P_toldAt 9 (.aload_n 0) 1 10 := ⟨by decide +kernel, rfl⟩
theorem d_P_toldAt_10 : mD m_P_toldAt 10 (.getfield 27) 3 13 := ⟨by decide +kernel, rfl⟩
theorem d_P_toldAt_13 : mD m_P_toldAt 13 (.iload_n 1) 1 14 := ⟨by decide +kernel, rfl⟩
theorem d_P_toldAt_14 : mD m_P_toldAt 14 (.iaload) 1 15 := ⟨by decide +kernel, rfl⟩
theorem d_P_toldAt_15 : mD m_P_toldAt 15 (.iadd) 1 16 := ⟨by decide +kernel, rfl⟩
theorem d_P_toldAt_16 : mD m_P_toldAt 16 (.invokestatic 51) 3 19 := ⟨by decide +kernel, rfl⟩
theorem d_P_toldAt_19 : mJ m_P_toldAt 19 (.goto 4) (4) 22 23 := ⟨by decide +kernel, rfl, rfl⟩
theorem d_P_toldAt_22 : mD m_P_toldAt 22 (.iconst 0) 1 23 := ⟨by decide +kernel, rfl⟩
theorem d_P_toldAt_23 : mD m_P_toldAt 23 (.ireturn) 1 24 := ⟨by decide +kernel, rfl⟩
theorem d_P_understand_0 : mD m_P_understand 0 (.aload_n 0) 1 1 := ⟨by decide +kernel, rfl⟩
theorem d_P_understand_1 : mD m_P_understand 1 (.iconst (-1)) 1 2 := ⟨by decide +kernel, rfl⟩
theorem d_P_understand_2 : mD m_P_understand 2 (.putfield 30) 3 5 := ⟨by decide +kernel, rfl⟩
theorem d_P_understand_5 : mD m_P_understand 5 (.iconst 0) 1 6 := ⟨by decide +kernel, rfl⟩
theorem d_P_understand_6 : mD m_P_understand 6 (.istore_n 1) 1 7 := ⟨by decide +kernel, rfl⟩
theorem d_P_understand_7 : mD m_P_understand 7 (.iconst 0) 1 8 := ⟨by decide +kernel, rfl⟩
theorem d_P_understand_8 : mD m_P_understand 8 (.istore_n 2) 1 9 := ⟨by decide +kernel, rfl⟩
theorem d_P_understand_9 : mD m_P_understand 9 (.aload_n 0) 1 10 := ⟨by decide +kernel, rfl⟩
theorem d_P_understand_10 : mD m_P_understand 10 (.getfield 34) 3 13 := ⟨by decide +kernel, rfl⟩
theorem d_P_understand_13 : mJ m_P_understand 13 (.ifCond .le 7) (7) 16 20 := ⟨by decide +kernel, rfl, rfl⟩
theorem d_P_understand_16 : mD m_P_understand 16 (.iconst 1) 1 17 := ⟨by decide +kernel, rfl⟩
theorem d_P_understand_17 : mJ m_P_understand 17 (.goto 4) (4) 20 21 := ⟨by decide +kernel, rfl, rfl⟩
theorem d_P_understand_20 : mD m_P_understand 20 (.iconst 0) 1 21 := ⟨by decide +kernel, rfl⟩
theorem d_P_understand_21 : mD m_P_understand 21 (.istore_n 3) 1 22 := ⟨by decide +kernel, rfl⟩
theorem d_P_understand_22 : mD m_P_understand 22 (.iconst 0) 1 23 := ⟨by decide +kernel, rfl⟩
theorem d_P_understand_23 : mD m_P_understand 23 (.istore 4) 2 25 := ⟨by decide +kernel, rfl⟩
theorem d_P_understand_25 : mD m_P_understand 25 (.iload_n 3) 1 26 := ⟨by decide +kernel, rfl⟩
theorem d_P_understand_26 : mJ m_P_understand 26 (.ifCond .eq 140) (140) 29 166 := ⟨by decide +kernel, rfl, rfl⟩
theorem d_P_understand_29 : mD m_P_understand 29 (.iload 4) 2 31 := ⟨by decide +kernel, rfl⟩
theorem d_P_understand_31 : mD m_P_understand 31 (.bipush 10) 2 33 := ⟨by decide +kernel, rfl⟩
theorem d_P_understand_33 : mJ m_P_understand 33 (.if_icmp .gt 133) (133) 36 166 := ⟨by decide +kernel, rfl, rfl⟩
theorem d_P_understand_36 : mD m_P_understand 36 (.aload_n 0) 1 37 := ⟨by decide +kernel, rfl⟩
theorem d_P_understand_37 : mD m_P_understand 37 (.iload_n 2) 1 38 := ⟨by decide +kernel, rfl⟩
theorem d_P_understand_38 : mD m_P_understand 38 (.invokevirtual 56) 3 41 := ⟨by decide +kernel, rfl⟩
theorem d_P_understand_41 : mD m_P_understand 41 (.istore 5) 2 43 := ⟨by decide +kernel, rfl⟩
theorem d_P_understand_43 : mD m_P_understand 43 (.aload_n 0) 1 44 := ⟨by decide +kernel, rfl⟩
theorem d_P_understand_44 : mD m_P_understand 44 (.iload_n 2) 1 45 := ⟨by decide +kernel, rfl⟩
theorem d_P_understand_45 : mD m_P_understand 45 (.iload 5) 2 47 := ⟨by decide +kernel, rfl⟩
theorem d_P_understand_47 : mD m_P_understand 47 (.invokevirtual 60) 3 50 := ⟨by decide +kernel, rfl⟩
theorem d_P_understand_50 : mD m_P_understand 50 (.istore 6) 2 52 := ⟨by decide +kernel, rfl⟩
theorem d_P_understand_52 : mD m_P_understand 52 (.iload 5) 2 54 := ⟨by decide +kernel, rfl⟩
theorem d_P_understand_54 : mD m_P_understand 54 (.iload_n 2) 1 55 := ⟨by decide +kernel, rfl⟩
theorem d_P_understand_55 : mJ m_P_understand 55 (.if_icmp .eq 17) (17) 58 72 := ⟨by decide +kernel, rfl, rfl⟩
theorem d_P_understand_58 : mD m_P_understand 58 (.iload 6) 2 60 := ⟨by decide +kernel, rfl⟩
theorem d_P_understand_60 : mD m_P_understand 60 (.bipush 120) 2 62 := ⟨by decide +kernel, rfl⟩
theorem d_P_understand_62 : mJ m_P_understand 62 (.if_icmp .gt 10) (10) 65 72 := ⟨by decide +kernel, rfl, rfl⟩
theorem d_P_understand_65 : mD m_P_understand 65 (.iload 4) 2 67 := ⟨by decide +kernel, rfl⟩
theorem d_P_understand_67 : mD m_P_understand 67 (.bipush 10) 2 69 := ⟨by decide +kernel, rfl⟩
theorem d_P_understand_69 : mJ m_P_understand 69 (.if_icmp .ne 13) (13) 72 82 := ⟨by decide +kernel, rfl, rfl⟩
theorem d_P_understand_72 : mD m_P_understand 72 (.aload_n 0) 1 73 := ⟨by decide +kernel, rfl⟩
theorem d_P_understand_73 : mD m_P_understand 73 (.iload_n 2) 1 74 := ⟨by decide +kernel, rfl⟩
theorem d_P_understand_74 : mD m_P_understand 74 (.putfield 30) 3 77 := ⟨by decide +kernel, rfl⟩
theorem d_P_understand_77 : mD m_P_understand 77 (.iconst 0) 1 78 := ⟨by decide +kernel, rfl⟩
theorem d_P_understand_78 : mD m_P_understand 78 (.istore_n 3) 1 79 := ⟨by decide +kernel, rfl⟩
theorem d_P_understand_79 : mJ m_P_understand 79 (.goto 81) (81) 82 160 := ⟨by decide +kernel, rfl, rfl⟩
theorem d_P_understand_82 : mD m_P_understand 82 (.aload_n 0) 1 83 := ⟨by decide +kernel, rfl⟩
theorem d_P_understand_83 : mD m_P_understand 83 (.getfield 15) 3 86 := ⟨by decide +kernel, rfl⟩
theorem d_P_understand_86 : mD m_P_understand 86 (.iload 4) 2 88 := ⟨by decide +kernel, rfl⟩
theorem d_P_understand_88 : mD m_P_understand 88 (.iload 6) 2 90 := ⟨by decide +kernel, rfl⟩
theorem d_P_understand_90 : mD m_P_understand 90 (.iastore) 1 91 := ⟨by decide +kernel, rfl⟩
theorem d_P_understand_91 : mD m_P_understand 91 (.iload 4) 2 93 := ⟨by decide +kernel, rfl⟩
theorem d_P_understand_93 : mD m_P_understand 93 (.iconst 1) 1 94 := ⟨by decide +kernel, rfl⟩
theorem d_P_understand_94 : mD m_P_understand 94 (.iadd) 1 95 := ⟨by decide +kernel, rfl⟩
theorem d_P_understand_95 : mD m_P_understand 95 (.istore_n 1) 1 96 := ⟨by decide +kernel, rfl⟩
theorem d_P_understand_96 : mD m_P_understand 96 (.iload 5) 2 98 := ⟨by decide +kernel, rfl⟩
theorem d_P_understand_98 : mD m_P_understand 98 (.aload_n 0) 1 99 := ⟨by decide +kernel, rfl⟩
theorem d_P_understand_99 : mD m_P_understand 99 (.getfield 34) 3 102 := ⟨by decide +kernel, rfl⟩
theorem d_P_understand_102 : mJ m_P_understand 102 (.if_icmp .ge 7) (7) 105 109 := ⟨by decide +kernel, rfl, rfl⟩
theorem d_P_understand_105 : mD m_P_understand 105 (.iconst 1) 1 106 := ⟨by decide +kernel, rfl⟩
theorem d_P_understand_106 : mJ m_P_understand 106 (.goto 4) (4) 109 110 := ⟨by decide +kernel, rfl, rfl⟩
theorem d_P_understand_109 : mD m_P_understand 109 (.iconst 0) 1 110 := ⟨by decide +kernel, rfl⟩
theorem d_P_understand_110 : mD m_P_understand 110 (.istore_n 3) 1 111 := ⟨by decide +kernel, rfl⟩
theorem d_P_understand_111 : mD m_P_understand 111 (.aload_n 0) 1 112 := ⟨by decide +kernel, rfl⟩
theorem d_P_understand_112 : mD m_P_understand 112 (.iload_n 3) 1 113 := ⟨by decide +kernel, rfl⟩
theorem d_P_understand_113 : mJ m_P_understand 113 (.ifCond .eq 20) (20) 116 133 := ⟨by decide +kernel, rfl, rfl⟩
theorem d_P_understand_116 : mD m_P_understand 116 (.aload_n 0) 1 117 := ⟨by decide +kernel, rfl⟩
theorem d_P_understand_117 : mD m_P_understand 117 (.getfield 11) 3 120 := ⟨by decide +kernel, rfl⟩
theorem d_P_understand_120 : mD m_P_understand 120 (.iload 5) 2 122 := ⟨by decide +kernel, rfl⟩
theorem d_P_understand_122 : mD m_P_understand 122 (.iaload) 1 123 := ⟨by decide +kernel, rfl⟩
theorem d_P_understand_123 : mD m_P_understand 123 (.bipush 59) 2 125 := ⟨by decide +kernel, rfl⟩
theorem d_P_understand_125 : mJ m_P_understand 125 (.if_icmp .eq 8) (8) 128 133 := ⟨by decide +kernel, rfl, rfl⟩
theorem d_P_understand_128 : mD m_P_understand 128 (.iload 5) 2 130 := ⟨by decide +kernel, rfl⟩
theorem d_P_understand_130 : mJ m_P_understand 130 (.goto 4) (4) 133 134 := ⟨by decide +kernel, rfl, rfl⟩
theorem d_P_understand_133 : mD m_P_understand 133 (.iconst (-1)) 1 134 := ⟨by decide +kernel, rfl⟩
theorem d_P_understand_134 : mD m_P_understand 134 (.putfield 30) 3 137 := ⟨by decide +kernel, rfl⟩
theorem d_P_understand_137 : mD m_P_understand 137 (.iload_n 3) 1 138 := ⟨by decide +kernel, rfl⟩
theorem d_P_understand_138 : mJ m_P_understand 138 (.ifCond .eq 15) (15) 141 153 := ⟨by decide +kernel, rfl, rfl⟩
theorem d_P_understand_141 : mD m_P_understand 141 (.aload_n 0) 1 142 := ⟨by decide +kernel, rfl⟩
theorem d_P_understand_142 : mD m_P_understand 142 (.getfield 30) 3 145 := ⟨by decide +kernel, rfl⟩
theorem d_P_understand_145 : mD m_P_understand 145 (.iconst (-1)) 1 146 := ⟨by decide +kernel, rfl⟩
theorem d_P_understand_146 : mJ m_P_understand 146 (.if_icmp .ne 7) (7) 149 153 := ⟨by decide +kernel, rfl, rfl⟩
theorem d_P_understand_149 : mD m_P_understand 149 (.iconst 1) 1 150 := ⟨by decide +kernel, rfl⟩
theorem d_P_understand_150 : mJ m_P_understand 150 (.goto 4) (4) 153 154 := ⟨by decide +kernel, rfl, rfl⟩
theorem d_P_understand_153 : mD m_P_understand 153 (.iconst 0) 1 154 := ⟨by decide +kernel, rfl⟩
theorem d_P_understand_154 : mD m_P_understand 154 (.istore_n 3) 1 155 := ⟨by decide +kernel, rfl⟩
theorem d_P_understand_155 : mD m_P_understand 155 (.iload 5) 2 157 := ⟨by decide +kernel, rfl⟩
theorem d_P_understand_157 : mD m_P_understand 157 (.iconst 1) 1 158 := ⟨by decide +kernel, rfl⟩
theorem d_P_understand_158 : mD m_P_understand 158 (.iadd) 1 159 := ⟨by decide +kernel, rfl⟩
theorem d_P_understand_159 : mD m_P_understand 159 (.istore_n 2) 1 160 := ⟨by decide +kernel, rfl⟩
theorem d_P_understand_160 : mD m_P_understand 160 (.iinc 4 1) 3 163 := ⟨by decide +kernel, rfl⟩
theorem d_P_understand_163 : mJ m_P_understand 163 (.goto (-138)) (-138) 166 25 := ⟨by decide +kernel, rfl, rfl⟩
theorem d_P_understand_166 : mD m_P_understand 166 (.aload_n 0) 1 167 := ⟨by decide +kernel, rfl⟩
theorem d_P_understand_167 : mD m_P_understand 167 (.aload_n 0) 1 168 := ⟨by decide +kernel, rfl⟩
theorem d_P_understand_168 : mD m_P_understand 168 (.getfield 30) 3 171 := ⟨by decide +kernel, rfl⟩
theorem d_P_understand_171 : mD m_P_understand 171 (.iconst (-1)) 1 172 := ⟨by decide +kernel, rfl⟩
theorem d_P_understand_172 : mJ m_P_understand 172 (.if_icmp .ne 7) (7) 175 179 := ⟨by decide +kernel, rfl, rfl⟩
theorem d_P_understand_175 : mD m_P_understand 175 (.iload_n 1) 1 176 := ⟨by decide +kernel, rfl⟩
theorem d_P_understand_176 : mJ m_P_understand 176 (.goto 4) (4) 179 180 := ⟨by decide +kernel, rfl, rfl⟩
theorem d_P_understand_179 : mD m_P_understand 179 (.iconst 0) 1 180 := ⟨by decide +kernel, rfl⟩
theorem d_P_understand_180 : mD m_P_understand 180 (.putfield 40) 3 183 := ⟨by decide +kernel, rfl⟩
theorem d_P_understand_183 : mD m_P_understand 183 (.iconst 0) 1 184 := ⟨by decide +kernel, rfl⟩
theorem d_P_understand_184 : mD m_P_understand 184 (.istore 4) 2 186 := ⟨by decide +kernel, rfl⟩
theorem d_P_understand_186 : mD m_P_understand 186 (.iload 4) 2 188 := ⟨by decide +kernel, rfl⟩
theorem d_P_understand_188 : mD m_P_understand 188 (.aload_n 0) 1 189 := ⟨by decide +kernel, rfl⟩
theorem d_P_understand_189 : mD m_P_understand 189 (.getfield 40) 3 192 := ⟨by decide +kernel, rfl⟩
theorem d_P_understand_192 : mJ m_P_understand 192 (.if_icmp .ge 29) (29) 195 221 := ⟨by decide +kernel, rfl, rfl⟩
theorem d_P_understand_195 : mD m_P_understand 195 (.aload_n 0) 1 196 := ⟨by decide +kernel, rfl⟩
theorem d_P_understand_196 : mD m_P_understand 196 (.getfield 18) 3 199 := ⟨by decide +kernel, rfl⟩
theorem d_P_understand_199 : mD m_P_understand 199 (.iload 4) 2 201 := ⟨by decide +kernel, rfl⟩
theorem d_P_understand_201 : mD m_P_understand 201 (.aload_n 0) 1 202 := ⟨by decide +kernel, rfl⟩
theorem d_P_understand_202 : mD m_P_understand 202 (.iload 4) 2 204 := ⟨by decide +kernel, rfl⟩
theorem d_P_understand_204 : mD m_P_understand 204 (.aload_n 0) 1 205 := ⟨by decide +kernel, rfl⟩
theorem d_P_understand_205 : mD m_P_understand 205 (.getfield 15) 3 208 := ⟨by decide +kernel, rfl⟩
theorem d_P_understand_208 : mD m_P_understand 208 (.iload 4) 2 210 := ⟨by decide +kernel, rfl⟩
theorem d_P_understand_210 : mD m_P_understand 210 (.iaload) 1 211 := ⟨by decide +kernel, rfl⟩
theorem d_P_understand_211 : mD m_P_understand 211 (.invokevirtual 47) 3 214 := ⟨by decide +kernel, rfl⟩
theorem d_P_understand_214 : mD m_P_understand 214 (.iastore) 1 215 := ⟨by decide +kernel, rfl⟩
theorem d_P_understand_215 : mD m_P_understand 215 (.iinc 4 1) 3 218 := ⟨by decide +kernel, rfl⟩
theorem d_P_understand_218 : mJ m_P_understand 218 (.goto (-32)) (-32) 221 186 := ⟨by decide +kernel, rfl, rfl⟩
theorem d_P_understand_221 : mD m_P_understand 221 (.return_) 1 222 := ⟨by decide +kernel, rfl⟩
theorem d_P_yearsTogether_0 : mD m_P_yearsTogether 0 (.iconst 0) 1 1 := ⟨by decide +kernel, rfl⟩
theorem d_P_yearsTogether_1 : mD m_P_yearsTogether 1 (.istore_n 1) 1 2 := ⟨by decide +kernel, rfl⟩
theorem d_P_yearsTogether_2 : mD m_P_yearsTogether 2 (.iconst 0) 1 3 := ⟨by decide +kernel, rfl⟩
theorem d_P_yearsTogether_3 : mD m_P_yearsTogether 3 (.istore_n 2) 1 4 := ⟨by decide +kernel, rfl⟩
theorem d_P_yearsTogether_4 : mD m_P_yearsTogether 4 (.iload_n 2) 1 5 := ⟨by decide +kernel, rfl⟩
theorem d_P_yearsTogether_5 : mD m_P_yearsTogether 5 (.aload_n 0) 1 6 := ⟨by decide +kernel, rfl⟩
theorem d_P_yearsTogether_6 : mD m_P_yearsTogether 6 (.getfield 40) 3 9 := ⟨by decide +kernel, rfl⟩
theorem d_P_yearsTogether_9 : mJ m_P_yearsTogether 9 (.if_icmp .ge 18) (18) 12 27 := ⟨by decide +kernel, rfl, rfl⟩
theorem d_P_yearsTogether_12 : mD m_P_yearsTogether 12 (.iload_n 1) 1 13 := ⟨by decide +kernel, rfl⟩
theorem d_P_yearsTogether_13 : mD m_P_yearsTogether 13 (.aload_n 0) 1 14 := ⟨by decide +kernel, rfl⟩
theorem d_P_yearsTogether_14 : mD m_P_yearsTogether 14 (.getfield 15) 3 17 := ⟨by decide +kernel, rfl⟩
theorem d_P_yearsTogether_17 : mD m_P_yearsTogether 17 (.iload_n 2) 1 18 := ⟨by decide +kernel, rfl⟩
theorem d_P_yearsTogether_18 : mD m_P_yearsTogether 18 (.iaload) 1 19 := ⟨by decide +kernel, rfl⟩
theorem d_P_yearsTogether_19 : mD m_P_yearsTogether 19 (.iadd) 1 20 := ⟨by decide +kernel, rfl⟩
theorem d_P_yearsTogether_20 : mD m_P_yearsTogether 20 (.istore_n 1) 1 21 := ⟨by decide +kernel, rfl⟩
theorem d_P_yearsTogether_21 : mD m_P_yearsTogether 21 (.iinc 2 1) 3 24 := ⟨by decide +kernel, rfl⟩
theorem d_P_yearsTogether_24 : mJ m_P_yearsTogether 24 (.goto (-20)) (-20) 27 4 := ⟨by decide +kernel, rfl, rfl⟩
theorem d_P_yearsTogether_27 : mD m_P_yearsTogether 27 (.iload_n 1) 1 28 := ⟨by decide +kernel, rfl⟩
theorem d_P_yearsTogether_28 : mD m_P_yearsTogether 28 (.ireturn) 1 29 := ⟨by decide +kernel, rfl⟩
theorem d_R_boatOfPlace_0 : mD m_R_boatOfPlace 0 (.aload_n 0) 1 1 := ⟨by decide +kernel, rfl⟩
theorem d_R_boatOfPlace_1 : mD m_R_boatOfPlace 1 (.getfield 9) 3 4 := ⟨by decide +kernel, rfl⟩
theorem d_R_boatOfPlace_4 : mD m_R_boatOfPlace 4 (.iconst 0) 1 5 := ⟨by decide +kernel, rfl⟩
theorem d_R_boatOfPlace_5 : mD m_R_boatOfPlace 5 (.iaload) 1 6 := ⟨by decide +kernel, rfl⟩
theorem d_R_boatOfPlace_6 : mD m_R_boatOfPlace 6 (.istore_n 2) 1 7 := ⟨by decide +kernel, rfl⟩
theorem d_R_boatOfPlace_7 : mD m_R_boatOfPlace 7 (.iload_n 2) 1 8 := ⟨by decide +kernel, rfl⟩
theorem d_R_boatOfPlace_8 : mJ m_R_boatOfPlace 8 (.ifCond .le 9) (9) 11 17 := ⟨by decide +kernel, rfl, rfl⟩
theorem d_R_boatOfPlace_11 : mD m_R_boatOfPlace 11 (.iload_n 1) 1 12 := ⟨by decide +kernel, rfl⟩
theorem d_R_boatOfPlace_12 : mD m_R_boatOfPlace 12 (.iload_n 2) 1 13 := ⟨by decide +kernel, rfl⟩
theorem d_R_boatOfPlace_13 : mD m_R_boatOfPlace 13 (.idiv) 1 14 := ⟨by decide +kernel, rfl⟩
theorem d_R_boatOfPlace_14 : mJ m_R_boatOfPlace 14 (.goto 4) (4) 17 18 := ⟨by decide +kernel, rfl, rfl⟩
theorem d_R_boatOfPlace_17 : mD m_R_boatOfPlace 17 (.iconst (-1)) 1 18 := ⟨by decide +kernel, rfl⟩
theorem d_R_boatOfPlace_18 : mD m_R_boatOfPlace 18 (.ireturn) 1 19 := ⟨by decide +kernel, rfl⟩
theorem d_R_isFit_0 : mD m_R_isFit 0 (.iload_n 1) 1 1 := ⟨by decide +kernel, rfl⟩
theorem d_R_isFit_1 : mJ m_R_isFit 1 (.ifCond .lt 34) (34) 4 35 := ⟨by decide +kernel, rfl, rfl⟩
theorem d_R_isFit_4 : mD m_R_isFit 4 (.iload_n 1) 1 5 := ⟨by decide +kernel, rfl⟩
theorem d_R_isFit_5 : mD m_R_isFit 5 (.aload_n 0) 1 6 := ⟨by decide +kernel, rfl⟩
theorem d_R_isFit_6 : mD m_R_isFit 6 (.getfield 9) 3 9 := ⟨by decide +kernel, rfl⟩
theorem d_R_isFit_9 : mD m_R_isFit 9 (.arraylength) 1 10 := ⟨by decide +kernel, rfl⟩
theorem d_R_isFit_10 : mJ m_R_isFit 10 (.if_icmp .ge 25) (25) 13 35 := ⟨by decide +kernel, rfl, rfl⟩
theorem d_R_isFit_13 : mD m_R_isFit 13 (.iload_n 2) 1 14 := ⟨by decide +kernel, rfl⟩
theorem d_R_isFit_14 : mD m_R_isFit 14 (.getstatic 21) 3 17 := ⟨by decide +kernel, rfl⟩
theorem d_R_isFit_17 : mD m_R_isFit 17 (.iload_n 1) 1 18 := ⟨by decide +kernel, rfl⟩
theorem d_R_isFit_18 : mD m_R_isFit 18 (.iaload) 1 19 := ⟨by decide +kernel, rfl⟩
theorem d_R_isFit_19 : mJ m_R_isFit 19 (.if_icmp .lt 16) (16) 22 35 := ⟨by decide +kernel, rfl, rfl⟩
theorem d_R_isFit_22 : mD m_R_isFit 22 (.iload_n 2) 1 23 := ⟨by decide +kernel, rfl⟩
theorem d_R_isFit_23 : mD m_R_isFit 23 (.getstatic 24) 3 26 := ⟨by decide +kernel, rfl⟩
theorem d_R_isFit_26 : mD m_R_isFit 26 (.iload_n 1) 1 27 := ⟨by decide +kernel, rfl⟩
theorem d_R_isFit_27 : mD m_R_isFit 27 (.iaload) 1 28 := ⟨by decide +kernel, rfl⟩
theorem d_R_isFit_28 : mJ m_R_isFit 28 (.if_icmp .gt 7) (7) 31 35 := ⟨by decide +kernel, rfl, rfl⟩
theorem d_R_isFit_31 : mD m_R_isFit 31 (.iconst 1) 1 32 := ⟨by decide +kernel, rfl⟩
theorem d_R_isFit_32 : mJ m_R_isFit 32 (.goto 4) (4) 35 36 := ⟨by decide +kernel, rfl, rfl⟩
theorem d_R_isFit_35 : mD m_R_isFit 35 (.iconst 0) 1 36 := ⟨by decide +kernel, rfl⟩
theorem d_R_isFit_36 : mD m_R_isFit 36 (.ireturn) 1 37 := ⟨by decide +kernel, rfl⟩
theorem d_R_mustOf_0 : mD m_R_mustOf 0 (.iload_n 1) 1 1 := ⟨by decide +kernel, rfl⟩
theorem d_R_mustOf_1 : mD m_R_mustOf 1 (.invokestatic 27) 3 4 := ⟨by decide +kernel, rfl⟩
theorem d_R_mustOf_4 : mJ m_R_mustOf 4 (.ifCond .eq 12) (12) 7 16 := ⟨by decide +kernel, rfl, rfl⟩
theorem d_R_mustOf_7 : mD m_R_mustOf 7 (.aload_n 0) 1 8 := ⟨by decide +kernel, rfl⟩
theorem d_R_mustOf_8 : mD m_R_mustOf 8 (.getfield 18) 3 11 := ⟨by decide +kernel, rfl⟩
theorem d_R_mustOf_11 : mD m_R_mustOf 11 (.iload_n 1) 1 12 := ⟨by decide +kernel, rfl⟩
theorem d_R_mustOf_12 : mD m_R_mustOf 12 (.iaload) 1 13 := ⟨by decide +kernel, rfl⟩
theorem d_R_mustOf_13 : mJ m_R_mustOf 13 (.goto 4) (4) 16 17 := ⟨by decide +kernel, rfl, rfl⟩
theorem d_R_mustOf_16 : mD m_R_mustOf 16 (.iconst 0) 1 17 := ⟨by decide +kernel, rfl⟩
theorem d_R_mustOf_17 : mD m_R_mustOf 17 (.ireturn) 1 18 := ⟨by decide +kernel, rfl⟩
theorem d_R_pairsOf_0 : mD m_R_pairsOf 0 (.iconst 0) 1 1 := ⟨by decide +kernel, rfl⟩
theorem d_R_pairsOf_1 : mD m_R_pairsOf 1 (.istore_n 2) 1 2 := ⟨by decide +kernel, rfl⟩
theorem d_R_pairsOf_2 : mD m_R_pairsOf 2 (.iconst 0) 1 3 := ⟨by decide +kernel, rfl⟩
theorem d_R_pairsOf_3 : mD m_R_pairsOf 3 (.istore_n 3) 1 4 := ⟨by decide +kernel, rfl⟩
theorem d_R_pairsOf_4 : mD m_R_pairsOf 4 (.iload_n 3) 1 5 := ⟨by decide +kernel, rfl⟩
theorem d_R_pairsOf_5 : mD m_R_pairsOf 5 (.bipush 10) 2 7 := ⟨by decide +kernel, rfl⟩
theorem d_R_pairsOf_7 : mJ m_R_pairsOf 7 (.if_icmp .ge 18) (18) 10 25 := ⟨by decide +kernel, rfl, rfl⟩
theorem d_R_pairsOf_10 : mD m_R_pairsOf 10 (.iload_n 2) 1 11 := ⟨by decide +kernel, rfl⟩
theorem d_R_pairsOf_11 : mD m_R_pairsOf 11 (.aload_n 1) 1 12 := ⟨by decide +kernel, rfl⟩
theorem d_R_pairsOf_12 : mD m_R_pairsOf 12 (.iload_n 3) 1 13 := ⟨by decide +kernel, rfl⟩
theorem d_R_pairsOf_13 : mD m_R_pairsOf 13 (.iaload) 1 14 := ⟨by decide +kernel, rfl⟩
theorem d_R_pairsOf_14 : mD m_R_pairsOf 14 (.invokestatic 31) 3 17 := ⟨by decide +kernel, rfl⟩
theorem d_R_pairsOf_17 : mD m_R_pairsOf 17 (.iadd) 1 18 := ⟨by decide +kernel, rfl⟩
theorem d_R_pairsOf_18 : mD m_R_pairsOf 18 (.istore_n 2) 1 19 := ⟨by decide +kernel, rfl⟩
theorem d_R_pairsOf_19 : mD m_R_pairsOf 19 (.iinc 3 1) 3 22 := ⟨by decide +kernel, rfl⟩
theorem d_R_pairsOf_22 : mJ m_R_pairsOf 22 (.goto (-18)) (-18) 25 4 := ⟨by decide +kernel, rfl, rfl⟩
theorem d_R_pairsOf_25 : mD m_R_pairsOf 25 (.iload_n 2) 1 26 := ⟨by decide +kernel, rfl⟩
theorem d_R_pairsOf_26 : mD m_R_pairsOf 26 (.iconst 2) 1 27 := ⟨by decide +kernel, rfl⟩
theorem d_R_pairsOf_27 : mD m_R_pairsOf 27 (.idiv) 1 28 := ⟨by decide +kernel, rfl⟩
theorem d_R_pairsOf_28 : mD m_R_pairsOf 28 (.ireturn) 1 29 := ⟨by decide +kernel, rfl⟩
theorem d_R_tie_0 : mD m_R_tie 0 (.iload_n 2) 1 1 := ⟨by decide +kernel, rfl⟩
theorem d_R_tie_1 : mD m_R_tie 1 (.invokestatic 27) 3 4 := ⟨by decide +kernel, rfl⟩
theorem d_R_tie_4 : mJ m_R_tie 4 (.ifCond .eq 10) (10) 7 14 := ⟨by decide +kernel, rfl, rfl⟩
theorem d_R_tie_7 : mD m_R_tie 7 (.iload_n 3) 1 8 := ⟨by decide +kernel, rfl⟩
theorem d_R_tie_8 : mD m_R_tie 8 (.invokestatic 27) 3 11 := ⟨by decide +kernel, rfl⟩
theorem d_R_tie_11 : mJ m_R_tie 11 (.ifCond .ne 6) (6) 14 17 := ⟨by decide +kernel, rfl, rfl⟩
theorem d_R_tie_14 : mD m_R_tie 14 (.bipush (-2)) 2 16 := ⟨by decide +kernel, rfl⟩
theorem d_R_tie_16 : mD m_R_tie 16 (.ireturn) 1 17 := ⟨by decide +kernel, rfl⟩
theorem d_R_tie_17 : mD m_R_tie 17 (.aload_n 1) 1 18 := ⟨by decide +kernel, rfl⟩
theorem d_R_tie_18 : mD m_R_tie 18 (.iload_n 2) 1 19 := ⟨by decide +kernel, rfl⟩
theorem d_R_tie_19 : mD m_R_tie 19 (.iaload) 1 20 := ⟨by decide +kernel, rfl⟩
theorem d_R_tie_20 : mD m_R_tie 20 (.iload_n 3) 1 21 := ⟨by decide +kernel, rfl⟩
theorem d_R_tie_21 : mD m_R_tie 21 (.ishr) 1 22 := ⟨by decide +kernel, rfl⟩
theorem d_R_tie_22 : mD m_R_tie 22 (.iconst 1) 1 23 := ⟨by decide +kernel, rfl⟩
theorem d_R_tie_23 : mD m_R_tie 23 (.iand) 1 24 := ⟨by decide +kernel, rfl⟩
theorem d_R_tie_24 : mD m_R_tie 24 (.istore 5) 2 26 := ⟨by decide +kernel, rfl⟩
theorem d_R_tie_26 : mD m_R_tie 26 (.aload_n 1) 1 27 := ⟨by decide +kernel, rfl⟩
theorem d_R_tie_27 : mD m_R_tie 27 (.iload_n 2) 1 28 := ⟨by decide +kernel, rfl⟩
theorem d_R_tie_28 : mD m_R_tie 28 (.aload_n 1) 1 29 := ⟨by decide +kernel, rfl⟩
theorem d_R_tie_29 : mD m_R_tie 29 (.iload_n 2) 1 30 := ⟨by decide +kernel, rfl⟩
theorem d_R_tie_30 : mD m_R_tie 30 (.iaload) 1 31 := ⟨by decide +kernel, rfl⟩
theorem d_R_tie_31 : mD m_R_tie 31 (.iconst 1) 1 32 := ⟨by decide +kernel, rfl⟩
theorem d_R_tie_32 : mD m_R_tie 32 (.iload_n 3) 1 33 := ⟨by decide +kernel, rfl⟩
theorem d_R_tie_33 : mD m_R_tie 33 (.ishl) 1 34 := ⟨by decide +kernel, rfl⟩
theorem d_R_tie_34 : mD m_R_tie 34 (.iconst (-1)) 1 35 := ⟨by decide +kernel, rfl⟩
theorem d_R_tie_35 : mD m_R_tie 35 (.ixor) 1 36 := ⟨by decide +kernel, rfl⟩
theorem d_R_tie_36 : mD m_R_tie 36 (.iand) 1 37 := ⟨by decide +kernel, rfl⟩
theorem d_R_tie_37 : mD m_R_tie 37 (.iload 4) 2 39 := ⟨by decide +kernel, rfl⟩
theorem d_R_tie_39 : mD m_R_tie 39 (.iload_n 3) 1 40 := ⟨by decide +kernel, rfl⟩
theorem d_R_tie_40 : mD m_R_tie 40 (.ishl) 1 41 := ⟨by decide +kernel, rfl⟩
theorem d_R_tie_41 : mD m_R_tie 41 (.ior) 1 42 := ⟨by decide +kernel, rfl⟩
theorem d_R_tie_42 : mD m_R_tie 42 (.iastore) 1 43 := ⟨by decide +kernel, rfl⟩
theorem d_R_tie_43 : mD m_R_tie 43 (.aload_n 1) 1 44 := ⟨by decide +kernel, rfl⟩
theorem d_R_tie_44 : mD m_R_tie 44 (.iload_n 3) 1 45 := ⟨by decide +kernel, rfl⟩
theorem d_R_tie_45 : mD m_R_tie 45 (.aload_n 1) 1 46 := ⟨by decide +kernel, rfl⟩
theorem d_R_tie_46 : mD m_R_tie 46 (.iload_n 3) 1 47 := ⟨by decide +kernel, rfl⟩
theorem d_R_tie_47 : mD m_R_tie 47 (.iaload) 1 48 := ⟨by decide +kernel, rfl⟩
theorem d_R_tie_48 : mD m_R_tie 48 (.iconst 1) 1 49 := ⟨by decide +kernel, rfl⟩
theorem d_R_tie_49 : mD m_R_tie 49 (.iload_n 2) 1 50 := ⟨by decide +kernel, rfl⟩
theorem d_R_tie_50 : mD m_R_tie 50 (.ishl) 1 51 := ⟨by decide +kernel, rfl⟩
theorem d_R_tie_51 : mD m_R_tie 51 (.iconst (-1)) 1 52 := ⟨by decide +kernel, rfl⟩
theorem d_R_tie_52 : mD m_R_tie 52 (.ixor) 1 53 := ⟨by decide +kernel, rfl⟩
theorem d_R_tie_53 : mD m_R_tie 53 (.iand) 1 54 := ⟨by decide +kernel, rfl⟩
theorem d_R_tie_54 : mD m_R_tie 54 (.iload 4) 2 56 := ⟨by decide +kernel, rfl⟩
theorem d_R_tie_56 : mD m_R_tie 56 (.iload_n 2) 1 57 := ⟨by decide +kernel, rfl⟩
theorem d_R_tie_57 : mD m_R_tie 57 (.ishl) 1 58 := ⟨by decide +kernel, rfl⟩
theorem d_R_tie_58 : mD m_R_tie 58 (.ior) 1 59 := ⟨by decide +kernel, rfl⟩
theorem d_R_tie_59 : mD m_R_tie 59 (.iastore) 1 60 := ⟨by decide +kernel, rfl⟩
theorem d_R_tie_60 : mD m_R_tie 60 (.iload 5) 2 62 := ⟨by decide +kernel, rfl⟩
theorem d_R_tie_62 : mD m_R_tie 62 (.ireturn) 1 63 := ⟨by decide +kernel, rfl⟩
theorem d_S_hasItem_0 : mD m_S_hasItem 0 (.iload_n 1) 1 1 := ⟨by decide +kernel, rfl⟩
theorem d_S_hasItem_1 : mJ m_S_hasItem 1 (.ifCond .lt 15) (15) 4 16 := ⟨by decide +kernel, rfl, rfl⟩
theorem d_S_hasItem_4 : mD m_S_hasItem 4 (.iload_n 1) 1 5 := ⟨by decide +kernel, rfl⟩
theorem d_S_hasItem_5 : mD m_S_hasItem 5 (.aload_n 0) 1 6 := ⟨by decide +kernel, rfl⟩
theorem d_S_hasItem_6 : mD m_S_hasItem 6 (.getfield 13) 3 9 := ⟨by decide +kernel, rfl⟩
theorem d_S_hasItem_9 : mJ m_S_hasItem 9 (.if_icmp .ge 7) (7) 12 16 := ⟨by decide +kernel, rfl, rfl⟩
theorem d_S_hasItem_12 : mD m_S_hasItem 12 (.iconst 1) 1 13 := ⟨by decide +kernel, rfl⟩
theorem d_S_hasItem_13 : mJ m_S_hasItem 13 (.goto 4) (4) 16 17 := ⟨by decide +kernel, rfl, rfl⟩
theorem d_S_hasItem_16 : mD m_S_hasItem 16 (.iconst 0) 1 17 := ⟨by decide +kernel, rfl⟩
theorem d_S_hasItem_17 : mD m_S_hasItem 17 (.ireturn) 1 18 := ⟨by decide +kernel, rfl⟩
theorem d_S_hasRange_0 : mD m_S_hasRange 0 (.iload_n 1) 1 1 := ⟨by decide +kernel, rfl⟩
theorem d_S_hasRange_1 : mJ m_S_hasRange 1 (.ifCond .lt 29) (29) 4 30 := ⟨by decide +kernel, rfl, rfl⟩
theorem d_S_hasRange_4 : mD m_S_hasRange 4 (.iload_n 2) 1 5 := ⟨by decide +kernel, rfl⟩
theorem d_S_hasRange_5 : mJ m_S_hasRange 5 (.ifCond .lt 25) (25) 8 30 := ⟨by decide +kernel, rfl, rfl⟩
theorem d_S_hasRange_8 : mD m_S_hasRange 8 (.iload_n 1) 1 9 := ⟨by decide +kernel, rfl⟩
theorem d_S_hasRange_9 : mD m_S_hasRange 9 (.aload_n 0) 1 10 := ⟨by decide +kernel, rfl⟩
theorem d_S_hasRange_10 : mD m_S_hasRange 10 (.getfield 13) 3 13 := ⟨by decide +kernel, rfl⟩
theorem d_S_hasRange_13 : mJ m_S_hasRange 13 (.if_icmp .gt 17) (17) 16 30 := ⟨by decide +kernel, rfl, rfl⟩
theorem d_S_hasRange_16 : mD m_S_hasRange 16 (.iload_n 2) 1 17 := ⟨by decide +kernel, rfl⟩
theorem d_S_hasRange_17 : mD m_S_hasRange 17 (.aload_n 0) 1 18 := ⟨by decide +kernel, rfl⟩
theorem d_S_hasRange_18 : mD m_S_hasRange 18 (.getfield 13) 3 21 := ⟨by decide +kernel, rfl⟩
theorem d_S_hasRange_21 : mD m_S_hasRange 21 (.iload_n 1) 1 22 := ⟨by decide +kernel, rfl⟩
theorem d_S_hasRange_22 : mD m_S_hasRange 22 (.isub) 1 23 := ⟨by decide +kernel, rfl⟩
theorem d_S_hasRange_23 : mJ m_S_hasRange 23 (.if_icmp .gt 7) (7) 26 30 := ⟨by decide +kernel, rfl, rfl⟩
theorem d_S_hasRange_26 : mD m_S_hasRange 26 (.iconst 1) 1 27 := ⟨by decide +kernel, rfl⟩
theorem d_S_hasRange_27 : mJ m_S_hasRange 27 (.goto 4) (4) 30 31 := ⟨by decide +kernel, rfl, rfl⟩
theorem d_S_hasRange_30 : mD m_S_hasRange 30 (.iconst 0) 1 31 := ⟨by decide +kernel, rfl⟩
theorem d_S_hasRange_31 : mD m_S_hasRange 31 (.ireturn) 1 32 := ⟨by decide +kernel, rfl⟩
theorem d_S_isLost_0 : mD m_S_isLost 0 (.aload_n 0) 1 1 := ⟨by decide +kernel, rfl⟩
theorem d_S_isLost_1 : mD m_S_isLost 1 (.getfield 13) 3 4 := ⟨by decide +kernel, rfl⟩
theorem d_S_isLost_4 : mD m_S_isLost 4 (.iconst (-1)) 1 5 := ⟨by decide +kernel, rfl⟩
theorem d_S_isLost_5 : mJ m_S_isLost 5 (.if_icmp .ne 7) (7) 8 12 := ⟨by decide +kernel, rfl, rfl⟩
theorem d_S_isLost_8 : mD m_S_isLost 8 (.iconst 1) 1 9 := ⟨by decide +kernel, rfl⟩
theorem d_S_isLost_9 : mJ m_S_isLost 9 (.goto 4) (4) 12 13 := ⟨by decide +kernel, rfl, rfl⟩
theorem d_S_isLost_12 : mD m_S_isLost 12 (.iconst 0) 1 13 := ⟨by decide +kernel, rfl⟩
theorem d_S_isLost_13 : mD m_S_isLost 13 (.ireturn) 1 14 := ⟨by decide +kernel, rfl⟩
theorem d_S_item_0 : mD m_S_item 0 (.aload_n 0) 1 1 := ⟨by decide +kernel, rfl⟩
theorem d_S_item_1 : mD m_S_item 1 (.iload_n 1) 1 2 := ⟨by decide +kernel, rfl⟩
theorem d_S_item_2 : mD m_S_item 2 (.invokevirtual 26) 3 5 := ⟨by decide +kernel, rfl⟩
theorem d_S_item_5 : mJ m_S_item 5 (.ifCond .eq 12) (12) 8 17 := ⟨by decide +kernel, rfl, rfl⟩
theorem d_S_item_8 : mD m_S_item 8 (.aload_n 0) 1 9 := ⟨by decide +kernel, rfl⟩
theorem d_S_item_9 : mD m_S_item 9 (.getfield 9) 3 12 := ⟨by decide +kernel, rfl⟩
theorem d_S_item_12 : mD m_S_item 12 (.iload_n 1) 1 13 := ⟨by decide +kernel, rfl⟩
theorem d_S_item_13 : mD m_S_item 13 (.iaload) 1 14 := ⟨by decide +kernel, rfl⟩
theorem d_S_item_14 : mJ m_S_item 14 (.goto 4) (4) 17 18 := ⟨by decide +kernel, rfl, rfl⟩
theorem d_S_item_17 : mD m_S_item 17 (.iconst 0) 1 18 := ⟨by decide +kernel, rfl⟩
theorem d_S_item_18 : mD m_S_item 18 (.ireturn) 1 19 := ⟨by decide +kernel, rfl⟩
theorem d_S_renew_0 : mD m_S_renew 0 (.aload_n 0) 1 1 := ⟨by decide +kernel, rfl⟩
theorem d_S_renew_1 : mD m_S_renew 1 (.iload_n 1) 1 2 := ⟨by decide +kernel, rfl⟩
theorem d_S_renew_2 : mD m_S_renew 2 (.putfield 17) 3 5 := ⟨by decide +kernel, rfl⟩
theorem d_S_renew_5 : mD m_S_renew 5 (.aload_n 0) 1 6 := ⟨by decide +kernel, rfl⟩
theorem d_S_renew_6 : mD m_S_renew 6 (.iload_n 2) 1 7 := ⟨by decide +kernel, rfl⟩
theorem d_S_renew_7 : mD m_S_renew 7 (.bipush 60) 2 9 := ⟨by decide +kernel, rfl⟩
theorem d_S_renew_9 : mD m_S_renew 9 (.invokestatic 20) 3 12 := ⟨by decide +kernel, rfl⟩
theorem d_S_renew_12 : mD m_S_renew 12 (.putfield 13) 3 15 := ⟨by decide +kernel, rfl⟩
theorem d_S_renew_15 : mD m_S_renew 15 (.iconst 0) 1 16 := ⟨by decide +kernel, rfl⟩
theorem d_S_renew_16 : mD m_S_renew 16 (.istore_n 3) 1 17 := ⟨by decide +kernel, rfl⟩
theorem d_S_renew_17 : mD m_S_renew 17 (.iload_n 3) 1 18 := ⟨by decide +kernel, rfl⟩
theorem d_S_renew_18 : mD m_S_renew 18 (.aload_n 0) 1 19 := ⟨by decide +kernel, rfl⟩
theorem d_S_renew_19 : mD m_S_renew 19 (.getfield 13) 3 22 := ⟨by decide +kernel, rfl⟩
theorem d_S_renew_22 : mJ m_S_renew 22 (.if_icmp .ge 16) (16) 25 38 := ⟨by decide +kernel, rfl, rfl⟩
theorem d_S_renew_25 : mD m_S_renew 25 (.aload_n 0) 1 26 := ⟨by decide +kernel, rfl⟩
theorem d_S_renew_26 : mD m_S_renew 26 (.getfield 9) 3 29 := ⟨by decide +kernel, rfl⟩
theorem d_S_renew_29 : mD m_S_renew 29 (.iload_n 3) 1 30 := ⟨by decide +kernel, rfl⟩
theorem d_S_renew_30 : mD m_S_renew 30 (.iconst 0) 1 31 := ⟨by decide +kernel, rfl⟩
theorem d_S_renew_31 : mD m_S_renew 31 (.iastore) 1 32 := ⟨by decide +kernel, rfl⟩
theorem d_S_renew_32 : mD m_S_renew 32 (.iinc 3 1) 3 35 := ⟨by decide +kernel, rfl⟩
theorem d_S_renew_35 : mJ m_S_renew 35 (.goto (-18)) (-18) 38 17 := ⟨by decide +kernel, rfl, rfl⟩
theorem d_S_renew_38 : mD m_S_renew 38 (.return_) 1 39 := ⟨by decide +kernel, rfl⟩
theorem d_S_store_0 : mD m_S_store 0 (.aload_n 0) 1 1 := ⟨by decide +kernel, rfl⟩
theorem d_S_store_1 : mD m_S_store 1 (.iload_n 1) 1 2 := ⟨by decide +kernel, rfl⟩
theorem d_S_store_2 : mD m_S_store 2 (.invokevirtual 26) 3 5 := ⟨by decide +kernel, rfl⟩
theorem d_S_store_5 : mJ m_S_store 5 (.ifCond .eq 35) (35) 8 40 := ⟨by decide +kernel, rfl, rfl⟩
theorem d_S_store_8 : mD m_S_store 8 (.aload_n 0) 1 9 := ⟨by decide +kernel, rfl⟩
theorem d_S_store_9 : mD m_S_store 9 (.getfield 9) 3 12 := ⟨by decide +kernel, rfl⟩
theorem d_S_store_12 : mD m_S_store 12 (.iload_n 1) 1 13 := ⟨by decide +kernel, rfl⟩
theorem d_S_store_13 : mD m_S_store 13 (.aload_n 0) 1 14 := ⟨by decide +kernel, rfl⟩
theorem d_S_store_14 : mD m_S_store 14 (.getfield 17) 3 17 := ⟨by decide +kernel, rfl⟩
theorem d_S_store_17 : mJ m_S_store 17 (.ifCond .ne 8) (8) 20 25 := ⟨by decide +kernel, rfl, rfl⟩
theorem d_S_store_20 : mD m_S_store 20 (.iload_n 2) 1 21 := ⟨by decide +kernel, rfl⟩
theorem d_S_store_21 : mD m_S_store 21 (.i2b) 1 22 := ⟨by decide +kernel, rfl⟩
theorem d_S_store_22 : mJ m_S_store 22 (.goto 17) (17) 25 39 := ⟨by decide +kernel, rfl, rfl⟩
theorem d_S_store_25 : mD m_S_store 25 (.aload_n 0) 1 26 := ⟨by decide +kernel, rfl⟩
theorem d_S_store_26 : mD m_S_store 26 (.getfield 17) 3 29 := ⟨by decide +kernel, rfl⟩
theorem d_S_store_29 : mD m_S_store 29 (.iconst 1) 1 30 := ⟨by decide +kernel, rfl⟩
theorem d_S_store_30 : mJ m_S_store 30 (.if_icmp .ne 8) (8) 33 38 := ⟨by decide +kernel, rfl, rfl⟩
theorem d_S_store_33 : mD m_S_store 33 (.iload_n 2) 1 34 := ⟨by decide +kernel, rfl⟩
theorem d_S_store_34 : mD m_S_store 34 (.i2s) 1 35 := ⟨by decide +kernel, rfl⟩
theorem d_S_store_35 : mJ m_S_store 35 (.goto 4) (4) 38 39 := ⟨by decide +kernel, rfl, rfl⟩
theorem d_S_store_38 : mD m_S_store 38 (.iload_n 2) 1 39 := ⟨by decide +kernel, rfl⟩
theorem d_S_store_39 : mD m_S_store 39 (.iastore) 1 40 := ⟨by decide +kernel, rfl⟩
theorem d_S_store_40 : mD m_S_store 40 (.return_) 1 41 := ⟨by decide +kernel, rfl⟩
theorem d_S_tearUp_0 : mD m_S_tearUp 0 (.aload_n 0) 1 1 := ⟨by decide +kernel, rfl⟩
theorem d_S_tearUp_1 : mD m_S_tearUp 1 (.iconst (-1)) 1 2 := ⟨by decide +kernel, rfl⟩
theorem d_S_tearUp_2 : mD m_S_tearUp 2 (.putfield 13) 3 5 := ⟨by decide +kernel, rfl⟩
theorem d_S_tearUp_5 : mD m_S_tearUp 5 (.return_) 1 6 := ⟨by decide +kernel, rfl⟩
theorem d_T_areNew_0 : mD m_T_areNew 0 (.iconst 0) 1 1 := ⟨by decide +kernel, rfl⟩
theorem d_T_areNew_1 : mD m_T_areNew 1 (.istore_n 2) 1 2 := ⟨by decide +kernel, rfl⟩
theorem d_T_areNew_2 : mD m_T_areNew 2 (.iload_n 2) 1 3 := ⟨by decide +kernel, rfl⟩
theorem d_T_areNew_3 : mD m_T_areNew 3 (.bipush 10) 2 5 := ⟨by decide +kernel, rfl⟩
theorem d_T_areNew_5 : mJ m_T_areNew 5 (.if_icmp .ge 30) (30) 8 35 := ⟨by decide +kernel, rfl, rfl⟩
theorem d_T_areNew_8 : mD m_T_areNew 8 (.iload_n 1) 1 9 := ⟨by decide +kernel, rfl⟩
theorem d_T_areNew_9 : mD m_T_areNew 9 (.iconst 1) 1 10 := ⟨by decide +kernel, rfl⟩
theorem d_T_areNew_10 : mD m_T_areNew 10 (.iload_n 2) 1 11 := ⟨by decide +kernel, rfl⟩
theorem d_T_areNew_11 : mD m_T_areNew 11 (.ishl) 1 12 := ⟨by decide +kernel, rfl⟩
theorem d_T_areNew_12 : mD m_T_areNew 12 (.iand) 1 13 := ⟨by decide +kernel, rfl⟩
theorem d_T_areNew_13 : mJ m_T_areNew 13 (.ifCond .eq 16) (16) 16 29 := ⟨by decide +kernel, rfl, rfl⟩
theorem d_T_areNew_16 : mD m_T_areNew 16 (.aload_n 0) 1 17 := ⟨by decide +kernel, rfl⟩
theorem d_T_areNew_17 : mD m_T_areNew 17 (.getfield 9) 3 20 := ⟨by decide +kernel, rfl⟩
theorem d_T_areNew_20 : mD m_T_areNew 20 (.iload_n 2) 1 21 := ⟨by decide +kernel, rfl⟩
theorem d_T_areNew_21 : mD m_T_areNew 21 (.iaload) 1 22 := ⟨by decide +kernel, rfl⟩
theorem d_T_areNew_22 : mD m_T_areNew 22 (.iload_n 1) 1 23 := ⟨by decide +kernel, rfl⟩
theorem d_T_areNew_23 : mD m_T_areNew 23 (.iand) 1 24 := ⟨by decide +kernel, rfl⟩
theorem d_T_areNew_24 : mJ m_T_areNew 24 (.ifCond .eq 5) (5) 27 29 := ⟨by decide +kernel, rfl, rfl⟩
theorem d_T_areNew_27 : mD m_T_areNew 27 (.iconst 0) 1 28 := ⟨by decide +kernel, rfl⟩
theorem d_T_areNew_28 : mD m_T_areNew 28 (.ireturn) 1 29 := ⟨by decide +kernel, rfl⟩
theorem d_T_areNew_29 : mD m_T_areNew 29 (.iinc 2 1) 3 32 := ⟨by decide +kernel, rfl⟩
theorem d_T_areNew_32 : mJ m_T_areNew 32 (.goto (-30)) (-30) 35 2 := ⟨by decide +kernel, rfl, rfl⟩
theorem d_T_areNew_35 : mD m_T_areNew 35 (.iconst 1) 1 36 := ⟨by decide +kernel, rfl⟩
theorem d_T_areNew_36 : mD m_T_areNew 36 (.ireturn) 1 37 := ⟨by decide +kernel, rfl⟩
theorem d_T_atLeast_0 : mD m_T_atLeast 0 (.iload_n 3) 1 1 := ⟨by decide +kernel, rfl⟩
theorem d_T_atLeast_1 : mD m_T_atLeast 1 (.aload_n 0) 1 2 := ⟨by decide +kernel, rfl⟩
theorem d_T_atLeast_2 : mD m_T_atLeast 2 (.getfield 15) 3 5 := ⟨by decide +kernel, rfl⟩
theorem d_T_atLeast_5 : mD m_T_atLeast 5 (.iload_n 2) 1 6 := ⟨by decide +kernel, rfl⟩
theorem d_T_atLeast_6 : mD m_T_atLeast 6 (.invokevirtual 64) 3 9 := ⟨by decide +kernel, rfl⟩
theorem d_T_atLeast_9 : mD m_T_atLeast 9 (.iadd) 1 10 := ⟨by decide +kernel, rfl⟩
theorem d_T_atLeast_10 : mD m_T_atLeast 10 (.aload_n 0) 1 11 := ⟨by decide +kernel, rfl⟩
theorem d_T_atLeast_11 : mD m_T_atLeast 11 (.getfield 15) 3 14 := ⟨by decide +kernel, rfl⟩
theorem d_T_atLeast_14 : mD m_T_atLeast 14 (.iload_n 1) 1 15 := ⟨by decide +kernel, rfl⟩
theorem d_T_atLeast_15 : mD m_T_atLeast 15 (.iload_n 2) 1 16 := ⟨by decide +kernel, rfl⟩
theorem d_T_atLeast_16 : mD m_T_atLeast 16 (.ixor) 1 17 := ⟨by decide +kernel, rfl⟩
theorem d_T_atLeast_17 : mD m_T_atLeast 17 (.invokevirtual 19) 3 20 := ⟨by decide +kernel, rfl⟩
theorem d_T_atLeast_20 : mD m_T_atLeast 20 (.iadd) 1 21 := ⟨by decide +kernel, rfl⟩
theorem d_T_atLeast_21 : mD m_T_atLeast 21 (.ireturn) 1 22 := ⟨by decide +kernel, rfl⟩
theorem d_T_comeBack_0 : mD m_T_comeBack 0 (.iload_n 3) 1 1 := ⟨by decide +kernel, rfl⟩
theorem d_T_comeBack_1 : mD m_T_comeBack 1 (.bipush 20) 2 3 := ⟨by decide +kernel, rfl⟩
theorem d_T_comeBack_3 : mJ m_T_comeBack 3 (.if_icmp .le 4) (4) 6 7 := ⟨by decide +kernel, rfl, rfl⟩
theorem d_T_comeBack_6 : mD m_T_comeBack 6 (.return_) 1 7 := ⟨by decide +kernel, rfl⟩
theorem d_T_comeBack_7 : mD m_T_comeBack 7 (.iload_n 1) 1 8 := ⟨by decide +kernel, rfl⟩
theorem d_T_comeBack_8 : mJ m_T_comeBack 8 (.ifCond .ne 16) (16) 11 24 := ⟨by decide +kernel, rfl, rfl⟩
theorem d_T_comeBack_11 : mD m_T_comeBack 11 (.aload_n 0) 1 12 := ⟨by decide +kernel, rfl⟩
theorem d_T_comeBack_12 : mD m_T_comeBack 12 (.aload_n 0) 1 13 := ⟨by decide +kernel, rfl⟩
theorem d_T_comeBack_13 : mD m_T_comeBack 13 (.getfield 34) 3 16 := ⟨by decide +kernel, rfl⟩
theorem d_T_comeBack_16 : mD m_T_comeBack 16 (.iload_n 2) 1 17 := ⟨by decide +kernel, rfl⟩
theorem d_T_comeBack_17 : mD m_T_comeBack 17 (.invokestatic 71) 3 20 := ⟨by decide +kernel, rfl⟩
theorem d_T_comeBack_20 : mD m_T_comeBack 20 (.putfield 34) 3 23 := ⟨by decide +kernel, rfl⟩
theorem d_T_comeBack_23 : mD m_T_comeBack 23 (.return_) 1 24 := ⟨by decide +kernel, rfl⟩
theorem d_T_comeBack_24 : mD m_T_comeBack 24 (.iload_n 1) 1 25 := ⟨by decide +kernel, rfl⟩
theorem d_T_comeBack_25 : mD m_T_comeBack 25 (.invokestatic 44) 3 28 := ⟨by decide +kernel, rfl⟩
theorem d_T_comeBack_28 : mD m_T_comeBack 28 (.istore 4) 2 30 := ⟨by decide +kernel, rfl⟩
theorem d_T_comeBack_30 : mD m_T_comeBack 30 (.iload_n 1) 1 31 := ⟨by decide +kernel, rfl⟩
theorem d_T_comeBack_31 : mD m_T_comeBack 31 (.iload 4) 2 33 := ⟨by decide +kernel, rfl⟩
theorem d_T_comeBack_33 : mD m_T_comeBack 33 (.ixor) 1 34 := ⟨by decide +kernel, rfl⟩
theorem d_T_comeBack_34 : mD m_T_comeBack 34 (.istore 5) 2 36 := ⟨by decide +kernel, rfl⟩
theorem d_T_comeBack_36 : mD m_T_comeBack 36 (.iconst 1) 1 37 := ⟨by decide +kernel, rfl⟩
theorem d_T_comeBack_37 : mD m_T_comeBack 37 (.iload 5) 2 39 := ⟨by decide +kernel, rfl⟩
theorem d_T_comeBack_39 : mD m_T_comeBack 39 (.invokestatic 47) 3 42 := ⟨by decide +kernel, rfl⟩
theorem d_T_comeBack_42 : mD m_T_comeBack 42 (.ishl) 1 43 := ⟨by decide +kernel, rfl⟩
theorem d_T_comeBack_43 : mD m_T_comeBack 43 (.istore 6) 2 45 := ⟨by decide +kernel, rfl⟩
theorem d_T_comeBack_45 : mD m_T_comeBack 45 (.iconst 0) 1 46 := ⟨by decide +kernel, rfl⟩
theorem d_T_comeBack_46 : mD m_T_comeBack 46 (.istore 7) 2 48 := ⟨by decide +kernel, rfl⟩
theorem d_T_comeBack_48 : mD m_T_comeBack 48 (.iconst 0) 1 49 := ⟨by decide +kernel, rfl⟩
theorem d_T_comeBack_49 : mD m_T_comeBack 49 (.istore 8) 2 51 := ⟨by decide +kernel, rfl⟩
theorem d_T_comeBack_51 : mD m_T_comeBack 51 (.iload 8) 2 53 := ⟨by decide +kernel, rfl⟩
theorem d_T_comeBack_53 : mD m_T_comeBack 53 (.iload 6) 2 55 := ⟨by decide +kernel, rfl⟩
theorem d_T_comeBack_55 : mJ m_T_comeBack 55 (.if_icmp .ge 84) (84) 58 139 := ⟨by decide +kernel, rfl, rfl⟩
theorem d_T_comeBack_58 : mD m_T_comeBack 58 (.iload 4) 2 60 := ⟨by decide +kernel, rfl⟩
theorem d_T_comeBack_60 : mD m_T_comeBack 60 (.iload 7) 2 62 := ⟨by decide +kernel, rfl⟩
theorem d_T_comeBack_62 : mD m_T_comeBack 62 (.ior) 1 63 := ⟨by decide +kernel, rfl⟩
theorem d_T_comeBack_63 : mD m_T_comeBack 63 (.istore 9) 2 65 := ⟨by decide +kernel, rfl⟩
theorem d_T_comeBack_65 : mD m_T_comeBack 65 (.aload_n 0) 1 66 := ⟨by decide +kernel, rfl⟩
theorem d_T_comeBack_66 : mD m_T_comeBack 66 (.getfield 15) 3 69 := ⟨by decide +kernel, rfl⟩
theorem d_T_comeBack_69 : mD m_T_comeBack 69 (.iload 9) 2 71 := ⟨by decide +kernel, rfl⟩
theorem d_T_comeBack_71 : mD m_T_comeBack 71 (.iload_n 1) 1 72 := ⟨by decide +kernel, rfl⟩
theorem d_T_comeBack_72 : mD m_T_comeBack 72 (.invokevirtual 52) 3 75 := ⟨by decide +kernel, rfl⟩
theorem d_T_comeBack_75 : mJ m_T_comeBack 75 (.ifCond .eq 49) (49) 78 124 := ⟨by decide +kernel, rfl, rfl⟩
theorem d_T_comeBack_78 : mD m_T_comeBack 78 (.aload_n 0) 1 79 := ⟨by decide +kernel, rfl⟩
theorem d_T_comeBack_79 : mD m_T_comeBack 79 (.iload 9) 2 81 := ⟨by decide +kernel, rfl⟩
theorem d_T_comeBack_81 : mD m_T_comeBack 81 (.invokevirtual 76) 3 84 := ⟨by decide +kernel, rfl⟩
theorem d_T_comeBack_84 : mJ m_T_comeBack 84 (.ifCond .eq 40) (40) 87 124 := ⟨by decide +kernel, rfl, rfl⟩
theorem d_T_comeBack_87 : mD m_T_comeBack 87 (.aload_n 0) 1 88 := ⟨by decide +kernel, rfl⟩
theorem d_T_comeBack_88 : mD m_T_comeBack 88 (.iload_n 1) 1 89 := ⟨by decide +kernel, rfl⟩
theorem d_T_comeBack_89 : mD m_T_comeBack 89 (.iload 9) 2 91 := ⟨by decide +kernel, rfl⟩
theorem d_T_comeBack_91 : mD m_T_comeBack 91 (.iload_n 2) 1 92 := ⟨by decide +kernel, rfl⟩
theorem d_T_comeBack_92 : mD m_T_comeBack 92 (.invokevirtual 56) 3 95 := ⟨by decide +kernel, rfl⟩
theorem d_T_comeBack_95 : mD m_T_comeBack 95 (.aload_n 0) 1 96 := ⟨by decide +kernel, rfl⟩
theorem d_T_comeBack_96 : mD m_T_comeBack 96 (.getfield 34) 3 99 := ⟨by decide +kernel, rfl⟩
theorem d_T_comeBack_99 : mJ m_T_comeBack 99 (.if_icmp .ge 25) (25) 102 124 := ⟨by decide +kernel, rfl, rfl⟩
theorem d_T_comeBack_102 : mD m_T_comeBack 102 (.aload_n 0) 1 103 := ⟨by decide +kernel, rfl⟩
theorem d_T_comeBack_103 : mD m_T_comeBack 103 (.iload_n 1) 1 104 := ⟨by decide +kernel, rfl⟩
theorem d_T_comeBack_104 : mD m_T_comeBack 104 (.iload 9) 2 106 := ⟨by decide +kernel, rfl⟩
theorem d_T_comeBack_106 : mD m_T_comeBack 106 (.ixor) 1 107 := ⟨by decide +kernel, rfl⟩
theorem d_T_comeBack_107 : mD m_T_comeBack 107 (.iload_n 2) 1 108 := ⟨by decide +kernel, rfl⟩
theorem d_T_comeBack_108 : mD m_T_comeBack 108 (.aload_n 0) 1 109 := ⟨by decide +kernel, rfl⟩
theorem d_T_comeBack_109 : mD m_T_comeBack 109 (.getfield 15) 3 112 := ⟨by decide +kernel, rfl⟩
theorem d_T_comeBack_112 : mD m_T_comeBack 112 (.iload 9) 2 114 := ⟨by decide +kernel, rfl⟩
theorem d_T_comeBack_114 : mD m_T_comeBack 114 (.invokevirtual 64) 3 117 := ⟨by decide +kernel, rfl⟩
theorem d_T_comeBack_117 : mD m_T_comeBack 117 (.iadd) 1 118 := ⟨by decide +kernel, rfl⟩
theorem d_T_comeBack_118 : mD m_T_comeBack 118 (.iload_n 3) 1 119 := ⟨by decide +kernel, rfl⟩
theorem d_T_comeBack_119 : mD m_T_comeBack 119 (.iconst 1) 1 120 := ⟨by decide +kernel, rfl⟩
theorem d_T_comeBack_120 : mD m_T_comeBack 120 (.iadd) 1 121 := ⟨by decide +kernel, rfl⟩
theorem d_T_comeBack_121 : mD m_T_comeBack 121 (.invokestatic 41) 3 124 := ⟨by decide +kernel, rfl⟩
theorem d_T_comeBack_124 : mD m_T_comeBack 124 (.iload 7) 2 126 := ⟨by decide +kernel, rfl⟩
theorem d_T_comeBack_126 : mD m_T_comeBack 126 (.iload 5) 2 128 := ⟨by decide +kernel, rfl⟩
theorem d_T_comeBack_128 : mD m_T_comeBack 128 (.invokestatic 67) 3 131 := ⟨by decide +kernel, rfl⟩
theorem d_T_comeBack_131 : mD m_T_comeBack 131 (.istore 7) 2 133 := ⟨by decide +kernel, rfl⟩
theorem d_T_comeBack_133 : mD m_T_comeBack 133 (.iinc 8 1) 3 136 := ⟨by decide +kernel, rfl⟩
theorem d_T_comeBack_136 : mJ m_T_comeBack 136 (.goto (-85)) (-85) 139 51 := ⟨by decide +kernel, rfl, rfl⟩
theorem d_T_comeBack_139 : mD m_T_comeBack 139 (.return_) 1 140 := ⟨by decide +kernel, rfl⟩
theorem d_T_goThere_0 : mD m_T_goThere 0 (.iload_n 3) 1 1 := ⟨by decide +kernel, rfl⟩
theorem d_T_goThere_1 : mD m_T_goThere 1 (.bipush 20) 2 3 := ⟨by decide +kernel, rfl⟩
theorem d_T_goThere_3 : mJ m_T_goThere 3 (.if_icmp .le 4) (4) 6 7 := ⟨by decide +kernel, rfl, rfl⟩
theorem d_T_goThere_6 : mD m_T_goThere 6 (.return_) 1 7 := ⟨by decide +kernel, rfl⟩
theorem d_T_goThere_7 : mD m_T_goThere 7 (.iload_n 1) 1 8 := ⟨by decide +kernel, rfl⟩
theorem d_T_goThere_8 : mJ m_T_goThere 8 (.ifCond .ne 16) (16) 11 24 := ⟨by decide +kernel, rfl, rfl⟩
theorem d_T_goThere_11 : mD m_T_goThere 11 (.aload_n 0) 1 12 := ⟨by decide +kernel, rfl⟩
theorem d_T_goThere_12 : mD m_T_goThere 12 (.aload_n 0) 1 13 := ⟨by decide +kernel, rfl⟩
theorem d_T_goThere_13 : mD m_T_goThere 13 (.getfield 29) 3 16 := ⟨by decide +kernel, rfl⟩
theorem d_T_goThere_16 : mD m_T_goThere 16 (.iload_n 2) 1 17 := ⟨by decide +kernel, rfl⟩
theorem d_T_goThere_17 : mD m_T_goThere 17 (.iload_n 3) 1 18 := ⟨by decide +kernel, rfl⟩
theorem d_T_goThere_18 : mD m_T_goThere 18 (.iconst 1) 1 19 := ⟨by decide +kernel, rfl⟩
theorem d_T_goThere_19 : mD m_T_goThere 19 (.iadd) 1 20 := ⟨by decide +kernel, rfl⟩
theorem d_T_goThere_20 : mD m_T_goThere 20 (.invokestatic 41) 3 23 := ⟨by decide +kernel, rfl⟩
theorem d_T_goThere_23 : mD m_T_goThere 23 (.return_) 1 24 := ⟨by decide +kernel, rfl⟩
theorem d_T_goThere_24 : mD m_T_goThere 24 (.iload_n 1) 1 25 := ⟨by decide +kernel, rfl⟩
theorem d_T_goThere_25 : mD m_T_goThere 25 (.invokestatic 44) 3 28 := ⟨by decide +kernel, rfl⟩
theorem d_T_goThere_28 : mD m_T_goThere 28 (.istore 4) 2 30 := ⟨by decide +kernel, rfl⟩
theorem d_T_goThere_30 : mD m_T_goThere 30 (.iload_n 1) 1 31 := ⟨by decide +kernel, rfl⟩
theorem d_T_goThere_31 : mD m_T_goThere 31 (.iload 4) 2 33 := ⟨by decide +kernel, rfl⟩
theorem d_T_goThere_33 : mD m_T_goThere 33 (.ixor) 1 34 := ⟨by decide +kernel, rfl⟩
theorem d_T_goThere_34 : mD m_T_goThere 34 (.istore 5) 2 36 := ⟨by decide +kernel, rfl⟩
theorem d_T_goThere_36 : mD m_T_goThere 36 (.iconst 1) 1 37 := ⟨by decide +kernel, rfl⟩
theorem d_T_goThere_37 : mD m_T_goThere 37 (.iload 5) 2 39 := ⟨by decide +kernel, rfl⟩
theorem d_T_goThere_39 : mD m_T_goThere 39 (.invokestatic 47) 3 42 := ⟨by decide +kernel, rfl⟩
theorem d_T_goThere_42 : mD m_T_goThere 42 (.ishl) 1 43 := ⟨by decide +kernel, rfl⟩
theorem d_T_goThere_43 : mD m_T_goThere 43 (.istore 6) 2 45 := ⟨by decide +kernel, rfl⟩
theorem d_T_goThere_45 : mD m_T_goThere 45 (.iconst 0) 1 46 := ⟨by decide +kernel, rfl⟩
theorem d_T_goThere_46 : mD m_T_goThere 46 (.istore 7) 2 48 := ⟨by decide +kernel, rfl⟩
theorem d_T_goThere_48 : mD m_T_goThere 48 (.iconst 0) 1 49 := ⟨by decide +kernel, rfl⟩
theorem d_T_goThere_49 : mD m_T_goThere 49 (.istore 8) 2 51 := ⟨by decide +kernel, rfl⟩
theorem d_T_goThere_51 : mD m_T_goThere 51 (.iload 8) 2 53 := ⟨by decide +kernel, rfl⟩
theorem d_T_goThere_53 : mD m_T_goThere 53 (.iload 6) 2 55 := ⟨by decide +kernel, rfl⟩
theorem d_T_goThere_55 : mJ m_T_goThere 55 (.if_icmp .ge 83) (83) 58 138 := ⟨by decide +kernel, rfl, rfl⟩
theorem d_T_goThere_58 : mD m_T_goThere 58 (.iload 4) 2 60 := ⟨by decide +kernel, rfl⟩
theorem d_T_goThere_60 : mD m_T_goThere 60 (.iload 7) 2 62 := ⟨by decide +kernel, rfl⟩
theorem d_T_goThere_62 : mD m_T_goThere 62 (.ior) 1 63 := ⟨by decide +kernel, rfl⟩
theorem d_T_goThere_63 : mD m_T_goThere 63 (.istore 9) 2 65 := ⟨by decide +kernel, rfl⟩
theorem d_T_goThere_65 : mD m_T_goThere 65 (.aload_n 0) 1 66 := ⟨by decide +kernel, rfl⟩
theorem d_T_goThere_66 : mD m_T_goThere 66 (.getfield 15) 3 69 := ⟨by decide +kernel, rfl⟩
theorem d_T_goThere_69 : mD m_T_goThere 69 (.iload 9) 2 71 := ⟨by decide +kernel, rfl⟩
theorem d_T_goThere_71 : mD m_T_goThere 71 (.iload_n 1) 1 72 := ⟨by decide +kernel, rfl⟩
theorem d_T_goThere_72 : mD m_T_goThere 72 (.invokevirtual 52) 3 75 := ⟨by decide +kernel, rfl⟩
theorem d_T_goThere_75 : mJ m_T_goThere 75 (.ifCond .eq 48) (48) 78 123 := ⟨by decide +kernel, rfl, rfl⟩
theorem d_T_goThere_78 : mD m_T_goThere 78 (.iconst 2) 1 79 := ⟨by decide +kernel, rfl⟩
theorem d_T_goThere_79 : mD m_T_goThere 79 (.aload_n 0) 1 80 := ⟨by decide +kernel, rfl⟩
theorem d_T_goThere_80 : mD m_T_goThere 80 (.iload_n 1) 1 81 := ⟨by decide +kernel, rfl⟩
theorem d_T_goThere_81 : mD m_T_goThere 81 (.iload 9) 2 83 := ⟨by decide +kernel, rfl⟩
theorem d_T_goThere_83 : mD m_T_goThere 83 (.iload_n 2) 1 84 := ⟨by decide +kernel, rfl⟩
theorem d_T_goThere_84 : mD m_T_goThere 84 (.invokevirtual 56) 3 87 := ⟨by decide +kernel, rfl⟩
theorem d_T_goThere_87 : mD m_T_goThere 87 (.imul) 1 88 := ⟨by decide +kernel, rfl⟩
theorem d_T_goThere_88 : mD m_T_goThere 88 (.aload_n 0) 1 89 := ⟨by decide +kernel, rfl⟩
theorem d_T_goThere_89 : mD m_T_goThere 89 (.getfield 34) 3 92 := ⟨by decide +kernel, rfl⟩
theorem d_T_goThere_92 : mJ m_T_goThere 92 (.if_icmp .ge 31) (31) 95 123 := ⟨by decide +kernel, rfl, rfl⟩
theorem d_T_goThere_95 : mD m_T_goThere 95 (.aload_n 0) 1 96 := ⟨by decide +kernel, rfl⟩
theorem d_T_goThere_96 : mD m_T_goThere 96 (.iload 9) 2 98 := ⟨by decide +kernel, rfl⟩
theorem d_T_goThere_98 : mD m_T_goThere 98 (.invokevirtual 60) 3 101 := ⟨by decide +kernel, rfl⟩
theorem d_T_goThere_101 : mD m_T_goThere 101 (.aload_n 0) 1 102 := ⟨by decide +kernel, rfl⟩
theorem d_T_goThere_102 : mD m_T_goThere 102 (.iload_n 1) 1 103 := ⟨by decide +kernel, rfl⟩
theorem d_T_goThere_103 : mD m_T_goThere 103 (.iload 9) 2 105 := ⟨by decide +kernel, rfl⟩
theorem d_T_goThere_105 : mD m_T_goThere 105 (.ixor) 1 106 := ⟨by decide +kernel, rfl⟩
theorem d_T_goThere_106 : mD m_T_goThere 106 (.iload_n 2) 1 107 := ⟨by decide +kernel, rfl⟩
theorem d_T_goThere_107 : mD m_T_goThere 107 (.aload_n 0) 1 108 := ⟨by decide +kernel, rfl⟩
theorem d_T_goThere_108 : mD m_T_goThere 108 (.getfield 15) 3 111 := ⟨by decide +kernel, rfl⟩
theorem d_T_goThere_111 : mD m_T_goThere 111 (.iload 9) 2 113 := ⟨by decide +kernel, rfl⟩
theorem d_T_goThere_113 : mD m_T_goThere 113 (.invokevirtual 64) 3 116 := ⟨by decide +kernel, rfl⟩
theorem d_T_goThere_116 : mD m_T_goThere 116 (.iadd) 1 117 := ⟨by decide +kernel, rfl⟩
theorem d_T_goThere_117 : mD m_T_goThere 117 (.iload_n 3) 1 118 := ⟨by decide +kernel, rfl⟩
theorem d_T_goThere_118 : mD m_T_goThere 118 (.iconst 1) 1 119 := ⟨by decide +kernel, rfl⟩
theorem d_T_goThere_119 : mD m_T_goThere 119 (.iadd) 1 120 := ⟨by decide +kernel, rfl⟩
theorem d_T_goThere_120 : mD m_T_goThere 120 (.invokestatic 37) 3 123 := ⟨by decide +kernel, rfl⟩
theorem d_T_goThere_123 : mD m_T_goThere 123 (.iload 7) 2 125 := ⟨by decide +kernel, rfl⟩
theorem d_T_goThere_125 : mD m_T_goThere 125 (.iload 5) 2 127 := ⟨by decide +kernel, rfl⟩
theorem d_T_goThere_127 : mD m_T_goThere 127 (.invokestatic 67) 3 130 := ⟨by decide +kernel, rfl⟩
theorem d_T_goThere_130 : mD m_T_goThere 130 (.istore 7) 2 132 := ⟨by decide +kernel, rfl⟩
theorem d_T_goThere_132 : mD m_T_goThere 132 (.iinc 8 1) 3 135 := ⟨by decide +kernel, rfl⟩
theorem d_T_goThere_135 : mJ m_T_goThere 135 (.goto (-84)) (-84) 138 51 := ⟨by decide +kernel, rfl, rfl⟩
theorem d_T_goThere_138 : mD m_T_goThere 138 (.return_) 1 139 := ⟨by decide +kernel, rfl⟩
theorem d_T_leastThereAndBack_0 : mD m_T_leastThereAndBack 0 (.aload_n 0) 1 1 := ⟨by decide +kernel, rfl⟩
theorem d_T_leastThereAndBack_1 : mD m_T_leastThereAndBack 1 (.getfield 15) 3 4 := ⟨by decide +kernel, rfl⟩
theorem d_T_leastThereAndBack_4 : mD m_T_leastThereAndBack 4 (.iload_n 1) 1 5 := ⟨by decide +kernel, rfl⟩
theorem d_T_leastThereAndBack_5 : mD m_T_leastThereAndBack 5 (.invokevirtual 19) 3 8 := ⟨by decide +kernel, rfl⟩
theorem d_T_leastThereAndBack_8 : mD m_T_leastThereAndBack 8 (.iconst (-1)) 1 9 := ⟨by decide +kernel, rfl⟩
theorem d_T_leastThereAndBack_9 : mJ m_T_leastThereAndBack 9 (.if_icmp .eq 14) (14) 12 23 := ⟨by decide +kernel, rfl, rfl⟩
theorem d_T_leastThereAndBack_12 : mD m_T_leastThereAndBack 12 (.aload_n 0) 1 13 := ⟨by decide +kernel, rfl⟩
theorem d_T_leastThereAndBack_13 : mD m_T_leastThereAndBack 13 (.getfield 15) 3 16 := ⟨by decide +kernel, rfl⟩
theorem d_T_leastThereAndBack_16 : mD m_T_leastThereAndBack 16 (.iload_n 1) 1 17 := ⟨by decide +kernel, rfl⟩
theorem d_T_leastThereAndBack_17 : mD m_T_leastThereAndBack 17 (.invokevirtual 25) 3 20 := ⟨by decide +kernel, rfl⟩
theorem d_T_leastThereAndBack_20 : mJ m_T_leastThereAndBack 20 (.ifCond .eq 5) (5) 23 25 := ⟨by decide +kernel, rfl, rfl⟩
theorem d_T_leastThereAndBack_23 : mD m_T_leastThereAndBack 23 (.iconst (-1)) 1 24 := ⟨by decide +kernel, rfl⟩
theorem d_T_leastThereAndBack_24 : mD m_T_leastThereAndBack 24 (.ireturn) 1 25 := ⟨by decide +kernel, rfl⟩
theorem d_T_leastThereAndBack_25 : mD m_T_leastThereAndBack 25 (.aload_n 0) 1 26 := ⟨by decide +kernel, rfl⟩
theorem d_T_leastThereAndBack_26 : mD m_T_leastThereAndBack 26 (.iload_n 1) 1 27 := ⟨by decide +kernel, rfl⟩
theorem d_T_leastThereAndBack_27 : mD m_T_leastThereAndBack 27 (.putfield 29) 3 30 := ⟨by decide +kernel, rfl⟩
theorem d_T_leastThereAndBack_30 : mD m_T_leastThereAndBack 30 (.aload_n 0) 1 31 := ⟨by decide +kernel, rfl⟩
theorem d_T_leastThereAndBack_31 : mD m_T_leastThereAndBack 31 (.ldc 33) 2 33 := ⟨by decide +kernel, rfl⟩
theorem d_T_leastThereAndBack_33 : mD m_T_leastThereAndBack 33 (.putfield 34) 3 36 := ⟨by decide +kernel, rfl⟩
theorem d_T_leastThereAndBack_36 : mD m_T_leastThereAndBack 36 (.aload_n 0) 1 37 := ⟨by decide +kernel, rfl⟩
theorem d_T_leastThereAndBack_37 : mD m_T_leastThereAndBack 37 (.iload_n 1) 1 38 := ⟨by decide +kernel, rfl⟩
theorem d_T_leastThereAndBack_38 : mD m_T_leastThereAndBack 38 (.iconst 0) 1 39 := ⟨by decide +kernel, rfl⟩
theorem d_T_leastThereAndBack_39 : mD m_T_leastThereAndBack 39 (.iconst 0) 1 40 := ⟨by decide +kernel, rfl⟩
theorem d_T_leastThereAndBack_40 : mD m_T_leastThereAndBack 40 (.invokestatic 37) 3 43 := ⟨by decide +kernel, rfl⟩
theorem d_T_leastThereAndBack_43 : mD m_T_leastThereAndBack 43 (.aload_n 0) 1 44 := ⟨by decide +kernel, rfl⟩
theorem d_T_leastThereAndBack_44 : mD m_T_leastThereAndBack 44 (.getfield 34) 3 47 := ⟨by decide +kernel, rfl⟩
theorem d_T_leastThereAndBack_47 : mD m_T_leastThereAndBack 47 (.ldc 33) 2 49 := ⟨by decide +kernel, rfl⟩
theorem d_T_leastThereAndBack_49 : mJ m_T_leastThereAndBack 49 (.if_icmp .ne 7) (7) 52 56 := ⟨by decide +kernel, rfl, rfl⟩
theorem d_T_leastThereAndBack_52 : mD m_T_leastThereAndBack 52 (.iconst (-1)) 1 53 := ⟨by decide +kernel, rfl⟩
theorem d_T_leastThereAndBack_53 : mJ m_T_leastThereAndBack 53 (.goto 7) (7) 56 60 := ⟨by decide +kernel, rfl, rfl⟩
theorem d_T_leastThereAndBack_56 : mD m_T_leastThereAndBack 56 (.aload_n 0) 1 57 := ⟨by decide +kernel, rfl⟩
theorem d_T_leastThereAndBack_57 : mD m_T_leastThereAndBack 57 (.getfield 34) 3 60 := ⟨by decide +kernel, rfl⟩
theorem d_T_leastThereAndBack_60 : mD m_T_leastThereAndBack 60 (.ireturn) 1 61 := ⟨by decide +kernel, rfl⟩
theorem d_T_meet_0 : mD m_T_meet 0 (.iconst 0) 1 1 := ⟨by decide +kernel, rfl⟩
theorem d_T_meet_1 : mD m_T_meet 1 (.istore_n 2) 1 2 := ⟨by decide +kernel, rfl⟩
theorem d_T_meet_2 : mD m_T_meet 2 (.iload_n 2) 1 3 := ⟨by decide +kernel, rfl⟩
theorem d_T_meet_3 : mD m_T_meet 3 (.bipush 10) 2 5 := ⟨by decide +kernel, rfl⟩
theorem d_T_meet_5 : mJ m_T_meet 5 (.if_icmp .ge 30) (30) 8 35 := ⟨by decide +kernel, rfl, rfl⟩
theorem d_T_meet_8 : mD m_T_meet 8 (.iload_n 1) 1 9 := ⟨by decide +kernel, rfl⟩
theorem d_T_meet_9 : mD m_T_meet 9 (.iconst 1) 1 10 := ⟨by decide +kernel, rfl⟩
theorem d_T_meet_10 : mD m_T_meet 10 (.iload_n 2) 1 11 := ⟨by decide +kernel, rfl⟩
theorem d_T_meet_11 : mD m_T_meet 11 (.ishl) 1 12 := ⟨by decide +kernel, rfl⟩
theorem d_T_meet_12 : mD m_T_meet 12 (.iand) 1 13 := ⟨by decide +kernel, rfl⟩
theorem d_T_meet_13 : mJ m_T_meet 13 (.ifCond .eq 16) (16) 16 29 := ⟨by decide +kernel, rfl, rfl⟩
theorem d_T_meet_16 : mD m_T_meet 16 (.aload_n 0) 1 17 := ⟨by decide +kernel, rfl⟩
theorem d_T_meet_17 : mD m_T_meet 17 (.getfield 9) 3 20 := ⟨by decide +kernel, rfl⟩
theorem d_T_meet_20 : mD m_T_meet 20 (.iload_n 2) 1 21 := ⟨by decide +kernel, rfl⟩
theorem d_T_meet_21 : mD m_T_meet 21 (.iload_n 1) 1 22 := ⟨by decide +kernel, rfl⟩
theorem d_T_meet_22 : mD m_T_meet 22 (.iconst 1) 1 23 := ⟨by decide +kernel, rfl⟩
theorem d_T_meet_23 : mD m_T_meet 23 (.iload_n 2) 1 24 := ⟨by decide +kernel, rfl⟩
theorem d_T_meet_24 : mD m_T_meet 24 (.ishl) 1 25 := ⟨by decide +kernel, rfl⟩
theorem d_T_meet_25 : mD m_T_meet 25 (.iconst (-1)) 1 26 := ⟨by decide +kernel, rfl⟩
theorem d_T_meet_26 : mD m_T_meet 26 (.ixor) 1 27 := ⟨by decide +kernel, rfl⟩
theorem d_T_meet_27 : mD m_T_meet 27 (.iand) 1 28 := ⟨by decide +kernel, rfl⟩
theorem d_T_meet_28 : mD m_T_meet 28 (.iastore) 1 29 := ⟨by decide +kernel, rfl⟩
theorem d_T_meet_29 : mD m_T_meet 29 (.iinc 2 1) 3 32 := ⟨by decide +kernel, rfl⟩
theorem d_T_meet_32 : mJ m_T_meet 32 (.goto (-30)) (-30) 35 2 := ⟨by decide +kernel, rfl, rfl⟩
theorem d_T_meet_35 : mD m_T_meet 35 (.return_) 1 36 := ⟨by decide +kernel, rfl⟩
end
section
abbrev mv : Type := Int32 ⊕ Int64 ⊕ Nat
abbrev mw : Type := Nat → Nat → Int32
abbrev mE : Type := (Nat → Nat) × va_G × (ClassId × ClassId × ClassId) × (Nat → Int32) × Nat
abbrev vi (x : Int32) : mv := Sum.inl x
abbrev vl (x : Int64) : mv := Sum.inr (Sum.inl x)
abbrev vr (k : Nat) : mv := Sum.inr (Sum.inr k)
abbrev li (x : Int32) : Option mv := some (vi x)
abbrev ll (x : Int64) : Option mv := some (vl x)
abbrev lr (k : Nat) : Option mv := some (vr k)
abbrev lo : Option mv := none
def mV (E : mE) : mv → Value
  | .inl x => .int x
  | .inr (.inl x) => .long x
  | .inr (.inr k) => .ref (E.1 k)
def mcat : mv → Nat
  | .inl _ => 1
  | .inr (.inl _) => 2
  | .inr (.inr _) => 1
theorem mV_cat (E : mE) (v : mv) : (mV E v).category = mcat v := by rcases v with x | x | k <;> rfl
theorem mV_cats (E : mE) (st : List mv) : ((st.map (mV E)).map fun v => v.category) = st.map mcat := by
  rw [List.map_map]; exact List.map_congr_left (fun v _ => mV_cat E v)
def mObj : Nat → Option (Nat × Nat) := fun k => match k with
  | 0 => some (6, 8)
  | 1 => some (1, 9)
  | 8 => some (2, 3)
  | 12 => some (0, 7)
  | 17 => some (5, 4)
  | 19 => some (4, 4)
  | 24 => some (3, 3)
  | 25 => some (3, 3)
  | 26 => some (3, 3)
  | 27 => some (3, 3)
  | 33 => some (7, 31)
  | _ => none
def mArr : Nat → Nat × Nat := fun k => match k with
  | 2 => (0, 40)
  | 3 => (0, 10)
  | 4 => (0, 10)
  | 5 => (0, 10)
  | 6 => (0, 10)
  | 7 => (0, 10)
  | 9 => (0, 4)
  | 10 => (0, 10)
  | 11 => (0, 10)
  | 13 => (0, 1024)
  | 14 => (0, 1024)
  | 15 => (0, 1024)
  | 16 => (0, 1024)
  | 18 => (0, 10)
  | 20 => (0, 8)
  | 21 => (0, 8)
  | 22 => (0, 8)
  | 23 => (2, 4)
  | 28 => (0, 60)
  | 29 => (0, 60)
  | 30 => (0, 60)
  | 31 => (0, 60)
  | 32 => (0, 10)
  | 34 => (0, 4)
  | 35 => (0, 4)
  | 36 => (0, 240)
  | 37 => (0, 60)
  | 38 => (0, 40)
  | 39 => (0, 10)
  | 40 => (0, 10)
  | 41 => (0, 10)
  | 42 => (0, 10)
  | 43 => (0, 4)
  | 44 => (0, 10)
  | 45 => (0, 10)
  | 46 => (0, 1024)
  | 47 => (0, 1024)
  | 48 => (1, 1024)
  | 49 => (0, 1024)
  | 50 => (0, 1024)
  | 51 => (0, 1024)
  | 52 => (0, 1024)
  | 53 => (0, 1024)
  | 54 => (0, 9)
  | 55 => (0, 4140)
  | 56 => (0, 4140)
  | 57 => (0, 24)
  | 58 => (0, 10)
  | _ => (0, 0)
def mRef : Nat → Nat → Option Nat := fun k j => match k, j with
  | 0, 0 => some 1
  | 0, 1 => some 8
  | 0, 2 => some 12
  | 0, 3 => some 17
  | 0, 4 => some 19
  | 0, 5 => some 23
  | 0, 6 => some 32
  | 1, 0 => some 2
  | 1, 1 => some 3
  | 1, 2 => some 4
  | 1, 3 => some 5
  | 1, 4 => some 6
  | 1, 5 => some 7
  | 8, 0 => some 9
  | 8, 1 => some 10
  | 8, 2 => some 11
  | 12, 0 => some 1
  | 12, 1 => some 8
  | 12, 2 => some 13
  | 12, 3 => some 14
  | 12, 4 => some 15
  | 12, 5 => some 16
  | 17, 0 => some 12
  | 17, 1 => some 18
  | 19, 0 => some 20
  | 19, 1 => some 21
  | 19, 2 => some 22
  | 24, 0 => some 28
  | 25, 0 => some 29
  | 26, 0 => some 30
  | 27, 0 => some 31
  | 33, 0 => some 34
  | 33, 1 => some 35
  | 33, 2 => some 36
  | 33, 3 => some 37
  | 33, 5 => some 38
  | 33, 9 => some 39
  | 33, 10 => some 40
  | 33, 11 => some 41
  | 33, 12 => some 42
  | 33, 13 => some 43
  | 33, 14 => some 44
  | 33, 15 => some 45
  | 33, 16 => some 46
  | 33, 17 => some 47
  | 33, 18 => some 48
  | 33, 19 => some 49
  | 33, 20 => some 50
  | 33, 21 => some 51
  | 33, 22 => some 52
  | 33, 23 => some 53
  | 33, 24 => some 54
  | 33, 25 => some 55
  | 33, 26 => some 56
  | 33, 29 => some 57
  | 33, 30 => some 58
  | _, _ => none
def mFld (E : mE) (w : mw) (k j : Nat) : Value := match mRef k j with
  | some t => .ref (E.1 t)
  | none => .int (w k j)
def mEnt (E : mE) (w : mw) (k : Nat) : va_E := match mObj k with
  | some q => .inr (q.1, (List.range q.2).map (mFld E w k))
  | none => match mArr k with
    | (0, n) => .inl (E.2.2.1.1, n, .inl (w k))
    | (1, n) => .inl (E.2.2.1.2.1, n, .inl (w k))
    | (_, n) => .inl (E.2.2.1.2.2, n, .inr (.inr (.inr (.inr (fun i => some (E.1 (24 + i)))))))
def mW (E : mE) (w : mw) : va_W := (List.range 59).map fun k => (E.1 k, mEnt E w k)
def mTys (E : mE) : List (ClassId × FieldType) := [(E.2.2.1.1, .int), (E.2.2.1.2.1, .boolean), (E.2.2.1.2.2, .object "AgeFerry$Sheet")]
def mUr (w : mw) (k : Nat) (f : Nat → Int32) : mw := fun a => if a = k then f else w a
def mU (w : mw) (k j : Nat) (x : Int32) : mw := mUr w k (upd (w k) j x)
theorem mW_at {E : mE} {w : mw} {k : Nat} (h : k < 59) : (mW E w)[k]? = some (E.1 k, mEnt E w k) := by
  unfold mW
  rw [List.getElem?_map, List.getElem?_range h]; rfl
theorem mW_no {E : mE} {w : mw} {k : Nat} (h : ¬ k < 59) : (mW E w)[k]? = none := by
  apply List.getElem?_eq_none
  unfold mW
  rw [List.length_map, List.length_range]; omega
theorem mUr_ne {w : mw} {k : Nat} {f : Nat → Int32} {a : Nat} (h : a ≠ k) : mUr w k f a = w a := if_neg h
theorem mUr_eq {w : mw} {k : Nat} {f : Nat → Int32} : mUr w k f k = f := if_pos rfl
theorem mEnt_ne {E : mE} {w : mw} {k : Nat} {f : Nat → Int32} {a : Nat} (h : a ≠ k) : mEnt E (mUr w k f) a = mEnt E w a := by
  have h1 : mFld E (mUr w k f) a = mFld E w a := by funext j; unfold mFld; rw [mUr_ne h]
  unfold mEnt
  rw [h1, mUr_ne h]
theorem mW_set {E : mE} {w : mw} {k : Nat} {f : Nat → Int32} {e : va_E} (h : k < 59) (he : mEnt E (mUr w k f) k = e) : (mW E w).set k (E.1 k, e) = mW E (mUr w k f) := by
  apply List.ext_getElem?
  intro i
  by_cases hi : i < 59
  · by_cases hik : i = k
    · subst hik
      rw [List.getElem?_set_self (by unfold mW; rw [List.length_map, List.length_range]; exact h), mW_at h, he]
    · rw [List.getElem?_set_ne (Ne.symm hik), mW_at hi, mW_at hi, mEnt_ne hik]
  · rw [mW_no hi]
    apply List.getElem?_eq_none
    rw [List.length_set]
    unfold mW
    rw [List.length_map, List.length_range]; omega
def mSF (k j : Nat) : Int32 := match k with
  | 59 => (match j with | 0 => 1 | _ => 0)
  | 60 => (match j with | 0 => 4 | 1 => 2 | 2 => 99 | _ => 9)
  | _ => (match j with | 0 => 1 | 1 => 1 | 2 => 2 | 3 => 6 | 4 => 24 | 5 => 120 | _ => 720)
def mSN (k : Nat) : Nat := match k with
  | 59 => 4
  | 60 => 4
  | _ => 7
def mSC (k : Nat) : String × String := match k with
  | 59 => ("AgeFerry$Rules", "LEAST")
  | 60 => ("AgeFerry$Rules", "GREATEST")
  | _ => ("AgeFerry$Days", "FACTORIALS")
def mSt (E : mE) (A : Nat → Prop) (U : State) (H : Heap) : Prop := ∀ k, 59 ≤ k → k < 62 → va_Z (mSC k).1 (mSC k).2 "[I" (.ref (E.1 k)) A U H ∧ va_T .int (E.1 k) (mSN k) (fun j => .int (mSF k j)) A U H
theorem mSt.moved {E : mE} {A : Nat → Prop} {u U : State} {H : Heap} (hvm : u.vm.Alike U.vm) (h : mSt E A u H) : mSt E A U H := fun k h1 h2 => ⟨va_Z.moved hvm (h k h1 h2).1, va_T.moved hvm (h k h1 h2).2⟩
theorem mSt.kept {E : mE} {A : Nat → Prop} {U : State} {H H1 : Heap} (h : mSt E A U H) (hq : ∀ a : Nat, a < H.size → ¬ A a → H1[a]? = H[a]?) : mSt E A U H1 := fun k h1 h2 => ⟨(h k h1 h2).1.kept hq, (h k h1 h2).2.kept hq⟩
def mlp (E : mE) : Nat → List (Option mv) → List (Nat × Value)
  | _, [] => []
  | i, none :: l => mlp E (i + 1) l
  | i, some v :: l => (i, mV E v) :: mlp E (i + 1) l
theorem mlp_mem {E : mE} {q : Nat × Value} : ∀ (l : List (Option mv)) (i : Nat), q ∈ mlp E i l ↔ ∃ (k : Nat) (v : mv), q = (i + k, mV E v) ∧ l[k]? = some (some v)
  | [], i => by simp [mlp]
  | none :: l, i => by
    show q ∈ mlp E (i + 1) l ↔ _
    rw [mlp_mem l (i + 1)]
    constructor
    · rintro ⟨k, v, rfl, h⟩
      exact ⟨k + 1, v, by rw [Nat.add_assoc, Nat.add_comm 1 k], by rw [List.getElem?_cons_succ]; exact h⟩
    · rintro ⟨k, v, rfl, h⟩
      cases k with
      | zero => rw [List.getElem?_cons_zero] at h; cases h
      | succ k => rw [List.getElem?_cons_succ] at h; exact ⟨k, v, by rw [Nat.add_assoc, Nat.add_comm 1 k], h⟩
  | some u :: l, i => by
    show q ∈ (i, mV E u) :: mlp E (i + 1) l ↔ _
    rw [List.mem_cons, mlp_mem l (i + 1)]
    constructor
    · rintro (rfl | ⟨k, v, rfl, h⟩)
      · exact ⟨0, u, rfl, rfl⟩
      · exact ⟨k + 1, v, by rw [Nat.add_assoc, Nat.add_comm 1 k], by rw [List.getElem?_cons_succ]; exact h⟩
    · rintro ⟨k, v, rfl, h⟩
      cases k with
      | zero => rw [List.getElem?_cons_zero] at h; cases h; exact Or.inl rfl
      | succ k => rw [List.getElem?_cons_succ] at h; exact Or.inr ⟨k, v, by rw [Nat.add_assoc, Nat.add_comm 1 k], h⟩
theorem mlv_mono {ls : Array Slot} {nL : Nat} {l l2 : List (Nat × Value)} (h : lv_has ls nL l) (h2 : ∀ q ∈ l2, q ∈ l) : lv_has ls nL l2 := ⟨h.1, h.2.1, fun q hq => h.2.2 q (h2 q hq)⟩
theorem mlv_get {E : mE} {A : Array Slot} {nL : Nat} {ls : List (Option mv)} {i : Nat} {v : mv} (h : lv_has A nL (mlp E 0 ls)) (hi : ls[i]? = some (some v)) : A[i]? = some (.val (mV E v)) :=
  h.2.2 (i, mV E v) ((mlp_mem ls 0).mpr ⟨i, v, by rw [Nat.zero_add], hi⟩)
/-- no long value stands just ahead of place i -/
def mnl (ls : List (Option mv)) (i : Nat) : Bool := match i with
  | 0 => true
  | k + 1 => match ls[k]? with
    | some (some (.inr (.inl _))) => false
    | _ => true
theorem mnl_ok {E : mE} {ls : List (Option mv)} {i j : Nat} {u : mv} (h : mnl ls i = true) (hj : ls[j]? = some (some u)) : (j + 1 == i && (mV E u).category == 2) = false := by
  cases i with
  | zero => simp
  | succ k =>
    by_cases hjk : j = k
    · subst hjk
      unfold mnl at h
      simp only [hj] at h
      rcases u with x | x | x
      · simp [mV, Value.category]
      · simp at h
      · simp [mV, Value.category]
    · have : (j + 1 == k + 1) = false := by simp [hjk]
      simp [this]
theorem mst1 {E : mE} {A : Array Slot} {nL : Nat} {ls : List (Option mv)} {i : Nat} {v : mv} (hn : mnl ls i = true)
    (h : lv_has A nL ((i, mV E v) :: (mlp E 0 ls).filter (fun q => !(q.1 == i) && !(q.1 + 1 == i && q.2.category == 2)))) : lv_has A nL (mlp E 0 (ls.set i (some v))) := by
  refine mlv_mono h fun q hq => ?_
  obtain ⟨k, u, rfl, hk⟩ := (mlp_mem _ 0).mp hq
  rw [Nat.zero_add]
  by_cases hki : k = i
  · subst hki
    have hlt : k < ls.length := by
      have := (List.getElem?_eq_some_iff.mp hk).1
      rwa [List.length_set] at this
    rw [List.getElem?_set_self hlt] at hk
    cases hk
    exact List.mem_cons_self
  · rw [List.getElem?_set_ne (Ne.symm hki)] at hk
    refine List.mem_cons_of_mem _ (List.mem_filter.mpr ⟨(mlp_mem ls 0).mpr ⟨k, u, by rw [Nat.zero_add], hk⟩, ?_⟩)
    have h1 := mnl_ok (E := E) hn hk
    show (!(k == i) && !(k + 1 == i && (mV E u).category == 2)) = true
    rw [h1]; simp [hki]
theorem mst2 {E : mE} {A : Array Slot} {nL : Nat} {ls : List (Option mv)} {i : Nat} {v : mv} (hn : mnl ls i = true)
    (h : lv_has A nL ((i, mV E v) :: (mlp E 0 ls).filter (fun q => !(q.1 == i) && (!(q.1 == i + 1) && !(q.1 + 1 == i && q.2.category == 2))))) : lv_has A nL (mlp E 0 ((ls.set i (some v)).set (i + 1) none)) := by
  refine mlv_mono h fun q hq => ?_
  obtain ⟨k, u, rfl, hk⟩ := (mlp_mem _ 0).mp hq
  rw [Nat.zero_add]
  have hk1 : k ≠ i + 1 := by
    intro e
    subst e
    have hlt : i + 1 < (ls.set i (some v)).length := by
      have := (List.getElem?_eq_some_iff.mp hk).1
      rwa [List.length_set] at this
    rw [List.getElem?_set_self hlt] at hk
    cases hk
  rw [List.getElem?_set_ne (Ne.symm hk1)] at hk
  by_cases hki : k = i
  · subst hki
    have hlt : k < ls.length := by
      have := (List.getElem?_eq_some_iff.mp hk).1
      rwa [List.length_set] at this
    rw [List.getElem?_set_self hlt] at hk
    cases hk
    exact List.mem_cons_self
  · rw [List.getElem?_set_ne (Ne.symm hki)] at hk
    refine List.mem_cons_of_mem _ (List.mem_filter.mpr ⟨(mlp_mem ls 0).mpr ⟨k, u, by rw [Nat.zero_add], hk⟩, ?_⟩)
    have h1 := mnl_ok (E := E) hn hk
    show (!(k == i) && (!(k == i + 1) && !(k + 1 == i && (mV E u).category == 2))) = true
    rw [h1]; simp [hki, hk1]
def mCtx (E : mE) (d : Nat) (y : mM) (p : Program) (R : Room) (s : State) (m : MethodId) (args : Array Value) (c : Code) (A : Nat → Prop) : Prop :=
  p.tables.exec = Jvm.exec ∧ c.code = y.2.1 ∧ c.maxLocals = y.2.2.1 ∧ s.vm.findClass y.1.cls = some m.cls ∧ (∀ w ∈ lw_ws, w.before args s = true) ∧ (d ≤ R.frames ∧ 32 * d ≤ R.locals) ∧ va_K E.2.1 mCl (mTys E) s ∧ (∀ q, s.heap.size ≤ q → A q) ∧ mSt E A s s.heap ∧ (y.1.cls = "AgeFerryLaw" → va_X (E.1 62) E.2.2.2.2 E.2.2.2.1 s s.heap ∧ E.1 62 < s.heap.size ∧ ¬ A (E.1 62))
def mRt (y : mM) (pc : Nat) : Option mv → Prop
  | none => decode y.2.1 pc = .ok (.return_, 1) ∧ y.2.2.2 = none
  | some (.inl x) => decode y.2.1 pc = .ok (.ireturn, 1) ∧ ∃ ty, y.2.2.2 = some ty ∧ narrow ty (.int x) = .int x
  | some (.inr (.inl _)) => decode y.2.1 pc = .ok (.lreturn, 1) ∧ y.2.2.2 = some .long
  | some (.inr (.inr _)) => False
def Wp (E : mE) (d : Nat) (y : mM) (pc : Nat) (ls : List (Option mv)) (st : List mv) (w : mw) (Q : Option mv → mw → Prop) : Prop :=
  ∀ (p : Program) (l : Launch) (e : Env) (R : Room) (s : State) (m : MethodId) (args : Array Value) (below : List Frame) (meth : Method) (c : Code) (A : Nat → Prop) (Z : State → Prop) (cells slots : Nat) (H : Heap) (locs : List Loc) (lsA : Array Slot),
    mCtx E d y p R s m args c A → (cells ≤ R.cells ∧ slots ≤ R.slots) →
    (∀ (v : Option mv) (w1 : mw) (H1 : Heap) (locs1 : List Loc) (pc1 : Nat) (ls1 : Array Slot), Q v w1 → mRt y pc1 v → va_P E.2.1 mCl (mW E w1) H1 → va_D A (mW E w1) → va_S A s.heap H1 locs1 → W p l e R s m args below meth c H1 locs1 cells slots Z (F0 m pc1 ls1 (v.toList.map (mV E)))) →
    va_P E.2.1 mCl (mW E w) H → va_D A (mW E w) → va_S A s.heap H locs → lv_has lsA y.2.2.1 (mlp E 0 ls) →
    W p l e R s m args below meth c H locs cells slots Z (F0 m pc lsA (st.map (mV E)))
theorem Wp_mono {E : mE} {d : Nat} {y : mM} {pc : Nat} {ls : List (Option mv)} {st : List mv} {w : mw} {Q Q2 : Option mv → mw → Prop} (h : ∀ v w1, Q v w1 → Q2 v w1) (k : Wp E d y pc ls st w Q) : Wp E d y pc ls st w Q2 := by
  intro p l e R s m args below meth c A Z cells slots H locs lsA C hc hr hP hD hS hl
  exact k p l e R s m args below meth c A Z cells slots H locs lsA C hc (fun v w1 H1 locs1 pc1 ls1 hq => hr v w1 H1 locs1 pc1 ls1 (h v w1 hq)) hP hD hS hl
/-- forget what some places hold -/
theorem Wp_loc {E : mE} {d : Nat} {y : mM} {pc : Nat} {ls ls2 : List (Option mv)} {st : List mv} {w : mw} {Q : Option mv → mw → Prop} (h : ∀ (k : Nat) (v : mv), ls2[k]? = some (some v) → ls[k]? = some (some v)) (k : Wp E d y pc ls2 st w Q) : Wp E d y pc ls st w Q := by
  intro p l e R s m args below meth c A Z cells slots H locs lsA C hc hr hP hD hS hl
  refine k p l e R s m args below meth c A Z cells slots H locs lsA C hc hr hP hD hS (mlv_mono hl fun q hq => ?_)
  obtain ⟨j, v, rfl, hj⟩ := (mlp_mem _ 0).mp hq
  exact (mlp_mem _ 0).mpr ⟨j, v, rfl, h j v hj⟩
theorem Wp_iconst {E : mE} {d : Nat} {y : mM} {pc pc2 : Nat} {ls : List (Option mv)} {st : List mv} {w : mw} {Q : Option mv → mw → Prop} {n : Int} {x : Int32} (hd : mD y pc (.iconst n) 1 pc2) (hv : Int32.ofInt n = x) (k : Wp E d y pc2 ls (vi x :: st) w Q) : Wp E d y pc ls st w Q := by
  intro p l e R s m args below meth c A Z cells slots H locs lsA C hc hr hP hD hS hl
  obtain ⟨hdg, rfl⟩ := hd
  exact lv_iconst C.1 C.2.1 hdg hv (k p l e R s m args below meth c A Z cells slots H locs lsA C hc hr hP hD hS hl)
theorem Wp_bipush {E : mE} {d : Nat} {y : mM} {pc pc2 : Nat} {ls : List (Option mv)} {st : List mv} {w : mw} {Q : Option mv → mw → Prop} {n : Int} {x : Int32} (hd : mD y pc (.bipush n) 2 pc2) (hv : (Int8.ofInt n).toInt32 = x) (k : Wp E d y pc2 ls (vi x :: st) w Q) : Wp E d y pc ls st w Q := by
  intro p l e R s m args below meth c A Z cells slots H locs lsA C hc hr hP hD hS hl
  obtain ⟨hdg, rfl⟩ := hd
  exact lv_bipush C.1 C.2.1 hdg hv (k p l e R s m args below meth c A Z cells slots H locs lsA C hc hr hP hD hS hl)
theorem Wp_sipush {E : mE} {d : Nat} {y : mM} {pc pc2 : Nat} {ls : List (Option mv)} {st : List mv} {w : mw} {Q : Option mv → mw → Prop} {n : Int} {x : Int32} (hd : mD y pc (.sipush n) 3 pc2) (hv : (Int16.ofInt n).toInt32 = x) (k : Wp E d y pc2 ls (vi x :: st) w Q) : Wp E d y pc ls st w Q := by
  intro p l e R s m args below meth c A Z cells slots H locs lsA C hc hr hP hD hS hl
  obtain ⟨hdg, rfl⟩ := hd
  exact lv_sipush C.1 C.2.1 hdg hv (k p l e R s m args below meth c A Z cells slots H locs lsA C hc hr hP hD hS hl)
theorem Wp_lconst {E : mE} {d : Nat} {y : mM} {pc pc2 : Nat} {ls : List (Option mv)} {st : List mv} {w : mw} {Q : Option mv → mw → Prop} {n : Fin 2} {x : Int64} (hd : mD y pc (.lconst n) 1 pc2) (hv : Int64.ofNat (n : Nat) = x) (k : Wp E d y pc2 ls (vl x :: st) w Q) : Wp E d y pc ls st w Q := by
  intro p l e R s m args below meth c A Z cells slots H locs lsA C hc hr hP hD hS hl
  obtain ⟨hdg, rfl⟩ := hd
  exact lv_lconst C.1 C.2.1 hdg hv (k p l e R s m args below meth c A Z cells slots H locs lsA C hc hr hP hD hS hl)
theorem Wp_ldc {E : mE} {d : Nat} {y : mM} {pc pc2 : Nat} {ls : List (Option mv)} {st : List mv} {w : mw} {Q : Option mv → mw → Prop} {n : Nat} {x : Int32} (hd : mD y pc (.ldc n) 2 pc2) (hk : Cond.constant y.1.cls n x ∈ lw_ws) (k : Wp E d y pc2 ls (vi x :: st) w Q) : Wp E d y pc ls st w Q := by
  intro p l e R s m args below meth c A Z cells slots H locs lsA C hc hr hP hD hS hl
  obtain ⟨hdg, rfl⟩ := hd
  exact lv_ldc C.1 C.2.1 C.2.2.2.1 (C.2.2.2.2.1 _ hk) hdg (k p l e R s m args below meth c A Z cells slots H locs lsA C hc hr hP hD hS hl)
theorem Wp_ldcw {E : mE} {d : Nat} {y : mM} {pc pc2 : Nat} {ls : List (Option mv)} {st : List mv} {w : mw} {Q : Option mv → mw → Prop} {n : Nat} {x : Int32} (hd : mD y pc (.ldc_w n) 3 pc2) (hk : Cond.constant y.1.cls n x ∈ lw_ws) (k : Wp E d y pc2 ls (vi x :: st) w Q) : Wp E d y pc ls st w Q := by
  intro p l e R s m args below meth c A Z cells slots H locs lsA C hc hr hP hD hS hl
  obtain ⟨hdg, rfl⟩ := hd
  exact lv_ldcw C.1 C.2.1 C.2.2.2.1 (C.2.2.2.2.1 _ hk) hdg (k p l e R s m args below meth c A Z cells slots H locs lsA C hc hr hP hD hS hl)
theorem Wp_ldc2 {E : mE} {d : Nat} {y : mM} {pc pc2 : Nat} {ls : List (Option mv)} {st : List mv} {w : mw} {Q : Option mv → mw → Prop} {n : Nat} {x : Int64} (hd : mD y pc (.ldc2_w n) 3 pc2) (hk : Cond.constantLong y.1.cls n x ∈ lw_ws) (k : Wp E d y pc2 ls (vl x :: st) w Q) : Wp E d y pc ls st w Q := by
  intro p l e R s m args below meth c A Z cells slots H locs lsA C hc hr hP hD hS hl
  obtain ⟨hdg, rfl⟩ := hd
  exact lv_ldc2 C.1 C.2.1 C.2.2.2.1 (C.2.2.2.2.1 _ hk) hdg (k p l e R s m args below meth c A Z cells slots H locs lsA C hc hr hP hD hS hl)
theorem Wp_iload_n {E : mE} {d : Nat} {y : mM} {pc pc2 : Nat} {ls : List (Option mv)} {st : List mv} {w : mw} {Q : Option mv → mw → Prop} {i : Fin 4} {x : Int32} (hd : mD y pc (.iload_n i) 1 pc2) (hx : ls[(i : Nat)]? = some (some (vi x))) (k : Wp E d y pc2 ls (vi x :: st) w Q) : Wp E d y pc ls st w Q := by
  intro p l e R s m args below meth c A Z cells slots H locs lsA C hc hr hP hD hS hl
  obtain ⟨hdg, rfl⟩ := hd
  exact lv_iload_n C.1 C.2.1 hdg rfl (mlv_get hl hx) (k p l e R s m args below meth c A Z cells slots H locs lsA C hc hr hP hD hS hl)
theorem Wp_iload {E : mE} {d : Nat} {y : mM} {pc pc2 : Nat} {ls : List (Option mv)} {st : List mv} {w : mw} {Q : Option mv → mw → Prop} {i : Nat} {x : Int32} (hd : mD y pc (.iload i) 2 pc2) (hx : ls[i]? = some (some (vi x))) (k : Wp E d y pc2 ls (vi x :: st) w Q) : Wp E d y pc ls st w Q := by
  intro p l e R s m args below meth c A Z cells slots H locs lsA C hc hr hP hD hS hl
  obtain ⟨hdg, rfl⟩ := hd
  exact lv_iload C.1 C.2.1 hdg (mlv_get hl hx) (k p l e R s m args below meth c A Z cells slots H locs lsA C hc hr hP hD hS hl)
theorem Wp_lload_n {E : mE} {d : Nat} {y : mM} {pc pc2 : Nat} {ls : List (Option mv)} {st : List mv} {w : mw} {Q : Option mv → mw → Prop} {i : Fin 4} {x : Int64} (hd : mD y pc (.lload_n i) 1 pc2) (hx : ls[(i : Nat)]? = some (some (vl x))) (k : Wp E d y pc2 ls (vl x :: st) w Q) : Wp E d y pc ls st w Q := by
  intro p l e R s m args below meth c A Z cells slots H locs lsA C hc hr hP hD hS hl
  obtain ⟨hdg, rfl⟩ := hd
  exact lv_lload_n C.1 C.2.1 hdg rfl (mlv_get hl hx) (k p l e R s m args below meth c A Z cells slots H locs lsA C hc hr hP hD hS hl)
theorem Wp_lload {E : mE} {d : Nat} {y : mM} {pc pc2 : Nat} {ls : List (Option mv)} {st : List mv} {w : mw} {Q : Option mv → mw → Prop} {i : Nat} {x : Int64} (hd : mD y pc (.lload i) 2 pc2) (hx : ls[i]? = some (some (vl x))) (k : Wp E d y pc2 ls (vl x :: st) w Q) : Wp E d y pc ls st w Q := by
  intro p l e R s m args below meth c A Z cells slots H locs lsA C hc hr hP hD hS hl
  obtain ⟨hdg, rfl⟩ := hd
  exact lv_lload C.1 C.2.1 hdg (mlv_get hl hx) (k p l e R s m args below meth c A Z cells slots H locs lsA C hc hr hP hD hS hl)
theorem Wp_aload_n {E : mE} {d : Nat} {y : mM} {pc pc2 : Nat} {ls : List (Option mv)} {st : List mv} {w : mw} {Q : Option mv → mw → Prop} {i : Fin 4} {x : Nat} (hd : mD y pc (.aload_n i) 1 pc2) (hx : ls[(i : Nat)]? = some (some (vr x))) (k : Wp E d y pc2 ls (vr x :: st) w Q) : Wp E d y pc ls st w Q := by
  intro p l e R s m args below meth c A Z cells slots H locs lsA C hc hr hP hD hS hl
  obtain ⟨hdg, rfl⟩ := hd
  exact lv_aload_n C.1 C.2.1 hdg rfl (mlv_get hl hx) (k p l e R s m args below meth c A Z cells slots H locs lsA C hc hr hP hD hS hl)
theorem Wp_aload {E : mE} {d : Nat} {y : mM} {pc pc2 : Nat} {ls : List (Option mv)} {st : List mv} {w : mw} {Q : Option mv → mw → Prop} {i : Nat} {x : Nat} (hd : mD y pc (.aload i) 2 pc2) (hx : ls[i]? = some (some (vr x))) (k : Wp E d y pc2 ls (vr x :: st) w Q) : Wp E d y pc ls st w Q := by
  intro p l e R s m args below meth c A Z cells slots H locs lsA C hc hr hP hD hS hl
  obtain ⟨hdg, rfl⟩ := hd
  exact lv_aload C.1 C.2.1 hdg (mlv_get hl hx) (k p l e R s m args below meth c A Z cells slots H locs lsA C hc hr hP hD hS hl)
theorem Wp_istore_n {E : mE} {d : Nat} {y : mM} {pc pc2 : Nat} {ls : List (Option mv)} {st : List mv} {w : mw} {Q : Option mv → mw → Prop} {i : Fin 4} {x : Int32} {ls2 : List (Option mv)} (hd : mD y pc (.istore_n i) 1 pc2) (hn : Nat.ble ((i : Nat) + 1) y.2.2.1 = true) (hm : mnl ls (i : Nat) = true) (hs : ls.set (i : Nat) (some (vi x)) = ls2) (k : Wp E d y pc2 ls2 st w Q) : Wp E d y pc ls (vi x :: st) w Q := by
  intro p l e R s m args below meth c A Z cells slots H locs lsA C hc hr hP hD hS hl
  obtain ⟨hdg, rfl⟩ := hd
  subst hs
  exact lv_istore_n C.1 C.2.1 hdg rfl hl (Nat.le_of_ble_eq_true hn) rfl (fun lsB hB => k p l e R s m args below meth c A Z cells slots H locs lsB C hc hr hP hD hS (mst1 hm hB))
theorem Wp_istore {E : mE} {d : Nat} {y : mM} {pc pc2 : Nat} {ls : List (Option mv)} {st : List mv} {w : mw} {Q : Option mv → mw → Prop} {i : Nat} {x : Int32} {ls2 : List (Option mv)} (hd : mD y pc (.istore i) 2 pc2) (hn : Nat.ble (i + 1) y.2.2.1 = true) (hm : mnl ls i = true) (hs : ls.set i (some (vi x)) = ls2) (k : Wp E d y pc2 ls2 st w Q) : Wp E d y pc ls (vi x :: st) w Q := by
  intro p l e R s m args below meth c A Z cells slots H locs lsA C hc hr hP hD hS hl
  obtain ⟨hdg, rfl⟩ := hd
  subst hs
  exact lv_istore C.1 C.2.1 hdg hl (Nat.le_of_ble_eq_true hn) rfl (fun lsB hB => k p l e R s m args below meth c A Z cells slots H locs lsB C hc hr hP hD hS (mst1 hm hB))
theorem Wp_lstore_n {E : mE} {d : Nat} {y : mM} {pc pc2 : Nat} {ls : List (Option mv)} {st : List mv} {w : mw} {Q : Option mv → mw → Prop} {i : Fin 4} {x : Int64} {ls2 : List (Option mv)} (hd : mD y pc (.lstore_n i) 1 pc2) (hn : Nat.ble ((i : Nat) + 1 + 1) y.2.2.1 = true) (hm : mnl ls (i : Nat) = true) (hs : (ls.set (i : Nat) (some (vl x))).set ((i : Nat) + 1) none = ls2) (k : Wp E d y pc2 ls2 st w Q) : Wp E d y pc ls (vl x :: st) w Q := by
  intro p l e R s m args below meth c A Z cells slots H locs lsA C hc hr hP hD hS hl
  obtain ⟨hdg, rfl⟩ := hd
  subst hs
  exact lv_lstore_n C.1 C.2.1 hdg rfl hl (Nat.le_of_ble_eq_true hn) rfl (fun lsB hB => k p l e R s m args below meth c A Z cells slots H locs lsB C hc hr hP hD hS (mst2 hm hB))
theorem Wp_lstore {E : mE} {d : Nat} {y : mM} {pc pc2 : Nat} {ls : List (Option mv)} {st : List mv} {w : mw} {Q : Option mv → mw → Prop} {i : Nat} {x : Int64} {ls2 : List (Option mv)} (hd : mD y pc (.lstore i) 2 pc2) (hn : Nat.ble (i + 1 + 1) y.2.2.1 = true) (hm : mnl ls i = true) (hs : (ls.set i (some (vl x))).set (i + 1) none = ls2) (k : Wp E d y pc2 ls2 st w Q) : Wp E d y pc ls (vl x :: st) w Q := by
  intro p l e R s m args below meth c A Z cells slots H locs lsA C hc hr hP hD hS hl
  obtain ⟨hdg, rfl⟩ := hd
  subst hs
  exact lv_lstore C.1 C.2.1 hdg hl (Nat.le_of_ble_eq_true hn) rfl (fun lsB hB => k p l e R s m args below meth c A Z cells slots H locs lsB C hc hr hP hD hS (mst2 hm hB))
theorem Wp_astore_n {E : mE} {d : Nat} {y : mM} {pc pc2 : Nat} {ls : List (Option mv)} {st : List mv} {w : mw} {Q : Option mv → mw → Prop} {i : Fin 4} {x : Nat} {ls2 : List (Option mv)} (hd : mD y pc (.astore_n i) 1 pc2) (hn : Nat.ble ((i : Nat) + 1) y.2.2.1 = true) (hm : mnl ls (i : Nat) = true) (hs : ls.set (i : Nat) (some (vr x)) = ls2) (k : Wp E d y pc2 ls2 st w Q) : Wp E d y pc ls (vr x :: st) w Q := by
  intro p l e R s m args below meth c A Z cells slots H locs lsA C hc hr hP hD hS hl
  obtain ⟨hdg, rfl⟩ := hd
  subst hs
  exact lv_astore_n C.1 C.2.1 hdg rfl hl (Nat.le_of_ble_eq_true hn) rfl (fun lsB hB => k p l e R s m args below meth c A Z cells slots H locs lsB C hc hr hP hD hS (mst1 hm hB))
theorem Wp_astore {E : mE} {d : Nat} {y : mM} {pc pc2 : Nat} {ls : List (Option mv)} {st : List mv} {w : mw} {Q : Option mv → mw → Prop} {i : Nat} {x : Nat} {ls2 : List (Option mv)} (hd : mD y pc (.astore i) 2 pc2) (hn : Nat.ble (i + 1) y.2.2.1 = true) (hm : mnl ls i = true) (hs : ls.set i (some (vr x)) = ls2) (k : Wp E d y pc2 ls2 st w Q) : Wp E d y pc ls (vr x :: st) w Q := by
  intro p l e R s m args below meth c A Z cells slots H locs lsA C hc hr hP hD hS hl
  obtain ⟨hdg, rfl⟩ := hd
  subst hs
  exact lv_astore C.1 C.2.1 hdg hl (Nat.le_of_ble_eq_true hn) rfl (fun lsB hB => k p l e R s m args below meth c A Z cells slots H locs lsB C hc hr hP hD hS (mst1 hm hB))
theorem Wp_iinc {E : mE} {d : Nat} {y : mM} {pc pc2 : Nat} {ls : List (Option mv)} {st : List mv} {w : mw} {Q : Option mv → mw → Prop} {i : Nat} {n : Int} {x z : Int32} {ls2 : List (Option mv)} (hd : mD y pc (.iinc i n) 3 pc2) (hx : ls[i]? = some (some (vi x))) (hz : x + Int32.ofInt n = z) (hn : Nat.ble (i + 1) y.2.2.1 = true) (hm : mnl ls i = true) (hs : ls.set i (some (vi z)) = ls2) (k : Wp E d y pc2 ls2 st w Q) : Wp E d y pc ls st w Q := by
  intro p l e R s m args below meth c A Z cells slots H locs lsA C hc hr hP hD hS hl
  obtain ⟨hdg, rfl⟩ := hd
  subst hs
  obtain ⟨j, hj⟩ := List.getElem?_of_mem ((mlp_mem (E := E) ls 0).mpr ⟨i, vi x, by rw [Nat.zero_add], hx⟩)
  exact lv_iinc C.1 C.2.1 hdg hl hj hz (Nat.le_of_ble_eq_true hn) rfl (fun lsB hB => k p l e R s m args below meth c A Z cells slots H locs lsB C hc hr hP hD hS (mst1 hm hB))
theorem Wp_iadd {E : mE} {d : Nat} {y : mM} {pc pc2 : Nat} {ls : List (Option mv)} {st : List mv} {w : mw} {Q : Option mv → mw → Prop} {x z : Int32} (hd : mD y pc (.iadd) 1 pc2)  (k : Wp E d y pc2 ls (vi (x + z) :: st) w Q) : Wp E d y pc ls (vi z :: vi x :: st) w Q := by
  intro p l e R s m args below meth c A Z cells slots H locs lsA C hc hr hP hD hS hl
  obtain ⟨hdg, rfl⟩ := hd
  exact lv_iadd C.1 C.2.1 hdg (k p l e R s m args below meth c A Z cells slots H locs lsA C hc hr hP hD hS hl)
theorem Wp_isub {E : mE} {d : Nat} {y : mM} {pc pc2 : Nat} {ls : List (Option mv)} {st : List mv} {w : mw} {Q : Option mv → mw → Prop} {x z : Int32} (hd : mD y pc (.isub) 1 pc2)  (k : Wp E d y pc2 ls (vi (x - z) :: st) w Q) : Wp E d y pc ls (vi z :: vi x :: st) w Q := by
  intro p l e R s m args below meth c A Z cells slots H locs lsA C hc hr hP hD hS hl
  obtain ⟨hdg, rfl⟩ := hd
  exact lv_isub C.1 C.2.1 hdg (k p l e R s m args below meth c A Z cells slots H locs lsA C hc hr hP hD hS hl)
theorem Wp_imul {E : mE} {d : Nat} {y : mM} {pc pc2 : Nat} {ls : List (Option mv)} {st : List mv} {w : mw} {Q : Option mv → mw → Prop} {x z : Int32} (hd : mD y pc (.imul) 1 pc2)  (k : Wp E d y pc2 ls (vi (x * z) :: st) w Q) : Wp E d y pc ls (vi z :: vi x :: st) w Q := by
  intro p l e R s m args below meth c A Z cells slots H locs lsA C hc hr hP hD hS hl
  obtain ⟨hdg, rfl⟩ := hd
  exact lv_imul C.1 C.2.1 hdg (k p l e R s m args below meth c A Z cells slots H locs lsA C hc hr hP hD hS hl)
theorem Wp_iand {E : mE} {d : Nat} {y : mM} {pc pc2 : Nat} {ls : List (Option mv)} {st : List mv} {w : mw} {Q : Option mv → mw → Prop} {x z : Int32} (hd : mD y pc (.iand) 1 pc2)  (k : Wp E d y pc2 ls (vi (x &&& z) :: st) w Q) : Wp E d y pc ls (vi z :: vi x :: st) w Q := by
  intro p l e R s m args below meth c A Z cells slots H locs lsA C hc hr hP hD hS hl
  obtain ⟨hdg, rfl⟩ := hd
  exact lv_iand C.1 C.2.1 hdg (k p l e R s m args below meth c A Z cells slots H locs lsA C hc hr hP hD hS hl)
theorem Wp_ior {E : mE} {d : Nat} {y : mM} {pc pc2 : Nat} {ls : List (Option mv)} {st : List mv} {w : mw} {Q : Option mv → mw → Prop} {x z : Int32} (hd : mD y pc (.ior) 1 pc2)  (k : Wp E d y pc2 ls (vi (x ||| z) :: st) w Q) : Wp E d y pc ls (vi z :: vi x :: st) w Q := by
  intro p l e R s m args below meth c A Z cells slots H locs lsA C hc hr hP hD hS hl
  obtain ⟨hdg, rfl⟩ := hd
  exact lv_ior C.1 C.2.1 hdg (k p l e R s m args below meth c A Z cells slots H locs lsA C hc hr hP hD hS hl)
theorem Wp_ixor {E : mE} {d : Nat} {y : mM} {pc pc2 : Nat} {ls : List (Option mv)} {st : List mv} {w : mw} {Q : Option mv → mw → Prop} {x z : Int32} (hd : mD y pc (.ixor) 1 pc2)  (k : Wp E d y pc2 ls (vi (x ^^^ z) :: st) w Q) : Wp E d y pc ls (vi z :: vi x :: st) w Q := by
  intro p l e R s m args below meth c A Z cells slots H locs lsA C hc hr hP hD hS hl
  obtain ⟨hdg, rfl⟩ := hd
  exact lv_ixor C.1 C.2.1 hdg (k p l e R s m args below meth c A Z cells slots H locs lsA C hc hr hP hD hS hl)
theorem Wp_ishl {E : mE} {d : Nat} {y : mM} {pc pc2 : Nat} {ls : List (Option mv)} {st : List mv} {w : mw} {Q : Option mv → mw → Prop} {x z : Int32} (hd : mD y pc (.ishl) 1 pc2)  (k : Wp E d y pc2 ls (vi (x <<< (z &&& 31)) :: st) w Q) : Wp E d y pc ls (vi z :: vi x :: st) w Q := by
  intro p l e R s m args below meth c A Z cells slots H locs lsA C hc hr hP hD hS hl
  obtain ⟨hdg, rfl⟩ := hd
  exact lv_ishl C.1 C.2.1 hdg (k p l e R s m args below meth c A Z cells slots H locs lsA C hc hr hP hD hS hl)
theorem Wp_ishr {E : mE} {d : Nat} {y : mM} {pc pc2 : Nat} {ls : List (Option mv)} {st : List mv} {w : mw} {Q : Option mv → mw → Prop} {x z : Int32} (hd : mD y pc (.ishr) 1 pc2)  (k : Wp E d y pc2 ls (vi (x >>> (z &&& 31)) :: st) w Q) : Wp E d y pc ls (vi z :: vi x :: st) w Q := by
  intro p l e R s m args below meth c A Z cells slots H locs lsA C hc hr hP hD hS hl
  obtain ⟨hdg, rfl⟩ := hd
  exact lv_ishr C.1 C.2.1 hdg (k p l e R s m args below meth c A Z cells slots H locs lsA C hc hr hP hD hS hl)
theorem Wp_idiv {E : mE} {d : Nat} {y : mM} {pc pc2 : Nat} {ls : List (Option mv)} {st : List mv} {w : mw} {Q : Option mv → mw → Prop} {x z : Int32} (hd : mD y pc (.idiv) 1 pc2) (hz : ¬ z = 0) (k : Wp E d y pc2 ls (vi (x / z) :: st) w Q) : Wp E d y pc ls (vi z :: vi x :: st) w Q := by
  intro p l e R s m args below meth c A Z cells slots H locs lsA C hc hr hP hD hS hl
  obtain ⟨hdg, rfl⟩ := hd
  exact lv_idiv C.1 C.2.1 hdg hz (k p l e R s m args below meth c A Z cells slots H locs lsA C hc hr hP hD hS hl)
theorem Wp_irem {E : mE} {d : Nat} {y : mM} {pc pc2 : Nat} {ls : List (Option mv)} {st : List mv} {w : mw} {Q : Option mv → mw → Prop} {x z : Int32} (hd : mD y pc (.irem) 1 pc2) (hz : ¬ z = 0) (k : Wp E d y pc2 ls (vi (x - x / z * z) :: st) w Q) : Wp E d y pc ls (vi z :: vi x :: st) w Q := by
  intro p l e R s m args below meth c A Z cells slots H locs lsA C hc hr hP hD hS hl
  obtain ⟨hdg, rfl⟩ := hd
  exact lv_irem C.1 C.2.1 hdg hz (k p l e R s m args below meth c A Z cells slots H locs lsA C hc hr hP hD hS hl)
theorem Wp_ladd {E : mE} {d : Nat} {y : mM} {pc pc2 : Nat} {ls : List (Option mv)} {st : List mv} {w : mw} {Q : Option mv → mw → Prop} {x z : Int64} (hd : mD y pc (.ladd) 1 pc2)  (k : Wp E d y pc2 ls (vl (x + z) :: st) w Q) : Wp E d y pc ls (vl z :: vl x :: st) w Q := by
  intro p l e R s m args below meth c A Z cells slots H locs lsA C hc hr hP hD hS hl
  obtain ⟨hdg, rfl⟩ := hd
  exact lv_ladd C.1 C.2.1 hdg (k p l e R s m args below meth c A Z cells slots H locs lsA C hc hr hP hD hS hl)
theorem Wp_lsub {E : mE} {d : Nat} {y : mM} {pc pc2 : Nat} {ls : List (Option mv)} {st : List mv} {w : mw} {Q : Option mv → mw → Prop} {x z : Int64} (hd : mD y pc (.lsub) 1 pc2)  (k : Wp E d y pc2 ls (vl (x - z) :: st) w Q) : Wp E d y pc ls (vl z :: vl x :: st) w Q := by
  intro p l e R s m args below meth c A Z cells slots H locs lsA C hc hr hP hD hS hl
  obtain ⟨hdg, rfl⟩ := hd
  exact lv_lsub C.1 C.2.1 hdg (k p l e R s m args below meth c A Z cells slots H locs lsA C hc hr hP hD hS hl)
theorem Wp_lmul {E : mE} {d : Nat} {y : mM} {pc pc2 : Nat} {ls : List (Option mv)} {st : List mv} {w : mw} {Q : Option mv → mw → Prop} {x z : Int64} (hd : mD y pc (.lmul) 1 pc2)  (k : Wp E d y pc2 ls (vl (x * z) :: st) w Q) : Wp E d y pc ls (vl z :: vl x :: st) w Q := by
  intro p l e R s m args below meth c A Z cells slots H locs lsA C hc hr hP hD hS hl
  obtain ⟨hdg, rfl⟩ := hd
  exact lv_lmul C.1 C.2.1 hdg (k p l e R s m args below meth c A Z cells slots H locs lsA C hc hr hP hD hS hl)
theorem Wp_ldiv {E : mE} {d : Nat} {y : mM} {pc pc2 : Nat} {ls : List (Option mv)} {st : List mv} {w : mw} {Q : Option mv → mw → Prop} {x z : Int64} (hd : mD y pc (.ldiv) 1 pc2) (hz : ¬ z = 0) (k : Wp E d y pc2 ls (vl (x / z) :: st) w Q) : Wp E d y pc ls (vl z :: vl x :: st) w Q := by
  intro p l e R s m args below meth c A Z cells slots H locs lsA C hc hr hP hD hS hl
  obtain ⟨hdg, rfl⟩ := hd
  exact lv_ldiv C.1 C.2.1 hdg hz (k p l e R s m args below meth c A Z cells slots H locs lsA C hc hr hP hD hS hl)
theorem Wp_lrem {E : mE} {d : Nat} {y : mM} {pc pc2 : Nat} {ls : List (Option mv)} {st : List mv} {w : mw} {Q : Option mv → mw → Prop} {x z : Int64} (hd : mD y pc (.lrem) 1 pc2) (hz : ¬ z = 0) (k : Wp E d y pc2 ls (vl (x - x / z * z) :: st) w Q) : Wp E d y pc ls (vl z :: vl x :: st) w Q := by
  intro p l e R s m args below meth c A Z cells slots H locs lsA C hc hr hP hD hS hl
  obtain ⟨hdg, rfl⟩ := hd
  exact lv_lrem C.1 C.2.1 hdg hz (k p l e R s m args below meth c A Z cells slots H locs lsA C hc hr hP hD hS hl)
theorem Wp_ineg {E : mE} {d : Nat} {y : mM} {pc pc2 : Nat} {ls : List (Option mv)} {st : List mv} {w : mw} {Q : Option mv → mw → Prop} {x : Int32} (hd : mD y pc (.ineg) 1 pc2)  (k : Wp E d y pc2 ls (vi (-x) :: st) w Q) : Wp E d y pc ls (vi x :: st) w Q := by
  intro p l e R s m args below meth c A Z cells slots H locs lsA C hc hr hP hD hS hl
  obtain ⟨hdg, rfl⟩ := hd
  exact lv_ineg C.1 C.2.1 hdg (k p l e R s m args below meth c A Z cells slots H locs lsA C hc hr hP hD hS hl)
theorem Wp_lneg {E : mE} {d : Nat} {y : mM} {pc pc2 : Nat} {ls : List (Option mv)} {st : List mv} {w : mw} {Q : Option mv → mw → Prop} {x : Int64} (hd : mD y pc (.lneg) 1 pc2)  (k : Wp E d y pc2 ls (vl (-x) :: st) w Q) : Wp E d y pc ls (vl x :: st) w Q := by
  intro p l e R s m args below meth c A Z cells slots H locs lsA C hc hr hP hD hS hl
  obtain ⟨hdg, rfl⟩ := hd
  exact lv_lneg C.1 C.2.1 hdg (k p l e R s m args below meth c A Z cells slots H locs lsA C hc hr hP hD hS hl)
theorem Wp_i2l {E : mE} {d : Nat} {y : mM} {pc pc2 : Nat} {ls : List (Option mv)} {st : List mv} {w : mw} {Q : Option mv → mw → Prop} {x : Int32} (hd : mD y pc (.i2l) 1 pc2)  (k : Wp E d y pc2 ls (vl x.toInt64 :: st) w Q) : Wp E d y pc ls (vi x :: st) w Q := by
  intro p l e R s m args below meth c A Z cells slots H locs lsA C hc hr hP hD hS hl
  obtain ⟨hdg, rfl⟩ := hd
  exact lv_i2l C.1 C.2.1 hdg rfl (k p l e R s m args below meth c A Z cells slots H locs lsA C hc hr hP hD hS hl)
theorem Wp_i2b {E : mE} {d : Nat} {y : mM} {pc pc2 : Nat} {ls : List (Option mv)} {st : List mv} {w : mw} {Q : Option mv → mw → Prop} {x : Int32} (hd : mD y pc (.i2b) 1 pc2)  (k : Wp E d y pc2 ls (vi x.toInt8.toInt32 :: st) w Q) : Wp E d y pc ls (vi x :: st) w Q := by
  intro p l e R s m args below meth c A Z cells slots H locs lsA C hc hr hP hD hS hl
  obtain ⟨hdg, rfl⟩ := hd
  exact lv_i2b C.1 C.2.1 hdg rfl (k p l e R s m args below meth c A Z cells slots H locs lsA C hc hr hP hD hS hl)
theorem Wp_i2s {E : mE} {d : Nat} {y : mM} {pc pc2 : Nat} {ls : List (Option mv)} {st : List mv} {w : mw} {Q : Option mv → mw → Prop} {x : Int32} (hd : mD y pc (.i2s) 1 pc2)  (k : Wp E d y pc2 ls (vi x.toInt16.toInt32 :: st) w Q) : Wp E d y pc ls (vi x :: st) w Q := by
  intro p l e R s m args below meth c A Z cells slots H locs lsA C hc hr hP hD hS hl
  obtain ⟨hdg, rfl⟩ := hd
  exact lv_i2s C.1 C.2.1 hdg rfl (k p l e R s m args below meth c A Z cells slots H locs lsA C hc hr hP hD hS hl)
theorem Wp_iushr {E : mE} {d : Nat} {y : mM} {pc pc2 : Nat} {ls : List (Option mv)} {st : List mv} {w : mw} {Q : Option mv → mw → Prop} {x z : Int32} (hd : mD y pc (.iushr) 1 pc2)  (k : Wp E d y pc2 ls (vi (x.toUInt32 >>> (z.toUInt32 &&& Int32.toUInt32 31)).toInt32 :: st) w Q) : Wp E d y pc ls (vi z :: vi x :: st) w Q := by
  intro p l e R s m args below meth c A Z cells slots H locs lsA C hc hr hP hD hS hl
  obtain ⟨hdg, rfl⟩ := hd
  exact lv_iushr C.1 C.2.1 hdg rfl (k p l e R s m args below meth c A Z cells slots H locs lsA C hc hr hP hD hS hl)
theorem Wp_lcmp {E : mE} {d : Nat} {y : mM} {pc pc2 : Nat} {ls : List (Option mv)} {st : List mv} {w : mw} {Q : Option mv → mw → Prop} {x z : Int64} (hd : mD y pc (.lcmp) 1 pc2)  (k : Wp E d y pc2 ls (vi (lg_cmp x z) :: st) w Q) : Wp E d y pc ls (vl z :: vl x :: st) w Q := by
  intro p l e R s m args below meth c A Z cells slots H locs lsA C hc hr hP hD hS hl
  obtain ⟨hdg, rfl⟩ := hd
  exact W.lcmp C.1 C.2.1 hdg (k p l e R s m args below meth c A Z cells slots H locs lsA C hc hr hP hD hS hl)
theorem Wp_dup {E : mE} {d : Nat} {y : mM} {pc pc2 : Nat} {ls : List (Option mv)} {st : List mv} {w : mw} {Q : Option mv → mw → Prop} {u : mv} (hd : mD y pc (.dup) 1 pc2) (hu : mcat u = 1) (k : Wp E d y pc2 ls (u :: u :: st) w Q) : Wp E d y pc ls (u :: st) w Q := by
  intro p l e R s m args below meth c A Z cells slots H locs lsA C hc hr hP hD hS hl
  obtain ⟨hdg, rfl⟩ := hd
  exact lv_dup C.1 C.2.1 hdg ((mV_cat E u).trans hu) (k p l e R s m args below meth c A Z cells slots H locs lsA C hc hr hP hD hS hl)
theorem Wp_pop {E : mE} {d : Nat} {y : mM} {pc pc2 : Nat} {ls : List (Option mv)} {st : List mv} {w : mw} {Q : Option mv → mw → Prop} {u : mv} (hd : mD y pc (.pop) 1 pc2) (hu : mcat u = 1) (k : Wp E d y pc2 ls st w Q) : Wp E d y pc ls (u :: st) w Q := by
  intro p l e R s m args below meth c A Z cells slots H locs lsA C hc hr hP hD hS hl
  obtain ⟨hdg, rfl⟩ := hd
  exact lv_pop C.1 C.2.1 hdg ((mV_cat E u).trans hu) (k p l e R s m args below meth c A Z cells slots H locs lsA C hc hr hP hD hS hl)
theorem Wp_dup2 {E : mE} {d : Nat} {y : mM} {pc pc2 : Nat} {ls : List (Option mv)} {st : List mv} {w : mw} {Q : Option mv → mw → Prop} {u v : mv} (hd : mD y pc (.dup2) 1 pc2) (hu : mcat u = 1) (hv : mcat v = 1) (k : Wp E d y pc2 ls (u :: v :: u :: v :: st) w Q) : Wp E d y pc ls (u :: v :: st) w Q := by
  intro p l e R s m args below meth c A Z cells slots H locs lsA C hc hr hP hD hS hl
  obtain ⟨hdg, rfl⟩ := hd
  exact lv_dup2_11 C.1 C.2.1 hdg ((mV_cat E u).trans hu) ((mV_cat E v).trans hv) (k p l e R s m args below meth c A Z cells slots H locs lsA C hc hr hP hD hS hl)
theorem Wp_if_eq {E : mE} {d : Nat} {y : mM} {pc pc2 : Nat} {ls : List (Option mv)} {st : List mv} {w : mw} {Q : Option mv → mw → Prop} {x : Int32} {off : Int} {tgt : Nat} (hd : mJ y pc (.ifCond .eq off) off pc2 tgt) (kt : x = 0 → Wp E d y tgt ls st w Q) (kf : ¬ (x = 0) → Wp E d y pc2 ls st w Q) : Wp E d y pc ls (vi x :: st) w Q := by
  intro p l e R s m args below meth c A Z cells slots H locs lsA C hc hr hP hD hS hl
  obtain ⟨hdg, rfl, ht⟩ := hd
  exact lv_if_eq C.1 C.2.1 hdg ht (fun h => kt h p l e R s m args below meth c A Z cells slots H locs lsA C hc hr hP hD hS hl) (fun h => kf h p l e R s m args below meth c A Z cells slots H locs lsA C hc hr hP hD hS hl)
theorem Wp_if_lt {E : mE} {d : Nat} {y : mM} {pc pc2 : Nat} {ls : List (Option mv)} {st : List mv} {w : mw} {Q : Option mv → mw → Prop} {x : Int32} {off : Int} {tgt : Nat} (hd : mJ y pc (.ifCond .lt off) off pc2 tgt) (kt : x < 0 → Wp E d y tgt ls st w Q) (kf : ¬ (x < 0) → Wp E d y pc2 ls st w Q) : Wp E d y pc ls (vi x :: st) w Q := by
  intro p l e R s m args below meth c A Z cells slots H locs lsA C hc hr hP hD hS hl
  obtain ⟨hdg, rfl, ht⟩ := hd
  exact lv_if_lt C.1 C.2.1 hdg ht (fun h => kt h p l e R s m args below meth c A Z cells slots H locs lsA C hc hr hP hD hS hl) (fun h => kf h p l e R s m args below meth c A Z cells slots H locs lsA C hc hr hP hD hS hl)
theorem Wp_if_ge {E : mE} {d : Nat} {y : mM} {pc pc2 : Nat} {ls : List (Option mv)} {st : List mv} {w : mw} {Q : Option mv → mw → Prop} {x : Int32} {off : Int} {tgt : Nat} (hd : mJ y pc (.ifCond .ge off) off pc2 tgt) (kt : 0 ≤ x → Wp E d y tgt ls st w Q) (kf : ¬ (0 ≤ x) → Wp E d y pc2 ls st w Q) : Wp E d y pc ls (vi x :: st) w Q := by
  intro p l e R s m args below meth c A Z cells slots H locs lsA C hc hr hP hD hS hl
  obtain ⟨hdg, rfl, ht⟩ := hd
  exact lv_if_ge C.1 C.2.1 hdg ht (fun h => kt h p l e R s m args below meth c A Z cells slots H locs lsA C hc hr hP hD hS hl) (fun h => kf h p l e R s m args below meth c A Z cells slots H locs lsA C hc hr hP hD hS hl)
theorem Wp_if_gt {E : mE} {d : Nat} {y : mM} {pc pc2 : Nat} {ls : List (Option mv)} {st : List mv} {w : mw} {Q : Option mv → mw → Prop} {x : Int32} {off : Int} {tgt : Nat} (hd : mJ y pc (.ifCond .gt off) off pc2 tgt) (kt : 0 < x → Wp E d y tgt ls st w Q) (kf : ¬ (0 < x) → Wp E d y pc2 ls st w Q) : Wp E d y pc ls (vi x :: st) w Q := by
  intro p l e R s m args below meth c A Z cells slots H locs lsA C hc hr hP hD hS hl
  obtain ⟨hdg, rfl, ht⟩ := hd
  exact lv_if_gt C.1 C.2.1 hdg ht (fun h => kt h p l e R s m args below meth c A Z cells slots H locs lsA C hc hr hP hD hS hl) (fun h => kf h p l e R s m args below meth c A Z cells slots H locs lsA C hc hr hP hD hS hl)
theorem Wp_if_le {E : mE} {d : Nat} {y : mM} {pc pc2 : Nat} {ls : List (Option mv)} {st : List mv} {w : mw} {Q : Option mv → mw → Prop} {x : Int32} {off : Int} {tgt : Nat} (hd : mJ y pc (.ifCond .le off) off pc2 tgt) (kt : x ≤ 0 → Wp E d y tgt ls st w Q) (kf : ¬ (x ≤ 0) → Wp E d y pc2 ls st w Q) : Wp E d y pc ls (vi x :: st) w Q := by
  intro p l e R s m args below meth c A Z cells slots H locs lsA C hc hr hP hD hS hl
  obtain ⟨hdg, rfl, ht⟩ := hd
  exact lv_if_le C.1 C.2.1 hdg ht (fun h => kt h p l e R s m args below meth c A Z cells slots H locs lsA C hc hr hP hD hS hl) (fun h => kf h p l e R s m args below meth c A Z cells slots H locs lsA C hc hr hP hD hS hl)
theorem Wp_icmp_eq {E : mE} {d : Nat} {y : mM} {pc pc2 : Nat} {ls : List (Option mv)} {st : List mv} {w : mw} {Q : Option mv → mw → Prop} {x z : Int32} {off : Int} {tgt : Nat} (hd : mJ y pc (.if_icmp .eq off) off pc2 tgt) (kt : x = z → Wp E d y tgt ls st w Q) (kf : ¬ (x = z) → Wp E d y pc2 ls st w Q) : Wp E d y pc ls (vi z :: vi x :: st) w Q := by
  intro p l e R s m args below meth c A Z cells slots H locs lsA C hc hr hP hD hS hl
  obtain ⟨hdg, rfl, ht⟩ := hd
  exact lv_icmp_eq C.1 C.2.1 hdg ht (fun h => kt h p l e R s m args below meth c A Z cells slots H locs lsA C hc hr hP hD hS hl) (fun h => kf h p l e R s m args below meth c A Z cells slots H locs lsA C hc hr hP hD hS hl)
theorem Wp_icmp_lt {E : mE} {d : Nat} {y : mM} {pc pc2 : Nat} {ls : List (Option mv)} {st : List mv} {w : mw} {Q : Option mv → mw → Prop} {x z : Int32} {off : Int} {tgt : Nat} (hd : mJ y pc (.if_icmp .lt off) off pc2 tgt) (kt : x < z → Wp E d y tgt ls st w Q) (kf : ¬ (x < z) → Wp E d y pc2 ls st w Q) : Wp E d y pc ls (vi z :: vi x :: st) w Q := by
  intro p l e R s m args below meth c A Z cells slots H locs lsA C hc hr hP hD hS hl
  obtain ⟨hdg, rfl, ht⟩ := hd
  exact lv_icmp_lt C.1 C.2.1 hdg ht (fun h => kt h p l e R s m args below meth c A Z cells slots H locs lsA C hc hr hP hD hS hl) (fun h => kf h p l e R s m args below meth c A Z cells slots H locs lsA C hc hr hP hD hS hl)
theorem Wp_icmp_ge {E : mE} {d : Nat} {y : mM} {pc pc2 : Nat} {ls : List (Option mv)} {st : List mv} {w : mw} {Q : Option mv → mw → Prop} {x z : Int32} {off : Int} {tgt : Nat} (hd : mJ y pc (.if_icmp .ge off) off pc2 tgt) (kt : z ≤ x → Wp E d y tgt ls st w Q) (kf : ¬ (z ≤ x) → Wp E d y pc2 ls st w Q) : Wp E d y pc ls (vi z :: vi x :: st) w Q := by
  intro p l e R s m args below meth c A Z cells slots H locs lsA C hc hr hP hD hS hl
  obtain ⟨hdg, rfl, ht⟩ := hd
  exact lv_icmp_ge C.1 C.2.1 hdg ht (fun h => kt h p l e R s m args below meth c A Z cells slots H locs lsA C hc hr hP hD hS hl) (fun h => kf h p l e R s m args below meth c A Z cells slots H locs lsA C hc hr hP hD hS hl)
theorem Wp_icmp_gt {E : mE} {d : Nat} {y : mM} {pc pc2 : Nat} {ls : List (Option mv)} {st : List mv} {w : mw} {Q : Option mv → mw → Prop} {x z : Int32} {off : Int} {tgt : Nat} (hd : mJ y pc (.if_icmp .gt off) off pc2 tgt) (kt : z < x → Wp E d y tgt ls st w Q) (kf : ¬ (z < x) → Wp E d y pc2 ls st w Q) : Wp E d y pc ls (vi z :: vi x :: st) w Q := by
  intro p l e R s m args below meth c A Z cells slots H locs lsA C hc hr hP hD hS hl
  obtain ⟨hdg, rfl, ht⟩ := hd
  exact lv_icmp_gt C.1 C.2.1 hdg ht (fun h => kt h p l e R s m args below meth c A Z cells slots H locs lsA C hc hr hP hD hS hl) (fun h => kf h p l e R s m args below meth c A Z cells slots H locs lsA C hc hr hP hD hS hl)
theorem Wp_icmp_le {E : mE} {d : Nat} {y : mM} {pc pc2 : Nat} {ls : List (Option mv)} {st : List mv} {w : mw} {Q : Option mv → mw → Prop} {x z : Int32} {off : Int} {tgt : Nat} (hd : mJ y pc (.if_icmp .le off) off pc2 tgt) (kt : x ≤ z → Wp E d y tgt ls st w Q) (kf : ¬ (x ≤ z) → Wp E d y pc2 ls st w Q) : Wp E d y pc ls (vi z :: vi x :: st) w Q := by
  intro p l e R s m args below meth c A Z cells slots H locs lsA C hc hr hP hD hS hl
  obtain ⟨hdg, rfl, ht⟩ := hd
  exact lv_icmp_le C.1 C.2.1 hdg ht (fun h => kt h p l e R s m args below meth c A Z cells slots H locs lsA C hc hr hP hD hS hl) (fun h => kf h p l e R s m args below meth c A Z cells slots H locs lsA C hc hr hP hD hS hl)
theorem Wp_if_ne {E : mE} {d : Nat} {y : mM} {pc pc2 : Nat} {ls : List (Option mv)} {st : List mv} {w : mw} {Q : Option mv → mw → Prop} {x : Int32} {off : Int} {tgt : Nat} (hd : mJ y pc (.ifCond .ne off) off pc2 tgt) (kt : ¬ x = 0 → Wp E d y tgt ls st w Q) (kf : x = 0 → Wp E d y pc2 ls st w Q) : Wp E d y pc ls (vi x :: st) w Q := by
  intro p l e R s m args below meth c A Z cells slots H locs lsA C hc hr hP hD hS hl
  obtain ⟨hdg, rfl, ht⟩ := hd
  exact lv_if_ne C.1 C.2.1 hdg ht (fun h => kt h p l e R s m args below meth c A Z cells slots H locs lsA C hc hr hP hD hS hl) (fun h => kf h p l e R s m args below meth c A Z cells slots H locs lsA C hc hr hP hD hS hl)
theorem Wp_icmp_ne {E : mE} {d : Nat} {y : mM} {pc pc2 : Nat} {ls : List (Option mv)} {st : List mv} {w : mw} {Q : Option mv → mw → Prop} {x z : Int32} {off : Int} {tgt : Nat} (hd : mJ y pc (.if_icmp .ne off) off pc2 tgt) (kt : ¬ x = z → Wp E d y tgt ls st w Q) (kf : x = z → Wp E d y pc2 ls st w Q) : Wp E d y pc ls (vi z :: vi x :: st) w Q := by
  intro p l e R s m args below meth c A Z cells slots H locs lsA C hc hr hP hD hS hl
  obtain ⟨hdg, rfl, ht⟩ := hd
  exact lv_icmp_ne C.1 C.2.1 hdg ht (fun h => kt h p l e R s m args below meth c A Z cells slots H locs lsA C hc hr hP hD hS hl) (fun h => kf h p l e R s m args below meth c A Z cells slots H locs lsA C hc hr hP hD hS hl)
theorem Wp_goto {E : mE} {d : Nat} {y : mM} {pc pc2 : Nat} {ls : List (Option mv)} {st : List mv} {w : mw} {Q : Option mv → mw → Prop} {off : Int} {tgt : Nat} (hd : mJ y pc (.goto off) off pc2 tgt) (k : Wp E d y tgt ls st w Q) : Wp E d y pc ls st w Q := by
  intro p l e R s m args below meth c A Z cells slots H locs lsA C hc hr hP hD hS hl
  obtain ⟨hdg, rfl, ht⟩ := hd
  exact lv_goto C.1 C.2.1 hdg ht (k p l e R s m args below meth c A Z cells slots H locs lsA C hc hr hP hD hS hl)
theorem Wp_tabOut {E : mE} {d : Nat} {y : mM} {pc pc2 : Nat} {ls : List (Option mv)} {st : List mv} {w : mw} {Q : Option mv → mw → Prop} {dflt lo hi : Int} {offs : Array Int} {len : Nat} {x : Int32} {tgt : Nat} (hd : mD y pc (.tableswitch dflt lo hi offs) len pc2) (h : x.toInt < lo ∨ hi < x.toInt) (ht : (pc : Int) + dflt = (tgt : Int)) (k : Wp E d y tgt ls st w Q) : Wp E d y pc ls (vi x :: st) w Q := by
  intro p l e R s m args below meth c A Z cells slots H locs lsA C hc hr hP hD hS hl
  obtain ⟨hdg, rfl⟩ := hd
  exact lv_tableOut C.1 C.2.1 hdg h ht (k p l e R s m args below meth c A Z cells slots H locs lsA C hc hr hP hD hS hl)
theorem Wp_tabIn {E : mE} {d : Nat} {y : mM} {pc pc2 : Nat} {ls : List (Option mv)} {st : List mv} {w : mw} {Q : Option mv → mw → Prop} {dflt lo hi : Int} {offs : Array Int} {len : Nat} {x : Int32} {off : Int} {tgt : Nat} (hd : mD y pc (.tableswitch dflt lo hi offs) len pc2) (h1 : ¬ x.toInt < lo) (h2 : ¬ hi < x.toInt) (ho : offs[(x.toInt - lo).toNat]? = some off) (ht : (pc : Int) + off = (tgt : Int)) (k : Wp E d y tgt ls st w Q) : Wp E d y pc ls (vi x :: st) w Q := by
  intro p l e R s m args below meth c A Z cells slots H locs lsA C hc hr hP hD hS hl
  obtain ⟨hdg, rfl⟩ := hd
  exact lv_tableIn C.1 C.2.1 hdg h1 h2 ho ht (k p l e R s m args below meth c A Z cells slots H locs lsA C hc hr hP hD hS hl)
theorem mEnt_obj {E : mE} {w : mw} {k : Nat} {q : Nat × Nat} (h : mObj k = some q) : mEnt E w k = .inr (q.1, (List.range q.2).map (mFld E w k)) := by
  unfold mEnt; rw [h]
theorem mEnt_int {E : mE} {w : mw} {k n : Nat} (h : mObj k = none) (h2 : mArr k = (0, n)) : mEnt E w k = .inl (E.2.2.1.1, n, .inl (w k)) := by
  unfold mEnt; rw [h]; dsimp only; rw [h2]; rfl
theorem mEnt_bool {E : mE} {w : mw} {k n : Nat} (h : mObj k = none) (h2 : mArr k = (1, n)) : mEnt E w k = .inl (E.2.2.1.2.1, n, .inl (w k)) := by
  unfold mEnt; rw [h]; dsimp only; rw [h2]; rfl
theorem mEnt_refs {E : mE} {w : mw} {k n : Nat} (h : mObj k = none) (h2 : mArr k = (2, n)) : mEnt E w k = .inl (E.2.2.1.2.2, n, .inr (.inr (.inr (.inr (fun i => some (E.1 (24 + i))))))) := by
  unfold mEnt; rw [h]; dsimp only; rw [h2]; rfl
theorem mlt_of_obj {k : Nat} {q : Nat × Nat} (h : mObj k = some q) : k < 59 := by
  unfold mObj at h
  split at h <;> first | omega | (exact absurd h (by simp))
/-- a field that holds a number -/
theorem Wp_getf {E : mE} {d : Nat} {y : mM} {pc pc2 : Nat} {ls : List (Option mv)} {st : List mv} {w : mw} {Q : Option mv → mw → Prop} {idx ci j o n : Nat} (hd : mD y pc (.getfield idx) 3 pc2) (hf : mFd y.1.cls idx ci j) (ho : mObj o = some (ci, n)) (hj : Nat.ble (j + 1) n = true) (hr0 : mRef o j = none) (k : Wp E d y pc2 ls (vi (w o j) :: st) w Q) : Wp E d y pc ls (vr o :: st) w Q := by
  intro p l e R s m args below meth c A Z cells slots H locs lsA C hc hr hP hD hS hl
  obtain ⟨hdg, rfl⟩ := hd
  obtain ⟨q, h1, h2, h3⟩ := hf
  have he : (mW E w)[o]? = some (E.1 o, .inr (ci, (List.range n).map (mFld E w o))) := by rw [mW_at (mlt_of_obj ho), mEnt_obj ho]
  refine va_get (D := E.2.1) (cl := mCl) (tys := mTys E) (C := q.1) (T := q.2.1) (N := q.2.2) C.1 C.2.1 C.2.2.2.2.1 (mCl_ok ci q h1).1 C.2.2.2.1 C.2.2.2.2.2.2.1 hP o he h1 j h2 (C.2.2.2.2.1 _ h3) (fun _ h9 => h9) (v := .int (w o j)) ?_ hdg (k p l e R s m args below meth c A Z cells slots H locs lsA C hc hr hP hD hS hl)
  rw [List.getElem?_map, List.getElem?_range (Nat.le_of_ble_eq_true hj)]
  show some (mFld E w o j) = _
  unfold mFld; rw [hr0]
/-- a field that holds a cell -/
theorem Wp_getr {E : mE} {d : Nat} {y : mM} {pc pc2 : Nat} {ls : List (Option mv)} {st : List mv} {w : mw} {Q : Option mv → mw → Prop} {idx ci j o n t : Nat} (hd : mD y pc (.getfield idx) 3 pc2) (hf : mFd y.1.cls idx ci j) (ho : mObj o = some (ci, n)) (hj : Nat.ble (j + 1) n = true) (hr0 : mRef o j = some t) (k : Wp E d y pc2 ls (vr t :: st) w Q) : Wp E d y pc ls (vr o :: st) w Q := by
  intro p l e R s m args below meth c A Z cells slots H locs lsA C hc hr hP hD hS hl
  obtain ⟨hdg, rfl⟩ := hd
  obtain ⟨q, h1, h2, h3⟩ := hf
  have he : (mW E w)[o]? = some (E.1 o, .inr (ci, (List.range n).map (mFld E w o))) := by rw [mW_at (mlt_of_obj ho), mEnt_obj ho]
  refine va_get (D := E.2.1) (cl := mCl) (tys := mTys E) (C := q.1) (T := q.2.1) (N := q.2.2) C.1 C.2.1 C.2.2.2.2.1 (mCl_ok ci q h1).1 C.2.2.2.1 C.2.2.2.2.2.2.1 hP o he h1 j h2 (C.2.2.2.2.1 _ h3) (fun _ h9 => h9) (v := .ref (E.1 t)) ?_ hdg (k p l e R s m args below meth c A Z cells slots H locs lsA C hc hr hP hD hS hl)
  rw [List.getElem?_map, List.getElem?_range (Nat.le_of_ble_eq_true hj)]
  show some (mFld E w o j) = _
  unfold mFld; rw [hr0]
theorem mFld_set {E : mE} {w : mw} {o n j : Nat} {x : Int32} (hj : j < n) (hr0 : mRef o j = none) : (List.range n).map (mFld E (mUr w o (upd (w o) j x)) o) = ((List.range n).map (mFld E w o)).set j (.int x) := by
  apply List.ext_getElem?
  intro i
  by_cases hij : i = j
  · subst hij
    rw [List.getElem?_set_self (by rw [List.length_map, List.length_range]; exact hj), List.getElem?_map, List.getElem?_range hj]
    show some (mFld E _ o i) = _
    unfold mFld
    rw [hr0, mUr_eq]
    simp [upd]
  · rw [List.getElem?_set_ne (Ne.symm hij), List.getElem?_map, List.getElem?_map]
    by_cases hin : i < n
    · rw [List.getElem?_range hin]
      show some (mFld E _ o i) = some (mFld E w o i)
      unfold mFld
      rw [mUr_eq]
      simp [upd, hij]
    · rw [List.getElem?_eq_none (by rw [List.length_range]; omega)]; rfl
theorem Wp_putf {E : mE} {d : Nat} {y : mM} {pc pc2 : Nat} {ls : List (Option mv)} {st : List mv} {w : mw} {Q : Option mv → mw → Prop} {idx ci j o n : Nat} {x : Int32} {ds : String} {ty : FieldType} (hd : mD y pc (.putfield idx) 3 pc2) (hf : mFp y.1.cls idx ci j ds) (hds : parseFieldDescriptor ds = some ty) (hnx : narrow ty (.int x) = .int x) (hfx : fits ty (.int x) = true) (ho : mObj o = some (ci, n)) (hj : Nat.ble (j + 1) n = true) (hr0 : mRef o j = none) (k : Wp E d y pc2 ls st (mU w o j x) Q) : Wp E d y pc ls (vi x :: vr o :: st) w Q := by
  intro p l e R s m args below meth c A Z cells slots H locs lsA C hc hr hP hD hS hl
  obtain ⟨hdg, rfl⟩ := hd
  obtain ⟨q, h1, h2, h3, h4, h5⟩ := hf
  have hj := Nat.le_of_ble_eq_true hj
  have he : (mW E w)[o]? = some (E.1 o, .inr (ci, (List.range n).map (mFld E w o))) := by rw [mW_at (mlt_of_obj ho), mEnt_obj ho]
  obtain ⟨ty0, hty⟩ := (mCl_ok ci q h1).2.1
  have hset : (mW E w).set o (E.1 o, .inr (ci, ((List.range n).map (mFld E w o)).set j (.int x))) = mW E (mU w o j x) := mW_set (mlt_of_obj ho) (by rw [mEnt_obj ho, mFld_set hj hr0])
  refine va_put (D := E.2.1) (cl := mCl) (tys := mTys E) (C := q.1) (T := q.2.1) (N := q.2.2) C.1 C.2.1 C.2.2.2.2.1 (mCl_ok ci q h1).1 ty0 hty (mCl_ok ci q h1).2.2 C.2.2.2.1 C.2.2.2.2.2.2.1 hP hD hS o he h1 j h2 (C.2.2.2.2.1 _ h3) (fun _ h9 => h9) h4 (ty := ty) (v := .int x) (by rw [h5]; exact hds) hnx hfx (by rw [List.length_map, List.length_range]; exact hj) hdg (fun H1 locs1 hP1 hD1 hS1 => ?_)
  rw [hset] at hP1 hD1
  exact k p l e R s m args below meth c A Z cells slots H1 locs1 lsA C hc hr hP1 hD1 hS1 hl
theorem Wp_puti {E : mE} {d : Nat} {y : mM} {pc pc2 : Nat} {ls : List (Option mv)} {st : List mv} {w : mw} {Q : Option mv → mw → Prop} {idx ci j o n : Nat} {x : Int32} (hd : mD y pc (.putfield idx) 3 pc2) (hf : mFp y.1.cls idx ci j "I") (ho : mObj o = some (ci, n)) (hj : Nat.ble (j + 1) n = true) (hr0 : mRef o j = none) (k : Wp E d y pc2 ls st (mU w o j x) Q) : Wp E d y pc ls (vi x :: vr o :: st) w Q :=
  Wp_putf hd hf (ty := .int) (by decide +kernel) rfl rfl ho hj hr0 k
theorem Wp_putz {E : mE} {d : Nat} {y : mM} {pc pc2 : Nat} {ls : List (Option mv)} {st : List mv} {w : mw} {Q : Option mv → mw → Prop} {idx ci j o n : Nat} {x : Int32} (hd : mD y pc (.putfield idx) 3 pc2) (hf : mFp y.1.cls idx ci j "Z") (hx : x &&& 1 = x) (hfx : fits .boolean (.int x) = true) (ho : mObj o = some (ci, n)) (hj : Nat.ble (j + 1) n = true) (hr0 : mRef o j = none) (k : Wp E d y pc2 ls st (mU w o j x) Q) : Wp E d y pc ls (vi x :: vr o :: st) w Q :=
  Wp_putf hd hf (ty := .boolean) (by decide +kernel) (by show Value.int (x &&& 1) = _; rw [hx]) hfx ho hj hr0 k
theorem mlt_of_arr {k t n : Nat} (h : mArr k = (t, n + 1)) : k < 59 := by
  unfold mArr at h
  split at h <;> first | omega | (exact absurd h (by simp))
theorem Wp_iald {E : mE} {d : Nat} {y : mM} {pc pc2 : Nat} {ls : List (Option mv)} {st : List mv} {w : mw} {Q : Option mv → mw → Prop} {a n : Nat} {i : Int32} (hd : mD y pc .iaload 1 pc2) (ho : mObj a = none) (ha : mArr a = (0, n + 1)) (hi : vp_in i (n + 1)) (k : Wp E d y pc2 ls (vi (w a i.toNatClampNeg) :: st) w Q) : Wp E d y pc ls (vi i :: vr a :: st) w Q := by
  intro p l e R s m args below meth c A Z cells slots H locs lsA C hc hr hP hD hS hl
  obtain ⟨hdg, rfl⟩ := hd
  have he : (mW E w)[a]? = some (E.1 a, .inl (E.2.2.1.1, n + 1, .inl (w a))) := by rw [mW_at (mlt_of_arr ha), mEnt_int ho ha]
  exact va_iald (D := E.2.1) (cl := mCl) (tys := mTys E) C.1 C.2.1 C.2.2.2.2.2.2.1 hP a 0 he rfl hi hdg (k p l e R s m args below meth c A Z cells slots H locs lsA C hc hr hP hD hS hl)
theorem Wp_zald {E : mE} {d : Nat} {y : mM} {pc pc2 : Nat} {ls : List (Option mv)} {st : List mv} {w : mw} {Q : Option mv → mw → Prop} {a n : Nat} {i : Int32} (hd : mD y pc .baload 1 pc2) (ho : mObj a = none) (ha : mArr a = (1, n + 1)) (hi : vp_in i (n + 1)) (k : Wp E d y pc2 ls (vi (w a i.toNatClampNeg) :: st) w Q) : Wp E d y pc ls (vi i :: vr a :: st) w Q := by
  intro p l e R s m args below meth c A Z cells slots H locs lsA C hc hr hP hD hS hl
  obtain ⟨hdg, rfl⟩ := hd
  have he : (mW E w)[a]? = some (E.1 a, .inl (E.2.2.1.2.1, n + 1, .inl (w a))) := by rw [mW_at (mlt_of_arr ha), mEnt_bool ho ha]
  exact va_zald (D := E.2.1) (cl := mCl) (tys := mTys E) C.1 C.2.1 C.2.2.2.2.2.2.1 hP a 1 he rfl hi hdg (k p l e R s m args below meth c A Z cells slots H locs lsA C hc hr hP hD hS hl)
theorem Wp_iast {E : mE} {d : Nat} {y : mM} {pc pc2 : Nat} {ls : List (Option mv)} {st : List mv} {w : mw} {Q : Option mv → mw → Prop} {a n : Nat} {i x : Int32} (hd : mD y pc .iastore 1 pc2) (ho : mObj a = none) (ha : mArr a = (0, n + 1)) (hi : vp_in i (n + 1)) (k : Wp E d y pc2 ls st (mU w a i.toNatClampNeg x) Q) : Wp E d y pc ls (vi x :: vi i :: vr a :: st) w Q := by
  intro p l e R s m args below meth c A Z cells slots H locs lsA C hc hr hP hD hS hl
  obtain ⟨hdg, rfl⟩ := hd
  have he : (mW E w)[a]? = some (E.1 a, .inl (E.2.2.1.1, n + 1, .inl (w a))) := by rw [mW_at (mlt_of_arr ha), mEnt_int ho ha]
  have hset : (mW E w).set a (E.1 a, .inl (E.2.2.1.1, n + 1, .inl (upd (w a) i.toNatClampNeg x))) = mW E (mU w a i.toNatClampNeg x) := mW_set (mlt_of_arr ha) (by rw [mEnt_int ho ha, mUr_eq])
  refine va_iast (D := E.2.1) (cl := mCl) (tys := mTys E) C.1 C.2.1 C.2.2.2.2.2.2.1 hP hD hS a 0 he rfl hi hdg (fun H1 locs1 hP1 hD1 hS1 => ?_)
  rw [hset] at hP1 hD1
  exact k p l e R s m args below meth c A Z cells slots H1 locs1 lsA C hc hr hP1 hD1 hS1 hl
theorem Wp_zast {E : mE} {d : Nat} {y : mM} {pc pc2 : Nat} {ls : List (Option mv)} {st : List mv} {w : mw} {Q : Option mv → mw → Prop} {a n : Nat} {i x : Int32} (hd : mD y pc .bastore 1 pc2) (ho : mObj a = none) (ha : mArr a = (1, n + 1)) (hi : vp_in i (n + 1)) (hx : x &&& 1 = x) (k : Wp E d y pc2 ls st (mU w a i.toNatClampNeg x) Q) : Wp E d y pc ls (vi x :: vi i :: vr a :: st) w Q := by
  intro p l e R s m args below meth c A Z cells slots H locs lsA C hc hr hP hD hS hl
  obtain ⟨hdg, rfl⟩ := hd
  have he : (mW E w)[a]? = some (E.1 a, .inl (E.2.2.1.2.1, n + 1, .inl (w a))) := by rw [mW_at (mlt_of_arr ha), mEnt_bool ho ha]
  have hset : (mW E w).set a (E.1 a, .inl (E.2.2.1.2.1, n + 1, .inl (upd (w a) i.toNatClampNeg (vp_nar .boolean x)))) = mW E (mU w a i.toNatClampNeg x) := mW_set (mlt_of_arr ha) (by rw [mEnt_bool ho ha, mUr_eq, show vp_nar .boolean x = x from hx])
  refine va_zast (D := E.2.1) (cl := mCl) (tys := mTys E) C.1 C.2.1 C.2.2.2.2.2.2.1 hP hD hS a 1 he rfl hi hdg (fun H1 locs1 hP1 hD1 hS1 => ?_)
  rw [hset] at hP1 hD1
  exact k p l e R s m args below meth c A Z cells slots H1 locs1 lsA C hc hr hP1 hD1 hS1 hl
/-- a sheet out of the row of sheets -/
theorem Wp_aald {E : mE} {d : Nat} {y : mM} {pc pc2 : Nat} {ls : List (Option mv)} {st : List mv} {w : mw} {Q : Option mv → mw → Prop} {a n : Nat} {i : Int32} (hd : mD y pc .aaload 1 pc2) (ho : mObj a = none) (ha : mArr a = (2, n + 1)) (hi : vp_in i (n + 1)) (k : Wp E d y pc2 ls (vr (24 + i.toNatClampNeg) :: st) w Q) : Wp E d y pc ls (vi i :: vr a :: st) w Q := by
  intro p l e R s m args below meth c A Z cells slots H locs lsA C hc hr hP hD hS hl
  obtain ⟨hdg, rfl⟩ := hd
  have he : (mW E w)[a]? = some (E.1 a, .inl (E.2.2.1.2.2, n + 1, .inr (.inr (.inr (.inr (fun i => some (E.1 (24 + i)))))))) := by rw [mW_at (mlt_of_arr ha), mEnt_refs ho ha]
  exact va_aldq (D := E.2.1) (cl := mCl) (tys := mTys E) C.1 C.2.1 C.2.2.2.2.2.2.1 hP a 2 he rfl hi hdg (k p l e R s m args below meth c A Z cells slots H locs lsA C hc hr hP hD hS hl)
theorem Wp_alen {E : mE} {d : Nat} {y : mM} {pc pc2 : Nat} {ls : List (Option mv)} {st : List mv} {w : mw} {Q : Option mv → mw → Prop} {a n : Nat} {x : Int32} (hd : mD y pc .arraylength 1 pc2) (ho : mObj a = none) (ha : mArr a = (0, n + 1)) (hx : Int32.ofNat (n + 1) = x) (k : Wp E d y pc2 ls (vi x :: st) w Q) : Wp E d y pc ls (vr a :: st) w Q := by
  intro p l e R s m args below meth c A Z cells slots H locs lsA C hc hr hP hD hS hl
  obtain ⟨hdg, rfl⟩ := hd
  have he : (mW E w)[a]? = some (E.1 a, .inl (E.2.2.1.1, n + 1, .inl (w a))) := by rw [mW_at (mlt_of_arr ha), mEnt_int ho ha]
  exact va_alen (D := E.2.1) (cl := mCl) (tys := mTys E) C.1 C.2.1 C.2.2.2.2.2.2.1 hP a 0 he rfl hx hdg (k p l e R s m args below meth c A Z cells slots H locs lsA C hc hr hP hD hS hl)
/-- the tables that nobody writes -/
theorem Wp_gets {E : mE} {d : Nat} {y : mM} {pc pc2 : Nat} {ls : List (Option mv)} {st : List mv} {w : mw} {Q : Option mv → mw → Prop} {idx t : Nat} (hd : mD y pc (.getstatic idx) 3 pc2) (h1 : Nat.ble 59 t = true) (h2 : Nat.ble (t + 1) 62 = true) (hf : Cond.fieldLink y.1.cls idx (mSC t).1 (mSC t).2 "[I" ∈ lw_ws) (k : Wp E d y pc2 ls (vr t :: st) w Q) : Wp E d y pc ls st w Q := by
  intro p l e R s m args below meth c A Z cells slots H locs lsA C hc hr hP hD hS hl
  obtain ⟨hdg, rfl⟩ := hd
  exact va_gets C.1 C.2.1 (C.2.2.2.2.2.2.2.2.1 t (Nat.le_of_ble_eq_true h1) (Nat.le_of_ble_eq_true h2)).1 hS C.2.2.2.1 (C.2.2.2.2.1 _ hf) (fun _ h9 => h9) hdg (k p l e R s m args below meth c A Z cells slots H locs lsA C hc hr hP hD hS hl)
theorem Wp_sald {E : mE} {d : Nat} {y : mM} {pc pc2 : Nat} {ls : List (Option mv)} {st : List mv} {w : mw} {Q : Option mv → mw → Prop} {t : Nat} {i : Int32} (hd : mD y pc .iaload 1 pc2) (h1 : Nat.ble 59 t = true) (h2 : Nat.ble (t + 1) 62 = true) (hi : vp_in i (mSN t)) (k : Wp E d y pc2 ls (vi (mSF t i.toNatClampNeg) :: st) w Q) : Wp E d y pc ls (vi i :: vr t :: st) w Q := by
  intro p l e R s m args below meth c A Z cells slots H locs lsA C hc hr hP hD hS hl
  obtain ⟨hdg, rfl⟩ := hd
  exact va_ti C.1 C.2.1 (C.2.2.2.2.2.2.2.2.1 t (Nat.le_of_ble_eq_true h1) (Nat.le_of_ble_eq_true h2)).2 hS hi rfl hdg (k p l e R s m args below meth c A Z cells slots H locs lsA C hc hr hP hD hS hl)
theorem Wp_slen {E : mE} {d : Nat} {y : mM} {pc pc2 : Nat} {ls : List (Option mv)} {st : List mv} {w : mw} {Q : Option mv → mw → Prop} {t : Nat} {x : Int32} (hd : mD y pc .arraylength 1 pc2) (h1 : Nat.ble 59 t = true) (h2 : Nat.ble (t + 1) 62 = true) (hx : Int32.ofNat (mSN t) = x) (k : Wp E d y pc2 ls (vi x :: st) w Q) : Wp E d y pc ls (vr t :: st) w Q := by
  intro p l e R s m args below meth c A Z cells slots H locs lsA C hc hr hP hD hS hl
  obtain ⟨hdg, rfl⟩ := hd
  exact va_tlen C.1 C.2.1 (C.2.2.2.2.2.2.2.2.1 t (Nat.le_of_ble_eq_true h1) (Nat.le_of_ble_eq_true h2)).2 hS hx hdg (k p l e R s m args below meth c A Z cells slots H locs lsA C hc hr hP hD hS hl)
/-- the script -/
theorem Wp_xald {E : mE} {d : Nat} {y : mM} {pc pc2 : Nat} {ls : List (Option mv)} {st : List mv} {w : mw} {Q : Option mv → mw → Prop} {i : Int32} (hy : y.1.cls = "AgeFerryLaw") (hd : mD y pc .iaload 1 pc2) (hi : vp_in i E.2.2.2.2) (k : Wp E d y pc2 ls (vi (E.2.2.2.1 i.toNatClampNeg) :: st) w Q) : Wp E d y pc ls (vi i :: vr 62 :: st) w Q := by
  intro p l e R s m args below meth c A Z cells slots H locs lsA C hc hr hP hD hS hl
  obtain ⟨hdg, rfl⟩ := hd
  obtain ⟨x1, x2, x3⟩ := C.2.2.2.2.2.2.2.2.2 hy
  exact va_sld C.1 C.2.1 x1 x2 x3 hS hi hdg (k p l e R s m args below meth c A Z cells slots H locs lsA C hc hr hP hD hS hl)
theorem Wp_xlen {E : mE} {d : Nat} {y : mM} {pc pc2 : Nat} {ls : List (Option mv)} {st : List mv} {w : mw} {Q : Option mv → mw → Prop} (hy : y.1.cls = "AgeFerryLaw") (hd : mD y pc .arraylength 1 pc2) (k : Wp E d y pc2 ls (vi (Int32.ofNat E.2.2.2.2) :: st) w Q) : Wp E d y pc ls (vr 62 :: st) w Q := by
  intro p l e R s m args below meth c A Z cells slots H locs lsA C hc hr hP hD hS hl
  obtain ⟨hdg, rfl⟩ := hd
  obtain ⟨x1, x2, x3⟩ := C.2.2.2.2.2.2.2.2.2 hy
  exact va_slen C.1 C.2.1 x1 x2 x3 hS hdg (k p l e R s m args below meth c A Z cells slots H locs lsA C hc hr hP hD hS hl)
/-- ends -/
theorem Wp_iret {E : mE} {d : Nat} {y : mM} {pc pc2 : Nat} {ls : List (Option mv)} {w : mw} {Q : Option mv → mw → Prop} {x : Int32} {ty : FieldType} (hd : mD y pc .ireturn 1 pc2) (hr0 : y.2.2.2 = some ty) (hn : narrow ty (.int x) = .int x) (k : Q (some (vi x)) w) : Wp E d y pc ls [vi x] w Q := by
  intro p l e R s m args below meth c A Z cells slots H locs lsA C hc hr hP hD hS hl
  exact hr (some (vi x)) w H locs pc lsA k ⟨hd.1, ty, hr0, hn⟩ hP hD hS
theorem Wp_lret {E : mE} {d : Nat} {y : mM} {pc pc2 : Nat} {ls : List (Option mv)} {w : mw} {Q : Option mv → mw → Prop} {x : Int64} (hd : mD y pc .lreturn 1 pc2) (hr0 : y.2.2.2 = some .long) (k : Q (some (vl x)) w) : Wp E d y pc ls [vl x] w Q := by
  intro p l e R s m args below meth c A Z cells slots H locs lsA C hc hr hP hD hS hl
  exact hr (some (vl x)) w H locs pc lsA k ⟨hd.1, hr0⟩ hP hD hS
theorem Wp_vret {E : mE} {d : Nat} {y : mM} {pc pc2 : Nat} {ls : List (Option mv)} {w : mw} {Q : Option mv → mw → Prop} (hd : mD y pc .return_ 1 pc2) (hr0 : y.2.2.2 = none) (k : Q none w) : Wp E d y pc ls [] w Q := by
  intro p l e R s m args below meth c A Z cells slots H locs lsA C hc hr hP hD hS hl
  exact hr none w H locs pc lsA k ⟨hd.1, hr0⟩ hP hD hS
/-- the places with which a method begins -/
def marg : List mv → List (Option mv)
  | [] => []
  | .inl x :: vs => some (.inl x) :: marg vs
  | .inr (.inl x) :: vs => some (.inr (.inl x)) :: none :: marg vs
  | .inr (.inr x) :: vs => some (.inr (.inr x)) :: marg vs
def mpad (n : Nat) (l : List (Option mv)) : List (Option mv) := l ++ List.replicate (n - l.length) none
theorem mlp_none {E : mE} : ∀ (k i : Nat), mlp E i (List.replicate k none) = []
  | 0, _ => rfl
  | k + 1, i => by rw [List.replicate_succ]; exact mlp_none k (i + 1)
theorem mlp_arg {E : mE} (k : Nat) : ∀ (As : List mv) (i : Nat), mlp E i (marg As ++ List.replicate k none) = lv_args i (As.map (mV E))
  | [], i => mlp_none k i
  | .inl x :: vs, i => by
    show (i, Value.int x) :: mlp E (i + 1) (marg vs ++ List.replicate k none) = (i, Value.int x) :: lv_args (i + 1) (vs.map (mV E))
    rw [mlp_arg k vs (i + 1)]
  | .inr (.inl x) :: vs, i => by
    show (i, Value.long x) :: mlp E (i + 1 + 1) (marg vs ++ List.replicate k none) = (i, Value.long x) :: lv_args (i + 2) (vs.map (mV E))
    rw [mlp_arg k vs (i + 1 + 1)]
  | .inr (.inr x) :: vs, i => by
    show (i, Value.ref (E.1 x)) :: mlp E (i + 1) (marg vs ++ List.replicate k none) = (i, Value.ref (E.1 x)) :: lv_args (i + 1) (vs.map (mV E))
    rw [mlp_arg k vs (i + 1)]
def Tr (E : mE) (d : Nat) (y : mM) (As : List mv) (w : mw) (Q : Option mv → mw → Prop) : Prop := (lg_sl (As.map (mV E))).length ≤ y.2.2.1 ∧ Wp E d y 0 (mpad y.2.2.1 (marg As)) [] w Q
def mBd (E : mE) (A : Nat → Prop) (w : mw) (U : State) : Prop := va_P E.2.1 mCl (mW E w) U.heap ∧ va_K E.2.1 mCl (mTys E) U ∧ va_D A (mW E w) ∧ (∀ q, U.heap.size ≤ q → A q) ∧ mSt E A U U.heap
def mQc (E : mE) (A : Nat → Prop) (Q : Option mv → mw → Prop) : Array Value → State → Outcome → State → Prop := fun _ st oc t => (∃ (v : Option mv) (w1 : mw), oc = .returned (v.map (mV E)) ∧ Q v w1 ∧ va_P E.2.1 mCl (mW E w1) t.heap ∧ va_D A (mW E w1)) ∧ va_F A st t
def mRm (d : Nat) : Room := { frames := d, cells := 0, slots := 0, locals := 32 * d }
def mWs (y : mM) : List Cond := Cond.code y.1 y.2.1 y.2.2.1 y.2.2.2 :: lw_ws
theorem mWs_in {y : mM} {n : Nat} (h : mOk y n) : GoodIn lw_ws (mWs y) := by
  intro w hw
  have hm : w ∈ lw_ws := by
    rcases List.mem_cons.mp hw with rfl | h2
    · exact h.1
    · exact h2
  exact ⟨hm, good_of_word (lw_ws_good hm)⟩
theorem Tr_met {E : mE} {d : Nat} {y : mM} {n : Nat} {As : List mv} {w : mw} {Q : Option mv → mw → Prop} (A : Nat → Prop) (hO : mOk y n) (hT : Tr E d y As w Q) (l : Launch) : Met l y.1 (mWs y) (mRm d) (va_Pc (As.map (mV E)) (mBd E A w)) (mQc E A Q) 0 0 A := by
  refine Met.ofW (cc := y.2.1) (maxL := y.2.2.1) (ret := y.2.2.2) hO.2.2.2.1 rfl ?_
  intro p e s m args below meth c s₁ B hml hv
  obtain ⟨rfl, hP, hK, hD, hA, hSt⟩ := hv
  have hts0 := atoms_spec (ws := mWs y) B.pre
  have hts : ∀ w ∈ lw_ws, w.before (As.map (mV E)).toArray s = true := fun w hw => hts0 w (List.mem_cons_of_mem _ hw)
  have hown : s.vm.findClass y.1.cls = some m.cls := findClass_of_methodNamed B.named
  have hlocks := B.notSynchronized
  have hl := lv_entry (As.map (mV E)) (n := y.2.2.1) hT.1
  rw [lg_entry_eq]
  generalize (lg_sl (As.map (mV E)) ++ List.replicate (y.2.2.1 - (lg_sl (As.map (mV E))).length) Slot.unset).toArray = lsA at hl ⊢
  rw [← mlp_arg (E := E) (y.2.2.1 - (marg As).length) As 0] at hl
  refine hT.2 p l e (mRm d) s m _ below meth c A _ 0 0 s.heap [] lsA ⟨B.exec, B.bytes, hml, hown, hts, ⟨Nat.le_refl _, Nat.le_refl _⟩, hK, hA, hSt, fun h => absurd h hO.2.2.2.2.2.2⟩ ⟨Nat.le_refl _, Nat.le_refl _⟩ ?_ hP hD va_S.rf hl
  intro v w1 H1 locs1 pc1 ls1 hq hR hP1 hD1 hS1
  rcases v with _ | x | x | x
  · exact W.vret B.exec B.bytes (B.returns.trans hR.2) (fun t ht hW => ⟨⟨none, w1, rfl, hq, by rw [ht]; exact hP1, hD1⟩, hS1.F ht⟩) hS1.2.2 hR.1
  · obtain ⟨h1, ty, h2, h3⟩ := hR
    exact W.zret B.exec B.bytes (B.returns.trans h2) h3 (fun t ht hW => ⟨⟨some (.inl x), w1, rfl, hq, by rw [ht]; exact hP1, hD1⟩, hS1.F ht⟩) hS1.2.2 h1
  · exact W.lret B.exec B.bytes (B.returns.trans hR.2) (fun t ht hW => ⟨⟨some (.inr (.inl x)), w1, rfl, hq, by rw [ht]; exact hP1, hD1⟩, hS1.F ht⟩) hS1.2.2 hR.1
  · exact hR.elim
theorem mBd_blind {E : mE} {A : Nat → Prop} {w : mw} {av : List Value} : FrameBlind (va_Pc av (mBd E A w)) := by
  intro a U g mk q
  obtain ⟨h0, h1, h2, h3, h4, h5⟩ := q
  exact ⟨h0, h1, va_K.moved (u := U) (U := U.calling g mk a) (Vm.Alike.refl U.vm) h2, h3, h4, mSt.moved (u := U) (U := U.calling g mk a) (Vm.Alike.refl U.vm) h5⟩
theorem mBd_at {E : mE} {d : Nat} {y : mM} {p : Program} {R : Room} {s : State} {m : MethodId} {args : Array Value} {c : Code} {A : Nat → Prop} {w : mw} {H : Heap} {locs : List Loc} (C : mCtx E d y p R s m args c A) (hP : va_P E.2.1 mCl (mW E w) H) (hD : va_D A (mW E w)) (hS : va_S A s.heap H locs) (U : State) (hU : U.heap = H) (hW : s.WarmedH U.vm) : mBd E A w U := by
  refine ⟨by rw [hU]; exact hP, va_K.moved hW.alike C.2.2.2.2.2.2.1, hD, fun q hq => C.2.2.2.2.2.2.2.1 q (Nat.le_trans hS.1 (by rw [← hU]; exact hq)), ?_⟩
  rw [hU]
  exact (C.2.2.2.2.2.2.2.2.1.moved hW.alike).kept (fun a h1 h2 => hS.2.1 a h1 h2)
theorem va_callg {E : mE} {p : Program} {l : Launch} {e : Env} {R : Room} {s : State} {m : MethodId} {args : Array Value} {below : List Frame} {meth : Method} {c : Code} {H : Heap} {locs : List Loc} {cells slots : Nat} {Z : State → Prop} {pc : Nat} {ls : Array Slot} {rest st0 : List Value} {a : Array Value} {A : Nat → Prop} {Q : Option mv → mw → Prop}
    (hr : va_Run p l e R s m args below meth c H locs cells slots 0 0 (F0 m pc ls st0) rest (mQc E A Q a) A) (hS : va_S A s.heap H locs)
    (kk : ∀ (v : Option mv) (w1 : mw) (H1 : Heap) (locs1 : List Loc), Q v w1 → va_P E.2.1 mCl (mW E w1) H1 → va_D A (mW E w1) → va_S A s.heap H1 locs1 → W p l e R s m args below meth c H1 locs1 cells slots Z (F0 m (pc + 3) ls (v.toList.map (mV E) ++ rest))) : W p l e R s m args below meth c H locs cells slots Z (F0 m pc ls st0) := by
  intro T hT X
  obtain ⟨v, st₀, t, T', L, h0, X', hL, e1, e2, ⟨⟨u, w1, hv, hq, hP1, hD1⟩, hz, hk⟩, st⟩ := hr T hT X
  rw [h0] at hz hk
  have hvv : v = u.map (mV E) := by cases hv; rfl
  subst hvv
  have htl : (u.map (mV E)).toList = u.toList.map (mV E) := by cases u <;> rfl
  obtain ⟨t2, a1, b1⟩ := kk u w1 T'.heap (locs ++ L) hq (by rw [e1]; exact hP1) hD1
    ⟨Nat.le_trans hS.1 (by rw [e1]; exact hz), fun q h1 h2 => by rw [e1, hk q (Nat.lt_of_lt_of_le h1 hS.1) h2]; exact hS.2.1 q h1 h2, fun q hq => by
      rcases List.mem_append.mp hq with h | h
      · exact hS.2.2 q h
      · exact hL q h⟩ T' rfl X'
  rw [← htl] at a1
  exact ⟨t2, st t2 a1, b1⟩
theorem mrun_room {E : mE} {st : List mv} {m : MethodId} {pc : Nat} {ls : Array Slot} {st0 : List Value} (h : Nat.ble (st.map mcat).sum 8 = true) : 2 * (F0 m pc ls st0).monitorRoom + ((st.map (mV E)).map fun v => v.category).sum ≤ 8 := by
  refine lv_room ?_
  rw [mV_cats]
  exact Nat.le_of_ble_eq_true h
/-- a call of a static method -/
theorem Wp_ivs {E : mE} {d : Nat} {y : mM} {pc pc2 : Nat} {ls : List (Option mv)} {st : List mv} {w : mw} {Q : Option mv → mw → Prop} {y2 : mM} {As : List mv} {n idx : Nat} {st2 : List mv} {Q2 : Option mv → mw → Prop} (hd : mD y pc (.invokestatic idx) 3 pc2) (hL : mLS y.1.cls idx y2) (hO : mOk y2 n) (hn : As.length = n) (hst : As.reverse ++ st = st2) (hrm : Nat.ble (st.map mcat).sum 8 = true) (h0 : 0 < d) (hT : Tr E (d - 1) y2 As w Q2) (k : ∀ v w1, Q2 v w1 → Wp E d y pc2 ls (v.toList ++ st) w1 Q) : Wp E d y pc ls st2 w Q := by
  intro p l e R s m args below meth c A Z cells slots H locs lsA C hc hr hP hD hS hl
  obtain ⟨hdg, rfl⟩ := hd
  subst hst
  have hM := Tr_met A hO hT l
  have cw := callB_of (R := R) (s := s) (args := args) (own := y.1.cls) (index := idx) (y := y2.1) (bytes := y2.2.1) (maxL := y2.2.2.1) (ret := y2.2.2.2) (rm := mRm (d - 1)) (mc := 0) (ms := 0) n C.2.2.2.2.1 (mWs_in hO) rfl rfl rfl (C.2.2.2.2.1 _ hO.2.1) (C.2.2.2.2.1 _ hL.1) ⟨hO.2.2.1.1, hO.2.2.1.2, hO.2.2.2.2.2.1⟩ ⟨by show d - 1 + 1 ≤ _; have := C.2.2.2.2.2.1.1; omega, by show _ + 32 * (d - 1) ≤ _; have := C.2.2.2.2.2.1.2; have := hO.2.2.2.2.1; omega⟩
  have hrun := va_runS (p := p) (l := l) (e := e) (m := m) (below := below) (meth := meth) (c := c) (locs := locs) (cells := cells) (slots := slots) (As := As.map (mV E)) (rest := st.map (mV E)) (g := F0 m pc lsA ((As.reverse ++ st).map (mV E))) ⟨C.1, C.2.1, C.2.2.1, C.2.2.2.1, C.2.2.2.2.1⟩ hM ⟨cw, C.2.2.2.2.1 _ hL.2⟩ ⟨mBd_blind, fun U hU hW => ⟨rfl, mBd_at C hP hD hS U hU hW⟩⟩ rfl (by rw [List.length_map]; exact hn) hl.1 (by show (As.reverse ++ st).map (mV E) = _; rw [List.map_append, List.map_reverse]) (mrun_room hrm) hdg ⟨hc.1, hc.2⟩
  refine va_callg hrun hS (fun v w1 H1 locs1 hq hP1 hD1 hS1 => ?_)
  have := k v w1 hq p l e R s m args below meth c A Z cells slots H1 locs1 lsA C hc hr hP1 hD1 hS1 hl
  rw [List.map_append] at this
  exact this
/-- a call of a method of a cell -/
theorem Wp_ivv {E : mE} {d : Nat} {y : mM} {pc pc2 : Nat} {ls : List (Option mv)} {st : List mv} {w : mw} {Q : Option mv → mw → Prop} {y2 : mM} {o : Nat} {q : Nat × Nat} {As : List mv} {n idx : Nat} {st2 : List mv} {Q2 : Option mv → mw → Prop} (hd : mD y pc (.invokevirtual idx) 3 pc2) (hL : mLV y.1.cls idx y2) (hO : mOk y2 n) (ho : mObj o = some q) (hcl : (mCl[q.1]?).map (fun r => r.1) = some y2.1.cls) (hn : As.length = n) (hst : As.reverse ++ vr o :: st = st2) (hrm : Nat.ble (st.map mcat).sum 8 = true) (h0 : 0 < d) (hT : Tr E (d - 1) y2 (vr o :: As) w Q2) (k : ∀ v w1, Q2 v w1 → Wp E d y pc2 ls (v.toList ++ st) w1 Q) : Wp E d y pc ls st2 w Q := by
  intro p l e R s m args below meth c A Z cells slots H locs lsA C hc hr hP hD hS hl
  obtain ⟨hdg, rfl⟩ := hd
  subst hst
  obtain ⟨r, hr1, hr2⟩ : ∃ r, mCl[q.1]? = some r ∧ r.1 = y2.1.cls := by
    cases hz : mCl[q.1]? with
    | none => rw [hz] at hcl; cases hcl
    | some r => rw [hz] at hcl; exact ⟨r, rfl, Option.some.inj hcl⟩
  have he : (mW E w)[o]? = some (E.1 o, .inr (q.1, (List.range q.2).map (mFld E w o))) := by rw [mW_at (mlt_of_obj ho), mEnt_obj ho]
  have hM := Tr_met A hO hT l
  have cw := callB_of (R := R) (s := s) (args := args) (own := y.1.cls) (index := idx) (y := y2.1) (bytes := y2.2.1) (maxL := y2.2.2.1) (ret := y2.2.2.2) (rm := mRm (d - 1)) (mc := 0) (ms := 0) n C.2.2.2.2.1 (mWs_in hO) rfl rfl rfl (C.2.2.2.2.1 _ hO.2.1) (C.2.2.2.2.1 _ hL.1) ⟨hO.2.2.1.1, hO.2.2.1.2, hO.2.2.2.2.2.1⟩ ⟨by show d - 1 + 1 ≤ _; have := C.2.2.2.2.2.1.1; omega, by show _ + 32 * (d - 1) ≤ _; have := C.2.2.2.2.2.1.2; have := hO.2.2.2.2.1; omega⟩
  have hrecv : ∃ cellB : Cell, H[E.1 o]? = some cellB ∧ cellB.vm.isStatics = false ∧ s.vm.findClass y2.1.cls = some cellB.cls := by
    rw [← hr2]
    exact va_recv C.2.2.2.2.2.2.1 hP hr1 he
  have hrun := va_runV (p := p) (l := l) (e := e) (m := m) (below := below) (meth := meth) (c := c) (locs := locs) (cells := cells) (slots := slots) (b := E.1 o) (C := y2.1.cls) (As := As.map (mV E)) (rest := st.map (mV E)) (g := F0 m pc lsA ((As.reverse ++ vr o :: st).map (mV E))) ⟨C.1, C.2.1, C.2.2.1, C.2.2.2.1, C.2.2.2.2.1⟩ hM ⟨cw, C.2.2.2.2.1 _ hL.2.1, C.2.2.2.2.1 _ hL.2.2⟩ ⟨mBd_blind, hrecv, fun U hU hW => ⟨rfl, mBd_at C hP hD hS U hU hW⟩⟩ rfl (by rw [List.length_map]; exact hn) hl.1 (by show (As.reverse ++ vr o :: st).map (mV E) = _; rw [List.map_append, List.map_reverse]; rfl) (mrun_room hrm) hdg ⟨hc.1, hc.2⟩
  refine va_callg hrun hS (fun v w1 H1 locs1 hq hP1 hD1 hS1 => ?_)
  have := k v w1 hq p l e R s m args below meth c A Z cells slots H1 locs1 lsA C hc hr hP1 hD1 hS1 hl
  rw [List.map_append] at this
  exact this
theorem Tr_mono {E : mE} {d d2 : Nat} {y : mM} {As : List mv} {w : mw} {Q : Option mv → mw → Prop} (h : d ≤ d2) (k : Tr E d y As w Q) : Tr E d2 y As w Q := by
  refine ⟨k.1, ?_⟩
  intro p l e R s m args below meth c A Z cells slots H locs lsA C hc hr hP hD hS hl
  obtain ⟨c1, c2, c3, c4, c5, c6, c7⟩ := C
  exact k.2 p l e R s m args below meth c A Z cells slots H locs lsA ⟨c1, c2, c3, c4, c5, ⟨by omega, by omega⟩, c7⟩ hc hr hP hD hS hl
/-- Math and the copy of rows -/
theorem Wp_max {E : mE} {d : Nat} {y : mM} {pc pc2 : Nat} {ls : List (Option mv)} {st : List mv} {w : mw} {Q : Option mv → mw → Prop} {idx : Nat} {x z : Int32} (hd : mD y pc (.invokestatic idx) 3 pc2) (hL : Cond.methodLink y.1.cls idx Lib.Math.max.name ∈ lw_ws) (hrm : Nat.ble (st.map mcat).sum 8 = true) (h0 : 0 < d) (k : Wp E d y pc2 ls (vi (if x < z then z else x) :: st) w Q) : Wp E d y pc ls (vi z :: vi x :: st) w Q := by
  intro p l e R s m args below meth c A Z cells slots H locs lsA C hc hr hP hD hS hl
  obtain ⟨hdg, rfl⟩ := hd
  exact va_mmax C.1 C.2.1 (C.2.2.1.trans hl.1.symm) C.2.2.2.1 (C.2.2.2.2.1 _ hL) (C.2.2.2.2.1 _ mj_max.1) (C.2.2.2.2.1 _ mj_max.2.1) (C.2.2.2.2.1 _ mj_max.2.2) (by have := C.2.2.2.2.2.1.1; omega) (by rw [mV_cats]; have := C.2.2.2.2.2.1.2; have := Nat.le_of_ble_eq_true hrm; omega) hc.1 hc.2 hdg (k p l e R s m args below meth c A Z cells slots H locs lsA C hc hr hP hD hS hl)
theorem Wp_min {E : mE} {d : Nat} {y : mM} {pc pc2 : Nat} {ls : List (Option mv)} {st : List mv} {w : mw} {Q : Option mv → mw → Prop} {idx : Nat} {x z : Int32} (hd : mD y pc (.invokestatic idx) 3 pc2) (hL : Cond.methodLink y.1.cls idx Lib.Math.min.name ∈ lw_ws) (hrm : Nat.ble (st.map mcat).sum 8 = true) (h0 : 0 < d) (k : Wp E d y pc2 ls (vi (if z < x then z else x) :: st) w Q) : Wp E d y pc ls (vi z :: vi x :: st) w Q := by
  intro p l e R s m args below meth c A Z cells slots H locs lsA C hc hr hP hD hS hl
  obtain ⟨hdg, rfl⟩ := hd
  exact va_mmin C.1 C.2.1 (C.2.2.1.trans hl.1.symm) C.2.2.2.1 (C.2.2.2.2.1 _ hL) (C.2.2.2.2.1 _ mj_min.1) (C.2.2.2.2.1 _ mj_min.2.1) (C.2.2.2.2.1 _ mj_min.2.2) (by have := C.2.2.2.2.2.1.1; omega) (by rw [mV_cats]; have := C.2.2.2.2.2.1.2; have := Nat.le_of_ble_eq_true hrm; omega) hc.1 hc.2 hdg (k p l e R s m args below meth c A Z cells slots H locs lsA C hc hr hP hD hS hl)
theorem Wp_abs {E : mE} {d : Nat} {y : mM} {pc pc2 : Nat} {ls : List (Option mv)} {st : List mv} {w : mw} {Q : Option mv → mw → Prop} {idx : Nat} {x : Int32} (hd : mD y pc (.invokestatic idx) 3 pc2) (hL : Cond.methodLink y.1.cls idx Lib.Math.abs.name ∈ lw_ws) (hrm : Nat.ble (st.map mcat).sum 8 = true) (h0 : 0 < d) (k : Wp E d y pc2 ls (vi (if 0 ≤ x then x else 0 - x) :: st) w Q) : Wp E d y pc ls (vi x :: st) w Q := by
  intro p l e R s m args below meth c A Z cells slots H locs lsA C hc hr hP hD hS hl
  obtain ⟨hdg, rfl⟩ := hd
  exact va_mabs C.1 C.2.1 (C.2.2.1.trans hl.1.symm) C.2.2.2.1 (C.2.2.2.2.1 _ hL) (C.2.2.2.2.1 _ mj_abs.1) (C.2.2.2.2.1 _ mj_abs.2.1) (C.2.2.2.2.1 _ mj_abs.2.2) (by have := C.2.2.2.2.2.1.1; omega) (by rw [mV_cats]; have := C.2.2.2.2.2.1.2; have := Nat.le_of_ble_eq_true hrm; omega) hc.1 hc.2 hdg (k p l e R s m args below meth c A Z cells slots H locs lsA C hc hr hP hD hS hl)
theorem Wp_absl {E : mE} {d : Nat} {y : mM} {pc pc2 : Nat} {ls : List (Option mv)} {st : List mv} {w : mw} {Q : Option mv → mw → Prop} {idx : Nat} {x : Int64} (hd : mD y pc (.invokestatic idx) 3 pc2) (hL : Cond.methodLink y.1.cls idx Lib.MathLoose.abs_long.x ∈ lw_ws) (hrm : Nat.ble (st.map mcat).sum 8 = true) (h0 : 0 < d) (k : Wp E d y pc2 ls (vl (if 0 < x then x else -x) :: st) w Q) : Wp E d y pc ls (vl x :: st) w Q := by
  intro p l e R s m args below meth c A Z cells slots H locs lsA C hc hr hP hD hS hl
  obtain ⟨hdg, rfl⟩ := hd
  exact va_mabs_long C.1 C.2.1 (C.2.2.1.trans hl.1.symm) C.2.2.2.1 (C.2.2.2.2.1 _ hL) (C.2.2.2.2.1 _ mj_absl.1) (C.2.2.2.2.1 _ mj_absl.2.1) (C.2.2.2.2.1 _ mj_absl.2.2) (by have := C.2.2.2.2.2.1.1; omega) (by rw [mV_cats]; have := C.2.2.2.2.2.1.2; have := Nat.le_of_ble_eq_true hrm; omega) hc.1 hc.2 hdg (k p l e R s m args below meth c A Z cells slots H locs lsA C hc hr hP hD hS hl)
theorem Wp_copy {E : mE} {d : Nat} {y : mM} {pc pc2 : Nat} {ls : List (Option mv)} {st : List mv} {w : mw} {Q : Option mv → mw → Prop} {idx a0 a n0 n1 : Nat} {sp dp n : Int32} (hd : mD y pc (.invokestatic idx) 3 pc2) (hL : Cond.methodLink y.1.cls idx arraycopyName ∈ lw_ws) (ho0 : mObj a0 = none) (ha0 : mArr a0 = (0, n0 + 1)) (ho1 : mObj a = none) (ha1 : mArr a = (0, n1 + 1)) (h1 : ¬ sp < 0) (h2 : ¬ dp < 0) (h3 : ¬ n < 0) (h4 : sp.toNatClampNeg + n.toNatClampNeg ≤ n0 + 1) (h5 : dp.toNatClampNeg + n.toNatClampNeg ≤ n1 + 1) (hrm : Nat.ble (st.map mcat).sum 8 = true) (h0 : 2 ≤ d) (k : Wp E d y pc2 ls st (mUr w a (va_cpy (w a0) (w a) sp.toNatClampNeg dp.toNatClampNeg n.toNatClampNeg)) Q) : Wp E d y pc ls (vi n :: vi dp :: vr a :: vi sp :: vr a0 :: st) w Q := by
  intro p l e R s m args below meth c A Z cells slots H locs lsA C hc hr hP hD hS hl
  obtain ⟨hdg, rfl⟩ := hd
  have he0 : (mW E w)[a0]? = some (E.1 a0, .inl (E.2.2.1.1, n0 + 1, .inl (w a0))) := by rw [mW_at (mlt_of_arr ha0), mEnt_int ho0 ha0]
  have he : (mW E w)[a]? = some (E.1 a, .inl (E.2.2.1.1, n1 + 1, .inl (w a))) := by rw [mW_at (mlt_of_arr ha1), mEnt_int ho1 ha1]
  have hset : (mW E w).set a (E.1 a, .inl (E.2.2.1.1, n1 + 1, .inl (va_cpy (w a0) (w a) sp.toNatClampNeg dp.toNatClampNeg n.toNatClampNeg))) = mW E (mUr w a (va_cpy (w a0) (w a) sp.toNatClampNeg dp.toNatClampNeg n.toNatClampNeg)) := mW_set (mlt_of_arr ha1) (by rw [mEnt_int ho1 ha1, mUr_eq])
  have hnf : nativeFrameWords "java/lang/System" "arraycopy" 5 ≤ 40 := by decide
  refine va_copyi (D := E.2.1) (cl := mCl) (tys := mTys E) (ty := .int) C.1 C.2.1 (C.2.2.1.trans hl.1.symm) C.2.2.2.1 (C.2.2.2.2.1 _ hL) (C.2.2.2.2.1 _ mj_copy.1) (C.2.2.2.2.1 _ mj_copy.2.1) (C.2.2.2.2.1 _ mj_copy.2.2) C.2.2.2.2.2.2.1 hP hD hS a0 a 0 0 he0 he rfl rfl rfl h1 h2 h3 h4 h5 (fun _ _ => rfl) (by have := C.2.2.2.2.2.1.1; omega) (by rw [mV_cats]; have := C.2.2.2.2.2.1.2; have := Nat.le_of_ble_eq_true hrm; omega) hdg (fun H1 locs1 hP1 hD1 hS1 => ?_)
  rw [hset] at hP1 hD1
  exact k p l e R s m args below meth c A Z cells slots H1 locs1 lsA C hc hr hP1 hD1 hS1 hl
/-- answers that are numbers, or nothing -/
def mPi (P : Int32 → mw → Prop) : Option mv → mw → Prop := fun v w => ∃ r, v = some (vi r) ∧ P r w
def mPl (P : Int64 → mw → Prop) : Option mv → mw → Prop := fun v w => ∃ r, v = some (vl r) ∧ P r w
def mPv (P : mw → Prop) : Option mv → mw → Prop := fun v w => v = none ∧ P w
abbrev Ti (E : mE) (d : Nat) (y : mM) (As : List mv) (w : mw) (P : Int32 → mw → Prop) : Prop := Tr E d y As w (mPi P)
abbrev Tl (E : mE) (d : Nat) (y : mM) (As : List mv) (w : mw) (P : Int64 → mw → Prop) : Prop := Tr E d y As w (mPl P)
abbrev Tv (E : mE) (d : Nat) (y : mM) (As : List mv) (w : mw) (P : mw → Prop) : Prop := Tr E d y As w (mPv P)
theorem Wp_reti {E : mE} {d : Nat} {y : mM} {pc pc2 : Nat} {ls : List (Option mv)} {w : mw} {x : Int32} {ty : FieldType} {P : Int32 → mw → Prop} (hd : mD y pc .ireturn 1 pc2) (hr0 : y.2.2.2 = some ty) (hn : narrow ty (.int x) = .int x) (k : P x w) : Wp E d y pc ls [vi x] w (mPi P) := Wp_iret hd hr0 hn ⟨x, rfl, k⟩
theorem Wp_retl {E : mE} {d : Nat} {y : mM} {pc pc2 : Nat} {ls : List (Option mv)} {w : mw} {x : Int64} {P : Int64 → mw → Prop} (hd : mD y pc .lreturn 1 pc2) (hr0 : y.2.2.2 = some .long) (k : P x w) : Wp E d y pc ls [vl x] w (mPl P) := Wp_lret hd hr0 ⟨x, rfl, k⟩
theorem Wp_retv {E : mE} {d : Nat} {y : mM} {pc pc2 : Nat} {ls : List (Option mv)} {w : mw} {P : mw → Prop} (hd : mD y pc .return_ 1 pc2) (hr0 : y.2.2.2 = none) (k : P w) : Wp E d y pc ls [] w (mPv P) := Wp_vret hd hr0 ⟨rfl, k⟩
theorem Wp_ivs_i {E : mE} {d : Nat} {y : mM} {pc pc2 : Nat} {ls : List (Option mv)} {st : List mv} {w : mw} {Q : Option mv → mw → Prop} {y2 : mM} {As : List mv} {n idx : Nat} {st2 : List mv} {P : Int32 → mw → Prop} (hd : mD y pc (.invokestatic idx) 3 pc2) (hL : mLS y.1.cls idx y2) (hO : mOk y2 n) (hn : As.length = n) (hst : As.reverse ++ st = st2) (hrm : Nat.ble (st.map mcat).sum 8 = true) (h0 : 0 < d) (hT : Ti E (d - 1) y2 As w P) (k : ∀ r w1, P r w1 → Wp E d y pc2 ls (vi r :: st) w1 Q) : Wp E d y pc ls st2 w Q :=
  Wp_ivs hd hL hO hn hst hrm h0 hT (fun v w1 h => by obtain ⟨r, rfl, h⟩ := h; exact k r w1 h)
theorem Wp_ivv_i {E : mE} {d : Nat} {y : mM} {pc pc2 : Nat} {ls : List (Option mv)} {st : List mv} {w : mw} {Q : Option mv → mw → Prop} {y2 : mM} {o : Nat} {q : Nat × Nat} {As : List mv} {n idx : Nat} {st2 : List mv} {P : Int32 → mw → Prop} (hd : mD y pc (.invokevirtual idx) 3 pc2) (hL : mLV y.1.cls idx y2) (hO : mOk y2 n) (ho : mObj o = some q) (hcl : (mCl[q.1]?).map (fun r => r.1) = some y2.1.cls) (hn : As.length = n) (hst : As.reverse ++ vr o :: st = st2) (hrm : Nat.ble (st.map mcat).sum 8 = true) (h0 : 0 < d) (hT : Ti E (d - 1) y2 (vr o :: As) w P) (k : ∀ r w1, P r w1 → Wp E d y pc2 ls (vi r :: st) w1 Q) : Wp E d y pc ls st2 w Q :=
  Wp_ivv hd hL hO ho hcl hn hst hrm h0 hT (fun v w1 h => by obtain ⟨r, rfl, h⟩ := h; exact k r w1 h)
theorem Wp_ivs_l {E : mE} {d : Nat} {y : mM} {pc pc2 : Nat} {ls : List (Option mv)} {st : List mv} {w : mw} {Q : Option mv → mw → Prop} {y2 : mM} {As : List mv} {n idx : Nat} {st2 : List mv} {P : Int64 → mw → Prop} (hd : mD y pc (.invokestatic idx) 3 pc2) (hL : mLS y.1.cls idx y2) (hO : mOk y2 n) (hn : As.length = n) (hst : As.reverse ++ st = st2) (hrm : Nat.ble (st.map mcat).sum 8 = true) (h0 : 0 < d) (hT : Tl E (d - 1) y2 As w P) (k : ∀ r w1, P r w1 → Wp E d y pc2 ls (vl r :: st) w1 Q) : Wp E d y pc ls st2 w Q :=
  Wp_ivs hd hL hO hn hst hrm h0 hT (fun v w1 h => by obtain ⟨r, rfl, h⟩ := h; exact k r w1 h)
theorem Wp_ivv_l {E : mE} {d : Nat} {y : mM} {pc pc2 : Nat} {ls : List (Option mv)} {st : List mv} {w : mw} {Q : Option mv → mw → Prop} {y2 : mM} {o : Nat} {q : Nat × Nat} {As : List mv} {n idx : Nat} {st2 : List mv} {P : Int64 → mw → Prop} (hd : mD y pc (.invokevirtual idx) 3 pc2) (hL : mLV y.1.cls idx y2) (hO : mOk y2 n) (ho : mObj o = some q) (hcl : (mCl[q.1]?).map (fun r => r.1) = some y2.1.cls) (hn : As.length = n) (hst : As.reverse ++ vr o :: st = st2) (hrm : Nat.ble (st.map mcat).sum 8 = true) (h0 : 0 < d) (hT : Tl E (d - 1) y2 (vr o :: As) w P) (k : ∀ r w1, P r w1 → Wp E d y pc2 ls (vl r :: st) w1 Q) : Wp E d y pc ls st2 w Q :=
  Wp_ivv hd hL hO ho hcl hn hst hrm h0 hT (fun v w1 h => by obtain ⟨r, rfl, h⟩ := h; exact k r w1 h)
theorem Wp_ivs_v {E : mE} {d : Nat} {y : mM} {pc pc2 : Nat} {ls : List (Option mv)} {st : List mv} {w : mw} {Q : Option mv → mw → Prop} {y2 : mM} {As : List mv} {n idx : Nat} {st2 : List mv} {P : mw → Prop} (hd : mD y pc (.invokestatic idx) 3 pc2) (hL : mLS y.1.cls idx y2) (hO : mOk y2 n) (hn : As.length = n) (hst : As.reverse ++ st = st2) (hrm : Nat.ble (st.map mcat).sum 8 = true) (h0 : 0 < d) (hT : Tv E (d - 1) y2 As w P) (k : ∀ w1, P w1 → Wp E d y pc2 ls st w1 Q) : Wp E d y pc ls st2 w Q :=
  Wp_ivs hd hL hO hn hst hrm h0 hT (fun v w1 h => by obtain ⟨rfl, h⟩ := h; exact k w1 h)
theorem Wp_ivv_v {E : mE} {d : Nat} {y : mM} {pc pc2 : Nat} {ls : List (Option mv)} {st : List mv} {w : mw} {Q : Option mv → mw → Prop} {y2 : mM} {o : Nat} {q : Nat × Nat} {As : List mv} {n idx : Nat} {st2 : List mv} {P : mw → Prop} (hd : mD y pc (.invokevirtual idx) 3 pc2) (hL : mLV y.1.cls idx y2) (hO : mOk y2 n) (ho : mObj o = some q) (hcl : (mCl[q.1]?).map (fun r => r.1) = some y2.1.cls) (hn : As.length = n) (hst : As.reverse ++ vr o :: st = st2) (hrm : Nat.ble (st.map mcat).sum 8 = true) (h0 : 0 < d) (hT : Tv E (d - 1) y2 (vr o :: As) w P) (k : ∀ w1, P w1 → Wp E d y pc2 ls st w1 Q) : Wp E d y pc ls st2 w Q :=
  Wp_ivv hd hL hO ho hcl hn hst hrm h0 hT (fun v w1 h => by obtain ⟨rfl, h⟩ := h; exact k w1 h)
theorem mObj_sh {s : Nat} (h : s < 4) : mObj (24 + s) = some (3, 3) := by
  rcases (show s = 0 ∨ s = 1 ∨ s = 2 ∨ s = 3 by omega) with rfl | rfl | rfl | rfl <;> rfl
theorem mRef_sh {s : Nat} (h : s < 4) : mRef (24 + s) 0 = some (28 + s) := by
  rcases (show s = 0 ∨ s = 1 ∨ s = 2 ∨ s = 3 by omega) with rfl | rfl | rfl | rfl <;> rfl
theorem mRef_sh1 {s : Nat} (h : s < 4) : mRef (24 + s) 1 = none := by
  rcases (show s = 0 ∨ s = 1 ∨ s = 2 ∨ s = 3 by omega) with rfl | rfl | rfl | rfl <;> rfl
theorem mRef_sh2 {s : Nat} (h : s < 4) : mRef (24 + s) 2 = none := by
  rcases (show s = 0 ∨ s = 1 ∨ s = 2 ∨ s = 3 by omega) with rfl | rfl | rfl | rfl <;> rfl
theorem mObj_it {s : Nat} (h : s < 4) : mObj (28 + s) = none := by
  rcases (show s = 0 ∨ s = 1 ∨ s = 2 ∨ s = 3 by omega) with rfl | rfl | rfl | rfl <;> rfl
theorem mArr_it {s : Nat} (h : s < 4) : mArr (28 + s) = (0, 60) := by
  rcases (show s = 0 ∨ s = 1 ∨ s = 2 ∨ s = 3 by omega) with rfl | rfl | rfl | rfl <;> rfl
theorem Wp_eqi {E : mE} {d : Nat} {y : mM} {pc : Nat} {ls : List (Option mv)} {st : List mv} {w : mw} {Q : Option mv → mw → Prop} {x x2 : Int32} (h : x = x2) (k : Wp E d y pc ls (vi x2 :: st) w Q) : Wp E d y pc ls (vi x :: st) w Q := h ▸ k
theorem Wp_eql {E : mE} {d : Nat} {y : mM} {pc : Nat} {ls : List (Option mv)} {st : List mv} {w : mw} {Q : Option mv → mw → Prop} {x x2 : Int64} (h : x = x2) (k : Wp E d y pc ls (vl x2 :: st) w Q) : Wp E d y pc ls (vl x :: st) w Q := h ▸ k
theorem Wp_eqw {E : mE} {d : Nat} {y : mM} {pc : Nat} {ls : List (Option mv)} {st : List mv} {w w2 : mw} {Q : Option mv → mw → Prop} (h : w = w2) (k : Wp E d y pc ls st w2 Q) : Wp E d y pc ls st w Q := h ▸ k
theorem mclN {j n : Nat} (hj : j < n + 1) (hn : Nat.ble (n + 1) 1000000 = true) : (nI j).toNatClampNeg = j ∧ vp_in (nI j) (n + 1) := by
  have h := Nat.le_of_ble_eq_true hn
  exact ⟨nI_clamp (by omega), vp_in_nI hj (by omega)⟩
theorem Wp_ialdN {E : mE} {d : Nat} {y : mM} {pc pc2 : Nat} {ls : List (Option mv)} {st : List mv} {w : mw} {Q : Option mv → mw → Prop} {a n j : Nat} {i : Int32} (hd : mD y pc .iaload 1 pc2) (ho : mObj a = none) (ha : mArr a = (0, n + 1)) (hn : Nat.ble (n + 1) 1000000 = true) (hi : i = nI j) (hj : j < n + 1) (k : Wp E d y pc2 ls (vi (w a j) :: st) w Q) : Wp E d y pc ls (vi i :: vr a :: st) w Q := by
  subst hi
  obtain ⟨h1, h2⟩ := mclN hj hn
  exact Wp_iald hd ho ha h2 (by rw [h1]; exact k)
theorem Wp_zaldN {E : mE} {d : Nat} {y : mM} {pc pc2 : Nat} {ls : List (Option mv)} {st : List mv} {w : mw} {Q : Option mv → mw → Prop} {a n j : Nat} {i : Int32} (hd : mD y pc .baload 1 pc2) (ho : mObj a = none) (ha : mArr a = (1, n + 1)) (hn : Nat.ble (n + 1) 1000000 = true) (hi : i = nI j) (hj : j < n + 1) (k : Wp E d y pc2 ls (vi (w a j) :: st) w Q) : Wp E d y pc ls (vi i :: vr a :: st) w Q := by
  subst hi
  obtain ⟨h1, h2⟩ := mclN hj hn
  exact Wp_zald hd ho ha h2 (by rw [h1]; exact k)
theorem Wp_iastN {E : mE} {d : Nat} {y : mM} {pc pc2 : Nat} {ls : List (Option mv)} {st : List mv} {w : mw} {Q : Option mv → mw → Prop} {a n j : Nat} {i x : Int32} (hd : mD y pc .iastore 1 pc2) (ho : mObj a = none) (ha : mArr a = (0, n + 1)) (hn : Nat.ble (n + 1) 1000000 = true) (hi : i = nI j) (hj : j < n + 1) (k : Wp E d y pc2 ls st (mU w a j x) Q) : Wp E d y pc ls (vi x :: vi i :: vr a :: st) w Q := by
  subst hi
  obtain ⟨h1, h2⟩ := mclN hj hn
  exact Wp_iast hd ho ha h2 (by rw [h1]; exact k)
theorem Wp_zastN {E : mE} {d : Nat} {y : mM} {pc pc2 : Nat} {ls : List (Option mv)} {st : List mv} {w : mw} {Q : Option mv → mw → Prop} {a n j : Nat} {i x : Int32} (hd : mD y pc .bastore 1 pc2) (ho : mObj a = none) (ha : mArr a = (1, n + 1)) (hn : Nat.ble (n + 1) 1000000 = true) (hi : i = nI j) (hj : j < n + 1) (hx : x &&& 1 = x) (k : Wp E d y pc2 ls st (mU w a j x) Q) : Wp E d y pc ls (vi x :: vi i :: vr a :: st) w Q := by
  subst hi
  obtain ⟨h1, h2⟩ := mclN hj hn
  exact Wp_zast hd ho ha h2 hx (by rw [h1]; exact k)
theorem Wp_aaldN {E : mE} {d : Nat} {y : mM} {pc pc2 : Nat} {ls : List (Option mv)} {st : List mv} {w : mw} {Q : Option mv → mw → Prop} {a n j : Nat} {i : Int32} (hd : mD y pc .aaload 1 pc2) (ho : mObj a = none) (ha : mArr a = (2, n + 1)) (hn : Nat.ble (n + 1) 1000000 = true) (hi : i = nI j) (hj : j < n + 1) (k : Wp E d y pc2 ls (vr (24 + j) :: st) w Q) : Wp E d y pc ls (vi i :: vr a :: st) w Q := by
  subst hi
  have hn := Nat.le_of_ble_eq_true hn
  have h1 : (nI j).toNatClampNeg = j := nI_clamp (by omega)
  exact Wp_aald hd ho ha (vp_in_nI hj (by omega)) (by rw [h1]; exact k)
theorem Wp_saldN {E : mE} {d : Nat} {y : mM} {pc pc2 : Nat} {ls : List (Option mv)} {st : List mv} {w : mw} {Q : Option mv → mw → Prop} {t j : Nat} {i : Int32} (hd : mD y pc .iaload 1 pc2) (h1 : Nat.ble 59 t = true) (h2 : Nat.ble (t + 1) 62 = true) (hi : i = nI j) (hj : j < mSN t) (k : Wp E d y pc2 ls (vi (mSF t j) :: st) w Q) : Wp E d y pc ls (vi i :: vr t :: st) w Q := by
  subst hi
  have hn : mSN t ≤ 7 := by
    unfold mSN
    split <;> decide
  have h3 : (nI j).toNatClampNeg = j := nI_clamp (by omega)
  exact Wp_sald hd h1 h2 (vp_in_nI hj (by omega)) (by rw [h3]; exact k)
theorem Wp_xaldN {E : mE} {d : Nat} {y : mM} {pc pc2 : Nat} {ls : List (Option mv)} {st : List mv} {w : mw} {Q : Option mv → mw → Prop} {j : Nat} {i : Int32} (hy : y.1.cls = "AgeFerryLaw") (hd : mD y pc .iaload 1 pc2) (hi : i = nI j) (hj : j < E.2.2.2.2 ∧ E.2.2.2.2 ≤ 3072) (k : Wp E d y pc2 ls (vi (E.2.2.2.1 j) :: st) w Q) : Wp E d y pc ls (vi i :: vr 62 :: st) w Q := by
  subst hi
  have h3 : (nI j).toNatClampNeg = j := nI_clamp (by omega)
  exact Wp_xald hy hd (vp_in_nI hj.1 (by omega)) (by rw [h3]; exact k)
theorem nI_and (a b : Nat) : nI a &&& nI b = nI (a &&& b) := by
  show Int32.ofNat a &&& Int32.ofNat b = Int32.ofNat (a &&& b)
  exact Int32.toBitVec_inj.mp (by simp [Int32.toBitVec_and, Int32.toBitVec_ofNat', BitVec.ofNat_and])
theorem nI_or (a b : Nat) : nI a ||| nI b = nI (a ||| b) := by
  show Int32.ofNat a ||| Int32.ofNat b = Int32.ofNat (a ||| b)
  exact Int32.toBitVec_inj.mp (by simp [Int32.toBitVec_or, Int32.toBitVec_ofNat', BitVec.ofNat_or])
theorem nI_xor (a b : Nat) : nI a ^^^ nI b = nI (a ^^^ b) := by
  show Int32.ofNat a ^^^ Int32.ofNat b = Int32.ofNat (a ^^^ b)
  exact Int32.toBitVec_inj.mp (by simp [Int32.toBitVec_xor, Int32.toBitVec_ofNat', BitVec.ofNat_xor])
theorem nI_lit (n : Nat) : nI n = Int32.ofNat n := rfl
/-- answers that are told outright -/
abbrev Tb (E : mE) (d : Nat) (y : mM) (As : List mv) (w : mw) (p : Prop) : Prop := Ti E d y As w (fun r w1 => ((r = 1 ∧ p) ∨ (r = 0 ∧ ¬ p)) ∧ w1 = w)
abbrev Td (E : mE) (d : Nat) (y : mM) (As : List mv) (w : mw) (r0 : Int32) (w2 : mw) : Prop := Ti E d y As w (fun r w1 => r = r0 ∧ w1 = w2)
abbrev Tdl (E : mE) (d : Nat) (y : mM) (As : List mv) (w : mw) (r0 : Int64) (w2 : mw) : Prop := Tl E d y As w (fun r w1 => r = r0 ∧ w1 = w2)
abbrev Tdv (E : mE) (d : Nat) (y : mM) (As : List mv) (w : mw) (w2 : mw) : Prop := Tv E d y As w (fun w1 => w1 = w2)
theorem Wp_ivs_b {E : mE} {d : Nat} {y : mM} {pc pc2 : Nat} {ls : List (Option mv)} {st : List mv} {w : mw} {Q : Option mv → mw → Prop} {y2 : mM} {As : List mv} {n idx : Nat} {st2 : List mv} {p : Prop} (hd : mD y pc (.invokestatic idx) 3 pc2) (hL : mLS y.1.cls idx y2) (hO : mOk y2 n) (hn : As.length = n) (hst : As.reverse ++ st = st2) (hrm : Nat.ble (st.map mcat).sum 8 = true) (h0 : 0 < d) (hT : Tb E (d - 1) y2 As w p) (k1 : p → Wp E d y pc2 ls (vi 1 :: st) w Q) (k0 : ¬ p → Wp E d y pc2 ls (vi 0 :: st) w Q) : Wp E d y pc ls st2 w Q :=
  Wp_ivs_i hd hL hO hn hst hrm h0 hT (fun r w1 h => by rcases h with ⟨⟨h1, h2⟩ | ⟨h1, h2⟩, h3⟩ <;> (rw [h1, h3]; first | exact k1 h2 | exact k0 h2))
theorem Wp_ivs_d {E : mE} {d : Nat} {y : mM} {pc pc2 : Nat} {ls : List (Option mv)} {st : List mv} {w : mw} {Q : Option mv → mw → Prop} {y2 : mM} {As : List mv} {n idx : Nat} {st2 : List mv} {r0 : Int32} {w2 : mw} (hd : mD y pc (.invokestatic idx) 3 pc2) (hL : mLS y.1.cls idx y2) (hO : mOk y2 n) (hn : As.length = n) (hst : As.reverse ++ st = st2) (hrm : Nat.ble (st.map mcat).sum 8 = true) (h0 : 0 < d) (hT : Td E (d - 1) y2 As w r0 w2) (k : Wp E d y pc2 ls (vi r0 :: st) w2 Q) : Wp E d y pc ls st2 w Q :=
  Wp_ivs_i hd hL hO hn hst hrm h0 hT (fun r w1 h => by rw [h.1, h.2]; exact k)
theorem Wp_ivs_dl {E : mE} {d : Nat} {y : mM} {pc pc2 : Nat} {ls : List (Option mv)} {st : List mv} {w : mw} {Q : Option mv → mw → Prop} {y2 : mM} {As : List mv} {n idx : Nat} {st2 : List mv} {r0 : Int64} {w2 : mw} (hd : mD y pc (.invokestatic idx) 3 pc2) (hL : mLS y.1.cls idx y2) (hO : mOk y2 n) (hn : As.length = n) (hst : As.reverse ++ st = st2) (hrm : Nat.ble (st.map mcat).sum 8 = true) (h0 : 0 < d) (hT : Tdl E (d - 1) y2 As w r0 w2) (k : Wp E d y pc2 ls (vl r0 :: st) w2 Q) : Wp E d y pc ls st2 w Q :=
  Wp_ivs_l hd hL hO hn hst hrm h0 hT (fun r w1 h => by rw [h.1, h.2]; exact k)
theorem Wp_ivs_dv {E : mE} {d : Nat} {y : mM} {pc pc2 : Nat} {ls : List (Option mv)} {st : List mv} {w : mw} {Q : Option mv → mw → Prop} {y2 : mM} {As : List mv} {n idx : Nat} {st2 : List mv} {w2 : mw} (hd : mD y pc (.invokestatic idx) 3 pc2) (hL : mLS y.1.cls idx y2) (hO : mOk y2 n) (hn : As.length = n) (hst : As.reverse ++ st = st2) (hrm : Nat.ble (st.map mcat).sum 8 = true) (h0 : 0 < d) (hT : Tdv E (d - 1) y2 As w w2) (k : Wp E d y pc2 ls st w2 Q) : Wp E d y pc ls st2 w Q :=
  Wp_ivs_v hd hL hO hn hst hrm h0 hT (fun w1 h => by rw [h]; exact k)
theorem Wp_ivv_b {E : mE} {d : Nat} {y : mM} {pc pc2 : Nat} {ls : List (Option mv)} {st : List mv} {w : mw} {Q : Option mv → mw → Prop} {y2 : mM} {o : Nat} {q : Nat × Nat} {As : List mv} {n idx : Nat} {st2 : List mv} {p : Prop} (hd : mD y pc (.invokevirtual idx) 3 pc2) (hL : mLV y.1.cls idx y2) (hO : mOk y2 n) (ho : mObj o = some q) (hcl : (mCl[q.1]?).map (fun r => r.1) = some y2.1.cls) (hn : As.length = n) (hst : As.reverse ++ vr o :: st = st2) (hrm : Nat.ble (st.map mcat).sum 8 = true) (h0 : 0 < d) (hT : Tb E (d - 1) y2 (vr o :: As) w p) (k1 : p → Wp E d y pc2 ls (vi 1 :: st) w Q) (k0 : ¬ p → Wp E d y pc2 ls (vi 0 :: st) w Q) : Wp E d y pc ls st2 w Q :=
  Wp_ivv_i hd hL hO ho hcl hn hst hrm h0 hT (fun r w1 h => by rcases h with ⟨⟨h1, h2⟩ | ⟨h1, h2⟩, h3⟩ <;> (rw [h1, h3]; first | exact k1 h2 | exact k0 h2))
theorem Wp_ivv_d {E : mE} {d : Nat} {y : mM} {pc pc2 : Nat} {ls : List (Option mv)} {st : List mv} {w : mw} {Q : Option mv → mw → Prop} {y2 : mM} {o : Nat} {q : Nat × Nat} {As : List mv} {n idx : Nat} {st2 : List mv} {r0 : Int32} {w2 : mw} (hd : mD y pc (.invokevirtual idx) 3 pc2) (hL : mLV y.1.cls idx y2) (hO : mOk y2 n) (ho : mObj o = some q) (hcl : (mCl[q.1]?).map (fun r => r.1) = some y2.1.cls) (hn : As.length = n) (hst : As.reverse ++ vr o :: st = st2) (hrm : Nat.ble (st.map mcat).sum 8 = true) (h0 : 0 < d) (hT : Td E (d - 1) y2 (vr o :: As) w r0 w2) (k : Wp E d y pc2 ls (vi r0 :: st) w2 Q) : Wp E d y pc ls st2 w Q :=
  Wp_ivv_i hd hL hO ho hcl hn hst hrm h0 hT (fun r w1 h => by rw [h.1, h.2]; exact k)
theorem Wp_ivv_dl {E : mE} {d : Nat} {y : mM} {pc pc2 : Nat} {ls : List (Option mv)} {st : List mv} {w : mw} {Q : Option mv → mw → Prop} {y2 : mM} {o : Nat} {q : Nat × Nat} {As : List mv} {n idx : Nat} {st2 : List mv} {r0 : Int64} {w2 : mw} (hd : mD y pc (.invokevirtual idx) 3 pc2) (hL : mLV y.1.cls idx y2) (hO : mOk y2 n) (ho : mObj o = some q) (hcl : (mCl[q.1]?).map (fun r => r.1) = some y2.1.cls) (hn : As.length = n) (hst : As.reverse ++ vr o :: st = st2) (hrm : Nat.ble (st.map mcat).sum 8 = true) (h0 : 0 < d) (hT : Tdl E (d - 1) y2 (vr o :: As) w r0 w2) (k : Wp E d y pc2 ls (vl r0 :: st) w2 Q) : Wp E d y pc ls st2 w Q :=
  Wp_ivv_l hd hL hO ho hcl hn hst hrm h0 hT (fun r w1 h => by rw [h.1, h.2]; exact k)
theorem Wp_ivv_dv {E : mE} {d : Nat} {y : mM} {pc pc2 : Nat} {ls : List (Option mv)} {st : List mv} {w : mw} {Q : Option mv → mw → Prop} {y2 : mM} {o : Nat} {q : Nat × Nat} {As : List mv} {n idx : Nat} {st2 : List mv} {w2 : mw} (hd : mD y pc (.invokevirtual idx) 3 pc2) (hL : mLV y.1.cls idx y2) (hO : mOk y2 n) (ho : mObj o = some q) (hcl : (mCl[q.1]?).map (fun r => r.1) = some y2.1.cls) (hn : As.length = n) (hst : As.reverse ++ vr o :: st = st2) (hrm : Nat.ble (st.map mcat).sum 8 = true) (h0 : 0 < d) (hT : Tdv E (d - 1) y2 (vr o :: As) w w2) (k : Wp E d y pc2 ls st w2 Q) : Wp E d y pc ls st2 w Q :=
  Wp_ivv_v hd hL hO ho hcl hn hst hrm h0 hT (fun w1 h => by rw [h]; exact k)
end
section
theorem i_lt {x z : Int32} (h : x < z) : x.toInt < z.toInt := Int32.lt_iff_toInt_lt.mp h
theorem i_nlt {x z : Int32} (h : ¬ x < z) : z.toInt ≤ x.toInt := by
  have : ¬ x.toInt < z.toInt := fun q => h (Int32.lt_iff_toInt_lt.mpr q)
  omega
theorem i_le {x z : Int32} (h : x ≤ z) : x.toInt ≤ z.toInt := Int32.le_iff_toInt_le.mp h
theorem i_nle {x z : Int32} (h : ¬ x ≤ z) : z.toInt < x.toInt := by
  have : ¬ x.toInt ≤ z.toInt := fun q => h (Int32.le_iff_toInt_le.mpr q)
  omega
theorem i_ne {x z : Int32} (h : ¬ x = z) : x.toInt ≠ z.toInt := fun q => h (Int32.toInt_inj.mp q)
theorem i_eq {x z : Int32} (h : x.toInt = z.toInt) : x = z := Int32.toInt_inj.mp h
theorem n_lt {a b : Nat} (h : nI a < nI b) (ha : a < 2147483648) (hb : b < 2147483648) : a < b := (nI_ltI ha hb).mp h
theorem n_nlt {a b : Nat} (h : ¬ nI a < nI b) (ha : a < 2147483648) (hb : b < 2147483648) : b ≤ a := by
  have : ¬ a < b := fun q => h ((nI_ltI ha hb).mpr q)
  omega
theorem n_le {a b : Nat} (h : nI a ≤ nI b) (ha : a < 2147483648) (hb : b < 2147483648) : a ≤ b := (nI_leI ha hb).mp h
theorem n_nle {a b : Nat} (h : ¬ nI a ≤ nI b) (ha : a < 2147483648) (hb : b < 2147483648) : b < a := by
  have : ¬ a ≤ b := fun q => h ((nI_leI ha hb).mpr q)
  omega
theorem n_eq {a b : Nat} (h : nI a = nI b) (ha : a < 2147483648) (hb : b < 2147483648) : a = b := (nI_eq ha hb).mp h
theorem n_ne {a b : Nat} (h : ¬ nI a = nI b) (ha : a < 2147483648) (hb : b < 2147483648) : a ≠ b := fun q => h ((nI_eq ha hb).mpr q)
theorem i_nI {x : Int32} (h : 0 ≤ x.toInt) : x = nI x.toNatClampNeg := by
  apply Int32.toInt_inj.mp
  have h1 : x.toNatClampNeg = x.toInt.toNat := rfl
  have h2 := Int32.toInt_lt x
  rw [nI_toInt (by omega)]
  omega
theorem i_nIof {x : Int32} {n : Nat} (h : 0 ≤ x.toInt) (h2 : x.toInt < n) : ∃ j, j < n ∧ x = nI j := ⟨x.toNatClampNeg, by have h1 : x.toNatClampNeg = x.toInt.toNat := rfl; omega, i_nI h⟩
theorem l_cmp_lt {x z : Int64} (h : lg_cmp x z < 0) : x.toInt < z.toInt := by
  unfold lg_cmp at h
  by_cases h1 : x > z
  · rw [if_pos h1] at h; exact absurd h (by decide)
  · rw [if_neg h1] at h
    by_cases h2 : x = z
    · rw [if_pos h2] at h; exact absurd h (by decide)
    · have h3 : ¬ z.toInt < x.toInt := fun q => h1 (Int64.lt_iff_toInt_lt.mpr q)
      have h4 : x.toInt ≠ z.toInt := fun q => h2 (Int64.toInt_inj.mp q)
      omega
theorem l_cmp_nlt {x z : Int64} (h : ¬ lg_cmp x z < 0) : z.toInt ≤ x.toInt := by
  unfold lg_cmp at h
  by_cases h1 : x > z
  · have h3 : z.toInt < x.toInt := Int64.lt_iff_toInt_lt.mp h1
    omega
  · rw [if_neg h1] at h
    by_cases h2 : x = z
    · rw [h2]; exact Int.le_refl _
    · rw [if_neg h2] at h; exact absurd (by decide) h
theorem l_cmp_gt {x z : Int64} (h : 0 < lg_cmp x z) : z.toInt < x.toInt := by
  unfold lg_cmp at h
  by_cases h1 : x > z
  · exact Int64.lt_iff_toInt_lt.mp h1
  · rw [if_neg h1] at h
    by_cases h2 : x = z
    · rw [if_pos h2] at h; exact absurd h (by decide)
    · rw [if_neg h2] at h; exact absurd h (by decide)
theorem l_cmp_ngt {x z : Int64} (h : ¬ 0 < lg_cmp x z) : x.toInt ≤ z.toInt := by
  unfold lg_cmp at h
  by_cases h1 : x > z
  · rw [if_pos h1] at h; exact absurd (by decide) h
  · have h3 : ¬ z.toInt < x.toInt := fun q => h1 (Int64.lt_iff_toInt_lt.mpr q)
    omega
theorem l_cmp_le {x z : Int64} (h : lg_cmp x z ≤ 0) : x.toInt ≤ z.toInt := l_cmp_ngt (fun q => by have h1 := i_le h; have h2 := i_lt q; omega)
theorem l_cmp_nle {x z : Int64} (h : ¬ lg_cmp x z ≤ 0) : z.toInt < x.toInt := l_cmp_gt (by have := i_nle h; exact Int32.lt_iff_toInt_lt.mpr this)
/-- rows that stay -/
def fr (L : List Nat) (w w1 : mw) : Prop := ∀ k, k ∉ L → w1 k = w k
theorem fr_rf {L : List Nat} {w : mw} : fr L w w := fun _ _ => rfl
theorem fr_tr {L : List Nat} {w w1 w2 : mw} (h : fr L w w1) (h2 : fr L w1 w2) : fr L w w2 := fun k hk => (h2 k hk).trans (h k hk)
theorem fr_sub {L L2 : List Nat} {w w1 : mw} (h : fr L w w1) (hs : ∀ k ∈ L, k ∈ L2) : fr L2 w w1 := fun k hk => h k (fun q => hk (hs k q))
theorem fr_U {L : List Nat} {w : mw} {k j : Nat} {x : Int32} (h : k ∈ L) : fr L w (mU w k j x) := fun a ha => mUr_ne (fun q => ha (q ▸ h))
theorem mU_ne {w : mw} {k j a : Nat} {x : Int32} (h : a ≠ k) : mU w k j x a = w a := mUr_ne h
theorem mU_at {w : mw} {k j : Nat} {x : Int32} : mU w k j x k j = x := by unfold mU; rw [mUr_eq]; exact pk_us
theorem mU_at_ne {w : mw} {k j i : Nat} {x : Int32} (h : i ≠ j) : mU w k j x k i = w k i := by unfold mU; rw [mUr_eq]; exact pk_un h
theorem mU_k {w : mw} {k j i : Nat} {x : Int32} : mU w k j x k i = if i = j then x else w k i := by unfold mU; rw [mUr_eq]; rfl
theorem mk31 : ∀ k, k < 32 → ((nI k &&& 31).toBitVec.smod 32).toNat = k := by decide +kernel
theorem sh1 {k : Nat} (h : k < 31) : (1 : Int32) <<< (nI k &&& 31) = nI (2 ^ k) := by
  have h1 := pk_shlN (n := 1) (nI k &&& 31) k (mk31 k (by omega)) (by rw [Nat.one_mul]; exact Nat.pow_lt_pow_right (by omega) (by omega))
  rw [Nat.one_mul] at h1
  exact h1
theorem shr {b k : Nat} (hb : b < 2147483648) (h : k < 32) : nI b >>> (nI k &&& 31) = nI (b / 2 ^ k) := pk_shrN hb (nI k &&& 31) k (mk31 k h)
theorem and1 {b : Nat} (hb : b < 2147483648) : nI b &&& 1 = nI (b % 2) := pk_andN (n := b) (by omega) (m := 1) 1 rfl
theorem tb_div {b k : Nat} : (b / 2 ^ k % 2 = 1) ↔ b.testBit k = true := by rw [Nat.testBit_eq_decide_div_mod_eq]; simp
theorem two_lt {k n : Nat} (h : k < n) (hn : n ≤ 10) : 2 ^ k < 1024 := Nat.lt_of_lt_of_le (Nat.pow_lt_pow_right (by omega) (show k < 10 by omega)) (Nat.le_refl _)
/-- the state as the check's rows have it -/
def sLen (S : mw) : Nat := (S 33 6).toNatClampNeg
def sWt (S : mw) (i : Nat) : Nat := (S 40 i).toNatClampNeg
def sHr (S : mw) (i : Nat) : Nat := (S 41 i).toNatClampNeg
def sSet (S : mw) (i : Nat) : Nat := (S 43 i).toNatClampNeg
def sWo (S : mw) (i : Nat) : Nat := (S 44 i).toNatClampNeg
def sMu (S : mw) (i : Nat) : Nat := (S 45 i).toNatClampNeg
def sSn (S : mw) : Nat := (S 33 28).toNatClampNeg
def sSz (S : mw) (s : Nat) : Nat := (S 35 s).toNatClampNeg
def sHi (i : Nat) : Nat := match i with | 0 => 4 | 1 => 2 | 2 => 99 | _ => 9
def VM (S : mw) : Prop :=
  (S 33 6 = nI (sLen S) ∧ sLen S ≤ 40) ∧
  (∀ i, i < 10 → S 40 i = nI (sWt S i) ∧ sWt S i ≤ 99) ∧
  (∀ i, i < 10 → S 41 i = nI (sHr S i) ∧ sHr S i ≤ 99) ∧
  (∀ i, i < 10 → -30 ≤ (S 42 i).toInt ∧ (S 42 i).toInt ≤ 30) ∧
  ((∀ i, i < 4 → S 43 i = nI (sSet S i) ∧ sSet S i ≤ sHi i) ∧ 1 ≤ sSet S 0) ∧
  (∀ i, i < 10 → S 44 i = nI (sWo S i) ∧ sWo S i < 1024) ∧
  (∀ i, i < 10 → S 45 i = nI (sMu S i) ∧ sMu S i < 1024) ∧
  ((∀ i j, i < 10 → j < 10 → (sMu S i).testBit j = (sMu S j).testBit i) ∧ ∀ i, i < 10 → (sMu S i).testBit i = false) ∧
  (S 33 28 = nI (sSn S) ∧ sSn S ≤ 8) ∧
  (∀ k, k < sSn S → (∃ a b, S 57 (3 * k) = nI a ∧ S 57 (3 * k + 1) = nI b ∧ a < 10 ∧ b < 10 ∧ a ≠ b) ∧ 0 ≤ (S 57 (3 * k + 2)).toInt ∧ (S 57 (3 * k + 2)).toInt ≤ 200) ∧
  (∀ s, s < 4 → -1 ≤ (S 34 s).toInt ∧ (S 34 s).toInt ≤ 2) ∧
  (∀ s, s < 4 → S 35 s = nI (sSz S s) ∧ sSz S s ≤ 60)
def pRows : List Nat := [34, 35, 36, 38, 40, 41, 42, 43, 44, 45, 57]
def MM (w S : mw) : Prop := w 33 4 = S 33 4 ∧ w 33 6 = S 33 6 ∧ w 33 28 = S 33 28 ∧ ∀ k, k ∈ pRows → w k = S k
theorem MM.r {w S : mw} (h : MM w S) (k : Nat) (hk : k ∈ pRows := by decide) : w k = S k := h.2.2.2 k hk
/-- the people, out of the text -/
def dig (x : Int32) : Bool := decide (48 ≤ x.toInt ∧ x.toInt ≤ 57)
def efr (t : Nat → Int32) (n e : Nat) : Nat → Nat
  | 0 => e
  | k + 1 => if e < n ∧ dig (t e) = true then efr t n (e + 1) k else e
def agv (t : Nat → Int32) (e : Nat) : Nat → Nat
  | 0 => 0
  | k + 1 => 10 * agv t e k + ((t (e + k)).toInt.toNat - 48)
def pos (t : Nat → Int32) (n : Nat) : Nat → Nat
  | 0 => 0
  | r + 1 => efr t n (pos t n r) 3 + 1
def pEnd (t : Nat → Int32) (n r : Nat) : Nat := efr t n (pos t n r) 3
def pAge (t : Nat → Int32) (n r : Nat) : Nat := agv t (pos t n r) (pEnd t n r - pos t n r)
def pgo (t : Nat → Int32) (n : Nat) : Nat → Nat → Int32 × Nat
  | 0, r => (nI (pos t n r), 0)
  | f + 1, r => if pEnd t n r = pos t n r ∨ 120 < pAge t n r then (nI (pos t n r), 0) else if n ≤ pEnd t n r then (-1, r + 1) else if t (pEnd t n r) = 59 then pgo t n f (r + 1) else (nI (pEnd t n r), 0)
def pres (t : Nat → Int32) (n : Nat) : Int32 × Nat := if n = 0 then (-1, 0) else pgo t n 10 0
def pF (S : mw) : Int32 := (pres (S 38) (sLen S)).1
def pN (S : mw) : Nat := (pres (S 38) (sLen S)).2
def pA (S : mw) (i : Nat) : Nat := pAge (S 38) (sLen S) i
def tld (S : mw) (i : Nat) : Nat := ((pA S i : Int) + (S 42 i).toInt).toNat
/-- the check, behind its reading of the text -/
def MP (w S : mw) : Prop := MM w S ∧ w 33 8 = nI (pN S) ∧ ∀ i, i < pN S → w 39 i = nI (pA S i)
end
section
set_option maxRecDepth 100000 in
set_option maxHeartbeats 4000000 in
theorem t_M_in (E : mE) (d : Nat) (hd : 0 ≤ d) (w : mw) (x a b : Int64) : Tb E d m_M_in [vl x, vl a, vl b] w (a.toInt ≤ x.toInt ∧ x.toInt ≤ b.toInt) := by
  refine ⟨Nat.le_of_ble_eq_true rfl, ?_⟩
  show Wp E d m_M_in 0 [ll x, lo, ll a, lo, ll b, lo] [] w _
  refine Wp_lload_n d_M_in_0 rfl ?_
  refine Wp_lload_n d_M_in_1 rfl ?_
  refine Wp_lcmp d_M_in_2 ?_
  refine Wp_if_lt d_M_in_3 (fun h3 => ?_) (fun h3 => ?_)
  ·
    have g3 := l_cmp_lt h3
    refine Wp_iconst (x := 0) d_M_in_17 (by decide) ?_
    refine Wp_reti (ty := .boolean) d_M_in_18 rfl rfl ?_
    exact ⟨Or.inr ⟨rfl, fun q => by omega⟩, rfl⟩
  ·
    have g3 := l_cmp_nlt h3
    refine Wp_lload_n d_M_in_6 rfl ?_
    refine Wp_lload d_M_in_7 rfl ?_
    refine Wp_lcmp d_M_in_9 ?_
    refine Wp_if_gt d_M_in_10 (fun h10 => ?_) (fun h10 => ?_)
    ·
      have g10 := l_cmp_gt h10
      refine Wp_iconst (x := 0) d_M_in_17 (by decide) ?_
      refine Wp_reti (ty := .boolean) d_M_in_18 rfl rfl ?_
      exact ⟨Or.inr ⟨rfl, fun q => by omega⟩, rfl⟩
    ·
      have g10 := l_cmp_ngt h10
      refine Wp_iconst (x := 1) d_M_in_13 (by decide) ?_
      refine Wp_goto d_M_in_14 ?_
      refine Wp_reti (ty := .boolean) d_M_in_18 rfl rfl ?_
      exact ⟨Or.inl ⟨rfl, ⟨by omega, by omega⟩⟩, rfl⟩
theorem t_M_inI (E : mE) (d : Nat) (w : mw) {x : Int32} {a b : Int64} {lo hi : Int} (ha : a.toInt = lo) (hb : b.toInt = hi) : Tb E d m_M_in [vl x.toInt64, vl a, vl b] w (lo ≤ x.toInt ∧ x.toInt ≤ hi) := by
  have h1 := t_M_in E d (Nat.zero_le _) w x.toInt64 a b
  rw [ha, hb, Int32.toInt_toInt64] at h1
  exact h1
set_option maxRecDepth 100000 in
set_option maxHeartbeats 4000000 in
theorem t_M_no (E : mE) (d : Nat) (hd : 0 ≤ d) (w : mw) (x : Int32) : Tdl E d m_M_no [vi x] w (-9223372036854775808 - x.toInt64) w := by
  refine ⟨Nat.le_of_ble_eq_true rfl, ?_⟩
  show Wp E d m_M_no 0 [li x] [] w _
  refine Wp_ldc2 (x := (-9223372036854775808)) d_M_no_0 kl_M_86 ?_
  refine Wp_iload_n d_M_no_3 rfl ?_
  refine Wp_i2l d_M_no_4 ?_
  refine Wp_lsub d_M_no_5 ?_
  refine Wp_retl d_M_no_6 rfl ?_
  exact ⟨rfl, rfl⟩
set_option maxRecDepth 100000 in
set_option maxHeartbeats 4000000 in
theorem t_M_isTwo (E : mE) (d : Nat) (hd : 1 ≤ d) (w : mw) (x : Int32) : Tb E d m_M_isTwo [vi x] w (0 ≤ x.toInt ∧ x.toInt ≤ 1) := by
  refine ⟨Nat.le_of_ble_eq_true rfl, ?_⟩
  show Wp E d m_M_isTwo 0 [li x] [] w _
  refine Wp_iload_n d_M_isTwo_0 rfl ?_
  refine Wp_i2l d_M_isTwo_1 ?_
  refine Wp_lconst (x := 0) d_M_isTwo_2 (by decide) ?_
  refine Wp_lconst (x := 1) d_M_isTwo_3 (by decide) ?_
  refine Wp_ivs_b (As := [vl x.toInt64, vl 0, vl 1]) d_M_isTwo_4 ln_M_88 mk_M_in rfl rfl rfl (by omega) (t_M_inI E (d - 1) w (x := x) (lo := 0) (hi := 1) (by decide) (by decide)) (fun g4 => ?_) (fun g4 => ?_)
  ·
    refine Wp_reti (ty := .boolean) d_M_isTwo_7 rfl rfl ?_
    exact ⟨Or.inl ⟨rfl, g4⟩, rfl⟩
  ·
    refine Wp_reti (ty := .boolean) d_M_isTwo_7 rfl rfl ?_
    exact ⟨Or.inr ⟨rfl, g4⟩, rfl⟩
set_option maxRecDepth 100000 in
set_option maxHeartbeats 4000000 in
theorem t_M_isSheet (E : mE) (d : Nat) (hd : 1 ≤ d) (w : mw) (x : Int32) : Tb E d m_M_isSheet [vi x] w (0 ≤ x.toInt ∧ x.toInt ≤ 3) := by
  refine ⟨Nat.le_of_ble_eq_true rfl, ?_⟩
  show Wp E d m_M_isSheet 0 [li x] [] w _
  refine Wp_iload_n d_M_isSheet_0 rfl ?_
  refine Wp_i2l d_M_isSheet_1 ?_
  refine Wp_lconst (x := 0) d_M_isSheet_2 (by decide) ?_
  refine Wp_ldc2 (x := 3) d_M_isSheet_3 kl_M_96 ?_
  refine Wp_ivs_b (As := [vl x.toInt64, vl 0, vl 3]) d_M_isSheet_6 ln_M_88 mk_M_in rfl rfl rfl (by omega) (t_M_inI E (d - 1) w (x := x) (lo := 0) (hi := 3) (by decide) (by decide)) (fun g6 => ?_) (fun g6 => ?_)
  ·
    refine Wp_reti (ty := .boolean) d_M_isSheet_9 rfl rfl ?_
    exact ⟨Or.inl ⟨rfl, g6⟩, rfl⟩
  ·
    refine Wp_reti (ty := .boolean) d_M_isSheet_9 rfl rfl ?_
    exact ⟨Or.inr ⟨rfl, g6⟩, rfl⟩
set_option maxRecDepth 100000 in
set_option maxHeartbeats 4000000 in
theorem t_M_isNumber (E : mE) (d : Nat) (hd : 1 ≤ d) (w : mw) (x : Int32) : Tb E d m_M_isNumber [vi x] w (0 ≤ x.toInt ∧ x.toInt ≤ 9) := by
  refine ⟨Nat.le_of_ble_eq_true rfl, ?_⟩
  show Wp E d m_M_isNumber 0 [li x] [] w _
  refine Wp_iload_n d_M_isNumber_0 rfl ?_
  refine Wp_i2l d_M_isNumber_1 ?_
  refine Wp_lconst (x := 0) d_M_isNumber_2 (by decide) ?_
  refine Wp_ldc2 (x := 9) d_M_isNumber_3 kl_M_146 ?_
  refine Wp_ivs_b (As := [vl x.toInt64, vl 0, vl 9]) d_M_isNumber_6 ln_M_88 mk_M_in rfl rfl rfl (by omega) (t_M_inI E (d - 1) w (x := x) (lo := 0) (hi := 9) (by decide) (by decide)) (fun g6 => ?_) (fun g6 => ?_)
  ·
    refine Wp_reti (ty := .boolean) d_M_isNumber_9 rfl rfl ?_
    exact ⟨Or.inl ⟨rfl, g6⟩, rfl⟩
  ·
    refine Wp_reti (ty := .boolean) d_M_isNumber_9 rfl rfl ?_
    exact ⟨Or.inr ⟨rfl, g6⟩, rfl⟩
set_option maxRecDepth 100000 in
set_option maxHeartbeats 4000000 in
theorem t_M_isIn (E : mE) (d : Nat) (hd : 0 ≤ d) (w : mw) (b k : Nat) (hb : b < 2147483648) (hk : k < 32) : Tb E d m_M_isIn [vi (nI b), vi (nI k)] w (b.testBit k = true) := by
  refine ⟨Nat.le_of_ble_eq_true rfl, ?_⟩
  show Wp E d m_M_isIn 0 [li (nI b), li (nI k)] [] w _
  refine Wp_iload_n d_M_isIn_0 rfl ?_
  refine Wp_iload_n d_M_isIn_1 rfl ?_
  refine Wp_ishr d_M_isIn_2 ?_
  refine Wp_eqi (x2 := nI (b / 2 ^ k)) (shr (by omega) (by omega)) ?_
  refine Wp_iconst (x := 1) d_M_isIn_3 (by decide) ?_
  refine Wp_iand d_M_isIn_4 ?_
  refine Wp_eqi (x2 := nI (b / 2 ^ k % 2)) (and1 (by have := Nat.div_le_self b (2 ^ k); omega)) ?_
  refine Wp_iconst (x := 1) d_M_isIn_5 (by decide) ?_
  refine Wp_icmp_ne d_M_isIn_6 (fun h6 => ?_) (fun h6 => ?_)
  ·
    have g6 : (b / 2 ^ k % 2) ≠ 1 := n_ne h6 (by omega) (by omega)
    refine Wp_iconst (x := 0) d_M_isIn_13 (by decide) ?_
    refine Wp_reti (ty := .boolean) d_M_isIn_14 rfl rfl ?_
    exact ⟨Or.inr ⟨rfl, fun q => by have := tb_div.mpr q; omega⟩, rfl⟩
  ·
    have g6 : (b / 2 ^ k % 2) = 1 := n_eq h6 (by omega) (by omega)
    refine Wp_iconst (x := 1) d_M_isIn_9 (by decide) ?_
    refine Wp_goto d_M_isIn_10 ?_
    refine Wp_reti (ty := .boolean) d_M_isIn_14 rfl rfl ?_
    exact ⟨Or.inl ⟨rfl, tb_div.mp (by omega)⟩, rfl⟩
set_option maxRecDepth 100000 in
set_option maxHeartbeats 4000000 in
theorem t_M_met (E : mE) (d : Nat) (hd : 0 ≤ d) (w : mw) (x r : Int32) (hr : -10 - x = r) : Td E d m_M_met [vr 33, vi x] w r (mU w 33 4 x) := by
  refine ⟨Nat.le_of_ble_eq_true rfl, ?_⟩
  show Wp E d m_M_met 0 [lr 33, li x] [] w _
  refine Wp_aload_n d_M_met_0 rfl ?_
  refine Wp_iload_n d_M_met_1 rfl ?_
  refine Wp_puti d_M_met_2 fp_M_92 rfl rfl rfl ?_
  refine Wp_bipush (x := (-10)) d_M_met_5 (by decide) ?_
  refine Wp_iload_n d_M_met_7 rfl ?_
  refine Wp_isub d_M_met_8 ?_
  refine Wp_reti (ty := .int) d_M_met_9 rfl rfl ?_
  exact ⟨hr, rfl⟩
def cutS (f x : Int32) : Int32 := if f = 0 then x.toInt8.toInt32 else if f = 1 then x.toInt16.toInt32 else x
set_option maxRecDepth 100000 in
set_option maxHeartbeats 4000000 in
theorem t_M_cut (E : mE) (d : Nat) (hd : 0 ≤ d) (w : mw) (f x : Int32) : Td E d m_M_cut [vi f, vi x] w (cutS f x) w := by
  refine ⟨Nat.le_of_ble_eq_true rfl, ?_⟩
  show Wp E d m_M_cut 0 [li f, li x] [] w _
  refine Wp_iload_n d_M_cut_0 rfl ?_
  refine Wp_if_ne d_M_cut_1 (fun h1 => ?_) (fun h1 => ?_)
  ·
    have g1 : f.toInt ≠ 0 := i_ne h1
    refine Wp_iload_n d_M_cut_9 rfl ?_
    refine Wp_iconst (x := 1) d_M_cut_10 (by decide) ?_
    refine Wp_icmp_ne d_M_cut_11 (fun h11 => ?_) (fun h11 => ?_)
    ·
      have g11 : f.toInt ≠ 1 := i_ne h11
      refine Wp_iload_n d_M_cut_19 rfl ?_
      refine Wp_reti (ty := .int) d_M_cut_20 rfl rfl ?_
      exact ⟨by unfold cutS; simp_all, rfl⟩
    ·
      refine Wp_iload_n d_M_cut_14 rfl ?_
      refine Wp_i2s d_M_cut_15 ?_
      refine Wp_goto d_M_cut_16 ?_
      refine Wp_reti (ty := .int) d_M_cut_20 rfl rfl ?_
      exact ⟨by unfold cutS; simp_all, rfl⟩
  ·
    refine Wp_iload_n d_M_cut_4 rfl ?_
    refine Wp_i2b d_M_cut_5 ?_
    refine Wp_goto d_M_cut_6 ?_
    refine Wp_reti (ty := .int) d_M_cut_20 rfl rfl ?_
    exact ⟨by unfold cutS; simp_all, rfl⟩
set_option maxRecDepth 100000 in
set_option maxHeartbeats 4000000 in
theorem t_M_forget (E : mE) (d : Nat) (hd : 0 ≤ d) (w : mw)  : Td E d m_M_forget [vr 33] w (w 33 28) (mU w 33 28 0) := by
  refine ⟨Nat.le_of_ble_eq_true rfl, ?_⟩
  show Wp E d m_M_forget 0 [lr 33, lo] [] w _
  refine Wp_aload_n d_M_forget_0 rfl ?_
  refine Wp_getf d_M_forget_1 fd_M_263 rfl rfl rfl ?_
  refine Wp_istore_n (ls2 := [lr 33, li (w 33 28)]) d_M_forget_4 rfl rfl rfl ?_
  refine Wp_aload_n d_M_forget_5 rfl ?_
  refine Wp_iconst (x := 0) d_M_forget_6 (by decide) ?_
  refine Wp_puti d_M_forget_7 fp_M_263 rfl rfl rfl ?_
  refine Wp_iload_n d_M_forget_10 rfl ?_
  refine Wp_reti (ty := .int) d_M_forget_11 rfl rfl ?_
  exact ⟨rfl, rfl⟩
set_option maxRecDepth 100000 in
set_option maxHeartbeats 4000000 in
theorem t_M_wipe (E : mE) (d : Nat) (hd : 0 ≤ d) (w : mw)  : Td E d m_M_wipe [vr 33] w (w 33 6) (mU w 33 6 0) := by
  refine ⟨Nat.le_of_ble_eq_true rfl, ?_⟩
  show Wp E d m_M_wipe 0 [lr 33, lo] [] w _
  refine Wp_aload_n d_M_wipe_0 rfl ?_
  refine Wp_getf d_M_wipe_1 fd_M_119 rfl rfl rfl ?_
  refine Wp_istore_n (ls2 := [lr 33, li (w 33 6)]) d_M_wipe_4 rfl rfl rfl ?_
  refine Wp_aload_n d_M_wipe_5 rfl ?_
  refine Wp_iconst (x := 0) d_M_wipe_6 (by decide) ?_
  refine Wp_puti d_M_wipe_7 fp_M_119 rfl rfl rfl ?_
  refine Wp_iload_n d_M_wipe_10 rfl ?_
  refine Wp_reti (ty := .int) d_M_wipe_11 rfl rfl ?_
  exact ⟨rfl, rfl⟩
set_option maxRecDepth 100000 in
set_option maxHeartbeats 4000000 in
theorem t_M_nobody (E : mE) (d : Nat) (hd : 0 ≤ d) (w : mw)  : Td E d m_M_nobody [vr 33] w (w 33 7) (mU w 33 8 0) := by
  refine ⟨Nat.le_of_ble_eq_true rfl, ?_⟩
  show Wp E d m_M_nobody 0 [lr 33] [] w _
  refine Wp_aload_n d_M_nobody_0 rfl ?_
  refine Wp_iconst (x := 0) d_M_nobody_1 (by decide) ?_
  refine Wp_puti d_M_nobody_2 fp_M_125 rfl rfl rfl ?_
  refine Wp_aload_n d_M_nobody_5 rfl ?_
  refine Wp_getf d_M_nobody_6 fd_M_122 rfl rfl rfl ?_
  refine Wp_reti (ty := .int) d_M_nobody_9 rfl rfl ?_
  exact ⟨rfl, rfl⟩
end
section
theorem VM_len {S : mw} (h : VM S) : S 33 6 = nI (sLen S) ∧ sLen S ≤ 40 := h.1
theorem VM_wt {S : mw} (h : VM S) : ∀ i, i < 10 → S 40 i = nI (sWt S i) ∧ sWt S i ≤ 99 := h.2.1
theorem VM_hr {S : mw} (h : VM S) : ∀ i, i < 10 → S 41 i = nI (sHr S i) ∧ sHr S i ≤ 99 := h.2.2.1
theorem VM_li {S : mw} (h : VM S) : ∀ i, i < 10 → -30 ≤ (S 42 i).toInt ∧ (S 42 i).toInt ≤ 30 := h.2.2.2.1
theorem VM_set {S : mw} (h : VM S) : (∀ i, i < 4 → S 43 i = nI (sSet S i) ∧ sSet S i ≤ sHi i) ∧ 1 ≤ sSet S 0 := h.2.2.2.2.1
theorem VM_wo {S : mw} (h : VM S) : ∀ i, i < 10 → S 44 i = nI (sWo S i) ∧ sWo S i < 1024 := h.2.2.2.2.2.1
theorem VM_mu {S : mw} (h : VM S) : ∀ i, i < 10 → S 45 i = nI (sMu S i) ∧ sMu S i < 1024 := h.2.2.2.2.2.2.1
theorem VM_sy {S : mw} (h : VM S) : (∀ i j, i < 10 → j < 10 → (sMu S i).testBit j = (sMu S j).testBit i) ∧ ∀ i, i < 10 → (sMu S i).testBit i = false := h.2.2.2.2.2.2.2.1
theorem VM_sn {S : mw} (h : VM S) : S 33 28 = nI (sSn S) ∧ sSn S ≤ 8 := h.2.2.2.2.2.2.2.2.1
theorem VM_se {S : mw} (h : VM S) : ∀ k, k < sSn S → (∃ a b, S 57 (3 * k) = nI a ∧ S 57 (3 * k + 1) = nI b ∧ a < 10 ∧ b < 10 ∧ a ≠ b) ∧ 0 ≤ (S 57 (3 * k + 2)).toInt ∧ (S 57 (3 * k + 2)).toInt ≤ 200 := h.2.2.2.2.2.2.2.2.2.1
theorem VM_fo {S : mw} (h : VM S) : ∀ s, s < 4 → -1 ≤ (S 34 s).toInt ∧ (S 34 s).toInt ≤ 2 := h.2.2.2.2.2.2.2.2.2.2.1
theorem VM_sz {S : mw} (h : VM S) : ∀ s, s < 4 → S 35 s = nI (sSz S s) ∧ sSz S s ≤ 60 := h.2.2.2.2.2.2.2.2.2.2.2
theorem mU_row {w : mw} {k j a : Nat} {x : Int32} : mU w k j x a = if a = k then upd (w k) j x else w a := rfl
theorem MM_p {w S : mw} {k j : Nat} {x : Int32} (h : MM w S) (hk : k ∈ pRows) : MM (mU w k j x) (mU S k j x) := by
  have h33 : 33 ≠ k := fun q => by subst q; exact absurd hk (by decide)
  obtain ⟨h1, h2, h3, h4⟩ := h
  refine ⟨by rw [mU_ne h33, mU_ne h33]; exact h1, by rw [mU_ne h33, mU_ne h33]; exact h2, by rw [mU_ne h33, mU_ne h33]; exact h3, fun a ha => ?_⟩
  rw [mU_row, mU_row, h4 k hk, h4 a ha]
theorem MM_f {w S : mw} {j : Nat} {x : Int32} (h : MM w S) : MM (mU w 33 j x) (mU S 33 j x) := by
  obtain ⟨h1, h2, h3, h4⟩ := h
  refine ⟨by rw [mU_k, mU_k, h1], by rw [mU_k, mU_k, h2], by rw [mU_k, mU_k, h3], fun a ha => ?_⟩
  have h33 : a ≠ 33 := fun q => by subst q; exact absurd ha (by decide)
  rw [mU_ne h33, mU_ne h33, h4 a ha]
theorem MM_s {w S : mw} {k j : Nat} {x : Int32} (h : MM w S) (hk : k ∉ pRows) (h33 : 33 ≠ k) : MM (mU w k j x) S := by
  obtain ⟨h1, h2, h3, h4⟩ := h
  refine ⟨by rw [mU_ne h33]; exact h1, by rw [mU_ne h33]; exact h2, by rw [mU_ne h33]; exact h3, fun a ha => ?_⟩
  have hak : a ≠ k := fun q => hk (by rw [← q]; exact ha)
  rw [mU_ne hak, h4 a ha]
theorem MM_sf {w S : mw} {j : Nat} {x : Int32} (h : MM w S) (hj : 4 ≠ j ∧ 6 ≠ j ∧ 28 ≠ j) : MM (mU w 33 j x) S := by
  obtain ⟨h1, h2, h3, h4⟩ := h
  refine ⟨by rw [mU_at_ne hj.1]; exact h1, by rw [mU_at_ne hj.2.1]; exact h2, by rw [mU_at_ne hj.2.2]; exact h3, fun a ha => ?_⟩
  rw [mU_ne (fun q => by subst q; exact absurd ha (by decide)), h4 a ha]
theorem MM_fr {L : List Nat} {w w1 S : mw} (h : MM w S) (hf : fr L w w1) (hL : ∀ k ∈ L, k ∉ pRows ∧ k ≠ 33) : MM w1 S := by
  obtain ⟨h1, h2, h3, h4⟩ := h
  have h33 : w1 33 = w 33 := hf 33 (fun q => (hL 33 q).2 rfl)
  exact ⟨by rw [h33]; exact h1, by rw [h33]; exact h2, by rw [h33]; exact h3, fun a ha => by rw [hf a (fun q => (hL a q).1 ha)]; exact h4 a ha⟩
def mRows : List Nat := [33, 34, 35, 36, 37, 38, 39, 40, 41, 42, 43, 44, 45, 46, 47, 48, 49, 50, 51, 52, 53, 54, 55, 56, 57, 58]
/-- what a call answers, and the state behind it -/
def oType (S : mw) (b : Int32) : Int32 × mw := if ¬ (0 ≤ b.toInt ∧ b.toInt ≤ 255) then (-2, S) else if sLen S = 40 then (-4, S) else (nI (sLen S + 1), mU (mU S 38 (sLen S) b) 33 6 (nI (sLen S + 1)))
def oWipe (S : mw) : Int32 × mw := (nI (sLen S), mU S 33 6 0)
def oPut (S : mw) (k a v : Int32) : Int32 × mw := if ¬ (0 ≤ k.toInt ∧ k.toInt ≤ 9) ∨ ¬ (0 ≤ a.toInt ∧ a.toInt ≤ 1) ∨ ¬ (0 ≤ v.toInt ∧ v.toInt ≤ 99) then (-2, S) else if a = 0 then (S 40 k.toNatClampNeg, mU S 40 k.toNatClampNeg v) else (S 41 k.toNatClampNeg, mU S 41 k.toNatClampNeg v)
def oLie (S : mw) (k v : Int32) : Int32 × mw := if ¬ (0 ≤ k.toInt ∧ k.toInt ≤ 9) ∨ ¬ (-30 ≤ v.toInt ∧ v.toInt ≤ 30) then (-1002, S) else (S 42 k.toNatClampNeg, mU S 42 k.toNatClampNeg v)
def oSet (S : mw) (a v : Int32) : Int32 × mw := if ¬ (0 ≤ a.toInt ∧ a.toInt ≤ 3) ∨ ¬ ((if a = 0 then 1 else 0) ≤ v.toInt ∧ v.toInt ≤ sHi a.toNatClampNeg) then (-2, S) else (S 43 a.toNatClampNeg, mU S 43 a.toNatClampNeg v)
def tieR (r : Nat → Int32) (a b : Nat) (v : Int32) : Nat → Int32 := upd (upd r a ((r a &&& ((1 <<< (nI b &&& 31)) ^^^ (-1))) ||| (v <<< (nI b &&& 31)))) b ((upd r a ((r a &&& ((1 <<< (nI b &&& 31)) ^^^ (-1))) ||| (v <<< (nI b &&& 31))) b &&& ((1 <<< (nI a &&& 31)) ^^^ (-1))) ||| (v <<< (nI a &&& 31)))
def tieA (r : Nat → Int32) (a b : Nat) : Int32 := (r a >>> (nI b &&& 31)) &&& 1
def oPair (S : mw) (k a b v : Int32) : Int32 × mw := if ¬ (0 ≤ k.toInt ∧ k.toInt ≤ 1) ∨ ¬ (0 ≤ a.toInt ∧ a.toInt ≤ 9) ∨ ¬ (0 ≤ b.toInt ∧ b.toInt ≤ 9) ∨ a.toInt = b.toInt ∨ ¬ (0 ≤ v.toInt ∧ v.toInt ≤ 1) then (-2, S) else if k = 0 then (tieA (S 44) a.toNatClampNeg b.toNatClampNeg, mUr S 44 (tieR (S 44) a.toNatClampNeg b.toNatClampNeg v)) else (tieA (S 45) a.toNatClampNeg b.toNatClampNeg, mUr S 45 (tieR (S 45) a.toNatClampNeg b.toNatClampNeg v))
def oSeen (S : mw) (a b f : Int32) : Int32 × mw := if ¬ (0 ≤ a.toInt ∧ a.toInt ≤ 9) ∨ ¬ (0 ≤ b.toInt ∧ b.toInt ≤ 9) ∨ a.toInt = b.toInt ∨ ¬ (0 ≤ f.toInt ∧ f.toInt ≤ 200) then (-2, S) else if sSn S = 8 then (-4, S) else (nI (sSn S + 1), mU (mU (mU (mU S 57 (3 * sSn S) a) 57 (3 * sSn S + 1) b) 57 (3 * sSn S + 2) f) 33 28 (nI (sSn S + 1)))
def oForget (S : mw) : Int32 × mw := (S 33 28, mU S 33 28 0)
def shOk (s : Int32) : Prop := 0 ≤ s.toInt ∧ s.toInt ≤ 3
def clr (r : Nat → Int32) (s n : Nat) : Nat → Int32 := fun j => if 60 * s ≤ j ∧ j < 60 * s + n then 0 else r j
def oSheet (S : mw) (s f n : Int32) : Int32 × mw := if ¬ (0 ≤ s.toInt ∧ s.toInt ≤ 3) ∨ ¬ (0 ≤ f.toInt ∧ f.toInt ≤ 2) ∨ 60 < n.toInt then (-2, S) else if n.toInt < 0 then (-15, mU S 33 4 5) else (n, mUr (mU (mU S 34 s.toNatClampNeg f) 35 s.toNatClampNeg n) 36 (clr (S 36) s.toNatClampNeg n.toNatClampNeg))
def oLose (S : mw) (s : Int32) : Int32 × mw := if ¬ (0 ≤ s.toInt ∧ s.toInt ≤ 3) then (-2, S) else if (S 34 s.toNatClampNeg).toInt < 0 then (-11, mU S 33 4 1) else (S 35 s.toNatClampNeg, mU S 34 s.toNatClampNeg (-1))
/-- what a sheet's item is refused with: 0 NULL 1, CAST 3, INDEX 2 -/
def lckS (S : mw) (s : Nat) (f i : Int32) : Int32 := if (S 34 s).toInt < 0 then 1 else if S 34 s ≠ f then 3 else if 0 ≤ i.toInt ∧ i.toInt < sSz S s then 0 else 2
def oLay (S : mw) (s f i v : Int32) : Int32 × mw := if ¬ (0 ≤ s.toInt ∧ s.toInt ≤ 3) ∨ ¬ (0 ≤ f.toInt ∧ f.toInt ≤ 2) then (-2, S) else if lckS S s.toNatClampNeg f i ≠ 0 then (-10 - lckS S s.toNatClampNeg f i, mU S 33 4 (lckS S s.toNatClampNeg f i)) else (1, mU S 36 (60 * s.toNatClampNeg + i.toNatClampNeg) (cutS f v))
def oGet (S : mw) (s f i : Int32) : Int32 × mw := if ¬ (0 ≤ s.toInt ∧ s.toInt ≤ 3) ∨ ¬ (0 ≤ f.toInt ∧ f.toInt ≤ 2) then (-2147483648, S) else if lckS S s.toNatClampNeg f i ≠ 0 then (-2147483648, mU S 33 4 (lckS S s.toNatClampNeg f i)) else (S 36 (60 * s.toNatClampNeg + i.toNatClampNeg), S)
def oCopy (S : mw) (s i t j n : Int32) : Int32 × mw := if ¬ (0 ≤ s.toInt ∧ s.toInt ≤ 3) ∨ ¬ (0 ≤ t.toInt ∧ t.toInt ≤ 3) then (-2, S) else if (S 34 s.toNatClampNeg).toInt < 0 ∨ (S 34 t.toNatClampNeg).toInt < 0 then (-11, mU S 33 4 1) else if S 34 s.toNatClampNeg ≠ S 34 t.toNatClampNeg then (-14, mU S 33 4 4) else if i.toInt < 0 ∨ j.toInt < 0 ∨ n.toInt < 0 ∨ sSz S s.toNatClampNeg < i.toInt + n.toInt ∨ sSz S t.toNatClampNeg < j.toInt + n.toInt then (-12, mU S 33 4 2) else (1, mUr S 36 (va_cpy (S 36) (S 36) (60 * s.toNatClampNeg + i.toNatClampNeg) (60 * t.toNatClampNeg + j.toNatClampNeg) n.toNatClampNeg))
def itOk (x : Int32) : Bool := decide (0 ≤ x.toInt ∧ x.toInt ≤ 99)
def rdn (S : mw) (s : Nat) : Nat → Nat
  | 0 => 0
  | k + 1 => if rdn S s k = k ∧ k < sSz S s ∧ itOk (S 36 (60 * s + k)) = true then k + 1 else rdn S s k
def rdr (S : mw) (s n : Nat) : Nat → Int32 := fun j => if j < n then S 36 (60 * s + j) else S 40 j
def oRead (S : mw) (s : Int32) : Int32 × mw := if ¬ (0 ≤ s.toInt ∧ s.toInt ≤ 3) then (-2, S) else if (S 34 s.toNatClampNeg).toInt < 0 then (-11, mU S 33 4 1) else (nI (rdn S s.toNatClampNeg 10), mUr S 40 (rdr S s.toNatClampNeg (rdn S s.toNatClampNeg 10)))
theorem sh_of {s : Int32} (h : 0 ≤ s.toInt ∧ s.toInt ≤ 3) : ∃ j, j < 4 ∧ s = nI j := i_nIof h.1 (by omega)
theorem nu_of {s : Int32} (h : 0 ≤ s.toInt ∧ s.toInt ≤ 9) : ∃ j, j < 10 ∧ s = nI j := i_nIof h.1 (by omega)
theorem cl {j : Nat} (h : j < 2147483648) : (nI j).toNatClampNeg = j := nI_clamp h
theorem ti {j : Nat} (h : j < 2147483648) : (nI j).toInt = (j : Int) := nI_toInt h
theorem mUr_mUr {w : mw} {k : Nat} {f g : Nat → Int32} : mUr (mUr w k f) k g = mUr w k g := by
  funext a; unfold mUr; split <;> rfl
theorem MM_pr {w S : mw} {k : Nat} {f : Nat → Int32} (h : MM w S) (hk : k ∈ pRows) : MM (mUr w k f) (mUr S k f) := by
  have h33 : 33 ≠ k := fun q => by subst q; exact absurd hk (by decide)
  obtain ⟨h1, h2, h3, h4⟩ := h
  refine ⟨by rw [mUr_ne h33, mUr_ne h33]; exact h1, by rw [mUr_ne h33, mUr_ne h33]; exact h2, by rw [mUr_ne h33, mUr_ne h33]; exact h3, fun a ha => ?_⟩
  unfold mUr
  rw [h4 a ha]
theorem fr_Ur {L : List Nat} {w : mw} {k : Nat} {f : Nat → Int32} (h : k ∈ L) : fr L w (mUr w k f) := fun a ha => mUr_ne (fun q => ha (q ▸ h))
theorem fr_U2 {L : List Nat} {w w1 : mw} {k j : Nat} {x : Int32} (h0 : fr L w w1) (h : k ∈ L) : fr L w (mU w1 k j x) := fr_tr h0 (fr_U h)
theorem fr_Ur2 {L : List Nat} {w w1 : mw} {k : Nat} {f : Nat → Int32} (h0 : fr L w w1) (h : k ∈ L) : fr L w (mUr w1 k f) := fr_tr h0 (fr_Ur h)
theorem four {a : Int32} (h : 0 ≤ a.toInt ∧ a.toInt ≤ 3) : a = 0 ∨ a = 1 ∨ a = 2 ∨ a = 3 := by
  obtain ⟨j, hj, rfl⟩ := sh_of h
  rcases (show j = 0 ∨ j = 1 ∨ j = 2 ∨ j = 3 by omega) with rfl | rfl | rfl | rfl
  · exact Or.inl rfl
  · exact Or.inr (Or.inl rfl)
  · exact Or.inr (Or.inr (Or.inl rfl))
  · exact Or.inr (Or.inr (Or.inr rfl))
theorem Wp_mi {E : mE} {d : Nat} {y : mM} {pc : Nat} {ls : List (Option mv)} {st : List mv} {w : mw} {P P2 : Int32 → mw → Prop} (k : Wp E d y pc ls st w (mPi P)) (h : ∀ r w1, P r w1 → P2 r w1) : Wp E d y pc ls st w (mPi P2) :=
  Wp_mono (fun v w1 q => by obtain ⟨r, hr, q⟩ := q; exact ⟨r, hr, h r w1 q⟩) k
theorem Wp_ml {E : mE} {d : Nat} {y : mM} {pc : Nat} {ls : List (Option mv)} {st : List mv} {w : mw} {P P2 : Int64 → mw → Prop} (k : Wp E d y pc ls st w (mPl P)) (h : ∀ r w1, P r w1 → P2 r w1) : Wp E d y pc ls st w (mPl P2) :=
  Wp_mono (fun v w1 q => by obtain ⟨r, hr, q⟩ := q; exact ⟨r, hr, h r w1 q⟩) k
theorem Wp_mv {E : mE} {d : Nat} {y : mM} {pc : Nat} {ls : List (Option mv)} {st : List mv} {w : mw} {P P2 : mw → Prop} (k : Wp E d y pc ls st w (mPv P)) (h : ∀ w1, P w1 → P2 w1) : Wp E d y pc ls st w (mPv P2) :=
  Wp_mono (fun v w1 q => ⟨q.1, h w1 q.2⟩) k
theorem Tr_mi {E : mE} {d : Nat} {y : mM} {As : List mv} {w : mw} {P P2 : Int32 → mw → Prop} (k : Ti E d y As w P) (h : ∀ r w1, P r w1 → P2 r w1) : Ti E d y As w P2 := ⟨k.1, Wp_mi k.2 h⟩
theorem Tr_ml {E : mE} {d : Nat} {y : mM} {As : List mv} {w : mw} {P P2 : Int64 → mw → Prop} (k : Tl E d y As w P) (h : ∀ r w1, P r w1 → P2 r w1) : Tl E d y As w P2 := ⟨k.1, Wp_ml k.2 h⟩
theorem Tr_mv {E : mE} {d : Nat} {y : mM} {As : List mv} {w : mw} {P P2 : mw → Prop} (k : Tv E d y As w P) (h : ∀ w1, P w1 → P2 w1) : Tv E d y As w P2 := ⟨k.1, Wp_mv k.2 h⟩
def clrF (r : Nat → Int32) (a b : Nat) : Nat → Int32 := fun j => if a ≤ j ∧ j < b then 0 else r j
theorem clrF_e {r : Nat → Int32} {a : Nat} : clrF r a a = r := by
  funext j; unfold clrF; rw [if_neg (by omega)]
theorem clrF_s {r : Nat → Int32} {a b : Nat} (h : a < b) : clrF (upd r a 0) (a + 1) b = clrF r a b := by
  funext j; unfold clrF upd
  by_cases h1 : j = a
  · subst h1; rw [if_neg (by omega), if_pos rfl, if_pos (by omega)]
  · by_cases h2 : a ≤ j ∧ j < b
    · rw [if_pos (by omega), if_pos h2]
    · rw [if_neg (by omega), if_neg h1, if_neg h2]
theorem mUr_self {w : mw} {k : Nat} : mUr w k (w k) = w := by
  funext a; unfold mUr; split
  · next h => rw [h]
  · rfl
theorem clr_F {r : Nat → Int32} {s n : Nat} : clr r s n = clrF r (60 * s) (60 * s + n) := rfl
def cpF (f g : Nat → Int32) (a b i n : Nat) : Nat → Int32 := fun j => if b + i ≤ j ∧ j < b + n then f (a + (j - b)) else g j
theorem cpF_e {f g : Nat → Int32} {a b n : Nat} : cpF f g a b n n = g := by
  funext j; unfold cpF; rw [if_neg (by omega)]
theorem cpF_s {f g : Nat → Int32} {a b i n : Nat} (h : i < n) : cpF f (upd g (b + i) (f (a + i))) a b (i + 1) n = cpF f g a b i n := by
  funext j; unfold cpF upd
  by_cases h1 : j = b + i
  · subst h1; rw [if_neg (by omega), if_pos rfl, if_pos (by omega)]; congr 1; omega
  · by_cases h2 : b + i ≤ j ∧ j < b + n
    · rw [if_pos (by omega), if_pos h2]
    · rw [if_neg (by omega), if_neg h1, if_neg h2]
theorem cpF_cpy {f : Nat → Int32} {g : Nat → Int32} {a b n : Nat} : cpF f g a b 0 n = va_cpy f g a b n := by
  funext j; unfold cpF va_cpy; simp
/-- copying by way of another row is copying -/
theorem cpF_two {f m : Nat → Int32} {a b n : Nat} : cpF (cpF f m a 0 0 n) f 0 b 0 n = va_cpy f f a b n := by
  funext j; unfold cpF va_cpy
  by_cases h2 : b ≤ j ∧ j < b + n
  · rw [if_pos (by omega), if_pos (by omega), if_pos h2]; congr 1; omega
  · rw [if_neg (by omega), if_neg h2]
theorem lg_cmp_add {x y : Int32} (hx : 0 ≤ x.toInt) (hy : 0 ≤ y.toInt) : (x.toInt64 + y.toInt64).toInt = x.toInt + y.toInt := by
  have h1 := Int32.toInt_lt x
  have h2 := Int32.toInt_lt y
  rw [Int64.toInt_add, Int32.toInt_toInt64, Int32.toInt_toInt64]
  apply Int.bmod_eq_of_le <;> omega
theorem MM_sr {w S : mw} {k : Nat} {f : Nat → Int32} (h : MM w S) (hk : k ∉ pRows) (h33 : 33 ≠ k) : MM (mUr w k f) S := by
  obtain ⟨h1, h2, h3, h4⟩ := h
  refine ⟨by rw [mUr_ne h33]; exact h1, by rw [mUr_ne h33]; exact h2, by rw [mUr_ne h33]; exact h3, fun a ha => ?_⟩
  have hak : a ≠ k := fun q => hk (by rw [← q]; exact ha)
  rw [mUr_ne hak, h4 a ha]
theorem rdn_le {S : mw} {s : Nat} : ∀ k, rdn S s k ≤ k
  | 0 => Nat.le_refl _
  | k + 1 => by
    unfold rdn
    split
    · exact Nat.le_refl _
    · have := rdn_le (S := S) (s := s) k; omega
theorem rdn_stop {S : mw} {s n : Nat} (h : rdn S s n = n) (hs : ¬ (n < sSz S s ∧ itOk (S 36 (60 * s + n)) = true)) : ∀ k, rdn S s (n + k) = n
  | 0 => h
  | k + 1 => by
    have ih := rdn_stop h hs k
    show rdn S s (n + k + 1) = n
    unfold rdn
    rw [ih, if_neg]
    intro q
    have : n = n + k := q.1
    rw [← this] at q
    exact hs q.2
theorem rdn_go {S : mw} {s n : Nat} (h : rdn S s n = n) (hs : n < sSz S s ∧ itOk (S 36 (60 * s + n)) = true) : rdn S s (n + 1) = n + 1 := by
  unfold rdn; rw [if_pos ⟨h, hs⟩]
theorem rdr_s {S : mw} {s n : Nat} : upd (rdr S s n) n (S 36 (60 * s + n)) = rdr S s (n + 1) := by
  funext j; unfold rdr upd
  by_cases h1 : j = n
  · subst h1; rw [if_pos rfl, if_pos (by omega)]
  · by_cases h2 : j < n
    · rw [if_neg h1]; simp only []; rw [if_pos h2, if_pos (by omega)]
    · rw [if_neg h1]; simp only []; rw [if_neg h2, if_neg (by omega)]
theorem rdr_0 {S : mw} {s : Nat} : rdr S s 0 = S 40 := by
  funext j; unfold rdr; rw [if_neg (by omega)]
theorem mU_mU {w : mw} {k j : Nat} {x z : Int32} : mU (mU w k j x) k j z = mU w k j z := by
  unfold mU
  rw [mUr_eq, mUr_mUr]
  congr 1
  funext i; unfold upd; split <;> rfl
theorem mU_same {w : mw} {k j : Nat} {x : Int32} (h : w k j = x) : mU w k j x = w := by
  funext a i
  rw [mU_row]
  split
  · next h1 => subst h1; unfold upd; split
               · next h2 => subst h2; exact h.symm
               · rfl
  · rfl
theorem efr_ge {t : Nat → Int32} {n : Nat} : ∀ (k e : Nat), e ≤ efr t n e k ∧ efr t n e k ≤ e + k ∧ (e ≤ n → efr t n e k ≤ n)
  | 0, e => ⟨Nat.le_refl _, Nat.le_refl _, fun h => h⟩
  | k + 1, e => by
    unfold efr
    split
    · next h => have := efr_ge (t := t) (n := n) k (e + 1); exact ⟨by omega, by omega, fun _ => this.2.2 (by omega)⟩
    · exact ⟨Nat.le_refl _, by omega, fun h => h⟩
theorem efr_dig {t : Nat → Int32} {n : Nat} : ∀ (k e j : Nat), e ≤ j → j < efr t n e k → dig (t j) = true
  | 0, e, j, h1, h2 => by unfold efr at h2; omega
  | k + 1, e, j, h1, h2 => by
    unfold efr at h2
    split at h2
    · next h =>
      by_cases hj : j = e
      · subst hj; exact h.2
      · exact efr_dig k (e + 1) j (by omega) h2
    · omega
theorem dig_of {x : Int32} (h : dig x = true) : 48 ≤ x.toInt ∧ x.toInt ≤ 57 := of_decide_eq_true h
theorem agv_lt {t : Nat → Int32} {e : Nat} : ∀ k, (∀ j, e ≤ j → j < e + k → dig (t j) = true) → agv t e k < 10 ^ k
  | 0, _ => by show 0 < 1; decide
  | k + 1, h => by
    have ih := agv_lt (t := t) (e := e) k (fun j h1 h2 => h j h1 (by omega))
    have h1 := dig_of (h (e + k) (by omega) (by omega))
    unfold agv
    rw [Nat.pow_succ]
    omega
theorem pAge_lt {t : Nat → Int32} {n r : Nat} : pAge t n r < 1000 := by
  have h1 := efr_ge (t := t) (n := n) 3 (pos t n r)
  have h2 := agv_lt (t := t) (e := pos t n r) (pEnd t n r - pos t n r) (fun j h3 h4 => efr_dig (n := n) 3 (pos t n r) j h3 (by unfold pEnd at h4; omega))
  have h3 : 10 ^ (pEnd t n r - pos t n r) ≤ 10 ^ 3 := Nat.pow_le_pow_right (by omega) (by unfold pEnd; omega)
  unfold pAge
  omega
theorem pgo_ok {t : Nat → Int32} {n : Nat} : ∀ f r, r + f = 10 → (∀ i, i < r → pAge t n i ≤ 120) → (pgo t n f r).2 ≤ 10 ∧ ∀ i, i < (pgo t n f r).2 → pAge t n i ≤ 120
  | 0, r, _, _ => ⟨Nat.zero_le _, fun i h => absurd h (Nat.not_lt_zero _)⟩
  | f + 1, r, hr, hi => by
    unfold pgo
    split
    · exact ⟨Nat.zero_le _, fun i h => absurd h (Nat.not_lt_zero _)⟩
    · next h =>
      have h0 : ∀ i, i < r + 1 → pAge t n i ≤ 120 := fun i q => by
        by_cases hir : i = r
        · subst hir; omega
        · exact hi i (by omega)
      split
      · exact ⟨by show r + 1 ≤ 10; omega, h0⟩
      · split
        · exact pgo_ok f (r + 1) (by omega) h0
        · exact ⟨Nat.zero_le _, fun i h => absurd h (Nat.not_lt_zero _)⟩
theorem pN_ok (S : mw) : pN S ≤ 10 ∧ ∀ i, i < pN S → pA S i ≤ 120 := by
  unfold pN pA pres
  split
  · exact ⟨Nat.zero_le _, fun i h => absurd h (Nat.not_lt_zero _)⟩
  · exact pgo_ok 10 0 rfl (fun i h => absurd h (Nat.not_lt_zero _))
def frF (w w1 : mw) : Prop := fr [33, 39] w w1 ∧ ∀ j, j ≠ 7 → j ≠ 8 → w1 33 j = w 33 j
theorem frF_MM {w w1 S : mw} (h : MM w S) (hf : frF w w1) : MM w1 S := by
  obtain ⟨h1, h2, h3, h4⟩ := h
  refine ⟨by rw [hf.2 4 (by decide) (by decide)]; exact h1, by rw [hf.2 6 (by decide) (by decide)]; exact h2, by rw [hf.2 28 (by decide) (by decide)]; exact h3, fun a ha => ?_⟩
  rw [hf.1 a (fun q => by
    have : a = 33 ∨ a = 39 := by simpa using q
    rcases this with rfl | rfl <;> exact absurd ha (by decide))]
  exact h4 a ha
theorem frF_rf {w : mw} : frF w w := ⟨fr_rf, fun _ _ _ => rfl⟩
theorem frF_tr {w w1 w2 : mw} (h : frF w w1) (h2 : frF w1 w2) : frF w w2 := ⟨fr_tr h.1 h2.1, fun j h7 h8 => (h2.2 j h7 h8).trans (h.2 j h7 h8)⟩
theorem frF_7 {w : mw} {x : Int32} : frF w (mU w 33 7 x) := ⟨fr_U (by decide), fun j h7 _ => mU_at_ne h7⟩
theorem frF_8 {w : mw} {x : Int32} : frF w (mU w 33 8 x) := ⟨fr_U (by decide), fun j _ h8 => mU_at_ne h8⟩
theorem frF_a {w : mw} {j : Nat} {x : Int32} : frF w (mU w 39 j x) := ⟨fr_U (by decide), fun _ _ _ => by rw [mU_ne (by decide)]⟩
end
section
set_option maxRecDepth 100000 in
set_option maxHeartbeats 4000000 in
theorem t_M_type (E : mE) (d : Nat) (hd : 1 ≤ d) (w : mw) (S : mw) (hM : MM w S) (hV : VM S) (b : Int32) : Ti E d m_M_type [vr 33, vi b] w (fun r w1 => r = (oType S b).1 ∧ MM w1 (oType S b).2 ∧ fr mRows w w1) := by
  refine ⟨Nat.le_of_ble_eq_true rfl, ?_⟩
  show Wp E d m_M_type 0 [lr 33, li b] [] w _
  have hlen := (VM_len hV).2
  refine Wp_iload_n d_M_type_0 rfl ?_
  refine Wp_i2l d_M_type_1 ?_
  refine Wp_lconst (x := 0) d_M_type_2 (by decide) ?_
  refine Wp_ldc2 (x := 255) d_M_type_3 kl_M_117 ?_
  refine Wp_ivs_b (As := [vl b.toInt64, vl 0, vl 255]) d_M_type_6 ln_M_88 mk_M_in rfl rfl rfl (by omega) (t_M_inI E (d - 1) w (x := b) (lo := 0) (hi := 255) (by decide) (by decide)) (fun g6 => ?_) (fun g6 => ?_)
  ·
    refine Wp_if_ne d_M_type_9 (fun _ => ?_) (fun q => absurd q (by decide))
    refine Wp_aload_n d_M_type_15 rfl ?_
    refine Wp_getf d_M_type_16 fd_M_119 rfl rfl rfl ?_
    refine Wp_eqi (x2 := S 33 6) hM.2.1 ?_
    refine Wp_eqi (x2 := nI (sLen S)) (VM_len hV).1 ?_
    refine Wp_bipush (x := 40) d_M_type_19 (by decide) ?_
    refine Wp_icmp_ne d_M_type_21 (fun h21 => ?_) (fun h21 => ?_)
    ·
      have g21 : (sLen S) ≠ 40 := n_ne h21 (by omega) (by omega)
      refine Wp_aload_n d_M_type_27 rfl ?_
      refine Wp_getr d_M_type_28 fd_M_22 rfl rfl rfl ?_
      refine Wp_aload_n d_M_type_31 rfl ?_
      refine Wp_getf d_M_type_32 fd_M_119 rfl rfl rfl ?_
      refine Wp_eqi (x2 := S 33 6) hM.2.1 ?_
      refine Wp_eqi (x2 := nI (sLen S)) (VM_len hV).1 ?_
      refine Wp_iload_n d_M_type_35 rfl ?_
      refine Wp_iastN (j := (sLen S)) d_M_type_36 rfl rfl rfl rfl (by omega) ?_
      refine Wp_aload_n d_M_type_37 rfl ?_
      refine Wp_dup d_M_type_38 rfl ?_
      refine Wp_getf d_M_type_39 fd_M_119 rfl rfl rfl ?_
      refine Wp_eqi (x2 := w 33 6) (by simp [mU, mUr, upd]) ?_
      refine Wp_eqi (x2 := S 33 6) hM.2.1 ?_
      refine Wp_eqi (x2 := nI (sLen S)) (VM_len hV).1 ?_
      refine Wp_iconst (x := 1) d_M_type_42 (by decide) ?_
      refine Wp_iadd d_M_type_43 ?_
      refine Wp_eqi (x2 := nI ((sLen S) + 1)) (nI_add (sLen S) 1) ?_
      refine Wp_puti d_M_type_44 fp_M_119 rfl rfl rfl ?_
      refine Wp_aload_n d_M_type_47 rfl ?_
      refine Wp_getf d_M_type_48 fd_M_119 rfl rfl rfl ?_
      refine Wp_eqi (x2 := nI ((sLen S) + 1)) (by simp [mU, mUr, upd]) ?_
      refine Wp_reti (ty := .int) d_M_type_51 rfl rfl ?_
      have e9 : oType S b = (nI (sLen S + 1), mU (mU S 38 (sLen S) b) 33 6 (nI (sLen S + 1))) := by unfold oType; rw [if_neg (by omega), if_neg (by omega)]
      rw [e9]; exact ⟨rfl, MM_f (MM_p hM (by decide)), fr_tr (fr_U (by decide)) (fr_U (by decide))⟩
    ·
      have g21 : (sLen S) = 40 := n_eq h21 (by omega) (by omega)
      refine Wp_bipush (x := (-4)) d_M_type_24 (by decide) ?_
      refine Wp_reti (ty := .int) d_M_type_26 rfl rfl ?_
      have e9 : oType S b = (-4, S) := by unfold oType; rw [if_neg (by omega), if_pos (by omega)]
      rw [e9]; exact ⟨rfl, hM, fr_rf⟩
  ·
    refine Wp_if_ne d_M_type_9 (fun q => absurd q (by decide)) (fun _ => ?_)
    refine Wp_bipush (x := (-2)) d_M_type_12 (by decide) ?_
    refine Wp_reti (ty := .int) d_M_type_14 rfl rfl ?_
    have e9 : oType S b = (-2, S) := by unfold oType; rw [if_pos (by omega)]
    rw [e9]; exact ⟨rfl, hM, fr_rf⟩
theorem t_M_wipe2 (E : mE) (d : Nat) (w S : mw) (hM : MM w S) (hV : VM S) : Ti E d m_M_wipe [vr 33] w (fun r w1 => r = (oWipe S).1 ∧ MM w1 (oWipe S).2 ∧ fr mRows w w1) := by
  have h1 := t_M_wipe E d (Nat.zero_le _) w
  rw [hM.2.1, (VM_len hV).1] at h1
  exact ⟨h1.1, Wp_mono (fun v w1 h => by obtain ⟨r, hr, h2, rfl⟩ := h; exact ⟨r, hr, h2, MM_f hM, fr_U (by decide)⟩) h1.2⟩
theorem t_M_forget2 (E : mE) (d : Nat) (w S : mw) (hM : MM w S) (hV : VM S) : Ti E d m_M_forget [vr 33] w (fun r w1 => r = (oForget S).1 ∧ MM w1 (oForget S).2 ∧ fr mRows w w1) := by
  have h1 := t_M_forget E d (Nat.zero_le _) w
  rw [hM.2.2.1] at h1
  exact ⟨h1.1, Wp_mono (fun v w1 h => by obtain ⟨r, hr, h2, rfl⟩ := h; exact ⟨r, hr, h2, MM_f hM, fr_U (by decide)⟩) h1.2⟩
set_option maxRecDepth 100000 in
set_option maxHeartbeats 4000000 in
theorem t_M_put (E : mE) (d : Nat) (hd : 2 ≤ d) (w : mw) (S : mw) (hM : MM w S) (k a v : Int32) : Ti E d m_M_put [vr 33, vi k, vi a, vi v] w (fun r w1 => r = (oPut S k a v).1 ∧ MM w1 (oPut S k a v).2 ∧ fr mRows w w1) := by
  refine ⟨Nat.le_of_ble_eq_true rfl, ?_⟩
  show Wp E d m_M_put 0 [lr 33, li k, li a, li v, lo] [] w _
  refine Wp_iload_n d_M_put_0 rfl ?_
  refine Wp_ivs_b (As := [vi k]) d_M_put_1 ln_M_157 mk_M_isNumber rfl rfl rfl (by omega) (t_M_isNumber E (d - 1) (by omega) w k) (fun g1 => ?_) (fun g1 => ?_)
  ·
    obtain ⟨k1, h_k1, rfl⟩ := nu_of g1
    refine Wp_if_eq d_M_put_4 (fun q => absurd q (by decide)) (fun _ => ?_)
    refine Wp_iload_n d_M_put_7 rfl ?_
    refine Wp_ivs_b (As := [vi a]) d_M_put_8 ln_M_151 mk_M_isTwo rfl rfl rfl (by omega) (t_M_isTwo E (d - 1) (by omega) w a) (fun g8 => ?_) (fun g8 => ?_)
    ·
      refine Wp_if_eq d_M_put_11 (fun q => absurd q (by decide)) (fun _ => ?_)
      refine Wp_iload_n d_M_put_14 rfl ?_
      refine Wp_i2l d_M_put_15 ?_
      refine Wp_lconst (x := 0) d_M_put_16 (by decide) ?_
      refine Wp_ldc2 (x := 99) d_M_put_17 kl_M_160 ?_
      refine Wp_ivs_b (As := [vl v.toInt64, vl 0, vl 99]) d_M_put_20 ln_M_88 mk_M_in rfl rfl rfl (by omega) (t_M_inI E (d - 1) w (x := v) (lo := 0) (hi := 99) (by decide) (by decide)) (fun g20 => ?_) (fun g20 => ?_)
      ·
        refine Wp_if_ne d_M_put_23 (fun _ => ?_) (fun q => absurd q (by decide))
        refine Wp_iload_n d_M_put_29 rfl ?_
        refine Wp_if_ne d_M_put_30 (fun h30 => ?_) (fun h30 => ?_)
        ·
          have g30 : a.toInt ≠ 0 := i_ne h30
          refine Wp_aload_n d_M_put_42 rfl ?_
          refine Wp_getr d_M_put_43 fd_M_31 rfl rfl rfl ?_
          refine Wp_iload_n d_M_put_46 rfl ?_
          refine Wp_ialdN (j := k1) d_M_put_47 rfl rfl rfl rfl (by omega) ?_
          refine Wp_eqi (x2 := S 41 k1) (congrFun (hM.r 41) _) ?_
          refine Wp_istore (ls2 := [lr 33, li (nI k1), li a, li v, li (S 41 k1)]) d_M_put_48 rfl rfl rfl ?_
          refine Wp_iload_n d_M_put_50 rfl ?_
          refine Wp_if_ne d_M_put_51 (fun _ => ?_) (fun q => absurd q h30)
          refine Wp_aload_n d_M_put_64 rfl ?_
          refine Wp_getr d_M_put_65 fd_M_31 rfl rfl rfl ?_
          refine Wp_iload_n d_M_put_68 rfl ?_
          refine Wp_iload_n d_M_put_69 rfl ?_
          refine Wp_iastN (j := k1) d_M_put_70 rfl rfl rfl rfl (by omega) ?_
          refine Wp_iload d_M_put_71 rfl ?_
          refine Wp_reti (ty := .int) d_M_put_73 rfl rfl ?_
          have e9 : oPut S (nI k1) a v = (S 41 k1, mU S 41 k1 v) := by unfold oPut; rw [if_neg (by have := ti (show k1 < 2147483648 by omega); omega), if_neg (by assumption), cl (by omega)]
          rw [e9]; exact ⟨rfl, MM_p hM (by decide), fr_U (by decide)⟩
        ·
          refine Wp_aload_n d_M_put_33 rfl ?_
          refine Wp_getr d_M_put_34 fd_M_28 rfl rfl rfl ?_
          refine Wp_iload_n d_M_put_37 rfl ?_
          refine Wp_ialdN (j := k1) d_M_put_38 rfl rfl rfl rfl (by omega) ?_
          refine Wp_eqi (x2 := S 40 k1) (congrFun (hM.r 40) _) ?_
          refine Wp_goto d_M_put_39 ?_
          refine Wp_istore (ls2 := [lr 33, li (nI k1), li a, li v, li (S 40 k1)]) d_M_put_48 rfl rfl rfl ?_
          refine Wp_iload_n d_M_put_50 rfl ?_
          refine Wp_if_ne d_M_put_51 (fun q => absurd h30 q) (fun _ => ?_)
          refine Wp_aload_n d_M_put_54 rfl ?_
          refine Wp_getr d_M_put_55 fd_M_28 rfl rfl rfl ?_
          refine Wp_iload_n d_M_put_58 rfl ?_
          refine Wp_iload_n d_M_put_59 rfl ?_
          refine Wp_iastN (j := k1) d_M_put_60 rfl rfl rfl rfl (by omega) ?_
          refine Wp_goto d_M_put_61 ?_
          refine Wp_iload d_M_put_71 rfl ?_
          refine Wp_reti (ty := .int) d_M_put_73 rfl rfl ?_
          have e9 : oPut S (nI k1) a v = (S 40 k1, mU S 40 k1 v) := by unfold oPut; rw [if_neg (by have := ti (show k1 < 2147483648 by omega); omega), if_pos (by assumption), cl (by omega)]
          rw [e9]; exact ⟨rfl, MM_p hM (by decide), fr_U (by decide)⟩
      ·
        refine Wp_if_ne d_M_put_23 (fun q => absurd q (by decide)) (fun _ => ?_)
        refine Wp_bipush (x := (-2)) d_M_put_26 (by decide) ?_
        refine Wp_reti (ty := .int) d_M_put_28 rfl rfl ?_
        have e9 : oPut S (nI k1) a v = (-2, S) := by unfold oPut; rw [if_pos (by omega)]
        rw [e9]; exact ⟨rfl, hM, fr_rf⟩
    ·
      refine Wp_if_eq d_M_put_11 (fun _ => ?_) (fun q => absurd (by decide) q)
      refine Wp_bipush (x := (-2)) d_M_put_26 (by decide) ?_
      refine Wp_reti (ty := .int) d_M_put_28 rfl rfl ?_
      have e9 : oPut S (nI k1) a v = (-2, S) := by unfold oPut; rw [if_pos (by omega)]
      rw [e9]; exact ⟨rfl, hM, fr_rf⟩
  ·
    refine Wp_if_eq d_M_put_4 (fun _ => ?_) (fun q => absurd (by decide) q)
    refine Wp_bipush (x := (-2)) d_M_put_26 (by decide) ?_
    refine Wp_reti (ty := .int) d_M_put_28 rfl rfl ?_
    have e9 : oPut S k a v = (-2, S) := by unfold oPut; rw [if_pos (by omega)]
    rw [e9]; exact ⟨rfl, hM, fr_rf⟩
set_option maxRecDepth 100000 in
set_option maxHeartbeats 4000000 in
theorem t_M_lie (E : mE) (d : Nat) (hd : 2 ≤ d) (w : mw) (S : mw) (hM : MM w S) (hV : VM S) (k v : Int32) : Ti E d m_M_lie [vr 33, vi k, vi v] w (fun r w1 => r = (oLie S k v).1 ∧ MM w1 (oLie S k v).2 ∧ fr mRows w w1) := by
  refine ⟨Nat.le_of_ble_eq_true rfl, ?_⟩
  show Wp E d m_M_lie 0 [lr 33, li k, li v, lo] [] w _
  refine Wp_iload_n d_M_lie_0 rfl ?_
  refine Wp_ivs_b (As := [vi k]) d_M_lie_1 ln_M_157 mk_M_isNumber rfl rfl rfl (by omega) (t_M_isNumber E (d - 1) (by omega) w k) (fun g1 => ?_) (fun g1 => ?_)
  ·
    obtain ⟨k1, h_k1, rfl⟩ := nu_of g1
    refine Wp_if_eq d_M_lie_4 (fun q => absurd q (by decide)) (fun _ => ?_)
    refine Wp_iload_n d_M_lie_7 rfl ?_
    refine Wp_i2l d_M_lie_8 ?_
    refine Wp_ldc2 (x := (-30)) d_M_lie_9 kl_M_162 ?_
    refine Wp_ldc2 (x := 30) d_M_lie_12 kl_M_164 ?_
    refine Wp_ivs_b (As := [vl v.toInt64, vl (-30), vl 30]) d_M_lie_15 ln_M_88 mk_M_in rfl rfl rfl (by omega) (t_M_inI E (d - 1) w (x := v) (lo := -30) (hi := 30) (by decide) (by decide)) (fun g15 => ?_) (fun g15 => ?_)
    ·
      refine Wp_if_ne d_M_lie_18 (fun _ => ?_) (fun q => absurd q (by decide))
      refine Wp_aload_n d_M_lie_25 rfl ?_
      refine Wp_getr d_M_lie_26 fd_M_34 rfl rfl rfl ?_
      refine Wp_iload_n d_M_lie_29 rfl ?_
      refine Wp_ialdN (j := k1) d_M_lie_30 rfl rfl rfl rfl (by omega) ?_
      refine Wp_eqi (x2 := S 42 k1) (congrFun (hM.r 42) _) ?_
      refine Wp_istore_n (ls2 := [lr 33, li (nI k1), li v, li (S 42 k1)]) d_M_lie_31 rfl rfl rfl ?_
      refine Wp_aload_n d_M_lie_32 rfl ?_
      refine Wp_getr d_M_lie_33 fd_M_34 rfl rfl rfl ?_
      refine Wp_iload_n d_M_lie_36 rfl ?_
      refine Wp_iload_n d_M_lie_37 rfl ?_
      refine Wp_iastN (j := k1) d_M_lie_38 rfl rfl rfl rfl (by omega) ?_
      refine Wp_iload_n d_M_lie_39 rfl ?_
      refine Wp_reti (ty := .int) d_M_lie_40 rfl rfl ?_
      have e9 : oLie S (nI k1) v = (S 42 k1, mU S 42 k1 v) := by unfold oLie; rw [if_neg (by have := ti (show k1 < 2147483648 by omega); omega), cl (by omega)]
      rw [e9]; exact ⟨rfl, MM_p hM (by decide), fr_U (by decide)⟩
    ·
      refine Wp_if_ne d_M_lie_18 (fun q => absurd q (by decide)) (fun _ => ?_)
      refine Wp_sipush (x := (-1002)) d_M_lie_21 (by decide) ?_
      refine Wp_reti (ty := .int) d_M_lie_24 rfl rfl ?_
      have e9 : oLie S (nI k1) v = (-1002, S) := by unfold oLie; rw [if_pos (by omega)]
      rw [e9]; exact ⟨rfl, hM, fr_rf⟩
  ·
    refine Wp_if_eq d_M_lie_4 (fun _ => ?_) (fun q => absurd (by decide) q)
    refine Wp_sipush (x := (-1002)) d_M_lie_21 (by decide) ?_
    refine Wp_reti (ty := .int) d_M_lie_24 rfl rfl ?_
    have e9 : oLie S k v = (-1002, S) := by unfold oLie; rw [if_pos (by omega)]
    rw [e9]; exact ⟨rfl, hM, fr_rf⟩
set_option maxRecDepth 100000 in
set_option maxHeartbeats 4000000 in
theorem t_M_set (E : mE) (d : Nat) (hd : 1 ≤ d) (w : mw) (S : mw) (hM : MM w S) (hV : VM S) (a v : Int32) : Ti E d m_M_set [vr 33, vi a, vi v] w (fun r w1 => r = (oSet S a v).1 ∧ MM w1 (oSet S a v).2 ∧ fr mRows w w1) := by
  refine ⟨Nat.le_of_ble_eq_true rfl, ?_⟩
  show Wp E d m_M_set 0 [lr 33, li a, li v, lo, lo, lo] [] w _
  by_cases ha : 0 ≤ a.toInt ∧ a.toInt ≤ 3
  · rcases four ha with rfl | rfl | rfl | rfl
    ·
      refine Wp_iload_n d_M_set_0 rfl ?_
      refine Wp_if_ne d_M_set_1 (fun q => absurd q (by decide)) (fun _ => ?_)
      refine Wp_iconst (x := 1) d_M_set_4 (by decide) ?_
      refine Wp_goto d_M_set_5 ?_
      refine Wp_istore_n (ls2 := [lr 33, li 0, li v, li 1, lo, lo]) d_M_set_9 rfl rfl rfl ?_
      refine Wp_iload_n d_M_set_10 rfl ?_
      refine Wp_if_ne d_M_set_11 (fun q => absurd q (by decide)) (fun _ => ?_)
      refine Wp_iconst (x := 4) d_M_set_14 (by decide) ?_
      refine Wp_goto d_M_set_15 ?_
      refine Wp_istore (ls2 := [lr 33, li 0, li v, li 1, li 4, lo]) d_M_set_39 rfl rfl rfl ?_
      refine Wp_iload_n d_M_set_41 rfl ?_
      refine Wp_i2l d_M_set_42 ?_
      refine Wp_eql (x2 := 0) (by decide) ?_
      refine Wp_lconst (x := 0) d_M_set_43 (by decide) ?_
      refine Wp_ldc2 (x := 3) d_M_set_44 kl_M_96 ?_
      refine Wp_ivs_b (As := [vl 0, vl 0, vl 3]) d_M_set_47 ln_M_88 mk_M_in rfl rfl rfl (by omega) (t_M_in E (d - 1) (Nat.zero_le _) w 0 0 3) (fun g47 => ?_) (fun g47 => ?_)
      ·
        refine Wp_if_eq d_M_set_50 (fun q => absurd q (by decide)) (fun _ => ?_)
        refine Wp_iload_n d_M_set_53 rfl ?_
        refine Wp_i2l d_M_set_54 ?_
        refine Wp_iload_n d_M_set_55 rfl ?_
        refine Wp_i2l d_M_set_56 ?_
        refine Wp_eql (x2 := 1) (by decide) ?_
        refine Wp_iload d_M_set_57 rfl ?_
        refine Wp_i2l d_M_set_59 ?_
        refine Wp_eql (x2 := 4) (by decide) ?_
        refine Wp_ivs_b (As := [vl v.toInt64, vl 1, vl 4]) d_M_set_60 ln_M_88 mk_M_in rfl rfl rfl (by omega) (t_M_inI E (d - 1) w (x := v) (lo := 1) (hi := 4) (by decide) (by decide)) (fun g60 => ?_) (fun g60 => ?_)
        ·
          refine Wp_if_ne d_M_set_63 (fun _ => ?_) (fun q => absurd q (by decide))
          refine Wp_aload_n d_M_set_69 rfl ?_
          refine Wp_getr d_M_set_70 fd_M_37 rfl rfl rfl ?_
          refine Wp_iload_n d_M_set_73 rfl ?_
          refine Wp_ialdN (j := 0) d_M_set_74 rfl rfl rfl rfl (by decide) ?_
          refine Wp_eqi (x2 := S 43 0) (congrFun (hM.r 43) _) ?_
          refine Wp_istore (ls2 := [lr 33, li 0, li v, li 1, li 4, li (S 43 0)]) d_M_set_75 rfl rfl rfl ?_
          refine Wp_aload_n d_M_set_77 rfl ?_
          refine Wp_getr d_M_set_78 fd_M_37 rfl rfl rfl ?_
          refine Wp_iload_n d_M_set_81 rfl ?_
          refine Wp_iload_n d_M_set_82 rfl ?_
          refine Wp_iastN (j := 0) d_M_set_83 rfl rfl rfl rfl (by decide) ?_
          refine Wp_iload d_M_set_84 rfl ?_
          refine Wp_reti (ty := .int) d_M_set_86 rfl rfl ?_
          have e9 : oSet S 0 v = (S 43 0, mU S 43 0 v) := if_neg (fun q => q.elim (fun q => q (by decide)) (fun q => q g60))
          rw [e9]; exact ⟨rfl, MM_p hM (by decide), fr_U (by decide)⟩
        ·
          refine Wp_if_ne d_M_set_63 (fun q => absurd q (by decide)) (fun _ => ?_)
          refine Wp_bipush (x := (-2)) d_M_set_66 (by decide) ?_
          refine Wp_reti (ty := .int) d_M_set_68 rfl rfl ?_
          have e9 : oSet S 0 v = (-2, S) := if_pos (Or.inr g60)
          rw [e9]; exact ⟨rfl, hM, fr_rf⟩
      ·
        exact absurd (by decide) g47
    ·
      refine Wp_iload_n d_M_set_0 rfl ?_
      refine Wp_if_ne d_M_set_1 (fun _ => ?_) (fun q => absurd q (by decide))
      refine Wp_iconst (x := 0) d_M_set_8 (by decide) ?_
      refine Wp_istore_n (ls2 := [lr 33, li 1, li v, li 0, lo, lo]) d_M_set_9 rfl rfl rfl ?_
      refine Wp_iload_n d_M_set_10 rfl ?_
      refine Wp_if_ne d_M_set_11 (fun _ => ?_) (fun q => absurd q (by decide))
      refine Wp_iload_n d_M_set_18 rfl ?_
      refine Wp_iconst (x := 1) d_M_set_19 (by decide) ?_
      refine Wp_icmp_ne d_M_set_20 (fun q => absurd q (by decide)) (fun _ => ?_)
      refine Wp_iconst (x := 2) d_M_set_23 (by decide) ?_
      refine Wp_goto d_M_set_24 ?_
      refine Wp_istore (ls2 := [lr 33, li 1, li v, li 0, li 2, lo]) d_M_set_39 rfl rfl rfl ?_
      refine Wp_iload_n d_M_set_41 rfl ?_
      refine Wp_i2l d_M_set_42 ?_
      refine Wp_eql (x2 := 1) (by decide) ?_
      refine Wp_lconst (x := 0) d_M_set_43 (by decide) ?_
      refine Wp_ldc2 (x := 3) d_M_set_44 kl_M_96 ?_
      refine Wp_ivs_b (As := [vl 1, vl 0, vl 3]) d_M_set_47 ln_M_88 mk_M_in rfl rfl rfl (by omega) (t_M_in E (d - 1) (Nat.zero_le _) w 1 0 3) (fun g47 => ?_) (fun g47 => ?_)
      ·
        refine Wp_if_eq d_M_set_50 (fun q => absurd q (by decide)) (fun _ => ?_)
        refine Wp_iload_n d_M_set_53 rfl ?_
        refine Wp_i2l d_M_set_54 ?_
        refine Wp_iload_n d_M_set_55 rfl ?_
        refine Wp_i2l d_M_set_56 ?_
        refine Wp_eql (x2 := 0) (by decide) ?_
        refine Wp_iload d_M_set_57 rfl ?_
        refine Wp_i2l d_M_set_59 ?_
        refine Wp_eql (x2 := 2) (by decide) ?_
        refine Wp_ivs_b (As := [vl v.toInt64, vl 0, vl 2]) d_M_set_60 ln_M_88 mk_M_in rfl rfl rfl (by omega) (t_M_inI E (d - 1) w (x := v) (lo := 0) (hi := 2) (by decide) (by decide)) (fun g60 => ?_) (fun g60 => ?_)
        ·
          refine Wp_if_ne d_M_set_63 (fun _ => ?_) (fun q => absurd q (by decide))
          refine Wp_aload_n d_M_set_69 rfl ?_
          refine Wp_getr d_M_set_70 fd_M_37 rfl rfl rfl ?_
          refine Wp_iload_n d_M_set_73 rfl ?_
          refine Wp_ialdN (j := 1) d_M_set_74 rfl rfl rfl rfl (by decide) ?_
          refine Wp_eqi (x2 := S 43 1) (congrFun (hM.r 43) _) ?_
          refine Wp_istore (ls2 := [lr 33, li 1, li v, li 0, li 2, li (S 43 1)]) d_M_set_75 rfl rfl rfl ?_
          refine Wp_aload_n d_M_set_77 rfl ?_
          refine Wp_getr d_M_set_78 fd_M_37 rfl rfl rfl ?_
          refine Wp_iload_n d_M_set_81 rfl ?_
          refine Wp_iload_n d_M_set_82 rfl ?_
          refine Wp_iastN (j := 1) d_M_set_83 rfl rfl rfl rfl (by decide) ?_
          refine Wp_iload d_M_set_84 rfl ?_
          refine Wp_reti (ty := .int) d_M_set_86 rfl rfl ?_
          have e9 : oSet S 1 v = (S 43 1, mU S 43 1 v) := if_neg (fun q => q.elim (fun q => q (by decide)) (fun q => q g60))
          rw [e9]; exact ⟨rfl, MM_p hM (by decide), fr_U (by decide)⟩
        ·
          refine Wp_if_ne d_M_set_63 (fun q => absurd q (by decide)) (fun _ => ?_)
          refine Wp_bipush (x := (-2)) d_M_set_66 (by decide) ?_
          refine Wp_reti (ty := .int) d_M_set_68 rfl rfl ?_
          have e9 : oSet S 1 v = (-2, S) := if_pos (Or.inr g60)
          rw [e9]; exact ⟨rfl, hM, fr_rf⟩
      ·
        exact absurd (by decide) g47
    ·
      refine Wp_iload_n d_M_set_0 rfl ?_
      refine Wp_if_ne d_M_set_1 (fun _ => ?_) (fun q => absurd q (by decide))
      refine Wp_iconst (x := 0) d_M_set_8 (by decide) ?_
      refine Wp_istore_n (ls2 := [lr 33, li 2, li v, li 0, lo, lo]) d_M_set_9 rfl rfl rfl ?_
      refine Wp_iload_n d_M_set_10 rfl ?_
      refine Wp_if_ne d_M_set_11 (fun _ => ?_) (fun q => absurd q (by decide))
      refine Wp_iload_n d_M_set_18 rfl ?_
      refine Wp_iconst (x := 1) d_M_set_19 (by decide) ?_
      refine Wp_icmp_ne d_M_set_20 (fun _ => ?_) (fun q => absurd q (by decide))
      refine Wp_iload_n d_M_set_27 rfl ?_
      refine Wp_iconst (x := 2) d_M_set_28 (by decide) ?_
      refine Wp_icmp_ne d_M_set_29 (fun q => absurd q (by decide)) (fun _ => ?_)
      refine Wp_bipush (x := 99) d_M_set_32 (by decide) ?_
      refine Wp_goto d_M_set_34 ?_
      refine Wp_istore (ls2 := [lr 33, li 2, li v, li 0, li 99, lo]) d_M_set_39 rfl rfl rfl ?_
      refine Wp_iload_n d_M_set_41 rfl ?_
      refine Wp_i2l d_M_set_42 ?_
      refine Wp_eql (x2 := 2) (by decide) ?_
      refine Wp_lconst (x := 0) d_M_set_43 (by decide) ?_
      refine Wp_ldc2 (x := 3) d_M_set_44 kl_M_96 ?_
      refine Wp_ivs_b (As := [vl 2, vl 0, vl 3]) d_M_set_47 ln_M_88 mk_M_in rfl rfl rfl (by omega) (t_M_in E (d - 1) (Nat.zero_le _) w 2 0 3) (fun g47 => ?_) (fun g47 => ?_)
      ·
        refine Wp_if_eq d_M_set_50 (fun q => absurd q (by decide)) (fun _ => ?_)
        refine Wp_iload_n d_M_set_53 rfl ?_
        refine Wp_i2l d_M_set_54 ?_
        refine Wp_iload_n d_M_set_55 rfl ?_
        refine Wp_i2l d_M_set_56 ?_
        refine Wp_eql (x2 := 0) (by decide) ?_
        refine Wp_iload d_M_set_57 rfl ?_
        refine Wp_i2l d_M_set_59 ?_
        refine Wp_eql (x2 := 99) (by decide) ?_
        refine Wp_ivs_b (As := [vl v.toInt64, vl 0, vl 99]) d_M_set_60 ln_M_88 mk_M_in rfl rfl rfl (by omega) (t_M_inI E (d - 1) w (x := v) (lo := 0) (hi := 99) (by decide) (by decide)) (fun g60 => ?_) (fun g60 => ?_)
        ·
          refine Wp_if_ne d_M_set_63 (fun _ => ?_) (fun q => absurd q (by decide))
          refine Wp_aload_n d_M_set_69 rfl ?_
          refine Wp_getr d_M_set_70 fd_M_37 rfl rfl rfl ?_
          refine Wp_iload_n d_M_set_73 rfl ?_
          refine Wp_ialdN (j := 2) d_M_set_74 rfl rfl rfl rfl (by decide) ?_
          refine Wp_eqi (x2 := S 43 2) (congrFun (hM.r 43) _) ?_
          refine Wp_istore (ls2 := [lr 33, li 2, li v, li 0, li 99, li (S 43 2)]) d_M_set_75 rfl rfl rfl ?_
          refine Wp_aload_n d_M_set_77 rfl ?_
          refine Wp_getr d_M_set_78 fd_M_37 rfl rfl rfl ?_
          refine Wp_iload_n d_M_set_81 rfl ?_
          refine Wp_iload_n d_M_set_82 rfl ?_
          refine Wp_iastN (j := 2) d_M_set_83 rfl rfl rfl rfl (by decide) ?_
          refine Wp_iload d_M_set_84 rfl ?_
          refine Wp_reti (ty := .int) d_M_set_86 rfl rfl ?_
          have e9 : oSet S 2 v = (S 43 2, mU S 43 2 v) := if_neg (fun q => q.elim (fun q => q (by decide)) (fun q => q g60))
          rw [e9]; exact ⟨rfl, MM_p hM (by decide), fr_U (by decide)⟩
        ·
          refine Wp_if_ne d_M_set_63 (fun q => absurd q (by decide)) (fun _ => ?_)
          refine Wp_bipush (x := (-2)) d_M_set_66 (by decide) ?_
          refine Wp_reti (ty := .int) d_M_set_68 rfl rfl ?_
          have e9 : oSet S 2 v = (-2, S) := if_pos (Or.inr g60)
          rw [e9]; exact ⟨rfl, hM, fr_rf⟩
      ·
        exact absurd (by decide) g47
    ·
      refine Wp_iload_n d_M_set_0 rfl ?_
      refine Wp_if_ne d_M_set_1 (fun _ => ?_) (fun q => absurd q (by decide))
      refine Wp_iconst (x := 0) d_M_set_8 (by decide) ?_
      refine Wp_istore_n (ls2 := [lr 33, li 3, li v, li 0, lo, lo]) d_M_set_9 rfl rfl rfl ?_
      refine Wp_iload_n d_M_set_10 rfl ?_
      refine Wp_if_ne d_M_set_11 (fun _ => ?_) (fun q => absurd q (by decide))
      refine Wp_iload_n d_M_set_18 rfl ?_
      refine Wp_iconst (x := 1) d_M_set_19 (by decide) ?_
      refine Wp_icmp_ne d_M_set_20 (fun _ => ?_) (fun q => absurd q (by decide))
      refine Wp_iload_n d_M_set_27 rfl ?_
      refine Wp_iconst (x := 2) d_M_set_28 (by decide) ?_
      refine Wp_icmp_ne d_M_set_29 (fun _ => ?_) (fun q => absurd q (by decide))
      refine Wp_bipush (x := 9) d_M_set_37 (by decide) ?_
      refine Wp_istore (ls2 := [lr 33, li 3, li v, li 0, li 9, lo]) d_M_set_39 rfl rfl rfl ?_
      refine Wp_iload_n d_M_set_41 rfl ?_
      refine Wp_i2l d_M_set_42 ?_
      refine Wp_eql (x2 := 3) (by decide) ?_
      refine Wp_lconst (x := 0) d_M_set_43 (by decide) ?_
      refine Wp_ldc2 (x := 3) d_M_set_44 kl_M_96 ?_
      refine Wp_ivs_b (As := [vl 3, vl 0, vl 3]) d_M_set_47 ln_M_88 mk_M_in rfl rfl rfl (by omega) (t_M_in E (d - 1) (Nat.zero_le _) w 3 0 3) (fun g47 => ?_) (fun g47 => ?_)
      ·
        refine Wp_if_eq d_M_set_50 (fun q => absurd q (by decide)) (fun _ => ?_)
        refine Wp_iload_n d_M_set_53 rfl ?_
        refine Wp_i2l d_M_set_54 ?_
        refine Wp_iload_n d_M_set_55 rfl ?_
        refine Wp_i2l d_M_set_56 ?_
        refine Wp_eql (x2 := 0) (by decide) ?_
        refine Wp_iload d_M_set_57 rfl ?_
        refine Wp_i2l d_M_set_59 ?_
        refine Wp_eql (x2 := 9) (by decide) ?_
        refine Wp_ivs_b (As := [vl v.toInt64, vl 0, vl 9]) d_M_set_60 ln_M_88 mk_M_in rfl rfl rfl (by omega) (t_M_inI E (d - 1) w (x := v) (lo := 0) (hi := 9) (by decide) (by decide)) (fun g60 => ?_) (fun g60 => ?_)
        ·
          refine Wp_if_ne d_M_set_63 (fun _ => ?_) (fun q => absurd q (by decide))
          refine Wp_aload_n d_M_set_69 rfl ?_
          refine Wp_getr d_M_set_70 fd_M_37 rfl rfl rfl ?_
          refine Wp_iload_n d_M_set_73 rfl ?_
          refine Wp_ialdN (j := 3) d_M_set_74 rfl rfl rfl rfl (by decide) ?_
          refine Wp_eqi (x2 := S 43 3) (congrFun (hM.r 43) _) ?_
          refine Wp_istore (ls2 := [lr 33, li 3, li v, li 0, li 9, li (S 43 3)]) d_M_set_75 rfl rfl rfl ?_
          refine Wp_aload_n d_M_set_77 rfl ?_
          refine Wp_getr d_M_set_78 fd_M_37 rfl rfl rfl ?_
          refine Wp_iload_n d_M_set_81 rfl ?_
          refine Wp_iload_n d_M_set_82 rfl ?_
          refine Wp_iastN (j := 3) d_M_set_83 rfl rfl rfl rfl (by decide) ?_
          refine Wp_iload d_M_set_84 rfl ?_
          refine Wp_reti (ty := .int) d_M_set_86 rfl rfl ?_
          have e9 : oSet S 3 v = (S 43 3, mU S 43 3 v) := if_neg (fun q => q.elim (fun q => q (by decide)) (fun q => q g60))
          rw [e9]; exact ⟨rfl, MM_p hM (by decide), fr_U (by decide)⟩
        ·
          refine Wp_if_ne d_M_set_63 (fun q => absurd q (by decide)) (fun _ => ?_)
          refine Wp_bipush (x := (-2)) d_M_set_66 (by decide) ?_
          refine Wp_reti (ty := .int) d_M_set_68 rfl rfl ?_
          have e9 : oSet S 3 v = (-2, S) := if_pos (Or.inr g60)
          rw [e9]; exact ⟨rfl, hM, fr_rf⟩
      ·
        exact absurd (by decide) g47
  ·
    refine Wp_iload_n d_M_set_0 rfl ?_
    refine Wp_if_ne d_M_set_1 (fun h1 => ?_) (fun h1 => ?_)
    ·
      have g1 : a.toInt ≠ 0 := i_ne h1
      refine Wp_iconst (x := 0) d_M_set_8 (by decide) ?_
      refine Wp_istore_n (ls2 := [lr 33, li a, li v, li 0, lo, lo]) d_M_set_9 rfl rfl rfl ?_
      refine Wp_iload_n d_M_set_10 rfl ?_
      refine Wp_if_ne d_M_set_11 (fun _ => ?_) (fun q => absurd q h1)
      refine Wp_iload_n d_M_set_18 rfl ?_
      refine Wp_iconst (x := 1) d_M_set_19 (by decide) ?_
      refine Wp_icmp_ne d_M_set_20 (fun h20 => ?_) (fun h20 => ?_)
      ·
        have g20 : a.toInt ≠ 1 := i_ne h20
        refine Wp_iload_n d_M_set_27 rfl ?_
        refine Wp_iconst (x := 2) d_M_set_28 (by decide) ?_
        refine Wp_icmp_ne d_M_set_29 (fun h29 => ?_) (fun h29 => ?_)
        ·
          have g29 : a.toInt ≠ 2 := i_ne h29
          refine Wp_bipush (x := 9) d_M_set_37 (by decide) ?_
          refine Wp_istore (ls2 := [lr 33, li a, li v, li 0, li 9, lo]) d_M_set_39 rfl rfl rfl ?_
          refine Wp_iload_n d_M_set_41 rfl ?_
          refine Wp_i2l d_M_set_42 ?_
          refine Wp_lconst (x := 0) d_M_set_43 (by decide) ?_
          refine Wp_ldc2 (x := 3) d_M_set_44 kl_M_96 ?_
          refine Wp_ivs_b (As := [vl a.toInt64, vl 0, vl 3]) d_M_set_47 ln_M_88 mk_M_in rfl rfl rfl (by omega) (t_M_inI E (d - 1) w (x := a) (lo := 0) (hi := 3) (by decide) (by decide)) (fun g47 => ?_) (fun g47 => ?_)
          ·
            refine Wp_if_eq d_M_set_50 (fun q => absurd q (by decide)) (fun _ => ?_)
            refine Wp_iload_n d_M_set_53 rfl ?_
            refine Wp_i2l d_M_set_54 ?_
            refine Wp_iload_n d_M_set_55 rfl ?_
            refine Wp_i2l d_M_set_56 ?_
            refine Wp_eql (x2 := 0) (by decide) ?_
            refine Wp_iload d_M_set_57 rfl ?_
            refine Wp_i2l d_M_set_59 ?_
            refine Wp_eql (x2 := 9) (by decide) ?_
            refine Wp_ivs_b (As := [vl v.toInt64, vl 0, vl 9]) d_M_set_60 ln_M_88 mk_M_in rfl rfl rfl (by omega) (t_M_inI E (d - 1) w (x := v) (lo := 0) (hi := 9) (by decide) (by decide)) (fun g60 => ?_) (fun g60 => ?_)
            ·
              refine Wp_if_ne d_M_set_63 (fun _ => ?_) (fun q => absurd q (by decide))
              refine Wp_aload_n d_M_set_69 rfl ?_
              refine Wp_getr d_M_set_70 fd_M_37 rfl rfl rfl ?_
              refine Wp_iload_n d_M_set_73 rfl ?_
              refine Wp_ialdN (j := 0) d_M_set_74 rfl rfl rfl (absurd (by assumption) ha) (absurd (by assumption) ha) ?_
              refine Wp_eqi (x2 := S 43 0) (congrFun (hM.r 43) _) ?_
              refine Wp_istore (ls2 := [lr 33, li a, li v, li 0, li 9, li (S 43 0)]) d_M_set_75 rfl rfl rfl ?_
              refine Wp_aload_n d_M_set_77 rfl ?_
              refine Wp_getr d_M_set_78 fd_M_37 rfl rfl rfl ?_
              refine Wp_iload_n d_M_set_81 rfl ?_
              refine Wp_iload_n d_M_set_82 rfl ?_
              refine Wp_iastN (j := 0) d_M_set_83 rfl rfl rfl (absurd (by assumption) ha) (absurd (by assumption) ha) ?_
              refine Wp_iload d_M_set_84 rfl ?_
              refine Wp_reti (ty := .int) d_M_set_86 rfl rfl ?_
              exact absurd (by assumption) ha
            ·
              refine Wp_if_ne d_M_set_63 (fun q => absurd q (by decide)) (fun _ => ?_)
              refine Wp_bipush (x := (-2)) d_M_set_66 (by decide) ?_
              refine Wp_reti (ty := .int) d_M_set_68 rfl rfl ?_
              have e9 : oSet S a v = (-2, S) := by unfold oSet; rw [if_pos (Or.inl ha)]
              rw [e9]; exact ⟨rfl, hM, fr_rf⟩
          ·
            refine Wp_if_eq d_M_set_50 (fun _ => ?_) (fun q => absurd (by decide) q)
            refine Wp_bipush (x := (-2)) d_M_set_66 (by decide) ?_
            refine Wp_reti (ty := .int) d_M_set_68 rfl rfl ?_
            have e9 : oSet S a v = (-2, S) := by unfold oSet; rw [if_pos (Or.inl ha)]
            rw [e9]; exact ⟨rfl, hM, fr_rf⟩
        ·
          refine Wp_bipush (x := 99) d_M_set_32 (by decide) ?_
          refine Wp_goto d_M_set_34 ?_
          refine Wp_istore (ls2 := [lr 33, li a, li v, li 0, li 99, lo]) d_M_set_39 rfl rfl rfl ?_
          refine Wp_iload_n d_M_set_41 rfl ?_
          refine Wp_i2l d_M_set_42 ?_
          refine Wp_lconst (x := 0) d_M_set_43 (by decide) ?_
          refine Wp_ldc2 (x := 3) d_M_set_44 kl_M_96 ?_
          refine Wp_ivs_b (As := [vl a.toInt64, vl 0, vl 3]) d_M_set_47 ln_M_88 mk_M_in rfl rfl rfl (by omega) (t_M_inI E (d - 1) w (x := a) (lo := 0) (hi := 3) (by decide) (by decide)) (fun g47 => ?_) (fun g47 => ?_)
          ·
            refine Wp_if_eq d_M_set_50 (fun q => absurd q (by decide)) (fun _ => ?_)
            refine Wp_iload_n d_M_set_53 rfl ?_
            refine Wp_i2l d_M_set_54 ?_
            refine Wp_iload_n d_M_set_55 rfl ?_
            refine Wp_i2l d_M_set_56 ?_
            refine Wp_eql (x2 := 0) (by decide) ?_
            refine Wp_iload d_M_set_57 rfl ?_
            refine Wp_i2l d_M_set_59 ?_
            refine Wp_eql (x2 := 99) (by decide) ?_
            refine Wp_ivs_b (As := [vl v.toInt64, vl 0, vl 99]) d_M_set_60 ln_M_88 mk_M_in rfl rfl rfl (by omega) (t_M_inI E (d - 1) w (x := v) (lo := 0) (hi := 99) (by decide) (by decide)) (fun g60 => ?_) (fun g60 => ?_)
            ·
              refine Wp_if_ne d_M_set_63 (fun _ => ?_) (fun q => absurd q (by decide))
              refine Wp_aload_n d_M_set_69 rfl ?_
              refine Wp_getr d_M_set_70 fd_M_37 rfl rfl rfl ?_
              refine Wp_iload_n d_M_set_73 rfl ?_
              refine Wp_ialdN (j := 0) d_M_set_74 rfl rfl rfl (absurd (by assumption) ha) (absurd (by assumption) ha) ?_
              refine Wp_eqi (x2 := S 43 0) (congrFun (hM.r 43) _) ?_
              refine Wp_istore (ls2 := [lr 33, li a, li v, li 0, li 99, li (S 43 0)]) d_M_set_75 rfl rfl rfl ?_
              refine Wp_aload_n d_M_set_77 rfl ?_
              refine Wp_getr d_M_set_78 fd_M_37 rfl rfl rfl ?_
              refine Wp_iload_n d_M_set_81 rfl ?_
              refine Wp_iload_n d_M_set_82 rfl ?_
              refine Wp_iastN (j := 0) d_M_set_83 rfl rfl rfl (absurd (by assumption) ha) (absurd (by assumption) ha) ?_
              refine Wp_iload d_M_set_84 rfl ?_
              refine Wp_reti (ty := .int) d_M_set_86 rfl rfl ?_
              exact absurd (by assumption) ha
            ·
              refine Wp_if_ne d_M_set_63 (fun q => absurd q (by decide)) (fun _ => ?_)
              refine Wp_bipush (x := (-2)) d_M_set_66 (by decide) ?_
              refine Wp_reti (ty := .int) d_M_set_68 rfl rfl ?_
              have e9 : oSet S a v = (-2, S) := by unfold oSet; rw [if_pos (Or.inl ha)]
              rw [e9]; exact ⟨rfl, hM, fr_rf⟩
          ·
            refine Wp_if_eq d_M_set_50 (fun _ => ?_) (fun q => absurd (by decide) q)
            refine Wp_bipush (x := (-2)) d_M_set_66 (by decide) ?_
            refine Wp_reti (ty := .int) d_M_set_68 rfl rfl ?_
            have e9 : oSet S a v = (-2, S) := by unfold oSet; rw [if_pos (Or.inl ha)]
            rw [e9]; exact ⟨rfl, hM, fr_rf⟩
      ·
        refine Wp_iconst (x := 2) d_M_set_23 (by decide) ?_
        refine Wp_goto d_M_set_24 ?_
        refine Wp_istore (ls2 := [lr 33, li a, li v, li 0, li 2, lo]) d_M_set_39 rfl rfl rfl ?_
        refine Wp_iload_n d_M_set_41 rfl ?_
        refine Wp_i2l d_M_set_42 ?_
        refine Wp_lconst (x := 0) d_M_set_43 (by decide) ?_
        refine Wp_ldc2 (x := 3) d_M_set_44 kl_M_96 ?_
        refine Wp_ivs_b (As := [vl a.toInt64, vl 0, vl 3]) d_M_set_47 ln_M_88 mk_M_in rfl rfl rfl (by omega) (t_M_inI E (d - 1) w (x := a) (lo := 0) (hi := 3) (by decide) (by decide)) (fun g47 => ?_) (fun g47 => ?_)
        ·
          refine Wp_if_eq d_M_set_50 (fun q => absurd q (by decide)) (fun _ => ?_)
          refine Wp_iload_n d_M_set_53 rfl ?_
          refine Wp_i2l d_M_set_54 ?_
          refine Wp_iload_n d_M_set_55 rfl ?_
          refine Wp_i2l d_M_set_56 ?_
          refine Wp_eql (x2 := 0) (by decide) ?_
          refine Wp_iload d_M_set_57 rfl ?_
          refine Wp_i2l d_M_set_59 ?_
          refine Wp_eql (x2 := 2) (by decide) ?_
          refine Wp_ivs_b (As := [vl v.toInt64, vl 0, vl 2]) d_M_set_60 ln_M_88 mk_M_in rfl rfl rfl (by omega) (t_M_inI E (d - 1) w (x := v) (lo := 0) (hi := 2) (by decide) (by decide)) (fun g60 => ?_) (fun g60 => ?_)
          ·
            refine Wp_if_ne d_M_set_63 (fun _ => ?_) (fun q => absurd q (by decide))
            refine Wp_aload_n d_M_set_69 rfl ?_
            refine Wp_getr d_M_set_70 fd_M_37 rfl rfl rfl ?_
            refine Wp_iload_n d_M_set_73 rfl ?_
            refine Wp_ialdN (j := 0) d_M_set_74 rfl rfl rfl (absurd (by assumption) ha) (absurd (by assumption) ha) ?_
            refine Wp_eqi (x2 := S 43 0) (congrFun (hM.r 43) _) ?_
            refine Wp_istore (ls2 := [lr 33, li a, li v, li 0, li 2, li (S 43 0)]) d_M_set_75 rfl rfl rfl ?_
            refine Wp_aload_n d_M_set_77 rfl ?_
            refine Wp_getr d_M_set_78 fd_M_37 rfl rfl rfl ?_
            refine Wp_iload_n d_M_set_81 rfl ?_
            refine Wp_iload_n d_M_set_82 rfl ?_
            refine Wp_iastN (j := 0) d_M_set_83 rfl rfl rfl (absurd (by assumption) ha) (absurd (by assumption) ha) ?_
            refine Wp_iload d_M_set_84 rfl ?_
            refine Wp_reti (ty := .int) d_M_set_86 rfl rfl ?_
            exact absurd (by assumption) ha
          ·
            refine Wp_if_ne d_M_set_63 (fun q => absurd q (by decide)) (fun _ => ?_)
            refine Wp_bipush (x := (-2)) d_M_set_66 (by decide) ?_
            refine Wp_reti (ty := .int) d_M_set_68 rfl rfl ?_
            have e9 : oSet S a v = (-2, S) := by unfold oSet; rw [if_pos (Or.inl ha)]
            rw [e9]; exact ⟨rfl, hM, fr_rf⟩
        ·
          refine Wp_if_eq d_M_set_50 (fun _ => ?_) (fun q => absurd (by decide) q)
          refine Wp_bipush (x := (-2)) d_M_set_66 (by decide) ?_
          refine Wp_reti (ty := .int) d_M_set_68 rfl rfl ?_
          have e9 : oSet S a v = (-2, S) := by unfold oSet; rw [if_pos (Or.inl ha)]
          rw [e9]; exact ⟨rfl, hM, fr_rf⟩
    ·
      refine Wp_iconst (x := 1) d_M_set_4 (by decide) ?_
      refine Wp_goto d_M_set_5 ?_
      refine Wp_istore_n (ls2 := [lr 33, li a, li v, li 1, lo, lo]) d_M_set_9 rfl rfl rfl ?_
      refine Wp_iload_n d_M_set_10 rfl ?_
      refine Wp_if_ne d_M_set_11 (fun q => absurd h1 q) (fun _ => ?_)
      refine Wp_iconst (x := 4) d_M_set_14 (by decide) ?_
      refine Wp_goto d_M_set_15 ?_
      refine Wp_istore (ls2 := [lr 33, li a, li v, li 1, li 4, lo]) d_M_set_39 rfl rfl rfl ?_
      refine Wp_iload_n d_M_set_41 rfl ?_
      refine Wp_i2l d_M_set_42 ?_
      refine Wp_lconst (x := 0) d_M_set_43 (by decide) ?_
      refine Wp_ldc2 (x := 3) d_M_set_44 kl_M_96 ?_
      refine Wp_ivs_b (As := [vl a.toInt64, vl 0, vl 3]) d_M_set_47 ln_M_88 mk_M_in rfl rfl rfl (by omega) (t_M_inI E (d - 1) w (x := a) (lo := 0) (hi := 3) (by decide) (by decide)) (fun g47 => ?_) (fun g47 => ?_)
      ·
        refine Wp_if_eq d_M_set_50 (fun q => absurd q (by decide)) (fun _ => ?_)
        refine Wp_iload_n d_M_set_53 rfl ?_
        refine Wp_i2l d_M_set_54 ?_
        refine Wp_iload_n d_M_set_55 rfl ?_
        refine Wp_i2l d_M_set_56 ?_
        refine Wp_eql (x2 := 1) (by decide) ?_
        refine Wp_iload d_M_set_57 rfl ?_
        refine Wp_i2l d_M_set_59 ?_
        refine Wp_eql (x2 := 4) (by decide) ?_
        refine Wp_ivs_b (As := [vl v.toInt64, vl 1, vl 4]) d_M_set_60 ln_M_88 mk_M_in rfl rfl rfl (by omega) (t_M_inI E (d - 1) w (x := v) (lo := 1) (hi := 4) (by decide) (by decide)) (fun g60 => ?_) (fun g60 => ?_)
        ·
          refine Wp_if_ne d_M_set_63 (fun _ => ?_) (fun q => absurd q (by decide))
          refine Wp_aload_n d_M_set_69 rfl ?_
          refine Wp_getr d_M_set_70 fd_M_37 rfl rfl rfl ?_
          refine Wp_iload_n d_M_set_73 rfl ?_
          refine Wp_ialdN (j := 0) d_M_set_74 rfl rfl rfl (absurd (by assumption) ha) (absurd (by assumption) ha) ?_
          refine Wp_eqi (x2 := S 43 0) (congrFun (hM.r 43) _) ?_
          refine Wp_istore (ls2 := [lr 33, li a, li v, li 1, li 4, li (S 43 0)]) d_M_set_75 rfl rfl rfl ?_
          refine Wp_aload_n d_M_set_77 rfl ?_
          refine Wp_getr d_M_set_78 fd_M_37 rfl rfl rfl ?_
          refine Wp_iload_n d_M_set_81 rfl ?_
          refine Wp_iload_n d_M_set_82 rfl ?_
          refine Wp_iastN (j := 0) d_M_set_83 rfl rfl rfl (absurd (by assumption) ha) (absurd (by assumption) ha) ?_
          refine Wp_iload d_M_set_84 rfl ?_
          refine Wp_reti (ty := .int) d_M_set_86 rfl rfl ?_
          exact absurd (by assumption) ha
        ·
          refine Wp_if_ne d_M_set_63 (fun q => absurd q (by decide)) (fun _ => ?_)
          refine Wp_bipush (x := (-2)) d_M_set_66 (by decide) ?_
          refine Wp_reti (ty := .int) d_M_set_68 rfl rfl ?_
          have e9 : oSet S a v = (-2, S) := by unfold oSet; rw [if_pos (Or.inl ha)]
          rw [e9]; exact ⟨rfl, hM, fr_rf⟩
      ·
        refine Wp_if_eq d_M_set_50 (fun _ => ?_) (fun q => absurd (by decide) q)
        refine Wp_bipush (x := (-2)) d_M_set_66 (by decide) ?_
        refine Wp_reti (ty := .int) d_M_set_68 rfl rfl ?_
        have e9 : oSet S a v = (-2, S) := by unfold oSet; rw [if_pos (Or.inl ha)]
        rw [e9]; exact ⟨rfl, hM, fr_rf⟩
set_option maxRecDepth 100000 in
set_option maxHeartbeats 4000000 in
theorem t_M_lays44 (E : mE) (d : Nat) (hd : 0 ≤ d) (w : mw) (a b : Nat) (v : Int32) (ha : a < 10) (hb : b < 10) : Td E d m_M_lays [vr 44, vi (nI a), vi (nI b), vi v] w (tieA (w 44) a b) (mUr w 44 (tieR (w 44) a b v)) := by
  refine ⟨Nat.le_of_ble_eq_true rfl, ?_⟩
  show Wp E d m_M_lays 0 [lr 44, li (nI a), li (nI b), li v, lo] [] w _
  refine Wp_aload_n d_M_lays_0 rfl ?_
  refine Wp_iload_n d_M_lays_1 rfl ?_
  refine Wp_ialdN (j := a) d_M_lays_2 rfl rfl rfl rfl (by omega) ?_
  refine Wp_iload_n d_M_lays_3 rfl ?_
  refine Wp_ishr d_M_lays_4 ?_
  refine Wp_iconst (x := 1) d_M_lays_5 (by decide) ?_
  refine Wp_iand d_M_lays_6 ?_
  refine Wp_istore (ls2 := [lr 44, li (nI a), li (nI b), li v, li (((w 44 a) >>> ((nI b) &&& 31)) &&& 1)]) d_M_lays_7 rfl rfl rfl ?_
  refine Wp_aload_n d_M_lays_9 rfl ?_
  refine Wp_iload_n d_M_lays_10 rfl ?_
  refine Wp_aload_n d_M_lays_11 rfl ?_
  refine Wp_iload_n d_M_lays_12 rfl ?_
  refine Wp_ialdN (j := a) d_M_lays_13 rfl rfl rfl rfl (by omega) ?_
  refine Wp_iconst (x := 1) d_M_lays_14 (by decide) ?_
  refine Wp_iload_n d_M_lays_15 rfl ?_
  refine Wp_ishl d_M_lays_16 ?_
  refine Wp_iconst (x := (-1)) d_M_lays_17 (by decide) ?_
  refine Wp_ixor d_M_lays_18 ?_
  refine Wp_iand d_M_lays_19 ?_
  refine Wp_iload_n d_M_lays_20 rfl ?_
  refine Wp_iload_n d_M_lays_21 rfl ?_
  refine Wp_ishl d_M_lays_22 ?_
  refine Wp_ior d_M_lays_23 ?_
  refine Wp_iastN (j := a) d_M_lays_24 rfl rfl rfl rfl (by omega) ?_
  refine Wp_aload_n d_M_lays_25 rfl ?_
  refine Wp_iload_n d_M_lays_26 rfl ?_
  refine Wp_aload_n d_M_lays_27 rfl ?_
  refine Wp_iload_n d_M_lays_28 rfl ?_
  refine Wp_ialdN (j := b) d_M_lays_29 rfl rfl rfl rfl (by omega) ?_
  refine Wp_iconst (x := 1) d_M_lays_30 (by decide) ?_
  refine Wp_iload_n d_M_lays_31 rfl ?_
  refine Wp_ishl d_M_lays_32 ?_
  refine Wp_iconst (x := (-1)) d_M_lays_33 (by decide) ?_
  refine Wp_ixor d_M_lays_34 ?_
  refine Wp_iand d_M_lays_35 ?_
  refine Wp_iload_n d_M_lays_36 rfl ?_
  refine Wp_iload_n d_M_lays_37 rfl ?_
  refine Wp_ishl d_M_lays_38 ?_
  refine Wp_ior d_M_lays_39 ?_
  refine Wp_iastN (j := b) d_M_lays_40 rfl rfl rfl rfl (by omega) ?_
  refine Wp_iload d_M_lays_41 rfl ?_
  refine Wp_reti (ty := .int) d_M_lays_43 rfl rfl ?_
  exact ⟨rfl, by simp only [mU, mUr_eq, mUr_mUr, tieR]⟩
set_option maxRecDepth 100000 in
set_option maxHeartbeats 4000000 in
theorem t_M_lays45 (E : mE) (d : Nat) (hd : 0 ≤ d) (w : mw) (a b : Nat) (v : Int32) (ha : a < 10) (hb : b < 10) : Td E d m_M_lays [vr 45, vi (nI a), vi (nI b), vi v] w (tieA (w 45) a b) (mUr w 45 (tieR (w 45) a b v)) := by
  refine ⟨Nat.le_of_ble_eq_true rfl, ?_⟩
  show Wp E d m_M_lays 0 [lr 45, li (nI a), li (nI b), li v, lo] [] w _
  refine Wp_aload_n d_M_lays_0 rfl ?_
  refine Wp_iload_n d_M_lays_1 rfl ?_
  refine Wp_ialdN (j := a) d_M_lays_2 rfl rfl rfl rfl (by omega) ?_
  refine Wp_iload_n d_M_lays_3 rfl ?_
  refine Wp_ishr d_M_lays_4 ?_
  refine Wp_iconst (x := 1) d_M_lays_5 (by decide) ?_
  refine Wp_iand d_M_lays_6 ?_
  refine Wp_istore (ls2 := [lr 45, li (nI a), li (nI b), li v, li (((w 45 a) >>> ((nI b) &&& 31)) &&& 1)]) d_M_lays_7 rfl rfl rfl ?_
  refine Wp_aload_n d_M_lays_9 rfl ?_
  refine Wp_iload_n d_M_lays_10 rfl ?_
  refine Wp_aload_n d_M_lays_11 rfl ?_
  refine Wp_iload_n d_M_lays_12 rfl ?_
  refine Wp_ialdN (j := a) d_M_lays_13 rfl rfl rfl rfl (by omega) ?_
  refine Wp_iconst (x := 1) d_M_lays_14 (by decide) ?_
  refine Wp_iload_n d_M_lays_15 rfl ?_
  refine Wp_ishl d_M_lays_16 ?_
  refine Wp_iconst (x := (-1)) d_M_lays_17 (by decide) ?_
  refine Wp_ixor d_M_lays_18 ?_
  refine Wp_iand d_M_lays_19 ?_
  refine Wp_iload_n d_M_lays_20 rfl ?_
  refine Wp_iload_n d_M_lays_21 rfl ?_
  refine Wp_ishl d_M_lays_22 ?_
  refine Wp_ior d_M_lays_23 ?_
  refine Wp_iastN (j := a) d_M_lays_24 rfl rfl rfl rfl (by omega) ?_
  refine Wp_aload_n d_M_lays_25 rfl ?_
  refine Wp_iload_n d_M_lays_26 rfl ?_
  refine Wp_aload_n d_M_lays_27 rfl ?_
  refine Wp_iload_n d_M_lays_28 rfl ?_
  refine Wp_ialdN (j := b) d_M_lays_29 rfl rfl rfl rfl (by omega) ?_
  refine Wp_iconst (x := 1) d_M_lays_30 (by decide) ?_
  refine Wp_iload_n d_M_lays_31 rfl ?_
  refine Wp_ishl d_M_lays_32 ?_
  refine Wp_iconst (x := (-1)) d_M_lays_33 (by decide) ?_
  refine Wp_ixor d_M_lays_34 ?_
  refine Wp_iand d_M_lays_35 ?_
  refine Wp_iload_n d_M_lays_36 rfl ?_
  refine Wp_iload_n d_M_lays_37 rfl ?_
  refine Wp_ishl d_M_lays_38 ?_
  refine Wp_ior d_M_lays_39 ?_
  refine Wp_iastN (j := b) d_M_lays_40 rfl rfl rfl rfl (by omega) ?_
  refine Wp_iload d_M_lays_41 rfl ?_
  refine Wp_reti (ty := .int) d_M_lays_43 rfl rfl ?_
  exact ⟨rfl, by simp only [mU, mUr_eq, mUr_mUr, tieR]⟩
set_option maxRecDepth 100000 in
set_option maxHeartbeats 4000000 in
theorem t_M_pair (E : mE) (d : Nat) (hd : 2 ≤ d) (w : mw) (S : mw) (hM : MM w S) (hV : VM S) (k a b v : Int32) : Ti E d m_M_pair [vr 33, vi k, vi a, vi b, vi v] w (fun r w1 => r = (oPair S k a b v).1 ∧ MM w1 (oPair S k a b v).2 ∧ fr mRows w w1) := by
  refine ⟨Nat.le_of_ble_eq_true rfl, ?_⟩
  show Wp E d m_M_pair 0 [lr 33, li k, li a, li b, li v] [] w _
  refine Wp_iload_n d_M_pair_0 rfl ?_
  refine Wp_ivs_b (As := [vi k]) d_M_pair_1 ln_M_151 mk_M_isTwo rfl rfl rfl (by omega) (t_M_isTwo E (d - 1) (by omega) w k) (fun g1 => ?_) (fun g1 => ?_)
  ·
    refine Wp_if_eq d_M_pair_4 (fun q => absurd q (by decide)) (fun _ => ?_)
    refine Wp_iload_n d_M_pair_7 rfl ?_
    refine Wp_ivs_b (As := [vi a]) d_M_pair_8 ln_M_157 mk_M_isNumber rfl rfl rfl (by omega) (t_M_isNumber E (d - 1) (by omega) w a) (fun g8 => ?_) (fun g8 => ?_)
    ·
      obtain ⟨a1, h_a1, rfl⟩ := nu_of g8
      refine Wp_if_eq d_M_pair_11 (fun q => absurd q (by decide)) (fun _ => ?_)
      refine Wp_iload_n d_M_pair_14 rfl ?_
      refine Wp_ivs_b (As := [vi b]) d_M_pair_15 ln_M_157 mk_M_isNumber rfl rfl rfl (by omega) (t_M_isNumber E (d - 1) (by omega) w b) (fun g15 => ?_) (fun g15 => ?_)
      ·
        obtain ⟨b1, h_b1, rfl⟩ := nu_of g15
        refine Wp_if_eq d_M_pair_18 (fun q => absurd q (by decide)) (fun _ => ?_)
        refine Wp_iload_n d_M_pair_21 rfl ?_
        refine Wp_iload_n d_M_pair_22 rfl ?_
        refine Wp_icmp_eq d_M_pair_23 (fun h23 => ?_) (fun h23 => ?_)
        ·
          have g23 : (nI a1).toInt = (nI b1).toInt := by rw [h23]
          refine Wp_bipush (x := (-2)) d_M_pair_34 (by decide) ?_
          refine Wp_reti (ty := .int) d_M_pair_36 rfl rfl ?_
          have e9 : oPair S k (nI a1) (nI b1) v = (-2, S) := by unfold oPair; rw [if_pos (by omega)]
          rw [e9]; exact ⟨rfl, hM, fr_rf⟩
        ·
          have g23 : (nI a1).toInt ≠ (nI b1).toInt := i_ne h23
          refine Wp_iload d_M_pair_26 rfl ?_
          refine Wp_ivs_b (As := [vi v]) d_M_pair_28 ln_M_151 mk_M_isTwo rfl rfl rfl (by omega) (t_M_isTwo E (d - 1) (by omega) w v) (fun g28 => ?_) (fun g28 => ?_)
          ·
            refine Wp_if_ne d_M_pair_31 (fun _ => ?_) (fun q => absurd q (by decide))
            refine Wp_iload_n d_M_pair_37 rfl ?_
            refine Wp_if_ne d_M_pair_38 (fun h38 => ?_) (fun h38 => ?_)
            ·
              have g38 : k.toInt ≠ 0 := i_ne h38
              refine Wp_aload_n d_M_pair_55 rfl ?_
              refine Wp_getr d_M_pair_56 fd_M_43 rfl rfl rfl ?_
              refine Wp_iload_n d_M_pair_59 rfl ?_
              refine Wp_iload_n d_M_pair_60 rfl ?_
              refine Wp_iload d_M_pair_61 rfl ?_
              refine Wp_ivs_d (As := [vr 45, vi (nI a1), vi (nI b1), vi v]) d_M_pair_63 ln_M_169 mk_M_lays rfl rfl rfl (by omega) (t_M_lays45 E (d - 1) (by omega) w a1 b1 v (by omega) (by omega)) ?_
              refine Wp_reti (ty := .int) d_M_pair_66 rfl rfl ?_
              have e9 : oPair S k (nI a1) (nI b1) v = (tieA (S 45) a1 b1, mUr S 45 (tieR (S 45) a1 b1 v)) := by unfold oPair; rw [if_neg (by have := ti (show a1 < 2147483648 by omega); have := ti (show b1 < 2147483648 by omega); omega), if_neg (by assumption), cl (by omega), cl (by omega)]
              rw [e9, hM.r 45]; exact ⟨rfl, MM_pr hM (by decide), fr_Ur (by decide)⟩
            ·
              refine Wp_aload_n d_M_pair_41 rfl ?_
              refine Wp_getr d_M_pair_42 fd_M_40 rfl rfl rfl ?_
              refine Wp_iload_n d_M_pair_45 rfl ?_
              refine Wp_iload_n d_M_pair_46 rfl ?_
              refine Wp_iload d_M_pair_47 rfl ?_
              refine Wp_ivs_d (As := [vr 44, vi (nI a1), vi (nI b1), vi v]) d_M_pair_49 ln_M_169 mk_M_lays rfl rfl rfl (by omega) (t_M_lays44 E (d - 1) (by omega) w a1 b1 v (by omega) (by omega)) ?_
              refine Wp_goto d_M_pair_52 ?_
              refine Wp_reti (ty := .int) d_M_pair_66 rfl rfl ?_
              have e9 : oPair S k (nI a1) (nI b1) v = (tieA (S 44) a1 b1, mUr S 44 (tieR (S 44) a1 b1 v)) := by unfold oPair; rw [if_neg (by have := ti (show a1 < 2147483648 by omega); have := ti (show b1 < 2147483648 by omega); omega), if_pos (by assumption), cl (by omega), cl (by omega)]
              rw [e9, hM.r 44]; exact ⟨rfl, MM_pr hM (by decide), fr_Ur (by decide)⟩
          ·
            refine Wp_if_ne d_M_pair_31 (fun q => absurd q (by decide)) (fun _ => ?_)
            refine Wp_bipush (x := (-2)) d_M_pair_34 (by decide) ?_
            refine Wp_reti (ty := .int) d_M_pair_36 rfl rfl ?_
            have e9 : oPair S k (nI a1) (nI b1) v = (-2, S) := by unfold oPair; rw [if_pos (by omega)]
            rw [e9]; exact ⟨rfl, hM, fr_rf⟩
      ·
        refine Wp_if_eq d_M_pair_18 (fun _ => ?_) (fun q => absurd (by decide) q)
        refine Wp_bipush (x := (-2)) d_M_pair_34 (by decide) ?_
        refine Wp_reti (ty := .int) d_M_pair_36 rfl rfl ?_
        have e9 : oPair S k (nI a1) b v = (-2, S) := by unfold oPair; rw [if_pos (by omega)]
        rw [e9]; exact ⟨rfl, hM, fr_rf⟩
    ·
      refine Wp_if_eq d_M_pair_11 (fun _ => ?_) (fun q => absurd (by decide) q)
      refine Wp_bipush (x := (-2)) d_M_pair_34 (by decide) ?_
      refine Wp_reti (ty := .int) d_M_pair_36 rfl rfl ?_
      have e9 : oPair S k a b v = (-2, S) := by unfold oPair; rw [if_pos (by omega)]
      rw [e9]; exact ⟨rfl, hM, fr_rf⟩
  ·
    refine Wp_if_eq d_M_pair_4 (fun _ => ?_) (fun q => absurd (by decide) q)
    refine Wp_bipush (x := (-2)) d_M_pair_34 (by decide) ?_
    refine Wp_reti (ty := .int) d_M_pair_36 rfl rfl ?_
    have e9 : oPair S k a b v = (-2, S) := by unfold oPair; rw [if_pos (by omega)]
    rw [e9]; exact ⟨rfl, hM, fr_rf⟩
set_option maxRecDepth 100000 in
set_option maxHeartbeats 4000000 in
theorem t_M_seen (E : mE) (d : Nat) (hd : 2 ≤ d) (w : mw) (S : mw) (hM : MM w S) (hV : VM S) (a b f : Int32) : Ti E d m_M_seen [vr 33, vi a, vi b, vi f] w (fun r w1 => r = (oSeen S a b f).1 ∧ MM w1 (oSeen S a b f).2 ∧ fr mRows w w1) := by
  refine ⟨Nat.le_of_ble_eq_true rfl, ?_⟩
  show Wp E d m_M_seen 0 [lr 33, li a, li b, li f] [] w _
  have hsn := (VM_sn hV).2
  refine Wp_iload_n d_M_seen_0 rfl ?_
  refine Wp_ivs_b (As := [vi a]) d_M_seen_1 ln_M_157 mk_M_isNumber rfl rfl rfl (by omega) (t_M_isNumber E (d - 1) (by omega) w a) (fun g1 => ?_) (fun g1 => ?_)
  ·
    obtain ⟨a1, h_a1, rfl⟩ := nu_of g1
    refine Wp_if_eq d_M_seen_4 (fun q => absurd q (by decide)) (fun _ => ?_)
    refine Wp_iload_n d_M_seen_7 rfl ?_
    refine Wp_ivs_b (As := [vi b]) d_M_seen_8 ln_M_157 mk_M_isNumber rfl rfl rfl (by omega) (t_M_isNumber E (d - 1) (by omega) w b) (fun g8 => ?_) (fun g8 => ?_)
    ·
      obtain ⟨b1, h_b1, rfl⟩ := nu_of g8
      refine Wp_if_eq d_M_seen_11 (fun q => absurd q (by decide)) (fun _ => ?_)
      refine Wp_iload_n d_M_seen_14 rfl ?_
      refine Wp_iload_n d_M_seen_15 rfl ?_
      refine Wp_icmp_eq d_M_seen_16 (fun h16 => ?_) (fun h16 => ?_)
      ·
        have g16 : (nI a1).toInt = (nI b1).toInt := by rw [h16]
        refine Wp_bipush (x := (-2)) d_M_seen_31 (by decide) ?_
        refine Wp_reti (ty := .int) d_M_seen_33 rfl rfl ?_
        have e9 : oSeen S (nI a1) (nI b1) f = (-2, S) := by unfold oSeen; rw [if_pos (by omega)]
        rw [e9]; exact ⟨rfl, hM, fr_rf⟩
      ·
        have g16 : (nI a1).toInt ≠ (nI b1).toInt := i_ne h16
        refine Wp_iload_n d_M_seen_19 rfl ?_
        refine Wp_i2l d_M_seen_20 ?_
        refine Wp_lconst (x := 0) d_M_seen_21 (by decide) ?_
        refine Wp_ldc2 (x := 200) d_M_seen_22 kl_M_261 ?_
        refine Wp_ivs_b (As := [vl f.toInt64, vl 0, vl 200]) d_M_seen_25 ln_M_88 mk_M_in rfl rfl rfl (by omega) (t_M_inI E (d - 1) w (x := f) (lo := 0) (hi := 200) (by decide) (by decide)) (fun g25 => ?_) (fun g25 => ?_)
        ·
          refine Wp_if_ne d_M_seen_28 (fun _ => ?_) (fun q => absurd q (by decide))
          refine Wp_aload_n d_M_seen_34 rfl ?_
          refine Wp_getf d_M_seen_35 fd_M_263 rfl rfl rfl ?_
          refine Wp_eqi (x2 := S 33 28) hM.2.2.1 ?_
          refine Wp_eqi (x2 := nI (sSn S)) (VM_sn hV).1 ?_
          refine Wp_bipush (x := 8) d_M_seen_38 (by decide) ?_
          refine Wp_icmp_ne d_M_seen_40 (fun h40 => ?_) (fun h40 => ?_)
          ·
            have g40 : (sSn S) ≠ 8 := n_ne h40 (by omega) (by omega)
            refine Wp_aload_n d_M_seen_46 rfl ?_
            refine Wp_getr d_M_seen_47 fd_M_80 rfl rfl rfl ?_
            refine Wp_iconst (x := 3) d_M_seen_50 (by decide) ?_
            refine Wp_aload_n d_M_seen_51 rfl ?_
            refine Wp_getf d_M_seen_52 fd_M_263 rfl rfl rfl ?_
            refine Wp_eqi (x2 := S 33 28) hM.2.2.1 ?_
            refine Wp_eqi (x2 := nI (sSn S)) (VM_sn hV).1 ?_
            refine Wp_imul d_M_seen_55 ?_
            refine Wp_eqi (x2 := nI (3 * (sSn S))) (pk_mul 3 (sSn S)) ?_
            refine Wp_iload_n d_M_seen_56 rfl ?_
            refine Wp_iastN (j := (3 * (sSn S))) d_M_seen_57 rfl rfl rfl rfl (by omega) ?_
            refine Wp_aload_n d_M_seen_58 rfl ?_
            refine Wp_getr d_M_seen_59 fd_M_80 rfl rfl rfl ?_
            refine Wp_iconst (x := 3) d_M_seen_62 (by decide) ?_
            refine Wp_aload_n d_M_seen_63 rfl ?_
            refine Wp_getf d_M_seen_64 fd_M_263 rfl rfl rfl ?_
            refine Wp_eqi (x2 := w 33 28) (by simp [mU, mUr, upd]) ?_
            refine Wp_eqi (x2 := S 33 28) hM.2.2.1 ?_
            refine Wp_eqi (x2 := nI (sSn S)) (VM_sn hV).1 ?_
            refine Wp_imul d_M_seen_67 ?_
            refine Wp_eqi (x2 := nI (3 * (sSn S))) (pk_mul 3 (sSn S)) ?_
            refine Wp_iconst (x := 1) d_M_seen_68 (by decide) ?_
            refine Wp_iadd d_M_seen_69 ?_
            refine Wp_eqi (x2 := nI ((3 * (sSn S)) + 1)) (nI_add (3 * (sSn S)) 1) ?_
            refine Wp_iload_n d_M_seen_70 rfl ?_
            refine Wp_iastN (j := ((3 * (sSn S)) + 1)) d_M_seen_71 rfl rfl rfl rfl (by omega) ?_
            refine Wp_aload_n d_M_seen_72 rfl ?_
            refine Wp_getr d_M_seen_73 fd_M_80 rfl rfl rfl ?_
            refine Wp_iconst (x := 3) d_M_seen_76 (by decide) ?_
            refine Wp_aload_n d_M_seen_77 rfl ?_
            refine Wp_getf d_M_seen_78 fd_M_263 rfl rfl rfl ?_
            refine Wp_eqi (x2 := w 33 28) (by simp [mU, mUr, upd]) ?_
            refine Wp_eqi (x2 := S 33 28) hM.2.2.1 ?_
            refine Wp_eqi (x2 := nI (sSn S)) (VM_sn hV).1 ?_
            refine Wp_imul d_M_seen_81 ?_
            refine Wp_eqi (x2 := nI (3 * (sSn S))) (pk_mul 3 (sSn S)) ?_
            refine Wp_iconst (x := 2) d_M_seen_82 (by decide) ?_
            refine Wp_iadd d_M_seen_83 ?_
            refine Wp_eqi (x2 := nI ((3 * (sSn S)) + 2)) (nI_add (3 * (sSn S)) 2) ?_
            refine Wp_iload_n d_M_seen_84 rfl ?_
            refine Wp_iastN (j := ((3 * (sSn S)) + 2)) d_M_seen_85 rfl rfl rfl rfl (by omega) ?_
            refine Wp_aload_n d_M_seen_86 rfl ?_
            refine Wp_dup d_M_seen_87 rfl ?_
            refine Wp_getf d_M_seen_88 fd_M_263 rfl rfl rfl ?_
            refine Wp_eqi (x2 := w 33 28) (by simp [mU, mUr, upd]) ?_
            refine Wp_eqi (x2 := S 33 28) hM.2.2.1 ?_
            refine Wp_eqi (x2 := nI (sSn S)) (VM_sn hV).1 ?_
            refine Wp_iconst (x := 1) d_M_seen_91 (by decide) ?_
            refine Wp_iadd d_M_seen_92 ?_
            refine Wp_eqi (x2 := nI ((sSn S) + 1)) (nI_add (sSn S) 1) ?_
            refine Wp_puti d_M_seen_93 fp_M_263 rfl rfl rfl ?_
            refine Wp_aload_n d_M_seen_96 rfl ?_
            refine Wp_getf d_M_seen_97 fd_M_263 rfl rfl rfl ?_
            refine Wp_eqi (x2 := nI ((sSn S) + 1)) (by simp [mU, mUr, upd]) ?_
            refine Wp_reti (ty := .int) d_M_seen_100 rfl rfl ?_
            have e9 : oSeen S (nI a1) (nI b1) f = (nI (sSn S + 1), mU (mU (mU (mU S 57 (3 * sSn S) (nI a1)) 57 (3 * sSn S + 1) (nI b1)) 57 (3 * sSn S + 2) f) 33 28 (nI (sSn S + 1))) := by unfold oSeen; rw [if_neg (by omega), if_neg (by omega)]
            rw [e9]; exact ⟨rfl, MM_f (MM_p (MM_p (MM_p hM (by decide)) (by decide)) (by decide)), fr_U2 (fr_U2 (fr_U2 (fr_U (by decide)) (by decide)) (by decide)) (by decide)⟩
          ·
            have g40 : (sSn S) = 8 := n_eq h40 (by omega) (by omega)
            refine Wp_bipush (x := (-4)) d_M_seen_43 (by decide) ?_
            refine Wp_reti (ty := .int) d_M_seen_45 rfl rfl ?_
            have e9 : oSeen S (nI a1) (nI b1) f = (-4, S) := by unfold oSeen; rw [if_neg (by omega), if_pos (by omega)]
            rw [e9]; exact ⟨rfl, hM, fr_rf⟩
        ·
          refine Wp_if_ne d_M_seen_28 (fun q => absurd q (by decide)) (fun _ => ?_)
          refine Wp_bipush (x := (-2)) d_M_seen_31 (by decide) ?_
          refine Wp_reti (ty := .int) d_M_seen_33 rfl rfl ?_
          have e9 : oSeen S (nI a1) (nI b1) f = (-2, S) := by unfold oSeen; rw [if_pos (by omega)]
          rw [e9]; exact ⟨rfl, hM, fr_rf⟩
    ·
      refine Wp_if_eq d_M_seen_11 (fun _ => ?_) (fun q => absurd (by decide) q)
      refine Wp_bipush (x := (-2)) d_M_seen_31 (by decide) ?_
      refine Wp_reti (ty := .int) d_M_seen_33 rfl rfl ?_
      have e9 : oSeen S (nI a1) b f = (-2, S) := by unfold oSeen; rw [if_pos (by omega)]
      rw [e9]; exact ⟨rfl, hM, fr_rf⟩
  ·
    refine Wp_if_eq d_M_seen_4 (fun _ => ?_) (fun q => absurd (by decide) q)
    refine Wp_bipush (x := (-2)) d_M_seen_31 (by decide) ?_
    refine Wp_reti (ty := .int) d_M_seen_33 rfl rfl ?_
    have e9 : oSeen S a b f = (-2, S) := by unfold oSeen; rw [if_pos (by omega)]
    rw [e9]; exact ⟨rfl, hM, fr_rf⟩
set_option maxRecDepth 100000 in
set_option maxHeartbeats 4000000 in
theorem t_M_lose (E : mE) (d : Nat) (hd : 2 ≤ d) (w : mw) (S : mw) (hM : MM w S) (hV : VM S) (s : Int32) : Ti E d m_M_lose [vr 33, vi s] w (fun r w1 => r = (oLose S s).1 ∧ MM w1 (oLose S s).2 ∧ fr mRows w w1) := by
  refine ⟨Nat.le_of_ble_eq_true rfl, ?_⟩
  show Wp E d m_M_lose 0 [lr 33, li s] [] w _
  refine Wp_iload_n d_M_lose_0 rfl ?_
  refine Wp_ivs_b (As := [vi s]) d_M_lose_1 ln_M_98 mk_M_isSheet rfl rfl rfl (by omega) (t_M_isSheet E (d - 1) (by omega) w s) (fun g1 => ?_) (fun g1 => ?_)
  ·
    obtain ⟨s1, h_s1, rfl⟩ := sh_of g1
    refine Wp_if_ne d_M_lose_4 (fun _ => ?_) (fun q => absurd q (by decide))
    refine Wp_aload_n d_M_lose_10 rfl ?_
    refine Wp_getr d_M_lose_11 fd_M_7 rfl rfl rfl ?_
    refine Wp_iload_n d_M_lose_14 rfl ?_
    refine Wp_ialdN (j := s1) d_M_lose_15 rfl rfl rfl rfl (by omega) ?_
    refine Wp_eqi (x2 := S 34 s1) (congrFun (hM.r 34) _) ?_
    refine Wp_if_ge d_M_lose_16 (fun h16 => ?_) (fun h16 => ?_)
    ·
      have g16 : 0 ≤ (S 34 s1).toInt := i_le h16
      refine Wp_aload_n d_M_lose_25 rfl ?_
      refine Wp_getr d_M_lose_26 fd_M_7 rfl rfl rfl ?_
      refine Wp_iload_n d_M_lose_29 rfl ?_
      refine Wp_iconst (x := (-1)) d_M_lose_30 (by decide) ?_
      refine Wp_iastN (j := s1) d_M_lose_31 rfl rfl rfl rfl (by omega) ?_
      refine Wp_aload_n d_M_lose_32 rfl ?_
      refine Wp_getr d_M_lose_33 fd_M_13 rfl rfl rfl ?_
      refine Wp_iload_n d_M_lose_36 rfl ?_
      refine Wp_ialdN (j := s1) d_M_lose_37 rfl rfl rfl rfl (by omega) ?_
      refine Wp_eqi (x2 := w 35 s1) (by simp [mU, mUr, upd]) ?_
      refine Wp_eqi (x2 := S 35 s1) (congrFun (hM.r 35) _) ?_
      refine Wp_reti (ty := .int) d_M_lose_38 rfl rfl ?_
      have e9 : oLose S (nI s1) = (S 35 s1, mU S 34 s1 (-1)) := by unfold oLose; rw [if_neg (by have := ti (show s1 < 2147483648 by omega); omega), cl (by omega), if_neg (by omega)]
      rw [e9]; exact ⟨rfl, MM_p hM (by decide), fr_U (by decide)⟩
    ·
      have g16 : (S 34 s1).toInt < 0 := i_nle h16
      refine Wp_aload_n d_M_lose_19 rfl ?_
      refine Wp_iconst (x := 1) d_M_lose_20 (by decide) ?_
      refine Wp_ivv_d (o := 33) (As := [vi 1]) d_M_lose_21 ln_M_104 mk_M_met rfl rfl rfl rfl rfl (by omega) (t_M_met E (d - 1) (by omega) w 1 (-11) (by decide)) ?_
      refine Wp_reti (ty := .int) d_M_lose_24 rfl rfl ?_
      have e9 : oLose S (nI s1) = (-11, mU S 33 4 1) := by unfold oLose; rw [if_neg (by have := ti (show s1 < 2147483648 by omega); omega), cl (by omega), if_pos (by omega)]
      rw [e9]; exact ⟨rfl, MM_f hM, fr_U (by decide)⟩
  ·
    refine Wp_if_ne d_M_lose_4 (fun q => absurd q (by decide)) (fun _ => ?_)
    refine Wp_bipush (x := (-2)) d_M_lose_7 (by decide) ?_
    refine Wp_reti (ty := .int) d_M_lose_9 rfl rfl ?_
    have e9 : oLose S s = (-2, S) := by unfold oLose; rw [if_pos (by omega)]
    rw [e9]; exact ⟨rfl, hM, fr_rf⟩
end
section
set_option maxRecDepth 100000 in
set_option maxHeartbeats 4000000 in
theorem l_M_sheet (E : mE) (d : Nat) (hd : 2 ≤ d) (s n : Nat) (f : Int32) (hs : s < 4) (hn : n ≤ 60) : ∀ (k i : Nat) (w : mw), i + k = n → Wp E d m_M_sheet 55 [lr 33, li (nI s), li f, li (nI n), li (nI i)] [] w (mPi (fun r w1 => r = nI n ∧ w1 = mUr w 36 (clrF (w 36) (60 * s + i) (60 * s + n)))) := by
  intro k
  induction k with
  | zero =>
    intro i w hi
    refine Wp_iload d_M_sheet_55 rfl ?_
    refine Wp_iload_n d_M_sheet_57 rfl ?_
    refine Wp_icmp_ge d_M_sheet_58 (fun h58 => ?_) (fun q => absurd (n_nle q (by omega) (by omega)) (by omega))
    refine Wp_iload_n d_M_sheet_80 rfl ?_
    refine Wp_reti (ty := .int) d_M_sheet_81 rfl rfl ?_
    have hin : i = n := by omega
    subst hin
    exact ⟨rfl, by rw [clrF_e, mUr_self]⟩
  | succ k ih =>
    intro i w hi
    refine Wp_iload d_M_sheet_55 rfl ?_
    refine Wp_iload_n d_M_sheet_57 rfl ?_
    refine Wp_icmp_ge d_M_sheet_58 (fun q => absurd (n_le q (by omega) (by omega)) (by omega)) (fun h58 => ?_)
    refine Wp_aload_n d_M_sheet_61 rfl ?_
    refine Wp_getr d_M_sheet_62 fd_M_16 rfl rfl rfl ?_
    refine Wp_bipush (x := 60) d_M_sheet_65 (by decide) ?_
    refine Wp_iload_n d_M_sheet_67 rfl ?_
    refine Wp_imul d_M_sheet_68 ?_
    refine Wp_eqi (x2 := nI (60 * s)) (pk_mul 60 s) ?_
    refine Wp_iload d_M_sheet_69 rfl ?_
    refine Wp_iadd d_M_sheet_71 ?_
    refine Wp_eqi (x2 := nI ((60 * s) + i)) (nI_add (60 * s) i) ?_
    refine Wp_iconst (x := 0) d_M_sheet_72 (by decide) ?_
    refine Wp_iastN (j := ((60 * s) + i)) d_M_sheet_73 rfl rfl rfl rfl (by omega) ?_
    refine Wp_iinc (z := nI (i + 1)) (ls2 := [lr 33, li (nI s), li f, li (nI n), li (nI (i + 1))]) d_M_sheet_74 rfl (nI_add i 1) rfl rfl rfl ?_
    refine Wp_goto d_M_sheet_77 ?_
    refine Wp_mi (ih (i + 1) _ (by omega)) (fun r w1 h => ⟨h.1, ?_⟩)
    rw [h.2]; unfold mU; rw [mUr_eq, mUr_mUr]
    rw [show 60 * s + (i + 1) = 60 * s + i + 1 by omega, clrF_s (by omega)]
set_option maxRecDepth 100000 in
set_option maxHeartbeats 4000000 in
theorem t_M_sheet (E : mE) (d : Nat) (hd : 2 ≤ d) (w : mw) (S : mw) (hM : MM w S) (hV : VM S) (s f n : Int32) : Ti E d m_M_sheet [vr 33, vi s, vi f, vi n] w (fun r w1 => r = (oSheet S s f n).1 ∧ MM w1 (oSheet S s f n).2 ∧ fr mRows w w1) := by
  refine ⟨Nat.le_of_ble_eq_true rfl, ?_⟩
  show Wp E d m_M_sheet 0 [lr 33, li s, li f, li n, lo] [] w _
  refine Wp_iload_n d_M_sheet_0 rfl ?_
  refine Wp_ivs_b (As := [vi s]) d_M_sheet_1 ln_M_98 mk_M_isSheet rfl rfl rfl (by omega) (t_M_isSheet E (d - 1) (by omega) w s) (fun g1 => ?_) (fun g1 => ?_)
  ·
    obtain ⟨s1, h_s1, rfl⟩ := sh_of g1
    refine Wp_if_eq d_M_sheet_4 (fun q => absurd q (by decide)) (fun _ => ?_)
    refine Wp_iload_n d_M_sheet_7 rfl ?_
    refine Wp_i2l d_M_sheet_8 ?_
    refine Wp_lconst (x := 0) d_M_sheet_9 (by decide) ?_
    refine Wp_ldc2 (x := 2) d_M_sheet_10 kl_M_102 ?_
    refine Wp_ivs_b (As := [vl f.toInt64, vl 0, vl 2]) d_M_sheet_13 ln_M_88 mk_M_in rfl rfl rfl (by omega) (t_M_inI E (d - 1) w (x := f) (lo := 0) (hi := 2) (by decide) (by decide)) (fun g13 => ?_) (fun g13 => ?_)
    ·
      refine Wp_if_eq d_M_sheet_16 (fun q => absurd q (by decide)) (fun _ => ?_)
      refine Wp_iload_n d_M_sheet_19 rfl ?_
      refine Wp_bipush (x := 60) d_M_sheet_20 (by decide) ?_
      refine Wp_icmp_le d_M_sheet_22 (fun h22 => ?_) (fun h22 => ?_)
      ·
        have g22 : n.toInt ≤ 60 := i_le h22
        refine Wp_iload_n d_M_sheet_28 rfl ?_
        refine Wp_if_ge d_M_sheet_29 (fun h29 => ?_) (fun h29 => ?_)
        ·
          have g29 : 0 ≤ n.toInt := i_le h29
          refine Wp_aload_n d_M_sheet_38 rfl ?_
          refine Wp_getr d_M_sheet_39 fd_M_7 rfl rfl rfl ?_
          refine Wp_iload_n d_M_sheet_42 rfl ?_
          refine Wp_iload_n d_M_sheet_43 rfl ?_
          refine Wp_iastN (j := s1) d_M_sheet_44 rfl rfl rfl rfl (by omega) ?_
          refine Wp_aload_n d_M_sheet_45 rfl ?_
          refine Wp_getr d_M_sheet_46 fd_M_13 rfl rfl rfl ?_
          refine Wp_iload_n d_M_sheet_49 rfl ?_
          refine Wp_iload_n d_M_sheet_50 rfl ?_
          refine Wp_iastN (j := s1) d_M_sheet_51 rfl rfl rfl rfl (by omega) ?_
          refine Wp_iconst (x := 0) d_M_sheet_52 (by decide) ?_
          refine Wp_istore (ls2 := [lr 33, li (nI s1), li f, li n, li 0]) d_M_sheet_53 rfl rfl rfl ?_
          obtain ⟨n1, hn1, rfl⟩ : ∃ j : Nat, j < 61 ∧ n = nI j := i_nIof (by omega) (by omega)
          have hn2 := ti (show n1 < 2147483648 by omega)
          have hs2 := ti (show s1 < 2147483648 by omega)
          refine Wp_mi (l_M_sheet E d (by omega) s1 n1 f (by omega) (by omega) n1 0 _ (by omega)) (fun r w1 h => ?_)
          have e9 : oSheet S (nI s1) f (nI n1) = (nI n1, mUr (mU (mU S 34 s1 f) 35 s1 (nI n1)) 36 (clr (S 36) s1 n1)) := by unfold oSheet; rw [if_neg (by omega), if_neg (by omega), cl (by omega), cl (by omega)]
          rw [e9, h.1, h.2]
          refine ⟨rfl, ?_, fr_Ur2 (fr_U2 (fr_U (by decide)) (by decide)) (by decide)⟩
          rw [clr_F, show (mU (mU w 34 s1 f) 35 s1 (nI n1)) 36 = S 36 by rw [mU_ne (by decide), mU_ne (by decide)]; exact hM.r 36, Nat.add_zero]
          exact MM_pr (MM_p (MM_p hM (by decide)) (by decide)) (by decide)
        ·
          have g29 : n.toInt < 0 := i_nle h29
          refine Wp_aload_n d_M_sheet_32 rfl ?_
          refine Wp_iconst (x := 5) d_M_sheet_33 (by decide) ?_
          refine Wp_ivv_d (o := 33) (As := [vi 5]) d_M_sheet_34 ln_M_104 mk_M_met rfl rfl rfl rfl rfl (by omega) (t_M_met E (d - 1) (by omega) w 5 (-15) (by decide)) ?_
          refine Wp_reti (ty := .int) d_M_sheet_37 rfl rfl ?_
          have e9 : oSheet S (nI s1) f n = (-15, mU S 33 4 5) := by unfold oSheet; rw [if_neg (by omega), if_pos (by omega)]
          rw [e9]; exact ⟨rfl, MM_f hM, fr_U (by decide)⟩
      ·
        have g22 : 60 < n.toInt := i_nle h22
        refine Wp_bipush (x := (-2)) d_M_sheet_25 (by decide) ?_
        refine Wp_reti (ty := .int) d_M_sheet_27 rfl rfl ?_
        have e9 : oSheet S (nI s1) f n = (-2, S) := by unfold oSheet; rw [if_pos (by omega)]
        rw [e9]; exact ⟨rfl, hM, fr_rf⟩
    ·
      refine Wp_if_eq d_M_sheet_16 (fun _ => ?_) (fun q => absurd (by decide) q)
      refine Wp_bipush (x := (-2)) d_M_sheet_25 (by decide) ?_
      refine Wp_reti (ty := .int) d_M_sheet_27 rfl rfl ?_
      have e9 : oSheet S (nI s1) f n = (-2, S) := by unfold oSheet; rw [if_pos (by omega)]
      rw [e9]; exact ⟨rfl, hM, fr_rf⟩
  ·
    refine Wp_if_eq d_M_sheet_4 (fun _ => ?_) (fun q => absurd (by decide) q)
    refine Wp_bipush (x := (-2)) d_M_sheet_25 (by decide) ?_
    refine Wp_reti (ty := .int) d_M_sheet_27 rfl rfl ?_
    have e9 : oSheet S s f n = (-2, S) := by unfold oSheet; rw [if_pos (by omega)]
    rw [e9]; exact ⟨rfl, hM, fr_rf⟩
theorem subn (n : Nat) (h : n < 2147483648) : (nI n - 1).toInt = (n : Int) - 1 := by
  by_cases h0 : n = 0
  · subst h0; decide
  · have := pk_sub (a := n) (b := 1) (by omega)
    rw [show (1 : Int32) = nI 1 from rfl, this, ti (by omega)]; omega
set_option maxRecDepth 100000 in
set_option maxHeartbeats 4000000 in
theorem t_M_lacks (E : mE) (d : Nat) (hd : 1 ≤ d) (w : mw) (S : mw) (hM : MM w S) (hV : VM S) (s : Nat) (f i : Int32) (hs : s < 4) : Ti E d m_M_lacks [vr 33, vi (nI s), vi f, vi i] w (fun r w1 => (lckS S s f i = 0 ∧ r = 0 ∧ w1 = w) ∨ (lckS S s f i ≠ 0 ∧ r ≠ 0 ∧ r = -10 - lckS S s f i ∧ w1 = mU w 33 4 (lckS S s f i))) := by
  refine ⟨Nat.le_of_ble_eq_true rfl, ?_⟩
  show Wp E d m_M_lacks 0 [lr 33, li (nI s), li f, li i] [] w _
  have hz := (VM_sz hV s hs).2
  refine Wp_aload_n d_M_lacks_0 rfl ?_
  refine Wp_getr d_M_lacks_1 fd_M_7 rfl rfl rfl ?_
  refine Wp_iload_n d_M_lacks_4 rfl ?_
  refine Wp_ialdN (j := s) d_M_lacks_5 rfl rfl rfl rfl (by omega) ?_
  refine Wp_eqi (x2 := S 34 s) (congrFun (hM.r 34) _) ?_
  refine Wp_if_ge d_M_lacks_6 (fun h6 => ?_) (fun h6 => ?_)
  ·
    have g6 : 0 ≤ (S 34 s).toInt := i_le h6
    refine Wp_aload_n d_M_lacks_15 rfl ?_
    refine Wp_getr d_M_lacks_16 fd_M_7 rfl rfl rfl ?_
    refine Wp_iload_n d_M_lacks_19 rfl ?_
    refine Wp_ialdN (j := s) d_M_lacks_20 rfl rfl rfl rfl (by omega) ?_
    refine Wp_eqi (x2 := S 34 s) (congrFun (hM.r 34) _) ?_
    refine Wp_iload_n d_M_lacks_21 rfl ?_
    refine Wp_icmp_eq d_M_lacks_22 (fun h22 => ?_) (fun h22 => ?_)
    ·
      refine Wp_iload_n d_M_lacks_31 rfl ?_
      refine Wp_i2l d_M_lacks_32 ?_
      refine Wp_lconst (x := 0) d_M_lacks_33 (by decide) ?_
      refine Wp_aload_n d_M_lacks_34 rfl ?_
      refine Wp_getr d_M_lacks_35 fd_M_13 rfl rfl rfl ?_
      refine Wp_iload_n d_M_lacks_38 rfl ?_
      refine Wp_ialdN (j := s) d_M_lacks_39 rfl rfl rfl rfl (by omega) ?_
      refine Wp_eqi (x2 := S 35 s) (congrFun (hM.r 35) _) ?_
      refine Wp_eqi (x2 := nI (sSz S s)) (VM_sz hV _ (by omega)).1 ?_
      refine Wp_iconst (x := 1) d_M_lacks_40 (by decide) ?_
      refine Wp_isub d_M_lacks_41 ?_
      refine Wp_i2l d_M_lacks_42 ?_
      refine Wp_ivs_b (As := [vl i.toInt64, vl 0, vl (((nI (sSz S s)) - 1).toInt64)]) d_M_lacks_43 ln_M_88 mk_M_in rfl rfl rfl (by omega) (t_M_inI E (d - 1) w (x := i) (lo := 0) (hi := (sSz S s : Int) - 1) (by decide) (by rw [Int32.toInt_toInt64]; exact subn _ (by omega))) (fun g43 => ?_) (fun g43 => ?_)
      ·
        refine Wp_if_eq d_M_lacks_46 (fun q => absurd q (by decide)) (fun _ => ?_)
        refine Wp_iconst (x := 0) d_M_lacks_49 (by decide) ?_
        refine Wp_goto d_M_lacks_50 ?_
        refine Wp_reti (ty := .int) d_M_lacks_58 rfl rfl ?_
        have e9 : lckS S s f i = 0 := by unfold lckS; rw [if_neg (by omega), if_neg (fun q => q (by assumption)), if_pos (by omega)]
        exact Or.inl ⟨e9, rfl, rfl⟩
      ·
        refine Wp_if_eq d_M_lacks_46 (fun _ => ?_) (fun q => absurd (by decide) q)
        refine Wp_aload_n d_M_lacks_53 rfl ?_
        refine Wp_iconst (x := 2) d_M_lacks_54 (by decide) ?_
        refine Wp_ivv_d (o := 33) (As := [vi 2]) d_M_lacks_55 ln_M_104 mk_M_met rfl rfl rfl rfl rfl (by omega) (t_M_met E (d - 1) (by omega) w 2 (-12) (by decide)) ?_
        refine Wp_reti (ty := .int) d_M_lacks_58 rfl rfl ?_
        have e9 : lckS S s f i = 2 := by unfold lckS; rw [if_neg (by omega), if_neg (fun q => q (by assumption)), if_neg (by omega)]
        rw [e9]; exact Or.inr ⟨by decide, by decide, by decide, rfl⟩
    ·
      have g22 : (S 34 s).toInt ≠ f.toInt := i_ne h22
      refine Wp_aload_n d_M_lacks_25 rfl ?_
      refine Wp_iconst (x := 3) d_M_lacks_26 (by decide) ?_
      refine Wp_ivv_d (o := 33) (As := [vi 3]) d_M_lacks_27 ln_M_104 mk_M_met rfl rfl rfl rfl rfl (by omega) (t_M_met E (d - 1) (by omega) w 3 (-13) (by decide)) ?_
      refine Wp_reti (ty := .int) d_M_lacks_30 rfl rfl ?_
      have e9 : lckS S s f i = 3 := by unfold lckS; rw [if_neg (by omega), if_pos (by assumption)]
      rw [e9]; exact Or.inr ⟨by decide, by decide, by decide, rfl⟩
  ·
    have g6 : (S 34 s).toInt < 0 := i_nle h6
    refine Wp_aload_n d_M_lacks_9 rfl ?_
    refine Wp_iconst (x := 1) d_M_lacks_10 (by decide) ?_
    refine Wp_ivv_d (o := 33) (As := [vi 1]) d_M_lacks_11 ln_M_104 mk_M_met rfl rfl rfl rfl rfl (by omega) (t_M_met E (d - 1) (by omega) w 1 (-11) (by decide)) ?_
    refine Wp_reti (ty := .int) d_M_lacks_14 rfl rfl ?_
    have e9 : lckS S s f i = 1 := by unfold lckS; rw [if_pos (by omega)]
    rw [e9]; exact Or.inr ⟨by decide, by decide, by decide, rfl⟩
theorem lck_in {S : mw} {s : Nat} {f i : Int32} (h : lckS S s f i = 0) (hz : sSz S s ≤ 60) : ∃ j, j < 60 ∧ i = nI j := by
  unfold lckS at h
  by_cases h1 : (S 34 s).toInt < 0
  · rw [if_pos h1] at h; exact absurd h (by decide)
  · rw [if_neg h1] at h
    by_cases h2 : S 34 s ≠ f
    · rw [if_pos h2] at h; exact absurd h (by decide)
    · rw [if_neg h2] at h
      by_cases h3 : 0 ≤ i.toInt ∧ i.toInt < sSz S s
      · exact i_nIof h3.1 (by omega)
      · rw [if_neg h3] at h; exact absurd h (by decide)
set_option maxRecDepth 100000 in
set_option maxHeartbeats 4000000 in
theorem t_M_lay (E : mE) (d : Nat) (hd : 2 ≤ d) (w : mw) (S : mw) (hM : MM w S) (hV : VM S) (s f i v : Int32) : Ti E d m_M_lay [vr 33, vi s, vi f, vi i, vi v] w (fun r w1 => r = (oLay S s f i v).1 ∧ MM w1 (oLay S s f i v).2 ∧ fr mRows w w1) := by
  refine ⟨Nat.le_of_ble_eq_true rfl, ?_⟩
  show Wp E d m_M_lay 0 [lr 33, li s, li f, li i, li v, lo] [] w _
  refine Wp_iload_n d_M_lay_0 rfl ?_
  refine Wp_ivs_b (As := [vi s]) d_M_lay_1 ln_M_98 mk_M_isSheet rfl rfl rfl (by omega) (t_M_isSheet E (d - 1) (by omega) w s) (fun g1 => ?_) (fun g1 => ?_)
  ·
    obtain ⟨s1, h_s1, rfl⟩ := sh_of g1
    refine Wp_if_eq d_M_lay_4 (fun q => absurd q (by decide)) (fun _ => ?_)
    refine Wp_iload_n d_M_lay_7 rfl ?_
    refine Wp_i2l d_M_lay_8 ?_
    refine Wp_lconst (x := 0) d_M_lay_9 (by decide) ?_
    refine Wp_ldc2 (x := 2) d_M_lay_10 kl_M_102 ?_
    refine Wp_ivs_b (As := [vl f.toInt64, vl 0, vl 2]) d_M_lay_13 ln_M_88 mk_M_in rfl rfl rfl (by omega) (t_M_inI E (d - 1) w (x := f) (lo := 0) (hi := 2) (by decide) (by decide)) (fun g13 => ?_) (fun g13 => ?_)
    ·
      refine Wp_if_ne d_M_lay_16 (fun _ => ?_) (fun q => absurd q (by decide))
      refine Wp_aload_n d_M_lay_22 rfl ?_
      refine Wp_iload_n d_M_lay_23 rfl ?_
      refine Wp_iload_n d_M_lay_24 rfl ?_
      refine Wp_iload_n d_M_lay_25 rfl ?_
      refine Wp_ivv_i (o := 33) (As := [vi (nI s1), vi f, vi i]) d_M_lay_26 ln_M_108 mk_M_lacks rfl rfl rfl rfl rfl (by omega) (t_M_lacks E (d - 1) (by omega) w S hM hV s1 f i (by omega)) (fun r26 w26 c26 => ?_)
      rcases c26 with ⟨k26, j26, v26⟩ | ⟨k26, z26, j26, v26⟩
      ·
        rw [j26, v26]
        obtain ⟨i1, h_i1, rfl⟩ := lck_in k26 (VM_sz hV s1 (by omega)).2
        refine Wp_istore (ls2 := [lr 33, li (nI s1), li f, li (nI i1), li v, li 0]) d_M_lay_29 rfl rfl rfl ?_
        refine Wp_iload d_M_lay_31 rfl ?_
        refine Wp_if_eq d_M_lay_33 (fun _ => ?_) (fun q => absurd (by decide) q)
        refine Wp_aload_n d_M_lay_39 rfl ?_
        refine Wp_getr d_M_lay_40 fd_M_16 rfl rfl rfl ?_
        refine Wp_bipush (x := 60) d_M_lay_43 (by decide) ?_
        refine Wp_iload_n d_M_lay_45 rfl ?_
        refine Wp_imul d_M_lay_46 ?_
        refine Wp_eqi (x2 := nI (60 * s1)) (pk_mul 60 s1) ?_
        refine Wp_iload_n d_M_lay_47 rfl ?_
        refine Wp_iadd d_M_lay_48 ?_
        refine Wp_eqi (x2 := nI ((60 * s1) + i1)) (nI_add (60 * s1) i1) ?_
        refine Wp_iload_n d_M_lay_49 rfl ?_
        refine Wp_iload d_M_lay_50 rfl ?_
        refine Wp_ivs_d (As := [vi f, vi v]) d_M_lay_52 ln_M_112 mk_M_cut rfl rfl rfl (by omega) (t_M_cut E (d - 1) (by omega) w f v) ?_
        refine Wp_iastN (j := ((60 * s1) + i1)) d_M_lay_55 rfl rfl rfl rfl (by omega) ?_
        refine Wp_iconst (x := 1) d_M_lay_56 (by decide) ?_
        refine Wp_reti (ty := .int) d_M_lay_57 rfl rfl ?_
        have e9 : oLay S (nI s1) f (nI i1) v = (1, mU S 36 (60 * s1 + i1) (cutS f v)) := by unfold oLay; rw [if_neg (by have := ti (show s1 < 2147483648 by omega); omega), cl (by omega), if_neg (fun q => q k26), cl (by omega)]
        rw [e9]; exact ⟨rfl, MM_p hM (by decide), fr_U (by decide)⟩
      ·
        rw [v26]
        refine Wp_istore (ls2 := [lr 33, li (nI s1), li f, li i, li v, li r26]) d_M_lay_29 rfl rfl rfl ?_
        refine Wp_iload d_M_lay_31 rfl ?_
        refine Wp_if_eq d_M_lay_33 (fun q => absurd q z26) (fun _ => ?_)
        refine Wp_iload d_M_lay_36 rfl ?_
        refine Wp_reti (ty := .int) d_M_lay_38 rfl rfl ?_
        have e9 : oLay S (nI s1) f i v = (-10 - lckS S s1 f i, mU S 33 4 (lckS S s1 f i)) := by unfold oLay; rw [if_neg (by have := ti (show s1 < 2147483648 by omega); omega), cl (by omega), if_pos k26]
        rw [e9]; exact ⟨j26, MM_f hM, fr_U (by decide)⟩
    ·
      refine Wp_if_ne d_M_lay_16 (fun q => absurd q (by decide)) (fun _ => ?_)
      refine Wp_bipush (x := (-2)) d_M_lay_19 (by decide) ?_
      refine Wp_reti (ty := .int) d_M_lay_21 rfl rfl ?_
      have e9 : oLay S (nI s1) f i v = (-2, S) := by unfold oLay; rw [if_pos (by omega)]
      rw [e9]; exact ⟨rfl, hM, fr_rf⟩
  ·
    refine Wp_if_eq d_M_lay_4 (fun _ => ?_) (fun q => absurd (by decide) q)
    refine Wp_bipush (x := (-2)) d_M_lay_19 (by decide) ?_
    refine Wp_reti (ty := .int) d_M_lay_21 rfl rfl ?_
    have e9 : oLay S s f i v = (-2, S) := by unfold oLay; rw [if_pos (by omega)]
    rw [e9]; exact ⟨rfl, hM, fr_rf⟩
set_option maxRecDepth 100000 in
set_option maxHeartbeats 4000000 in
theorem t_M_get (E : mE) (d : Nat) (hd : 2 ≤ d) (w : mw) (S : mw) (hM : MM w S) (hV : VM S) (s f i : Int32) : Ti E d m_M_get [vr 33, vi s, vi f, vi i] w (fun r w1 => r = (oGet S s f i).1 ∧ MM w1 (oGet S s f i).2 ∧ fr mRows w w1) := by
  refine ⟨Nat.le_of_ble_eq_true rfl, ?_⟩
  show Wp E d m_M_get 0 [lr 33, li s, li f, li i] [] w _
  refine Wp_iload_n d_M_get_0 rfl ?_
  refine Wp_ivs_b (As := [vi s]) d_M_get_1 ln_M_98 mk_M_isSheet rfl rfl rfl (by omega) (t_M_isSheet E (d - 1) (by omega) w s) (fun g1 => ?_) (fun g1 => ?_)
  ·
    obtain ⟨s1, h_s1, rfl⟩ := sh_of g1
    refine Wp_if_eq d_M_get_4 (fun q => absurd q (by decide)) (fun _ => ?_)
    refine Wp_iload_n d_M_get_7 rfl ?_
    refine Wp_i2l d_M_get_8 ?_
    refine Wp_lconst (x := 0) d_M_get_9 (by decide) ?_
    refine Wp_ldc2 (x := 2) d_M_get_10 kl_M_102 ?_
    refine Wp_ivs_b (As := [vl f.toInt64, vl 0, vl 2]) d_M_get_13 ln_M_88 mk_M_in rfl rfl rfl (by omega) (t_M_inI E (d - 1) w (x := f) (lo := 0) (hi := 2) (by decide) (by decide)) (fun g13 => ?_) (fun g13 => ?_)
    ·
      refine Wp_if_eq d_M_get_16 (fun q => absurd q (by decide)) (fun _ => ?_)
      refine Wp_aload_n d_M_get_19 rfl ?_
      refine Wp_iload_n d_M_get_20 rfl ?_
      refine Wp_iload_n d_M_get_21 rfl ?_
      refine Wp_iload_n d_M_get_22 rfl ?_
      refine Wp_ivv_i (o := 33) (As := [vi (nI s1), vi f, vi i]) d_M_get_23 ln_M_108 mk_M_lacks rfl rfl rfl rfl rfl (by omega) (t_M_lacks E (d - 1) (by omega) w S hM hV s1 f i (by omega)) (fun r23 w23 c23 => ?_)
      rcases c23 with ⟨k23, j23, v23⟩ | ⟨k23, z23, j23, v23⟩
      ·
        rw [j23, v23]
        obtain ⟨i1, h_i1, rfl⟩ := lck_in k23 (VM_sz hV s1 (by omega)).2
        refine Wp_if_eq d_M_get_26 (fun _ => ?_) (fun q => absurd (by decide) q)
        refine Wp_aload_n d_M_get_32 rfl ?_
        refine Wp_getr d_M_get_33 fd_M_16 rfl rfl rfl ?_
        refine Wp_bipush (x := 60) d_M_get_36 (by decide) ?_
        refine Wp_iload_n d_M_get_38 rfl ?_
        refine Wp_imul d_M_get_39 ?_
        refine Wp_eqi (x2 := nI (60 * s1)) (pk_mul 60 s1) ?_
        refine Wp_iload_n d_M_get_40 rfl ?_
        refine Wp_iadd d_M_get_41 ?_
        refine Wp_eqi (x2 := nI ((60 * s1) + i1)) (nI_add (60 * s1) i1) ?_
        refine Wp_ialdN (j := ((60 * s1) + i1)) d_M_get_42 rfl rfl rfl rfl (by omega) ?_
        refine Wp_eqi (x2 := S 36 ((60 * s1) + i1)) (congrFun (hM.r 36) _) ?_
        refine Wp_reti (ty := .int) d_M_get_43 rfl rfl ?_
        have e9 : oGet S (nI s1) f (nI i1) = (S 36 (60 * s1 + i1), S) := by unfold oGet; rw [if_neg (by have := ti (show s1 < 2147483648 by omega); omega), cl (by omega), if_neg (fun q => q k23), cl (by omega)]
        rw [e9]; exact ⟨rfl, hM, fr_rf⟩
      ·
        rw [v23]
        refine Wp_if_eq d_M_get_26 (fun q => absurd q z23) (fun _ => ?_)
        refine Wp_ldc (x := (-2147483648)) d_M_get_29 kc_M_116 ?_
        refine Wp_reti (ty := .int) d_M_get_31 rfl rfl ?_
        have e9 : oGet S (nI s1) f i = (-2147483648, mU S 33 4 (lckS S s1 f i)) := by unfold oGet; rw [if_neg (by have := ti (show s1 < 2147483648 by omega); omega), cl (by omega), if_pos k23]
        rw [e9]; exact ⟨rfl, MM_f hM, fr_U (by decide)⟩
    ·
      refine Wp_if_eq d_M_get_16 (fun _ => ?_) (fun q => absurd (by decide) q)
      refine Wp_ldc (x := (-2147483648)) d_M_get_29 kc_M_116 ?_
      refine Wp_reti (ty := .int) d_M_get_31 rfl rfl ?_
      have e9 : oGet S (nI s1) f i = (-2147483648, S) := by unfold oGet; rw [if_pos (by omega)]
      rw [e9]; exact ⟨rfl, hM, fr_rf⟩
  ·
    refine Wp_if_eq d_M_get_4 (fun _ => ?_) (fun q => absurd (by decide) q)
    refine Wp_ldc (x := (-2147483648)) d_M_get_29 kc_M_116 ?_
    refine Wp_reti (ty := .int) d_M_get_31 rfl rfl ?_
    have e9 : oGet S s f i = (-2147483648, S) := by unfold oGet; rw [if_pos (by omega)]
    rw [e9]; exact ⟨rfl, hM, fr_rf⟩
set_option maxRecDepth 100000 in
set_option maxHeartbeats 4000000 in
theorem l_M_copy1 (E : mE) (d : Nat) (hd : 2 ≤ d) (s i t j n : Nat) (hs : s < 4) (ht : t < 4) (hi : i + n ≤ 60) (hj : j + n ≤ 60) (Q : Option mv → mw → Prop) : ∀ (k a : Nat) (w : mw), a + k = n → Wp E d m_M_copy 154 [lr 33, li (nI s), li (nI i), li (nI t), li (nI j), li (nI n), li (nI n)] [] (mUr w 37 (cpF (w 36) (w 37) (60 * s + i) (0) a n)) Q → Wp E d m_M_copy 120 [lr 33, li (nI s), li (nI i), li (nI t), li (nI j), li (nI n), li (nI a)] [] w Q := by
  intro k
  induction k with
  | zero =>
    intro a w ha hk
    refine Wp_iload d_M_copy_120 rfl ?_
    refine Wp_iload d_M_copy_122 rfl ?_
    refine Wp_icmp_ge d_M_copy_124 (fun h124 => ?_) (fun q => absurd (n_nle q (by omega) (by omega)) (by omega))
    have han : a = n := by omega
    subst han
    rw [cpF_e, mUr_self] at hk
    exact hk
  | succ k ih =>
    intro a w ha hk
    refine Wp_iload d_M_copy_120 rfl ?_
    refine Wp_iload d_M_copy_122 rfl ?_
    refine Wp_icmp_ge d_M_copy_124 (fun q => absurd (n_le q (by omega) (by omega)) (by omega)) (fun h124 => ?_)
    refine Wp_aload_n d_M_copy_127 rfl ?_
    refine Wp_getr d_M_copy_128 fd_M_19 rfl rfl rfl ?_
    refine Wp_iload d_M_copy_131 rfl ?_
    refine Wp_aload_n d_M_copy_133 rfl ?_
    refine Wp_getr d_M_copy_134 fd_M_16 rfl rfl rfl ?_
    refine Wp_bipush (x := 60) d_M_copy_137 (by decide) ?_
    refine Wp_iload_n d_M_copy_139 rfl ?_
    refine Wp_imul d_M_copy_140 ?_
    refine Wp_eqi (x2 := nI (60 * s)) (pk_mul 60 s) ?_
    refine Wp_iload_n d_M_copy_141 rfl ?_
    refine Wp_iadd d_M_copy_142 ?_
    refine Wp_eqi (x2 := nI ((60 * s) + i)) (nI_add (60 * s) i) ?_
    refine Wp_iload d_M_copy_143 rfl ?_
    refine Wp_iadd d_M_copy_145 ?_
    refine Wp_eqi (x2 := nI (((60 * s) + i) + a)) (nI_add ((60 * s) + i) a) ?_
    refine Wp_ialdN (j := (((60 * s) + i) + a)) d_M_copy_146 rfl rfl rfl rfl (by omega) ?_
    refine Wp_iastN (j := a) d_M_copy_147 rfl rfl rfl rfl (by omega) ?_
    refine Wp_iinc (z := nI (a + 1)) (ls2 := [lr 33, li (nI s), li (nI i), li (nI t), li (nI j), li (nI n), li (nI (a + 1))]) d_M_copy_148 rfl (nI_add a 1) rfl rfl rfl ?_
    refine Wp_goto d_M_copy_151 ?_
    refine ih (a + 1) _ (by omega) ?_
    have hh := cpF_s (f := w 36) (g := w 37) (a := 60 * s + i) (b := 0) (i := a) (n := n) (by omega)
    rw [Nat.zero_add] at hh
    unfold mU
    rw [mUr_mUr, mUr_ne (by decide), mUr_eq, hh]
    exact hk
set_option maxRecDepth 100000 in
set_option maxHeartbeats 4000000 in
theorem l_M_copy2 (E : mE) (d : Nat) (hd : 2 ≤ d) (s i t j n : Nat) (hs : s < 4) (ht : t < 4) (hi : i + n ≤ 60) (hj : j + n ≤ 60) (Q : Option mv → mw → Prop) : ∀ (k a : Nat) (w : mw), a + k = n → Wp E d m_M_copy 192 [lr 33, li (nI s), li (nI i), li (nI t), li (nI j), li (nI n), li (nI n)] [] (mUr w 36 (cpF (w 37) (w 36) (0) (60 * t + j) a n)) Q → Wp E d m_M_copy 157 [lr 33, li (nI s), li (nI i), li (nI t), li (nI j), li (nI n), li (nI a)] [] w Q := by
  intro k
  induction k with
  | zero =>
    intro a w ha hk
    refine Wp_iload d_M_copy_157 rfl ?_
    refine Wp_iload d_M_copy_159 rfl ?_
    refine Wp_icmp_ge d_M_copy_161 (fun h161 => ?_) (fun q => absurd (n_nle q (by omega) (by omega)) (by omega))
    have han : a = n := by omega
    subst han
    rw [cpF_e, mUr_self] at hk
    exact hk
  | succ k ih =>
    intro a w ha hk
    refine Wp_iload d_M_copy_157 rfl ?_
    refine Wp_iload d_M_copy_159 rfl ?_
    refine Wp_icmp_ge d_M_copy_161 (fun q => absurd (n_le q (by omega) (by omega)) (by omega)) (fun h161 => ?_)
    refine Wp_aload_n d_M_copy_164 rfl ?_
    refine Wp_getr d_M_copy_165 fd_M_16 rfl rfl rfl ?_
    refine Wp_bipush (x := 60) d_M_copy_168 (by decide) ?_
    refine Wp_iload_n d_M_copy_170 rfl ?_
    refine Wp_imul d_M_copy_171 ?_
    refine Wp_eqi (x2 := nI (60 * t)) (pk_mul 60 t) ?_
    refine Wp_iload d_M_copy_172 rfl ?_
    refine Wp_iadd d_M_copy_174 ?_
    refine Wp_eqi (x2 := nI ((60 * t) + j)) (nI_add (60 * t) j) ?_
    refine Wp_iload d_M_copy_175 rfl ?_
    refine Wp_iadd d_M_copy_177 ?_
    refine Wp_eqi (x2 := nI (((60 * t) + j) + a)) (nI_add ((60 * t) + j) a) ?_
    refine Wp_aload_n d_M_copy_178 rfl ?_
    refine Wp_getr d_M_copy_179 fd_M_19 rfl rfl rfl ?_
    refine Wp_iload d_M_copy_182 rfl ?_
    refine Wp_ialdN (j := a) d_M_copy_184 rfl rfl rfl rfl (by omega) ?_
    refine Wp_iastN (j := (((60 * t) + j) + a)) d_M_copy_185 rfl rfl rfl rfl (by omega) ?_
    refine Wp_iinc (z := nI (a + 1)) (ls2 := [lr 33, li (nI s), li (nI i), li (nI t), li (nI j), li (nI n), li (nI (a + 1))]) d_M_copy_186 rfl (nI_add a 1) rfl rfl rfl ?_
    refine Wp_goto d_M_copy_189 ?_
    refine ih (a + 1) _ (by omega) ?_
    have hh := cpF_s (f := w 37) (g := w 36) (a := 0) (b := 60 * t + j) (i := a) (n := n) (by omega)
    rw [Nat.zero_add] at hh
    unfold mU
    rw [mUr_mUr, mUr_ne (by decide), mUr_eq, hh]
    exact hk
set_option maxRecDepth 100000 in
set_option maxHeartbeats 4000000 in
theorem t_M_copy (E : mE) (d : Nat) (hd : 2 ≤ d) (w : mw) (S : mw) (hM : MM w S) (hV : VM S) (s i t j n : Int32) : Ti E d m_M_copy [vr 33, vi s, vi i, vi t, vi j, vi n] w (fun r w1 => r = (oCopy S s i t j n).1 ∧ MM w1 (oCopy S s i t j n).2 ∧ fr mRows w w1) := by
  refine ⟨Nat.le_of_ble_eq_true rfl, ?_⟩
  show Wp E d m_M_copy 0 [lr 33, li s, li i, li t, li j, li n, lo] [] w _
  refine Wp_iload_n d_M_copy_0 rfl ?_
  refine Wp_ivs_b (As := [vi s]) d_M_copy_1 ln_M_98 mk_M_isSheet rfl rfl rfl (by omega) (t_M_isSheet E (d - 1) (by omega) w s) (fun g1 => ?_) (fun g1 => ?_)
  ·
    obtain ⟨s1, h_s1, rfl⟩ := sh_of g1
    refine Wp_if_eq d_M_copy_4 (fun q => absurd q (by decide)) (fun _ => ?_)
    refine Wp_iload_n d_M_copy_7 rfl ?_
    refine Wp_ivs_b (As := [vi t]) d_M_copy_8 ln_M_98 mk_M_isSheet rfl rfl rfl (by omega) (t_M_isSheet E (d - 1) (by omega) w t) (fun g8 => ?_) (fun g8 => ?_)
    ·
      obtain ⟨t1, h_t1, rfl⟩ := sh_of g8
      refine Wp_if_ne d_M_copy_11 (fun _ => ?_) (fun q => absurd q (by decide))
      refine Wp_aload_n d_M_copy_17 rfl ?_
      refine Wp_getr d_M_copy_18 fd_M_7 rfl rfl rfl ?_
      refine Wp_iload_n d_M_copy_21 rfl ?_
      refine Wp_ialdN (j := s1) d_M_copy_22 rfl rfl rfl rfl (by omega) ?_
      refine Wp_eqi (x2 := S 34 s1) (congrFun (hM.r 34) _) ?_
      refine Wp_if_lt d_M_copy_23 (fun h23 => ?_) (fun h23 => ?_)
      ·
        have g23 : (S 34 s1).toInt < 0 := i_lt h23
        refine Wp_aload_n d_M_copy_35 rfl ?_
        refine Wp_iconst (x := 1) d_M_copy_36 (by decide) ?_
        refine Wp_ivv_d (o := 33) (As := [vi 1]) d_M_copy_37 ln_M_104 mk_M_met rfl rfl rfl rfl rfl (by omega) (t_M_met E (d - 1) (by omega) w 1 (-11) (by decide)) ?_
        refine Wp_reti (ty := .int) d_M_copy_40 rfl rfl ?_
        have e9 : oCopy S (nI s1) i (nI t1) j n = (-11, mU S 33 4 1) := by unfold oCopy; rw [if_neg (by have := ti (show s1 < 2147483648 by omega); have := ti (show t1 < 2147483648 by omega); omega), cl (by omega), cl (by omega), if_pos (by omega)]
        rw [e9]; exact ⟨rfl, MM_f hM, fr_U (by decide)⟩
      ·
        have g23 : 0 ≤ (S 34 s1).toInt := i_nlt h23
        refine Wp_aload_n d_M_copy_26 rfl ?_
        refine Wp_getr d_M_copy_27 fd_M_7 rfl rfl rfl ?_
        refine Wp_iload_n d_M_copy_30 rfl ?_
        refine Wp_ialdN (j := t1) d_M_copy_31 rfl rfl rfl rfl (by omega) ?_
        refine Wp_eqi (x2 := S 34 t1) (congrFun (hM.r 34) _) ?_
        refine Wp_if_ge d_M_copy_32 (fun h32 => ?_) (fun h32 => ?_)
        ·
          have g32 : 0 ≤ (S 34 t1).toInt := i_le h32
          refine Wp_aload_n d_M_copy_41 rfl ?_
          refine Wp_getr d_M_copy_42 fd_M_7 rfl rfl rfl ?_
          refine Wp_iload_n d_M_copy_45 rfl ?_
          refine Wp_ialdN (j := s1) d_M_copy_46 rfl rfl rfl rfl (by omega) ?_
          refine Wp_eqi (x2 := S 34 s1) (congrFun (hM.r 34) _) ?_
          refine Wp_aload_n d_M_copy_47 rfl ?_
          refine Wp_getr d_M_copy_48 fd_M_7 rfl rfl rfl ?_
          refine Wp_iload_n d_M_copy_51 rfl ?_
          refine Wp_ialdN (j := t1) d_M_copy_52 rfl rfl rfl rfl (by omega) ?_
          refine Wp_eqi (x2 := S 34 t1) (congrFun (hM.r 34) _) ?_
          refine Wp_icmp_eq d_M_copy_53 (fun h53 => ?_) (fun h53 => ?_)
          ·
            refine Wp_iload_n d_M_copy_62 rfl ?_
            refine Wp_if_lt d_M_copy_63 (fun h63 => ?_) (fun h63 => ?_)
            ·
              have g63 : i.toInt < 0 := i_lt h63
              refine Wp_aload_n d_M_copy_111 rfl ?_
              refine Wp_iconst (x := 2) d_M_copy_112 (by decide) ?_
              refine Wp_ivv_d (o := 33) (As := [vi 2]) d_M_copy_113 ln_M_104 mk_M_met rfl rfl rfl rfl rfl (by omega) (t_M_met E (d - 1) (by omega) w 2 (-12) (by decide)) ?_
              refine Wp_reti (ty := .int) d_M_copy_116 rfl rfl ?_
              have e9 : oCopy S (nI s1) i (nI t1) j n = (-12, mU S 33 4 2) := by unfold oCopy; rw [if_neg (by have := ti (show s1 < 2147483648 by omega); have := ti (show t1 < 2147483648 by omega); omega), cl (by omega), cl (by omega), if_neg (by omega), if_neg (fun q => q (by assumption)), if_pos (by omega)]
              rw [e9]; exact ⟨rfl, MM_f hM, fr_U (by decide)⟩
            ·
              have g63 : 0 ≤ i.toInt := i_nlt h63
              refine Wp_iload d_M_copy_66 rfl ?_
              refine Wp_if_lt d_M_copy_68 (fun h68 => ?_) (fun h68 => ?_)
              ·
                have g68 : j.toInt < 0 := i_lt h68
                refine Wp_aload_n d_M_copy_111 rfl ?_
                refine Wp_iconst (x := 2) d_M_copy_112 (by decide) ?_
                refine Wp_ivv_d (o := 33) (As := [vi 2]) d_M_copy_113 ln_M_104 mk_M_met rfl rfl rfl rfl rfl (by omega) (t_M_met E (d - 1) (by omega) w 2 (-12) (by decide)) ?_
                refine Wp_reti (ty := .int) d_M_copy_116 rfl rfl ?_
                have e9 : oCopy S (nI s1) i (nI t1) j n = (-12, mU S 33 4 2) := by unfold oCopy; rw [if_neg (by have := ti (show s1 < 2147483648 by omega); have := ti (show t1 < 2147483648 by omega); omega), cl (by omega), cl (by omega), if_neg (by omega), if_neg (fun q => q (by assumption)), if_pos (by omega)]
                rw [e9]; exact ⟨rfl, MM_f hM, fr_U (by decide)⟩
              ·
                have g68 : 0 ≤ j.toInt := i_nlt h68
                refine Wp_iload d_M_copy_71 rfl ?_
                refine Wp_if_lt d_M_copy_73 (fun h73 => ?_) (fun h73 => ?_)
                ·
                  have g73 : n.toInt < 0 := i_lt h73
                  refine Wp_aload_n d_M_copy_111 rfl ?_
                  refine Wp_iconst (x := 2) d_M_copy_112 (by decide) ?_
                  refine Wp_ivv_d (o := 33) (As := [vi 2]) d_M_copy_113 ln_M_104 mk_M_met rfl rfl rfl rfl rfl (by omega) (t_M_met E (d - 1) (by omega) w 2 (-12) (by decide)) ?_
                  refine Wp_reti (ty := .int) d_M_copy_116 rfl rfl ?_
                  have e9 : oCopy S (nI s1) i (nI t1) j n = (-12, mU S 33 4 2) := by unfold oCopy; rw [if_neg (by have := ti (show s1 < 2147483648 by omega); have := ti (show t1 < 2147483648 by omega); omega), cl (by omega), cl (by omega), if_neg (by omega), if_neg (fun q => q (by assumption)), if_pos (by omega)]
                  rw [e9]; exact ⟨rfl, MM_f hM, fr_U (by decide)⟩
                ·
                  have g73 : 0 ≤ n.toInt := i_nlt h73
                  refine Wp_iload_n d_M_copy_76 rfl ?_
                  refine Wp_i2l d_M_copy_77 ?_
                  refine Wp_iload d_M_copy_78 rfl ?_
                  refine Wp_i2l d_M_copy_80 ?_
                  refine Wp_ladd d_M_copy_81 ?_
                  refine Wp_aload_n d_M_copy_82 rfl ?_
                  refine Wp_getr d_M_copy_83 fd_M_13 rfl rfl rfl ?_
                  refine Wp_iload_n d_M_copy_86 rfl ?_
                  refine Wp_ialdN (j := s1) d_M_copy_87 rfl rfl rfl rfl (by omega) ?_
                  refine Wp_eqi (x2 := S 35 s1) (congrFun (hM.r 35) _) ?_
                  refine Wp_eqi (x2 := nI (sSz S s1)) (VM_sz hV _ (by omega)).1 ?_
                  refine Wp_i2l d_M_copy_88 ?_
                  refine Wp_lcmp d_M_copy_89 ?_
                  refine Wp_if_gt d_M_copy_90 (fun h90 => ?_) (fun h90 => ?_)
                  ·
                    have g90 := l_cmp_gt h90
                    rw [lg_cmp_add (x := i) (y := n) g63 g73, Int32.toInt_toInt64, ti (by have := (VM_sz hV s1 (by omega)).2; omega)] at g90
                    refine Wp_aload_n d_M_copy_111 rfl ?_
                    refine Wp_iconst (x := 2) d_M_copy_112 (by decide) ?_
                    refine Wp_ivv_d (o := 33) (As := [vi 2]) d_M_copy_113 ln_M_104 mk_M_met rfl rfl rfl rfl rfl (by omega) (t_M_met E (d - 1) (by omega) w 2 (-12) (by decide)) ?_
                    refine Wp_reti (ty := .int) d_M_copy_116 rfl rfl ?_
                    have e9 : oCopy S (nI s1) i (nI t1) j n = (-12, mU S 33 4 2) := by unfold oCopy; rw [if_neg (by have := ti (show s1 < 2147483648 by omega); have := ti (show t1 < 2147483648 by omega); omega), cl (by omega), cl (by omega), if_neg (by omega), if_neg (fun q => q (by assumption)), if_pos (by omega)]
                    rw [e9]; exact ⟨rfl, MM_f hM, fr_U (by decide)⟩
                  ·
                    have g90 := l_cmp_ngt h90
                    rw [lg_cmp_add (x := i) (y := n) g63 g73, Int32.toInt_toInt64, ti (by have := (VM_sz hV s1 (by omega)).2; omega)] at g90
                    refine Wp_iload d_M_copy_93 rfl ?_
                    refine Wp_i2l d_M_copy_95 ?_
                    refine Wp_iload d_M_copy_96 rfl ?_
                    refine Wp_i2l d_M_copy_98 ?_
                    refine Wp_ladd d_M_copy_99 ?_
                    refine Wp_aload_n d_M_copy_100 rfl ?_
                    refine Wp_getr d_M_copy_101 fd_M_13 rfl rfl rfl ?_
                    refine Wp_iload_n d_M_copy_104 rfl ?_
                    refine Wp_ialdN (j := t1) d_M_copy_105 rfl rfl rfl rfl (by omega) ?_
                    refine Wp_eqi (x2 := S 35 t1) (congrFun (hM.r 35) _) ?_
                    refine Wp_eqi (x2 := nI (sSz S t1)) (VM_sz hV _ (by omega)).1 ?_
                    refine Wp_i2l d_M_copy_106 ?_
                    refine Wp_lcmp d_M_copy_107 ?_
                    refine Wp_if_le d_M_copy_108 (fun h108 => ?_) (fun h108 => ?_)
                    ·
                      have g108 := l_cmp_le h108
                      rw [lg_cmp_add (x := j) (y := n) g68 g73, Int32.toInt_toInt64, ti (by have := (VM_sz hV t1 (by omega)).2; omega)] at g108
                      refine Wp_iconst (x := 0) d_M_copy_117 (by decide) ?_
                      refine Wp_istore (ls2 := [lr 33, li (nI s1), li i, li (nI t1), li j, li n, li 0]) d_M_copy_118 rfl rfl rfl ?_
                      have hs0 := (VM_sz hV s1 (by omega)).2
                      have ht0 := (VM_sz hV t1 (by omega)).2
                      obtain ⟨i1, hi1, rfl⟩ : ∃ q : Nat, q < 61 ∧ i = nI q := i_nIof (by omega) (by omega)
                      obtain ⟨j1, hj1, rfl⟩ : ∃ q : Nat, q < 61 ∧ j = nI q := i_nIof (by omega) (by omega)
                      obtain ⟨n1, hn1, rfl⟩ : ∃ q : Nat, q < 61 ∧ n = nI q := i_nIof (by omega) (by omega)
                      have e1 := ti (show i1 < 2147483648 by omega)
                      have e2 := ti (show j1 < 2147483648 by omega)
                      have e3 := ti (show n1 < 2147483648 by omega)
                      have e4 := ti (show s1 < 2147483648 by omega)
                      have e5 := ti (show t1 < 2147483648 by omega)
                      refine l_M_copy1 E d (by omega) s1 i1 t1 j1 n1 (by omega) (by omega) (by omega) (by omega) _ n1 0 w (by omega) ?_
                      refine Wp_iconst (x := 0) d_M_copy_154 (by decide) ?_
                      refine Wp_istore (ls2 := [lr 33, li (nI s1), li (nI i1), li (nI t1), li (nI j1), li (nI n1), li 0]) d_M_copy_155 rfl rfl rfl ?_
                      refine l_M_copy2 E d (by omega) s1 i1 t1 j1 n1 (by omega) (by omega) (by omega) (by omega) _ n1 0 _ (by omega) ?_
                      refine Wp_iconst (x := 1) d_M_copy_192 (by decide) ?_
                      refine Wp_reti (ty := .int) d_M_copy_193 rfl rfl ?_
                      rw [mUr_eq, mUr_ne (by decide), cpF_two]
                      have e9 : oCopy S (nI s1) (nI i1) (nI t1) (nI j1) (nI n1) = (1, mUr S 36 (va_cpy (S 36) (S 36) (60 * s1 + i1) (60 * t1 + j1) n1)) := by unfold oCopy; rw [if_neg (by omega), cl (by omega), cl (by omega), if_neg (by omega), if_neg (fun q => q (by assumption)), if_neg (by omega), cl (by omega), cl (by omega), cl (by omega)]
                      rw [e9, hM.r 36]; exact ⟨rfl, MM_pr (MM_sr hM (by decide) (by decide)) (by decide), fr_Ur2 (fr_Ur (by decide)) (by decide)⟩
                    ·
                      have g108 := l_cmp_nle h108
                      rw [lg_cmp_add (x := j) (y := n) g68 g73, Int32.toInt_toInt64, ti (by have := (VM_sz hV t1 (by omega)).2; omega)] at g108
                      refine Wp_aload_n d_M_copy_111 rfl ?_
                      refine Wp_iconst (x := 2) d_M_copy_112 (by decide) ?_
                      refine Wp_ivv_d (o := 33) (As := [vi 2]) d_M_copy_113 ln_M_104 mk_M_met rfl rfl rfl rfl rfl (by omega) (t_M_met E (d - 1) (by omega) w 2 (-12) (by decide)) ?_
                      refine Wp_reti (ty := .int) d_M_copy_116 rfl rfl ?_
                      have e9 : oCopy S (nI s1) i (nI t1) j n = (-12, mU S 33 4 2) := by unfold oCopy; rw [if_neg (by have := ti (show s1 < 2147483648 by omega); have := ti (show t1 < 2147483648 by omega); omega), cl (by omega), cl (by omega), if_neg (by omega), if_neg (fun q => q (by assumption)), if_pos (by omega)]
                      rw [e9]; exact ⟨rfl, MM_f hM, fr_U (by decide)⟩
          ·
            have g53 : (S 34 s1).toInt ≠ (S 34 t1).toInt := i_ne h53
            refine Wp_aload_n d_M_copy_56 rfl ?_
            refine Wp_iconst (x := 4) d_M_copy_57 (by decide) ?_
            refine Wp_ivv_d (o := 33) (As := [vi 4]) d_M_copy_58 ln_M_104 mk_M_met rfl rfl rfl rfl rfl (by omega) (t_M_met E (d - 1) (by omega) w 4 (-14) (by decide)) ?_
            refine Wp_reti (ty := .int) d_M_copy_61 rfl rfl ?_
            have e9 : oCopy S (nI s1) i (nI t1) j n = (-14, mU S 33 4 4) := by unfold oCopy; rw [if_neg (by have := ti (show s1 < 2147483648 by omega); have := ti (show t1 < 2147483648 by omega); omega), cl (by omega), cl (by omega), if_neg (by omega), if_pos (by assumption)]
            rw [e9]; exact ⟨rfl, MM_f hM, fr_U (by decide)⟩
        ·
          have g32 : (S 34 t1).toInt < 0 := i_nle h32
          refine Wp_aload_n d_M_copy_35 rfl ?_
          refine Wp_iconst (x := 1) d_M_copy_36 (by decide) ?_
          refine Wp_ivv_d (o := 33) (As := [vi 1]) d_M_copy_37 ln_M_104 mk_M_met rfl rfl rfl rfl rfl (by omega) (t_M_met E (d - 1) (by omega) w 1 (-11) (by decide)) ?_
          refine Wp_reti (ty := .int) d_M_copy_40 rfl rfl ?_
          have e9 : oCopy S (nI s1) i (nI t1) j n = (-11, mU S 33 4 1) := by unfold oCopy; rw [if_neg (by have := ti (show s1 < 2147483648 by omega); have := ti (show t1 < 2147483648 by omega); omega), cl (by omega), cl (by omega), if_pos (by omega)]
          rw [e9]; exact ⟨rfl, MM_f hM, fr_U (by decide)⟩
    ·
      refine Wp_if_ne d_M_copy_11 (fun q => absurd q (by decide)) (fun _ => ?_)
      refine Wp_bipush (x := (-2)) d_M_copy_14 (by decide) ?_
      refine Wp_reti (ty := .int) d_M_copy_16 rfl rfl ?_
      have e9 : oCopy S (nI s1) i t j n = (-2, S) := by unfold oCopy; rw [if_pos (by omega)]
      rw [e9]; exact ⟨rfl, hM, fr_rf⟩
  ·
    refine Wp_if_eq d_M_copy_4 (fun _ => ?_) (fun q => absurd (by decide) q)
    refine Wp_bipush (x := (-2)) d_M_copy_14 (by decide) ?_
    refine Wp_reti (ty := .int) d_M_copy_16 rfl rfl ?_
    have e9 : oCopy S s i t j n = (-2, S) := by unfold oCopy; rw [if_pos (by omega)]
    rw [e9]; exact ⟨rfl, hM, fr_rf⟩
theorem MM_rd {S : mw} {s n : Nat} : mU (mUr S 40 (rdr S s n)) 40 n (S 36 (60 * s + n)) = mUr S 40 (rdr S s (n + 1)) := by
  unfold mU; rw [mUr_eq, mUr_mUr, rdr_s]
set_option maxRecDepth 100000 in
set_option maxHeartbeats 4000000 in
theorem l_M_read (E : mE) (d : Nat) (hd : 3 ≤ d) (S w0 : mw) (hV : VM S) (s : Nat) (hs : s < 4) : ∀ (k n : Nat) (w : mw), n + k = 10 → rdn S s n = n → MM w (mUr S 40 (rdr S s n)) → fr mRows w0 w → Wp E d m_M_read 27 [lr 33, li (nI s), li (nI n)] [] w (mPi (fun r w1 => r = nI (rdn S s 10) ∧ MM w1 (mUr S 40 (rdr S s (rdn S s 10))) ∧ fr mRows w0 w1)) := by
  intro k
  induction k with
  | zero =>
    intro n w hk hr hM hf
    have hn : n = 10 := by omega
    subst hn
    have hz := (VM_sz hV s hs).2
    refine Wp_iload_n d_M_read_27 rfl ?_
    refine Wp_aload_n d_M_read_28 rfl ?_
    refine Wp_getr d_M_read_29 fd_M_13 rfl rfl rfl ?_
    refine Wp_iload_n d_M_read_32 rfl ?_
    refine Wp_ialdN (j := s) d_M_read_33 rfl rfl rfl rfl (by omega) ?_
    refine Wp_eqi (x2 := S 35 s) ((congrFun (hM.r 35) _).trans (congrFun (mUr_ne (by decide)) _)) ?_
    refine Wp_eqi (x2 := nI (sSz S s)) (VM_sz hV _ (by omega)).1 ?_
    refine Wp_icmp_ge d_M_read_34 (fun h34 => ?_) (fun h34 => ?_)
    ·
      have g34 : (sSz S s) ≤ 10 := n_le h34 (by omega) (by omega)
      refine Wp_iload_n d_M_read_63 rfl ?_
      refine Wp_reti (ty := .int) d_M_read_64 rfl rfl ?_
      rw [hr]
      first | exact ⟨rfl, hM, hf⟩ | exact ⟨rfl, c2, fr_tr hf c3⟩
    ·
      have g34 : 10 < (sSz S s) := n_nle h34 (by omega) (by omega)
      refine Wp_aload_n d_M_read_37 rfl ?_
      refine Wp_iload_n d_M_read_38 rfl ?_
      refine Wp_iconst (x := 0) d_M_read_39 (by decide) ?_
      refine Wp_aload_n d_M_read_40 rfl ?_
      refine Wp_getr d_M_read_41 fd_M_16 rfl rfl rfl ?_
      refine Wp_bipush (x := 60) d_M_read_44 (by decide) ?_
      refine Wp_iload_n d_M_read_46 rfl ?_
      refine Wp_imul d_M_read_47 ?_
      refine Wp_eqi (x2 := nI (60 * s)) (pk_mul 60 s) ?_
      refine Wp_iload_n d_M_read_48 rfl ?_
      refine Wp_iadd d_M_read_49 ?_
      refine Wp_eqi (x2 := nI ((60 * s) + 10)) (nI_add (60 * s) 10) ?_
      refine Wp_ialdN (j := ((60 * s) + 10)) d_M_read_50 rfl rfl rfl rfl (by omega) ?_
      refine Wp_eqi (x2 := S 36 ((60 * s) + 10)) ((congrFun (hM.r 36) _).trans (congrFun (mUr_ne (by decide)) _)) ?_
      refine Wp_ivv_i (o := 33) (As := [vi (nI 10), vi 0, vi (S 36 ((60 * s) + 10))]) d_M_read_51 ln_M_166 mk_M_put rfl rfl rfl rfl rfl (by omega) (t_M_put E (d - 1) (by omega) w (mUr S 40 (rdr S s 10)) hM (nI 10) 0 (S 36 ((60 * s) + 10))) (fun r51 w51 c51 => ?_)
      obtain ⟨c1, c2, c3⟩ := c51
      have e9 : oPut (mUr S 40 (rdr S s 10)) (nI 10) 0 (S 36 ((60 * s) + 10)) = (-2, (mUr S 40 (rdr S s 10))) := if_pos (Or.inl (by decide))
      rw [e9] at c1 c2
      replace c1 : r51 = -2 := c1
      rw [c1]
      refine Wp_if_lt d_M_read_54 (fun _ => ?_) (fun q => absurd (by decide) q)
      refine Wp_iload_n d_M_read_63 rfl ?_
      refine Wp_reti (ty := .int) d_M_read_64 rfl rfl ?_
      rw [hr]
      first | exact ⟨rfl, hM, hf⟩ | exact ⟨rfl, c2, fr_tr hf c3⟩
  | succ k ih =>
    intro n w hk hr hM hf
    have hz := (VM_sz hV s hs).2
    refine Wp_iload_n d_M_read_27 rfl ?_
    refine Wp_aload_n d_M_read_28 rfl ?_
    refine Wp_getr d_M_read_29 fd_M_13 rfl rfl rfl ?_
    refine Wp_iload_n d_M_read_32 rfl ?_
    refine Wp_ialdN (j := s) d_M_read_33 rfl rfl rfl rfl (by omega) ?_
    refine Wp_eqi (x2 := S 35 s) ((congrFun (hM.r 35) _).trans (congrFun (mUr_ne (by decide)) _)) ?_
    refine Wp_eqi (x2 := nI (sSz S s)) (VM_sz hV _ (by omega)).1 ?_
    refine Wp_icmp_ge d_M_read_34 (fun h34 => ?_) (fun h34 => ?_)
    ·
      have g34 : (sSz S s) ≤ n := n_le h34 (by omega) (by omega)
      refine Wp_iload_n d_M_read_63 rfl ?_
      refine Wp_reti (ty := .int) d_M_read_64 rfl rfl ?_
      have he : rdn S s 10 = n := by have h1 := rdn_stop hr (fun q => by first | (have := q.1; omega) | exact hok q.2) (10 - n); rwa [show n + (10 - n) = 10 by omega] at h1
      rw [he]
      first | exact ⟨rfl, hM, hf⟩ | exact ⟨rfl, c2, fr_tr hf c3⟩
    ·
      have g34 : n < (sSz S s) := n_nle h34 (by omega) (by omega)
      refine Wp_aload_n d_M_read_37 rfl ?_
      refine Wp_iload_n d_M_read_38 rfl ?_
      refine Wp_iconst (x := 0) d_M_read_39 (by decide) ?_
      refine Wp_aload_n d_M_read_40 rfl ?_
      refine Wp_getr d_M_read_41 fd_M_16 rfl rfl rfl ?_
      refine Wp_bipush (x := 60) d_M_read_44 (by decide) ?_
      refine Wp_iload_n d_M_read_46 rfl ?_
      refine Wp_imul d_M_read_47 ?_
      refine Wp_eqi (x2 := nI (60 * s)) (pk_mul 60 s) ?_
      refine Wp_iload_n d_M_read_48 rfl ?_
      refine Wp_iadd d_M_read_49 ?_
      refine Wp_eqi (x2 := nI ((60 * s) + n)) (nI_add (60 * s) n) ?_
      refine Wp_ialdN (j := ((60 * s) + n)) d_M_read_50 rfl rfl rfl rfl (by omega) ?_
      refine Wp_eqi (x2 := S 36 ((60 * s) + n)) ((congrFun (hM.r 36) _).trans (congrFun (mUr_ne (by decide)) _)) ?_
      refine Wp_ivv_i (o := 33) (As := [vi (nI n), vi 0, vi (S 36 ((60 * s) + n))]) d_M_read_51 ln_M_166 mk_M_put rfl rfl rfl rfl rfl (by omega) (t_M_put E (d - 1) (by omega) w (mUr S 40 (rdr S s n)) hM (nI n) 0 (S 36 (60 * s + n))) (fun r51 w51 c51 => ?_)
      obtain ⟨c1, c2, c3⟩ := c51
      by_cases hok : itOk (S 36 (60 * s + n)) = true
      ·
        have hok2 := of_decide_eq_true hok
        have e9 : oPut (mUr S 40 (rdr S s n)) (nI n) 0 (S 36 (60 * s + n)) = ((mUr S 40 (rdr S s n)) 40 n, mU (mUr S 40 (rdr S s n)) 40 n (S 36 (60 * s + n))) := by unfold oPut; rw [if_neg (by have := ti (show n < 2147483648 by omega); have : Int32.toInt 0 = 0 := rfl; omega), if_pos rfl, cl (by omega)]
        rw [e9, MM_rd] at c2
        rw [e9] at c1
        replace c1 : r51 = (mUr S 40 (rdr S s n)) 40 n := c1
        have e8 : (mUr S 40 (rdr S s n)) 40 n = nI (sWt S n) := by rw [mUr_eq]; unfold rdr; rw [if_neg (by omega)]; exact (VM_wt hV n (by omega)).1
        have e7 := (VM_wt hV n (by omega)).2
        rw [c1]
        refine Wp_eqi (x2 := nI (sWt S n)) e8 ?_
        refine Wp_if_lt d_M_read_54 (fun q => absurd (n_lt (b := 0) q (by omega) (by omega)) (by omega)) (fun h54 => ?_)
        refine Wp_iinc (z := nI (n + 1)) (ls2 := [lr 33, li (nI s), li (nI (n + 1))]) d_M_read_57 rfl (nI_add n 1) rfl rfl rfl ?_
        refine Wp_goto d_M_read_60 ?_
        exact ih (n + 1) w51 (by omega) (rdn_go hr ⟨by omega, hok⟩) c2 (fr_tr hf c3)
      ·
        have hok2 : ¬ (0 ≤ (S 36 (60 * s + n)).toInt ∧ (S 36 (60 * s + n)).toInt ≤ 99) := fun q => hok (decide_eq_true q)
        have e9 : oPut (mUr S 40 (rdr S s n)) (nI n) 0 (S 36 (60 * s + n)) = (-2, (mUr S 40 (rdr S s n))) := by unfold oPut; rw [if_pos (by omega)]
        rw [e9] at c1 c2
        replace c1 : r51 = -2 := c1
        rw [c1]
        refine Wp_if_lt d_M_read_54 (fun _ => ?_) (fun q => absurd (by decide) q)
        refine Wp_iload_n d_M_read_63 rfl ?_
        refine Wp_reti (ty := .int) d_M_read_64 rfl rfl ?_
        have he : rdn S s 10 = n := by have h1 := rdn_stop hr (fun q => by first | (have := q.1; omega) | exact hok q.2) (10 - n); rwa [show n + (10 - n) = 10 by omega] at h1
        rw [he]
        first | exact ⟨rfl, hM, hf⟩ | exact ⟨rfl, c2, fr_tr hf c3⟩
set_option maxRecDepth 100000 in
set_option maxHeartbeats 4000000 in
theorem t_M_read (E : mE) (d : Nat) (hd : 3 ≤ d) (w : mw) (S : mw) (hM : MM w S) (hV : VM S) (s : Int32) : Ti E d m_M_read [vr 33, vi s] w (fun r w1 => r = (oRead S s).1 ∧ MM w1 (oRead S s).2 ∧ fr mRows w w1) := by
  refine ⟨Nat.le_of_ble_eq_true rfl, ?_⟩
  show Wp E d m_M_read 0 [lr 33, li s, lo] [] w _
  refine Wp_iload_n d_M_read_0 rfl ?_
  refine Wp_ivs_b (As := [vi s]) d_M_read_1 ln_M_98 mk_M_isSheet rfl rfl rfl (by omega) (t_M_isSheet E (d - 1) (by omega) w s) (fun g1 => ?_) (fun g1 => ?_)
  ·
    obtain ⟨s1, h_s1, rfl⟩ := sh_of g1
    refine Wp_if_ne d_M_read_4 (fun _ => ?_) (fun q => absurd q (by decide))
    refine Wp_aload_n d_M_read_10 rfl ?_
    refine Wp_getr d_M_read_11 fd_M_7 rfl rfl rfl ?_
    refine Wp_iload_n d_M_read_14 rfl ?_
    refine Wp_ialdN (j := s1) d_M_read_15 rfl rfl rfl rfl (by omega) ?_
    refine Wp_eqi (x2 := S 34 s1) (congrFun (hM.r 34) _) ?_
    refine Wp_if_ge d_M_read_16 (fun h16 => ?_) (fun h16 => ?_)
    ·
      have g16 : 0 ≤ (S 34 s1).toInt := i_le h16
      refine Wp_iconst (x := 0) d_M_read_25 (by decide) ?_
      refine Wp_istore_n (ls2 := [lr 33, li (nI s1), li 0]) d_M_read_26 rfl rfl rfl ?_
      have e9 : oRead S (nI s1) = (nI (rdn S s1 10), mUr S 40 (rdr S s1 (rdn S s1 10))) := by unfold oRead; rw [if_neg (by have := ti (show s1 < 2147483648 by omega); omega), cl (by omega), if_neg (by omega)]
      rw [e9]
      exact l_M_read E d (by omega) S w hV s1 (by omega) 10 0 w (by omega) rfl (by rw [rdr_0, mUr_self]; exact hM) fr_rf
    ·
      have g16 : (S 34 s1).toInt < 0 := i_nle h16
      refine Wp_aload_n d_M_read_19 rfl ?_
      refine Wp_iconst (x := 1) d_M_read_20 (by decide) ?_
      refine Wp_ivv_d (o := 33) (As := [vi 1]) d_M_read_21 ln_M_104 mk_M_met rfl rfl rfl rfl rfl (by omega) (t_M_met E (d - 1) (by omega) w 1 (-11) (by decide)) ?_
      refine Wp_reti (ty := .int) d_M_read_24 rfl rfl ?_
      have e9 : oRead S (nI s1) = (-11, mU S 33 4 1) := by unfold oRead; rw [if_neg (by have := ti (show s1 < 2147483648 by omega); omega), cl (by omega), if_pos (by omega)]
      rw [e9]; exact ⟨rfl, MM_f hM, fr_U (by decide)⟩
  ·
    refine Wp_if_ne d_M_read_4 (fun q => absurd q (by decide)) (fun _ => ?_)
    refine Wp_bipush (x := (-2)) d_M_read_7 (by decide) ?_
    refine Wp_reti (ty := .int) d_M_read_9 rfl rfl ?_
    have e9 : oRead S s = (-2, S) := by unfold oRead; rw [if_pos (by omega)]
    rw [e9]; exact ⟨rfl, hM, fr_rf⟩
end
section
set_option maxRecDepth 100000 in
set_option maxHeartbeats 4000000 in
theorem t_M_here (E : mE) (d : Nat) (hd : 0 ≤ d) (w : mw) (n p : Nat) (hp : w 33 7 = nI p) (hn : w 33 6 = nI n) (hn2 : n ≤ 40) (hp2 : p ≤ n) : Td E d m_M_here [vr 33] w (if p < n then w 38 p else -1) w := by
  refine ⟨Nat.le_of_ble_eq_true rfl, ?_⟩
  show Wp E d m_M_here 0 [lr 33] [] w _
  refine Wp_aload_n d_M_here_0 rfl ?_
  refine Wp_getf d_M_here_1 fd_M_122 rfl rfl rfl ?_
  refine Wp_eqi (x2 := nI p) hp ?_
  refine Wp_aload_n d_M_here_4 rfl ?_
  refine Wp_getf d_M_here_5 fd_M_119 rfl rfl rfl ?_
  refine Wp_eqi (x2 := nI n) hn ?_
  refine Wp_icmp_ge d_M_here_8 (fun h8 => ?_) (fun h8 => ?_)
  ·
    have g8 : n ≤ p := n_le h8 (by omega) (by omega)
    refine Wp_iconst (x := (-1)) d_M_here_23 (by decide) ?_
    refine Wp_reti (ty := .int) d_M_here_24 rfl rfl ?_
    exact ⟨(if_neg (by omega)).symm, rfl⟩
  ·
    have g8 : p < n := n_nle h8 (by omega) (by omega)
    refine Wp_aload_n d_M_here_11 rfl ?_
    refine Wp_getr d_M_here_12 fd_M_22 rfl rfl rfl ?_
    refine Wp_aload_n d_M_here_15 rfl ?_
    refine Wp_getf d_M_here_16 fd_M_122 rfl rfl rfl ?_
    refine Wp_eqi (x2 := nI p) hp ?_
    refine Wp_ialdN (j := p) d_M_here_19 rfl rfl rfl rfl (by omega) ?_
    refine Wp_goto d_M_here_20 ?_
    refine Wp_reti (ty := .int) d_M_here_24 rfl rfl ?_
    exact ⟨(if_pos (by omega)).symm, rfl⟩
theorem agv_s {t : Nat → Int32} {f k : Nat} (h : dig (t (f + k)) = true) : 10 * nI (agv t f k) + t (f + k) - 48 = nI (agv t f (k + 1)) := by
  have h1 := dig_of h
  have e1 : t (f + k) = nI (t (f + k)).toInt.toNat := i_nI (by omega)
  rw [e1, show (10 : Int32) = nI 10 from rfl, pk_mul, nI_add, show (48 : Int32) = nI 48 from rfl, pk_sub (by omega)]
  congr 1
  show _ = 10 * agv t f k + ((t (f + k)).toInt.toNat - 48)
  omega
set_option maxRecDepth 100000 in
set_option maxHeartbeats 4000000 in
theorem l_M_readsPart (E : mE) (d : Nat) (hd : 1 ≤ d) (w0 : mw) (n f : Nat) (hn : w0 33 6 = nI n) (hn2 : n ≤ 40) (Q : Option mv → mw → Prop) (hk : Wp E d m_M_readsPart 71 [lr 33, li (nI f), li (nI (agv (w0 38) f (efr (w0 38) n f 3 - f)))] [] (mU w0 33 7 (nI (efr (w0 38) n f 3))) Q) : ∀ (m k : Nat), k + m = 3 → f + k ≤ n → efr (w0 38) n f 3 = efr (w0 38) n (f + k) m → Wp E d m_M_readsPart 18 [lr 33, li (nI f), li (nI (agv (w0 38) f k))] [] (mU w0 33 7 (nI (f + k))) Q := by
  intro m
  induction m with
  | zero =>
    intro k hm hfk he
    refine Wp_aload_n d_M_readsPart_18 rfl ?_
    refine Wp_getf d_M_readsPart_19 fd_M_122 rfl rfl rfl ?_
    refine Wp_eqi (x2 := nI (f + k)) (by simp [mU, mUr, upd]) ?_
    refine Wp_iload_n d_M_readsPart_22 rfl ?_
    refine Wp_iconst (x := 3) d_M_readsPart_23 (by decide) ?_
    refine Wp_iadd d_M_readsPart_24 ?_
    refine Wp_eqi (x2 := nI (f + 3)) (nI_add f 3) ?_
    refine Wp_icmp_ge d_M_readsPart_25 (fun h25 => ?_) (fun q => absurd (n_nle q (by omega) (by omega)) (by omega))
    have h9 : efr (w0 38) n f 3 = f + k := he.trans rfl
    rw [h9, Nat.add_sub_cancel_left] at hk
    exact hk
  | succ m ih =>
    intro k hm hfk he
    refine Wp_aload_n d_M_readsPart_18 rfl ?_
    refine Wp_getf d_M_readsPart_19 fd_M_122 rfl rfl rfl ?_
    refine Wp_eqi (x2 := nI (f + k)) (by simp [mU, mUr, upd]) ?_
    refine Wp_iload_n d_M_readsPart_22 rfl ?_
    refine Wp_iconst (x := 3) d_M_readsPart_23 (by decide) ?_
    refine Wp_iadd d_M_readsPart_24 ?_
    refine Wp_eqi (x2 := nI (f + 3)) (nI_add f 3) ?_
    refine Wp_icmp_ge d_M_readsPart_25 (fun q => absurd (n_le q (by omega) (by omega)) (by omega)) (fun h25 => ?_)
    refine Wp_aload_n d_M_readsPart_28 rfl ?_
    refine Wp_ivv_d (o := 33) (As := []) d_M_readsPart_29 ln_M_128 mk_M_here rfl rfl rfl rfl rfl (by omega) (t_M_here E (d - 1) (by omega) (mU w0 33 7 (nI (f + k))) n (f + k) (by rw [mU_at]) (by rw [mU_at_ne (by decide)]; exact hn) (by omega) (by omega)) ?_
    refine Wp_i2l d_M_readsPart_32 ?_
    refine Wp_ldc2 (x := 48) d_M_readsPart_33 kl_M_132 ?_
    refine Wp_ldc2 (x := 57) d_M_readsPart_36 kl_M_134 ?_
    refine Wp_ivs_b (As := [vl ((if f + k < n then mU w0 33 7 (nI (f + k)) 38 (f + k) else -1).toInt64), vl 48, vl 57]) d_M_readsPart_39 ln_M_88 mk_M_in rfl rfl rfl (by omega) (t_M_inI E (d - 1) (mU w0 33 7 (nI (f + k))) (x := (if f + k < n then mU w0 33 7 (nI (f + k)) 38 (f + k) else -1)) (lo := 48) (hi := 57) (by decide) (by decide)) (fun g39 => ?_) (fun g39 => ?_)
    ·
      have hfn : f + k < n := by
        by_cases h7 : f + k < n
        · exact h7
        · rw [if_neg h7] at g39; exact absurd g39 (by decide)
      rw [if_pos hfn, mU_ne (by decide)] at g39
      have hdg : dig (w0 38 (f + k)) = true := decide_eq_true g39
      refine Wp_if_eq d_M_readsPart_42 (fun q => absurd q (by decide)) (fun _ => ?_)
      refine Wp_bipush (x := 10) d_M_readsPart_45 (by decide) ?_
      refine Wp_iload_n d_M_readsPart_47 rfl ?_
      refine Wp_imul d_M_readsPart_48 ?_
      refine Wp_eqi (x2 := nI (10 * (agv (w0 38) f k))) (pk_mul 10 (agv (w0 38) f k)) ?_
      refine Wp_aload_n d_M_readsPart_49 rfl ?_
      refine Wp_ivv_d (o := 33) (As := []) d_M_readsPart_50 ln_M_128 mk_M_here rfl rfl rfl rfl rfl (by omega) (t_M_here E (d - 1) (by omega) (mU w0 33 7 (nI (f + k))) n (f + k) (by rw [mU_at]) (by rw [mU_at_ne (by decide)]; exact hn) (by omega) (by omega)) ?_
      refine Wp_iadd d_M_readsPart_53 ?_
      refine Wp_eqi (x2 := 10 * nI (agv (w0 38) f k) + w0 38 (f + k)) (by rw [if_pos hfn, mU_ne (by decide), show (10 : Int32) = nI 10 from rfl, pk_mul]) ?_
      refine Wp_bipush (x := 48) d_M_readsPart_54 (by decide) ?_
      refine Wp_isub d_M_readsPart_56 ?_
      refine Wp_eqi (x2 := nI (agv (w0 38) f (k + 1))) (agv_s hdg) ?_
      refine Wp_istore_n (ls2 := [lr 33, li (nI f), li (nI (agv (w0 38) f (k + 1)))]) d_M_readsPart_57 rfl rfl rfl ?_
      refine Wp_aload_n d_M_readsPart_58 rfl ?_
      refine Wp_dup d_M_readsPart_59 rfl ?_
      refine Wp_getf d_M_readsPart_60 fd_M_122 rfl rfl rfl ?_
      refine Wp_eqi (x2 := nI (f + k)) (by simp [mU, mUr, upd]) ?_
      refine Wp_iconst (x := 1) d_M_readsPart_63 (by decide) ?_
      refine Wp_iadd d_M_readsPart_64 ?_
      refine Wp_eqi (x2 := nI ((f + k) + 1)) (nI_add (f + k) 1) ?_
      refine Wp_puti d_M_readsPart_65 fp_M_122 rfl rfl rfl ?_
      refine Wp_goto d_M_readsPart_68 ?_
      refine Wp_eqw (mU_mU) ?_
      rw [show f + k + 1 = f + (k + 1) by omega]
      refine ih (k + 1) (by omega) (by omega) ?_
      rw [he]
      show efr (w0 38) n (f + k) (m + 1) = efr (w0 38) n (f + k + 1) m
      rw [efr, if_pos ⟨hfn, hdg⟩]
    ·
      refine Wp_if_eq d_M_readsPart_42 (fun _ => ?_) (fun q => absurd (by decide) q)
      have h8 : ¬ (f + k < n ∧ dig (w0 38 (f + k)) = true) := by
        intro q
        have q2 := dig_of q.2
        rw [if_pos q.1, mU_ne (by decide)] at g39
        exact g39 q2
      have h9 : efr (w0 38) n f 3 = f + k := by rw [he]; unfold efr; rw [if_neg h8]
      rw [h9, Nat.add_sub_cancel_left] at hk
      exact hk
def rpOk (t : Nat → Int32) (n f r : Nat) : Prop := r ≠ 10 ∧ efr t n f 3 ≠ f ∧ agv t f (efr t n f 3 - f) ≤ 120
set_option maxRecDepth 100000 in
set_option maxHeartbeats 4000000 in
theorem t_M_readsPart (E : mE) (d : Nat) (hd : 1 ≤ d) (w : mw) (n f r : Nat) (hf : w 33 7 = nI f) (hn : w 33 6 = nI n) (hr : w 33 8 = nI r) (hn2 : n ≤ 40) (hf2 : f ≤ n) (hr2 : r ≤ 10) : Ti E d m_M_readsPart [vr 33] w (fun q w1 => (q = 0 ∧ ¬ rpOk (w 38) n f r ∧ w1 = w) ∨ (q = 1 ∧ rpOk (w 38) n f r ∧ w1 = mU (mU (mU w 33 7 (nI (efr (w 38) n f 3))) 39 r (nI (agv (w 38) f (efr (w 38) n f 3 - f)))) 33 8 (nI (r + 1)))) := by
  refine ⟨Nat.le_of_ble_eq_true rfl, ?_⟩
  show Wp E d m_M_readsPart 0 [lr 33, lo, lo] [] w _
  refine Wp_aload_n d_M_readsPart_0 rfl ?_
  refine Wp_getf d_M_readsPart_1 fd_M_125 rfl rfl rfl ?_
  refine Wp_eqi (x2 := nI r) hr ?_
  refine Wp_bipush (x := 10) d_M_readsPart_4 (by decide) ?_
  refine Wp_icmp_ne d_M_readsPart_6 (fun h6 => ?_) (fun h6 => ?_)
  ·
    have g6 : r ≠ 10 := n_ne h6 (by omega) (by omega)
    refine Wp_aload_n d_M_readsPart_11 rfl ?_
    refine Wp_getf d_M_readsPart_12 fd_M_122 rfl rfl rfl ?_
    refine Wp_eqi (x2 := nI f) hf ?_
    refine Wp_istore_n (ls2 := [lr 33, li (nI f), lo]) d_M_readsPart_15 rfl rfl rfl ?_
    refine Wp_iconst (x := 0) d_M_readsPart_16 (by decide) ?_
    refine Wp_istore_n (ls2 := [lr 33, li (nI f), li 0]) d_M_readsPart_17 rfl rfl rfl ?_
    have hb1 := efr_ge (t := w 38) (n := n) 3 f
    have hb2 : (agv (w 38) f (efr (w 38) n f 3 - f)) < 1000 := by
      have h2 := agv_lt (t := w 38) (e := f) ((efr (w 38) n f 3) - f) (fun j h3 h4 => efr_dig (n := n) 3 f j h3 (by omega))
      have h3 : 10 ^ ((efr (w 38) n f 3) - f) ≤ 10 ^ 3 := Nat.pow_le_pow_right (by omega) (by omega)
      omega
    have e7 : w = mU w 33 7 (nI (f + 0)) := (mU_same hf).symm
    refine Wp_eqw e7 ?_
    refine l_M_readsPart E d (by omega) w n f hn hn2 _ ?_ 3 0 rfl (by omega) rfl
    refine Wp_aload_n d_M_readsPart_71 rfl ?_
    refine Wp_getf d_M_readsPart_72 fd_M_122 rfl rfl rfl ?_
    refine Wp_eqi (x2 := nI (efr (w 38) n f 3)) (by simp [mU, mUr, upd]) ?_
    refine Wp_iload_n d_M_readsPart_75 rfl ?_
    refine Wp_icmp_eq d_M_readsPart_76 (fun h76 => ?_) (fun h76 => ?_)
    ·
      have g76 : (efr (w 38) n f 3) = f := n_eq h76 (by omega) (by omega)
      refine Wp_aload_n d_M_readsPart_85 rfl ?_
      refine Wp_iload_n d_M_readsPart_86 rfl ?_
      refine Wp_puti d_M_readsPart_87 fp_M_122 rfl rfl rfl ?_
      refine Wp_iconst (x := 0) d_M_readsPart_90 (by decide) ?_
      refine Wp_reti (ty := .boolean) d_M_readsPart_91 rfl rfl ?_
      exact Or.inl ⟨rfl, fun q => by unfold rpOk at q; omega, by rw [mU_mU, mU_same hf]⟩
    ·
      have g76 : (efr (w 38) n f 3) ≠ f := n_ne h76 (by omega) (by omega)
      refine Wp_iload_n d_M_readsPart_79 rfl ?_
      refine Wp_bipush (x := 120) d_M_readsPart_80 (by decide) ?_
      refine Wp_icmp_le d_M_readsPart_82 (fun h82 => ?_) (fun h82 => ?_)
      ·
        have g82 : (agv (w 38) f (efr (w 38) n f 3 - f)) ≤ 120 := n_le h82 (by omega) (by omega)
        refine Wp_aload_n d_M_readsPart_92 rfl ?_
        refine Wp_getr d_M_readsPart_93 fd_M_25 rfl rfl rfl ?_
        refine Wp_aload_n d_M_readsPart_96 rfl ?_
        refine Wp_getf d_M_readsPart_97 fd_M_125 rfl rfl rfl ?_
        refine Wp_eqi (x2 := w 33 8) (by simp [mU, mUr, upd]) ?_
        refine Wp_eqi (x2 := nI r) hr ?_
        refine Wp_iload_n d_M_readsPart_100 rfl ?_
        refine Wp_iastN (j := r) d_M_readsPart_101 rfl rfl rfl rfl (by omega) ?_
        refine Wp_aload_n d_M_readsPart_102 rfl ?_
        refine Wp_dup d_M_readsPart_103 rfl ?_
        refine Wp_getf d_M_readsPart_104 fd_M_125 rfl rfl rfl ?_
        refine Wp_eqi (x2 := w 33 8) (by simp [mU, mUr, upd]) ?_
        refine Wp_eqi (x2 := nI r) hr ?_
        refine Wp_iconst (x := 1) d_M_readsPart_107 (by decide) ?_
        refine Wp_iadd d_M_readsPart_108 ?_
        refine Wp_eqi (x2 := nI (r + 1)) (nI_add r 1) ?_
        refine Wp_puti d_M_readsPart_109 fp_M_125 rfl rfl rfl ?_
        refine Wp_iconst (x := 1) d_M_readsPart_112 (by decide) ?_
        refine Wp_reti (ty := .boolean) d_M_readsPart_113 rfl rfl ?_
        exact Or.inr ⟨rfl, ⟨by omega, by omega, by omega⟩, rfl⟩
      ·
        have g82 : 120 < (agv (w 38) f (efr (w 38) n f 3 - f)) := n_nle h82 (by omega) (by omega)
        refine Wp_aload_n d_M_readsPart_85 rfl ?_
        refine Wp_iload_n d_M_readsPart_86 rfl ?_
        refine Wp_puti d_M_readsPart_87 fp_M_122 rfl rfl rfl ?_
        refine Wp_iconst (x := 0) d_M_readsPart_90 (by decide) ?_
        refine Wp_reti (ty := .boolean) d_M_readsPart_91 rfl rfl ?_
        exact Or.inl ⟨rfl, fun q => by unfold rpOk at q; omega, by rw [mU_mU, mU_same hf]⟩
  ·
    have g6 : r = 10 := n_eq h6 (by omega) (by omega)
    refine Wp_iconst (x := 0) d_M_readsPart_9 (by decide) ?_
    refine Wp_reti (ty := .boolean) d_M_readsPart_10 rfl rfl ?_
    exact Or.inl ⟨rfl, fun q => by unfold rpOk at q; omega, rfl⟩
end
