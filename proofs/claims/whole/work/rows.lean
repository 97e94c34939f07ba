section
-- ===== PART A: goes FIRST, ahead of the names: the tables' words, and 'selects' of the private methods out of them =====
/-- a private method of a class that the tables say can be made, by its rows of tables_1 -/
def lw_okq (q : MethodName × Nat) : Prop := (q.1.cls ≠ "java/lang/invoke/MethodHandle" ∧ q.1.cls ≠ "java/lang/invoke/VarHandle") ∧ Cond.instantiable q.1.cls q.2 ∈ tables_1 ∧ Cond.privateMethod q.1 ∈ tables_1 ∧ Cond.instanceMethod q.1 ∈ tables_1
theorem lw_p0 : lw_okq (⟨"EscalatedForms", "storeDraft", "(I)Z"⟩, 10) := ⟨⟨by decide +kernel, by decide +kernel⟩, List.mem_of_getElem? (i := 15) (by decide +kernel), List.mem_of_getElem? (i := 232) (by decide +kernel), List.mem_of_getElem? (i := 233) (by decide +kernel)⟩
theorem lw_p1 : lw_okq (⟨"EscalatedForms$Draft", "eliminateBehind", "(IIJ)V"⟩, 6) := ⟨⟨by decide +kernel, by decide +kernel⟩, List.mem_of_getElem? (i := 72) (by decide +kernel), List.mem_of_getElem? (i := 252) (by decide +kernel), List.mem_of_getElem? (i := 253) (by decide +kernel)⟩
theorem lw_p2 : lw_okq (⟨"EscalatedForms", "held", "(I)LEscalatedForms$Form;"⟩, 10) := ⟨⟨by decide +kernel, by decide +kernel⟩, List.mem_of_getElem? (i := 15) (by decide +kernel), List.mem_of_getElem? (i := 331) (by decide +kernel), List.mem_of_getElem? (i := 332) (by decide +kernel)⟩
theorem lw_p3 : lw_okq (⟨"EscalatedForms", "takenBy", "(LEscalatedForms$Form;)LEscalatedForms$Taken;"⟩, 10) := ⟨⟨by decide +kernel, by decide +kernel⟩, List.mem_of_getElem? (i := 15) (by decide +kernel), List.mem_of_getElem? (i := 443) (by decide +kernel), List.mem_of_getElem? (i := 444) (by decide +kernel)⟩
theorem lw_p4 : lw_okq (⟨"EscalatedForms$Ellipsoid", "eliminateAhead", "(IJ)V"⟩, 11) := ⟨⟨by decide +kernel, by decide +kernel⟩, List.mem_of_getElem? (i := 106) (by decide +kernel), List.mem_of_getElem? (i := 457) (by decide +kernel), List.mem_of_getElem? (i := 458) (by decide +kernel)⟩
theorem lw_p5 : lw_okq (⟨"EscalatedForms$Ellipsoid", "enter", "(I)V"⟩, 11) := ⟨⟨by decide +kernel, by decide +kernel⟩, List.mem_of_getElem? (i := 106) (by decide +kernel), List.mem_of_getElem? (i := 461) (by decide +kernel), List.mem_of_getElem? (i := 462) (by decide +kernel)⟩
theorem lw_p6 : lw_okq (⟨"EscalatedForms$Ellipsoid", "narrow", "(I)V"⟩, 11) := ⟨⟨by decide +kernel, by decide +kernel⟩, List.mem_of_getElem? (i := 106) (by decide +kernel), List.mem_of_getElem? (i := 475) (by decide +kernel), List.mem_of_getElem? (i := 476) (by decide +kernel)⟩
theorem lw_p7 : lw_okq (⟨"EscalatedForms", "barrierOf", "(LEscalatedForms$Form;I)I"⟩, 10) := ⟨⟨by decide +kernel, by decide +kernel⟩, List.mem_of_getElem? (i := 15) (by decide +kernel), List.mem_of_getElem? (i := 513) (by decide +kernel), List.mem_of_getElem? (i := 514) (by decide +kernel)⟩
theorem lw_p8 : lw_okq (⟨"EscalatedForms$Remainders", "foundBits", "(LEscalatedForms$Form;I)I"⟩, 2) := ⟨⟨by decide +kernel, by decide +kernel⟩, List.mem_of_getElem? (i := 148) (by decide +kernel), List.mem_of_getElem? (i := 521) (by decide +kernel), List.mem_of_getElem? (i := 522) (by decide +kernel)⟩
theorem lw_p9 : lw_okq (⟨"EscalatedForms$Remainders", "worthAhead", "(LEscalatedForms$Form;I)I"⟩, 2) := ⟨⟨by decide +kernel, by decide +kernel⟩, List.mem_of_getElem? (i := 148) (by decide +kernel), List.mem_of_getElem? (i := 529) (by decide +kernel), List.mem_of_getElem? (i := 530) (by decide +kernel)⟩
theorem lw_p10 : lw_okq (⟨"EscalatedForms$Remainders", "slopeOf", "(LEscalatedForms$Form;I)I"⟩, 2) := ⟨⟨by decide +kernel, by decide +kernel⟩, List.mem_of_getElem? (i := 148) (by decide +kernel), List.mem_of_getElem? (i := 536) (by decide +kernel), List.mem_of_getElem? (i := 537) (by decide +kernel)⟩
theorem lw_p11 : lw_okq (⟨"EscalatedForms$Remainders", "countOn", "(II)V"⟩, 2) := ⟨⟨by decide +kernel, by decide +kernel⟩, List.mem_of_getElem? (i := 148) (by decide +kernel), List.mem_of_getElem? (i := 540) (by decide +kernel), List.mem_of_getElem? (i := 541) (by decide +kernel)⟩
theorem lw_p12 : lw_okq (⟨"EscalatedForms", "refusalToGrow", "(LEscalatedForms$Form;)I"⟩, 10) := ⟨⟨by decide +kernel, by decide +kernel⟩, List.mem_of_getElem? (i := 15) (by decide +kernel), List.mem_of_getElem? (i := 595) (by decide +kernel), List.mem_of_getElem? (i := 596) (by decide +kernel)⟩
theorem lw_p13 : lw_okq (⟨"EscalatedForms", "broodOf", "(LEscalatedForms$Form;)LEscalatedForms$Brood;"⟩, 10) := ⟨⟨by decide +kernel, by decide +kernel⟩, List.mem_of_getElem? (i := 15) (by decide +kernel), List.mem_of_getElem? (i := 599) (by decide +kernel), List.mem_of_getElem? (i := 600) (by decide +kernel)⟩
theorem lw_p14 : lw_okq (⟨"EscalatedForms$Brood", "add", "(I)V"⟩, 4) := ⟨⟨by decide +kernel, by decide +kernel⟩, List.mem_of_getElem? (i := 162) (by decide +kernel), List.mem_of_getElem? (i := 619) (by decide +kernel), List.mem_of_getElem? (i := 620) (by decide +kernel)⟩
theorem lw_p15 : lw_okq (⟨"EscalatedForms", "greatestLackOfDraft", "()I"⟩, 10) := ⟨⟨by decide +kernel, by decide +kernel⟩, List.mem_of_getElem? (i := 15) (by decide +kernel), List.mem_of_getElem? (i := 644) (by decide +kernel), List.mem_of_getElem? (i := 645) (by decide +kernel)⟩
def lw_privs_1 : List (MethodName × Nat) := [(⟨"EscalatedForms", "storeDraft", "(I)Z"⟩, 10), (⟨"EscalatedForms$Draft", "eliminateBehind", "(IIJ)V"⟩, 6), (⟨"EscalatedForms", "held", "(I)LEscalatedForms$Form;"⟩, 10), (⟨"EscalatedForms", "takenBy", "(LEscalatedForms$Form;)LEscalatedForms$Taken;"⟩, 10), (⟨"EscalatedForms$Ellipsoid", "eliminateAhead", "(IJ)V"⟩, 11), (⟨"EscalatedForms$Ellipsoid", "enter", "(I)V"⟩, 11), (⟨"EscalatedForms$Ellipsoid", "narrow", "(I)V"⟩, 11), (⟨"EscalatedForms", "barrierOf", "(LEscalatedForms$Form;I)I"⟩, 10), (⟨"EscalatedForms$Remainders", "foundBits", "(LEscalatedForms$Form;I)I"⟩, 2), (⟨"EscalatedForms$Remainders", "worthAhead", "(LEscalatedForms$Form;I)I"⟩, 2), (⟨"EscalatedForms$Remainders", "slopeOf", "(LEscalatedForms$Form;I)I"⟩, 2), (⟨"EscalatedForms$Remainders", "countOn", "(II)V"⟩, 2), (⟨"EscalatedForms", "refusalToGrow", "(LEscalatedForms$Form;)I"⟩, 10), (⟨"EscalatedForms", "broodOf", "(LEscalatedForms$Form;)LEscalatedForms$Brood;"⟩, 10), (⟨"EscalatedForms$Brood", "add", "(I)V"⟩, 4), (⟨"EscalatedForms", "greatestLackOfDraft", "()I"⟩, 10)]
theorem lw_r1 : ∀ q ∈ lw_privs_1, lw_okq q := List.forall_mem_cons.mpr ⟨lw_p0, List.forall_mem_cons.mpr ⟨lw_p1, List.forall_mem_cons.mpr ⟨lw_p2, List.forall_mem_cons.mpr ⟨lw_p3, List.forall_mem_cons.mpr ⟨lw_p4, List.forall_mem_cons.mpr ⟨lw_p5, List.forall_mem_cons.mpr ⟨lw_p6, List.forall_mem_cons.mpr ⟨lw_p7, List.forall_mem_cons.mpr ⟨lw_p8, List.forall_mem_cons.mpr ⟨lw_p9, List.forall_mem_cons.mpr ⟨lw_p10, List.forall_mem_cons.mpr ⟨lw_p11, List.forall_mem_cons.mpr ⟨lw_p12, List.forall_mem_cons.mpr ⟨lw_p13, List.forall_mem_cons.mpr ⟨lw_p14, List.forall_mem_cons.mpr ⟨lw_p15, fun _ h => absurd h List.not_mem_nil⟩⟩⟩⟩⟩⟩⟩⟩⟩⟩⟩⟩⟩⟩⟩⟩
theorem lw_p16 : lw_okq (⟨"EscalatedForms", "claimsBelow", "(I)I"⟩, 10) := ⟨⟨by decide +kernel, by decide +kernel⟩, List.mem_of_getElem? (i := 15) (by decide +kernel), List.mem_of_getElem? (i := 694) (by decide +kernel), List.mem_of_getElem? (i := 695) (by decide +kernel)⟩
theorem lw_p17 : lw_okq (⟨"EscalatedForms$Tree", "firstUnder", "(II)I"⟩, 5) := ⟨⟨by decide +kernel, by decide +kernel⟩, List.mem_of_getElem? (i := 25) (by decide +kernel), List.mem_of_getElem? (i := 711) (by decide +kernel), List.mem_of_getElem? (i := 712) (by decide +kernel)⟩
theorem lw_p18 : lw_okq (⟨"EscalatedForms", "heldSlots", "()I"⟩, 10) := ⟨⟨by decide +kernel, by decide +kernel⟩, List.mem_of_getElem? (i := 15) (by decide +kernel), List.mem_of_getElem? (i := 755) (by decide +kernel), List.mem_of_getElem? (i := 756) (by decide +kernel)⟩
theorem lw_p19 : lw_okq (⟨"EscalatedForms", "presentSheets", "()I"⟩, 10) := ⟨⟨by decide +kernel, by decide +kernel⟩, List.mem_of_getElem? (i := 15) (by decide +kernel), List.mem_of_getElem? (i := 767) (by decide +kernel), List.mem_of_getElem? (i := 768) (by decide +kernel)⟩
theorem lw_p20 : lw_okq (⟨"EscalatedFormsModel", "clearAt", "(I)V"⟩, 34) := ⟨⟨by decide +kernel, by decide +kernel⟩, List.mem_of_getElem? (i := 771) (by decide +kernel), List.mem_of_getElem? (i := 891) (by decide +kernel), List.mem_of_getElem? (i := 892) (by decide +kernel)⟩
theorem lw_p21 : lw_okq (⟨"EscalatedFormsModel", "layEntry", "(IIII)V"⟩, 34) := ⟨⟨by decide +kernel, by decide +kernel⟩, List.mem_of_getElem? (i := 771) (by decide +kernel), List.mem_of_getElem? (i := 895) (by decide +kernel), List.mem_of_getElem? (i := 896) (by decide +kernel)⟩
theorem lw_p22 : lw_okq (⟨"EscalatedFormsModel", "comes", "(I)I"⟩, 34) := ⟨⟨by decide +kernel, by decide +kernel⟩, List.mem_of_getElem? (i := 771) (by decide +kernel), List.mem_of_getElem? (i := 908) (by decide +kernel), List.mem_of_getElem? (i := 909) (by decide +kernel)⟩
theorem lw_p23 : lw_okq (⟨"EscalatedFormsModel", "isLawful", "(I)Z"⟩, 34) := ⟨⟨by decide +kernel, by decide +kernel⟩, List.mem_of_getElem? (i := 771) (by decide +kernel), List.mem_of_getElem? (i := 912) (by decide +kernel), List.mem_of_getElem? (i := 913) (by decide +kernel)⟩
theorem lw_p24 : lw_okq (⟨"EscalatedFormsModel", "detOf", "(III)J"⟩, 34) := ⟨⟨by decide +kernel, by decide +kernel⟩, List.mem_of_getElem? (i := 771) (by decide +kernel), List.mem_of_getElem? (i := 919) (by decide +kernel), List.mem_of_getElem? (i := 920) (by decide +kernel)⟩
theorem lw_p25 : lw_okq (⟨"EscalatedFormsModel", "entryAt", "(III)I"⟩, 34) := ⟨⟨by decide +kernel, by decide +kernel⟩, List.mem_of_getElem? (i := 771) (by decide +kernel), List.mem_of_getElem? (i := 923) (by decide +kernel), List.mem_of_getElem? (i := 924) (by decide +kernel)⟩
theorem lw_p26 : lw_okq (⟨"EscalatedFormsModel", "clearBelow", "(IIJ)V"⟩, 34) := ⟨⟨by decide +kernel, by decide +kernel⟩, List.mem_of_getElem? (i := 771) (by decide +kernel), List.mem_of_getElem? (i := 927) (by decide +kernel), List.mem_of_getElem? (i := 928) (by decide +kernel)⟩
theorem lw_p27 : lw_okq (⟨"EscalatedFormsModel", "copyTo", "(II)V"⟩, 34) := ⟨⟨by decide +kernel, by decide +kernel⟩, List.mem_of_getElem? (i := 771) (by decide +kernel), List.mem_of_getElem? (i := 938) (by decide +kernel), List.mem_of_getElem? (i := 939) (by decide +kernel)⟩
theorem lw_p28 : lw_okq (⟨"EscalatedFormsModel", "hasForm", "(I)Z"⟩, 34) := ⟨⟨by decide +kernel, by decide +kernel⟩, List.mem_of_getElem? (i := 771) (by decide +kernel), List.mem_of_getElem? (i := 946) (by decide +kernel), List.mem_of_getElem? (i := 947) (by decide +kernel)⟩
theorem lw_p29 : lw_okq (⟨"EscalatedFormsModel", "isLetter", "(II)Z"⟩, 34) := ⟨⟨by decide +kernel, by decide +kernel⟩, List.mem_of_getElem? (i := 771) (by decide +kernel), List.mem_of_getElem? (i := 958) (by decide +kernel), List.mem_of_getElem? (i := 959) (by decide +kernel)⟩
theorem lw_p30 : lw_okq (⟨"EscalatedFormsModel", "changeAt", "(IIII)V"⟩, 34) := ⟨⟨by decide +kernel, by decide +kernel⟩, List.mem_of_getElem? (i := 771) (by decide +kernel), List.mem_of_getElem? (i := 989) (by decide +kernel), List.mem_of_getElem? (i := 990) (by decide +kernel)⟩
theorem lw_p31 : lw_okq (⟨"EscalatedFormsModel", "nextStep", "()I"⟩, 34) := ⟨⟨by decide +kernel, by decide +kernel⟩, List.mem_of_getElem? (i := 771) (by decide +kernel), List.mem_of_getElem? (i := 1009) (by decide +kernel), List.mem_of_getElem? (i := 1010) (by decide +kernel)⟩
def lw_privs_2 : List (MethodName × Nat) := [(⟨"EscalatedForms", "claimsBelow", "(I)I"⟩, 10), (⟨"EscalatedForms$Tree", "firstUnder", "(II)I"⟩, 5), (⟨"EscalatedForms", "heldSlots", "()I"⟩, 10), (⟨"EscalatedForms", "presentSheets", "()I"⟩, 10), (⟨"EscalatedFormsModel", "clearAt", "(I)V"⟩, 34), (⟨"EscalatedFormsModel", "layEntry", "(IIII)V"⟩, 34), (⟨"EscalatedFormsModel", "comes", "(I)I"⟩, 34), (⟨"EscalatedFormsModel", "isLawful", "(I)Z"⟩, 34), (⟨"EscalatedFormsModel", "detOf", "(III)J"⟩, 34), (⟨"EscalatedFormsModel", "entryAt", "(III)I"⟩, 34), (⟨"EscalatedFormsModel", "clearBelow", "(IIJ)V"⟩, 34), (⟨"EscalatedFormsModel", "copyTo", "(II)V"⟩, 34), (⟨"EscalatedFormsModel", "hasForm", "(I)Z"⟩, 34), (⟨"EscalatedFormsModel", "isLetter", "(II)Z"⟩, 34), (⟨"EscalatedFormsModel", "changeAt", "(IIII)V"⟩, 34), (⟨"EscalatedFormsModel", "nextStep", "()I"⟩, 34)]
theorem lw_r2 : ∀ q ∈ lw_privs_2, lw_okq q := List.forall_mem_cons.mpr ⟨lw_p16, List.forall_mem_cons.mpr ⟨lw_p17, List.forall_mem_cons.mpr ⟨lw_p18, List.forall_mem_cons.mpr ⟨lw_p19, List.forall_mem_cons.mpr ⟨lw_p20, List.forall_mem_cons.mpr ⟨lw_p21, List.forall_mem_cons.mpr ⟨lw_p22, List.forall_mem_cons.mpr ⟨lw_p23, List.forall_mem_cons.mpr ⟨lw_p24, List.forall_mem_cons.mpr ⟨lw_p25, List.forall_mem_cons.mpr ⟨lw_p26, List.forall_mem_cons.mpr ⟨lw_p27, List.forall_mem_cons.mpr ⟨lw_p28, List.forall_mem_cons.mpr ⟨lw_p29, List.forall_mem_cons.mpr ⟨lw_p30, List.forall_mem_cons.mpr ⟨lw_p31, fun _ h => absurd h List.not_mem_nil⟩⟩⟩⟩⟩⟩⟩⟩⟩⟩⟩⟩⟩⟩⟩⟩
theorem lw_p32 : lw_okq (⟨"EscalatedFormsModel", "layCounts", "(I)V"⟩, 34) := ⟨⟨by decide +kernel, by decide +kernel⟩, List.mem_of_getElem? (i := 771) (by decide +kernel), List.mem_of_getElem? (i := 1021) (by decide +kernel), List.mem_of_getElem? (i := 1022) (by decide +kernel)⟩
theorem lw_p33 : lw_okq (⟨"EscalatedFormsModel", "layLast", "(II)V"⟩, 34) := ⟨⟨by decide +kernel, by decide +kernel⟩, List.mem_of_getElem? (i := 771) (by decide +kernel), List.mem_of_getElem? (i := 1025) (by decide +kernel), List.mem_of_getElem? (i := 1026) (by decide +kernel)⟩
theorem lw_p34 : lw_okq (⟨"EscalatedFormsModel", "seeAt", "(II)V"⟩, 34) := ⟨⟨by decide +kernel, by decide +kernel⟩, List.mem_of_getElem? (i := 771) (by decide +kernel), List.mem_of_getElem? (i := 1029) (by decide +kernel), List.mem_of_getElem? (i := 1030) (by decide +kernel)⟩
theorem lw_p35 : lw_okq (⟨"EscalatedFormsModel", "truantOf", "(I)I"⟩, 34) := ⟨⟨by decide +kernel, by decide +kernel⟩, List.mem_of_getElem? (i := 771) (by decide +kernel), List.mem_of_getElem? (i := 1045) (by decide +kernel), List.mem_of_getElem? (i := 1046) (by decide +kernel)⟩
theorem lw_p36 : lw_okq (⟨"EscalatedFormsModel", "layRests", "(I)V"⟩, 34) := ⟨⟨by decide +kernel, by decide +kernel⟩, List.mem_of_getElem? (i := 771) (by decide +kernel), List.mem_of_getElem? (i := 1053) (by decide +kernel), List.mem_of_getElem? (i := 1054) (by decide +kernel)⟩
theorem lw_p37 : lw_okq (⟨"EscalatedFormsModel", "restsBy", "(II)I"⟩, 34) := ⟨⟨by decide +kernel, by decide +kernel⟩, List.mem_of_getElem? (i := 771) (by decide +kernel), List.mem_of_getElem? (i := 1057) (by decide +kernel), List.mem_of_getElem? (i := 1058) (by decide +kernel)⟩
theorem lw_p38 : lw_okq (⟨"EscalatedFormsModel", "barredBy", "(I)I"⟩, 34) := ⟨⟨by decide +kernel, by decide +kernel⟩, List.mem_of_getElem? (i := 771) (by decide +kernel), List.mem_of_getElem? (i := 1061) (by decide +kernel), List.mem_of_getElem? (i := 1062) (by decide +kernel)⟩
theorem lw_p39 : lw_okq (⟨"EscalatedFormsModel", "ruledAt", "(II)I"⟩, 34) := ⟨⟨by decide +kernel, by decide +kernel⟩, List.mem_of_getElem? (i := 771) (by decide +kernel), List.mem_of_getElem? (i := 1088) (by decide +kernel), List.mem_of_getElem? (i := 1089) (by decide +kernel)⟩
theorem lw_p40 : lw_okq (⟨"EscalatedFormsModel", "lackMany", "(I)I"⟩, 34) := ⟨⟨by decide +kernel, by decide +kernel⟩, List.mem_of_getElem? (i := 771) (by decide +kernel), List.mem_of_getElem? (i := 1096) (by decide +kernel), List.mem_of_getElem? (i := 1097) (by decide +kernel)⟩
theorem lw_p41 : lw_okq (⟨"EscalatedFormsModel", "lowest", "(II)I"⟩, 34) := ⟨⟨by decide +kernel, by decide +kernel⟩, List.mem_of_getElem? (i := 771) (by decide +kernel), List.mem_of_getElem? (i := 1108) (by decide +kernel), List.mem_of_getElem? (i := 1109) (by decide +kernel)⟩
theorem lw_p42 : lw_okq (⟨"EscalatedFormsModel", "beginChildren", "(I)I"⟩, 34) := ⟨⟨by decide +kernel, by decide +kernel⟩, List.mem_of_getElem? (i := 771) (by decide +kernel), List.mem_of_getElem? (i := 1116) (by decide +kernel), List.mem_of_getElem? (i := 1117) (by decide +kernel)⟩
theorem lw_p43 : lw_okq (⟨"EscalatedFormsModel", "nextChild", "()Z"⟩, 34) := ⟨⟨by decide +kernel, by decide +kernel⟩, List.mem_of_getElem? (i := 771) (by decide +kernel), List.mem_of_getElem? (i := 1120) (by decide +kernel), List.mem_of_getElem? (i := 1121) (by decide +kernel)⟩
theorem lw_p44 : lw_okq (⟨"EscalatedFormsModel", "nextRow", "()Z"⟩, 34) := ⟨⟨by decide +kernel, by decide +kernel⟩, List.mem_of_getElem? (i := 771) (by decide +kernel), List.mem_of_getElem? (i := 1124) (by decide +kernel), List.mem_of_getElem? (i := 1125) (by decide +kernel)⟩
theorem lw_p45 : lw_okq (⟨"EscalatedFormsModel", "isChild", "(I)Z"⟩, 34) := ⟨⟨by decide +kernel, by decide +kernel⟩, List.mem_of_getElem? (i := 771) (by decide +kernel), List.mem_of_getElem? (i := 1132) (by decide +kernel), List.mem_of_getElem? (i := 1133) (by decide +kernel)⟩
theorem lw_p46 : lw_okq (⟨"EscalatedFormsModel", "greatestLack", "()I"⟩, 34) := ⟨⟨by decide +kernel, by decide +kernel⟩, List.mem_of_getElem? (i := 771) (by decide +kernel), List.mem_of_getElem? (i := 1140) (by decide +kernel), List.mem_of_getElem? (i := 1141) (by decide +kernel)⟩
theorem lw_p47 : lw_okq (⟨"EscalatedFormsModel", "isNode", "(I)Z"⟩, 34) := ⟨⟨by decide +kernel, by decide +kernel⟩, List.mem_of_getElem? (i := 771) (by decide +kernel), List.mem_of_getElem? (i := 1152) (by decide +kernel), List.mem_of_getElem? (i := 1153) (by decide +kernel)⟩
def lw_privs_3 : List (MethodName × Nat) := [(⟨"EscalatedFormsModel", "layCounts", "(I)V"⟩, 34), (⟨"EscalatedFormsModel", "layLast", "(II)V"⟩, 34), (⟨"EscalatedFormsModel", "seeAt", "(II)V"⟩, 34), (⟨"EscalatedFormsModel", "truantOf", "(I)I"⟩, 34), (⟨"EscalatedFormsModel", "layRests", "(I)V"⟩, 34), (⟨"EscalatedFormsModel", "restsBy", "(II)I"⟩, 34), (⟨"EscalatedFormsModel", "barredBy", "(I)I"⟩, 34), (⟨"EscalatedFormsModel", "ruledAt", "(II)I"⟩, 34), (⟨"EscalatedFormsModel", "lackMany", "(I)I"⟩, 34), (⟨"EscalatedFormsModel", "lowest", "(II)I"⟩, 34), (⟨"EscalatedFormsModel", "beginChildren", "(I)I"⟩, 34), (⟨"EscalatedFormsModel", "nextChild", "()Z"⟩, 34), (⟨"EscalatedFormsModel", "nextRow", "()Z"⟩, 34), (⟨"EscalatedFormsModel", "isChild", "(I)Z"⟩, 34), (⟨"EscalatedFormsModel", "greatestLack", "()I"⟩, 34), (⟨"EscalatedFormsModel", "isNode", "(I)Z"⟩, 34)]
theorem lw_r3 : ∀ q ∈ lw_privs_3, lw_okq q := List.forall_mem_cons.mpr ⟨lw_p32, List.forall_mem_cons.mpr ⟨lw_p33, List.forall_mem_cons.mpr ⟨lw_p34, List.forall_mem_cons.mpr ⟨lw_p35, List.forall_mem_cons.mpr ⟨lw_p36, List.forall_mem_cons.mpr ⟨lw_p37, List.forall_mem_cons.mpr ⟨lw_p38, List.forall_mem_cons.mpr ⟨lw_p39, List.forall_mem_cons.mpr ⟨lw_p40, List.forall_mem_cons.mpr ⟨lw_p41, List.forall_mem_cons.mpr ⟨lw_p42, List.forall_mem_cons.mpr ⟨lw_p43, List.forall_mem_cons.mpr ⟨lw_p44, List.forall_mem_cons.mpr ⟨lw_p45, List.forall_mem_cons.mpr ⟨lw_p46, List.forall_mem_cons.mpr ⟨lw_p47, fun _ h => absurd h List.not_mem_nil⟩⟩⟩⟩⟩⟩⟩⟩⟩⟩⟩⟩⟩⟩⟩⟩
theorem lw_p48 : lw_okq (⟨"EscalatedFormsModel", "layHeights", "()V"⟩, 34) := ⟨⟨by decide +kernel, by decide +kernel⟩, List.mem_of_getElem? (i := 771) (by decide +kernel), List.mem_of_getElem? (i := 1161) (by decide +kernel), List.mem_of_getElem? (i := 1162) (by decide +kernel)⟩
theorem lw_p49 : lw_okq (⟨"EscalatedFormsModel", "claimsBelow", "(I)I"⟩, 34) := ⟨⟨by decide +kernel, by decide +kernel⟩, List.mem_of_getElem? (i := 771) (by decide +kernel), List.mem_of_getElem? (i := 1165) (by decide +kernel), List.mem_of_getElem? (i := 1166) (by decide +kernel)⟩
theorem lw_p50 : lw_okq (⟨"EscalatedFormsModel", "isBelow", "(II)Z"⟩, 34) := ⟨⟨by decide +kernel, by decide +kernel⟩, List.mem_of_getElem? (i := 771) (by decide +kernel), List.mem_of_getElem? (i := 1169) (by decide +kernel), List.mem_of_getElem? (i := 1170) (by decide +kernel)⟩
theorem lw_p51 : lw_okq (⟨"EscalatedFormsModel", "behind", "(I)I"⟩, 34) := ⟨⟨by decide +kernel, by decide +kernel⟩, List.mem_of_getElem? (i := 771) (by decide +kernel), List.mem_of_getElem? (i := 1181) (by decide +kernel), List.mem_of_getElem? (i := 1182) (by decide +kernel)⟩
theorem lw_p52 : lw_okq (⟨"EscalatedFormsModel", "firstUnder", "(II)I"⟩, 34) := ⟨⟨by decide +kernel, by decide +kernel⟩, List.mem_of_getElem? (i := 771) (by decide +kernel), List.mem_of_getElem? (i := 1185) (by decide +kernel), List.mem_of_getElem? (i := 1186) (by decide +kernel)⟩
theorem lw_p53 : lw_okq (⟨"EscalatedFormsModel", "slotsHeld", "()I"⟩, 34) := ⟨⟨by decide +kernel, by decide +kernel⟩, List.mem_of_getElem? (i := 771) (by decide +kernel), List.mem_of_getElem? (i := 1214) (by decide +kernel), List.mem_of_getElem? (i := 1215) (by decide +kernel)⟩
def lw_privs_4 : List (MethodName × Nat) := [(⟨"EscalatedFormsModel", "layHeights", "()V"⟩, 34), (⟨"EscalatedFormsModel", "claimsBelow", "(I)I"⟩, 34), (⟨"EscalatedFormsModel", "isBelow", "(II)Z"⟩, 34), (⟨"EscalatedFormsModel", "behind", "(I)I"⟩, 34), (⟨"EscalatedFormsModel", "firstUnder", "(II)I"⟩, 34), (⟨"EscalatedFormsModel", "slotsHeld", "()I"⟩, 34)]
theorem lw_r4 : ∀ q ∈ lw_privs_4, lw_okq q := List.forall_mem_cons.mpr ⟨lw_p48, List.forall_mem_cons.mpr ⟨lw_p49, List.forall_mem_cons.mpr ⟨lw_p50, List.forall_mem_cons.mpr ⟨lw_p51, List.forall_mem_cons.mpr ⟨lw_p52, List.forall_mem_cons.mpr ⟨lw_p53, fun _ h => absurd h List.not_mem_nil⟩⟩⟩⟩⟩⟩
def lw_privs : List (MethodName × Nat) := lw_privs_1 ++ (lw_privs_2 ++ (lw_privs_3 ++ (lw_privs_4)))
def lw_tbl : List Cond := k2_sels lw_privs ++ tables_1
theorem lw_privs_ok : ∀ q ∈ lw_privs, lw_okq q := by
  show ∀ q ∈ lw_privs_1 ++ (lw_privs_2 ++ (lw_privs_3 ++ (lw_privs_4))), lw_okq q
  exact List.forall_mem_append.mpr ⟨lw_r1, List.forall_mem_append.mpr ⟨lw_r2, List.forall_mem_append.mpr ⟨lw_r3, lw_r4⟩⟩⟩
end
section
def RX0 : String := "EscalatedForms$Brood"
def TX0 : u_T := fun k => match k with
  | 0 => ("EscalatedForms$Brood", "parent", "LEscalatedForms$Form;", false)
  | 1 => ("EscalatedForms$Brood", "size", "I", false)
  | 2 => ("EscalatedForms$Brood", "square", "I", false)
  | _ => ("EscalatedForms$Brood", "rows", "[I", false)
def tyX0 : Nat → FieldType := fun k => match k with
  | 0 => .object "EscalatedForms$Form"
  | 1 => .int
  | 2 => .int
  | _ => .array .int
theorem nmX0 : ∀ a, a < 4 → ∀ b, b < 4 → a ≠ b → (TX0 a).2.1 ≠ (TX0 b).2.1 := by decide +kernel
theorem tyX0_ok : ∀ k, k < 4 → parseFieldDescriptor (TX0 k).2.2.1 = some (tyX0 k) := by decide +kernel
abbrev cX0_init : ByteArray := prog_2_method_1_code
def yX0_init : MethodName := ⟨RX0, "<init>", "()V"⟩
abbrev cX0_gather : ByteArray := prog_2_method_2_code
def yX0_gather : MethodName := ⟨RX0, "gather", "(LEscalatedForms$Form;ILEscalatedForms$Draft;LEscalatedForms$Ellipsoid;)V"⟩
abbrev cX0_add : ByteArray := prog_2_method_3_code
def yX0_add : MethodName := ⟨RX0, "add", "(I)V"⟩
abbrev cX0_shape : ByteArray := prog_2_method_4_code
def yX0_shape : MethodName := ⟨RX0, "shape", "(ILEscalatedForms$Draft;)Z"⟩
def RX1 : String := "EscalatedForms$Draft"
def TX1 : u_T := fun k => match k with
  | 0 => ("EscalatedForms$Draft", "letters", "I", false)
  | 1 => ("EscalatedForms$Draft", "entries", "[I", true)
  | 2 => ("EscalatedForms$Draft", "det", "I", false)
  | 3 => ("EscalatedForms$Draft", "box", "I", false)
  | 4 => ("EscalatedForms$Draft", "work", "[J", true)
  | _ => ("EscalatedForms$Draft", "chosen", "[I", true)
def tyX1 : Nat → FieldType := fun k => match k with
  | 0 => .int
  | 1 => .array .int
  | 2 => .int
  | 3 => .int
  | 4 => .array .long
  | _ => .array .int
theorem nmX1 : ∀ a, a < 6 → ∀ b, b < 6 → a ≠ b → (TX1 a).2.1 ≠ (TX1 b).2.1 := by decide +kernel
theorem tyX1_ok : ∀ k, k < 6 → parseFieldDescriptor (TX1 k).2.2.1 = some (tyX1 k) := by decide +kernel
abbrev cX1_init : ByteArray := prog_3_method_1_code
def yX1_init : MethodName := ⟨RX1, "<init>", "()V"⟩
abbrev cX1_begin : ByteArray := prog_3_method_2_code
def yX1_begin : MethodName := ⟨RX1, "begin", "(I)V"⟩
abbrev cX1_load : ByteArray := prog_3_method_3_code
def yX1_load : MethodName := ⟨RX1, "load", "(LEscalatedForms$Form;)V"⟩
abbrev cX1_get : ByteArray := prog_3_method_4_code
def yX1_get : MethodName := ⟨RX1, "get", "(II)I"⟩
abbrev cX1_set : ByteArray := prog_3_method_5_code
def yX1_set : MethodName := ⟨RX1, "set", "(III)V"⟩
abbrev cX1_paste : ByteArray := prog_3_method_6_code
def yX1_paste : MethodName := ⟨RX1, "paste", "(LEscalatedForms$Form;I)V"⟩
abbrev cX1_multiply : ByteArray := prog_3_method_7_code
def yX1_multiply : MethodName := ⟨RX1, "multiply", "(I)V"⟩
abbrev cX1_exchange : ByteArray := prog_3_method_8_code
def yX1_exchange : MethodName := ⟨RX1, "exchange", "(LEscalatedForms$Form;II)V"⟩
abbrev cX1_addLetter : ByteArray := prog_3_method_9_code
def yX1_addLetter : MethodName := ⟨RX1, "addLetter", "(III)V"⟩
abbrev cX1_reduceOnce : ByteArray := prog_3_method_10_code
def yX1_reduceOnce : MethodName := ⟨RX1, "reduceOnce", "()Z"⟩
abbrev cX1_isInRange : ByteArray := prog_3_method_11_code
def yX1_isInRange : MethodName := ⟨RX1, "isInRange", "()Z"⟩
abbrev cX1_isLawful : ByteArray := prog_3_method_12_code
def yX1_isLawful : MethodName := ⟨RX1, "isLawful", "()Z"⟩
abbrev cX1_determinant : ByteArray := prog_3_method_13_code
def yX1_determinant : MethodName := ⟨RX1, "determinant", "(I)J"⟩
abbrev cX1_eliminateBehind : ByteArray := prog_3_method_14_code
def yX1_eliminateBehind : MethodName := ⟨RX1, "eliminateBehind", "(IIJ)V"⟩
def RX2 : String := "EscalatedForms$Ellipsoid"
def TX2 : u_T := fun k => match k with
  | 0 => ("EscalatedForms$Ellipsoid", "letters", "I", false)
  | 1 => ("EscalatedForms$Ellipsoid", "level", "I", false)
  | 2 => ("EscalatedForms$Ellipsoid", "limit", "I", false)
  | 3 => ("EscalatedForms$Ellipsoid", "isHalf", "Z", false)
  | 4 => ("EscalatedForms$Ellipsoid", "strict", "I", false)
  | 5 => ("EscalatedForms$Ellipsoid", "slopes", "[J", true)
  | 6 => ("EscalatedForms$Ellipsoid", "outer", "[J", true)
  | 7 => ("EscalatedForms$Ellipsoid", "left", "[J", true)
  | 8 => ("EscalatedForms$Ellipsoid", "shift", "[J", true)
  | 9 => ("EscalatedForms$Ellipsoid", "x", "[I", true)
  | _ => ("EscalatedForms$Ellipsoid", "low", "[I", true)
def tyX2 : Nat → FieldType := fun k => match k with
  | 0 => .int
  | 1 => .int
  | 2 => .int
  | 3 => .boolean
  | 4 => .int
  | 5 => .array .long
  | 6 => .array .long
  | 7 => .array .long
  | 8 => .array .long
  | 9 => .array .int
  | _ => .array .int
theorem nmX2 : ∀ a, a < 11 → ∀ b, b < 11 → a ≠ b → (TX2 a).2.1 ≠ (TX2 b).2.1 := by decide +kernel
theorem tyX2_ok : ∀ k, k < 11 → parseFieldDescriptor (TX2 k).2.2.1 = some (tyX2 k) := by decide +kernel
abbrev cX2_init : ByteArray := prog_4_method_1_code
def yX2_init : MethodName := ⟨RX2, "<init>", "()V"⟩
abbrev cX2_openWorths : ByteArray := prog_4_method_2_code
def yX2_openWorths : MethodName := ⟨RX2, "openWorths", "(I[II)V"⟩
abbrev cX2_eliminateAhead : ByteArray := prog_4_method_3_code
def yX2_eliminateAhead : MethodName := ⟨RX2, "eliminateAhead", "(IJ)V"⟩
abbrev cX2_openRows : ByteArray := prog_4_method_4_code
def yX2_openRows : MethodName := ⟨RX2, "openRows", "(LEscalatedForms$Form;I)V"⟩
abbrev cX2_enter : ByteArray := prog_4_method_5_code
def yX2_enter : MethodName := ⟨RX2, "enter", "(I)V"⟩
abbrev cX2_advance : ByteArray := prog_4_method_6_code
def yX2_advance : MethodName := ⟨RX2, "advance", "()Z"⟩
abbrev cX2_narrow : ByteArray := prog_4_method_7_code
def yX2_narrow : MethodName := ⟨RX2, "narrow", "(I)V"⟩
abbrev cX2_worthHere : ByteArray := prog_4_method_8_code
def yX2_worthHere : MethodName := ⟨RX2, "worthHere", "()I"⟩
def RX3 : String := "EscalatedForms$Form"
def TX3 : u_T := fun k => match k with
  | 0 => ("EscalatedForms$Form", "letters", "I", true)
  | 1 => ("EscalatedForms$Form", "entries", "[I", true)
  | 2 => ("EscalatedForms$Form", "det", "I", true)
  | 3 => ("EscalatedForms$Form", "box", "I", true)
  | 4 => ("EscalatedForms$Form", "taken", "LEscalatedForms$Taken;", false)
  | _ => ("EscalatedForms$Form", "remainderBits", "[I", false)
def tyX3 : Nat → FieldType := fun k => match k with
  | 0 => .int
  | 1 => .array .int
  | 2 => .int
  | 3 => .int
  | 4 => .object "EscalatedForms$Taken"
  | _ => .array .int
theorem nmX3 : ∀ a, a < 6 → ∀ b, b < 6 → a ≠ b → (TX3 a).2.1 ≠ (TX3 b).2.1 := by decide +kernel
theorem tyX3_ok : ∀ k, k < 6 → parseFieldDescriptor (TX3 k).2.2.1 = some (tyX3 k) := by decide +kernel
abbrev cX3_init : ByteArray := prog_5_method_1_code
def yX3_init : MethodName := ⟨RX3, "<init>", "(LEscalatedForms$Draft;)V"⟩
abbrev cX3_greatestSquare : ByteArray := prog_5_method_2_code
def yX3_greatestSquare : MethodName := ⟨RX3, "greatestSquare", "()I"⟩
def RX4 : String := "EscalatedForms$Remainders"
def TX4 : u_T := fun k => match k with
  | 0 => ("EscalatedForms$Remainders", "x", "[I", true)
  | _ => ("EscalatedForms$Remainders", "seen", "[B", true)
def tyX4 : Nat → FieldType := fun k => match k with
  | 0 => .array .int
  | _ => .array .byte
theorem nmX4 : ∀ a, a < 2 → ∀ b, b < 2 → a ≠ b → (TX4 a).2.1 ≠ (TX4 b).2.1 := by decide +kernel
theorem tyX4_ok : ∀ k, k < 2 → parseFieldDescriptor (TX4 k).2.2.1 = some (tyX4 k) := by decide +kernel
abbrev cX4_init : ByteArray := prog_6_method_1_code
def yX4_init : MethodName := ⟨RX4, "<init>", "()V"⟩
abbrev cX4_bitsOf : ByteArray := prog_6_method_2_code
def yX4_bitsOf : MethodName := ⟨RX4, "bitsOf", "(LEscalatedForms$Form;I)I"⟩
abbrev cX4_foundBits : ByteArray := prog_6_method_3_code
def yX4_foundBits : MethodName := ⟨RX4, "foundBits", "(LEscalatedForms$Form;I)I"⟩
abbrev cX4_worthAhead : ByteArray := prog_6_method_4_code
def yX4_worthAhead : MethodName := ⟨RX4, "worthAhead", "(LEscalatedForms$Form;I)I"⟩
abbrev cX4_slopeOf : ByteArray := prog_6_method_5_code
def yX4_slopeOf : MethodName := ⟨RX4, "slopeOf", "(LEscalatedForms$Form;I)I"⟩
abbrev cX4_countOn : ByteArray := prog_6_method_6_code
def yX4_countOn : MethodName := ⟨RX4, "countOn", "(II)V"⟩
def RX5 : String := "EscalatedForms$Sheet"
def TX5 : u_T := fun k => match k with
  | 0 => ("EscalatedForms$Sheet", "sort", "I", false)
  | 1 => ("EscalatedForms$Sheet", "size", "I", false)
  | _ => ("EscalatedForms$Sheet", "numbers", "[I", true)
def tyX5 : Nat → FieldType := fun k => match k with
  | 0 => .int
  | 1 => .int
  | _ => .array .int
theorem nmX5 : ∀ a, a < 3 → ∀ b, b < 3 → a ≠ b → (TX5 a).2.1 ≠ (TX5 b).2.1 := by decide +kernel
theorem tyX5_ok : ∀ k, k < 3 → parseFieldDescriptor (TX5 k).2.2.1 = some (tyX5 k) := by decide +kernel
abbrev cX5_init : ByteArray := prog_7_method_1_code
def yX5_init : MethodName := ⟨RX5, "<init>", "()V"⟩
abbrev cX5_isMissing : ByteArray := prog_7_method_2_code
def yX5_isMissing : MethodName := ⟨RX5, "isMissing", "()Z"⟩
abbrev cX5_become : ByteArray := prog_7_method_3_code
def yX5_become : MethodName := ⟨RX5, "become", "(II)V"⟩
abbrev cX5_has : ByteArray := prog_7_method_4_code
def yX5_has : MethodName := ⟨RX5, "has", "(II)Z"⟩
abbrev cX5_put : ByteArray := prog_7_method_5_code
def yX5_put : MethodName := ⟨RX5, "put", "(II)V"⟩
def RX6 : String := "EscalatedForms$Taken"
def TX6 : u_T := fun k => match k with
  | 0 => ("EscalatedForms$Taken", "counts", "[I", true)
  | _ => ("EscalatedForms$Taken", "firsts", "[I", true)
def tyX6 : Nat → FieldType := fun k => match k with
  | 0 => .array .int
  | _ => .array .int
theorem nmX6 : ∀ a, a < 2 → ∀ b, b < 2 → a ≠ b → (TX6 a).2.1 ≠ (TX6 b).2.1 := by decide +kernel
theorem tyX6_ok : ∀ k, k < 2 → parseFieldDescriptor (TX6 k).2.2.1 = some (tyX6 k) := by decide +kernel
abbrev cX6_init : ByteArray := prog_8_method_1_code
def yX6_init : MethodName := ⟨RX6, "<init>", "(LEscalatedForms$Form;LEscalatedForms$Ellipsoid;)V"⟩
abbrev cX6_firstLacking : ByteArray := prog_8_method_2_code
def yX6_firstLacking : MethodName := ⟨RX6, "firstLacking", "()I"⟩
def RX7 : String := "EscalatedForms$Tree"
def TX7 : u_T := fun k => match k with
  | 0 => ("EscalatedForms$Tree", "size", "I", false)
  | 1 => ("EscalatedForms$Tree", "forms", "[LEscalatedForms$Form;", true)
  | 2 => ("EscalatedForms$Tree", "above", "[I", true)
  | 3 => ("EscalatedForms$Tree", "which", "[I", true)
  | _ => ("EscalatedForms$Tree", "heights", "[I", true)
def tyX7 : Nat → FieldType := fun k => match k with
  | 0 => .int
  | 1 => .array (.object "EscalatedForms$Form")
  | 2 => .array .int
  | 3 => .array .int
  | _ => .array .int
theorem nmX7 : ∀ a, a < 5 → ∀ b, b < 5 → a ≠ b → (TX7 a).2.1 ≠ (TX7 b).2.1 := by decide +kernel
theorem tyX7_ok : ∀ k, k < 5 → parseFieldDescriptor (TX7 k).2.2.1 = some (tyX7 k) := by decide +kernel
abbrev cX7_init : ByteArray := prog_9_method_1_code
def yX7_init : MethodName := ⟨RX7, "<init>", "()V"⟩
abbrev cX7_isNode : ByteArray := prog_9_method_2_code
def yX7_isNode : MethodName := ⟨RX7, "isNode", "(I)Z"⟩
abbrev cX7_become : ByteArray := prog_9_method_3_code
def yX7_become : MethodName := ⟨RX7, "become", "(LEscalatedForms$Tree;)V"⟩
abbrev cX7_truncate : ByteArray := prog_9_method_4_code
def yX7_truncate : MethodName := ⟨RX7, "truncate", "(I)V"⟩
abbrev cX7_add : ByteArray := prog_9_method_5_code
def yX7_add : MethodName := ⟨RX7, "add", "(LEscalatedForms$Form;II)I"⟩
abbrev cX7_under : ByteArray := prog_9_method_6_code
def yX7_under : MethodName := ⟨RX7, "under", "(I)I"⟩
abbrev cX7_isWithin : ByteArray := prog_9_method_7_code
def yX7_isWithin : MethodName := ⟨RX7, "isWithin", "(II)Z"⟩
abbrev cX7_heightOf : ByteArray := prog_9_method_8_code
def yX7_heightOf : MethodName := ⟨RX7, "heightOf", "(I)I"⟩
abbrev cX7_leavesOf : ByteArray := prog_9_method_9_code
def yX7_leavesOf : MethodName := ⟨RX7, "leavesOf", "(I)I"⟩
abbrev cX7_firstUnder : ByteArray := prog_9_method_10_code
def yX7_firstUnder : MethodName := ⟨RX7, "firstUnder", "(II)I"⟩
abbrev cX7_following : ByteArray := prog_9_method_11_code
def yX7_following : MethodName := ⟨RX7, "following", "(I)I"⟩
abbrev cX7_remove : ByteArray := prog_9_method_12_code
def yX7_remove : MethodName := ⟨RX7, "remove", "(I)V"⟩
def RX8 : String := "EscalatedForms"
def TX8 : u_T := fun k => match k with
  | 0 => ("EscalatedForms", "slots", "[LEscalatedForms$Form;", true)
  | 1 => ("EscalatedForms", "keptSlots", "[LEscalatedForms$Form;", true)
  | 2 => ("EscalatedForms", "tree", "LEscalatedForms$Tree;", true)
  | 3 => ("EscalatedForms", "keptTree", "LEscalatedForms$Tree;", true)
  | 4 => ("EscalatedForms", "isKept", "Z", false)
  | 5 => ("EscalatedForms", "sheets", "[LEscalatedForms$Sheet;", true)
  | 6 => ("EscalatedForms", "draft", "LEscalatedForms$Draft;", true)
  | 7 => ("EscalatedForms", "ellipsoid", "LEscalatedForms$Ellipsoid;", true)
  | 8 => ("EscalatedForms", "remainders", "LEscalatedForms$Remainders;", true)
  | _ => ("EscalatedForms", "brood", "LEscalatedForms$Brood;", true)
def tyX8 : Nat → FieldType := fun k => match k with
  | 0 => .array (.object "EscalatedForms$Form")
  | 1 => .array (.object "EscalatedForms$Form")
  | 2 => .object "EscalatedForms$Tree"
  | 3 => .object "EscalatedForms$Tree"
  | 4 => .boolean
  | 5 => .array (.object "EscalatedForms$Sheet")
  | 6 => .object "EscalatedForms$Draft"
  | 7 => .object "EscalatedForms$Ellipsoid"
  | 8 => .object "EscalatedForms$Remainders"
  | _ => .object "EscalatedForms$Brood"
theorem nmX8 : ∀ a, a < 10 → ∀ b, b < 10 → a ≠ b → (TX8 a).2.1 ≠ (TX8 b).2.1 := by decide +kernel
theorem tyX8_ok : ∀ k, k < 10 → parseFieldDescriptor (TX8 k).2.2.1 = some (tyX8 k) := by decide +kernel
abbrev cX8_init : ByteArray := prog_1_method_1_code
def yX8_init : MethodName := ⟨RX8, "<init>", "()V"⟩
abbrev cX8_single : ByteArray := prog_1_method_2_code
def yX8_single : MethodName := ⟨RX8, "single", "(II)I"⟩
abbrev cX8_form : ByteArray := prog_1_method_3_code
def yX8_form : MethodName := ⟨RX8, "form", "(IIII)I"⟩
abbrev cX8_spread : ByteArray := prog_1_method_4_code
def yX8_spread : MethodName := ⟨RX8, "spread", "(III)I"⟩
abbrev cX8_clear : ByteArray := prog_1_method_5_code
def yX8_clear : MethodName := ⟨RX8, "clear", "(I)I"⟩
abbrev cX8_entry : ByteArray := prog_1_method_6_code
def yX8_entry : MethodName := ⟨RX8, "entry", "(IIII)I"⟩
abbrev cX8_at : ByteArray := prog_1_method_7_code
def yX8_at : MethodName := ⟨RX8, "at", "(III)I"⟩
abbrev cX8_minor : ByteArray := prog_1_method_8_code
def yX8_minor : MethodName := ⟨RX8, "minor", "(II)I"⟩
abbrev cX8_of : ByteArray := prog_1_method_9_code
def yX8_of : MethodName := ⟨RX8, "of", "(II)I"⟩
abbrev cX8_worth : ByteArray := prog_1_method_10_code
def yX8_worth : MethodName := ⟨RX8, "worth", "(IIIII)J"⟩
abbrev cX8_change : ByteArray := prog_1_method_11_code
def yX8_change : MethodName := ⟨RX8, "change", "(IIII)I"⟩
abbrev cX8_swap : ByteArray := prog_1_method_12_code
def yX8_swap : MethodName := ⟨RX8, "swap", "(III)I"⟩
abbrev cX8_scale : ByteArray := prog_1_method_13_code
def yX8_scale : MethodName := ⟨RX8, "scale", "(II)I"⟩
abbrev cX8_join : ByteArray := prog_1_method_14_code
def yX8_join : MethodName := ⟨RX8, "join", "(III)I"⟩
abbrev cX8_reduce : ByteArray := prog_1_method_15_code
def yX8_reduce : MethodName := ⟨RX8, "reduce", "(I)I"⟩
abbrev cX8_same : ByteArray := prog_1_method_16_code
def yX8_same : MethodName := ⟨RX8, "same", "(II)I"⟩
abbrev cX8_unlike : ByteArray := prog_1_method_17_code
def yX8_unlike : MethodName := ⟨RX8, "unlike", "(II)I"⟩
abbrev cX8_takes : ByteArray := prog_1_method_18_code
def yX8_takes : MethodName := ⟨RX8, "takes", "(II)I"⟩
abbrev cX8_vector : ByteArray := prog_1_method_19_code
def yX8_vector : MethodName := ⟨RX8, "vector", "(III)I"⟩
abbrev cX8_truant : ByteArray := prog_1_method_20_code
def yX8_truant : MethodName := ⟨RX8, "truant", "(I)I"⟩
abbrev cX8_exceptions : ByteArray := prog_1_method_21_code
def yX8_exceptions : MethodName := ⟨RX8, "exceptions", "(III)I"⟩
abbrev cX8_exception : ByteArray := prog_1_method_22_code
def yX8_exception : MethodName := ⟨RX8, "exception", "(II)I"⟩
abbrev cX8_residues : ByteArray := prog_1_method_23_code
def yX8_residues : MethodName := ⟨RX8, "residues", "(II)I"⟩
abbrev cX8_barred : ByteArray := prog_1_method_24_code
def yX8_barred : MethodName := ⟨RX8, "barred", "(II)I"⟩
abbrev cX8_rule : ByteArray := prog_1_method_25_code
def yX8_rule : MethodName := ⟨RX8, "rule", "(II)I"⟩
abbrev cX8_claim : ByteArray := prog_1_method_26_code
def yX8_claim : MethodName := ⟨RX8, "claim", "(II)I"⟩
abbrev cX8_lacks : ByteArray := prog_1_method_27_code
def yX8_lacks : MethodName := ⟨RX8, "lacks", "(III)I"⟩
abbrev cX8_certify : ByteArray := prog_1_method_28_code
def yX8_certify : MethodName := ⟨RX8, "certify", "(IIII)I"⟩
abbrev cX8_children : ByteArray := prog_1_method_29_code
def yX8_children : MethodName := ⟨RX8, "children", "(I)I"⟩
abbrev cX8_child : ByteArray := prog_1_method_30_code
def yX8_child : MethodName := ⟨RX8, "child", "(III)I"⟩
abbrev cX8_next : ByteArray := prog_1_method_31_code
def yX8_next : MethodName := ⟨RX8, "next", "(III)I"⟩
abbrev cX8_plant : ByteArray := prog_1_method_32_code
def yX8_plant : MethodName := ⟨RX8, "plant", "(I)I"⟩
abbrev cX8_branch : ByteArray := prog_1_method_33_code
def yX8_branch : MethodName := ⟨RX8, "branch", "(II)I"⟩
abbrev cX8_ofNode : ByteArray := prog_1_method_34_code
def yX8_ofNode : MethodName := ⟨RX8, "ofNode", "(II)I"⟩
abbrev cX8_nodeTo : ByteArray := prog_1_method_35_code
def yX8_nodeTo : MethodName := ⟨RX8, "nodeTo", "(II)I"⟩
abbrev cX8_walk : ByteArray := prog_1_method_36_code
def yX8_walk : MethodName := ⟨RX8, "walk", "(I)I"⟩
abbrev cX8_cut : ByteArray := prog_1_method_37_code
def yX8_cut : MethodName := ⟨RX8, "cut", "(I)I"⟩
abbrev cX8_sheet : ByteArray := prog_1_method_38_code
def yX8_sheet : MethodName := ⟨RX8, "sheet", "(III)I"⟩
abbrev cX8_cell : ByteArray := prog_1_method_39_code
def yX8_cell : MethodName := ⟨RX8, "cell", "(III)I"⟩
abbrev cX8_item : ByteArray := prog_1_method_40_code
def yX8_item : MethodName := ⟨RX8, "item", "(II)J"⟩
abbrev cX8_move : ByteArray := prog_1_method_41_code
def yX8_move : MethodName := ⟨RX8, "move", "(IIIII)I"⟩
abbrev cX8_keep : ByteArray := prog_1_method_42_code
def yX8_keep : MethodName := ⟨RX8, "keep", "()I"⟩
abbrev cX8_back : ByteArray := prog_1_method_43_code
def yX8_back : MethodName := ⟨RX8, "back", "()I"⟩
abbrev cX8_count : ByteArray := prog_1_method_44_code
def yX8_count : MethodName := ⟨RX8, "count", "(I)I"⟩
abbrev cX8_isSlot : ByteArray := prog_1_method_45_code
def yX8_isSlot : MethodName := ⟨RX8, "isSlot", "(I)Z"⟩
abbrev cX8_isSheet : ByteArray := prog_1_method_46_code
def yX8_isSheet : MethodName := ⟨RX8, "isSheet", "(I)Z"⟩
abbrev cX8_isLetter : ByteArray := prog_1_method_47_code
def yX8_isLetter : MethodName := ⟨RX8, "isLetter", "(LEscalatedForms$Form;I)Z"⟩
abbrev cX8_isRule : ByteArray := prog_1_method_48_code
def yX8_isRule : MethodName := ⟨RX8, "isRule", "(I)Z"⟩
abbrev cX8_numbersOf : ByteArray := prog_1_method_49_code
def yX8_numbersOf : MethodName := ⟨RX8, "numbersOf", "(I)[I"⟩
abbrev cX8_triangle : ByteArray := prog_1_method_50_code
def yX8_triangle : MethodName := ⟨RX8, "triangle", "(I)I"⟩
abbrev cX8_held : ByteArray := prog_1_method_51_code
def yX8_held : MethodName := ⟨RX8, "held", "(I)LEscalatedForms$Form;"⟩
abbrev cX8_heldSlots : ByteArray := prog_1_method_52_code
def yX8_heldSlots : MethodName := ⟨RX8, "heldSlots", "()I"⟩
abbrev cX8_presentSheets : ByteArray := prog_1_method_53_code
def yX8_presentSheets : MethodName := ⟨RX8, "presentSheets", "()I"⟩
abbrev cX8_storeDraft : ByteArray := prog_1_method_54_code
def yX8_storeDraft : MethodName := ⟨RX8, "storeDraft", "(I)Z"⟩
abbrev cX8_takenBy : ByteArray := prog_1_method_55_code
def yX8_takenBy : MethodName := ⟨RX8, "takenBy", "(LEscalatedForms$Form;)LEscalatedForms$Taken;"⟩
abbrev cX8_barrierOf : ByteArray := prog_1_method_56_code
def yX8_barrierOf : MethodName := ⟨RX8, "barrierOf", "(LEscalatedForms$Form;I)I"⟩
abbrev cX8_lackingOf : ByteArray := prog_1_method_57_code
def yX8_lackingOf : MethodName := ⟨RX8, "lackingOf", "(LEscalatedForms$Taken;II)I"⟩
abbrev cX8_isClaimed : ByteArray := prog_1_method_58_code
def yX8_isClaimed : MethodName := ⟨RX8, "isClaimed", "(LEscalatedForms$Taken;I)Z"⟩
abbrev cX8_claimsBelow : ByteArray := prog_1_method_59_code
def yX8_claimsBelow : MethodName := ⟨RX8, "claimsBelow", "(I)I"⟩
abbrev cX8_refusalToGrow : ByteArray := prog_1_method_60_code
def yX8_refusalToGrow : MethodName := ⟨RX8, "refusalToGrow", "(LEscalatedForms$Form;)I"⟩
abbrev cX8_broodOf : ByteArray := prog_1_method_61_code
def yX8_broodOf : MethodName := ⟨RX8, "broodOf", "(LEscalatedForms$Form;)LEscalatedForms$Brood;"⟩
abbrev cX8_greatestLackOfDraft : ByteArray := prog_1_method_62_code
def yX8_greatestLackOfDraft : MethodName := ⟨RX8, "greatestLackOfDraft", "()I"⟩
abbrev cX8_squareRoot : ByteArray := prog_1_method_63_code
def yX8_squareRoot : MethodName := ⟨RX8, "squareRoot", "(J)J"⟩
def RX9 : String := "EscalatedFormsModel"
def TX9 : u_T := fun k => match k with
  | 0 => ("EscalatedFormsModel", "entries", "[I", true)
  | 1 => ("EscalatedFormsModel", "letters", "[I", true)
  | 2 => ("EscalatedFormsModel", "nodes", "I", false)
  | 3 => ("EscalatedFormsModel", "under", "[I", true)
  | 4 => ("EscalatedFormsModel", "childOf", "[I", true)
  | 5 => ("EscalatedFormsModel", "keptNodes", "I", false)
  | 6 => ("EscalatedFormsModel", "keptUnder", "[I", true)
  | 7 => ("EscalatedFormsModel", "keptChild", "[I", true)
  | 8 => ("EscalatedFormsModel", "isKept", "Z", false)
  | 9 => ("EscalatedFormsModel", "table", "[J", true)
  | 10 => ("EscalatedFormsModel", "reach", "[J", true)
  | 11 => ("EscalatedFormsModel", "det0", "J", false)
  | 12 => ("EscalatedFormsModel", "box0", "J", false)
  | 13 => ("EscalatedFormsModel", "told", "[J", true)
  | 14 => ("EscalatedFormsModel", "counts", "[I", true)
  | 15 => ("EscalatedFormsModel", "otherCounts", "[I", true)
  | 16 => ("EscalatedFormsModel", "firstAt", "[I", true)
  | 17 => ("EscalatedFormsModel", "x0", "I", false)
  | 18 => ("EscalatedFormsModel", "x1", "I", false)
  | 19 => ("EscalatedFormsModel", "x2", "I", false)
  | 20 => ("EscalatedFormsModel", "rests", "[I", true)
  | 21 => ("EscalatedFormsModel", "ruled", "[I", true)
  | 22 => ("EscalatedFormsModel", "parent", "I", false)
  | 23 => ("EscalatedFormsModel", "truant0", "I", false)
  | 24 => ("EscalatedFormsModel", "bounds", "[I", true)
  | 25 => ("EscalatedFormsModel", "row", "[I", true)
  | 26 => ("EscalatedFormsModel", "isFresh", "Z", false)
  | 27 => ("EscalatedFormsModel", "heights", "[I", true)
  | 28 => ("EscalatedFormsModel", "leaves", "[I", true)
  | 29 => ("EscalatedFormsModel", "directs", "[I", true)
  | 30 => ("EscalatedFormsModel", "newNumber", "[I", true)
  | 31 => ("EscalatedFormsModel", "sorts", "[I", true)
  | 32 => ("EscalatedFormsModel", "sizes", "[I", true)
  | _ => ("EscalatedFormsModel", "numbers", "[I", true)
def tyX9 : Nat → FieldType := fun k => match k with
  | 0 => .array .int
  | 1 => .array .int
  | 2 => .int
  | 3 => .array .int
  | 4 => .array .int
  | 5 => .int
  | 6 => .array .int
  | 7 => .array .int
  | 8 => .boolean
  | 9 => .array .long
  | 10 => .array .long
  | 11 => .long
  | 12 => .long
  | 13 => .array .long
  | 14 => .array .int
  | 15 => .array .int
  | 16 => .array .int
  | 17 => .int
  | 18 => .int
  | 19 => .int
  | 20 => .array .int
  | 21 => .array .int
  | 22 => .int
  | 23 => .int
  | 24 => .array .int
  | 25 => .array .int
  | 26 => .boolean
  | 27 => .array .int
  | 28 => .array .int
  | 29 => .array .int
  | 30 => .array .int
  | 31 => .array .int
  | 32 => .array .int
  | _ => .array .int
theorem nmX9 : ∀ a, a < 34 → ∀ b, b < 34 → a ≠ b → (TX9 a).2.1 ≠ (TX9 b).2.1 := by decide +kernel
theorem tyX9_ok : ∀ k, k < 34 → parseFieldDescriptor (TX9 k).2.2.1 = some (tyX9 k) := by decide +kernel
abbrev cX9_init : ByteArray := prog_11_method_1_code
def yX9_init : MethodName := ⟨RX9, "<init>", "()V"⟩
abbrev cX9_in : ByteArray := prog_11_method_2_code
def yX9_in : MethodName := ⟨RX9, "in", "(JJJ)Z"⟩
abbrev cX9_size : ByteArray := prog_11_method_3_code
def yX9_size : MethodName := ⟨RX9, "size", "(I)I"⟩
abbrev cX9_entryAt : ByteArray := prog_11_method_4_code
def yX9_entryAt : MethodName := ⟨RX9, "entryAt", "(III)I"⟩
abbrev cX9_layEntry : ByteArray := prog_11_method_5_code
def yX9_layEntry : MethodName := ⟨RX9, "layEntry", "(IIII)V"⟩
abbrev cX9_clearAt : ByteArray := prog_11_method_6_code
def yX9_clearAt : MethodName := ⟨RX9, "clearAt", "(I)V"⟩
abbrev cX9_copyTo : ByteArray := prog_11_method_7_code
def yX9_copyTo : MethodName := ⟨RX9, "copyTo", "(II)V"⟩
abbrev cX9_isSlot : ByteArray := prog_11_method_8_code
def yX9_isSlot : MethodName := ⟨RX9, "isSlot", "(I)Z"⟩
abbrev cX9_hasForm : ByteArray := prog_11_method_9_code
def yX9_hasForm : MethodName := ⟨RX9, "hasForm", "(I)Z"⟩
abbrev cX9_isLetter : ByteArray := prog_11_method_10_code
def yX9_isLetter : MethodName := ⟨RX9, "isLetter", "(II)Z"⟩
abbrev cX9_detOf : ByteArray := prog_11_method_11_code
def yX9_detOf : MethodName := ⟨RX9, "detOf", "(III)J"⟩
abbrev cX9_clearBelow : ByteArray := prog_11_method_12_code
def yX9_clearBelow : MethodName := ⟨RX9, "clearBelow", "(IIJ)V"⟩
abbrev cX9_root : ByteArray := prog_11_method_13_code
def yX9_root : MethodName := ⟨RX9, "root", "(J)J"⟩
abbrev cX9_isLawful : ByteArray := prog_11_method_14_code
def yX9_isLawful : MethodName := ⟨RX9, "isLawful", "(I)Z"⟩
abbrev cX9_comes : ByteArray := prog_11_method_15_code
def yX9_comes : MethodName := ⟨RX9, "comes", "(I)I"⟩
abbrev cX9_single : ByteArray := prog_11_method_16_code
def yX9_single : MethodName := ⟨RX9, "single", "(II)I"⟩
abbrev cX9_form : ByteArray := prog_11_method_17_code
def yX9_form : MethodName := ⟨RX9, "form", "(IIII)I"⟩
abbrev cX9_spread : ByteArray := prog_11_method_18_code
def yX9_spread : MethodName := ⟨RX9, "spread", "(III)I"⟩
abbrev cX9_clear : ByteArray := prog_11_method_19_code
def yX9_clear : MethodName := ⟨RX9, "clear", "(I)I"⟩
abbrev cX9_entry : ByteArray := prog_11_method_20_code
def yX9_entry : MethodName := ⟨RX9, "entry", "(IIII)I"⟩
abbrev cX9_at : ByteArray := prog_11_method_21_code
def yX9_at : MethodName := ⟨RX9, "at", "(III)I"⟩
abbrev cX9_minor : ByteArray := prog_11_method_22_code
def yX9_minor : MethodName := ⟨RX9, "minor", "(II)I"⟩
abbrev cX9_of : ByteArray := prog_11_method_23_code
def yX9_of : MethodName := ⟨RX9, "of", "(II)I"⟩
abbrev cX9_worth : ByteArray := prog_11_method_24_code
def yX9_worth : MethodName := ⟨RX9, "worth", "(IIIII)J"⟩
abbrev cX9_changeAt : ByteArray := prog_11_method_25_code
def yX9_changeAt : MethodName := ⟨RX9, "changeAt", "(IIII)V"⟩
abbrev cX9_change : ByteArray := prog_11_method_26_code
def yX9_change : MethodName := ⟨RX9, "change", "(IIII)I"⟩
abbrev cX9_swap : ByteArray := prog_11_method_27_code
def yX9_swap : MethodName := ⟨RX9, "swap", "(III)I"⟩
abbrev cX9_scale : ByteArray := prog_11_method_28_code
def yX9_scale : MethodName := ⟨RX9, "scale", "(II)I"⟩
abbrev cX9_join : ByteArray := prog_11_method_29_code
def yX9_join : MethodName := ⟨RX9, "join", "(III)I"⟩
abbrev cX9_reduce : ByteArray := prog_11_method_30_code
def yX9_reduce : MethodName := ⟨RX9, "reduce", "(I)I"⟩
abbrev cX9_nextStep : ByteArray := prog_11_method_31_code
def yX9_nextStep : MethodName := ⟨RX9, "nextStep", "()I"⟩
abbrev cX9_same : ByteArray := prog_11_method_32_code
def yX9_same : MethodName := ⟨RX9, "same", "(II)I"⟩
abbrev cX9_layCounts : ByteArray := prog_11_method_33_code
def yX9_layCounts : MethodName := ⟨RX9, "layCounts", "(I)V"⟩
abbrev cX9_layLast : ByteArray := prog_11_method_34_code
def yX9_layLast : MethodName := ⟨RX9, "layLast", "(II)V"⟩
abbrev cX9_seeAt : ByteArray := prog_11_method_35_code
def yX9_seeAt : MethodName := ⟨RX9, "seeAt", "(II)V"⟩
abbrev cX9_unlike : ByteArray := prog_11_method_36_code
def yX9_unlike : MethodName := ⟨RX9, "unlike", "(II)I"⟩
abbrev cX9_takes : ByteArray := prog_11_method_37_code
def yX9_takes : MethodName := ⟨RX9, "takes", "(II)I"⟩
abbrev cX9_vector : ByteArray := prog_11_method_38_code
def yX9_vector : MethodName := ⟨RX9, "vector", "(III)I"⟩
abbrev cX9_truantOf : ByteArray := prog_11_method_39_code
def yX9_truantOf : MethodName := ⟨RX9, "truantOf", "(I)I"⟩
abbrev cX9_truant : ByteArray := prog_11_method_40_code
def yX9_truant : MethodName := ⟨RX9, "truant", "(I)I"⟩
abbrev cX9_layRests : ByteArray := prog_11_method_41_code
def yX9_layRests : MethodName := ⟨RX9, "layRests", "(I)V"⟩
abbrev cX9_restsBy : ByteArray := prog_11_method_42_code
def yX9_restsBy : MethodName := ⟨RX9, "restsBy", "(II)I"⟩
abbrev cX9_barredBy : ByteArray := prog_11_method_43_code
def yX9_barredBy : MethodName := ⟨RX9, "barredBy", "(I)I"⟩
abbrev cX9_exceptions : ByteArray := prog_11_method_44_code
def yX9_exceptions : MethodName := ⟨RX9, "exceptions", "(III)I"⟩
abbrev cX9_exception : ByteArray := prog_11_method_45_code
def yX9_exception : MethodName := ⟨RX9, "exception", "(II)I"⟩
abbrev cX9_residues : ByteArray := prog_11_method_46_code
def yX9_residues : MethodName := ⟨RX9, "residues", "(II)I"⟩
abbrev cX9_barred : ByteArray := prog_11_method_47_code
def yX9_barred : MethodName := ⟨RX9, "barred", "(II)I"⟩
abbrev cX9_ruleMany : ByteArray := prog_11_method_48_code
def yX9_ruleMany : MethodName := ⟨RX9, "ruleMany", "(I)I"⟩
abbrev cX9_ruledAt : ByteArray := prog_11_method_49_code
def yX9_ruledAt : MethodName := ⟨RX9, "ruledAt", "(II)I"⟩
abbrev cX9_isRule : ByteArray := prog_11_method_50_code
def yX9_isRule : MethodName := ⟨RX9, "isRule", "(I)Z"⟩
abbrev cX9_rule : ByteArray := prog_11_method_51_code
def yX9_rule : MethodName := ⟨RX9, "rule", "(II)I"⟩
abbrev cX9_lackMany : ByteArray := prog_11_method_52_code
def yX9_lackMany : MethodName := ⟨RX9, "lackMany", "(I)I"⟩
abbrev cX9_claim : ByteArray := prog_11_method_53_code
def yX9_claim : MethodName := ⟨RX9, "claim", "(II)I"⟩
abbrev cX9_lacks : ByteArray := prog_11_method_54_code
def yX9_lacks : MethodName := ⟨RX9, "lacks", "(III)I"⟩
abbrev cX9_certify : ByteArray := prog_11_method_55_code
def yX9_certify : MethodName := ⟨RX9, "certify", "(IIII)I"⟩
abbrev cX9_beginChildren : ByteArray := prog_11_method_56_code
def yX9_beginChildren : MethodName := ⟨RX9, "beginChildren", "(I)I"⟩
abbrev cX9_nextRow : ByteArray := prog_11_method_57_code
def yX9_nextRow : MethodName := ⟨RX9, "nextRow", "()Z"⟩
abbrev cX9_nextChild : ByteArray := prog_11_method_58_code
def yX9_nextChild : MethodName := ⟨RX9, "nextChild", "()Z"⟩
abbrev cX9_isChild : ByteArray := prog_11_method_59_code
def yX9_isChild : MethodName := ⟨RX9, "isChild", "(I)Z"⟩
abbrev cX9_children : ByteArray := prog_11_method_60_code
def yX9_children : MethodName := ⟨RX9, "children", "(I)I"⟩
abbrev cX9_child : ByteArray := prog_11_method_61_code
def yX9_child : MethodName := ⟨RX9, "child", "(III)I"⟩
abbrev cX9_next : ByteArray := prog_11_method_62_code
def yX9_next : MethodName := ⟨RX9, "next", "(III)I"⟩
abbrev cX9_greatestLack : ByteArray := prog_11_method_63_code
def yX9_greatestLack : MethodName := ⟨RX9, "greatestLack", "()I"⟩
abbrev cX9_isNode : ByteArray := prog_11_method_64_code
def yX9_isNode : MethodName := ⟨RX9, "isNode", "(I)Z"⟩
abbrev cX9_plant : ByteArray := prog_11_method_65_code
def yX9_plant : MethodName := ⟨RX9, "plant", "(I)I"⟩
abbrev cX9_branch : ByteArray := prog_11_method_66_code
def yX9_branch : MethodName := ⟨RX9, "branch", "(II)I"⟩
abbrev cX9_layHeights : ByteArray := prog_11_method_67_code
def yX9_layHeights : MethodName := ⟨RX9, "layHeights", "()V"⟩
abbrev cX9_isBelow : ByteArray := prog_11_method_68_code
def yX9_isBelow : MethodName := ⟨RX9, "isBelow", "(II)Z"⟩
abbrev cX9_claimsBelow : ByteArray := prog_11_method_69_code
def yX9_claimsBelow : MethodName := ⟨RX9, "claimsBelow", "(I)I"⟩
abbrev cX9_ofNode : ByteArray := prog_11_method_70_code
def yX9_ofNode : MethodName := ⟨RX9, "ofNode", "(II)I"⟩
abbrev cX9_nodeTo : ByteArray := prog_11_method_71_code
def yX9_nodeTo : MethodName := ⟨RX9, "nodeTo", "(II)I"⟩
abbrev cX9_firstUnder : ByteArray := prog_11_method_72_code
def yX9_firstUnder : MethodName := ⟨RX9, "firstUnder", "(II)I"⟩
abbrev cX9_behind : ByteArray := prog_11_method_73_code
def yX9_behind : MethodName := ⟨RX9, "behind", "(I)I"⟩
abbrev cX9_walk : ByteArray := prog_11_method_74_code
def yX9_walk : MethodName := ⟨RX9, "walk", "(I)I"⟩
abbrev cX9_cut : ByteArray := prog_11_method_75_code
def yX9_cut : MethodName := ⟨RX9, "cut", "(I)I"⟩
abbrev cX9_isSheet : ByteArray := prog_11_method_76_code
def yX9_isSheet : MethodName := ⟨RX9, "isSheet", "(I)Z"⟩
abbrev cX9_lowest : ByteArray := prog_11_method_77_code
def yX9_lowest : MethodName := ⟨RX9, "lowest", "(II)I"⟩
abbrev cX9_sheet : ByteArray := prog_11_method_78_code
def yX9_sheet : MethodName := ⟨RX9, "sheet", "(III)I"⟩
abbrev cX9_cell : ByteArray := prog_11_method_79_code
def yX9_cell : MethodName := ⟨RX9, "cell", "(III)I"⟩
abbrev cX9_item : ByteArray := prog_11_method_80_code
def yX9_item : MethodName := ⟨RX9, "item", "(II)J"⟩
abbrev cX9_move : ByteArray := prog_11_method_81_code
def yX9_move : MethodName := ⟨RX9, "move", "(IIIII)I"⟩
abbrev cX9_slotsHeld : ByteArray := prog_11_method_82_code
def yX9_slotsHeld : MethodName := ⟨RX9, "slotsHeld", "()I"⟩
abbrev cX9_keep : ByteArray := prog_11_method_83_code
def yX9_keep : MethodName := ⟨RX9, "keep", "()I"⟩
abbrev cX9_back : ByteArray := prog_11_method_84_code
def yX9_back : MethodName := ⟨RX9, "back", "()I"⟩
abbrev cX9_count : ByteArray := prog_11_method_85_code
def yX9_count : MethodName := ⟨RX9, "count", "(I)I"⟩
def RJ9 : String := "java/lang/Math"
abbrev cJ9_floorDiv_f86c9 : ByteArray := prog_13_method_49_code
def yJ9_floorDiv_f86c9 : MethodName := ⟨RJ9, "floorDiv", "(JJ)J"⟩
abbrev cJ9_floorMod_7cf53 : ByteArray := prog_13_method_50_code
def yJ9_floorMod_7cf53 : MethodName := ⟨RJ9, "floorMod", "(II)I"⟩
abbrev cJ9_abs_0f7a4 : ByteArray := prog_13_method_59_code
def yJ9_abs_0f7a4 : MethodName := ⟨RJ9, "abs", "(I)I"⟩
abbrev cJ9_abs_067f4 : ByteArray := prog_13_method_61_code
def yJ9_abs_067f4 : MethodName := ⟨RJ9, "abs", "(J)J"⟩
abbrev cJ9_max_7cf53 : ByteArray := prog_13_method_65_code
def yJ9_max_7cf53 : MethodName := ⟨RJ9, "max", "(II)I"⟩
abbrev cJ9_min_7cf53 : ByteArray := prog_13_method_69_code
def yJ9_min_7cf53 : MethodName := ⟨RJ9, "min", "(II)I"⟩
def RJ10 : String := "java/lang/System"
def RJ7 : String := "java/util/Arrays"
abbrev cJ7_fill_53178 : ByteArray := prog_15_method_103_code
def yJ7_fill_53178 : MethodName := ⟨RJ7, "fill", "([II)V"⟩
abbrev cJ7_fill_031fb : ByteArray := prog_15_method_109_code
def yJ7_fill_031fb : MethodName := ⟨RJ7, "fill", "([BB)V"⟩
abbrev cJ7_copyOf_59c91 : ByteArray := prog_15_method_123_code
def yJ7_copyOf_59c91 : MethodName := ⟨RJ7, "copyOf", "([II)[I"⟩
def RL : String := "EscalatedFormsLaw"
abbrev cL_law : ByteArray := code
def yL_law : MethodName := ⟨RL, "law", "([I)Z"⟩
abbrev vwCl : List vw_C := [(RX0, TX0, 4), (RX1, TX1, 6), (RX2, TX2, 11), (RX3, TX3, 6), (RX4, TX4, 2), (RX5, TX5, 3), (RX6, TX6, 2), (RX7, TX7, 5), (RX8, TX8, 10), (RX9, TX9, 34)]
end
section
/-! A PURE LAYER over the machine: references are numbered 0 .. 3 (arrays that stand ahead of the start) and 4, 5 .. (cells in the order in which they are made);
    a heap is (K, I, L, R, n, s): kinds and lengths, ints, longs, references, the next number, slots made. Z: from here the method ends, with an answer and a heap that Q allows. -/
def gw : List Cond := lw_tbl.filter goodWord
theorem gw_in {w : Cond} (h : w ∈ lw_tbl) (hg : goodWord w = true) : w ∈ gw := List.mem_filter.mpr ⟨h, hg⟩
theorem gw_good {w : Cond} (h : w ∈ gw) : (w.onTables && w.keeps) = true ∨ ∃ ty, w = .arrayClass ty := good_of_word (List.mem_filter.mp h).2
/-- class numbers, classes of arrays 1 .. 5, addresses of the old arrays 0 .. 3, the first new address, what the old arrays hold -/
abbrev ZG : Type := va_G × (Nat → ClassId) × (Nat → Nat) × Nat × (Nat → Nat × (Nat → Int32))
def zA (g : ZG) : Nat → Prop := fun q => g.2.2.2.1 ≤ q
def zphi (g : ZG) (r : Nat) : Nat := if r < 4 then g.2.2.1 r else g.2.2.2.1 + (r - 4)
def zv (g : ZG) (v : Value) : Value := match v with
  | .ref r => .ref (zphi g r)
  | v => v
theorem zv_cat (g : ZG) (v : Value) : (zv g v).category = v.category := by cases v <;> rfl
abbrev ZK : Type := Nat → Nat × Nat
abbrev ZI : Type := Nat → Nat → Int32
abbrev ZL : Type := Nat → Nat → Int64
abbrev ZR : Type := Nat → Nat → Option Nat
abbrev ZH : Type := ZK × ZI × ZL × ZR × Nat × Nat
def zup {α : Type} (I : Nat → Nat → α) (r i : Nat) (x : α) : Nat → Nat → α := fun a j => if a = r then (if j = i then x else I a j) else I a j
def zupA {α : Type} (I : Nat → Nat → α) (r : Nat) (f : Nat → α) : Nat → Nat → α := fun a => if a = r then f else I a
def zkp (K : ZK) (r : Nat) (x : Nat × Nat) : ZK := fun a => if a = r then x else K a
def zsort : FieldType → Nat
  | .long => 1
  | .object _ => 2
  | .array _ => 2
  | _ => 0
def zty (ci : Nat) : Nat → FieldType := match ci with
  | 0 => tyX0
  | 1 => tyX1
  | 2 => tyX2
  | 3 => tyX3
  | 4 => tyX4
  | 5 => tyX5
  | 6 => tyX6
  | 7 => tyX7
  | 8 => tyX8
  | _ => tyX9
def zN (ci : Nat) : Nat := match vwCl[ci]? with
  | some q => q.2.2
  | none => 0
def zfv (g : ZG) (I : ZI) (L : ZL) (R : ZR) (ci r k : Nat) : Value := match zsort (zty ci k) with
  | 0 => .int (I r k)
  | 1 => .long (L r k)
  | _ => va_rf ((R r k).map (zphi g))
def zcell (g : ZG) (K : ZK) (I : ZI) (L : ZL) (R : ZR) (r : Nat) : va_E := match (K r).1 with
  | 1 => .inl (g.2.1 1, (K r).2, .inl (I r))
  | 2 => .inl (g.2.1 2, (K r).2, .inr (.inl (L r)))
  | 3 => .inl (g.2.1 3, (K r).2, .inl (I r))
  | 4 => .inl (g.2.1 4, (K r).2, .inr (.inr (.inr (.inr (fun j => (R r j).map (zphi g))))))
  | 5 => .inl (g.2.1 5, (K r).2, .inr (.inr (.inr (.inr (fun j => (R r j).map (zphi g))))))
  | k => .inr (k - 10, (List.range (zN (k - 10))).map (zfv g I L R (k - 10) r))
def zws (g : ZG) (h : ZH) : va_W := (List.range (h.2.2.2.2.1 - 4)).map (fun i => (g.2.2.2.1 + i, zcell g h.1 h.2.1 h.2.2.1 h.2.2.2.1 (i + 4)))
def ztys (g : ZG) : List (ClassId × FieldType) := [(g.2.1 1, .int), (g.2.1 2, .long), (g.2.1 3, .byte), (g.2.1 4, .object RX3), (g.2.1 5, .object RX5)]
/-- the heap holds the pure heap, and nothing else is new -/
def zmem (g : ZG) (H : Heap) (h : ZH) : Prop := 4 ≤ h.2.2.2.2.1 ∧ (∀ a, (h.1 a).1 ≠ 0 → 4 ≤ a ∧ a < h.2.2.2.2.1) ∧ H.size = g.2.2.2.1 + (h.2.2.2.2.1 - 4) ∧ va_P g.1 vwCl (zws g h) H
def znest : List (String × Nat × MethodName × String) := [("EscalatedForms", 22, yX7_init, "EscalatedForms"), ("EscalatedForms", 40, yX5_init, "EscalatedForms"), ("EscalatedForms", 43, yX1_init, "EscalatedForms"), ("EscalatedForms", 50, yX2_init, "EscalatedForms"), ("EscalatedForms", 57, yX4_init, "EscalatedForms"), ("EscalatedForms", 64, yX0_init, "EscalatedForms"), ("EscalatedForms$Draft", 71, yX8_squareRoot, "EscalatedForms"), ("EscalatedForms$Ellipsoid", 71, yX8_squareRoot, "EscalatedForms")]
/-- what the tables say -/
def zT (g : ZG) (U : State) : Prop := va_K g.1 vwCl (ztys g) U ∧ (∀ q ∈ znest, va_Nw (.methodLinkNest q.1 q.2.1 q.2.2.1 q.2.2.2) U) ∧ va_Nw (.castable "[I" "java/lang/Cloneable") U ∧ va_AO RX3 U ∧ va_AO RX5 U
/-- the old arrays, and the static fields that hold three of them -/
def zold (g : ZG) (U : State) (H : Heap) : Prop := (∀ r, r < 4 → va_T .int (g.2.2.1 r) (g.2.2.2.2 r).1 (fun j => .int ((g.2.2.2.2 r).2 j)) (zA g) U H) ∧ va_Z RX8 "RULE_ALL" "[I" (.ref (g.2.2.1 1)) (zA g) U H ∧ va_Z RX8 "RULE_ODD" "[I" (.ref (g.2.2.1 2)) (zA g) U H ∧ va_Z RX8 "RULE_PRIME" "[I" (.ref (g.2.2.1 3)) (zA g) U H
def zpre (g : ZG) (U : State) (h : ZH) : Prop := zT g U ∧ zold g U U.heap ∧ zmem g U.heap h
/-- name, code, locals, what it returns, frames and words of locals below it -/
abbrev ZM : Type := MethodName × ByteArray × Nat × Option FieldType × Nat × Nat
def zw (M : ZM) : List Cond := Cond.code M.1 M.2.1 M.2.2.1 M.2.2.2.1 :: gw
def zQ (g : ZG) (v : Option Value) (h : ZH) : Array Value → State → Outcome → State → Prop := fun _ st oc t => oc = .returned (v.map (zv g)) ∧ zmem g t.heap h ∧ va_F (zA g) st t
def zl (g : ZG) (lsA : Array Slot) (nL : Nat) (ls : List (Option Value)) : Prop := lsA.size = nL ∧ lv_wf lsA ∧ ∀ (i : Nat) (v : Value), ls[i]? = some (some v) → lsA[i]? = some (.val (zv g v))
/-- a method's frame -/
def ZX (g : ZG) (M : ZM) (p : Program) (R : Room) (s : State) (m : MethodId) (args : Array Value) (meth : Method) (c : Code) : Prop :=
  p.tables.exec = Jvm.exec ∧ c.code = M.2.1 ∧ meth.sig.returnType = M.2.2.2.1 ∧ c.maxLocals = M.2.2.1 ∧ s.vm.findClass M.1.cls = some m.cls ∧ (∀ w ∈ gw, w.before args s = true) ∧ meth.locks = false ∧ meth.name = M.1.name ∧ M.2.2.2.2.1 ≤ R.frames ∧ M.2.2.2.2.2 ≤ R.locals ∧ zT g s ∧ zold g s s.heap ∧ g.2.2.2.1 ≤ s.heap.size
def Z (g : ZG) (l : Launch) (M : ZM) (pc : Nat) (ls : List (Option Value)) (st : List Value) (h : ZH) (Q : Option Value → ZH → Prop) : Prop :=
  ∃ (v : Option Value) (h' : ZH) (dc ds : Nat), Q v h' ∧ h'.2.2.2.2.1 = h.2.2.2.2.1 + dc ∧ h'.2.2.2.2.2 = h.2.2.2.2.2 + ds ∧
    ∀ (p : Program) (e : Env) (R : Room) (s : State) (m : MethodId) (args : Array Value) (below : List Frame) (meth : Method) (c : Code), ZX g M p R s m args meth c →
      ∀ (H : Heap) (locs : List Loc) (cells slots : Nat) (lsA : Array Slot), zmem g H h → va_S (zA g) s.heap H locs → zl g lsA M.2.2.1 ls → cells + dc ≤ R.cells → slots + ds ≤ R.slots →
        W p l e R s m args below meth c H locs cells slots (MQ below (zQ g v h') args s (cells + dc) (slots + ds) (zA g)) (F0 m pc lsA (st.map (zv g)))
def ZC (g : ZG) (l : Launch) (M : ZM) (as : List Value) (h : ZH) (Q : Option Value → ZH → Prop) : Prop :=
  ∃ (v : Option Value) (h' : ZH) (dc ds : Nat), Q v h' ∧ h'.2.2.2.2.1 = h.2.2.2.2.1 + dc ∧ h'.2.2.2.2.2 = h.2.2.2.2.2 + ds ∧
    Met l M.1 (zw M) { frames := M.2.2.2.2.1, cells := dc, slots := ds, locals := M.2.2.2.2.2 } (va_Pc (as.map (zv g)) (fun U => zpre g U h)) (zQ g v h') dc ds (zA g)
theorem Z.mono {g : ZG} {l : Launch} {M : ZM} {pc : Nat} {ls : List (Option Value)} {st : List Value} {h : ZH} {Q Q' : Option Value → ZH → Prop} (hq : ∀ v h', Q v h' → Q' v h') (k : Z g l M pc ls st h Q) : Z g l M pc ls st h Q' := by
  obtain ⟨v, h', dc, ds, a, b⟩ := k
  exact ⟨v, h', dc, ds, hq v h' a, b⟩
theorem ZC.mono {g : ZG} {l : Launch} {M : ZM} {as : List Value} {h : ZH} {Q Q' : Option Value → ZH → Prop} (k : ZC g l M as h Q) (hq : ∀ v h', Q v h' → Q' v h') : ZC g l M as h Q' := by
  obtain ⟨v, h', dc, ds, a, b⟩ := k
  exact ⟨v, h', dc, ds, hq v h' a, b⟩
-- the world as a list
theorem zws_at (g : ZG) (h : ZH) {r : Nat} (h4 : 4 ≤ r) (hr : r < h.2.2.2.2.1) : (zws g h)[r - 4]? = some (zphi g r, zcell g h.1 h.2.1 h.2.2.1 h.2.2.2.1 r) := by
  unfold zws
  rw [List.getElem?_map, List.getElem?_range (by omega)]
  simp only [Option.map_some]
  rw [show r - 4 + 4 = r by omega]
  unfold zphi
  rw [if_neg (by omega)]
theorem zws_len (g : ZG) (h : ZH) : (zws g h).length = h.2.2.2.2.1 - 4 := by simp [zws]
theorem zws_get {g : ZG} {h : ZH} {k : Nat} {q : Nat × va_E} (hk : (zws g h)[k]? = some q) : k < h.2.2.2.2.1 - 4 ∧ q = (g.2.2.2.1 + k, zcell g h.1 h.2.1 h.2.2.1 h.2.2.2.1 (k + 4)) := by
  have hl : k < (zws g h).length := (List.getElem?_eq_some_iff.mp hk).1
  rw [zws_len] at hl
  refine ⟨hl, ?_⟩
  unfold zws at hk
  rw [List.getElem?_map, List.getElem?_range hl] at hk
  simpa using hk.symm
theorem zws_D (g : ZG) (h : ZH) : va_D (zA g) (zws g h) := by
  refine ⟨fun i j p q hi hj hpq => ?_, fun k q hk => ?_⟩
  · have a := (zws_get hi).2
    have b := (zws_get hj).2
    rw [a, b] at hpq
    simp only at hpq
    omega
  · rw [(zws_get hk).2]
    exact Nat.le_add_right _ _
theorem zws_set {g : ZG} {K K' : ZK} {I I' : ZI} {L L' : ZL} {R R' : ZR} {n s : Nat} {r : Nat} (h4 : 4 ≤ r) (hr : r < n) {e : va_E} (he : e = zcell g K' I' L' R' r) (ho : ∀ q, q ≠ r → zcell g K' I' L' R' q = zcell g K I L R q) :
    (zws g (K, I, L, R, n, s)).set (r - 4) (zphi g r, e) = zws g (K', I', L', R', n, s) := by
  apply List.ext_getElem?
  intro k
  by_cases hk : k = r - 4
  · subst hk
    rw [List.getElem?_set_self (by rw [zws_len]; show r - 4 < n - 4; omega), zws_at g (K', I', L', R', n, s) h4 hr, he]
  · rw [List.getElem?_set_ne (Ne.symm hk)]
    by_cases hkn : k < n - 4
    · have e1 := zws_at g (K, I, L, R, n, s) (r := k + 4) (by omega) (show k + 4 < n by omega)
      have e2 := zws_at g (K', I', L', R', n, s) (r := k + 4) (by omega) (show k + 4 < n by omega)
      rw [show k + 4 - 4 = k by omega] at e1 e2
      rw [e1, e2]
      simp only
      rw [ho (k + 4) (by omega)]
    · rw [List.getElem?_eq_none (by rw [zws_len]; show n - 4 ≤ k; omega), List.getElem?_eq_none (by rw [zws_len]; show n - 4 ≤ k; omega)]
theorem zws_push {g : ZG} {K K' : ZK} {I I' : ZI} {L L' : ZL} {R R' : ZR} {n s s' : Nat} (h4 : 4 ≤ n) {e : va_E} (he : e = zcell g K' I' L' R' n) (ho : ∀ q, q ≠ n → zcell g K' I' L' R' q = zcell g K I L R q) :
    zws g (K, I, L, R, n, s) ++ [(g.2.2.2.1 + (n - 4), e)] = zws g (K', I', L', R', n + 1, s') := by
  unfold zws
  simp only
  rw [show n + 1 - 4 = (n - 4) + 1 by omega, List.range_succ, List.map_append]
  congr 1
  · apply List.map_congr_left
    intro i hi
    rw [List.mem_range] at hi
    rw [ho (i + 4) (by omega)]
  · simp only [List.map_cons, List.map_nil]
    rw [he, show n - 4 + 4 = n by omega]
theorem zphi_new (g : ZG) {n : Nat} (h4 : 4 ≤ n) : zphi g n = g.2.2.2.1 + (n - 4) := by unfold zphi; rw [if_neg (by omega)]
theorem zphi_inj {g : ZG} {a b : Nat} (ha : 4 ≤ a) (hb : 4 ≤ b) (h : zphi g a = zphi g b) : a = b := by rw [zphi_new g ha, zphi_new g hb] at h; omega
end
section
section ZRules
variable {g : ZG} {l : Launch} {M : ZM} {pc : Nat} {ls : List (Option Value)} {st : List Value} {h : ZH} {Q : Option Value → ZH → Prop}
theorem Z.step {pc' : Nat} {st' : List Value} (hw : ∀ {p : Program} {e : Env} {R : Room} {s : State} {m : MethodId} {args : Array Value} {below : List Frame} {meth : Method} {c : Code} {H : Heap} {locs : List Loc} {cells slots : Nat} {lsA : Array Slot} {Qm : State → Prop}, ZX g M p R s m args meth c → zmem g H h → va_S (zA g) s.heap H locs → zl g lsA M.2.2.1 ls → W p l e R s m args below meth c H locs cells slots Qm (F0 m pc' lsA (st'.map (zv g))) → W p l e R s m args below meth c H locs cells slots Qm (F0 m pc lsA (st.map (zv g)))) (k : Z g l M pc' ls st' h Q) : Z g l M pc ls st h Q := by
  obtain ⟨v, h', dc, ds, hq, hn, hs, kk⟩ := k
  exact ⟨v, h', dc, ds, hq, hn, hs, fun p e R s m args below meth c X H locs cells slots lsA hm hS hl h1 h2 => hw X hm hS hl (kk p e R s m args below meth c X H locs cells slots lsA hm hS hl h1 h2)⟩
theorem Z.stepL {pc' : Nat} {st' : List Value} {ls' : List (Option Value)} (hw : ∀ {p : Program} {e : Env} {R : Room} {s : State} {m : MethodId} {args : Array Value} {below : List Frame} {meth : Method} {c : Code} {H : Heap} {locs : List Loc} {cells slots : Nat} {lsA : Array Slot} {Qm : State → Prop}, ZX g M p R s m args meth c → zl g lsA M.2.2.1 ls → (∀ lsB : Array Slot, zl g lsB M.2.2.1 ls' → W p l e R s m args below meth c H locs cells slots Qm (F0 m pc' lsB (st'.map (zv g)))) → W p l e R s m args below meth c H locs cells slots Qm (F0 m pc lsA (st.map (zv g)))) (k : Z g l M pc' ls' st' h Q) : Z g l M pc ls st h Q := by
  obtain ⟨v, h', dc, ds, hq, hn, hs, kk⟩ := k
  exact ⟨v, h', dc, ds, hq, hn, hs, fun p e R s m args below meth c X H locs cells slots lsA hm hS hl h1 h2 => hw X hl (fun lsB hB => kk p e R s m args below meth c X H locs cells slots lsB hm hS hB h1 h2)⟩
theorem Z.forget {ls' : List (Option Value)} (k : Z g l M pc ls' st h Q) (hs : ∀ (i : Nat) (v : Value), ls'[i]? = some (some v) → ls[i]? = some (some v)) : Z g l M pc ls st h Q := by
  obtain ⟨v, h', dc, ds, hq, hn, hss, kk⟩ := k
  exact ⟨v, h', dc, ds, hq, hn, hss, fun p e R s m args below meth c X H locs cells slots lsA hm hS hl h1 h2 => kk p e R s m args below meth c X H locs cells slots lsA hm hS ⟨hl.1, hl.2.1, fun i v hv => hl.2.2 i v (hs i v hv)⟩ h1 h2⟩
def zlp (g : ZG) (ls : List (Option Value)) : List (Nat × Value) := (List.range ls.length).filterMap (fun i => match ls[i]? with
  | some (some v) => some (i, zv g v)
  | _ => none)
theorem zlp_mem {ls : List (Option Value)} {i : Nat} {v : Value} (hv : ls[i]? = some (some v)) : (i, zv g v) ∈ zlp g ls := by
  have hl : i < ls.length := (List.getElem?_eq_some_iff.mp hv).1
  exact List.mem_filterMap.mpr ⟨i, List.mem_range.mpr hl, by rw [hv]⟩
theorem zlp_has {lsA : Array Slot} {nL : Nat} {ls : List (Option Value)} (hl : zl g lsA nL ls) : lv_has lsA nL (zlp g ls) := by
  refine ⟨hl.1, hl.2.1, fun q hq => ?_⟩
  obtain ⟨i, -, hi⟩ := List.mem_filterMap.mp hq
  cases hv : ls[i]? with
  | none => rw [hv] at hi; cases hi
  | some o =>
    cases o with
    | none => rw [hv] at hi; cases hi
    | some v => rw [hv] at hi; cases hi; exact hl.2.2 i v hv
/-- the place ahead of a store holds no long -/
def znl (ls : List (Option Value)) (i : Nat) : Bool := match i with
  | 0 => true
  | k + 1 => match ls[k]? with
    | some (some (.long _)) => false
    | some (some (.double _)) => false
    | _ => true
theorem znl_cat {ls : List (Option Value)} {i j : Nat} {v : Value} (hz : znl ls i = true) (hj : j + 1 = i) (hv : ls[j]? = some (some v)) : v.category ≠ 2 := by
  subst hj
  simp only [znl] at hz
  rw [hv] at hz
  cases v <;> simp_all [Value.category]
theorem zl_set1 {lsB : Array Slot} {nL i : Nat} {ls : List (Option Value)} {v : Value} (hz : znl ls i = true) (hB : lv_has lsB nL ((i, zv g v) :: (zlp g ls).filter (fun q => !(q.1 == i) && !(q.1 + 1 == i && q.2.category == 2)))) : zl g lsB nL (ls.set i (some v)) := by
  refine ⟨hB.1, hB.2.1, fun j w hw => ?_⟩
  by_cases hj : j = i
  · subst hj
    have hl : j < (ls.set j (some v)).length := (List.getElem?_eq_some_iff.mp hw).1
    rw [List.length_set] at hl
    rw [List.getElem?_set_self hl] at hw
    cases hw
    exact hB.2.2 (j, zv g v) List.mem_cons_self
  · rw [List.getElem?_set_ne (Ne.symm hj)] at hw
    refine hB.2.2 (j, zv g w) (List.mem_cons_of_mem _ (List.mem_filter.mpr ⟨zlp_mem hw, ?_⟩))
    by_cases h1 : j + 1 = i
    · have := znl_cat hz h1 hw
      simp [hj, zv_cat, this]
    · simp [hj, h1]
theorem zl_set2 {lsB : Array Slot} {nL i : Nat} {ls : List (Option Value)} {v : Value} (hz : znl ls i = true) (hB : lv_has lsB nL ((i, zv g v) :: (zlp g ls).filter (fun q => !(q.1 == i) && (!(q.1 == i + 1) && !(q.1 + 1 == i && q.2.category == 2))))) : zl g lsB nL ((ls.set i (some v)).set (i + 1) none) := by
  refine ⟨hB.1, hB.2.1, fun j w hw => ?_⟩
  by_cases hj2 : j = i + 1
  · subst hj2
    have hl := (List.getElem?_eq_some_iff.mp hw).1
    rw [List.length_set] at hl
    rw [List.getElem?_set_self hl] at hw
    cases hw
  · rw [List.getElem?_set_ne (Ne.symm hj2)] at hw
    by_cases hj : j = i
    · subst hj
      have hl : j < (ls.set j (some v)).length := (List.getElem?_eq_some_iff.mp hw).1
      rw [List.length_set] at hl
      rw [List.getElem?_set_self hl] at hw
      cases hw
      exact hB.2.2 (j, zv g v) List.mem_cons_self
    · rw [List.getElem?_set_ne (Ne.symm hj)] at hw
      refine hB.2.2 (j, zv g w) (List.mem_cons_of_mem _ (List.mem_filter.mpr ⟨zlp_mem hw, ?_⟩))
      by_cases h1 : j + 1 = i
      · have := znl_cat hz h1 hw
        simp [hj, hj2, zv_cat, this]
      · simp [hj, hj2, h1]
theorem z_iconst {n : Int} (hd : decode M.2.1 pc = .ok (.iconst n, 1)) {v : Int32} (hv : Int32.ofInt n = v) (k : Z g l M (pc + 1) ls (.int v :: st) h Q) : Z g l M pc ls st h Q := Z.step (fun X _ _ _ k => lv_iconst X.1 X.2.1 hd hv k) k
theorem z_bipush {n : Int} (hd : decode M.2.1 pc = .ok (.bipush n, 2)) {v : Int32} (hv : (Int8.ofInt n).toInt32 = v) (k : Z g l M (pc + 2) ls (.int v :: st) h Q) : Z g l M pc ls st h Q := Z.step (fun X _ _ _ k => lv_bipush X.1 X.2.1 hd hv k) k
theorem z_sipush {n : Int} (hd : decode M.2.1 pc = .ok (.sipush n, 3)) {v : Int32} (hv : (Int16.ofInt n).toInt32 = v) (k : Z g l M (pc + 3) ls (.int v :: st) h Q) : Z g l M pc ls st h Q := Z.step (fun X _ _ _ k => lv_sipush X.1 X.2.1 hd hv k) k
theorem z_lconst {n : Fin 2} (hd : decode M.2.1 pc = .ok (.lconst n, 1)) {v : Int64} (hv : Int64.ofNat (n : Nat) = v) (k : Z g l M (pc + 1) ls (.long v :: st) h Q) : Z g l M pc ls st h Q := Z.step (fun X _ _ _ k => lv_lconst X.1 X.2.1 hd hv k) k
theorem z_ldc {index : Nat} (hd : decode M.2.1 pc = .ok (.ldc index, 2)) {v : Int32} (hc : Cond.constant M.1.cls index v ∈ gw) (k : Z g l M (pc + 2) ls (.int v :: st) h Q) : Z g l M pc ls st h Q := Z.step (fun X _ _ _ k => lv_ldc X.1 X.2.1 X.2.2.2.2.1 (X.2.2.2.2.2.1 _ hc) hd k) k
theorem z_ldc2 {index : Nat} (hd : decode M.2.1 pc = .ok (.ldc2_w index, 3)) {v : Int64} (hc : Cond.constantLong M.1.cls index v ∈ gw) (k : Z g l M (pc + 3) ls (.long v :: st) h Q) : Z g l M pc ls st h Q := Z.step (fun X _ _ _ k => lv_ldc2 X.1 X.2.1 X.2.2.2.2.1 (X.2.2.2.2.2.1 _ hc) hd k) k
theorem z_null (hd : decode M.2.1 pc = .ok (.aconst_null, 1)) (k : Z g l M (pc + 1) ls (.null :: st) h Q) : Z g l M pc ls st h Q := Z.step (fun X _ _ _ k => lv_null X.1 X.2.1 hd k) k
theorem z_iload_n {kf : Fin 4} {i : Nat} {x : Int32} (hd : decode M.2.1 pc = .ok (.iload_n kf, 1)) (hi : (kf : Nat) = i) (hx : ls[i]? = some (some (.int x))) (k : Z g l M (pc + 1) ls (.int x :: st) h Q) : Z g l M pc ls st h Q := Z.step (fun X _ _ hl k => lv_iload_n X.1 X.2.1 hd hi (hl.2.2 i _ hx) k) k
theorem z_iload {i : Nat} {x : Int32} (hd : decode M.2.1 pc = .ok (.iload i, 2)) (hx : ls[i]? = some (some (.int x))) (k : Z g l M (pc + 2) ls (.int x :: st) h Q) : Z g l M pc ls st h Q := Z.step (fun X _ _ hl k => lv_iload X.1 X.2.1 hd (hl.2.2 i _ hx) k) k
theorem z_lload_n {kf : Fin 4} {i : Nat} {x : Int64} (hd : decode M.2.1 pc = .ok (.lload_n kf, 1)) (hi : (kf : Nat) = i) (hx : ls[i]? = some (some (.long x))) (k : Z g l M (pc + 1) ls (.long x :: st) h Q) : Z g l M pc ls st h Q := Z.step (fun X _ _ hl k => lv_lload_n X.1 X.2.1 hd hi (hl.2.2 i _ hx) k) k
theorem z_lload {i : Nat} {x : Int64} (hd : decode M.2.1 pc = .ok (.lload i, 2)) (hx : ls[i]? = some (some (.long x))) (k : Z g l M (pc + 2) ls (.long x :: st) h Q) : Z g l M pc ls st h Q := Z.step (fun X _ _ hl k => lv_lload X.1 X.2.1 hd (hl.2.2 i _ hx) k) k
theorem z_aload_n {kf : Fin 4} {i : Nat} {x : Nat} (hd : decode M.2.1 pc = .ok (.aload_n kf, 1)) (hi : (kf : Nat) = i) (hx : ls[i]? = some (some (.ref x))) (k : Z g l M (pc + 1) ls (.ref x :: st) h Q) : Z g l M pc ls st h Q := Z.step (fun X _ _ hl k => lv_aload_n X.1 X.2.1 hd hi (hl.2.2 i _ hx) k) k
theorem z_aload {i : Nat} {x : Nat} (hd : decode M.2.1 pc = .ok (.aload i, 2)) (hx : ls[i]? = some (some (.ref x))) (k : Z g l M (pc + 2) ls (.ref x :: st) h Q) : Z g l M pc ls st h Q := Z.step (fun X _ _ hl k => lv_aload X.1 X.2.1 hd (hl.2.2 i _ hx) k) k
theorem z_aload_nN {kf : Fin 4} {i : Nat} (hd : decode M.2.1 pc = .ok (.aload_n kf, 1)) (hi : (kf : Nat) = i) (hx : ls[i]? = some (some .null)) (k : Z g l M (pc + 1) ls (.null :: st) h Q) : Z g l M pc ls st h Q := Z.step (fun X _ _ hl k => lv_aload_nN X.1 X.2.1 hd hi (hl.2.2 i _ hx) k) k
theorem z_aloadN {i : Nat} (hd : decode M.2.1 pc = .ok (.aload i, 2)) (hx : ls[i]? = some (some .null)) (k : Z g l M (pc + 2) ls (.null :: st) h Q) : Z g l M pc ls st h Q := Z.step (fun X _ _ hl k => lv_aloadN X.1 X.2.1 hd (hl.2.2 i _ hx) k) k
theorem z_istore_n {kf : Fin 4} {i : Nat} {x : Int32} (hd : decode M.2.1 pc = .ok (.istore_n kf, 1)) (hi : (kf : Nat) = i) (hn : i < M.2.2.1) (hz : znl ls i = true) (k : Z g l M (pc + 1) (ls.set i (some (.int x))) st h Q) : Z g l M pc ls (.int x :: st) h Q := Z.stepL (fun X hl kk => lv_istore_n X.1 X.2.1 hd hi (zlp_has hl) hn rfl (fun lsB hB => kk lsB (zl_set1 (v := .int x) hz hB))) k
theorem z_istore {i : Nat} {x : Int32} (hd : decode M.2.1 pc = .ok (.istore i, 2)) (hn : i < M.2.2.1) (hz : znl ls i = true) (k : Z g l M (pc + 2) (ls.set i (some (.int x))) st h Q) : Z g l M pc ls (.int x :: st) h Q := Z.stepL (fun X hl kk => lv_istore X.1 X.2.1 hd (zlp_has hl) hn rfl (fun lsB hB => kk lsB (zl_set1 (v := .int x) hz hB))) k
theorem z_astore_n {kf : Fin 4} {i : Nat} {x : Nat} (hd : decode M.2.1 pc = .ok (.astore_n kf, 1)) (hi : (kf : Nat) = i) (hn : i < M.2.2.1) (hz : znl ls i = true) (k : Z g l M (pc + 1) (ls.set i (some (.ref x))) st h Q) : Z g l M pc ls (.ref x :: st) h Q := Z.stepL (fun X hl kk => lv_astore_n X.1 X.2.1 hd hi (zlp_has hl) hn rfl (fun lsB hB => kk lsB (zl_set1 (v := .ref x) hz hB))) k
theorem z_astore {i : Nat} {x : Nat} (hd : decode M.2.1 pc = .ok (.astore i, 2)) (hn : i < M.2.2.1) (hz : znl ls i = true) (k : Z g l M (pc + 2) (ls.set i (some (.ref x))) st h Q) : Z g l M pc ls (.ref x :: st) h Q := Z.stepL (fun X hl kk => lv_astore X.1 X.2.1 hd (zlp_has hl) hn rfl (fun lsB hB => kk lsB (zl_set1 (v := .ref x) hz hB))) k
theorem z_astore_nN {kf : Fin 4} {i : Nat} (hd : decode M.2.1 pc = .ok (.astore_n kf, 1)) (hi : (kf : Nat) = i) (hn : i < M.2.2.1) (hz : znl ls i = true) (k : Z g l M (pc + 1) (ls.set i (some .null)) st h Q) : Z g l M pc ls (.null :: st) h Q := Z.stepL (fun X hl kk => lv_astore_nN X.1 X.2.1 hd hi (zlp_has hl) hn rfl (fun lsB hB => kk lsB (zl_set1 (v := .null) hz hB))) k
theorem z_astoreN {i : Nat} (hd : decode M.2.1 pc = .ok (.astore i, 2)) (hn : i < M.2.2.1) (hz : znl ls i = true) (k : Z g l M (pc + 2) (ls.set i (some .null)) st h Q) : Z g l M pc ls (.null :: st) h Q := Z.stepL (fun X hl kk => lv_astoreN X.1 X.2.1 hd (zlp_has hl) hn rfl (fun lsB hB => kk lsB (zl_set1 (v := .null) hz hB))) k
theorem z_lstore_n {kf : Fin 4} {i : Nat} {x : Int64} (hd : decode M.2.1 pc = .ok (.lstore_n kf, 1)) (hi : (kf : Nat) = i) (hn : i + 1 < M.2.2.1) (hz : znl ls i = true) (k : Z g l M (pc + 1) ((ls.set i (some (.long x))).set (i + 1) none) st h Q) : Z g l M pc ls (.long x :: st) h Q := Z.stepL (fun X hl kk => lv_lstore_n X.1 X.2.1 hd hi (zlp_has hl) hn rfl (fun lsB hB => kk lsB (zl_set2 (v := .long x) hz hB))) k
theorem z_lstore {i : Nat} {x : Int64} (hd : decode M.2.1 pc = .ok (.lstore i, 2)) (hn : i + 1 < M.2.2.1) (hz : znl ls i = true) (k : Z g l M (pc + 2) ((ls.set i (some (.long x))).set (i + 1) none) st h Q) : Z g l M pc ls (.long x :: st) h Q := Z.stepL (fun X hl kk => lv_lstore X.1 X.2.1 hd (zlp_has hl) hn rfl (fun lsB hB => kk lsB (zl_set2 (v := .long x) hz hB))) k
theorem zlp_find {ls : List (Option Value)} {i : Nat} {v : Value} (hv : ls[i]? = some (some v)) : ∃ k : Nat, (zlp g ls)[k]? = some (i, zv g v) := List.getElem?_of_mem (zlp_mem hv)
theorem z_iinc {i : Nat} {n : Int} {x : Int32} (hd : decode M.2.1 pc = .ok (.iinc i n, 3)) (hx : ls[i]? = some (some (.int x))) (hn : i < M.2.2.1) (hz : znl ls i = true) (k : Z g l M (pc + 3) (ls.set i (some (.int (x + Int32.ofInt n)))) st h Q) : Z g l M pc ls st h Q := Z.stepL (fun X hl kk => by
    obtain ⟨j, hj⟩ := zlp_find (g := g) hx
    exact lv_iinc X.1 X.2.1 hd (zlp_has hl) hj rfl hn rfl (fun lsB hB => kk lsB (zl_set1 (v := .int (x + Int32.ofInt n)) hz hB))) k
theorem z_iadd {x y : Int32} (hd : decode M.2.1 pc = .ok (.iadd, 1)) (k : Z g l M (pc + 1) ls (.int (x + y) :: st) h Q) : Z g l M pc ls (.int y :: .int x :: st) h Q := Z.step (fun X _ _ _ k => lv_iadd X.1 X.2.1 hd k) k
theorem z_isub {x y : Int32} (hd : decode M.2.1 pc = .ok (.isub, 1)) (k : Z g l M (pc + 1) ls (.int (x - y) :: st) h Q) : Z g l M pc ls (.int y :: .int x :: st) h Q := Z.step (fun X _ _ _ k => lv_isub X.1 X.2.1 hd k) k
theorem z_imul {x y : Int32} (hd : decode M.2.1 pc = .ok (.imul, 1)) (k : Z g l M (pc + 1) ls (.int (x * y) :: st) h Q) : Z g l M pc ls (.int y :: .int x :: st) h Q := Z.step (fun X _ _ _ k => lv_imul X.1 X.2.1 hd k) k
theorem z_iand {x y : Int32} (hd : decode M.2.1 pc = .ok (.iand, 1)) (k : Z g l M (pc + 1) ls (.int (x &&& y) :: st) h Q) : Z g l M pc ls (.int y :: .int x :: st) h Q := Z.step (fun X _ _ _ k => lv_iand X.1 X.2.1 hd k) k
theorem z_ior {x y : Int32} (hd : decode M.2.1 pc = .ok (.ior, 1)) (k : Z g l M (pc + 1) ls (.int (x ||| y) :: st) h Q) : Z g l M pc ls (.int y :: .int x :: st) h Q := Z.step (fun X _ _ _ k => lv_ior X.1 X.2.1 hd k) k
theorem z_ixor {x y : Int32} (hd : decode M.2.1 pc = .ok (.ixor, 1)) (k : Z g l M (pc + 1) ls (.int (x ^^^ y) :: st) h Q) : Z g l M pc ls (.int y :: .int x :: st) h Q := Z.step (fun X _ _ _ k => lv_ixor X.1 X.2.1 hd k) k
theorem z_ishl {x y : Int32} (hd : decode M.2.1 pc = .ok (.ishl, 1)) (k : Z g l M (pc + 1) ls (.int (x <<< (y &&& 31)) :: st) h Q) : Z g l M pc ls (.int y :: .int x :: st) h Q := Z.step (fun X _ _ _ k => lv_ishl X.1 X.2.1 hd k) k
theorem z_ishr {x y : Int32} (hd : decode M.2.1 pc = .ok (.ishr, 1)) (k : Z g l M (pc + 1) ls (.int (x >>> (y &&& 31)) :: st) h Q) : Z g l M pc ls (.int y :: .int x :: st) h Q := Z.step (fun X _ _ _ k => lv_ishr X.1 X.2.1 hd k) k
theorem z_idiv {x y : Int32} (hd : decode M.2.1 pc = .ok (.idiv, 1)) (hne : ¬ y = 0) (k : Z g l M (pc + 1) ls (.int (x / y) :: st) h Q) : Z g l M pc ls (.int y :: .int x :: st) h Q := Z.step (fun X _ _ _ k => lv_idiv X.1 X.2.1 hd hne k) k
theorem z_irem {x y : Int32} (hd : decode M.2.1 pc = .ok (.irem, 1)) (hne : ¬ y = 0) (k : Z g l M (pc + 1) ls (.int (x - x / y * y) :: st) h Q) : Z g l M pc ls (.int y :: .int x :: st) h Q := Z.step (fun X _ _ _ k => lv_irem X.1 X.2.1 hd hne k) k
theorem z_ineg {x : Int32} (hd : decode M.2.1 pc = .ok (.ineg, 1)) (k : Z g l M (pc + 1) ls (.int (-x) :: st) h Q) : Z g l M pc ls (.int x :: st) h Q := Z.step (fun X _ _ _ k => lv_ineg X.1 X.2.1 hd k) k
theorem z_ladd {x y : Int64} (hd : decode M.2.1 pc = .ok (.ladd, 1)) (k : Z g l M (pc + 1) ls (.long (x + y) :: st) h Q) : Z g l M pc ls (.long y :: .long x :: st) h Q := Z.step (fun X _ _ _ k => lv_ladd X.1 X.2.1 hd k) k
theorem z_lsub {x y : Int64} (hd : decode M.2.1 pc = .ok (.lsub, 1)) (k : Z g l M (pc + 1) ls (.long (x - y) :: st) h Q) : Z g l M pc ls (.long y :: .long x :: st) h Q := Z.step (fun X _ _ _ k => lv_lsub X.1 X.2.1 hd k) k
theorem z_lmul {x y : Int64} (hd : decode M.2.1 pc = .ok (.lmul, 1)) (k : Z g l M (pc + 1) ls (.long (x * y) :: st) h Q) : Z g l M pc ls (.long y :: .long x :: st) h Q := Z.step (fun X _ _ _ k => lv_lmul X.1 X.2.1 hd k) k
theorem z_lxor {x y : Int64} (hd : decode M.2.1 pc = .ok (.lxor, 1)) (k : Z g l M (pc + 1) ls (.long (x ^^^ y) :: st) h Q) : Z g l M pc ls (.long y :: .long x :: st) h Q := Z.step (fun X _ _ _ k => lv_lxor X.1 X.2.1 hd k) k
theorem z_ldiv {x y : Int64} (hd : decode M.2.1 pc = .ok (.ldiv, 1)) (hne : ¬ y = 0) (k : Z g l M (pc + 1) ls (.long (x / y) :: st) h Q) : Z g l M pc ls (.long y :: .long x :: st) h Q := Z.step (fun X _ _ _ k => lv_ldiv X.1 X.2.1 hd hne k) k
theorem z_lrem {x y : Int64} (hd : decode M.2.1 pc = .ok (.lrem, 1)) (hne : ¬ y = 0) (k : Z g l M (pc + 1) ls (.long (x - x / y * y) :: st) h Q) : Z g l M pc ls (.long y :: .long x :: st) h Q := Z.step (fun X _ _ _ k => lv_lrem X.1 X.2.1 hd hne k) k
theorem z_lneg {x : Int64} (hd : decode M.2.1 pc = .ok (.lneg, 1)) (k : Z g l M (pc + 1) ls (.long (-x) :: st) h Q) : Z g l M pc ls (.long x :: st) h Q := Z.step (fun X _ _ _ k => lv_lneg X.1 X.2.1 hd k) k
theorem z_lshr {x : Int64} {y : Int32} (hd : decode M.2.1 pc = .ok (.lshr, 1)) (k : Z g l M (pc + 1) ls (.long (x >>> (y.toInt64 &&& 63)) :: st) h Q) : Z g l M pc ls (.int y :: .long x :: st) h Q := Z.step (fun X _ _ _ k => lv_lshr X.1 X.2.1 hd rfl k) k
theorem z_i2l {x : Int32} (hd : decode M.2.1 pc = .ok (.i2l, 1)) (k : Z g l M (pc + 1) ls (.long x.toInt64 :: st) h Q) : Z g l M pc ls (.int x :: st) h Q := Z.step (fun X _ _ _ k => lv_i2l X.1 X.2.1 hd rfl k) k
theorem z_l2i {x : Int64} (hd : decode M.2.1 pc = .ok (.l2i, 1)) (k : Z g l M (pc + 1) ls (.int x.toInt32 :: st) h Q) : Z g l M pc ls (.long x :: st) h Q := Z.step (fun X _ _ _ k => lv_l2i X.1 X.2.1 hd rfl k) k
theorem z_i2b {x : Int32} (hd : decode M.2.1 pc = .ok (.i2b, 1)) (k : Z g l M (pc + 1) ls (.int x.toInt8.toInt32 :: st) h Q) : Z g l M pc ls (.int x :: st) h Q := Z.step (fun X _ _ _ k => lv_i2b X.1 X.2.1 hd rfl k) k
theorem z_lcmp {x y : Int64} (hd : decode M.2.1 pc = .ok (.lcmp, 1)) (k : Z g l M (pc + 1) ls (.int (lg_cmp x y) :: st) h Q) : Z g l M pc ls (.long y :: .long x :: st) h Q := Z.step (fun X _ _ _ k => W.lcmp X.1 X.2.1 hd k) k
theorem z_dup {a : Value} (hd : decode M.2.1 pc = .ok (.dup, 1)) (ha : a.category = 1) (k : Z g l M (pc + 1) ls (a :: a :: st) h Q) : Z g l M pc ls (a :: st) h Q := Z.step (fun X _ _ _ k => lv_dup X.1 X.2.1 hd (by rw [zv_cat]; exact ha) k) k
theorem z_pop {a : Value} (hd : decode M.2.1 pc = .ok (.pop, 1)) (ha : a.category = 1) (k : Z g l M (pc + 1) ls st h Q) : Z g l M pc ls (a :: st) h Q := Z.step (fun X _ _ _ k => lv_pop X.1 X.2.1 hd (by rw [zv_cat]; exact ha) k) k
theorem z_dup2 {a b : Value} (hd : decode M.2.1 pc = .ok (.dup2, 1)) (ha : a.category = 1) (hb : b.category = 1) (k : Z g l M (pc + 1) ls (a :: b :: a :: b :: st) h Q) : Z g l M pc ls (a :: b :: st) h Q := Z.step (fun X _ _ _ k => lv_dup2_11 X.1 X.2.1 hd (by rw [zv_cat]; exact ha) (by rw [zv_cat]; exact hb) k) k
theorem Z.br {pt pf : Nat} {st' : List Value} {P : Prop} (hw : ∀ {p : Program} {e : Env} {R : Room} {s : State} {m : MethodId} {args : Array Value} {below : List Frame} {meth : Method} {c : Code} {H : Heap} {locs : List Loc} {cells slots : Nat} {lsA : Array Slot} {Qm : State → Prop}, ZX g M p R s m args meth c → (P → W p l e R s m args below meth c H locs cells slots Qm (F0 m pt lsA (st'.map (zv g)))) → (¬ P → W p l e R s m args below meth c H locs cells slots Qm (F0 m pf lsA (st'.map (zv g)))) → W p l e R s m args below meth c H locs cells slots Qm (F0 m pc lsA (st.map (zv g)))) (kt : P → Z g l M pt ls st' h Q) (kf : ¬ P → Z g l M pf ls st' h Q) : Z g l M pc ls st h Q := by
  by_cases hP : P
  · obtain ⟨v, h', dc, ds, hq, hn, hs, kk⟩ := kt hP
    exact ⟨v, h', dc, ds, hq, hn, hs, fun p e R s m args below meth c X H locs cells slots lsA hm hS hl h1 h2 => hw X (fun _ => kk p e R s m args below meth c X H locs cells slots lsA hm hS hl h1 h2) (fun hN => absurd hP hN)⟩
  · obtain ⟨v, h', dc, ds, hq, hn, hs, kk⟩ := kf hP
    exact ⟨v, h', dc, ds, hq, hn, hs, fun p e R s m args below meth c X H locs cells slots lsA hm hS hl h1 h2 => hw X (fun hN => absurd hN hP) (fun _ => kk p e R s m args below meth c X H locs cells slots lsA hm hS hl h1 h2)⟩
theorem z_if_eq {x : Int32} {off : Int} {tgt : Nat} (hd : decode M.2.1 pc = .ok (.ifCond .eq off, 3)) (ht : (pc : Int) + off = (tgt : Int)) (kt : x = 0 → Z g l M tgt ls st h Q) (kf : ¬ (x = 0) → Z g l M (pc + 3) ls st h Q) : Z g l M pc ls (.int x :: st) h Q := Z.br (st' := st) (fun X a b => lv_if_eq X.1 X.2.1 hd ht a b) kt kf
theorem z_icmp_eq {x y : Int32} {off : Int} {tgt : Nat} (hd : decode M.2.1 pc = .ok (.if_icmp .eq off, 3)) (ht : (pc : Int) + off = (tgt : Int)) (kt : x = y → Z g l M tgt ls st h Q) (kf : ¬ (x = y) → Z g l M (pc + 3) ls st h Q) : Z g l M pc ls (.int y :: .int x :: st) h Q := Z.br (st' := st) (fun X a b => lv_icmp_eq X.1 X.2.1 hd ht a b) kt kf
theorem z_if_ne {x : Int32} {off : Int} {tgt : Nat} (hd : decode M.2.1 pc = .ok (.ifCond .ne off, 3)) (ht : (pc : Int) + off = (tgt : Int)) (kt : ¬ x = 0 → Z g l M tgt ls st h Q) (kf : ¬ (¬ x = 0) → Z g l M (pc + 3) ls st h Q) : Z g l M pc ls (.int x :: st) h Q := Z.br (st' := st) (fun X a b => lv_if_ne X.1 X.2.1 hd ht a (fun q => b (fun z => absurd q z))) kt kf
theorem z_icmp_ne {x y : Int32} {off : Int} {tgt : Nat} (hd : decode M.2.1 pc = .ok (.if_icmp .ne off, 3)) (ht : (pc : Int) + off = (tgt : Int)) (kt : ¬ x = y → Z g l M tgt ls st h Q) (kf : ¬ (¬ x = y) → Z g l M (pc + 3) ls st h Q) : Z g l M pc ls (.int y :: .int x :: st) h Q := Z.br (st' := st) (fun X a b => lv_icmp_ne X.1 X.2.1 hd ht a (fun q => b (fun z => absurd q z))) kt kf
theorem z_if_lt {x : Int32} {off : Int} {tgt : Nat} (hd : decode M.2.1 pc = .ok (.ifCond .lt off, 3)) (ht : (pc : Int) + off = (tgt : Int)) (kt : x < 0 → Z g l M tgt ls st h Q) (kf : ¬ (x < 0) → Z g l M (pc + 3) ls st h Q) : Z g l M pc ls (.int x :: st) h Q := Z.br (st' := st) (fun X a b => lv_if_lt X.1 X.2.1 hd ht a b) kt kf
theorem z_icmp_lt {x y : Int32} {off : Int} {tgt : Nat} (hd : decode M.2.1 pc = .ok (.if_icmp .lt off, 3)) (ht : (pc : Int) + off = (tgt : Int)) (kt : x < y → Z g l M tgt ls st h Q) (kf : ¬ (x < y) → Z g l M (pc + 3) ls st h Q) : Z g l M pc ls (.int y :: .int x :: st) h Q := Z.br (st' := st) (fun X a b => lv_icmp_lt X.1 X.2.1 hd ht a b) kt kf
theorem z_if_ge {x : Int32} {off : Int} {tgt : Nat} (hd : decode M.2.1 pc = .ok (.ifCond .ge off, 3)) (ht : (pc : Int) + off = (tgt : Int)) (kt : 0 ≤ x → Z g l M tgt ls st h Q) (kf : ¬ (0 ≤ x) → Z g l M (pc + 3) ls st h Q) : Z g l M pc ls (.int x :: st) h Q := Z.br (st' := st) (fun X a b => lv_if_ge X.1 X.2.1 hd ht a b) kt kf
theorem z_icmp_ge {x y : Int32} {off : Int} {tgt : Nat} (hd : decode M.2.1 pc = .ok (.if_icmp .ge off, 3)) (ht : (pc : Int) + off = (tgt : Int)) (kt : y ≤ x → Z g l M tgt ls st h Q) (kf : ¬ (y ≤ x) → Z g l M (pc + 3) ls st h Q) : Z g l M pc ls (.int y :: .int x :: st) h Q := Z.br (st' := st) (fun X a b => lv_icmp_ge X.1 X.2.1 hd ht a b) kt kf
theorem z_if_gt {x : Int32} {off : Int} {tgt : Nat} (hd : decode M.2.1 pc = .ok (.ifCond .gt off, 3)) (ht : (pc : Int) + off = (tgt : Int)) (kt : 0 < x → Z g l M tgt ls st h Q) (kf : ¬ (0 < x) → Z g l M (pc + 3) ls st h Q) : Z g l M pc ls (.int x :: st) h Q := Z.br (st' := st) (fun X a b => lv_if_gt X.1 X.2.1 hd ht a b) kt kf
theorem z_icmp_gt {x y : Int32} {off : Int} {tgt : Nat} (hd : decode M.2.1 pc = .ok (.if_icmp .gt off, 3)) (ht : (pc : Int) + off = (tgt : Int)) (kt : y < x → Z g l M tgt ls st h Q) (kf : ¬ (y < x) → Z g l M (pc + 3) ls st h Q) : Z g l M pc ls (.int y :: .int x :: st) h Q := Z.br (st' := st) (fun X a b => lv_icmp_gt X.1 X.2.1 hd ht a b) kt kf
theorem z_if_le {x : Int32} {off : Int} {tgt : Nat} (hd : decode M.2.1 pc = .ok (.ifCond .le off, 3)) (ht : (pc : Int) + off = (tgt : Int)) (kt : x ≤ 0 → Z g l M tgt ls st h Q) (kf : ¬ (x ≤ 0) → Z g l M (pc + 3) ls st h Q) : Z g l M pc ls (.int x :: st) h Q := Z.br (st' := st) (fun X a b => lv_if_le X.1 X.2.1 hd ht a b) kt kf
theorem z_icmp_le {x y : Int32} {off : Int} {tgt : Nat} (hd : decode M.2.1 pc = .ok (.if_icmp .le off, 3)) (ht : (pc : Int) + off = (tgt : Int)) (kt : x ≤ y → Z g l M tgt ls st h Q) (kf : ¬ (x ≤ y) → Z g l M (pc + 3) ls st h Q) : Z g l M pc ls (.int y :: .int x :: st) h Q := Z.br (st' := st) (fun X a b => lv_icmp_le X.1 X.2.1 hd ht a b) kt kf
theorem z_goto {off : Int} {tgt : Nat} (hd : decode M.2.1 pc = .ok (.goto off, 3)) (ht : (pc : Int) + off = (tgt : Int)) (k : Z g l M tgt ls st h Q) : Z g l M pc ls st h Q := Z.step (fun X _ _ _ k => lv_goto X.1 X.2.1 hd ht k) k
theorem z_ifnonnull {x : Nat} {off : Int} {tgt : Nat} (hd : decode M.2.1 pc = .ok (.ifnonnull off, 3)) (ht : (pc : Int) + off = (tgt : Int)) (k : Z g l M tgt ls st h Q) : Z g l M pc ls (.ref x :: st) h Q := Z.step (fun X _ _ _ k => lv_ifnonnull X.1 X.2.1 hd ht k) k
theorem z_ifnonnullN {off : Int} (hd : decode M.2.1 pc = .ok (.ifnonnull off, 3)) (k : Z g l M (pc + 3) ls st h Q) : Z g l M pc ls (.null :: st) h Q := Z.step (fun X _ _ _ k => lv_ifnonnullN X.1 X.2.1 hd k) k
theorem z_ifnull {x : Nat} {off : Int} (hd : decode M.2.1 pc = .ok (.ifnull off, 3)) (k : Z g l M (pc + 3) ls st h Q) : Z g l M pc ls (.ref x :: st) h Q := Z.step (fun X _ _ _ k => lv_ifnull X.1 X.2.1 hd k) k
theorem z_ifnullN {off : Int} {tgt : Nat} (hd : decode M.2.1 pc = .ok (.ifnull off, 3)) (ht : (pc : Int) + off = (tgt : Int)) (k : Z g l M tgt ls st h Q) : Z g l M pc ls (.null :: st) h Q := Z.step (fun X _ _ _ k => lv_ifnullN X.1 X.2.1 hd ht k) k
theorem z_tableOut {dflt lo hi : Int} {offs : Array Int} {len : Nat} {x : Int32} {tgt : Nat} (hd : decode M.2.1 pc = .ok (.tableswitch dflt lo hi offs, len)) (hx : x.toInt < lo ∨ hi < x.toInt) (ht : (pc : Int) + dflt = (tgt : Int)) (k : Z g l M tgt ls st h Q) : Z g l M pc ls (.int x :: st) h Q := Z.step (fun X _ _ _ k => lv_tableOut X.1 X.2.1 hd hx ht k) k
theorem z_tableIn {dflt lo hi : Int} {offs : Array Int} {len : Nat} {x : Int32} {off : Int} {tgt : Nat} (hd : decode M.2.1 pc = .ok (.tableswitch dflt lo hi offs, len)) (h1 : ¬ x.toInt < lo) (h2 : ¬ hi < x.toInt) (ho : offs[(x.toInt - lo).toNat]? = some off) (ht : (pc : Int) + off = (tgt : Int)) (k : Z g l M tgt ls st h Q) : Z g l M pc ls (.int x :: st) h Q := Z.step (fun X _ _ _ k => lv_tableIn X.1 X.2.1 hd h1 h2 ho ht k) k
end ZRules
end
section
section ZHeap
variable {g : ZG} {l : Launch} {M : ZM} {pc : Nat} {ls : List (Option Value)} {st : List Value} {Q : Option Value → ZH → Prop} {K : ZK} {I : ZI} {L : ZL} {R : ZR} {n s0 : Nat}
theorem zcell_congr {I' : ZI} {L' : ZL} {R' : ZR} {q : Nat} (h1 : I' q = I q) (h2 : L' q = L q) (h3 : R' q = R q) : zcell g K I' L' R' q = zcell g K I L R q := by
  simp only [zcell, h1, h2, h3]
  have e : ∀ ci k, zfv g I' L' R' ci q k = zfv g I L R ci q k := fun ci k => by simp only [zfv, h1, h2, h3]
  simp only [funext (e _)]
theorem zcell_congrK {K' : ZK} {I' : ZI} {L' : ZL} {R' : ZR} {q : Nat} (h0 : K' q = K q) (h1 : I' q = I q) (h2 : L' q = L q) (h3 : R' q = R q) : zcell g K' I' L' R' q = zcell g K I L R q := by
  rw [← zcell_congr (K := K) h1 h2 h3]
  simp only [zcell, h0]
theorem zup_ne {α : Type} {f : Nat → Nat → α} {r i q : Nat} {x : α} (h : q ≠ r) : zup f r i x q = f q := by funext j; simp [zup, h]
theorem zup_eq {α : Type} {f : Nat → Nat → α} {r i : Nat} {x : α} : zup f r i x r = fun j => if j = i then x else f r j := by funext j; simp [zup]
theorem zupA_ne {α : Type} {f : Nat → Nat → α} {r q : Nat} {x : Nat → α} (h : q ≠ r) : zupA f r x q = f q := by simp [zupA, h]
theorem zupA_eq {α : Type} {f : Nat → Nat → α} {r : Nat} {x : Nat → α} : zupA f r x r = x := by simp [zupA]
theorem zmem_in {H : Heap} (hm : zmem g H (K, I, L, R, n, s0)) {r k : Nat} (hk : (K r).1 = k) (h0 : k ≠ 0) : 4 ≤ r ∧ r < n := hm.2.1 r (by rw [hk]; exact h0)
theorem zmem_set {H H1 : Heap} {I' : ZI} {L' : ZL} {R' : ZR} {r : Nat} (hm : zmem g H (K, I, L, R, n, s0)) (hr : 4 ≤ r ∧ r < n) (he : va_at g.1 vwCl (zphi g r, zcell g K I' L' R' r) H1) (ho : ∀ q, q ≠ r → I' q = I q ∧ L' q = L q ∧ R' q = R q) (z : H1.size = H.size) (oq : ∀ q : Nat, q ≠ zphi g r → H1[q]? = H[q]?) : zmem g H1 (K, I', L', R', n, s0) := by
  refine ⟨hm.1, hm.2.1, z.trans hm.2.2.1, ?_⟩
  rw [← zws_set (g := g) (K := K) (I := I) (L := L) (R := R) hr.1 hr.2 rfl (fun q hq => zcell_congr (ho q hq).1 (ho q hq).2.1 (ho q hq).2.2)]
  exact va_P.set hm.2.2.2 (zws_D g _) (zws_at g (K, I, L, R, n, s0) hr.1 hr.2) he oq
theorem zA_phi {r : Nat} (h : 4 ≤ r) : zA g (zphi g r) := by rw [zphi_new g h]; exact Nat.le_add_right _ _
theorem Z.stepH {pc' : Nat} {st' : List Value} {h h1 : ZH} (e1 : h1.2.2.2.2.1 = h.2.2.2.2.1) (e2 : h1.2.2.2.2.2 = h.2.2.2.2.2) (hw : ∀ {p : Program} {e : Env} {R : Room} {s : State} {m : MethodId} {args : Array Value} {below : List Frame} {meth : Method} {c : Code} {H : Heap} {locs : List Loc} {cells slots : Nat} {lsA : Array Slot} {Qm : State → Prop}, ZX g M p R s m args meth c → zmem g H h → va_S (zA g) s.heap H locs → zl g lsA M.2.2.1 ls → (∀ (H1 : Heap) (locs1 : List Loc), zmem g H1 h1 → va_S (zA g) s.heap H1 locs1 → W p l e R s m args below meth c H1 locs1 cells slots Qm (F0 m pc' lsA (st'.map (zv g)))) → W p l e R s m args below meth c H locs cells slots Qm (F0 m pc lsA (st.map (zv g)))) (k : Z g l M pc' ls st' h1 Q) : Z g l M pc ls st h Q := by
  obtain ⟨v, h', dc, ds, hq, hn, hs, kk⟩ := k
  exact ⟨v, h', dc, ds, hq, by rw [hn, e1], by rw [hs, e2], fun p e R s m args below meth c X H locs cells slots lsA hm hS hl h1 h2 => hw X hm hS hl (fun H1 locs1 hm1 hS1 => kk p e R s m args below meth c X H1 locs1 cells slots lsA hm1 hS1 hl h1 h2)⟩
theorem Z.stepN {pc' N : Nat} {st' : List Value} {h h1 : ZH} (e1 : h1.2.2.2.2.1 = h.2.2.2.2.1 + 1) (e2 : h1.2.2.2.2.2 = h.2.2.2.2.2 + N) (hw : ∀ {p : Program} {e : Env} {R : Room} {s : State} {m : MethodId} {args : Array Value} {below : List Frame} {meth : Method} {c : Code} {H : Heap} {locs : List Loc} {cells slots : Nat} {lsA : Array Slot} {Qm : State → Prop}, ZX g M p R s m args meth c → zmem g H h → va_S (zA g) s.heap H locs → zl g lsA M.2.2.1 ls → cells + 1 ≤ R.cells → slots + N ≤ R.slots → (∀ (H1 : Heap), zmem g H1 h1 → va_S (zA g) s.heap H1 locs → W p l e R s m args below meth c H1 locs (cells + 1) (slots + N) Qm (F0 m pc' lsA (st'.map (zv g)))) → W p l e R s m args below meth c H locs cells slots Qm (F0 m pc lsA (st.map (zv g)))) (k : Z g l M pc' ls st' h1 Q) : Z g l M pc ls st h Q := by
  obtain ⟨v, h', dc, ds, hq, hn, hs, kk⟩ := k
  refine ⟨v, h', 1 + dc, N + ds, hq, by rw [hn, e1]; omega, by rw [hs, e2]; omega, fun p e R s m args below meth c X H locs cells slots lsA hm hS hl h1 h2 => hw X hm hS hl (by omega) (by omega) (fun H1 hm1 hS1 => ?_)⟩
  rw [← Nat.add_assoc, ← Nat.add_assoc]
  exact kk p e R s m args below meth c X H1 locs (cells + 1) (slots + N) lsA hm1 hS1 hl (by omega) (by omega)
-- the classes
def zTT (ci : Nat) : u_T := match ci with
  | 0 => TX0
  | 1 => TX1
  | 2 => TX2
  | 3 => TX3
  | 4 => TX4
  | 5 => TX5
  | 6 => TX6
  | 7 => TX7
  | 8 => TX8
  | _ => TX9
def zRR (ci : Nat) : String := match ci with
  | 0 => RX0
  | 1 => RX1
  | 2 => RX2
  | 3 => RX3
  | 4 => RX4
  | 5 => RX5
  | 6 => RX6
  | 7 => RX7
  | 8 => RX8
  | _ => RX9
theorem zcl : ∀ ci, ci < 10 → vwCl[ci]? = some (zRR ci, zTT ci, zN ci)
  | 0, _ => rfl | 1, _ => rfl | 2, _ => rfl | 3, _ => rfl | 4, _ => rfl | 5, _ => rfl | 6, _ => rfl | 7, _ => rfl | 8, _ => rfl | 9, _ => rfl
  | k + 10, h => absurd h (by omega)
theorem ztyok : ∀ ci, ci < 10 → ∀ k, k < zN ci → parseFieldDescriptor (zTT ci k).2.2.1 = some (zty ci k)
  | 0, _ => tyX0_ok | 1, _ => tyX1_ok | 2, _ => tyX2_ok | 3, _ => tyX3_ok | 4, _ => tyX4_ok | 5, _ => tyX5_ok | 6, _ => tyX6_ok | 7, _ => tyX7_ok | 8, _ => tyX8_ok | 9, _ => tyX9_ok
  | k + 10, h => absurd h (by omega)
theorem znm : ∀ ci, ci < 10 → ∀ a, a < zN ci → ∀ b, b < zN ci → a ≠ b → (zTT ci a).2.1 ≠ (zTT ci b).2.1
  | 0, _ => nmX0 | 1, _ => nmX1 | 2, _ => nmX2 | 3, _ => nmX3 | 4, _ => nmX4 | 5, _ => nmX5 | 6, _ => nmX6 | 7, _ => nmX7 | 8, _ => nmX8 | 9, _ => nmX9
  | k + 10, h => absurd h (by omega)
theorem zuw0 : ((List.range 10).all (fun ci => (u_ws (zRR ci) (zTT ci) (zN ci)).all (fun w => decide (w ∈ lw_tbl) && goodWord w))) = true := by decide +kernel
theorem zuw {ci : Nat} (hc : ci < 10) : ∀ w ∈ u_ws (zRR ci) (zTT ci) (zN ci), w ∈ gw := by
  intro w hw
  have h1 := List.all_eq_true.mp (List.all_eq_true.mp zuw0 ci (List.mem_range.mpr hc)) w hw
  simp only [Bool.and_eq_true, decide_eq_true_eq] at h1
  exact gw_in h1.1 h1.2
theorem zcell_obj {r ci : Nat} (hK : (K r).1 = 10 + ci) : zcell g K I L R r = .inr (ci, (List.range (zN ci)).map (zfv g I L R ci r)) := by
  unfold zcell
  rw [hK]
  split <;> first | omega | rw [show 10 + ci - 10 = ci by omega]
theorem zfs_at {r ci k : Nat} (hk : k < zN ci) : ((List.range (zN ci)).map (zfv g I L R ci r))[k]? = some (zfv g I L R ci r k) := by
  rw [List.getElem?_map, List.getElem?_range hk]; rfl
theorem z_getV {a ci kf index : Nat} {v : Value} (hd : decode M.2.1 pc = .ok (.getfield index, 3)) (hK : (K a).1 = 10 + ci) (hc : ci < 10) (hk : kf < zN ci) (hv : zfv g I L R ci a kf = zv g v) (hw : Cond.fieldLink M.1.cls index (zTT ci kf).1 (zTT ci kf).2.1 (zTT ci kf).2.2.1 ∈ gw) (k : Z g l M (pc + 3) ls (v :: st) (K, I, L, R, n, s0) Q) : Z g l M pc ls (.ref a :: st) (K, I, L, R, n, s0) Q := by
  refine Z.step (fun X hm _ _ k => ?_) k
  have hr := zmem_in hm hK (by omega)
  have hat := zws_at g (K, I, L, R, n, s0) hr.1 hr.2
  simp only [zcell_obj hK] at hat
  exact va_get X.1 X.2.1 X.2.2.2.2.2.1 (zuw hc) X.2.2.2.2.1 X.2.2.2.2.2.2.2.2.2.2.1.1 hm.2.2.2 (a - 4) hat (zcl ci hc) kf hk (X.2.2.2.2.2.1 _ hw) (fun _ h9 => h9) (by rw [zfs_at hk, hv]) hd k
theorem z_getI {a ci kf index : Nat} (hd : decode M.2.1 pc = .ok (.getfield index, 3)) (hK : (K a).1 = 10 + ci) (hc : ci < 10) (hk : kf < zN ci) (hs : zsort (zty ci kf) = 0) (hw : Cond.fieldLink M.1.cls index (zTT ci kf).1 (zTT ci kf).2.1 (zTT ci kf).2.2.1 ∈ gw) (k : Z g l M (pc + 3) ls (.int (I a kf) :: st) (K, I, L, R, n, s0) Q) : Z g l M pc ls (.ref a :: st) (K, I, L, R, n, s0) Q := z_getV hd hK hc hk (by simp only [zfv, hs]; rfl) hw k
theorem z_getL {a ci kf index : Nat} (hd : decode M.2.1 pc = .ok (.getfield index, 3)) (hK : (K a).1 = 10 + ci) (hc : ci < 10) (hk : kf < zN ci) (hs : zsort (zty ci kf) = 1) (hw : Cond.fieldLink M.1.cls index (zTT ci kf).1 (zTT ci kf).2.1 (zTT ci kf).2.2.1 ∈ gw) (k : Z g l M (pc + 3) ls (.long (L a kf) :: st) (K, I, L, R, n, s0) Q) : Z g l M pc ls (.ref a :: st) (K, I, L, R, n, s0) Q := z_getV hd hK hc hk (by simp only [zfv, hs]; rfl) hw k
theorem z_getR {a ci kf index r : Nat} (hd : decode M.2.1 pc = .ok (.getfield index, 3)) (hK : (K a).1 = 10 + ci) (hc : ci < 10) (hk : kf < zN ci) (hs : zsort (zty ci kf) = 2) (hw : Cond.fieldLink M.1.cls index (zTT ci kf).1 (zTT ci kf).2.1 (zTT ci kf).2.2.1 ∈ gw) (hr : R a kf = some r) (k : Z g l M (pc + 3) ls (.ref r :: st) (K, I, L, R, n, s0) Q) : Z g l M pc ls (.ref a :: st) (K, I, L, R, n, s0) Q := z_getV hd hK hc hk (by simp only [zfv, hs, hr]; rfl) hw k
theorem z_getRN {a ci kf index : Nat} (hd : decode M.2.1 pc = .ok (.getfield index, 3)) (hK : (K a).1 = 10 + ci) (hc : ci < 10) (hk : kf < zN ci) (hs : zsort (zty ci kf) = 2) (hw : Cond.fieldLink M.1.cls index (zTT ci kf).1 (zTT ci kf).2.1 (zTT ci kf).2.2.1 ∈ gw) (hr : R a kf = none) (k : Z g l M (pc + 3) ls (.null :: st) (K, I, L, R, n, s0) Q) : Z g l M pc ls (.ref a :: st) (K, I, L, R, n, s0) Q := z_getV hd hK hc hk (by simp only [zfv, hs, hr]; rfl) hw k
theorem zV_at {r ci j : Nat} (hj : j < zN ci) : vp_V ((List.range (zN ci)).map (zfv g I L R ci r)) j = zfv g I L R ci r j := by
  unfold vp_V
  rw [List.getD_eq_getElem?_getD, zfs_at hj]; rfl
/-- a store into an object's field, final or not -/
theorem z_putV {a ci kf index : Nat} {v : Value} {I' : ZI} {L' : ZL} {R' : ZR} (hd : decode M.2.1 pc = .ok (.putfield index, 3)) (hK : (K a).1 = 10 + ci) (hc : ci < 10) (hk : kf < zN ci) (hf : (zTT ci kf).2.2.2 = false ∨ ((zTT ci kf).2.2.2 = true ∧ M.1.name = "<init>" ∧ (zTT ci kf).1 = M.1.cls)) (hn : narrow (zty ci kf) (zv g v) = zv g v) (hfit : fits (zty ci kf) (zv g v) = true) (hw : Cond.fieldLink M.1.cls index (zTT ci kf).1 (zTT ci kf).2.1 (zTT ci kf).2.2.1 ∈ gw)
    (hz : ∀ j, j < zN ci → (if j = kf then zv g v else zfv g I L R ci a j) = zfv g I' L' R' ci a j) (ho : ∀ q, q ≠ a → I' q = I q ∧ L' q = L q ∧ R' q = R q) (k : Z g l M (pc + 3) ls st (K, I', L', R', n, s0) Q) : Z g l M pc ls (v :: .ref a :: st) (K, I, L, R, n, s0) Q := by
  refine Z.stepH (h := (K, I, L, R, n, s0)) (h1 := (K, I', L', R', n, s0)) rfl rfl (fun {p e Rm s m args below meth c H locs cells slots lsA Qm} X hm hS _ kk => ?_) k
  have hr := zmem_in hm hK (by omega)
  have hat := zws_at g (K, I, L, R, n, s0) hr.1 hr.2
  simp only [zcell_obj hK] at hat
  have hts := X.2.2.2.2.2.1
  have hown := X.2.2.2.2.1
  have hKt := X.2.2.2.2.2.2.2.2.2.2.1.1
  have hap := va_apart (own := M.1.cls) hts (zuw hc) (zty ci) (ztyok ci hc) (znm ci hc) hKt (zcl ci hc)
  obtain ⟨r, h1, cell, q1, q2, q3, q4⟩ := hm.2.2.2 (a - 4) _ hat
  have hre : r = (zRR ci, zTT ci, zN ci) := Option.some.inj (h1.symm.trans (zcl ci hc))
  subst hre
  obtain ⟨hSl, hfc, kC, hkC, hkind⟩ := hKt.1 ci _ (zcl ci hc)
  obtain ⟨cf, kf', fi, f, hi, hsl⟩ := hSl kf hk
  have hst := (u_facts hfc hkC (u_lays hts (zuw hc) hk) hi).1
  have hlay := hts _ (zuw hc _ (u_in_lay hk))
  have fin : ∀ H' : Heap, H'[zphi g a]? = some (cell.setSlot f.slot (zv g v)) → H'.size = H.size → (∀ q, q ≠ zphi g a → H'[q]? = H[q]?) → W p l e Rm s m args below meth c H' (locs ++ [⟨zphi g a, f.slot⟩]) cells slots Qm (F0 m (pc + 3) lsA (st.map (zv g))) := by
    intro H' e1 e2 e3
    refine kk H' _ (zmem_set hm hr ?_ ho e2 e3) (hS.put e2 e3 (zA_phi hr.1))
    rw [zcell_obj hK]
    rw [hsl] at e1
    exact ⟨_, zcl ci hc, t_OB.to (V := updV (vp_V ((List.range (zN ci)).map (zfv g I L R ci a))) kf (zv g v)) ⟨_, e1, q2, q3, t_set q4 hap hk (zv g v)⟩ (fun j hj => by
      rw [zV_at hj, ← hz j hj]
      unfold updV
      by_cases hjk : j = kf
      · rw [if_pos hjk, if_pos hjk]
      · rw [if_neg hjk, if_neg hjk, zV_at hj])⟩
  rcases hf with hfin | ⟨hfin, hin2, hdecl⟩
  · unfold u_lay at hlay
    rw [if_neg (by rw [hfin]; decide)] at hlay
    have h6 := u_store hfc hkC hkind hlay hi (ztyok ci hc kf hk) hn hfit
    exact W.putK X.1 X.2.1 (f := f) ⟨hown, hts _ hw, ⟨_, _, _, hi⟩, hst⟩ (by rw [q2]; exact h6) q1 q3 (by rw [hsl]; exact k2_hasslot (q4 kf hk)) rfl rfl hd fin
  · unfold u_lay at hlay
    rw [if_pos hfin] at hlay
    have hcf : m.cls = cf := by
      obtain ⟨_, _, c', _, _, _, -, -, hf', -, -, -, hown2, -⟩ := Cond.laysFinal_spec hlay
      have e1 : c' = cf := by have := hi.symm.trans hf'; simp at this; exact this.1.symm
      rw [hdecl] at hown2
      rw [← e1]; exact Option.some.inj (hown.symm.trans hown2)
    have h6 := u_fits hfc hkC hkind (Or.inr hlay) hi (ztyok ci hc kf hk) hn hfit
    exact W.putFinK X.1 X.2.1 hown (hts _ hw) hi hst hcf (X.2.2.2.2.2.2.2.1.trans hin2) (by rw [q2]; exact h6) q1 q3 (by rw [hsl]; exact k2_hasslot (q4 kf hk)) rfl rfl hd fin
/-- may be written here: not final, or by its own class's constructor -/
def zfinok (M : ZM) (ci kf : Nat) : Bool := !(zTT ci kf).2.2.2 || (M.1.name == "<init>" && (zTT ci kf).1 == M.1.cls)
theorem zfinok_spec {ci kf : Nat} (h : zfinok M ci kf = true) : (zTT ci kf).2.2.2 = false ∨ ((zTT ci kf).2.2.2 = true ∧ M.1.name = "<init>" ∧ (zTT ci kf).1 = M.1.cls) := by
  unfold zfinok at h
  cases hb : (zTT ci kf).2.2.2 with
  | false => exact Or.inl rfl
  | true => rw [hb] at h; simp at h; exact Or.inr ⟨rfl, h.1, h.2⟩
theorem zfv_upI {a ci kf j : Nat} {x : Int32} (hs : zsort (zty ci kf) = 0) : (if j = kf then zv g (.int x) else zfv g I L R ci a j) = zfv g (zup I a kf x) L R ci a j := by
  by_cases h : j = kf
  · subst h
    simp only [if_true, zfv, hs, zup_eq]; rfl
  · simp only [if_neg h, zfv, zup_eq]
theorem zfv_upL {a ci kf j : Nat} {x : Int64} (hs : zsort (zty ci kf) = 1) : (if j = kf then zv g (.long x) else zfv g I L R ci a j) = zfv g I (zup L a kf x) R ci a j := by
  by_cases h : j = kf
  · subst h
    simp only [if_true, zfv, hs, zup_eq]; rfl
  · simp only [if_neg h, zfv, zup_eq]
theorem zfv_upR {a ci kf j : Nat} {x : Option Nat} (hs : zsort (zty ci kf) = 2) : (if j = kf then zv g (va_rf x) else zfv g I L R ci a j) = zfv g I L (zup R a kf x) ci a j := by
  by_cases h : j = kf
  · subst h
    simp only [if_true, zfv, hs, zup_eq]
    cases x <;> rfl
  · simp only [if_neg h, zfv, zup_eq]
theorem z_putI {a ci kf index : Nat} {x : Int32} (hd : decode M.2.1 pc = .ok (.putfield index, 3)) (hK : (K a).1 = 10 + ci) (hc : ci < 10) (hk : kf < zN ci) (hs : zsort (zty ci kf) = 0) (hf : zfinok M ci kf = true) (hn : narrow (zty ci kf) (.int x) = .int x) (hfit : fits (zty ci kf) (.int x) = true) (hw : Cond.fieldLink M.1.cls index (zTT ci kf).1 (zTT ci kf).2.1 (zTT ci kf).2.2.1 ∈ gw) (k : Z g l M (pc + 3) ls st (K, zup I a kf x, L, R, n, s0) Q) : Z g l M pc ls (.int x :: .ref a :: st) (K, I, L, R, n, s0) Q :=
  z_putV hd hK hc hk (zfinok_spec hf) hn hfit hw (fun _ _ => zfv_upI hs) (fun _ hq => ⟨zup_ne hq, rfl, rfl⟩) k
theorem z_putL {a ci kf index : Nat} {x : Int64} (hd : decode M.2.1 pc = .ok (.putfield index, 3)) (hK : (K a).1 = 10 + ci) (hc : ci < 10) (hk : kf < zN ci) (hs : zsort (zty ci kf) = 1) (hf : zfinok M ci kf = true) (hn : narrow (zty ci kf) (.long x) = .long x) (hfit : fits (zty ci kf) (.long x) = true) (hw : Cond.fieldLink M.1.cls index (zTT ci kf).1 (zTT ci kf).2.1 (zTT ci kf).2.2.1 ∈ gw) (k : Z g l M (pc + 3) ls st (K, I, zup L a kf x, R, n, s0) Q) : Z g l M pc ls (.long x :: .ref a :: st) (K, I, L, R, n, s0) Q :=
  z_putV hd hK hc hk (zfinok_spec hf) hn hfit hw (fun _ _ => zfv_upL hs) (fun _ hq => ⟨rfl, zup_ne hq, rfl⟩) k
theorem z_putR {a ci kf index x : Nat} (hd : decode M.2.1 pc = .ok (.putfield index, 3)) (hK : (K a).1 = 10 + ci) (hc : ci < 10) (hk : kf < zN ci) (hs : zsort (zty ci kf) = 2) (hf : zfinok M ci kf = true) (hn : ∀ y, narrow (zty ci kf) (.ref y) = .ref y) (hfit : ∀ y, fits (zty ci kf) (.ref y) = true) (hw : Cond.fieldLink M.1.cls index (zTT ci kf).1 (zTT ci kf).2.1 (zTT ci kf).2.2.1 ∈ gw) (k : Z g l M (pc + 3) ls st (K, I, L, zup R a kf (some x), n, s0) Q) : Z g l M pc ls (.ref x :: .ref a :: st) (K, I, L, R, n, s0) Q :=
  z_putV hd hK hc hk (zfinok_spec hf) (hn _) (hfit _) hw (fun _ _ => zfv_upR (x := some x) hs) (fun _ hq => ⟨rfl, rfl, zup_ne hq⟩) k
theorem z_putRN {a ci kf index : Nat} (hd : decode M.2.1 pc = .ok (.putfield index, 3)) (hK : (K a).1 = 10 + ci) (hc : ci < 10) (hk : kf < zN ci) (hs : zsort (zty ci kf) = 2) (hf : zfinok M ci kf = true) (hn : narrow (zty ci kf) .null = .null) (hfit : fits (zty ci kf) .null = true) (hw : Cond.fieldLink M.1.cls index (zTT ci kf).1 (zTT ci kf).2.1 (zTT ci kf).2.2.1 ∈ gw) (k : Z g l M (pc + 3) ls st (K, I, L, zup R a kf none, n, s0) Q) : Z g l M pc ls (.null :: .ref a :: st) (K, I, L, R, n, s0) Q :=
  z_putV hd hK hc hk (zfinok_spec hf) hn hfit hw (fun _ _ => zfv_upR (x := none) hs) (fun _ hq => ⟨rfl, rfl, zup_ne hq⟩) k
end ZHeap
end
section
section ZArr
variable {g : ZG} {l : Launch} {M : ZM} {pc : Nat} {ls : List (Option Value)} {st : List Value} {Q : Option Value → ZH → Prop} {K : ZK} {I : ZI} {L : ZL} {R : ZR} {n s0 : Nat}
theorem zcell_1 {r len : Nat} (hK : K r = (1, len)) : zcell g K I L R r = .inl (g.2.1 1, len, .inl (I r)) := by simp only [zcell, hK]
theorem zcell_2 {r len : Nat} (hK : K r = (2, len)) : zcell g K I L R r = .inl (g.2.1 2, len, .inr (.inl (L r))) := by simp only [zcell, hK]
theorem zcell_3 {r len : Nat} (hK : K r = (3, len)) : zcell g K I L R r = .inl (g.2.1 3, len, .inl (I r)) := by simp only [zcell, hK]
theorem zcell_4 {r len : Nat} (hK : K r = (4, len)) : zcell g K I L R r = .inl (g.2.1 4, len, .inr (.inr (.inr (.inr (fun j => (R r j).map (zphi g)))))) := by simp only [zcell, hK]
theorem zcell_5 {r len : Nat} (hK : K r = (5, len)) : zcell g K I L R r = .inl (g.2.1 5, len, .inr (.inr (.inr (.inr (fun j => (R r j).map (zphi g)))))) := by simp only [zcell, hK]
theorem zmem_in' {H : Heap} (hm : zmem g H (K, I, L, R, n, s0)) {r k len : Nat} (hk : K r = (k, len)) (h0 : k ≠ 0) : 4 ≤ r ∧ r < n := zmem_in hm (k := k) (by rw [hk]) h0
theorem z_iald {a len : Nat} {i : Int32} (hd : decode M.2.1 pc = .ok (.iaload, 1)) (hK : K a = (1, len)) (hin : vp_in i len) (k : Z g l M (pc + 1) ls (.int (I a i.toNatClampNeg) :: st) (K, I, L, R, n, s0) Q) : Z g l M pc ls (.int i :: .ref a :: st) (K, I, L, R, n, s0) Q := by
  refine Z.step (fun X hm _ _ k => ?_) k
  have hr := zmem_in' hm hK (by omega)
  have hat := zws_at g (K, I, L, R, n, s0) hr.1 hr.2
  simp only [zcell_1 hK] at hat
  exact va_iald X.1 X.2.1 X.2.2.2.2.2.2.2.2.2.2.1.1 hm.2.2.2 (a - 4) 0 hat rfl hin hd k
theorem z_bald {a len : Nat} {i : Int32} (hd : decode M.2.1 pc = .ok (.baload, 1)) (hK : K a = (3, len)) (hin : vp_in i len) (k : Z g l M (pc + 1) ls (.int (I a i.toNatClampNeg) :: st) (K, I, L, R, n, s0) Q) : Z g l M pc ls (.int i :: .ref a :: st) (K, I, L, R, n, s0) Q := by
  refine Z.step (fun X hm _ _ k => ?_) k
  have hr := zmem_in' hm hK (by omega)
  have hat := zws_at g (K, I, L, R, n, s0) hr.1 hr.2
  simp only [zcell_3 hK] at hat
  exact va_bald X.1 X.2.1 X.2.2.2.2.2.2.2.2.2.2.1.1 hm.2.2.2 (a - 4) 2 hat rfl hin hd k
theorem z_lald {a len : Nat} {i : Int32} (hd : decode M.2.1 pc = .ok (.laload, 1)) (hK : K a = (2, len)) (hin : vp_in i len) (k : Z g l M (pc + 1) ls (.long (L a i.toNatClampNeg) :: st) (K, I, L, R, n, s0) Q) : Z g l M pc ls (.int i :: .ref a :: st) (K, I, L, R, n, s0) Q := by
  refine Z.step (fun X hm _ _ k => ?_) k
  have hr := zmem_in' hm hK (by omega)
  have hat := zws_at g (K, I, L, R, n, s0) hr.1 hr.2
  simp only [zcell_2 hK] at hat
  exact va_lald X.1 X.2.1 X.2.2.2.2.2.2.2.2.2.2.1.1 hm.2.2.2 (a - 4) 1 hat rfl hin hd k
theorem z_aaldV {a len t : Nat} {i : Int32} {v : Value} (hd : decode M.2.1 pc = .ok (.aaload, 1)) (hK : K a = (4, len) ∨ K a = (5, len)) (hin : vp_in i len) (hv : va_rf (R a i.toNatClampNeg) = v) (k : Z g l M (pc + 1) ls (v :: st) (K, I, L, R, n, s0) Q) : Z g l M pc ls (.int i :: .ref a :: st) (K, I, L, R, n, s0) Q := by
  refine Z.step (fun X hm _ _ k => ?_) k
  have e : zv g v = va_rf ((R a i.toNatClampNeg).map (zphi g)) := by rw [← hv]; cases R a i.toNatClampNeg <;> rfl
  simp only [List.map_cons, e] at k
  rcases hK with hK | hK
  · have hr := zmem_in' hm hK (by omega)
    have hat := zws_at g (K, I, L, R, n, s0) hr.1 hr.2
    simp only [zcell_4 hK] at hat
    exact va_aldq X.1 X.2.1 X.2.2.2.2.2.2.2.2.2.2.1.1 hm.2.2.2 (a - 4) 3 hat rfl hin hd k
  · have hr := zmem_in' hm hK (by omega)
    have hat := zws_at g (K, I, L, R, n, s0) hr.1 hr.2
    simp only [zcell_5 hK] at hat
    exact va_aldq X.1 X.2.1 X.2.2.2.2.2.2.2.2.2.2.1.1 hm.2.2.2 (a - 4) 4 hat rfl hin hd k
theorem z_aald {a len r : Nat} {i : Int32} (hd : decode M.2.1 pc = .ok (.aaload, 1)) (hK : K a = (4, len) ∨ K a = (5, len)) (hin : vp_in i len) (hv : R a i.toNatClampNeg = some r) (k : Z g l M (pc + 1) ls (.ref r :: st) (K, I, L, R, n, s0) Q) : Z g l M pc ls (.int i :: .ref a :: st) (K, I, L, R, n, s0) Q := z_aaldV (t := 0) hd hK hin (by rw [hv]; rfl) k
theorem z_aaldN {a len : Nat} {i : Int32} (hd : decode M.2.1 pc = .ok (.aaload, 1)) (hK : K a = (4, len) ∨ K a = (5, len)) (hin : vp_in i len) (hv : R a i.toNatClampNeg = none) (k : Z g l M (pc + 1) ls (.null :: st) (K, I, L, R, n, s0) Q) : Z g l M pc ls (.int i :: .ref a :: st) (K, I, L, R, n, s0) Q := z_aaldV (t := 0) hd hK hin (by rw [hv]; rfl) k
-- old arrays
theorem zphi_old {r : Nat} (h : r < 4) : zphi g r = g.2.2.1 r := by unfold zphi; rw [if_pos h]
theorem z_iald_old {r : Nat} {i : Int32} {h : ZH} (hd : decode M.2.1 pc = .ok (.iaload, 1)) (hr : r < 4) (hin : vp_in i (g.2.2.2.2 r).1) (k : Z g l M (pc + 1) ls (.int ((g.2.2.2.2 r).2 i.toNatClampNeg) :: st) h Q) : Z g l M pc ls (.int i :: .ref r :: st) h Q := by
  refine Z.step (fun X _ hS _ k => ?_) k
  have e : zv g (.ref r) = .ref (g.2.2.1 r) := by show Value.ref (zphi g r) = _; rw [zphi_old hr]
  simp only [List.map_cons, e]
  exact va_ti X.1 X.2.1 (X.2.2.2.2.2.2.2.2.2.2.2.1.1 r hr) hS hin rfl hd k
theorem z_alen_old {r : Nat} {h : ZH} (hd : decode M.2.1 pc = .ok (.arraylength, 1)) (hr : r < 4) (k : Z g l M (pc + 1) ls (.int (Int32.ofNat (g.2.2.2.2 r).1) :: st) h Q) : Z g l M pc ls (.ref r :: st) h Q := by
  refine Z.step (fun X _ hS _ k => ?_) k
  have e : zv g (.ref r) = .ref (g.2.2.1 r) := by show Value.ref (zphi g r) = _; rw [zphi_old hr]
  simp only [List.map_cons, e]
  exact va_tlen X.1 X.2.1 (X.2.2.2.2.2.2.2.2.2.2.2.1.1 r hr) hS rfl hd k
theorem z_static {r index : Nat} {nm : String} {h : ZH} (hd : decode M.2.1 pc = .ok (.getstatic index, 3)) (hr : (r = 1 ∧ nm = "RULE_ALL") ∨ (r = 2 ∧ nm = "RULE_ODD") ∨ (r = 3 ∧ nm = "RULE_PRIME")) (hw : Cond.fieldLink M.1.cls index RX8 nm "[I" ∈ gw) (k : Z g l M (pc + 3) ls (.ref r :: st) h Q) : Z g l M pc ls st h Q := by
  refine Z.step (fun X _ hS _ k => ?_) k
  have ho := X.2.2.2.2.2.2.2.2.2.2.2.1.2
  rcases hr with ⟨rfl, rfl⟩ | ⟨rfl, rfl⟩ | ⟨rfl, rfl⟩
  · exact va_gets X.1 X.2.1 ho.1 hS X.2.2.2.2.1 (X.2.2.2.2.2.1 _ hw) (fun _ h9 => h9) hd k
  · exact va_gets X.1 X.2.1 ho.2.1 hS X.2.2.2.2.1 (X.2.2.2.2.2.1 _ hw) (fun _ h9 => h9) hd k
  · exact va_gets X.1 X.2.1 ho.2.2 hS X.2.2.2.2.1 (X.2.2.2.2.2.1 _ hw) (fun _ h9 => h9) hd k
theorem z_alen {a len kd : Nat} (hd : decode M.2.1 pc = .ok (.arraylength, 1)) (hK : K a = (kd, len)) (hk : kd = 1 ∨ kd = 2 ∨ kd = 3) (k : Z g l M (pc + 1) ls (.int (Int32.ofNat len) :: st) (K, I, L, R, n, s0) Q) : Z g l M pc ls (.ref a :: st) (K, I, L, R, n, s0) Q := by
  refine Z.step (fun X hm _ _ k => ?_) k
  have hr := zmem_in' hm hK (by omega)
  have hat := zws_at g (K, I, L, R, n, s0) hr.1 hr.2
  rcases hk with rfl | rfl | rfl
  · simp only [zcell_1 hK] at hat
    exact va_alen X.1 X.2.1 X.2.2.2.2.2.2.2.2.2.2.1.1 hm.2.2.2 (a - 4) 0 hat rfl rfl hd k
  · simp only [zcell_2 hK] at hat
    exact va_alen X.1 X.2.1 X.2.2.2.2.2.2.2.2.2.2.1.1 hm.2.2.2 (a - 4) 1 hat rfl rfl hd k
  · simp only [zcell_3 hK] at hat
    exact va_alen X.1 X.2.1 X.2.2.2.2.2.2.2.2.2.2.1.1 hm.2.2.2 (a - 4) 2 hat rfl rfl hd k
-- stores
theorem z_iast {a len : Nat} {i x : Int32} (hd : decode M.2.1 pc = .ok (.iastore, 1)) (hK : K a = (1, len)) (hin : vp_in i len) (k : Z g l M (pc + 1) ls st (K, zup I a i.toNatClampNeg x, L, R, n, s0) Q) : Z g l M pc ls (.int x :: .int i :: .ref a :: st) (K, I, L, R, n, s0) Q := by
  refine Z.stepH (h := (K, I, L, R, n, s0)) (h1 := (K, zup I a i.toNatClampNeg x, L, R, n, s0)) rfl rfl (fun X hm hS _ kk => ?_) k
  have hr := zmem_in' hm hK (by omega)
  have hat := hm.2.2.2 (a - 4) _ (zws_at g (K, I, L, R, n, s0) hr.1 hr.2)
  simp only [zcell_1 hK] at hat
  refine W.iast X.1 X.2.1 hat ((X.2.2.2.2.2.2.2.2.2.2.1.1.2 0 _ rfl).1 len (fun j => .int (I a j))) (fun q => by cases q) (by show ¬ (i < 0 ∨ (arrV _ _ _).slots.size ≤ _); rw [arrV_size]; exact hin) rfl rfl hd fun H1 e z oq => ?_
  refine kk H1 _ (zmem_set hm hr ?_ (fun q hq => ⟨zup_ne hq, rfl, rfl⟩) z oq) (hS.put z oq (zA_phi hr.1))
  rw [zcell_1 hK]
  show H1[_]? = some (vp_cell _ _)
  rw [e, vp_cell_i, vp_cell_i, arrV_store]
  congr 2
  funext q
  simp only [updV, zup_eq]
  split <;> rfl
theorem z_bast {a len : Nat} {i x : Int32} (hd : decode M.2.1 pc = .ok (.bastore, 1)) (hK : K a = (3, len)) (hin : vp_in i len) (k : Z g l M (pc + 1) ls st (K, zup I a i.toNatClampNeg x.toInt8.toInt32, L, R, n, s0) Q) : Z g l M pc ls (.int x :: .int i :: .ref a :: st) (K, I, L, R, n, s0) Q := by
  refine Z.stepH (h := (K, I, L, R, n, s0)) (h1 := (K, zup I a i.toNatClampNeg x.toInt8.toInt32, L, R, n, s0)) rfl rfl (fun X hm hS _ kk => ?_) k
  have hr := zmem_in' hm hK (by omega)
  have hat := hm.2.2.2 (a - 4) _ (zws_at g (K, I, L, R, n, s0) hr.1 hr.2)
  simp only [zcell_3 hK] at hat
  refine W.bast X.1 X.2.1 hat ((X.2.2.2.2.2.2.2.2.2.2.1.1.2 2 _ rfl).1 len (fun j => .int (I a j))) (fun q => by cases q) (by show ¬ (i < 0 ∨ (arrV _ _ _).slots.size ≤ _); rw [arrV_size]; exact hin) rfl rfl hd fun H1 e z oq => ?_
  refine kk H1 _ (zmem_set hm hr ?_ (fun q hq => ⟨zup_ne hq, rfl, rfl⟩) z oq) (hS.put z oq (zA_phi hr.1))
  rw [zcell_3 hK]
  show H1[_]? = some (vp_cell _ _)
  rw [e, vp_cell_i, vp_cell_i, arrV_store]
  congr 2
  funext q
  simp only [updV, zup_eq]
  split <;> rfl
theorem z_last {a len : Nat} {i : Int32} {x : Int64} (hd : decode M.2.1 pc = .ok (.lastore, 1)) (hK : K a = (2, len)) (hin : vp_in i len) (k : Z g l M (pc + 1) ls st (K, I, zup L a i.toNatClampNeg x, R, n, s0) Q) : Z g l M pc ls (.long x :: .int i :: .ref a :: st) (K, I, L, R, n, s0) Q := by
  refine Z.stepH (h := (K, I, L, R, n, s0)) (h1 := (K, I, zup L a i.toNatClampNeg x, R, n, s0)) rfl rfl (fun X hm hS _ kk => ?_) k
  have hr := zmem_in' hm hK (by omega)
  have hat := hm.2.2.2 (a - 4) _ (zws_at g (K, I, L, R, n, s0) hr.1 hr.2)
  simp only [zcell_2 hK] at hat
  refine W.last X.1 X.2.1 hat ((X.2.2.2.2.2.2.2.2.2.2.1.1.2 1 _ rfl).1 len (fun j => .long (L a j))) (fun q => by cases q) (by show ¬ (i < 0 ∨ (arrV _ _ _).slots.size ≤ _); rw [arrV_size]; exact hin) rfl rfl hd fun H1 e z oq => ?_
  refine kk H1 _ (zmem_set hm hr ?_ (fun q hq => ⟨rfl, zup_ne hq, rfl⟩) z oq) (hS.put z oq (zA_phi hr.1))
  rw [zcell_2 hK]
  show H1[_]? = some (vp_cell _ _)
  rw [e, vp_cell_l, vp_cell_l, arrV_store]
  congr 2
  funext q
  simp only [updV, zup_eq]
  split <;> rfl
theorem z_aastN {a len : Nat} {i : Int32} (hd : decode M.2.1 pc = .ok (.aastore, 1)) (hK : K a = (4, len)) (hin : vp_in i len) (k : Z g l M (pc + 1) ls st (K, I, L, zup R a i.toNatClampNeg none, n, s0) Q) : Z g l M pc ls (.null :: .int i :: .ref a :: st) (K, I, L, R, n, s0) Q := by
  refine Z.stepH (h := (K, I, L, R, n, s0)) (h1 := (K, I, L, zup R a i.toNatClampNeg none, n, s0)) rfl rfl (fun X hm hS _ kk => ?_) k
  have hr := zmem_in' hm hK (by omega)
  have hat := hm.2.2.2 (a - 4) _ (zws_at g (K, I, L, R, n, s0) hr.1 hr.2)
  simp only [zcell_4 hK] at hat
  refine va_WaastN (C := RX3) X.1 X.2.1 hat ((X.2.2.2.2.2.2.2.2.2.2.1.1.2 3 _ rfl).1 len (fun j => va_rf ((R a j).map (zphi g)))) (fun q => by cases q) (by show ¬ (i < 0 ∨ (arrV _ _ _).slots.size ≤ _); rw [arrV_size]; exact hin) rfl rfl hd fun H1 e z oq => ?_
  refine kk H1 _ (zmem_set hm hr ?_ (fun q hq => ⟨rfl, rfl, zup_ne hq⟩) z oq) (hS.put z oq (zA_phi hr.1))
  rw [zcell_4 hK]
  show H1[_]? = some (vp_cell _ _)
  rw [e, vp_cell_q, vp_cell_q, arrV_store]
  congr 2
  funext q
  simp only [updV, zup_eq]
  split <;> rfl
theorem z_aast {a len r kd ci : Nat} {i : Int32} (hd : decode M.2.1 pc = .ok (.aastore, 1)) (hK : K a = (kd, len)) (hkc : (kd = 4 ∧ ci = 3) ∨ (kd = 5 ∧ ci = 5)) (hin : vp_in i len) (hv : (K r).1 = 10 + ci) (k : Z g l M (pc + 1) ls st (K, I, L, zup R a i.toNatClampNeg (some r), n, s0) Q) : Z g l M pc ls (.ref r :: .int i :: .ref a :: st) (K, I, L, R, n, s0) Q := by
  refine Z.stepH (h := (K, I, L, R, n, s0)) (h1 := (K, I, L, zup R a i.toNatClampNeg (some r), n, s0)) rfl rfl (fun {p e Rm s m args below meth c H locs cells slots lsA Qm} X hm hS _ kk => ?_) k
  have hr := zmem_in' hm hK (by omega)
  have hat := hm.2.2.2 (a - 4) _ (zws_at g (K, I, L, R, n, s0) hr.1 hr.2)
  have hr2 := zmem_in hm hv (by omega)
  have hat2 := hm.2.2.2 (r - 4) _ (zws_at g (K, I, L, R, n, s0) hr2.1 hr2.2)
  simp only [zcell_obj hv] at hat2
  have hlt : i.toNatClampNeg < len := Nat.not_le.mp fun q => hin (Or.inr q)
  have h0 : ¬ i < 0 := fun q => hin (Or.inl q)
  have hKt := X.2.2.2.2.2.2.2.2.2.2.1.1
  obtain ⟨r', hr', cellV, g1, g2, g3, -⟩ := hat2
  have main : ∀ (cA : ClassId), cA = g.2.1 kd → zcell g K I L R a = .inl (cA, len, .inr (.inr (.inr (.inr (fun j => (R a j).map (zphi g)))))) → zcell g K I L (zup R a i.toNatClampNeg (some r)) a = .inl (cA, len, .inr (.inr (.inr (.inr (fun j => (zup R a i.toNatClampNeg (some r) a j).map (zphi g)))))) → va_RA s cA (.object (zRR ci)) → ci < 10 → W p l e Rm s m args below meth c H locs cells slots Qm (F0 m pc lsA ((Value.ref r :: Value.int i :: Value.ref a :: st).map (zv g))) := by
    intro cA _ ec ec' hra hc10
    have hcls := (hKt.1 ci _ (zcl ci hc10)).2
    obtain ⟨kA, comp, k1, k2, k3, -⟩ := hra
    have hcomp : comp = g.1.1 ci := Option.some.inj (k3.symm.trans hcls.1)
    subst hcomp
    obtain ⟨kC, hkC, -⟩ := hcls.2
    simp only [ec] at hat
    refine W.aast X.1 X.2.1 hat (fun q h => by cases h) (fun h => by cases h) k1 k2 rfl hkC ⟨h0, by show _ < (arrV _ _ _).slots.size; rw [arrV_size]; exact hlt⟩ g1 (fun q h => by rw [g3] at h; cases h) (by rw [g2]; exact hkC) (by rw [g2]; exact va_assign hcls) rfl rfl hd fun H1 e z oq => ?_
    refine kk H1 _ (zmem_set hm hr ?_ (fun q hq => ⟨rfl, rfl, zup_ne hq⟩) z oq) (hS.put z oq (zA_phi hr.1))
    rw [ec']
    show H1[_]? = some (vp_cell _ _)
    rw [e, vp_cell_q, vp_cell_q, arrV_store]
    congr 2
    funext q
    simp only [updV, zup_eq]
    split <;> rfl
  rcases hkc with ⟨rfl, rfl⟩ | ⟨rfl, rfl⟩
  · exact main _ rfl (zcell_4 hK) (zcell_4 hK) (hKt.2 3 _ rfl).2 (by omega)
  · exact main _ rfl (zcell_5 hK) (zcell_5 hK) (hKt.2 4 _ rfl).2 (by omega)
end ZArr
end
section
section ZNew
variable {g : ZG} {l : Launch} {M : ZM} {pc : Nat} {ls : List (Option Value)} {st : List Value} {Q : Option Value → ZH → Prop} {K : ZK} {I : ZI} {L : ZL} {R : ZR} {n s0 : Nat}
theorem zkp_ne {r q : Nat} {x : Nat × Nat} (h : q ≠ r) : zkp K r x q = K q := by simp [zkp, h]
theorem zkp_eq {r : Nat} {x : Nat × Nat} : zkp K r x r = x := by simp [zkp]
theorem zmem_push {H H1 : Heap} {K' : ZK} {I' : ZI} {L' : ZL} {R' : ZR} {s1 kd len : Nat} (hm : zmem g H (K, I, L, R, n, s0)) (hKe : K' = zkp K n (kd, len)) (he : va_at g.1 vwCl (zphi g n, zcell g K' I' L' R' n) H1) (ho : ∀ q, q ≠ n → I' q = I q ∧ L' q = L q ∧ R' q = R q) (z : H1.size = H.size + 1) (oq : ∀ q : Nat, q < H.size → H1[q]? = H[q]?) : zmem g H1 (K', I', L', R', n + 1, s1) := by
  subst hKe
  have h4 : 4 ≤ n := hm.1
  have hz : H.size = g.2.2.2.1 + (n - 4) := hm.2.2.1
  refine ⟨by show 4 ≤ n + 1; omega, fun a ha => ?_, by show H1.size = _ + (n + 1 - 4); rw [z, hz]; omega, ?_⟩
  · show 4 ≤ a ∧ a < n + 1
    by_cases hq : a = n
    · subst hq; omega
    · have h1 := hm.2.1 a (by have ha' : (zkp K n (kd, len) a).1 ≠ 0 := ha; rw [zkp_ne hq] at ha'; exact ha')
      have : a < n := h1.2
      exact ⟨h1.1, by omega⟩
  · rw [← zws_push (g := g) (K := K) (I := I) (L := L) (R := R) (s := s0) h4 rfl (fun q hq => zcell_congrK (zkp_ne hq) (ho q hq).1 (ho q hq).2.1 (ho q hq).2.2)]
    refine va_P.app (va_P.kept hm.2.2.2 (fun k q hk => oq q.1 ((hm.2.2.2 k q hk).lt))) (fun k x hx => ?_)
    have hz1 : k < 1 := (List.getElem?_eq_some_iff.mp hx).1
    rw [show k = 0 by omega] at hx
    cases hx
    rw [← zphi_new g h4]
    exact he
theorem va_S_grow {A : Nat → Prop} {H0 H H1 : Heap} {locs : List Loc} (hS : va_S A H0 H locs) (z : H.size ≤ H1.size) (oq : ∀ q : Nat, q < H.size → H1[q]? = H[q]?) : va_S A H0 H1 locs :=
  ⟨Nat.le_trans hS.1 z, fun x h1 h2 => (oq x (Nat.lt_of_lt_of_le h1 hS.1)).trans (hS.2.1 x h1 h2), hS.2.2⟩
theorem z_newi {N : Nat} {x : Int32} (hd : decode M.2.1 pc = .ok (.newarray .int, 2)) (hw : Cond.arrayClass .int ∈ gw) (h0 : ¬ x < 0) (hN : x.toNatClampNeg = N) (hb : N ≤ 100000000) (k : Z g l M (pc + 2) ls (.ref n :: st) (zkp K n (1, N), zupA I n (fun _ => 0), L, R, n + 1, s0 + N) Q) : Z g l M pc ls (.int x :: st) (K, I, L, R, n, s0) Q := by
  refine Z.stepN (N := N) (h := (K, I, L, R, n, s0)) (h1 := (zkp K n (1, N), zupA I n (fun _ => 0), L, R, n + 1, s0 + N)) rfl rfl (fun X hm hS _ hc hs kk => ?_) k
  have hz : _ = g.2.2.2.1 + (n - 4) := hm.2.2.1
  refine va_newaK X.1 X.2.1 (atype := .int) (X.2.2.2.2.2.1 _ hw) rfl hd rfl h0 hN (by show N * 4 ≤ _; omega) hc hs (hz.trans (zphi_new g hm.1).symm) fun H1 cA e1 z1 o1 hAr hNm => ?_
  have hcA : cA = g.2.1 1 := Option.some.inj (hNm.symm.trans (X.2.2.2.2.2.2.2.2.2.2.1.1.2 0 _ rfl).2)
  subst hcA
  rw [← hz.trans (zphi_new g hm.1).symm] at z1 o1
  refine kk H1 (zmem_push hm rfl ?_ (fun q hq => ⟨zupA_ne hq, rfl, rfl⟩) z1 o1) (va_S_grow hS (by omega) o1)
  rw [zcell_1 zkp_eq, zupA_eq]
  exact e1
theorem z_newb {N : Nat} {x : Int32} (hd : decode M.2.1 pc = .ok (.newarray .byte, 2)) (hw : Cond.arrayClass .byte ∈ gw) (h0 : ¬ x < 0) (hN : x.toNatClampNeg = N) (hb : N ≤ 100000000) (k : Z g l M (pc + 2) ls (.ref n :: st) (zkp K n (3, N), zupA I n (fun _ => 0), L, R, n + 1, s0 + N) Q) : Z g l M pc ls (.int x :: st) (K, I, L, R, n, s0) Q := by
  refine Z.stepN (N := N) (h := (K, I, L, R, n, s0)) (h1 := (zkp K n (3, N), zupA I n (fun _ => 0), L, R, n + 1, s0 + N)) rfl rfl (fun X hm hS _ hc hs kk => ?_) k
  have hz : _ = g.2.2.2.1 + (n - 4) := hm.2.2.1
  refine va_newaK X.1 X.2.1 (atype := .byte) (X.2.2.2.2.2.1 _ hw) rfl hd rfl h0 hN (by show N * 1 ≤ _; omega) hc hs (hz.trans (zphi_new g hm.1).symm) fun H1 cA e1 z1 o1 hAr hNm => ?_
  have hcA : cA = g.2.1 3 := Option.some.inj (hNm.symm.trans (X.2.2.2.2.2.2.2.2.2.2.1.1.2 2 _ rfl).2)
  subst hcA
  rw [← hz.trans (zphi_new g hm.1).symm] at z1 o1
  refine kk H1 (zmem_push hm rfl ?_ (fun q hq => ⟨zupA_ne hq, rfl, rfl⟩) z1 o1) (va_S_grow hS (by omega) o1)
  rw [zcell_3 zkp_eq, zupA_eq]
  exact e1
theorem z_newl {N : Nat} {x : Int32} (hd : decode M.2.1 pc = .ok (.newarray .long, 2)) (hw : Cond.arrayClass .long ∈ gw) (h0 : ¬ x < 0) (hN : x.toNatClampNeg = N) (hb : N ≤ 60000000) (k : Z g l M (pc + 2) ls (.ref n :: st) (zkp K n (2, N), I, zupA L n (fun _ => 0), R, n + 1, s0 + N) Q) : Z g l M pc ls (.int x :: st) (K, I, L, R, n, s0) Q := by
  refine Z.stepN (N := N) (h := (K, I, L, R, n, s0)) (h1 := (zkp K n (2, N), I, zupA L n (fun _ => 0), R, n + 1, s0 + N)) rfl rfl (fun X hm hS _ hc hs kk => ?_) k
  have hz : _ = g.2.2.2.1 + (n - 4) := hm.2.2.1
  refine va_newaK X.1 X.2.1 (atype := .long) (X.2.2.2.2.2.1 _ hw) rfl hd rfl h0 hN (by show N * 8 ≤ _; omega) hc hs (hz.trans (zphi_new g hm.1).symm) fun H1 cA e1 z1 o1 hAr hNm => ?_
  have hcA : cA = g.2.1 2 := Option.some.inj (hNm.symm.trans (X.2.2.2.2.2.2.2.2.2.2.1.1.2 1 _ rfl).2)
  subst hcA
  rw [← hz.trans (zphi_new g hm.1).symm] at z1 o1
  refine kk H1 (zmem_push hm rfl ?_ (fun q hq => ⟨rfl, zupA_ne hq, rfl⟩) z1 o1) (va_S_grow hS (by omega) o1)
  rw [zcell_2 zkp_eq, zupA_eq]
  exact e1
theorem z_newq {N index kd ci : Nat} {x : Int32} (hd : decode M.2.1 pc = .ok (.anewarray index, 3)) (hkc : (kd = 4 ∧ ci = 3) ∨ (kd = 5 ∧ ci = 5)) (hw : Cond.classLink M.1.cls index (zRR ci) ∈ gw) (h0 : ¬ x < 0) (hN : x.toNatClampNeg = N) (hb : N ≤ 100000000) (k : Z g l M (pc + 3) ls (.ref n :: st) (zkp K n (kd, N), I, L, zupA R n (fun _ => none), n + 1, s0 + N) Q) : Z g l M pc ls (.int x :: st) (K, I, L, R, n, s0) Q := by
  refine Z.stepN (N := N) (h := (K, I, L, R, n, s0)) (h1 := (zkp K n (kd, N), I, L, zupA R n (fun _ => none), n + 1, s0 + N)) rfl rfl (fun {p e Rm s m args below meth c H locs cells slots lsA Qm} X hm hS _ hc hs kk => ?_) k
  have hz : H.size = g.2.2.2.1 + (n - 4) := hm.2.2.1
  subst hN
  have hKt := X.2.2.2.2.2.2.2.2.2.2.1
  have hAO : va_AO (zRR ci) s := by
    rcases hkc with ⟨-, rfl⟩ | ⟨-, rfl⟩
    · exact hKt.2.2.2.1
    · exact hKt.2.2.2.2
  refine W.anew X.1 X.2.1 X.2.2.2.2.1 (X.2.2.2.2.2.1 _ hw) (va_AO.use hAO) rfl hd rfl h0 (by omega) hc hs fun cA kA comp f1 f2 f3 f4 => ?_
  generalize hH1 : H.push ({ cls := cA, slots := Array.replicate x.toNatClampNeg .null, vm := .none } : Cell) = H1
  have z1 : H1.size = H.size + 1 := by rw [← hH1, Array.size_push]
  have e1 : H1[H.size]? = some (arrV cA x.toNatClampNeg (fun _ => .null)) := by rw [← hH1, Array.getElem?_push_size, ← arrV_new]
  have o1 : ∀ q : Nat, q < H.size → H1[q]? = H[q]? := fun q hq => by rw [← hH1, Array.getElem?_push, if_neg (Nat.ne_of_lt hq)]
  have hcA : cA = g.2.1 kd := by
    rcases hkc with ⟨rfl, rfl⟩ | ⟨rfl, rfl⟩
    · obtain ⟨_, _, -, -, -, r4⟩ := (hKt.1.2 3 _ rfl).2
      exact Option.some.inj (f1.symm.trans r4)
    · obtain ⟨_, _, -, -, -, r4⟩ := (hKt.1.2 4 _ rfl).2
      exact Option.some.inj (f1.symm.trans r4)
  subst hcA
  have hp := hz.trans (zphi_new g hm.1).symm
  have k2 := kk H1 (zmem_push hm rfl ?_ (fun q hq => ⟨rfl, rfl, zupA_ne hq⟩) z1 o1) (va_S_grow hS (by omega) o1)
  · rw [hp]
    exact k2
  · rw [hp] at e1
    rcases hkc with ⟨rfl, rfl⟩ | ⟨rfl, rfl⟩
    · rw [zcell_4 zkp_eq, zupA_eq]
      exact e1
    · rw [zcell_5 zkp_eq, zupA_eq]
      exact e1
def znf : FieldType → Bool
  | .float => false
  | .double => false
  | _ => true
theorem znf0 : ((List.range 10).all (fun ci => (List.range (zN ci)).all (fun j => znf (zty ci j)))) = true := by decide +kernel
theorem znf1 {ci j : Nat} (hc : ci < 10) (hj : j < zN ci) : znf (zty ci j) = true := List.all_eq_true.mp (List.all_eq_true.mp znf0 ci (List.mem_range.mpr hc)) j (List.mem_range.mpr hj)
theorem z_new {index ci : Nat} (hd : decode M.2.1 pc = .ok (.new index, 3)) (hc : ci < 10) (hw : Cond.classLink M.1.cls index (zRR ci) ∈ gw) (hi : Cond.instantiable (zRR ci) (zN ci) ∈ gw) (hini : Cond.initialized (zRR ci) ∈ gw) (k : Z g l M (pc + 3) ls (.ref n :: st) (zkp K n (10 + ci, 0), zupA I n (fun _ => 0), zupA L n (fun _ => 0), zupA R n (fun _ => none), n + 1, s0 + zN ci) Q) : Z g l M pc ls st (K, I, L, R, n, s0) Q := by
  refine Z.stepN (N := zN ci) (h := (K, I, L, R, n, s0)) (h1 := (zkp K n (10 + ci, 0), zupA I n (fun _ => 0), zupA L n (fun _ => 0), zupA R n (fun _ => none), n + 1, s0 + zN ci)) rfl rfl (fun X hm hS _ hcc hss kk => ?_) k
  have hz : _ = g.2.2.2.1 + (n - 4) := hm.2.2.1
  have hp := hz.trans (zphi_new g hm.1).symm
  have hts := X.2.2.2.2.2.1
  have hKn := X.2.2.2.2.2.2.2.2.2.2.1.1.1 ci _ (zcl ci hc)
  refine W.newcK X.1 X.2.1 X.2.2.2.2.1 (hts _ hw) (hts _ hi) (hts _ hini) rfl hd hcc hss hKn.2.1 hp fun H1 kC hkC e1 z1 o1 => ?_
  rw [← hp] at z1 o1
  refine kk H1 (zmem_push hm rfl ?_ (fun q hq => ⟨zupA_ne hq, zupA_ne hq, zupA_ne hq⟩) z1 o1) (va_S_grow hS (by omega) o1)
  rw [zcell_obj (ci := ci) (by rw [zkp_eq])]
  refine ⟨_, zcl ci hc, (u_born (zty ci) hts (zuw hc) hKn hkC e1 (ztyok ci hc)).to (fun j hj => ?_)⟩
  rw [zV_at hj]
  simp only [zfv, zupA_eq]
  have hnf := znf1 hc hj
  revert hnf
  cases zty ci j <;> intro hnf <;> first | rfl | cases hnf
/-- a copy of ints from one array into another -/
theorem z_copyi {a b la lb index : Nat} {sp dp m : Int32} (hd : decode M.2.1 pc = .ok (.invokestatic index, 3)) (hl : Cond.methodLink M.1.cls index arraycopyName ∈ gw) (hnat : Cond.native arraycopyName ∈ gw) (hsta : Cond.static arraycopyName ∈ gw) (hini : Cond.initialized "java/lang/System" ∈ gw) (hKa : K a = (1, la)) (hKb : K b = (1, lb))
    (h1 : ¬ sp < 0) (h2 : ¬ dp < 0) (h3 : ¬ m < 0) (h4 : sp.toNatClampNeg + m.toNatClampNeg ≤ la) (h5 : dp.toNatClampNeg + m.toNatClampNeg ≤ lb) (hfr : 1 ≤ M.2.2.2.2.1) (hlo : (st.map fun v => v.category).sum + (nativeFrameWords "java/lang/System" "arraycopy" 5 + 11) ≤ M.2.2.2.2.2)
    (k : Z g l M (pc + 3) ls st (K, zupA I b (va_cpy (I a) (I b) sp.toNatClampNeg dp.toNatClampNeg m.toNatClampNeg), L, R, n, s0) Q) : Z g l M pc ls (.int m :: .int dp :: .ref b :: .int sp :: .ref a :: st) (K, I, L, R, n, s0) Q := by
  refine Z.stepH (h := (K, I, L, R, n, s0)) (h1 := (K, zupA I b (va_cpy (I a) (I b) sp.toNatClampNeg dp.toNatClampNeg m.toNatClampNeg), L, R, n, s0)) rfl rfl (fun {p e Rm s mm args below meth c H locs cells slots lsA Qm} X hm hS hls kk => ?_) k
  have nn : ∀ z : Int32, ¬ z < 0 → z.toInt = (z.toNatClampNeg : Int) := by
    intro z hz
    have hz0 : (0 : Int) ≤ z.toInt := by
      have := Int32.not_lt.mp hz
      simpa using Int32.le_iff_toInt_le.mp this
    show z.toInt = ((z.toInt.toNat : Nat) : Int)
    omega
  have hra := zmem_in' hm hKa (by omega)
  have hrb := zmem_in' hm hKb (by omega)
  have hc0 := hm.2.2.2 (a - 4) _ (zws_at g (K, I, L, R, n, s0) hra.1 hra.2)
  have hc1 := hm.2.2.2 (b - 4) _ (zws_at g (K, I, L, R, n, s0) hrb.1 hrb.2)
  simp only [zcell_1 hKa] at hc0
  simp only [zcell_1 hKb] at hc1
  have hc0 : H[zphi g a]? = some (vp_cell (g.2.1 1) (la, .inl (I a))) := hc0
  have hc1 : H[zphi g b]? = some (vp_cell (g.2.1 1) (lb, .inl (I b))) := hc1
  have hKt := X.2.2.2.2.2.2.2.2.2.2.1.1
  have hts := X.2.2.2.2.2.1
  obtain ⟨-, k0, hk0, cm0, hkk0⟩ := (hKt.2 0 _ rfl).1 la (fun j => .int (I a j))
  have esum : ((st.map (zv g)).map fun v => v.category).sum = (st.map fun v => v.category).sum := by
    rw [List.map_map]; congr 1; exact List.map_congr_left (fun v _ => zv_cat g v)
  intro T hT XX
  obtain ⟨vm', X', step⟩ := XX.arraycopy X.1 X.2.2.2.2.1 (hts _ hl) (hts _ hnat) (hts _ hsta) (hts _ hini) (src := zphi g a) (dst := zphi g b) (cs := vp_cell (g.2.1 1) (la, .inl (I a))) (cd := vp_cell (g.2.1 1) (lb, .inl (I b))) (srcPos := sp) (destPos := dp) (n := m) (by rw [hT]; exact hc0) (by rw [hT]; exact hc1)
    (fun _ h => by cases h) (fun _ h => by cases h) (fun h => by cases h) (fun h => by cases h) hk0 hk0 hkk0 hkk0 (by simp [refKind]) h1 h2 h3
    (by rw [nn sp h1, nn m h3]; show ¬ _ > ((arrV _ la (fun j => .int (I a j))).slots.size : Int); rw [arrV_size]; omega)
    (by rw [nn dp h2, nn m h3]; show ¬ _ > ((arrV _ lb (fun j => .int (I b j))).slots.size : Int); rw [arrV_size]; omega)
    (fun vm₁ _ i hi => by
      have e : (vp_cell (g.2.1 1) (la, .inl (I a))).slots.getD (sp.toNatClampNeg + i) .null = .int (I a (sp.toNatClampNeg + i)) := by
        show (arrV _ la (fun j => .int (I a j))).slots.getD _ _ = _
        rw [Array.getD_eq_getD_getElem?, arrV_read _ _ (by omega)]
        rfl
      refine ⟨?_, ?_⟩
      · rw [e]; rfl
      · rw [e]
        exact trivial)
    (g := F0 mm pc lsA (.int m :: .int dp :: .ref (zphi g b) :: .int sp :: .ref (zphi g a) :: st.map (zv g))) rfl (by rw [X.2.2.2.1]; exact hls.1) (rest := st.map (zv g)) rfl (by rw [X.2.1]; exact hd) (Nat.le_trans hfr X.2.2.2.2.2.2.2.2.1) (by show 2 * 0 + _ + _ ≤ _; rw [esum]; have := X.2.2.2.2.2.2.2.2.2.1; omega)
  have e1 : copied (vp_cell (g.2.1 1) (la, .inl (I a))) (vp_cell (g.2.1 1) (lb, .inl (I b))) sp dp m = vp_cell (g.2.1 1) (lb, .inl (va_cpy (I a) (I b) sp.toNatClampNeg dp.toNatClampNeg m.toNatClampNeg)) := va_copied (fun z => .int z) _ _ (I a) (I b) h4
  rw [e1] at X' step
  have hlt : zphi g b < H.size := (Array.getElem?_eq_some_iff.mp hc1).1
  have hheap : ((T.setVm vm').setCell (zphi g b) (vp_cell (g.2.1 1) (lb, .inl (va_cpy (I a) (I b) sp.toNatClampNeg dp.toNatClampNeg m.toNatClampNeg)))).heap = H.setIfInBounds (zphi g b) (vp_cell (g.2.1 1) (lb, .inl (va_cpy (I a) (I b) sp.toNatClampNeg dp.toNatClampNeg m.toNatClampNeg))) := by rw [← hT]; rfl
  have oq : ∀ q : Nat, q ≠ zphi g b → (H.setIfInBounds (zphi g b) (vp_cell (g.2.1 1) (lb, .inl (va_cpy (I a) (I b) sp.toNatClampNeg dp.toNatClampNeg m.toNatClampNeg))))[q]? = H[q]? := fun q hq => by simp [Array.getElem?_setIfInBounds, Ne.symm hq]
  have zz : (H.setIfInBounds (zphi g b) (vp_cell (g.2.1 1) (lb, .inl (va_cpy (I a) (I b) sp.toNatClampNeg dp.toNatClampNeg m.toNatClampNeg)))).size = H.size := by simp
  obtain ⟨t, a1, b1⟩ := kk _ _ (zmem_set hm hrb (by rw [zcell_1 hKb, zupA_eq]; show (H.setIfInBounds (zphi g b) _)[zphi g b]? = some _; simp [Array.getElem?_setIfInBounds, hlt]) (fun q hq => ⟨zupA_ne hq, rfl, rfl⟩) zz oq) ⟨by rw [zz]; exact hS.1, fun q g1 g2 => by
      rw [oq q (fun e => g2 (by rw [e]; exact zA_phi hrb.1))]
      exact hS.2.1 q g1 g2, fun q hq => by
      rcases List.mem_append.mp hq with h | h
      · exact hS.2.2 q h
      · obtain ⟨z, -, hz⟩ := List.mem_map.mp h
        rw [← hz]
        exact zA_phi hrb.1⟩ _ hheap X'
  exact ⟨t, step t a1, b1⟩
theorem z_castA {a len index : Nat} (hd : decode M.2.1 pc = .ok (.checkcast index, 3)) (hw : Cond.classLink M.1.cls index "[I" ∈ gw) (hK : K a = (1, len)) (k : Z g l M (pc + 3) ls (.ref a :: st) (K, I, L, R, n, s0) Q) : Z g l M pc ls (.ref a :: st) (K, I, L, R, n, s0) Q := by
  refine Z.step (fun X hm _ _ k => ?_) k
  have hr := zmem_in' hm hK (by omega)
  have hat := zws_at g (K, I, L, R, n, s0) hr.1 hr.2
  simp only [zcell_1 hK] at hat
  exact va_castA X.1 X.2.1 X.2.2.2.2.1 (X.2.2.2.2.2.1 _ hw) hm.2.2.2 (a - 4) hat (X.2.2.2.2.2.2.2.2.2.2.1.1.2 0 _ rfl).2 hd k
theorem z_clone {a len index : Nat} (hd : decode M.2.1 pc = .ok (.invokevirtual index, 3)) (hl : Cond.methodLink M.1.cls index ⟨"[I", "clone", "()Ljava/lang/Object;"⟩ ∈ gw) (hsm : Cond.sameMethod "[I" "java/lang/Object" "clone" "()Ljava/lang/Object;" ∈ gw) (hnat : Cond.native ⟨"java/lang/Object", "clone", "()Ljava/lang/Object;"⟩ ∈ gw) (hinst : Cond.instanceMethod ⟨"java/lang/Object", "clone", "()Ljava/lang/Object;"⟩ ∈ gw)
    (hsel : Cond.selects "[I" ⟨"[I", "clone", "()Ljava/lang/Object;"⟩ ⟨"java/lang/Object", "clone", "()Ljava/lang/Object;"⟩ ∈ gw) (hK : K a = (1, len)) (hfr : 1 ≤ M.2.2.2.2.1) (hlo : (st.map fun v => v.category).sum + 14 ≤ M.2.2.2.2.2)
    (k : Z g l M (pc + 3) ls (.ref n :: st) (zkp K n (1, len), zupA I n (I a), L, R, n + 1, s0 + len) Q) : Z g l M pc ls (.ref a :: st) (K, I, L, R, n, s0) Q := by
  refine Z.stepN (N := len) (h := (K, I, L, R, n, s0)) (h1 := (zkp K n (1, len), zupA I n (I a), L, R, n + 1, s0 + len)) rfl rfl (fun {p e Rm s m args below meth c H locs cells slots lsA Qm} X hm hS hls hcc hss kk => ?_) k
  have hz : H.size = g.2.2.2.1 + (n - 4) := hm.2.2.1
  have hp := hz.trans (zphi_new g hm.1).symm
  have hr := zmem_in' hm hK (by omega)
  have hc0 := hm.2.2.2 (a - 4) _ (zws_at g (K, I, L, R, n, s0) hr.1 hr.2)
  simp only [zcell_1 hK] at hc0
  have hc0 : H[zphi g a]? = some (arrV (g.2.1 1) len (fun j => .int (I a j))) := hc0
  have hKt := X.2.2.2.2.2.2.2.2.2.2.1
  have hts := X.2.2.2.2.2.1
  have hnm : s.vm.findClass "[I" = some (g.2.1 1) := (hKt.1.2 0 _ rfl).2
  obtain ⟨c0, t0', f1, f2, f3⟩ := Cond.castable_spec (va_Nw.use (A := args) rfl hKt.2.2.1)
  cases hnm.symm.trans f1
  have esum : ((st.map (zv g)).map fun v => v.category).sum = (st.map fun v => v.category).sum := by
    rw [List.map_map]; congr 1; exact List.map_congr_left (fun v _ => zv_cat g v)
  intro T hT XX
  have hcellT : T.heap[zphi g a]? = some (arrV (g.2.1 1) len (fun j => .int (I a j))) := by rw [hT]; exact hc0
  obtain ⟨-, kA, hkA, comp, hkind⟩ := State.isArrayOf_alike XX.warmed.alike ((hKt.1.2 0 _ rfl).1 0 (fun _ => .null))
  obtain ⟨-, kS, hkS, compS, hkindS⟩ := (hKt.1.2 0 _ rfl).1 0 (fun _ => .null)
  obtain ⟨vm', X', step⟩ := XX.cloneArray X.1 X.2.2.2.2.1 (hts _ hl) (hts _ hsm) (hts _ hnat) (hts _ hinst) (hts _ hsel) (a := zphi g a) (cell := arrV (g.2.1 1) len (fun j => .int (I a j))) hcellT (fun k h => by cases h) (fun h => by cases h) hnm f2 f3
    (fun i v hv => by
      have hk' : T.vm.classes[g.2.1 1]? = some kA := hkA
      have hf : fits .int v = true := va_fit (cA := g.2.1 1) (n := len) (F := fun j => .int (I a j)) (ty := .int) (fun _ _ => rfl) i v hv
      show T.fitsSlot (g.2.1 1) .none i v = true
      simpa [State.fitsSlot, State.slotType?, hk', hkind] using hf)
    (g := F0 m pc lsA (.ref (zphi g a) :: st.map (zv g))) rfl (by rw [X.2.2.2.1]; exact hls.1) rfl (by rw [X.2.1]; exact hd) (Nat.le_trans hfr X.2.2.2.2.2.2.2.2.1) (by show 2 * 0 + _ + 14 ≤ _; rw [esum]; have := X.2.2.2.2.2.2.2.2.2.1; omega) hcc (by rw [arrV_size]; exact hss) (hloader := Vm.clonesLoader_of_array hkS hkindS)
  rw [arrV_size] at X'
  generalize hH1 : H.push (arrV (g.2.1 1) len (fun j => .int (I a j))) = H1
  have z1 : H1.size = H.size + 1 := by rw [← hH1, Array.size_push]
  have e1 : H1[H.size]? = some (arrV (g.2.1 1) len (fun j => .int (I a j))) := by rw [← hH1, Array.getElem?_push_size]
  have o1 : ∀ q : Nat, q < H.size → H1[q]? = H[q]? := fun q hq => by rw [← hH1, Array.getElem?_push, if_neg (Nat.ne_of_lt hq)]
  obtain ⟨t, b1, b2⟩ := kk H1 (zmem_push hm rfl (by rw [zcell_1 zkp_eq, zupA_eq, ← hp]; exact e1) (fun q hq => ⟨zupA_ne hq, rfl, rfl⟩) z1 o1) (va_S_grow hS (by omega) o1) ((T.setVm vm').pushCell (arrV (g.2.1 1) len (fun j => .int (I a j)))) (by rw [← hH1, ← hT]; rfl) X'
  refine ⟨t, step t ?_, b2⟩
  rw [hT, hp]
  exact b1
end ZNew
end
section
section ZCalls
variable {g : ZG} {l : Launch} {M N : ZM} {pc : Nat} {ls : List (Option Value)} {st : List Value} {Q : Option Value → ZH → Prop} {h : ZH}
-- answers
theorem z_ret0 {v : Option Value} (hq : Q v h) (hw : ∀ {p : Program} {e : Env} {R : Room} {s : State} {m : MethodId} {args : Array Value} {below : List Frame} {meth : Method} {c : Code} {H : Heap} {locs : List Loc} {cells slots : Nat} {lsA : Array Slot}, ZX g M p R s m args meth c → (∀ t : State, t.heap = H → s.WarmedH t.vm → zQ g v h args s (.returned (v.map (zv g))) t) → (∀ q ∈ locs, zA g q.base) → W p l e R s m args below meth c H locs cells slots (MQ below (zQ g v h) args s cells slots (zA g)) (F0 m pc lsA (st.map (zv g)))) : Z g l M pc ls st h Q := by
  refine ⟨v, h, 0, 0, hq, rfl, rfl, fun p e R s m args below meth c X H locs cells slots lsA hm hS hl h1 h2 => ?_⟩
  exact hw X (fun t ht _ => ⟨rfl, by rw [ht]; exact hm, hS.F ht⟩) hS.2.2
theorem z_ireturn {x : Int32} (hd : decode M.2.1 pc = .ok (.ireturn, 1)) (hr : M.2.2.2.1 = some .int) (hq : Q (some (.int x)) h) : Z g l M pc ls [.int x] h Q :=
  z_ret0 (v := some (.int x)) hq (fun X a b => W.iret (v := x) X.1 X.2.1 (X.2.2.1.trans hr) a b hd X.2.2.2.2.2.2.1)
theorem z_zreturn {x : Int32} (hd : decode M.2.1 pc = .ok (.ireturn, 1)) (hr : M.2.2.2.1 = some .boolean) (hx : x &&& 1 = x) (hq : Q (some (.int x)) h) : Z g l M pc ls [.int x] h Q :=
  z_ret0 (v := some (.int x)) hq (fun X a b => W.zret (v := x) X.1 X.2.1 (X.2.2.1.trans hr) (show Value.int (x &&& 1) = _ by rw [hx]) a b hd X.2.2.2.2.2.2.1)
theorem z_lreturn {x : Int64} (hd : decode M.2.1 pc = .ok (.lreturn, 1)) (hr : M.2.2.2.1 = some .long) (hq : Q (some (.long x)) h) : Z g l M pc ls [.long x] h Q :=
  z_ret0 (v := some (.long x)) hq (fun X a b => W.lret (v := x) X.1 X.2.1 (X.2.2.1.trans hr) a b hd X.2.2.2.2.2.2.1)
theorem z_return (hd : decode M.2.1 pc = .ok (.return_, 1)) (hr : M.2.2.2.1 = none) (hq : Q none h) : Z g l M pc ls [] h Q :=
  z_ret0 (v := none) hq (fun X a b => W.vret X.1 X.2.1 (X.2.2.1.trans hr) a b hd X.2.2.2.2.2.2.1)
theorem z_areturn {x : Nat} {rt : FieldType} (hd : decode M.2.1 pc = .ok (.areturn, 1)) (hr : M.2.2.2.1 = some rt) (hrt : (∃ n, rt = .object n) ∨ ∃ t, rt = .array t) (hq : Q (some (.ref x)) h) : Z g l M pc ls [.ref x] h Q :=
  z_ret0 (v := some (.ref x)) hq (fun X a b => W.aret X.1 X.2.1 (X.2.2.1.trans hr) hrt (Or.inr ⟨_, rfl⟩) a b hd X.2.2.2.2.2.2.1)
theorem z_areturnN {rt : FieldType} (hd : decode M.2.1 pc = .ok (.areturn, 1)) (hr : M.2.2.2.1 = some rt) (hrt : (∃ n, rt = .object n) ∨ ∃ t, rt = .array t) (hq : Q (some .null) h) : Z g l M pc ls [.null] h Q :=
  z_ret0 (v := some .null) hq (fun X a b => W.aret X.1 X.2.1 (X.2.2.1.trans hr) hrt (Or.inl rfl) a b hd X.2.2.2.2.2.2.1)
/-- two references that are the same or not -/
theorem z_acmp_eq {x : Option Nat} {y : Nat} {off : Int} {tgt : Nat} (hd : decode M.2.1 pc = .ok (.if_acmp .eq off, 3)) (ht : (pc : Int) + off = (tgt : Int)) (hx : ∀ a, x = some a → 4 ≤ a) (hy : 4 ≤ y) (kt : x = some y → Z g l M tgt ls st h Q) (kf : ¬ x = some y → Z g l M (pc + 3) ls st h Q) : Z g l M pc ls (.ref y :: va_rf x :: st) h Q := by
  refine Z.br (P := x = some y) (st' := st) (fun X a b => ?_) kt kf
  have e : (Value.ref y :: va_rf x :: st).map (zv g) = va_rf (some (zphi g y)) :: va_rf (x.map (zphi g)) :: st.map (zv g) := by cases x <;> rfl
  rw [e]
  refine lv_acmp_eq X.1 X.2.1 hd ht (fun q => a ?_) (fun q => b ?_)
  · cases x with
    | none => cases q
    | some z => exact congrArg some (zphi_inj (g := g) (hx z rfl) hy (Option.some.inj q))
  · intro z; apply q; rw [z]; rfl
theorem z_objInit {a index : Nat} (hd : decode M.2.1 pc = .ok (.invokespecial index, 3)) (hl : Cond.methodLink M.1.cls index objectInit ∈ gw) (hi : Cond.instanceMethod objectInit ∈ gw) (hc : Cond.code objectInit ⟨#[0xb1]⟩ 1 none ∈ gw) (hfr : 1 ≤ M.2.2.2.2.1) (hlo : (st.map fun v => v.category).sum + 12 ≤ M.2.2.2.2.2) (k : Z g l M (pc + 3) ls st h Q) : Z g l M pc ls (.ref a :: st) h Q := by
  refine Z.step (fun X _ _ hls k => ?_) k
  have hts := X.2.2.2.2.2.1
  have esum : ((st.map (zv g)).map fun v => v.category).sum = (st.map fun v => v.category).sum := by
    rw [List.map_map]; congr 1; exact List.map_congr_left (fun v _ => zv_cat g v)
  exact W.objInit X.1 X.2.1 X.2.2.2.2.1 (hts _ hl) (hts _ hi) (hts _ hc) rfl (by rw [X.2.2.2.1]; exact hls.1) rfl hd (Nat.le_trans hfr X.2.2.2.2.2.2.2.2.1) (by show 2 * 0 + _ + 12 ≤ _; rw [esum]; have := X.2.2.2.2.2.2.2.2.2.1; omega) k
-- a method's contract out of its walk
theorem zT_moved {s U : State} (hW : s.WarmedH U.vm) (hT : zT g s) : zT g U :=
  ⟨va_K.moved hW.alike hT.1, fun q hq => va_Nw.warmM hW (hT.2.1 q hq), va_Nw.warmC hW hT.2.2.1, va_AO.moved hW.alike hT.2.2.2.1, va_AO.moved hW.alike hT.2.2.2.2⟩
theorem zold_moved {s U : State} {H : Heap} (hvm : s.vm.Alike U.vm) (hO : zold g s H) : zold g U H :=
  ⟨fun r hr => va_T.moved hvm (hO.1 r hr), va_Z.moved hvm hO.2.1, va_Z.moved hvm hO.2.2.1, va_Z.moved hvm hO.2.2.2⟩
theorem zold_kept {s : State} {H H1 : Heap} (hO : zold g s H) (hq : ∀ a : Nat, a < H.size → ¬ zA g a → H1[a]? = H[a]?) : zold g s H1 :=
  ⟨fun r hr => va_T.kept (hO.1 r hr) hq, va_Z.kept hO.2.1 hq, va_Z.kept hO.2.2.1 hq, va_Z.kept hO.2.2.2 hq⟩
theorem zpre_blind (as : List Value) : FrameBlind (va_Pc (as.map (zv g)) (fun U => zpre g U h)) := by
  intro a U f mk hp
  obtain ⟨h1, h2, h3, h4⟩ := hp
  refine ⟨h1, ?_, ?_, h4⟩
  · obtain ⟨k1, k2, k3, k4, k5⟩ := h2
    exact ⟨va_K.moved (u := U) (U := U.calling f mk a) (Vm.Alike.refl U.vm) k1, fun q hq => va_Nw.same rfl rfl (k2 q hq), va_Nw.same rfl rfl k3, k4, k5⟩
  · exact zold_moved (s := U) (U := U.calling f mk a) (Vm.Alike.refl U.vm) h3
theorem zl_entry {as : List Value} {nL : Nat} {ls : List (Option Value)} {lsA : Array Slot} (hA : lv_has lsA nL (lv_args 0 (as.map (zv g)))) (hls : ∀ (i : Nat) (v : Value), ls[i]? = some (some v) → (i, v) ∈ lv_args 0 as) : zl g lsA nL ls := by
  refine ⟨hA.1, hA.2.1, fun i v hv => hA.2.2 (i, zv g v) ?_⟩
  have key : ∀ (as : List Value) (k : Nat), (i, v) ∈ lv_args k as → (i, zv g v) ∈ lv_args k (as.map (zv g)) := by
    intro as
    induction as with
    | nil => intro k hk; cases hk
    | cons w as ih =>
      intro k hk
      simp only [List.map_cons, lv_args, List.mem_cons, zv_cat] at hk ⊢
      rcases hk with hk | hk
      · left; cases hk; rfl
      · right; exact ih _ hk
  exact key as 0 (hls i v hv)
/-- the locals at a method's entry -/
def zargs : List Value → List (Option Value)
  | [] => []
  | v :: vs => if v.category = 2 then some v :: none :: zargs vs else some v :: zargs vs
theorem zargs_in : ∀ (as : List Value) (k i : Nat) (v : Value), (zargs as)[i]? = some (some v) → (k + i, v) ∈ lv_args k as
  | [], k, i, v, hv => by simp [zargs] at hv
  | w :: as, k, i, v, hv => by
    unfold zargs at hv
    unfold lv_args
    by_cases hc : w.category = 2
    · rw [if_pos hc] at hv
      rw [if_pos hc]
      match i, hv with
      | 0, hv => simp at hv; subst hv; exact List.mem_cons_self
      | 1, hv => simp at hv
      | i + 2, hv =>
        have := zargs_in as (k + 2) i v (by simpa using hv)
        rw [show k + (i + 2) = k + 2 + i by omega]
        exact List.mem_cons_of_mem _ this
    · rw [if_neg hc] at hv
      rw [if_neg hc]
      match i, hv with
      | 0, hv => simp at hv; subst hv; exact List.mem_cons_self
      | i + 1, hv =>
        have := zargs_in as (k + 1) i v (by simpa using hv)
        rw [show k + (i + 1) = k + 1 + i by omega]
        exact List.mem_cons_of_mem _ this
theorem zargs_len : ∀ as : List Value, (lg_sl (as.map (zv g))).length = (zargs as).length
  | [] => rfl
  | v :: as => by
    have ih := zargs_len as
    simp only [lg_sl, zargs, List.map_cons, List.flatMap_cons, List.length_append, zv_cat] at ih ⊢
    split <;> simp [ih] <;> omega
theorem zargs_pad {as : List Value} {k : Nat} : ∀ (i : Nat) (v : Value), (zargs as ++ List.replicate k none)[i]? = some (some v) → (i, v) ∈ lv_args 0 as := by
  intro i v hv
  by_cases hl : i < (zargs as).length
  · rw [List.getElem?_append_left hl] at hv
    have := zargs_in as 0 i v hv
    rwa [Nat.zero_add] at this
  · rw [List.getElem?_append_right (by omega), List.getElem?_replicate] at hv
    split at hv <;> cases hv
theorem ZC.of {as : List Value} (hy : plainName M.1.cls = true) (hn : (zargs as).length ≤ M.2.2.1) (k : Z g l M 0 (zargs as ++ List.replicate (M.2.2.1 - (zargs as).length) none) [] h Q) : ZC g l M as h Q := by
  obtain ⟨v, h', dc, ds, hq, e1, e2, kk⟩ := k
  refine ⟨v, h', dc, ds, hq, e1, e2, ?_⟩
  refine Met.ofW (cc := M.2.1) (maxL := M.2.2.1) (ret := M.2.2.2.1) (ws' := gw) hy rfl ?_
  intro p e s m args below meth c s₁ B hml hv
  obtain ⟨rfl, hT, hO, hm⟩ := hv
  have hts := atoms_spec (ws := zw M) B.pre
  have X : ZX g M p (headSpec (zw M) { frames := M.2.2.2.2.1, cells := dc, slots := ds, locals := M.2.2.2.2.2 }).room s m (as.map (zv g)).toArray meth c :=
    ⟨B.exec, B.bytes, B.returns, hml, findClass_of_methodNamed B.named, fun w hw => hts w (List.mem_cons_of_mem _ hw), B.notSynchronized, (name_of_methodNamed B.named B.method).1, Nat.le_refl _, Nat.le_refl _, hT, hO, by rw [hm.2.2.1]; exact Nat.le_add_right _ _⟩
  have hl := lv_entry (as.map (zv g)) (n := M.2.2.1) (by rw [zargs_len]; exact hn)
  rw [lg_entry_eq]
  have k1 := kk p e _ s m (as.map (zv g)).toArray below meth c X s.heap [] 0 0 _ hm va_S.rf (zl_entry hl zargs_pad) (by show 0 + dc ≤ dc; omega) (by show 0 + ds ≤ ds; omega)
  rw [Nat.zero_add, Nat.zero_add] at k1
  exact k1
-- calls
theorem zw_good (hc : Cond.code N.1 N.2.1 N.2.2.1 N.2.2.2.1 ∈ gw) : GoodIn gw (zw N) := fun w hw => by
  rcases List.mem_cons.mp hw with rfl | hw
  · exact ⟨hc, gw_good hc⟩
  · exact ⟨hw, gw_good hw⟩
theorem Z.call {as rest : List Value} {hp : Prop} (hrun : ∀ {v : Option Value} {h' : ZH} {dc ds : Nat} {p : Program} {e : Env} {R : Room} {s : State} {m : MethodId} {args : Array Value} {below : List Frame} {meth : Method} {c : Code} {H : Heap} {locs : List Loc} {cells slots : Nat} {lsA : Array Slot}, Met l N.1 (zw N) { frames := N.2.2.2.2.1, cells := dc, slots := ds, locals := N.2.2.2.2.2 } (va_Pc (as.map (zv g)) (fun U => zpre g U h)) (zQ g v h') dc ds (zA g) → ZX g M p R s m args meth c → zmem g H h → va_S (zA g) s.heap H locs → zl g lsA M.2.2.1 ls → cells + dc ≤ R.cells → slots + ds ≤ R.slots →
      va_Run p l e R s m args below meth c H locs cells slots dc ds (F0 m pc lsA (st.map (zv g))) (rest.map (zv g)) (zQ g v h' (as.map (zv g)).toArray) (zA g))
    (k : ZC g l N as h (fun v h' => Z g l M (pc + 3) ls (v.toList ++ rest) h' Q)) : Z g l M pc ls st h Q := by
  obtain ⟨v, h', dc, ds, ⟨v2, h2, dc2, ds2, hq, f1, f2, kk⟩, e1, e2, hM⟩ := k
  refine ⟨v2, h2, dc + dc2, ds + ds2, hq, by rw [f1, e1]; omega, by rw [f2, e2]; omega, ?_⟩
  intro p e R s m args below meth c X H locs cells slots lsA hm hS hl c1 c2
  have hr := hrun hM (e := e) (below := below) X hm hS hl (cells := cells) (slots := slots) (by omega) (by omega)
  intro T hT XX
  obtain ⟨w, st₀, t, T', Lc, h0, X', hL, t1, t2, ⟨q1, q2, q3, q4⟩, go⟩ := hr T hT XX
  have hw : w = v.map (zv g) := by injection q1
  subst hw
  rw [h0] at q3 q4
  have key := kk p e R s m args below meth c X T'.heap (locs ++ Lc) (cells + dc) (slots + ds) lsA (by rw [t1]; exact q2) ⟨Nat.le_trans hS.1 (by rw [t1]; exact q3), fun q g1 g2 => by rw [t1, q4 q (Nat.lt_of_lt_of_le g1 hS.1) g2]; exact hS.2.1 q g1 g2, fun q hq => by
      rcases List.mem_append.mp hq with z | z
      · exact hS.2.2 q z
      · exact hL q z⟩ hl (by omega) (by omega)
  rw [Nat.add_assoc, Nat.add_assoc] at key
  obtain ⟨t3, a1, b1⟩ := key T' rfl X'
  refine ⟨t3, go t3 ?_, b1⟩
  have e5 : (v.map (zv g)).toList ++ rest.map (zv g) = (v.toList ++ rest).map (zv g) := by cases v <;> simp
  show Steps p.tables e below (T'.setTop { F0 m pc lsA (st.map (zv g)) with pc := pc + 3, stack := (v.map (zv g)).toList ++ rest.map (zv g) }) t3
  rw [e5]
  exact a1
theorem zroom {rest : List Value} (hc : (rest.map fun v => v.category).sum ≤ 8) : ((rest.map (zv g)).map fun v => v.category).sum ≤ 8 := by
  rw [List.map_map]
  rw [show List.map ((fun v : Value => v.category) ∘ zv g) rest = rest.map (fun v => v.category) from List.map_congr_left (fun v _ => zv_cat g v)]
  exact hc
def zparams (y : MethodName) (n : Nat) : Bool := y.cls != "java/lang/invoke/MethodHandle" && y.cls != "java/lang/invoke/VarHandle" && (parseMethodDescriptor y.desc).map (fun d => d.parameters.length) == some n
theorem zparams_spec {y : MethodName} {n : Nat} (h : zparams y n = true) : y.cls ≠ "java/lang/invoke/MethodHandle" ∧ y.cls ≠ "java/lang/invoke/VarHandle" ∧ (parseMethodDescriptor y.desc).map (fun d => d.parameters.length) = some n := by
  unfold zparams at h
  simp only [Bool.and_eq_true, bne_iff_ne, beq_iff_eq] at h
  exact ⟨h.1.1, h.1.2, h.2⟩
theorem zpre_of {p : Program} {R : Room} {s : State} {m : MethodId} {args : Array Value} {meth : Method} {c : Code} {H : Heap} {locs : List Loc} (as : List Value) (X : ZX g M p R s m args meth c) (hm : zmem g H h) (hS : va_S (zA g) s.heap H locs) : ∀ U : State, U.heap = H → s.WarmedH U.vm → va_Pc (as.map (zv g)) (fun U => zpre g U h) (as.map (zv g)).toArray U := by
  intro U hU hW
  refine ⟨rfl, zT_moved hW X.2.2.2.2.2.2.2.2.2.2.1, ?_, by rw [hU]; exact hm⟩
  rw [hU]
  exact zold_kept (zold_moved hW.alike X.2.2.2.2.2.2.2.2.2.2.2.1) hS.2.1
theorem z_calls {as rest : List Value} {index nas : Nat} (hd : decode M.2.1 pc = .ok (.invokestatic index, 3)) (hcode : Cond.code N.1 N.2.1 N.2.2.1 N.2.2.2.1 ∈ gw) (hl : Cond.methodLink M.1.cls index N.1 ∈ gw) (hs : Cond.static N.1 ∈ gw) (hi : Cond.initialized N.1.cls ∈ gw) (hp : zparams N.1 nas = true) (hn : as.length = nas) (hst : st = as.reverse ++ rest) (hro : (rest.map fun v => v.category).sum ≤ 8) (hfr : N.2.2.2.2.1 + 1 ≤ M.2.2.2.2.1) (hlo : 8 + (N.2.2.1 + 11) + N.2.2.2.2.2 ≤ M.2.2.2.2.2)
    (k : ZC g l N as h (fun v h' => Z g l M (pc + 3) ls (v.toList ++ rest) h' Q)) : Z g l M pc ls st h Q := by
  subst hst
  refine Z.call (hp := True) (fun hM X hm hS hls c1 c2 => ?_) k
  have hts := X.2.2.2.2.2.1
  have hsp := zparams_spec hp
  exact va_runS (As := as.map (zv g)) (rest := rest.map (zv g)) ⟨X.1, X.2.1, X.2.2.2.1, X.2.2.2.2.1, hts⟩ hM ⟨callB_of nas hts (zw_good hcode) rfl rfl rfl (hts _ hi) (hts _ hl) hsp ⟨Nat.le_trans hfr X.2.2.2.2.2.2.2.2.1, Nat.le_trans hlo X.2.2.2.2.2.2.2.2.2.1⟩, hts _ hs⟩ ⟨zpre_blind as, zpre_of as X hm hS⟩ rfl (by rw [List.length_map]; exact hn) hls.1 (by show (as.reverse ++ rest).map (zv g) = _; rw [List.map_append, List.map_reverse]) (lv_room (zroom hro)) hd ⟨c1, c2⟩
theorem z_callsN {as rest : List Value} {index nas : Nat} {host : String} (hd : decode M.2.1 pc = .ok (.invokestatic index, 3)) (hcode : Cond.code N.1 N.2.1 N.2.2.1 N.2.2.2.1 ∈ gw) (hl : (M.1.cls, index, N.1, host) ∈ znest) (hs : Cond.static N.1 ∈ gw) (hi : Cond.initialized N.1.cls ∈ gw) (hp : zparams N.1 nas = true) (hn : as.length = nas) (hst : st = as.reverse ++ rest) (hro : (rest.map fun v => v.category).sum ≤ 8) (hfr : N.2.2.2.2.1 + 1 ≤ M.2.2.2.2.1) (hlo : 8 + (N.2.2.1 + 11) + N.2.2.2.2.2 ≤ M.2.2.2.2.2)
    (k : ZC g l N as h (fun v h' => Z g l M (pc + 3) ls (v.toList ++ rest) h' Q)) : Z g l M pc ls st h Q := by
  subst hst
  refine Z.call (hp := True) (fun hM X hm hS hls c1 c2 => ?_) k
  have hts := X.2.2.2.2.2.1
  have hsp := zparams_spec hp
  exact va_runSN (As := as.map (zv g)) (rest := rest.map (zv g)) ⟨X.1, X.2.1, X.2.2.2.1, X.2.2.2.2.1, hts⟩ hM ⟨va_cnB nas hts (zw_good hcode) rfl rfl rfl (X.2.2.2.2.2.2.2.2.2.2.1.2.1 _ hl) (hts _ hi) hsp ⟨Nat.le_trans hfr X.2.2.2.2.2.2.2.2.1, Nat.le_trans hlo X.2.2.2.2.2.2.2.2.2.1⟩, hts _ hs, trivial⟩ ⟨zpre_blind as, zpre_of as X hm hS⟩ rfl (by rw [List.length_map]; exact hn) hls.1 (by show (as.reverse ++ rest).map (zv g) = _; rw [List.map_append, List.map_reverse]) (lv_room (zroom hro)) hd ⟨c1, c2⟩
theorem z_callv {as rest : List Value} {index nas b ci : Nat} {K : ZK} {I : ZI} {L : ZL} {R : ZR} {n s0 : Nat} (hd : decode M.2.1 pc = .ok (.invokevirtual index, 3)) (hcode : Cond.code N.1 N.2.1 N.2.2.1 N.2.2.2.1 ∈ gw) (hl : Cond.methodLink M.1.cls index N.1 ∈ gw) (hs : Cond.instanceMethod N.1 ∈ gw) (hse : Cond.selects (zRR ci) N.1 N.1 ∈ gw) (hi : Cond.initialized N.1.cls ∈ gw) (hp : zparams N.1 nas = true) (hn : as.length = nas) (hst : st = as.reverse ++ .ref b :: rest) (hK : (K b).1 = 10 + ci) (hc : ci < 10) (hro : (rest.map fun v => v.category).sum ≤ 8) (hfr : N.2.2.2.2.1 + 1 ≤ M.2.2.2.2.1) (hlo : 8 + (N.2.2.1 + 11) + N.2.2.2.2.2 ≤ M.2.2.2.2.2)
    (k : ZC g l N (.ref b :: as) (K, I, L, R, n, s0) (fun v h' => Z g l M (pc + 3) ls (v.toList ++ rest) h' Q)) : Z g l M pc ls st (K, I, L, R, n, s0) Q := by
  subst hst
  refine Z.call (hp := True) (fun hM X hm hS hls c1 c2 => ?_) k
  have hts := X.2.2.2.2.2.1
  have hsp := zparams_spec hp
  have hr := zmem_in hm hK (by omega)
  have hat := zws_at g (K, I, L, R, n, s0) hr.1 hr.2
  simp only [zcell_obj hK] at hat
  exact va_runV (As := as.map (zv g)) (rest := rest.map (zv g)) (C := zRR ci) (b := zphi g b) ⟨X.1, X.2.1, X.2.2.2.1, X.2.2.2.2.1, hts⟩ hM ⟨callB_of nas hts (zw_good hcode) rfl rfl rfl (hts _ hi) (hts _ hl) hsp ⟨Nat.le_trans hfr X.2.2.2.2.2.2.2.2.1, Nat.le_trans hlo X.2.2.2.2.2.2.2.2.2.1⟩, hts _ hs, hts _ hse⟩ ⟨zpre_blind (.ref b :: as), va_recv X.2.2.2.2.2.2.2.2.2.2.1.1 hm.2.2.2 (zcl ci hc) hat, zpre_of (.ref b :: as) X hm hS⟩ rfl (by rw [List.length_map]; exact hn) hls.1 (by show (as.reverse ++ .ref b :: rest).map (zv g) = _; rw [List.map_append, List.map_reverse]; rfl) (lv_room (zroom hro)) hd ⟨c1, c2⟩
theorem z_calli {as rest : List Value} {index nas b : Nat} (hd : decode M.2.1 pc = .ok (.invokespecial index, 3)) (hret : N.2.2.2.1 = none) (hnm : N.1.name = "<init>") (hcode : Cond.code N.1 N.2.1 N.2.2.1 N.2.2.2.1 ∈ gw) (hl : Cond.methodLink M.1.cls index N.1 ∈ gw) (hs : Cond.instanceMethod N.1 ∈ gw) (hi : Cond.initialized N.1.cls ∈ gw) (hp : zparams N.1 nas = true) (hn : as.length = nas) (hst : st = as.reverse ++ .ref b :: rest) (hro : (rest.map fun v => v.category).sum ≤ 8) (hfr : N.2.2.2.2.1 + 1 ≤ M.2.2.2.2.1) (hlo : 8 + (N.2.2.1 + 11) + N.2.2.2.2.2 ≤ M.2.2.2.2.2)
    (k : ZC g l N (.ref b :: as) h (fun v h' => Z g l M (pc + 3) ls (v.toList ++ rest) h' Q)) : Z g l M pc ls st h Q := by
  subst hst
  refine Z.call (hp := True) (fun hM X hm hS hls c1 c2 => ?_) k
  have hts := X.2.2.2.2.2.1
  have hsp := zparams_spec hp
  have hw : zw N = Cond.code N.1 N.2.1 N.2.2.1 none :: gw := by rw [← hret]; rfl
  exact va_runI (As := as.map (zv g)) (rest := rest.map (zv g)) (b := zphi g b) ⟨X.1, X.2.1, X.2.2.2.1, X.2.2.2.2.1, hts⟩ hM ⟨callB_of nas hts (zw_good hcode) hw rfl rfl (hts _ hi) (hts _ hl) hsp ⟨Nat.le_trans hfr X.2.2.2.2.2.2.2.2.1, Nat.le_trans hlo X.2.2.2.2.2.2.2.2.2.1⟩, hnm, hts _ hs⟩ ⟨zpre_blind (.ref b :: as), zpre_of (.ref b :: as) X hm hS⟩ rfl (by rw [List.length_map]; exact hn) hls.1 (by show (as.reverse ++ .ref b :: rest).map (zv g) = _; rw [List.map_append, List.map_reverse]; rfl) (lv_room (zroom hro)) hd ⟨c1, c2⟩
theorem z_calliN {as rest : List Value} {index nas b : Nat} {host : String} (hd : decode M.2.1 pc = .ok (.invokespecial index, 3)) (hret : N.2.2.2.1 = none) (hnm : N.1.name = "<init>") (hcode : Cond.code N.1 N.2.1 N.2.2.1 N.2.2.2.1 ∈ gw) (hl : (M.1.cls, index, N.1, host) ∈ znest) (hs : Cond.instanceMethod N.1 ∈ gw) (hi : Cond.initialized N.1.cls ∈ gw) (hp : zparams N.1 nas = true) (hn : as.length = nas) (hst : st = as.reverse ++ .ref b :: rest) (hro : (rest.map fun v => v.category).sum ≤ 8) (hfr : N.2.2.2.2.1 + 1 ≤ M.2.2.2.2.1) (hlo : 8 + (N.2.2.1 + 11) + N.2.2.2.2.2 ≤ M.2.2.2.2.2)
    (k : ZC g l N (.ref b :: as) h (fun v h' => Z g l M (pc + 3) ls (v.toList ++ rest) h' Q)) : Z g l M pc ls st h Q := by
  subst hst
  refine Z.call (hp := True) (fun hM X hm hS hls c1 c2 => ?_) k
  have hts := X.2.2.2.2.2.1
  have hsp := zparams_spec hp
  have hw : zw N = Cond.code N.1 N.2.1 N.2.2.1 none :: gw := by rw [← hret]; rfl
  exact va_runIN (As := as.map (zv g)) (rest := rest.map (zv g)) (b := zphi g b) ⟨X.1, X.2.1, X.2.2.2.1, X.2.2.2.2.1, hts⟩ hM ⟨va_cnB nas hts (zw_good hcode) hw rfl rfl (X.2.2.2.2.2.2.2.2.2.2.1.2.1 _ hl) (hts _ hi) hsp ⟨Nat.le_trans hfr X.2.2.2.2.2.2.2.2.1, Nat.le_trans hlo X.2.2.2.2.2.2.2.2.2.1⟩, hnm, hts _ hs⟩ ⟨zpre_blind (.ref b :: as), zpre_of (.ref b :: as) X hm hS⟩ rfl (by rw [List.length_map]; exact hn) hls.1 (by show (as.reverse ++ .ref b :: rest).map (zv g) = _; rw [List.map_append, List.map_reverse]; rfl) (lv_room (zroom hro)) hd ⟨c1, c2⟩
end ZCalls
end
section
def iZ (z : Int) : Int32 := Int32.ofInt z
def lZ (z : Int) : Int64 := Int64.ofInt z
abbrev rI (z : Int) : Prop := -2147483648 ≤ z ∧ z ≤ 2147483647
abbrev rL (z : Int) : Prop := -9223372036854775808 ≤ z ∧ z ≤ 9223372036854775807
theorem iZ_toInt {z : Int} (h : rI z) : (iZ z).toInt = z := Int32.toInt_ofInt_of_le h.1 (by have := h.2; show z < 2147483648; omega)
theorem lZ_toInt {z : Int} (h : rL z) : (lZ z).toInt = z := Int64.toInt_ofInt_of_le h.1 (by have := h.2; show z < 9223372036854775808; omega)
theorem iZ_of (x : Int32) : x = iZ x.toInt := (Int32.ofInt_toInt x).symm
theorem lZ_of (x : Int64) : x = lZ x.toInt := (Int64.ofInt_toInt x).symm
theorem rI_of (x : Int32) : rI x.toInt := ⟨x.le_toInt, by have := x.toInt_lt; show x.toInt ≤ 2147483647; omega⟩
theorem rL_of (x : Int64) : rL x.toInt := ⟨x.le_toInt, by have := x.toInt_lt; show x.toInt ≤ 9223372036854775807; omega⟩
theorem iZ_add (a b : Int) : iZ a + iZ b = iZ (a + b) := (Int32.ofInt_add a b).symm
theorem iZ_sub (a b : Int) : iZ a - iZ b = iZ (a - b) := (Int32.ofInt_sub a b).symm
theorem iZ_mul (a b : Int) : iZ a * iZ b = iZ (a * b) := (Int32.ofInt_mul a b).symm
theorem iZ_neg (a : Int) : - iZ a = iZ (-a) := (Int32.ofInt_neg a).symm
theorem lZ_add (a b : Int) : lZ a + lZ b = lZ (a + b) := (Int64.ofInt_add a b).symm
theorem lZ_sub (a b : Int) : lZ a - lZ b = lZ (a - b) := (Int64.ofInt_sub a b).symm
theorem lZ_mul (a b : Int) : lZ a * lZ b = lZ (a * b) := (Int64.ofInt_mul a b).symm
theorem lZ_neg (a : Int) : - lZ a = lZ (-a) := (Int64.ofInt_neg a).symm
theorem iZ_lt {a b : Int} (ha : rI a) (hb : rI b) : iZ a < iZ b ↔ a < b := by rw [Int32.lt_iff_toInt_lt, iZ_toInt ha, iZ_toInt hb]
theorem iZ_le {a b : Int} (ha : rI a) (hb : rI b) : iZ a ≤ iZ b ↔ a ≤ b := by rw [Int32.le_iff_toInt_le, iZ_toInt ha, iZ_toInt hb]
theorem iZ_eq {a b : Int} (ha : rI a) (hb : rI b) : iZ a = iZ b ↔ a = b := by rw [← Int32.toInt_inj, iZ_toInt ha, iZ_toInt hb]
theorem lZ_lt {a b : Int} (ha : rL a) (hb : rL b) : lZ a < lZ b ↔ a < b := by rw [Int64.lt_iff_toInt_lt, lZ_toInt ha, lZ_toInt hb]
theorem lZ_le {a b : Int} (ha : rL a) (hb : rL b) : lZ a ≤ lZ b ↔ a ≤ b := by rw [Int64.le_iff_toInt_le, lZ_toInt ha, lZ_toInt hb]
theorem lZ_eq {a b : Int} (ha : rL a) (hb : rL b) : lZ a = lZ b ↔ a = b := by rw [← Int64.toInt_inj, lZ_toInt ha, lZ_toInt hb]
theorem iZ_0 : iZ 0 = 0 := rfl
theorem iZ_ne0 {a : Int} (ha : rI a) (h : a ≠ 0) : ¬ iZ a = 0 := fun e => h ((iZ_eq ha (by omega)).mp e)
theorem lZ_ne0 {a : Int} (ha : rL a) (h : a ≠ 0) : ¬ lZ a = 0 := fun e => h ((lZ_eq ha (by omega)).mp e)
theorem iZ_l {a : Int} (ha : rI a) : (iZ a).toInt64 = lZ a := Int32.toInt64_ofInt ha.1 ha.2
theorem lZ_i (a : Int) : (lZ a).toInt32 = iZ a := Int64.toInt32_ofInt
theorem iZ_div {a b : Int} (ha : rI a) (hb : rI b) (h : ¬ (a = -2147483648 ∧ b = -1)) : iZ a / iZ b = iZ (a.tdiv b) := by
  rw [iZ_of (iZ a / iZ b), Int32.toInt_div, iZ_toInt ha, iZ_toInt hb]
  congr 1
  have h2 : (a.tdiv b).natAbs ≤ a.natAbs := by rw [Int.natAbs_tdiv]; exact Nat.div_le_self _ _
  have h3 : (a.tdiv b) ≤ 2147483647 := by
    by_cases hm : a = -2147483648
    · by_cases hb0 : b = 0
      · subst hb0; simp
      · by_cases hb1 : b = 1
        · subst hb1; simp; omega
        · have h4 : (a.tdiv b).natAbs = a.natAbs / b.natAbs := Int.natAbs_tdiv a b
          have h5 : 2 ≤ b.natAbs := by omega
          have h6 : a.natAbs / b.natAbs ≤ a.natAbs / 2 := Nat.div_le_div_left h5 (by omega)
          omega
    · omega
  show (a.tdiv b).bmod 4294967296 = _
  rw [Int.bmod_eq_of_le (by omega) (by omega)]
theorem lZ_div {a b : Int} (ha : rL a) (hb : rL b) (h : ¬ (a = -9223372036854775808 ∧ b = -1)) : lZ a / lZ b = lZ (a.tdiv b) := by
  rw [lZ_of (lZ a / lZ b), Int64.toInt_div, lZ_toInt ha, lZ_toInt hb]
  congr 1
  have h2 : (a.tdiv b).natAbs ≤ a.natAbs := by rw [Int.natAbs_tdiv]; exact Nat.div_le_self _ _
  have h3 : (a.tdiv b) ≤ 9223372036854775807 := by
    by_cases hm : a = -9223372036854775808
    · by_cases hb0 : b = 0
      · subst hb0; simp
      · by_cases hb1 : b = 1
        · subst hb1; simp; omega
        · have h4 : (a.tdiv b).natAbs = a.natAbs / b.natAbs := Int.natAbs_tdiv a b
          have h5 : 2 ≤ b.natAbs := by omega
          have h6 : a.natAbs / b.natAbs ≤ a.natAbs / 2 := Nat.div_le_div_left h5 (by omega)
          omega
    · omega
  show (a.tdiv b).bmod 18446744073709551616 = _
  rw [Int.bmod_eq_of_le (by omega) (by omega)]
theorem iZ_nn {j : Int} {n : Nat} (hn : (n : Int) ≤ 2147483647) (h : 0 ≤ j ∧ j < n) : vp_in (iZ j) n ∧ (iZ j).toNatClampNeg = j.toNat := by
  have e : (iZ j).toInt = j := iZ_toInt ⟨by omega, by omega⟩
  refine ⟨vp_in_iff.mpr (by rw [e]; exact h), ?_⟩
  show (iZ j).toInt.toNat = _
  rw [e]
theorem iZ_clamp {j : Int} (h : 0 ≤ j ∧ j ≤ 2147483647) : (iZ j).toNatClampNeg = j.toNat ∧ ¬ iZ j < 0 := by
  have e : (iZ j).toInt = j := iZ_toInt ⟨by omega, by omega⟩
  refine ⟨by show (iZ j).toInt.toNat = _; rw [e], fun q => ?_⟩
  have := (iZ_lt (b := 0) ⟨by omega, by omega⟩ (by omega)).mp q
  omega
def zi (J : Nat → Nat → Int) : ZI := fun a k => iZ (J a k)
def zj (P : Nat → Nat → Int) : ZL := fun a k => lZ (P a k)
theorem zup_zi {J : Nat → Nat → Int} {a i : Nat} {z : Int} : zup (zi J) a i (iZ z) = zi (zup J a i z) := by
  funext b j; simp only [zup, zi]; split
  · split <;> rfl
  · rfl
theorem zup_zj {J : Nat → Nat → Int} {a i : Nat} {z : Int} : zup (zj J) a i (lZ z) = zj (zup J a i z) := by
  funext b j; simp only [zup, zj]; split
  · split <;> rfl
  · rfl
theorem zupA_zi {J : Nat → Nat → Int} {a : Nat} {f : Nat → Int} : zupA (zi J) a (fun j => iZ (f j)) = zi (zupA J a f) := by
  funext b j; simp only [zupA, zi]; split <;> rfl
theorem zupA_zj {J : Nat → Nat → Int} {a : Nat} {f : Nat → Int} : zupA (zj J) a (fun j => lZ (f j)) = zj (zupA J a f) := by
  funext b j; simp only [zupA, zj]; split <;> rfl
theorem zi_of (I : ZI) : I = zi (fun a k => (I a k).toInt) := by funext a k; exact iZ_of _
theorem zj_of (I : ZL) : I = zj (fun a k => (I a k).toInt) := by funext a k; exact lZ_of _
section ZCan
variable {g : ZG} {l : Launch} {M : ZM} {pc : Nat} {ls : List (Option Value)} {st : List Value} {Q : Option Value → ZH → Prop} {h : ZH} {K : ZK} {J P : Nat → Nat → Int} {R : ZR} {n s0 : Nat}
theorem c_iconst {n : Int} (hd : decode M.2.1 pc = .ok (.iconst n, 1)) (k : Z g l M (pc + 1) ls (.int (iZ n) :: st) h Q) : Z g l M pc ls st h Q := z_iconst hd rfl k
theorem c_bipush {n : Int} (hd : decode M.2.1 pc = .ok (.bipush n, 2)) (hv : -128 ≤ n ∧ n ≤ 127) (k : Z g l M (pc + 2) ls (.int (iZ n) :: st) h Q) : Z g l M pc ls st h Q := z_bipush hd (Int8.toInt32_ofInt hv.1 hv.2) k
theorem c_sipush {n : Int} (hd : decode M.2.1 pc = .ok (.sipush n, 3)) (hv : -32768 ≤ n ∧ n ≤ 32767) (k : Z g l M (pc + 3) ls (.int (iZ n) :: st) h Q) : Z g l M pc ls st h Q := z_sipush hd (Int16.toInt32_ofInt hv.1 hv.2) k
theorem c_lconst0 (hd : decode M.2.1 pc = .ok (.lconst 0, 1)) (k : Z g l M (pc + 1) ls (.long (lZ 0) :: st) h Q) : Z g l M pc ls st h Q := z_lconst hd rfl k
theorem c_lconst1 (hd : decode M.2.1 pc = .ok (.lconst 1, 1)) (k : Z g l M (pc + 1) ls (.long (lZ 1) :: st) h Q) : Z g l M pc ls st h Q := z_lconst hd rfl k
theorem c_ldc {index : Nat} {z : Int} {v : Int32} (hd : decode M.2.1 pc = .ok (.ldc index, 2)) (hc : Cond.constant M.1.cls index v ∈ gw) (hv : v = iZ z) (k : Z g l M (pc + 2) ls (.int (iZ z) :: st) h Q) : Z g l M pc ls st h Q := z_ldc hd hc (hv ▸ k)
theorem c_ldc2 {index : Nat} {z : Int} {v : Int64} (hd : decode M.2.1 pc = .ok (.ldc2_w index, 3)) (hc : Cond.constantLong M.1.cls index v ∈ gw) (hv : v = lZ z) (k : Z g l M (pc + 3) ls (.long (lZ z) :: st) h Q) : Z g l M pc ls st h Q := z_ldc2 hd hc (hv ▸ k)
theorem c_iinc {i : Nat} {n x : Int} (hd : decode M.2.1 pc = .ok (.iinc i n, 3)) (hx : ls[i]? = some (some (.int (iZ x)))) (hn : i < M.2.2.1) (hz : znl ls i = true) (k : Z g l M (pc + 3) (ls.set i (some (.int (iZ (x + n))))) st h Q) : Z g l M pc ls st h Q := z_iinc hd hx hn hz (by rw [show iZ x + Int32.ofInt n = iZ (x + n) from iZ_add x n]; exact k)
theorem c_iadd {x y : Int} (hd : decode M.2.1 pc = .ok (.iadd, 1)) (k : Z g l M (pc + 1) ls (.int (iZ (x + y)) :: st) h Q) : Z g l M pc ls (.int (iZ y) :: .int (iZ x) :: st) h Q := z_iadd hd (by rw [iZ_add]; exact k)
theorem c_isub {x y : Int} (hd : decode M.2.1 pc = .ok (.isub, 1)) (k : Z g l M (pc + 1) ls (.int (iZ (x - y)) :: st) h Q) : Z g l M pc ls (.int (iZ y) :: .int (iZ x) :: st) h Q := z_isub hd (by rw [iZ_sub]; exact k)
theorem c_imul {x y : Int} (hd : decode M.2.1 pc = .ok (.imul, 1)) (k : Z g l M (pc + 1) ls (.int (iZ (x * y)) :: st) h Q) : Z g l M pc ls (.int (iZ y) :: .int (iZ x) :: st) h Q := z_imul hd (by rw [iZ_mul]; exact k)
theorem c_ladd {x y : Int} (hd : decode M.2.1 pc = .ok (.ladd, 1)) (k : Z g l M (pc + 1) ls (.long (lZ (x + y)) :: st) h Q) : Z g l M pc ls (.long (lZ y) :: .long (lZ x) :: st) h Q := z_ladd hd (by rw [lZ_add]; exact k)
theorem c_lsub {x y : Int} (hd : decode M.2.1 pc = .ok (.lsub, 1)) (k : Z g l M (pc + 1) ls (.long (lZ (x - y)) :: st) h Q) : Z g l M pc ls (.long (lZ y) :: .long (lZ x) :: st) h Q := z_lsub hd (by rw [lZ_sub]; exact k)
theorem c_lmul {x y : Int} (hd : decode M.2.1 pc = .ok (.lmul, 1)) (k : Z g l M (pc + 1) ls (.long (lZ (x * y)) :: st) h Q) : Z g l M pc ls (.long (lZ y) :: .long (lZ x) :: st) h Q := z_lmul hd (by rw [lZ_mul]; exact k)
theorem c_ineg {x : Int} (hd : decode M.2.1 pc = .ok (.ineg, 1)) (k : Z g l M (pc + 1) ls (.int (iZ (-x)) :: st) h Q) : Z g l M pc ls (.int (iZ x) :: st) h Q := z_ineg hd (by rw [iZ_neg]; exact k)
theorem c_lneg {x : Int} (hd : decode M.2.1 pc = .ok (.lneg, 1)) (k : Z g l M (pc + 1) ls (.long (lZ (-x)) :: st) h Q) : Z g l M pc ls (.long (lZ x) :: st) h Q := z_lneg hd (by rw [lZ_neg]; exact k)
theorem c_i2l {x : Int} (hd : decode M.2.1 pc = .ok (.i2l, 1)) (hx : rI x) (k : Z g l M (pc + 1) ls (.long (lZ x) :: st) h Q) : Z g l M pc ls (.int (iZ x) :: st) h Q := z_i2l hd (by rw [iZ_l hx]; exact k)
theorem c_l2i {x : Int} (hd : decode M.2.1 pc = .ok (.l2i, 1)) (k : Z g l M (pc + 1) ls (.int (iZ x) :: st) h Q) : Z g l M pc ls (.long (lZ x) :: st) h Q := z_l2i hd (by rw [lZ_i]; exact k)
theorem iZ_byte (x : Int) : (iZ x).toInt8.toInt32 = iZ (x.bmod 256) := by rw [iZ_of (iZ x).toInt8.toInt32]; congr 1; rw [Int8.toInt_toInt32, iZ, Int32.toInt8_ofInt, Int8.toInt_ofInt]
theorem c_i2b {x : Int} (hd : decode M.2.1 pc = .ok (.i2b, 1)) (k : Z g l M (pc + 1) ls (.int (iZ (x.bmod 256)) :: st) h Q) : Z g l M pc ls (.int (iZ x) :: st) h Q := z_i2b hd (by rw [iZ_byte]; exact k)
theorem c_idiv {x y : Int} (hd : decode M.2.1 pc = .ok (.idiv, 1)) (hx : rI x) (hy : rI y) (h0 : y ≠ 0) (ho : ¬ (x = -2147483648 ∧ y = -1)) (k : Z g l M (pc + 1) ls (.int (iZ (x.tdiv y)) :: st) h Q) : Z g l M pc ls (.int (iZ y) :: .int (iZ x) :: st) h Q := z_idiv hd (iZ_ne0 hy h0) (by rw [iZ_div hx hy ho]; exact k)
theorem c_irem {x y : Int} (hd : decode M.2.1 pc = .ok (.irem, 1)) (hx : rI x) (hy : rI y) (h0 : y ≠ 0) (ho : ¬ (x = -2147483648 ∧ y = -1)) (k : Z g l M (pc + 1) ls (.int (iZ (x.tmod y)) :: st) h Q) : Z g l M pc ls (.int (iZ y) :: .int (iZ x) :: st) h Q := z_irem hd (iZ_ne0 hy h0) (by rw [iZ_div hx hy ho, iZ_mul, iZ_sub, Int.mul_comm, ← Int.tmod_def]; exact k)
theorem c_ldiv {x y : Int} (hd : decode M.2.1 pc = .ok (.ldiv, 1)) (hx : rL x) (hy : rL y) (h0 : y ≠ 0) (ho : ¬ (x = -9223372036854775808 ∧ y = -1)) (k : Z g l M (pc + 1) ls (.long (lZ (x.tdiv y)) :: st) h Q) : Z g l M pc ls (.long (lZ y) :: .long (lZ x) :: st) h Q := z_ldiv hd (lZ_ne0 hy h0) (by rw [lZ_div hx hy ho]; exact k)
theorem c_lrem {x y : Int} (hd : decode M.2.1 pc = .ok (.lrem, 1)) (hx : rL x) (hy : rL y) (h0 : y ≠ 0) (ho : ¬ (x = -9223372036854775808 ∧ y = -1)) (k : Z g l M (pc + 1) ls (.long (lZ (x.tmod y)) :: st) h Q) : Z g l M pc ls (.long (lZ y) :: .long (lZ x) :: st) h Q := z_lrem hd (lZ_ne0 hy h0) (by rw [lZ_div hx hy ho, lZ_mul, lZ_sub, Int.mul_comm, ← Int.tmod_def]; exact k)
theorem Z.cast {P P' : Prop} {X Y : Prop} (e : P ↔ P') (a : P' → X) (b : ¬ P' → Y) : (P → X) ∧ (¬ P → Y) := ⟨fun q => a (e.mp q), fun q => b (fun z => q (e.mpr z))⟩
theorem c_if_eq {x off : Int} {tgt : Nat} (hd : decode M.2.1 pc = .ok (.ifCond .eq off, 3)) (ht : (pc : Int) + off = (tgt : Int)) (hx : rI x) (kt : x = 0 → Z g l M tgt ls st h Q) (kf : ¬ (x = 0) → Z g l M (pc + 3) ls st h Q) : Z g l M pc ls (.int (iZ x) :: st) h Q := have e := Z.cast (iZ_eq hx (by omega) : _ ↔ x = 0) kt kf; z_if_eq hd ht e.1 e.2
theorem c_icmp_eq {x y off : Int} {tgt : Nat} (hd : decode M.2.1 pc = .ok (.if_icmp .eq off, 3)) (ht : (pc : Int) + off = (tgt : Int)) (hx : rI x) (hy : rI y) (kt : x = y → Z g l M tgt ls st h Q) (kf : ¬ (x = y) → Z g l M (pc + 3) ls st h Q) : Z g l M pc ls (.int (iZ y) :: .int (iZ x) :: st) h Q := have e := Z.cast (iZ_eq hx hy : _ ↔ x = y) kt kf; z_icmp_eq hd ht e.1 e.2
theorem c_if_ne {x off : Int} {tgt : Nat} (hd : decode M.2.1 pc = .ok (.ifCond .ne off, 3)) (ht : (pc : Int) + off = (tgt : Int)) (hx : rI x) (kt : ¬ x = 0 → Z g l M tgt ls st h Q) (kf : ¬ (¬ x = 0) → Z g l M (pc + 3) ls st h Q) : Z g l M pc ls (.int (iZ x) :: st) h Q := have e := Z.cast (not_congr (iZ_eq hx (by omega)) : _ ↔ ¬ x = 0) kt kf; z_if_ne hd ht e.1 e.2
theorem c_icmp_ne {x y off : Int} {tgt : Nat} (hd : decode M.2.1 pc = .ok (.if_icmp .ne off, 3)) (ht : (pc : Int) + off = (tgt : Int)) (hx : rI x) (hy : rI y) (kt : ¬ x = y → Z g l M tgt ls st h Q) (kf : ¬ (¬ x = y) → Z g l M (pc + 3) ls st h Q) : Z g l M pc ls (.int (iZ y) :: .int (iZ x) :: st) h Q := have e := Z.cast (not_congr (iZ_eq hx hy) : _ ↔ ¬ x = y) kt kf; z_icmp_ne hd ht e.1 e.2
theorem c_if_lt {x off : Int} {tgt : Nat} (hd : decode M.2.1 pc = .ok (.ifCond .lt off, 3)) (ht : (pc : Int) + off = (tgt : Int)) (hx : rI x) (kt : x < 0 → Z g l M tgt ls st h Q) (kf : ¬ (x < 0) → Z g l M (pc + 3) ls st h Q) : Z g l M pc ls (.int (iZ x) :: st) h Q := have e := Z.cast (iZ_lt hx (by omega) : _ ↔ x < 0) kt kf; z_if_lt hd ht e.1 e.2
theorem c_icmp_lt {x y off : Int} {tgt : Nat} (hd : decode M.2.1 pc = .ok (.if_icmp .lt off, 3)) (ht : (pc : Int) + off = (tgt : Int)) (hx : rI x) (hy : rI y) (kt : x < y → Z g l M tgt ls st h Q) (kf : ¬ (x < y) → Z g l M (pc + 3) ls st h Q) : Z g l M pc ls (.int (iZ y) :: .int (iZ x) :: st) h Q := have e := Z.cast (iZ_lt hx hy : _ ↔ x < y) kt kf; z_icmp_lt hd ht e.1 e.2
theorem c_if_ge {x off : Int} {tgt : Nat} (hd : decode M.2.1 pc = .ok (.ifCond .ge off, 3)) (ht : (pc : Int) + off = (tgt : Int)) (hx : rI x) (kt : 0 ≤ x → Z g l M tgt ls st h Q) (kf : ¬ (0 ≤ x) → Z g l M (pc + 3) ls st h Q) : Z g l M pc ls (.int (iZ x) :: st) h Q := have e := Z.cast (iZ_le (by omega) hx : _ ↔ 0 ≤ x) kt kf; z_if_ge hd ht e.1 e.2
theorem c_icmp_ge {x y off : Int} {tgt : Nat} (hd : decode M.2.1 pc = .ok (.if_icmp .ge off, 3)) (ht : (pc : Int) + off = (tgt : Int)) (hx : rI x) (hy : rI y) (kt : y ≤ x → Z g l M tgt ls st h Q) (kf : ¬ (y ≤ x) → Z g l M (pc + 3) ls st h Q) : Z g l M pc ls (.int (iZ y) :: .int (iZ x) :: st) h Q := have e := Z.cast (iZ_le hy hx : _ ↔ y ≤ x) kt kf; z_icmp_ge hd ht e.1 e.2
theorem c_if_gt {x off : Int} {tgt : Nat} (hd : decode M.2.1 pc = .ok (.ifCond .gt off, 3)) (ht : (pc : Int) + off = (tgt : Int)) (hx : rI x) (kt : 0 < x → Z g l M tgt ls st h Q) (kf : ¬ (0 < x) → Z g l M (pc + 3) ls st h Q) : Z g l M pc ls (.int (iZ x) :: st) h Q := have e := Z.cast (iZ_lt (by omega) hx : _ ↔ 0 < x) kt kf; z_if_gt hd ht e.1 e.2
theorem c_icmp_gt {x y off : Int} {tgt : Nat} (hd : decode M.2.1 pc = .ok (.if_icmp .gt off, 3)) (ht : (pc : Int) + off = (tgt : Int)) (hx : rI x) (hy : rI y) (kt : y < x → Z g l M tgt ls st h Q) (kf : ¬ (y < x) → Z g l M (pc + 3) ls st h Q) : Z g l M pc ls (.int (iZ y) :: .int (iZ x) :: st) h Q := have e := Z.cast (iZ_lt hy hx : _ ↔ y < x) kt kf; z_icmp_gt hd ht e.1 e.2
theorem c_if_le {x off : Int} {tgt : Nat} (hd : decode M.2.1 pc = .ok (.ifCond .le off, 3)) (ht : (pc : Int) + off = (tgt : Int)) (hx : rI x) (kt : x ≤ 0 → Z g l M tgt ls st h Q) (kf : ¬ (x ≤ 0) → Z g l M (pc + 3) ls st h Q) : Z g l M pc ls (.int (iZ x) :: st) h Q := have e := Z.cast (iZ_le hx (by omega) : _ ↔ x ≤ 0) kt kf; z_if_le hd ht e.1 e.2
theorem c_icmp_le {x y off : Int} {tgt : Nat} (hd : decode M.2.1 pc = .ok (.if_icmp .le off, 3)) (ht : (pc : Int) + off = (tgt : Int)) (hx : rI x) (hy : rI y) (kt : x ≤ y → Z g l M tgt ls st h Q) (kf : ¬ (x ≤ y) → Z g l M (pc + 3) ls st h Q) : Z g l M pc ls (.int (iZ y) :: .int (iZ x) :: st) h Q := have e := Z.cast (iZ_le hx hy : _ ↔ x ≤ y) kt kf; z_icmp_le hd ht e.1 e.2
theorem lg_cmp_Z {x y : Int} (hx : rL x) (hy : rL y) : lg_cmp (lZ x) (lZ y) = iZ (if y < x then 1 else if x = y then 0 else -1) := by
  unfold lg_cmp
  simp only [gt_iff_lt, lZ_lt hy hx, lZ_eq hx hy]
  split
  · rfl
  · split <;> rfl
theorem c_lif_eq {x y off : Int} {tgt : Nat} (hd : decode M.2.1 pc = .ok (.lcmp, 1)) (hd2 : decode M.2.1 (pc + 1) = .ok (.ifCond .eq off, 3)) (ht : ((pc + 1 : Nat) : Int) + off = (tgt : Int)) (hx : rL x) (hy : rL y) (kt : x = y → Z g l M tgt ls st h Q) (kf : ¬ (x = y) → Z g l M (pc + 1 + 3) ls st h Q) : Z g l M pc ls (.long (lZ y) :: .long (lZ x) :: st) h Q := by
  refine z_lcmp hd ?_
  rw [lg_cmp_Z hx hy]
  refine c_if_eq hd2 ht (by split <;> (try split) <;> omega) (fun q => kt ?_) (fun q => kf ?_)
  · split at q <;> (try split at q) <;> omega
  · split at q <;> (try split at q) <;> omega
theorem c_lif_ne {x y off : Int} {tgt : Nat} (hd : decode M.2.1 pc = .ok (.lcmp, 1)) (hd2 : decode M.2.1 (pc + 1) = .ok (.ifCond .ne off, 3)) (ht : ((pc + 1 : Nat) : Int) + off = (tgt : Int)) (hx : rL x) (hy : rL y) (kt : ¬ x = y → Z g l M tgt ls st h Q) (kf : ¬ (¬ x = y) → Z g l M (pc + 1 + 3) ls st h Q) : Z g l M pc ls (.long (lZ y) :: .long (lZ x) :: st) h Q := by
  refine z_lcmp hd ?_
  rw [lg_cmp_Z hx hy]
  refine c_if_ne hd2 ht (by split <;> (try split) <;> omega) (fun q => kt ?_) (fun q => kf ?_)
  · split at q <;> (try split at q) <;> omega
  · split at q <;> (try split at q) <;> omega
theorem c_lif_lt {x y off : Int} {tgt : Nat} (hd : decode M.2.1 pc = .ok (.lcmp, 1)) (hd2 : decode M.2.1 (pc + 1) = .ok (.ifCond .lt off, 3)) (ht : ((pc + 1 : Nat) : Int) + off = (tgt : Int)) (hx : rL x) (hy : rL y) (kt : x < y → Z g l M tgt ls st h Q) (kf : ¬ (x < y) → Z g l M (pc + 1 + 3) ls st h Q) : Z g l M pc ls (.long (lZ y) :: .long (lZ x) :: st) h Q := by
  refine z_lcmp hd ?_
  rw [lg_cmp_Z hx hy]
  refine c_if_lt hd2 ht (by split <;> (try split) <;> omega) (fun q => kt ?_) (fun q => kf ?_)
  · split at q <;> (try split at q) <;> omega
  · split at q <;> (try split at q) <;> omega
theorem c_lif_ge {x y off : Int} {tgt : Nat} (hd : decode M.2.1 pc = .ok (.lcmp, 1)) (hd2 : decode M.2.1 (pc + 1) = .ok (.ifCond .ge off, 3)) (ht : ((pc + 1 : Nat) : Int) + off = (tgt : Int)) (hx : rL x) (hy : rL y) (kt : y ≤ x → Z g l M tgt ls st h Q) (kf : ¬ (y ≤ x) → Z g l M (pc + 1 + 3) ls st h Q) : Z g l M pc ls (.long (lZ y) :: .long (lZ x) :: st) h Q := by
  refine z_lcmp hd ?_
  rw [lg_cmp_Z hx hy]
  refine c_if_ge hd2 ht (by split <;> (try split) <;> omega) (fun q => kt ?_) (fun q => kf ?_)
  · split at q <;> (try split at q) <;> omega
  · split at q <;> (try split at q) <;> omega
theorem c_lif_gt {x y off : Int} {tgt : Nat} (hd : decode M.2.1 pc = .ok (.lcmp, 1)) (hd2 : decode M.2.1 (pc + 1) = .ok (.ifCond .gt off, 3)) (ht : ((pc + 1 : Nat) : Int) + off = (tgt : Int)) (hx : rL x) (hy : rL y) (kt : y < x → Z g l M tgt ls st h Q) (kf : ¬ (y < x) → Z g l M (pc + 1 + 3) ls st h Q) : Z g l M pc ls (.long (lZ y) :: .long (lZ x) :: st) h Q := by
  refine z_lcmp hd ?_
  rw [lg_cmp_Z hx hy]
  refine c_if_gt hd2 ht (by split <;> (try split) <;> omega) (fun q => kt ?_) (fun q => kf ?_)
  · split at q <;> (try split at q) <;> omega
  · split at q <;> (try split at q) <;> omega
theorem c_lif_le {x y off : Int} {tgt : Nat} (hd : decode M.2.1 pc = .ok (.lcmp, 1)) (hd2 : decode M.2.1 (pc + 1) = .ok (.ifCond .le off, 3)) (ht : ((pc + 1 : Nat) : Int) + off = (tgt : Int)) (hx : rL x) (hy : rL y) (kt : x ≤ y → Z g l M tgt ls st h Q) (kf : ¬ (x ≤ y) → Z g l M (pc + 1 + 3) ls st h Q) : Z g l M pc ls (.long (lZ y) :: .long (lZ x) :: st) h Q := by
  refine z_lcmp hd ?_
  rw [lg_cmp_Z hx hy]
  refine c_if_le hd2 ht (by split <;> (try split) <;> omega) (fun q => kt ?_) (fun q => kf ?_)
  · split at q <;> (try split at q) <;> omega
  · split at q <;> (try split at q) <;> omega
theorem c_getI {a ci kf index : Nat} (hd : decode M.2.1 pc = .ok (.getfield index, 3)) (hK : (K a).1 = 10 + ci) (hc : ci < 10) (hk : kf < zN ci) (hs : zsort (zty ci kf) = 0) (hw : Cond.fieldLink M.1.cls index (zTT ci kf).1 (zTT ci kf).2.1 (zTT ci kf).2.2.1 ∈ gw) (k : Z g l M (pc + 3) ls (.int (iZ (J a kf)) :: st) (K, zi J, zj P, R, n, s0) Q) : Z g l M pc ls (.ref a :: st) (K, zi J, zj P, R, n, s0) Q := z_getI hd hK hc hk hs hw k
theorem c_getL {a ci kf index : Nat} (hd : decode M.2.1 pc = .ok (.getfield index, 3)) (hK : (K a).1 = 10 + ci) (hc : ci < 10) (hk : kf < zN ci) (hs : zsort (zty ci kf) = 1) (hw : Cond.fieldLink M.1.cls index (zTT ci kf).1 (zTT ci kf).2.1 (zTT ci kf).2.2.1 ∈ gw) (k : Z g l M (pc + 3) ls (.long (lZ (P a kf)) :: st) (K, zi J, zj P, R, n, s0) Q) : Z g l M pc ls (.ref a :: st) (K, zi J, zj P, R, n, s0) Q := z_getL hd hK hc hk hs hw k
theorem c_putI {a ci kf index : Nat} {x : Int} (hd : decode M.2.1 pc = .ok (.putfield index, 3)) (hK : (K a).1 = 10 + ci) (hc : ci < 10) (hk : kf < zN ci) (hs : zty ci kf = .int) (hf : zfinok M ci kf = true) (hw : Cond.fieldLink M.1.cls index (zTT ci kf).1 (zTT ci kf).2.1 (zTT ci kf).2.2.1 ∈ gw) (k : Z g l M (pc + 3) ls st (K, zi (zup J a kf x), zj P, R, n, s0) Q) : Z g l M pc ls (.int (iZ x) :: .ref a :: st) (K, zi J, zj P, R, n, s0) Q := z_putI hd hK hc hk (by rw [hs]; rfl) hf (by rw [hs]; rfl) (by rw [hs]; rfl) hw (by rw [zup_zi]; exact k)
theorem c_putZ {a ci kf index : Nat} {x : Int} (hd : decode M.2.1 pc = .ok (.putfield index, 3)) (hK : (K a).1 = 10 + ci) (hc : ci < 10) (hk : kf < zN ci) (hs : zty ci kf = .boolean) (hf : zfinok M ci kf = true) (hx : x = 0 ∨ x = 1) (hw : Cond.fieldLink M.1.cls index (zTT ci kf).1 (zTT ci kf).2.1 (zTT ci kf).2.2.1 ∈ gw) (k : Z g l M (pc + 3) ls st (K, zi (zup J a kf x), zj P, R, n, s0) Q) : Z g l M pc ls (.int (iZ x) :: .ref a :: st) (K, zi J, zj P, R, n, s0) Q := z_putI hd hK hc hk (by rw [hs]; rfl) hf (by rw [hs]; rcases hx with rfl | rfl <;> rfl) (by rw [hs]; rcases hx with rfl | rfl <;> rfl) hw (by rw [zup_zi]; exact k)
theorem c_putL {a ci kf index : Nat} {x : Int} (hd : decode M.2.1 pc = .ok (.putfield index, 3)) (hK : (K a).1 = 10 + ci) (hc : ci < 10) (hk : kf < zN ci) (hs : zty ci kf = .long) (hf : zfinok M ci kf = true) (hw : Cond.fieldLink M.1.cls index (zTT ci kf).1 (zTT ci kf).2.1 (zTT ci kf).2.2.1 ∈ gw) (k : Z g l M (pc + 3) ls st (K, zi J, zj (zup P a kf x), R, n, s0) Q) : Z g l M pc ls (.long (lZ x) :: .ref a :: st) (K, zi J, zj P, R, n, s0) Q := z_putL hd hK hc hk (by rw [hs]; rfl) hf (by rw [hs]; rfl) (by rw [hs]; rfl) hw (by rw [zup_zj]; exact k)
theorem c_iald {a len : Nat} {j : Int} (hd : decode M.2.1 pc = .ok (.iaload, 1)) (hK : K a = (1, len)) (hj : 0 ≤ j ∧ j < (len : Int)) (hl : (len : Int) ≤ 2147483647) (k : Z g l M (pc + 1) ls (.int (iZ (J a j.toNat)) :: st) (K, zi J, zj P, R, n, s0) Q) : Z g l M pc ls (.int (iZ j) :: .ref a :: st) (K, zi J, zj P, R, n, s0) Q := have e := iZ_nn hl hj; z_iald hd hK e.1 (by rw [e.2]; exact k)
theorem c_bald {a len : Nat} {j : Int} (hd : decode M.2.1 pc = .ok (.baload, 1)) (hK : K a = (3, len)) (hj : 0 ≤ j ∧ j < (len : Int)) (hl : (len : Int) ≤ 2147483647) (k : Z g l M (pc + 1) ls (.int (iZ (J a j.toNat)) :: st) (K, zi J, zj P, R, n, s0) Q) : Z g l M pc ls (.int (iZ j) :: .ref a :: st) (K, zi J, zj P, R, n, s0) Q := have e := iZ_nn hl hj; z_bald hd hK e.1 (by rw [e.2]; exact k)
theorem c_lald {a len : Nat} {j : Int} (hd : decode M.2.1 pc = .ok (.laload, 1)) (hK : K a = (2, len)) (hj : 0 ≤ j ∧ j < (len : Int)) (hl : (len : Int) ≤ 2147483647) (k : Z g l M (pc + 1) ls (.long (lZ (P a j.toNat)) :: st) (K, zi J, zj P, R, n, s0) Q) : Z g l M pc ls (.int (iZ j) :: .ref a :: st) (K, zi J, zj P, R, n, s0) Q := have e := iZ_nn hl hj; z_lald hd hK e.1 (by rw [e.2]; exact k)
theorem c_aald {a len r : Nat} {j : Int} (hd : decode M.2.1 pc = .ok (.aaload, 1)) (hK : K a = (4, len) ∨ K a = (5, len)) (hj : 0 ≤ j ∧ j < (len : Int)) (hl : (len : Int) ≤ 2147483647) (hv : R a j.toNat = some r) (k : Z g l M (pc + 1) ls (.ref r :: st) (K, zi J, zj P, R, n, s0) Q) : Z g l M pc ls (.int (iZ j) :: .ref a :: st) (K, zi J, zj P, R, n, s0) Q := have e := iZ_nn hl hj; z_aald hd hK e.1 (by rw [e.2]; exact hv) k
theorem c_aaldN {a len : Nat} {j : Int} (hd : decode M.2.1 pc = .ok (.aaload, 1)) (hK : K a = (4, len) ∨ K a = (5, len)) (hj : 0 ≤ j ∧ j < (len : Int)) (hl : (len : Int) ≤ 2147483647) (hv : R a j.toNat = none) (k : Z g l M (pc + 1) ls (.null :: st) (K, zi J, zj P, R, n, s0) Q) : Z g l M pc ls (.int (iZ j) :: .ref a :: st) (K, zi J, zj P, R, n, s0) Q := have e := iZ_nn hl hj; z_aaldN hd hK e.1 (by rw [e.2]; exact hv) k
theorem c_iast {a len : Nat} {j x : Int} (hd : decode M.2.1 pc = .ok (.iastore, 1)) (hK : K a = (1, len)) (hj : 0 ≤ j ∧ j < (len : Int)) (hl : (len : Int) ≤ 2147483647) (k : Z g l M (pc + 1) ls st (K, zi (zup J a j.toNat x), zj P, R, n, s0) Q) : Z g l M pc ls (.int (iZ x) :: .int (iZ j) :: .ref a :: st) (K, zi J, zj P, R, n, s0) Q := have e := iZ_nn hl hj; z_iast hd hK e.1 (by rw [e.2, zup_zi]; exact k)
theorem c_bast {a len : Nat} {j x : Int} (hd : decode M.2.1 pc = .ok (.bastore, 1)) (hK : K a = (3, len)) (hj : 0 ≤ j ∧ j < (len : Int)) (hl : (len : Int) ≤ 2147483647) (k : Z g l M (pc + 1) ls st (K, zi (zup J a j.toNat (x.bmod 256)), zj P, R, n, s0) Q) : Z g l M pc ls (.int (iZ x) :: .int (iZ j) :: .ref a :: st) (K, zi J, zj P, R, n, s0) Q := have e := iZ_nn hl hj; z_bast hd hK e.1 (by rw [e.2, iZ_byte, zup_zi]; exact k)
theorem c_last {a len : Nat} {j x : Int} (hd : decode M.2.1 pc = .ok (.lastore, 1)) (hK : K a = (2, len)) (hj : 0 ≤ j ∧ j < (len : Int)) (hl : (len : Int) ≤ 2147483647) (k : Z g l M (pc + 1) ls st (K, zi J, zj (zup P a j.toNat x), R, n, s0) Q) : Z g l M pc ls (.long (lZ x) :: .int (iZ j) :: .ref a :: st) (K, zi J, zj P, R, n, s0) Q := have e := iZ_nn hl hj; z_last hd hK e.1 (by rw [e.2, zup_zj]; exact k)
theorem c_aast {a len r kd ci : Nat} {j : Int} (hd : decode M.2.1 pc = .ok (.aastore, 1)) (hK : K a = (kd, len)) (hkc : (kd = 4 ∧ ci = 3) ∨ (kd = 5 ∧ ci = 5)) (hj : 0 ≤ j ∧ j < (len : Int)) (hl : (len : Int) ≤ 2147483647) (hv : (K r).1 = 10 + ci) (k : Z g l M (pc + 1) ls st (K, zi J, zj P, zup R a j.toNat (some r), n, s0) Q) : Z g l M pc ls (.ref r :: .int (iZ j) :: .ref a :: st) (K, zi J, zj P, R, n, s0) Q := have e := iZ_nn hl hj; z_aast hd hK hkc e.1 hv (by rw [e.2]; exact k)
theorem c_aastN {a len : Nat} {j : Int} (hd : decode M.2.1 pc = .ok (.aastore, 1)) (hK : K a = (4, len)) (hj : 0 ≤ j ∧ j < (len : Int)) (hl : (len : Int) ≤ 2147483647) (k : Z g l M (pc + 1) ls st (K, zi J, zj P, zup R a j.toNat none, n, s0) Q) : Z g l M pc ls (.null :: .int (iZ j) :: .ref a :: st) (K, zi J, zj P, R, n, s0) Q := have e := iZ_nn hl hj; z_aastN hd hK e.1 (by rw [e.2]; exact k)
theorem c_alen {a len kd : Nat} (hd : decode M.2.1 pc = .ok (.arraylength, 1)) (hK : K a = (kd, len)) (hk : kd = 1 ∨ kd = 2 ∨ kd = 3) (k : Z g l M (pc + 1) ls (.int (iZ len) :: st) (K, zi J, zj P, R, n, s0) Q) : Z g l M pc ls (.ref a :: st) (K, zi J, zj P, R, n, s0) Q := z_alen hd hK hk (by rw [show Int32.ofNat len = iZ len from Int32.ofInt_eq_ofNat.symm]; exact k)
theorem c_iald_old {r len : Nat} {j : Int} {f : Nat → Int} (hd : decode M.2.1 pc = .ok (.iaload, 1)) (hr : r < 4) (hg : g.2.2.2.2 r = (len, fun j => iZ (f j))) (hj : 0 ≤ j ∧ j < (len : Int)) (hl : (len : Int) ≤ 2147483647) (k : Z g l M (pc + 1) ls (.int (iZ (f j.toNat)) :: st) h Q) : Z g l M pc ls (.int (iZ j) :: .ref r :: st) h Q := have e := iZ_nn hl hj; z_iald_old hd hr (by rw [hg]; exact e.1) (by rw [hg, e.2]; exact k)
theorem c_alen_old {r len : Nat} {f : Nat → Int} (hd : decode M.2.1 pc = .ok (.arraylength, 1)) (hr : r < 4) (hg : g.2.2.2.2 r = (len, fun j => iZ (f j))) (k : Z g l M (pc + 1) ls (.int (iZ len) :: st) h Q) : Z g l M pc ls (.ref r :: st) h Q := z_alen_old hd hr (by rw [hg, show Int32.ofNat len = iZ len from Int32.ofInt_eq_ofNat.symm]; exact k)
theorem c_newi {x : Int} (hd : decode M.2.1 pc = .ok (.newarray .int, 2)) (hw : Cond.arrayClass .int ∈ gw) (h0 : 0 ≤ x ∧ x ≤ 60000000) (k : Z g l M (pc + 2) ls (.ref n :: st) (zkp K n (1, x.toNat), zi (zupA J n (fun _ => 0)), zj P, R, n + 1, s0 + x.toNat) Q) : Z g l M pc ls (.int (iZ x) :: st) (K, zi J, zj P, R, n, s0) Q := have e := iZ_clamp (j := x) ⟨h0.1, by omega⟩; z_newi hd hw e.2 e.1 (by omega) (by rw [show zupA (zi J) n (fun _ => 0) = zi (zupA J n (fun _ => 0)) from zupA_zi (f := fun _ => 0)]; exact k)
theorem c_newb {x : Int} (hd : decode M.2.1 pc = .ok (.newarray .byte, 2)) (hw : Cond.arrayClass .byte ∈ gw) (h0 : 0 ≤ x ∧ x ≤ 60000000) (k : Z g l M (pc + 2) ls (.ref n :: st) (zkp K n (3, x.toNat), zi (zupA J n (fun _ => 0)), zj P, R, n + 1, s0 + x.toNat) Q) : Z g l M pc ls (.int (iZ x) :: st) (K, zi J, zj P, R, n, s0) Q := have e := iZ_clamp (j := x) ⟨h0.1, by omega⟩; z_newb hd hw e.2 e.1 (by omega) (by rw [show zupA (zi J) n (fun _ => 0) = zi (zupA J n (fun _ => 0)) from zupA_zi (f := fun _ => 0)]; exact k)
theorem c_newl {x : Int} (hd : decode M.2.1 pc = .ok (.newarray .long, 2)) (hw : Cond.arrayClass .long ∈ gw) (h0 : 0 ≤ x ∧ x ≤ 60000000) (k : Z g l M (pc + 2) ls (.ref n :: st) (zkp K n (2, x.toNat), zi J, zj (zupA P n (fun _ => 0)), R, n + 1, s0 + x.toNat) Q) : Z g l M pc ls (.int (iZ x) :: st) (K, zi J, zj P, R, n, s0) Q := have e := iZ_clamp (j := x) ⟨h0.1, by omega⟩; z_newl hd hw e.2 e.1 (by omega) (by rw [show zupA (zj P) n (fun _ => 0) = zj (zupA P n (fun _ => 0)) from zupA_zj (f := fun _ => 0)]; exact k)
theorem c_newq {index kd ci : Nat} {x : Int} (hd : decode M.2.1 pc = .ok (.anewarray index, 3)) (hkc : (kd = 4 ∧ ci = 3) ∨ (kd = 5 ∧ ci = 5)) (hw : Cond.classLink M.1.cls index (zRR ci) ∈ gw) (h0 : 0 ≤ x ∧ x ≤ 60000000) (k : Z g l M (pc + 3) ls (.ref n :: st) (zkp K n (kd, x.toNat), zi J, zj P, zupA R n (fun _ => none), n + 1, s0 + x.toNat) Q) : Z g l M pc ls (.int (iZ x) :: st) (K, zi J, zj P, R, n, s0) Q := have e := iZ_clamp (j := x) ⟨h0.1, by omega⟩; z_newq hd hkc hw e.2 e.1 (by omega) k
theorem c_new {index ci : Nat} (hd : decode M.2.1 pc = .ok (.new index, 3)) (hc : ci < 10) (hw : Cond.classLink M.1.cls index (zRR ci) ∈ gw) (hi : Cond.instantiable (zRR ci) (zN ci) ∈ gw) (hini : Cond.initialized (zRR ci) ∈ gw) (k : Z g l M (pc + 3) ls (.ref n :: st) (zkp K n (10 + ci, 0), zi (zupA J n (fun _ => 0)), zj (zupA P n (fun _ => 0)), zupA R n (fun _ => none), n + 1, s0 + zN ci) Q) : Z g l M pc ls st (K, zi J, zj P, R, n, s0) Q := z_new hd hc hw hi hini (by rw [show zupA (zi J) n (fun _ => 0) = zi (zupA J n (fun _ => 0)) from zupA_zi (f := fun _ => 0), show zupA (zj P) n (fun _ => 0) = zj (zupA P n (fun _ => 0)) from zupA_zj (f := fun _ => 0)]; exact k)
theorem va_cpy_zi {J : Nat → Nat → Int} {a b sp dp m : Nat} : va_cpy (zi J a) (zi J b) sp dp m = fun j => iZ (va_cpy (J a) (J b) sp dp m j) := by
  funext j; simp only [va_cpy, zi]; split <;> rfl
theorem c_copyi {a b la lb index : Nat} {sp dp m : Int} (hd : decode M.2.1 pc = .ok (.invokestatic index, 3)) (hl : Cond.methodLink M.1.cls index arraycopyName ∈ gw) (hnat : Cond.native arraycopyName ∈ gw) (hsta : Cond.static arraycopyName ∈ gw) (hini : Cond.initialized "java/lang/System" ∈ gw) (hKa : K a = (1, la)) (hKb : K b = (1, lb)) (h1 : 0 ≤ sp ∧ 0 ≤ dp ∧ 0 ≤ m) (h4 : sp + m ≤ la) (h5 : dp + m ≤ lb) (hla : (la : Int) ≤ 2147483647) (hlb : (lb : Int) ≤ 2147483647) (hfr : 1 ≤ M.2.2.2.2.1) (hlo : (st.map fun v => v.category).sum + (nativeFrameWords "java/lang/System" "arraycopy" 5 + 11) ≤ M.2.2.2.2.2)
    (k : Z g l M (pc + 3) ls st (K, zi (zupA J b (va_cpy (J a) (J b) sp.toNat dp.toNat m.toNat)), zj P, R, n, s0) Q) : Z g l M pc ls (.int (iZ m) :: .int (iZ dp) :: .ref b :: .int (iZ sp) :: .ref a :: st) (K, zi J, zj P, R, n, s0) Q := by
  have e1 := iZ_clamp (j := sp) ⟨h1.1, by omega⟩
  have e2 := iZ_clamp (j := dp) ⟨h1.2.1, by omega⟩
  have e3 := iZ_clamp (j := m) ⟨h1.2.2, by omega⟩
  refine z_copyi hd hl hnat hsta hini hKa hKb e1.2 e2.2 e3.2 (by rw [e1.1, e3.1]; omega) (by rw [e2.1, e3.1]; omega) hfr hlo ?_
  rw [e1.1, e2.1, e3.1, va_cpy_zi, zupA_zi]
  exact k
theorem c_clone {a len index : Nat} (hd : decode M.2.1 pc = .ok (.invokevirtual index, 3)) (hl : Cond.methodLink M.1.cls index ⟨"[I", "clone", "()Ljava/lang/Object;"⟩ ∈ gw) (hsm : Cond.sameMethod "[I" "java/lang/Object" "clone" "()Ljava/lang/Object;" ∈ gw) (hnat : Cond.native ⟨"java/lang/Object", "clone", "()Ljava/lang/Object;"⟩ ∈ gw) (hinst : Cond.instanceMethod ⟨"java/lang/Object", "clone", "()Ljava/lang/Object;"⟩ ∈ gw)
    (hsel : Cond.selects "[I" ⟨"[I", "clone", "()Ljava/lang/Object;"⟩ ⟨"java/lang/Object", "clone", "()Ljava/lang/Object;"⟩ ∈ gw) (hK : K a = (1, len)) (hfr : 1 ≤ M.2.2.2.2.1) (hlo : (st.map fun v => v.category).sum + 14 ≤ M.2.2.2.2.2)
    (k : Z g l M (pc + 3) ls (.ref n :: st) (zkp K n (1, len), zi (zupA J n (J a)), zj P, R, n + 1, s0 + len) Q) : Z g l M pc ls (.ref a :: st) (K, zi J, zj P, R, n, s0) Q := z_clone hd hl hsm hnat hinst hsel hK hfr hlo (by rw [show zupA (zi J) n (zi J a) = zi (zupA J n (J a)) from zupA_zi (f := J a)]; exact k)
theorem c_ireturn {x : Int} (hd : decode M.2.1 pc = .ok (.ireturn, 1)) (hr : M.2.2.2.1 = some .int) (hq : Q (some (.int (iZ x))) h) : Z g l M pc ls [.int (iZ x)] h Q := z_ireturn hd hr hq
theorem c_zreturn {x : Int} (hd : decode M.2.1 pc = .ok (.ireturn, 1)) (hr : M.2.2.2.1 = some .boolean) (hx : x = 0 ∨ x = 1) (hq : Q (some (.int (iZ x))) h) : Z g l M pc ls [.int (iZ x)] h Q := z_zreturn hd hr (by rcases hx with rfl | rfl <;> rfl) hq
end ZCan
/-- locals: what is asked for is there -/
def zsub : List (Option Value) → List (Option Value) → Prop
  | [], _ => True
  | none :: a, b => zsub a b.tail
  | some v :: a, b => b.head? = some (some v) ∧ zsub a b.tail
theorem zsub_get : ∀ (a b : List (Option Value)), zsub a b → ∀ (i : Nat) (v : Value), a[i]? = some (some v) → b[i]? = some (some v)
  | [], b, _, i, v, hv => by simp at hv
  | none :: a, b, hs, 0, v, hv => by simp at hv
  | none :: a, b, hs, i + 1, v, hv => by
    have := zsub_get a b.tail hs i v (by simpa using hv)
    cases b with
    | nil => simp at this
    | cons x b => simpa using this
  | some w :: a, b, hs, 0, v, hv => by
    simp at hv; subst hv
    cases b with
    | nil => simp [zsub] at hs
    | cons x b => simpa [zsub] using hs.1
  | some w :: a, b, hs, i + 1, v, hv => by
    have := zsub_get a b.tail hs.2 i v (by simpa using hv)
    cases b with
    | nil => simp at this
    | cons x b => simpa using this
theorem Z.fg {g : ZG} {l : Launch} {M : ZM} {pc : Nat} {ls ls' : List (Option Value)} {st : List Value} {h : ZH} {Q : Option Value → ZH → Prop} (hs : zsub ls' ls) (k : Z g l M pc ls' st h Q) : Z g l M pc ls st h Q := Z.forget k (zsub_get ls' ls hs)
end
