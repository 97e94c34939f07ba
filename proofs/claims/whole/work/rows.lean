section
-- ===== PART A: goes FIRST, ahead of the names: the tables' words, and 'selects' of the private methods out of them =====
/-- a private method of a class that the tables say can be made, by its rows of tables_1 -/
def lw_okq (q : MethodName × Nat) : Prop := (q.1.cls ≠ "java/lang/invoke/MethodHandle" ∧ q.1.cls ≠ "java/lang/invoke/VarHandle") ∧ Cond.instantiable q.1.cls q.2 ∈ tables_1 ∧ Cond.privateMethod q.1 ∈ tables_1 ∧ Cond.instanceMethod q.1 ∈ tables_1
theorem lw_p0 : lw_okq (⟨"EscalatedForms", "storeDraft", "(I)Z"⟩, 10) := ⟨⟨by decide +kernel, by decide +kernel⟩, List.mem_of_getElem? (i := 15) (by decide +kernel), List.mem_of_getElem? (i := 232) (by decide +kernel), List.mem_of_getElem? (i := 233) (by decide +kernel)⟩
theorem lw_p1 : lw_okq (⟨"EscalatedForms$Draft", "eliminateBehind", "(IIJ)V"⟩, 6) := ⟨⟨by decide +kernel, by decide +kernel⟩, List.mem_of_getElem? (i := 72) (by decide +kernel), List.mem_of_getElem? (i := 252) (by decide +kernel), List.mem_of_getElem? (i := 253) (by decide +kernel)⟩
theorem lw_p2 : lw_okq (⟨"EscalatedForms", "held", "(I)LEscalatedForms$Form;"⟩, 10) := ⟨⟨by decide +kernel, by decide +kernel⟩, List.mem_of_getElem? (i := 15) (by decide +kernel), List.mem_of_getElem? (i := 331) (by decide +kernel), List.mem_of_getElem? (i := 332) (by decide +kernel)⟩
theorem lw_p3 : lw_okq (⟨"EscalatedForms", "takenBy", "(LEscalatedForms$Form;)LEscalatedForms$Taken;"⟩, 10) := ⟨⟨by decide +kernel, by decide +kernel⟩, List.mem_of_getElem? (i := 15) (by decide +kernel), List.mem_of_getElem? (i := 443) (by decide +kernel), List.mem_of_getElem? (i := 444) (by decide +kernel)⟩
theorem lw_p4 : lw_okq (⟨"EscalatedForms$Ellipsoid", "eliminateAhead", "(IJ)V"⟩, 11) := ⟨⟨by decide +kernel, by decide +kernel⟩, List.mem_of_getElem? (i := 106) (by decide +kernel), List.mem_of_getElem? (i := 457) (by decide +kernel), List.mem_of_getElem? (i := 458) (by decide +kernel)⟩
theorem lw_p5 : lw_okq (⟨"EscalatedForms$Ellipsoid", "enter", "(I)V"⟩, 11) := ⟨⟨by decide +kernel, by decide +kernel⟩, List.mem_of_getElem? (i := 106) (by decide +kernel), List.mem_of_getElem? (i := 461) (by decide +kernel), List.mem_of_getElem? (i := 462) (by decide +kernel)⟩
theorem lw_p6 : lw_okq (⟨"EscalatedForms$Ellipsoid", "narrow", "(I)V"⟩, 11) := ⟨⟨by decide +kernel, by decide +kernel⟩, List.mem_of_getElem? (i := 106) (by decide +kernel), List.mem_of_getElem? (i := 475) (by decide +kernel), List.mem_of_getElem? (i := 476) (by decide +kernel)⟩
theorem lw_p7 : lw_okq (⟨"EscalatedForms", "barrierOf", "(LEscalatedForms$Form;I)I"⟩, 10) := ⟨⟨by decide +kernel, by decide +kernel⟩, List.mem_of_getElem? (i := 15) (by decide +kernel), List.mem_of_getElem? (i := 513) (by decide +kernel), List.mem_of_getElem? (i := 514) (by decide +kernel)⟩
theorem lw_p8 : lw_okq (⟨"EscalatedForms$Remainders", "foundBits", "(LEscalatedForms$Form;I)I"⟩, 2) := ⟨⟨by decide +kernel, by decide +kernel⟩, List.mem_of_getElem? (i := 148) (by decide +kernel), List.mem_of_getElem? (i := 521) (by decide +kernel), List.mem_of_getElem? (i := 522) (by decide +kernel)⟩
theorem lw_p9 : lw_okq (⟨"EscalatedForms$Remainders", "worthAhead", "(LEscalatedForms$Form;I)I"⟩, 2) := ⟨⟨by decide +kernel, by decide +kernel⟩, List.mem_of_getElem? (i := 148) (by decide +kernel), List.mem_of_getElem? (i := 529) (by decide +kernel), List.mem_of_getElem? (i := 530) (by decide +kernel)⟩
theorem lw_p10 : lw_okq (⟨"EscalatedForms$Remainders", "slopeOf", "(LEscalatedForms$Form;I)I"⟩, 2) := ⟨⟨by decide +kernel, by decide +kernel⟩, List.mem_of_getElem? (i := 148) (by decide +kernel), List.mem_of_getElem? (i := 536) (by decide +kernel), List.mem_of_getElem? (i := 537) (by decide +kernel)⟩
theorem lw_p11 : lw_okq (⟨"EscalatedForms$Remainders", "countOn", "(II)V"⟩, 2) := ⟨⟨by decide +kernel, by decide +kernel⟩, List.mem_of_getElem? (i := 148) (by decide +kernel), List.mem_of_getElem? (i := 540) (by decide +kernel), List.mem_of_getElem? (i := 541) (by decide +kernel)⟩
theorem lw_p12 : lw_okq (⟨"EscalatedForms", "refusalToGrow", "(LEscalatedForms$Form;)I"⟩, 10) := ⟨⟨by decide +kernel, by decide +kernel⟩, List.mem_of_getElem? (i := 15) (by decide +kernel), List.mem_of_getElem? (i := 595) (by decide +kernel), List.mem_of_getElem? (i := 596) (by decide +kernel)⟩
theorem lw_p13 : lw_okq (⟨"EscalatedForms", "broodOf", "(LEscalatedForms$Form;)LEscalatedForms$Brood;"⟩, 10) := ⟨⟨by decide +kernel, by decide +kernel⟩, List.mem_of_getElem? (i := 15) (by decide +kernel), List.mem_of_getElem? (i := 599) (by decide +kernel), List.mem_of_getElem? (i := 600) (by decide +kernel)⟩
theorem lw_p14 : lw_okq (⟨"EscalatedForms$Brood", "add", "(I)V"⟩, 4) := ⟨⟨by decide +kernel, by decide +kernel⟩, List.mem_of_getElem? (i := 162) (by decide +kernel), List.mem_of_getElem? (i := 619) (by decide +kernel), List.mem_of_getElem? (i := 620) (by decide +kernel)⟩
theorem lw_p15 : lw_okq (⟨"EscalatedForms", "greatestLackOfDraft", "()I"⟩, 10) := ⟨⟨by decide +kernel, by decide +kernel⟩, List.mem_of_getElem? (i := 15) (by decide +kernel), List.mem_of_getElem? (i := 644) (by decide +kernel), List.mem_of_getElem? (i := 645) (by decide +kernel)⟩
def lw_privs_1 : List (MethodName × Nat) := [(⟨"EscalatedForms", "storeDraft", "(I)Z"⟩, 10), (⟨"EscalatedForms$Draft", "eliminateBehind", "(IIJ)V"⟩, 6), (⟨"EscalatedForms", "held", "(I)LEscalatedForms$Form;"⟩, 10), (⟨"EscalatedForms", "takenBy", "(LEscalatedForms$Form;)LEscalatedForms$Taken;"⟩, 10), (⟨"EscalatedForms$Ellipsoid", "eliminateAhead", "(IJ)V"⟩, 11), (⟨"EscalatedForms$Ellipsoid", "enter", "(I)V"⟩, 11), (⟨"EscalatedForms$Ellipsoid", "narrow", "(I)V"⟩, 11), (⟨"EscalatedForms", "barrierOf", "(LEscalatedForms$Form;I)I"⟩, 10), (⟨"EscalatedForms$Remainders", "foundBits", "(LEscalatedForms$Form;I)I"⟩, 2), (⟨"EscalatedForms$Remainders", "worthAhead", "(LEscalatedForms$Form;I)I"⟩, 2), (⟨"EscalatedForms$Remainders", "slopeOf", "(LEscalatedForms$Form;I)I"⟩, 2), (⟨"EscalatedForms$Remainders", "countOn", "(II)V"⟩, 2), (⟨"EscalatedForms", "refusalToGrow", "(LEscalatedForms$Form;)I"⟩, 10), (⟨"EscalatedForms", "broodOf", "(LEscalatedForms$Form;)LEscalatedForms$Brood;"⟩, 10), (⟨"EscalatedForms$Brood", "add", "(I)V"⟩, 4), (⟨"EscalatedForms", "greatestLackOfDraft", "()I"⟩, 10)]
theorem lw_r1 : ∀ q ∈ lw_privs_1, lw_okq q := List.forall_mem_cons.mpr ⟨lw_p0, List.forall_mem_cons.mpr ⟨lw_p1, List.forall_mem_cons.mpr ⟨lw_p2, List.forall_mem_cons.mpr ⟨lw_p3, List.forall_mem_cons.mpr ⟨lw_p4, List.forall_mem_cons.mpr ⟨lw_p5, List.forall_mem_cons.mpr ⟨lw_p6, List.forall_mem_cons.mpr ⟨lw_p7, List.forall_mem_cons.mpr ⟨lw_p8, List.forall_mem_cons.mpr ⟨lw_p9, List.forall_mem_cons.mpr ⟨lw_p10, List.forall_mem_cons.mpr ⟨lw_p11, List.forall_mem_cons.mpr ⟨lw_p12, List.forall_mem_cons.mpr ⟨lw_p13, List.forall_mem_cons.mpr ⟨lw_p14, List.forall_mem_cons.mpr ⟨lw_p15, fun _ h => absurd h List.not_mem_nil⟩⟩⟩⟩⟩⟩⟩⟩⟩⟩⟩⟩⟩⟩⟩⟩
theorem lw_p16 : lw_okq (⟨"EscalatedForms", "claimsBelow", "(I)I"⟩, 10) := ⟨⟨by decide +kernel, by decide +kernel⟩, List.mem_of_getElem? (i := 15) (by decide +kernel), List.mem_of_getElem? (i := 694) (by decide +kernel), List.mem_of_getElem? (i := 695) (by decide +kernel)⟩
theorem lw_p17 : lw_okq (⟨"EscalatedForms$Tree", "firstUnder", "(II)I"⟩, 5) := ⟨⟨by decide +kernel, by decide +kernel⟩, List.mem_of_getElem? (i := 25) (by decide +kernel), List.mem_of_getElem? (i := 711) (by decide +kernel), List.mem_of_getElem? (i := 712) (by decide +kernel)⟩
theorem lw_p18 : lw_okq (⟨"EscalatedForms", "heldSlots", "()I"⟩, 10) := ⟨⟨by decide +kernel, by decide +kernel⟩, List.mem_of_getElem? (i := 15) (by decide +kernel), List.mem_of_getElem? (i := 755) (by decide +kernel), List.mem_of_getElem? (i := 756) (by decide +kernel)⟩
theorem lw_p19 : lw_okq (⟨"EscalatedForms", "presentSheets", "()I"⟩, 10) := ⟨⟨by decide +kernel, by decide +kernel⟩, List.mem_of_getElem? (i := 15) (by decide +kernel), List.mem_of_getElem? (i := 767) (by decide +kernel), List.mem_of_getElem? (i := 768) (by decide +kernel)⟩
theorem lw_p20 : lw_okq (⟨"EscalatedFormsModel", "clearAt", "(I)V"⟩, 34) := ⟨⟨by decide +kernel, by decide +kernel⟩, List.mem_of_getElem? (i := 771) (by decide +kernel), List.mem_of_getElem? (i := 891) (by decide +kernel), List.mem_of_getElem? (i := 892) (by decide +kernel)⟩
theorem lw_p21 : lw_okq (⟨"EscalatedFormsModel", "layEntry", "(IIII)V"⟩, 34) := ⟨⟨by decide +kernel, by decide +kernel⟩, List.mem_of_getElem? (i := 771) (by decide +kernel), List.mem_of_getElem? (i := 895) (by decide +kernel), List.mem_of_getElem? (i := 896) (by decide +kernel)⟩
theorem lw_p22 : lw_okq (⟨"EscalatedFormsModel", "comes", "(I)I"⟩, 34) := ⟨⟨by decide +kernel, by decide +kernel⟩, List.mem_of_getElem? (i := 771) (by decide +kernel), List.mem_of_getElem? (i := 908) (by decide +kernel), List.mem_of_getElem? (i := 909) (by decide +kernel)⟩
theorem lw_p23 : lw_okq (⟨"EscalatedFormsModel", "isLawful", "(I)Z"⟩, 34) := ⟨⟨by decide +kernel, by decide +kernel⟩, List.mem_of_getElem? (i := 771) (by decide +kernel), List.mem_of_getElem? (i := 912) (by decide +kernel), List.mem_of_getElem? (i := 913) (by decide +kernel)⟩
theorem lw_p24 : lw_okq (⟨"EscalatedFormsModel", "detOf", "(III)J"⟩, 34) := ⟨⟨by decide +kernel, by decide +kernel⟩, List.mem_of_getElem? (i := 771) (by decide +kernel), List.mem_of_getElem? (i := 919) (by decide +kernel), List.mem_of_getElem? (i := 920) (by decide +kernel)⟩
theorem lw_p25 : lw_okq (⟨"EscalatedFormsModel", "entryAt", "(III)I"⟩, 34) := ⟨⟨by decide +kernel, by decide +kernel⟩, List.mem_of_getElem? (i := 771) (by decide +kernel), List.mem_of_getElem? (i := 923) (by decide +kernel), List.mem_of_getElem? (i := 924) (by decide +kernel)⟩
theorem lw_p26 : lw_okq (⟨"EscalatedFormsModel", "clearBelow", "(IIJ)V"⟩, 34) := ⟨⟨by decide +kernel, by decide +kernel⟩, List.mem_of_getElem? (i := 771) (by decide +kernel), List.mem_of_getElem? (i := 927) (by decide +kernel), List.mem_of_getElem? (i := 928) (by decide +kernel)⟩
theorem lw_p27 : lw_okq (⟨"EscalatedFormsModel", "copyTo", "(II)V"⟩, 34) := ⟨⟨by decide +kernel, by decide +kernel⟩, List.mem_of_getElem? (i := 771) (by decide +kernel), List.mem_of_getElem? (i := 938) (by decide +kernel), List.mem_of_getElem? (i := 939) (by decide +kernel)⟩
theorem lw_p28 : lw_okq (⟨"EscalatedFormsModel", "hasForm", "(I)Z"⟩, 34) := ⟨⟨by decide +kernel, by decide +kernel⟩, List.mem_of_getElem? (i := 771) (by decide +kernel), List.mem_of_getElem? (i := 946) (by decide +kernel), List.mem_of_getElem? (i := 947) (by decide +kernel)⟩
theorem lw_p29 : lw_okq (⟨"EscalatedFormsModel", "isLetter", "(II)Z"⟩, 34) := ⟨⟨by decide +kernel, by decide +kernel⟩, List.mem_of_getElem? (i := 771) (by decide +kernel), List.mem_of_getElem? (i := 958) (by decide +kernel), List.mem_of_getElem? (i := 959) (by decide +kernel)⟩
theorem lw_p30 : lw_okq (⟨"EscalatedFormsModel", "changeAt", "(IIII)V"⟩, 34) := ⟨⟨by decide +kernel, by decide +kernel⟩, List.mem_of_getElem? (i := 771) (by decide +kernel), List.mem_of_getElem? (i := 989) (by decide +kernel), List.mem_of_getElem? (i := 990) (by decide +kernel)⟩
theorem lw_p31 : lw_okq (⟨"EscalatedFormsModel", "nextStep", "()I"⟩, 34) := ⟨⟨by decide +kernel, by decide +kernel⟩, List.mem_of_getElem? (i := 771) (by decide +kernel), List.mem_of_getElem? (i := 1009) (by decide +kernel), List.mem_of_getElem? (i := 1010) (by decide +kernel)⟩
def lw_privs_2 : List (MethodName × Nat) := [(⟨"EscalatedForms", "claimsBelow", "(I)I"⟩, 10), (⟨"EscalatedForms$Tree", "firstUnder", "(II)I"⟩, 5), (⟨"EscalatedForms", "heldSlots", "()I"⟩, 10), (⟨"EscalatedForms", "presentSheets", "()I"⟩, 10), (⟨"EscalatedFormsModel", "clearAt", "(I)V"⟩, 34), (⟨"EscalatedFormsModel", "layEntry", "(IIII)V"⟩, 34), (⟨"EscalatedFormsModel", "comes", "(I)I"⟩, 34), (⟨"EscalatedFormsModel", "isLawful", "(I)Z"⟩, 34), (⟨"EscalatedFormsModel", "detOf", "(III)J"⟩, 34), (⟨"EscalatedFormsModel", "entryAt", "(III)I"⟩, 34), (⟨"EscalatedFormsModel", "clearBelow", "(IIJ)V"⟩, 34), (⟨"EscalatedFormsModel", "copyTo", "(II)V"⟩, 34), (⟨"EscalatedFormsModel", "hasForm", "(I)Z"⟩, 34), (⟨"EscalatedFormsModel", "isLetter", "(II)Z"⟩, 34), (⟨"EscalatedFormsModel", "changeAt", "(IIII)V"⟩, 34), (⟨"EscalatedFormsModel", "nextStep", "()I"⟩, 34)]
theorem lw_r2 : ∀ q ∈ lw_privs_2, lw_okq q := List.forall_mem_cons.mpr ⟨lw_p16, List.forall_mem_cons.mpr ⟨lw_p17, List.forall_mem_cons.mpr ⟨lw_p18, List.forall_mem_cons.mpr ⟨lw_p19, List.forall_mem_cons.mpr ⟨lw_p20, List.forall_mem_cons.mpr ⟨lw_p21, List.forall_mem_cons.mpr ⟨lw_p22, List.forall_mem_cons.mpr ⟨lw_p23, List.forall_mem_cons.mpr ⟨lw_p24, List.forall_mem_cons.mpr ⟨lw_p25, List.forall_mem_cons.mpr ⟨lw_p26, List.forall_mem_cons.mpr ⟨lw_p27, List.forall_mem_cons.mpr ⟨lw_p28, List.forall_mem_cons.mpr ⟨lw_p29, List.forall_mem_cons.mpr ⟨lw_p30, List.forall_mem_cons.mpr ⟨lw_p31, fun _ h => absurd h List.not_mem_nil⟩⟩⟩⟩⟩⟩⟩⟩⟩⟩⟩⟩⟩⟩⟩⟩
theorem lw_p32 : lw_okq (⟨"EscalatedFormsModel", "layCounts", "(I)V"⟩, 34) := ⟨⟨by decide +kernel, by decide +kernel⟩, List.mem_of_getElem? (i := 771) (by decide +kernel), List.mem_of_getElem? (i := 1021) (by decide +kernel), List.mem_of_getElem? (i := 1022) (by decide +kernel)⟩
theorem lw_p33 : lw_okq (⟨"EscalatedFormsModel", "layLast", "(II)V"⟩, 34) := ⟨⟨by decide +kernel, by decide +kernel⟩, List.mem_of_getElem? (i := 771) (by decide +kernel), List.mem_of_getElem? (i := 1025) (by decide +kernel), List.mem_of_getElem? (i := 1026) (by decide +kernel)⟩
theorem lw_p34 : lw_okq (⟨"EscalatedFormsModel", "seeAt", "(II)V"⟩, 34) := ⟨⟨by decide +kernel, by decide +kernel⟩, List.mem_of_getElem? (i := 771) (by decide +kernel), List.mem_of_getElem? (i := 1029) (by decide +kernel), List.mem_of_getElem? (i := 1030) (by decide +kernel)⟩
theorem lw_p35 : lw_okq (⟨"EscalatedFormsModel", "truantOf", "(I)I"⟩, 34) := ⟨⟨by decide +kernel, by decide +kernel⟩, List.mem_of_getElem? (i := 771) (by decide +kernel), List.mem_of_getElem? (i := 1045) (by decide +kernel), List.mem_of_getElem? (i := 1046) (by decide +kernel)⟩
theorem lw_p36 : lw_okq (⟨"EscalatedFormsModel", "layRests", "(I)V"⟩, 34) := ⟨⟨by decide +kernel, by decide +kernel⟩, List.mem_of_getElem? (i := 771) (by decide +kernel), List.mem_of_getElem? (i := 1053) (by decide +kernel), List.mem_of_getElem? (i := 1054) (by decide +kernel)⟩
theorem lw_p37 : lw_okq (⟨"EscalatedFormsModel", "restsBy", "(II)I"⟩, 34) := ⟨⟨by decide +kernel, by decide +kernel⟩, List.mem_of_getElem? (i := 771) (by decide +kernel), List.mem_of_getElem? (i := 1057) (by decide +kernel), List.mem_of_getElem? (i := 1058) (by decide +kernel)⟩
theorem lw_p38 : lw_okq (⟨"EscalatedFormsModel", "barredBy", "(I)I"⟩, 34) := ⟨⟨by decide +kernel, by decide +kernel⟩, List.mem_of_getElem? (i := 771) (by decide +kernel), List.mem_of_getElem? (i := 1061) (by decide +kernel), List.mem_of_getElem? (i := 1062) (by decide +kernel)⟩
theorem lw_p39 : lw_okq (⟨"EscalatedFormsModel", "ruledAt", "(II)I"⟩, 34) := ⟨⟨by decide +kernel, by decide +kernel⟩, List.mem_of_getElem? (i := 771) (by decide +kernel), List.mem_of_getElem? (i := 1088) (by decide +kernel), List.mem_of_getElem? (i := 1089) (by decide +kernel)⟩
theorem lw_p40 : lw_okq (⟨"EscalatedFormsModel", "lackMany", "(I)I"⟩, 34) := ⟨⟨by decide +kernel, by decide +kernel⟩, List.mem_of_getElem? (i := 771) (by decide +kernel), List.mem_of_getElem? (i := 1096) (by decide +kernel), List.mem_of_getElem? (i := 1097) (by decide +kernel)⟩
theorem lw_p41 : lw_okq (⟨"EscalatedFormsModel", "lowest", "(II)I"⟩, 34) := ⟨⟨by decide +kernel, by decide +kernel⟩, List.mem_of_getElem? (i := 771) (by decide +kernel), List.mem_of_getElem? (i := 1108) (by decide +kernel), List.mem_of_getElem? (i := 1109) (by decide +kernel)⟩
theorem lw_p42 : lw_okq (⟨"EscalatedFormsModel", "beginChildren", "(I)I"⟩, 34) := ⟨⟨by decide +kernel, by decide +kernel⟩, List.mem_of_getElem? (i := 771) (by decide +kernel), List.mem_of_getElem? (i := 1116) (by decide +kernel), List.mem_of_getElem? (i := 1117) (by decide +kernel)⟩
theorem lw_p43 : lw_okq (⟨"EscalatedFormsModel", "nextChild", "()Z"⟩, 34) := ⟨⟨by decide +kernel, by decide +kernel⟩, List.mem_of_getElem? (i := 771) (by decide +kernel), List.mem_of_getElem? (i := 1120) (by decide +kernel), List.mem_of_getElem? (i := 1121) (by decide +kernel)⟩
theorem lw_p44 : lw_okq (⟨"EscalatedFormsModel", "nextRow", "()Z"⟩, 34) := ⟨⟨by decide +kernel, by decide +kernel⟩, List.mem_of_getElem? (i := 771) (by decide +kernel), List.mem_of_getElem? (i := 1124) (by decide +kernel), List.mem_of_getElem? (i := 1125) (by decide +kernel)⟩
theorem lw_p45 : lw_okq (⟨"EscalatedFormsModel", "isChild", "(I)Z"⟩, 34) := ⟨⟨by decide +kernel, by decide +kernel⟩, List.mem_of_getElem? (i := 771) (by decide +kernel), List.mem_of_getElem? (i := 1132) (by decide +kernel), List.mem_of_getElem? (i := 1133) (by decide +kernel)⟩
theorem lw_p46 : lw_okq (⟨"EscalatedFormsModel", "greatestLack", "()I"⟩, 34) := ⟨⟨by decide +kernel, by decide +kernel⟩, List.mem_of_getElem? (i := 771) (by decide +kernel), List.mem_of_getElem? (i := 1140) (by decide +kernel), List.mem_of_getElem? (i := 1141) (by decide +kernel)⟩
theorem lw_p47 : lw_okq (⟨"EscalatedFormsModel", "isNode", "(I)Z"⟩, 34) := ⟨⟨by decide +kernel, by decide +kernel⟩, List.mem_of_getElem? (i := 771) (by decide +kernel), List.mem_of_getElem? (i := 1152) (by decide +kernel), List.mem_of_getElem? (i := 1153) (by decide +kernel)⟩
def lw_privs_3 : List (MethodName × Nat) := [(⟨"EscalatedFormsModel", "layCounts", "(I)V"⟩, 34), (⟨"EscalatedFormsModel", "layLast", "(II)V"⟩, 34), (⟨"EscalatedFormsModel", "seeAt", "(II)V"⟩, 34), (⟨"EscalatedFormsModel", "truantOf", "(I)I"⟩, 34), (⟨"EscalatedFormsModel", "layRests", "(I)V"⟩, 34), (⟨"EscalatedFormsModel", "restsBy", "(II)I"⟩, 34), (⟨"EscalatedFormsModel", "barredBy", "(I)I"⟩, 34), (⟨"EscalatedFormsModel", "ruledAt", "(II)I"⟩, 34), (⟨"EscalatedFormsModel", "lackMany", "(I)I"⟩, 34), (⟨"EscalatedFormsModel", "lowest", "(II)I"⟩, 34), (⟨"EscalatedFormsModel", "beginChildren", "(I)I"⟩, 34), (⟨"EscalatedFormsModel", "nextChild", "()Z"⟩, 34), (⟨"EscalatedFormsModel", "nextRow", "()Z"⟩, 34), (⟨"EscalatedFormsModel", "isChild", "(I)Z"⟩, 34), (⟨"EscalatedFormsModel", "greatestLack", "()I"⟩, 34), (⟨"EscalatedFormsModel", "isNode", "(I)Z"⟩, 34)]
theorem lw_r3 : ∀ q ∈ lw_privs_3, lw_okq q := List.forall_mem_cons.mpr ⟨lw_p32, List.forall_mem_cons.mpr ⟨lw_p33, List.forall_mem_cons.mpr ⟨lw_p34, List.forall_mem_cons.mpr ⟨lw_p35, List.forall_mem_cons.mpr ⟨lw_p36, List.forall_mem_cons.mpr ⟨lw_p37, List.forall_mem_cons.mpr ⟨lw_p38, List.forall_mem_cons.mpr ⟨lw_p39, List.forall_mem_cons.mpr ⟨lw_p40, List.forall_mem_cons.mpr ⟨lw_p41, List.forall_mem_cons.mpr ⟨lw_p42, List.forall_mem_cons.mpr ⟨lw_p43, List.forall_mem_cons.mpr ⟨lw_p44, List.forall_mem_cons.mpr ⟨lw_p45, List.forall_mem_cons.mpr ⟨lw_p46, List.forall_mem_cons.mpr ⟨lw_p47, fun _ h => absurd h List.not_mem_nil⟩⟩⟩⟩⟩⟩⟩⟩⟩⟩⟩⟩⟩⟩⟩⟩
theorem lw_p48 : lw_okq (⟨"EscalatedFormsModel", "layHeights", "()V"⟩, 34) := ⟨⟨by decide +kernel, by decide +kernel⟩, List.mem_of_getElem? (i := 771) (by decide +kernel), List.mem_of_getElem? (i := 1161) (by decide +kernel), List.mem_of_getElem? (i := 1162) (by decide +kernel)⟩
theorem lw_p49 : lw_okq (⟨"EscalatedFormsModel", "claimsBelow", "(I)I"⟩, 34) := ⟨⟨by decide +kernel, by decide +kernel⟩, List.mem_of_getElem? (i := 771) (by decide +kernel), List.mem_of_getElem? (i := 1165) (by decide +kernel), List.mem_of_getElem? (i := 1166) (by decide +kernel)⟩
theorem lw_p50 : lw_okq (⟨"EscalatedFormsModel", "isBelow", "(II)Z"⟩, 34) := ⟨⟨by decide +kernel, by decide +kernel⟩, List.mem_of_getElem? (i := 771) (by decide +kernel), List.mem_of_getElem? (i := 1169) (by decide +kernel), List.mem_of_getElem? (i := 1170) (by decide +kernel)⟩
theorem lw_p51 : lw_okq (⟨"EscalatedFormsModel", "behind", "(I)I"⟩, 34) := ⟨⟨by decide +kernel, by decide +kernel⟩, List.mem_of_getElem? (i := 771) (by decide +kernel), List.mem_of_getElem? (i := 1181) (by decide +kernel), List.mem_of_getElem? (i := 1182) (by decide +kernel)⟩
theorem lw_p52 : lw_okq (⟨"EscalatedFormsModel", "firstUnder", "(II)I"⟩, 34) := ⟨⟨by decide +kernel, by decide +kernel⟩, List.mem_of_getElem? (i := 771) (by decide +kernel), List.mem_of_getElem? (i := 1185) (by decide +kernel), List.mem_of_getElem? (i := 1186) (by decide +kernel)⟩
theorem lw_p53 : lw_okq (⟨"EscalatedFormsModel", "slotsHeld", "()I"⟩, 34) := ⟨⟨by decide +kernel, by decide +kernel⟩, List.mem_of_getElem? (i := 771) (by decide +kernel), List.mem_of_getElem? (i := 1214) (by decide +kernel), List.mem_of_getElem? (i := 1215) (by decide +kernel)⟩
def lw_privs_4 : List (MethodName × Nat) := [(⟨"EscalatedFormsModel", "layHeights", "()V"⟩, 34), (⟨"EscalatedFormsModel", "claimsBelow", "(I)I"⟩, 34), (⟨"EscalatedFormsModel", "isBelow", "(II)Z"⟩, 34), (⟨"EscalatedFormsModel", "behind", "(I)I"⟩, 34), (⟨"EscalatedFormsModel", "firstUnder", "(II)I"⟩, 34), (⟨"EscalatedFormsModel", "slotsHeld", "()I"⟩, 34)]
theorem lw_r4 : ∀ q ∈ lw_privs_4, lw_okq q := List.forall_mem_cons.mpr ⟨lw_p48, List.forall_mem_cons.mpr ⟨lw_p49, List.forall_mem_cons.mpr ⟨lw_p50, List.forall_mem_cons.mpr ⟨lw_p51, List.forall_mem_cons.mpr ⟨lw_p52, List.forall_mem_cons.mpr ⟨lw_p53, fun _ h => absurd h List.not_mem_nil⟩⟩⟩⟩⟩⟩
def lw_privs : List (MethodName × Nat) := lw_privs_1 ++ (lw_privs_2 ++ (lw_privs_3 ++ (lw_privs_4)))
def lw_tbl : List Cond := k2_sels lw_privs ++ tables_1
theorem lw_privs_ok : ∀ q ∈ lw_privs, lw_okq q := by
  show ∀ q ∈ lw_privs_1 ++ (lw_privs_2 ++ (lw_privs_3 ++ (lw_privs_4))), lw_okq q
  exact List.forall_mem_append.mpr ⟨lw_r1, List.forall_mem_append.mpr ⟨lw_r2, List.forall_mem_append.mpr ⟨lw_r3, lw_r4⟩⟩⟩
end
section
def RX0 : String := "EscalatedForms$Brood"
def TX0 : u_T := fun k => match k with
  | 0 => ("EscalatedForms$Brood", "parent", "LEscalatedForms$Form;", false)
  | 1 => ("EscalatedForms$Brood", "size", "I", false)
  | 2 => ("EscalatedForms$Brood", "square", "I", false)
  | _ => ("EscalatedForms$Brood", "rows", "[I", false)
def tyX0 : Nat → FieldType := fun k => match k with
  | 0 => .object "EscalatedForms$Form"
  | 1 => .int
  | 2 => .int
  | _ => .array .int
theorem nmX0 : ∀ a, a < 4 → ∀ b, b < 4 → a ≠ b → (TX0 a).2.1 ≠ (TX0 b).2.1 := by decide +kernel
theorem tyX0_ok : ∀ k, k < 4 → parseFieldDescriptor (TX0 k).2.2.1 = some (tyX0 k) := by decide +kernel
abbrev cX0_init : ByteArray := prog_2_method_1_code
def yX0_init : MethodName := ⟨RX0, "<init>", "()V"⟩
abbrev cX0_gather : ByteArray := prog_2_method_2_code
def yX0_gather : MethodName := ⟨RX0, "gather", "(LEscalatedForms$Form;ILEscalatedForms$Draft;LEscalatedForms$Ellipsoid;)V"⟩
abbrev cX0_add : ByteArray := prog_2_method_3_code
def yX0_add : MethodName := ⟨RX0, "add", "(I)V"⟩
abbrev cX0_shape : ByteArray := prog_2_method_4_code
def yX0_shape : MethodName := ⟨RX0, "shape", "(ILEscalatedForms$Draft;)Z"⟩
def RX1 : String := "EscalatedForms$Draft"
def TX1 : u_T := fun k => match k with
  | 0 => ("EscalatedForms$Draft", "letters", "I", false)
  | 1 => ("EscalatedForms$Draft", "entries", "[I", true)
  | 2 => ("EscalatedForms$Draft", "det", "I", false)
  | 3 => ("EscalatedForms$Draft", "box", "I", false)
  | 4 => ("EscalatedForms$Draft", "work", "[J", true)
  | _ => ("EscalatedForms$Draft", "chosen", "[I", true)
def tyX1 : Nat → FieldType := fun k => match k with
  | 0 => .int
  | 1 => .array .int
  | 2 => .int
  | 3 => .int
  | 4 => .array .long
  | _ => .array .int
theorem nmX1 : ∀ a, a < 6 → ∀ b, b < 6 → a ≠ b → (TX1 a).2.1 ≠ (TX1 b).2.1 := by decide +kernel
theorem tyX1_ok : ∀ k, k < 6 → parseFieldDescriptor (TX1 k).2.2.1 = some (tyX1 k) := by decide +kernel
abbrev cX1_init : ByteArray := prog_3_method_1_code
def yX1_init : MethodName := ⟨RX1, "<init>", "()V"⟩
abbrev cX1_begin : ByteArray := prog_3_method_2_code
def yX1_begin : MethodName := ⟨RX1, "begin", "(I)V"⟩
abbrev cX1_load : ByteArray := prog_3_method_3_code
def yX1_load : MethodName := ⟨RX1, "load", "(LEscalatedForms$Form;)V"⟩
abbrev cX1_get : ByteArray := prog_3_method_4_code
def yX1_get : MethodName := ⟨RX1, "get", "(II)I"⟩
abbrev cX1_set : ByteArray := prog_3_method_5_code
def yX1_set : MethodName := ⟨RX1, "set", "(III)V"⟩
abbrev cX1_paste : ByteArray := prog_3_method_6_code
def yX1_paste : MethodName := ⟨RX1, "paste", "(LEscalatedForms$Form;I)V"⟩
abbrev cX1_multiply : ByteArray := prog_3_method_7_code
def yX1_multiply : MethodName := ⟨RX1, "multiply", "(I)V"⟩
abbrev cX1_exchange : ByteArray := prog_3_method_8_code
def yX1_exchange : MethodName := ⟨RX1, "exchange", "(LEscalatedForms$Form;II)V"⟩
abbrev cX1_addLetter : ByteArray := prog_3_method_9_code
def yX1_addLetter : MethodName := ⟨RX1, "addLetter", "(III)V"⟩
abbrev cX1_reduceOnce : ByteArray := prog_3_method_10_code
def yX1_reduceOnce : MethodName := ⟨RX1, "reduceOnce", "()Z"⟩
abbrev cX1_isInRange : ByteArray := prog_3_method_11_code
def yX1_isInRange : MethodName := ⟨RX1, "isInRange", "()Z"⟩
abbrev cX1_isLawful : ByteArray := prog_3_method_12_code
def yX1_isLawful : MethodName := ⟨RX1, "isLawful", "()Z"⟩
abbrev cX1_determinant : ByteArray := prog_3_method_13_code
def yX1_determinant : MethodName := ⟨RX1, "determinant", "(I)J"⟩
abbrev cX1_eliminateBehind : ByteArray := prog_3_method_14_code
def yX1_eliminateBehind : MethodName := ⟨RX1, "eliminateBehind", "(IIJ)V"⟩
def RX2 : String := "EscalatedForms$Ellipsoid"
def TX2 : u_T := fun k => match k with
  | 0 => ("EscalatedForms$Ellipsoid", "letters", "I", false)
  | 1 => ("EscalatedForms$Ellipsoid", "level", "I", false)
  | 2 => ("EscalatedForms$Ellipsoid", "limit", "I", false)
  | 3 => ("EscalatedForms$Ellipsoid", "isHalf", "Z", false)
  | 4 => ("EscalatedForms$Ellipsoid", "strict", "I", false)
  | 5 => ("EscalatedForms$Ellipsoid", "slopes", "[J", true)
  | 6 => ("EscalatedForms$Ellipsoid", "outer", "[J", true)
  | 7 => ("EscalatedForms$Ellipsoid", "left", "[J", true)
  | 8 => ("EscalatedForms$Ellipsoid", "shift", "[J", true)
  | 9 => ("EscalatedForms$Ellipsoid", "x", "[I", true)
  | _ => ("EscalatedForms$Ellipsoid", "low", "[I", true)
def tyX2 : Nat → FieldType := fun k => match k with
  | 0 => .int
  | 1 => .int
  | 2 => .int
  | 3 => .boolean
  | 4 => .int
  | 5 => .array .long
  | 6 => .array .long
  | 7 => .array .long
  | 8 => .array .long
  | 9 => .array .int
  | _ => .array .int
theorem nmX2 : ∀ a, a < 11 → ∀ b, b < 11 → a ≠ b → (TX2 a).2.1 ≠ (TX2 b).2.1 := by decide +kernel
theorem tyX2_ok : ∀ k, k < 11 → parseFieldDescriptor (TX2 k).2.2.1 = some (tyX2 k) := by decide +kernel
abbrev cX2_init : ByteArray := prog_4_method_1_code
def yX2_init : MethodName := ⟨RX2, "<init>", "()V"⟩
abbrev cX2_openWorths : ByteArray := prog_4_method_2_code
def yX2_openWorths : MethodName := ⟨RX2, "openWorths", "(I[II)V"⟩
abbrev cX2_eliminateAhead : ByteArray := prog_4_method_3_code
def yX2_eliminateAhead : MethodName := ⟨RX2, "eliminateAhead", "(IJ)V"⟩
abbrev cX2_openRows : ByteArray := prog_4_method_4_code
def yX2_openRows : MethodName := ⟨RX2, "openRows", "(LEscalatedForms$Form;I)V"⟩
abbrev cX2_enter : ByteArray := prog_4_method_5_code
def yX2_enter : MethodName := ⟨RX2, "enter", "(I)V"⟩
abbrev cX2_advance : ByteArray := prog_4_method_6_code
def yX2_advance : MethodName := ⟨RX2, "advance", "()Z"⟩
abbrev cX2_narrow : ByteArray := prog_4_method_7_code
def yX2_narrow : MethodName := ⟨RX2, "narrow", "(I)V"⟩
abbrev cX2_worthHere : ByteArray := prog_4_method_8_code
def yX2_worthHere : MethodName := ⟨RX2, "worthHere", "()I"⟩
def RX3 : String := "EscalatedForms$Form"
def TX3 : u_T := fun k => match k with
  | 0 => ("EscalatedForms$Form", "letters", "I", true)
  | 1 => ("EscalatedForms$Form", "entries", "[I", true)
  | 2 => ("EscalatedForms$Form", "det", "I", true)
  | 3 => ("EscalatedForms$Form", "box", "I", true)
  | 4 => ("EscalatedForms$Form", "taken", "LEscalatedForms$Taken;", false)
  | _ => ("EscalatedForms$Form", "remainderBits", "[I", false)
def tyX3 : Nat → FieldType := fun k => match k with
  | 0 => .int
  | 1 => .array .int
  | 2 => .int
  | 3 => .int
  | 4 => .object "EscalatedForms$Taken"
  | _ => .array .int
theorem nmX3 : ∀ a, a < 6 → ∀ b, b < 6 → a ≠ b → (TX3 a).2.1 ≠ (TX3 b).2.1 := by decide +kernel
theorem tyX3_ok : ∀ k, k < 6 → parseFieldDescriptor (TX3 k).2.2.1 = some (tyX3 k) := by decide +kernel
abbrev cX3_init : ByteArray := prog_5_method_1_code
def yX3_init : MethodName := ⟨RX3, "<init>", "(LEscalatedForms$Draft;)V"⟩
abbrev cX3_greatestSquare : ByteArray := prog_5_method_2_code
def yX3_greatestSquare : MethodName := ⟨RX3, "greatestSquare", "()I"⟩
def RX4 : String := "EscalatedForms$Remainders"
def TX4 : u_T := fun k => match k with
  | 0 => ("EscalatedForms$Remainders", "x", "[I", true)
  | _ => ("EscalatedForms$Remainders", "seen", "[B", true)
def tyX4 : Nat → FieldType := fun k => match k with
  | 0 => .array .int
  | _ => .array .byte
theorem nmX4 : ∀ a, a < 2 → ∀ b, b < 2 → a ≠ b → (TX4 a).2.1 ≠ (TX4 b).2.1 := by decide +kernel
theorem tyX4_ok : ∀ k, k < 2 → parseFieldDescriptor (TX4 k).2.2.1 = some (tyX4 k) := by decide +kernel
abbrev cX4_init : ByteArray := prog_6_method_1_code
def yX4_init : MethodName := ⟨RX4, "<init>", "()V"⟩
abbrev cX4_bitsOf : ByteArray := prog_6_method_2_code
def yX4_bitsOf : MethodName := ⟨RX4, "bitsOf", "(LEscalatedForms$Form;I)I"⟩
abbrev cX4_foundBits : ByteArray := prog_6_method_3_code
def yX4_foundBits : MethodName := ⟨RX4, "foundBits", "(LEscalatedForms$Form;I)I"⟩
abbrev cX4_worthAhead : ByteArray := prog_6_method_4_code
def yX4_worthAhead : MethodName := ⟨RX4, "worthAhead", "(LEscalatedForms$Form;I)I"⟩
abbrev cX4_slopeOf : ByteArray := prog_6_method_5_code
def yX4_slopeOf : MethodName := ⟨RX4, "slopeOf", "(LEscalatedForms$Form;I)I"⟩
abbrev cX4_countOn : ByteArray := prog_6_method_6_code
def yX4_countOn : MethodName := ⟨RX4, "countOn", "(II)V"⟩
def RX5 : String := "EscalatedForms$Sheet"
def TX5 : u_T := fun k => match k with
  | 0 => ("EscalatedForms$Sheet", "sort", "I", false)
  | 1 => ("EscalatedForms$Sheet", "size", "I", false)
  | _ => ("EscalatedForms$Sheet", "numbers", "[I", true)
def tyX5 : Nat → FieldType := fun k => match k with
  | 0 => .int
  | 1 => .int
  | _ => .array .int
theorem nmX5 : ∀ a, a < 3 → ∀ b, b < 3 → a ≠ b → (TX5 a).2.1 ≠ (TX5 b).2.1 := by decide +kernel
theorem tyX5_ok : ∀ k, k < 3 → parseFieldDescriptor (TX5 k).2.2.1 = some (tyX5 k) := by decide +kernel
abbrev cX5_init : ByteArray := prog_7_method_1_code
def yX5_init : MethodName := ⟨RX5, "<init>", "()V"⟩
abbrev cX5_isMissing : ByteArray := prog_7_method_2_code
def yX5_isMissing : MethodName := ⟨RX5, "isMissing", "()Z"⟩
abbrev cX5_become : ByteArray := prog_7_method_3_code
def yX5_become : MethodName := ⟨RX5, "become", "(II)V"⟩
abbrev cX5_has : ByteArray := prog_7_method_4_code
def yX5_has : MethodName := ⟨RX5, "has", "(II)Z"⟩
abbrev cX5_put : ByteArray := prog_7_method_5_code
def yX5_put : MethodName := ⟨RX5, "put", "(II)V"⟩
def RX6 : String := "EscalatedForms$Taken"
def TX6 : u_T := fun k => match k with
  | 0 => ("EscalatedForms$Taken", "counts", "[I", true)
  | _ => ("EscalatedForms$Taken", "firsts", "[I", true)
def tyX6 : Nat → FieldType := fun k => match k with
  | 0 => .array .int
  | _ => .array .int
theorem nmX6 : ∀ a, a < 2 → ∀ b, b < 2 → a ≠ b → (TX6 a).2.1 ≠ (TX6 b).2.1 := by decide +kernel
theorem tyX6_ok : ∀ k, k < 2 → parseFieldDescriptor (TX6 k).2.2.1 = some (tyX6 k) := by decide +kernel
abbrev cX6_init : ByteArray := prog_8_method_1_code
def yX6_init : MethodName := ⟨RX6, "<init>", "(LEscalatedForms$Form;LEscalatedForms$Ellipsoid;)V"⟩
abbrev cX6_firstLacking : ByteArray := prog_8_method_2_code
def yX6_firstLacking : MethodName := ⟨RX6, "firstLacking", "()I"⟩
def RX7 : String := "EscalatedForms$Tree"
def TX7 : u_T := fun k => match k with
  | 0 => ("EscalatedForms$Tree", "size", "I", false)
  | 1 => ("EscalatedForms$Tree", "forms", "[LEscalatedForms$Form;", true)
  | 2 => ("EscalatedForms$Tree", "above", "[I", true)
  | 3 => ("EscalatedForms$Tree", "which", "[I", true)
  | _ => ("EscalatedForms$Tree", "heights", "[I", true)
def tyX7 : Nat → FieldType := fun k => match k with
  | 0 => .int
  | 1 => .array (.object "EscalatedForms$Form")
  | 2 => .array .int
  | 3 => .array .int
  | _ => .array .int
theorem nmX7 : ∀ a, a < 5 → ∀ b, b < 5 → a ≠ b → (TX7 a).2.1 ≠ (TX7 b).2.1 := by decide +kernel
theorem tyX7_ok : ∀ k, k < 5 → parseFieldDescriptor (TX7 k).2.2.1 = some (tyX7 k) := by decide +kernel
abbrev cX7_init : ByteArray := prog_9_method_1_code
def yX7_init : MethodName := ⟨RX7, "<init>", "()V"⟩
abbrev cX7_isNode : ByteArray := prog_9_method_2_code
def yX7_isNode : MethodName := ⟨RX7, "isNode", "(I)Z"⟩
abbrev cX7_become : ByteArray := prog_9_method_3_code
def yX7_become : MethodName := ⟨RX7, "become", "(LEscalatedForms$Tree;)V"⟩
abbrev cX7_truncate : ByteArray := prog_9_method_4_code
def yX7_truncate : MethodName := ⟨RX7, "truncate", "(I)V"⟩
abbrev cX7_add : ByteArray := prog_9_method_5_code
def yX7_add : MethodName := ⟨RX7, "add", "(LEscalatedForms$Form;II)I"⟩
abbrev cX7_under : ByteArray := prog_9_method_6_code
def yX7_under : MethodName := ⟨RX7, "under", "(I)I"⟩
abbrev cX7_isWithin : ByteArray := prog_9_method_7_code
def yX7_isWithin : MethodName := ⟨RX7, "isWithin", "(II)Z"⟩
abbrev cX7_heightOf : ByteArray := prog_9_method_8_code
def yX7_heightOf : MethodName := ⟨RX7, "heightOf", "(I)I"⟩
abbrev cX7_leavesOf : ByteArray := prog_9_method_9_code
def yX7_leavesOf : MethodName := ⟨RX7, "leavesOf", "(I)I"⟩
abbrev cX7_firstUnder : ByteArray := prog_9_method_10_code
def yX7_firstUnder : MethodName := ⟨RX7, "firstUnder", "(II)I"⟩
abbrev cX7_following : ByteArray := prog_9_method_11_code
def yX7_following : MethodName := ⟨RX7, "following", "(I)I"⟩
abbrev cX7_remove : ByteArray := prog_9_method_12_code
def yX7_remove : MethodName := ⟨RX7, "remove", "(I)V"⟩
def RX8 : String := "EscalatedForms"
def TX8 : u_T := fun k => match k with
  | 0 => ("EscalatedForms", "slots", "[LEscalatedForms$Form;", true)
  | 1 => ("EscalatedForms", "keptSlots", "[LEscalatedForms$Form;", true)
  | 2 => ("EscalatedForms", "tree", "LEscalatedForms$Tree;", true)
  | 3 => ("EscalatedForms", "keptTree", "LEscalatedForms$Tree;", true)
  | 4 => ("EscalatedForms", "isKept", "Z", false)
  | 5 => ("EscalatedForms", "sheets", "[LEscalatedForms$Sheet;", true)
  | 6 => ("EscalatedForms", "draft", "LEscalatedForms$Draft;", true)
  | 7 => ("EscalatedForms", "ellipsoid", "LEscalatedForms$Ellipsoid;", true)
  | 8 => ("EscalatedForms", "remainders", "LEscalatedForms$Remainders;", true)
  | _ => ("EscalatedForms", "brood", "LEscalatedForms$Brood;", true)
def tyX8 : Nat → FieldType := fun k => match k with
  | 0 => .array (.object "EscalatedForms$Form")
  | 1 => .array (.object "EscalatedForms$Form")
  | 2 => .object "EscalatedForms$Tree"
  | 3 => .object "EscalatedForms$Tree"
  | 4 => .boolean
  | 5 => .array (.object "EscalatedForms$Sheet")
  | 6 => .object "EscalatedForms$Draft"
  | 7 => .object "EscalatedForms$Ellipsoid"
  | 8 => .object "EscalatedForms$Remainders"
  | _ => .object "EscalatedForms$Brood"
theorem nmX8 : ∀ a, a < 10 → ∀ b, b < 10 → a ≠ b → (TX8 a).2.1 ≠ (TX8 b).2.1 := by decide +kernel
theorem tyX8_ok : ∀ k, k < 10 → parseFieldDescriptor (TX8 k).2.2.1 = some (tyX8 k) := by decide +kernel
abbrev cX8_init : ByteArray := prog_1_method_1_code
def yX8_init : MethodName := ⟨RX8, "<init>", "()V"⟩
abbrev cX8_single : ByteArray := prog_1_method_2_code
def yX8_single : MethodName := ⟨RX8, "single", "(II)I"⟩
abbrev cX8_form : ByteArray := prog_1_method_3_code
def yX8_form : MethodName := ⟨RX8, "form", "(IIII)I"⟩
abbrev cX8_spread : ByteArray := prog_1_method_4_code
def yX8_spread : MethodName := ⟨RX8, "spread", "(III)I"⟩
abbrev cX8_clear : ByteArray := prog_1_method_5_code
def yX8_clear : MethodName := ⟨RX8, "clear", "(I)I"⟩
abbrev cX8_entry : ByteArray := prog_1_method_6_code
def yX8_entry : MethodName := ⟨RX8, "entry", "(IIII)I"⟩
abbrev cX8_at : ByteArray := prog_1_method_7_code
def yX8_at : MethodName := ⟨RX8, "at", "(III)I"⟩
abbrev cX8_minor : ByteArray := prog_1_method_8_code
def yX8_minor : MethodName := ⟨RX8, "minor", "(II)I"⟩
abbrev cX8_of : ByteArray := prog_1_method_9_code
def yX8_of : MethodName := ⟨RX8, "of", "(II)I"⟩
abbrev cX8_worth : ByteArray := prog_1_method_10_code
def yX8_worth : MethodName := ⟨RX8, "worth", "(IIIII)J"⟩
abbrev cX8_change : ByteArray := prog_1_method_11_code
def yX8_change : MethodName := ⟨RX8, "change", "(IIII)I"⟩
abbrev cX8_swap : ByteArray := prog_1_method_12_code
def yX8_swap : MethodName := ⟨RX8, "swap", "(III)I"⟩
abbrev cX8_scale : ByteArray := prog_1_method_13_code
def yX8_scale : MethodName := ⟨RX8, "scale", "(II)I"⟩
abbrev cX8_join : ByteArray := prog_1_method_14_code
def yX8_join : MethodName := ⟨RX8, "join", "(III)I"⟩
abbrev cX8_reduce : ByteArray := prog_1_method_15_code
def yX8_reduce : MethodName := ⟨RX8, "reduce", "(I)I"⟩
abbrev cX8_same : ByteArray := prog_1_method_16_code
def yX8_same : MethodName := ⟨RX8, "same", "(II)I"⟩
abbrev cX8_unlike : ByteArray := prog_1_method_17_code
def yX8_unlike : MethodName := ⟨RX8, "unlike", "(II)I"⟩
abbrev cX8_takes : ByteArray := prog_1_method_18_code
def yX8_takes : MethodName := ⟨RX8, "takes", "(II)I"⟩
abbrev cX8_vector : ByteArray := prog_1_method_19_code
def yX8_vector : MethodName := ⟨RX8, "vector", "(III)I"⟩
abbrev cX8_truant : ByteArray := prog_1_method_20_code
def yX8_truant : MethodName := ⟨RX8, "truant", "(I)I"⟩
abbrev cX8_exceptions : ByteArray := prog_1_method_21_code
def yX8_exceptions : MethodName := ⟨RX8, "exceptions", "(III)I"⟩
abbrev cX8_exception : ByteArray := prog_1_method_22_code
def yX8_exception : MethodName := ⟨RX8, "exception", "(II)I"⟩
abbrev cX8_residues : ByteArray := prog_1_method_23_code
def yX8_residues : MethodName := ⟨RX8, "residues", "(II)I"⟩
abbrev cX8_barred : ByteArray := prog_1_method_24_code
def yX8_barred : MethodName := ⟨RX8, "barred", "(II)I"⟩
abbrev cX8_rule : ByteArray := prog_1_method_25_code
def yX8_rule : MethodName := ⟨RX8, "rule", "(II)I"⟩
abbrev cX8_claim : ByteArray := prog_1_method_26_code
def yX8_claim : MethodName := ⟨RX8, "claim", "(II)I"⟩
abbrev cX8_lacks : ByteArray := prog_1_method_27_code
def yX8_lacks : MethodName := ⟨RX8, "lacks", "(III)I"⟩
abbrev cX8_certify : ByteArray := prog_1_method_28_code
def yX8_certify : MethodName := ⟨RX8, "certify", "(IIII)I"⟩
abbrev cX8_children : ByteArray := prog_1_method_29_code
def yX8_children : MethodName := ⟨RX8, "children", "(I)I"⟩
abbrev cX8_child : ByteArray := prog_1_method_30_code
def yX8_child : MethodName := ⟨RX8, "child", "(III)I"⟩
abbrev cX8_next : ByteArray := prog_1_method_31_code
def yX8_next : MethodName := ⟨RX8, "next", "(III)I"⟩
abbrev cX8_plant : ByteArray := prog_1_method_32_code
def yX8_plant : MethodName := ⟨RX8, "plant", "(I)I"⟩
abbrev cX8_branch : ByteArray := prog_1_method_33_code
def yX8_branch : MethodName := ⟨RX8, "branch", "(II)I"⟩
abbrev cX8_ofNode : ByteArray := prog_1_method_34_code
def yX8_ofNode : MethodName := ⟨RX8, "ofNode", "(II)I"⟩
abbrev cX8_nodeTo : ByteArray := prog_1_method_35_code
def yX8_nodeTo : MethodName := ⟨RX8, "nodeTo", "(II)I"⟩
abbrev cX8_walk : ByteArray := prog_1_method_36_code
def yX8_walk : MethodName := ⟨RX8, "walk", "(I)I"⟩
abbrev cX8_cut : ByteArray := prog_1_method_37_code
def yX8_cut : MethodName := ⟨RX8, "cut", "(I)I"⟩
abbrev cX8_sheet : ByteArray := prog_1_method_38_code
def yX8_sheet : MethodName := ⟨RX8, "sheet", "(III)I"⟩
abbrev cX8_cell : ByteArray := prog_1_method_39_code
def yX8_cell : MethodName := ⟨RX8, "cell", "(III)I"⟩
abbrev cX8_item : ByteArray := prog_1_method_40_code
def yX8_item : MethodName := ⟨RX8, "item", "(II)J"⟩
abbrev cX8_move : ByteArray := prog_1_method_41_code
def yX8_move : MethodName := ⟨RX8, "move", "(IIIII)I"⟩
abbrev cX8_keep : ByteArray := prog_1_method_42_code
def yX8_keep : MethodName := ⟨RX8, "keep", "()I"⟩
abbrev cX8_back : ByteArray := prog_1_method_43_code
def yX8_back : MethodName := ⟨RX8, "back", "()I"⟩
abbrev cX8_count : ByteArray := prog_1_method_44_code
def yX8_count : MethodName := ⟨RX8, "count", "(I)I"⟩
abbrev cX8_isSlot : ByteArray := prog_1_method_45_code
def yX8_isSlot : MethodName := ⟨RX8, "isSlot", "(I)Z"⟩
abbrev cX8_isSheet : ByteArray := prog_1_method_46_code
def yX8_isSheet : MethodName := ⟨RX8, "isSheet", "(I)Z"⟩
abbrev cX8_isLetter : ByteArray := prog_1_method_47_code
def yX8_isLetter : MethodName := ⟨RX8, "isLetter", "(LEscalatedForms$Form;I)Z"⟩
abbrev cX8_isRule : ByteArray := prog_1_method_48_code
def yX8_isRule : MethodName := ⟨RX8, "isRule", "(I)Z"⟩
abbrev cX8_numbersOf : ByteArray := prog_1_method_49_code
def yX8_numbersOf : MethodName := ⟨RX8, "numbersOf", "(I)[I"⟩
abbrev cX8_triangle : ByteArray := prog_1_method_50_code
def yX8_triangle : MethodName := ⟨RX8, "triangle", "(I)I"⟩
abbrev cX8_held : ByteArray := prog_1_method_51_code
def yX8_held : MethodName := ⟨RX8, "held", "(I)LEscalatedForms$Form;"⟩
abbrev cX8_heldSlots : ByteArray := prog_1_method_52_code
def yX8_heldSlots : MethodName := ⟨RX8, "heldSlots", "()I"⟩
abbrev cX8_presentSheets : ByteArray := prog_1_method_53_code
def yX8_presentSheets : MethodName := ⟨RX8, "presentSheets", "()I"⟩
abbrev cX8_storeDraft : ByteArray := prog_1_method_54_code
def yX8_storeDraft : MethodName := ⟨RX8, "storeDraft", "(I)Z"⟩
abbrev cX8_takenBy : ByteArray := prog_1_method_55_code
def yX8_takenBy : MethodName := ⟨RX8, "takenBy", "(LEscalatedForms$Form;)LEscalatedForms$Taken;"⟩
abbrev cX8_barrierOf : ByteArray := prog_1_method_56_code
def yX8_barrierOf : MethodName := ⟨RX8, "barrierOf", "(LEscalatedForms$Form;I)I"⟩
abbrev cX8_lackingOf : ByteArray := prog_1_method_57_code
def yX8_lackingOf : MethodName := ⟨RX8, "lackingOf", "(LEscalatedForms$Taken;II)I"⟩
abbrev cX8_isClaimed : ByteArray := prog_1_method_58_code
def yX8_isClaimed : MethodName := ⟨RX8, "isClaimed", "(LEscalatedForms$Taken;I)Z"⟩
abbrev cX8_claimsBelow : ByteArray := prog_1_method_59_code
def yX8_claimsBelow : MethodName := ⟨RX8, "claimsBelow", "(I)I"⟩
abbrev cX8_refusalToGrow : ByteArray := prog_1_method_60_code
def yX8_refusalToGrow : MethodName := ⟨RX8, "refusalToGrow", "(LEscalatedForms$Form;)I"⟩
abbrev cX8_broodOf : ByteArray := prog_1_method_61_code
def yX8_broodOf : MethodName := ⟨RX8, "broodOf", "(LEscalatedForms$Form;)LEscalatedForms$Brood;"⟩
abbrev cX8_greatestLackOfDraft : ByteArray := prog_1_method_62_code
def yX8_greatestLackOfDraft : MethodName := ⟨RX8, "greatestLackOfDraft", "()I"⟩
abbrev cX8_squareRoot : ByteArray := prog_1_method_63_code
def yX8_squareRoot : MethodName := ⟨RX8, "squareRoot", "(J)J"⟩
def RX9 : String := "EscalatedFormsModel"
def TX9 : u_T := fun k => match k with
  | 0 => ("EscalatedFormsModel", "entries", "[I", true)
  | 1 => ("EscalatedFormsModel", "letters", "[I", true)
  | 2 => ("EscalatedFormsModel", "nodes", "I", false)
  | 3 => ("EscalatedFormsModel", "under", "[I", true)
  | 4 => ("EscalatedFormsModel", "childOf", "[I", true)
  | 5 => ("EscalatedFormsModel", "keptNodes", "I", false)
  | 6 => ("EscalatedFormsModel", "keptUnder", "[I", true)
  | 7 => ("EscalatedFormsModel", "keptChild", "[I", true)
  | 8 => ("EscalatedFormsModel", "isKept", "Z", false)
  | 9 => ("EscalatedFormsModel", "table", "[J", true)
  | 10 => ("EscalatedFormsModel", "reach", "[J", true)
  | 11 => ("EscalatedFormsModel", "det0", "J", false)
  | 12 => ("EscalatedFormsModel", "box0", "J", false)
  | 13 => ("EscalatedFormsModel", "told", "[J", true)
  | 14 => ("EscalatedFormsModel", "counts", "[I", true)
  | 15 => ("EscalatedFormsModel", "otherCounts", "[I", true)
  | 16 => ("EscalatedFormsModel", "firstAt", "[I", true)
  | 17 => ("EscalatedFormsModel", "x0", "I", false)
  | 18 => ("EscalatedFormsModel", "x1", "I", false)
  | 19 => ("EscalatedFormsModel", "x2", "I", false)
  | 20 => ("EscalatedFormsModel", "rests", "[I", true)
  | 21 => ("EscalatedFormsModel", "ruled", "[I", true)
  | 22 => ("EscalatedFormsModel", "parent", "I", false)
  | 23 => ("EscalatedFormsModel", "truant0", "I", false)
  | 24 => ("EscalatedFormsModel", "bounds", "[I", true)
  | 25 => ("EscalatedFormsModel", "row", "[I", true)
  | 26 => ("EscalatedFormsModel", "isFresh", "Z", false)
  | 27 => ("EscalatedFormsModel", "heights", "[I", true)
  | 28 => ("EscalatedFormsModel", "leaves", "[I", true)
  | 29 => ("EscalatedFormsModel", "directs", "[I", true)
  | 30 => ("EscalatedFormsModel", "newNumber", "[I", true)
  | 31 => ("EscalatedFormsModel", "sorts", "[I", true)
  | 32 => ("EscalatedFormsModel", "sizes", "[I", true)
  | _ => ("EscalatedFormsModel", "numbers", "[I", true)
def tyX9 : Nat → FieldType := fun k => match k with
  | 0 => .array .int
  | 1 => .array .int
  | 2 => .int
  | 3 => .array .int
  | 4 => .array .int
  | 5 => .int
  | 6 => .array .int
  | 7 => .array .int
  | 8 => .boolean
  | 9 => .array .long
  | 10 => .array .long
  | 11 => .long
  | 12 => .long
  | 13 => .array .long
  | 14 => .array .int
  | 15 => .array .int
  | 16 => .array .int
  | 17 => .int
  | 18 => .int
  | 19 => .int
  | 20 => .array .int
  | 21 => .array .int
  | 22 => .int
  | 23 => .int
  | 24 => .array .int
  | 25 => .array .int
  | 26 => .boolean
  | 27 => .array .int
  | 28 => .array .int
  | 29 => .array .int
  | 30 => .array .int
  | 31 => .array .int
  | 32 => .array .int
  | _ => .array .int
theorem nmX9 : ∀ a, a < 34 → ∀ b, b < 34 → a ≠ b → (TX9 a).2.1 ≠ (TX9 b).2.1 := by decide +kernel
theorem tyX9_ok : ∀ k, k < 34 → parseFieldDescriptor (TX9 k).2.2.1 = some (tyX9 k) := by decide +kernel
abbrev cX9_init : ByteArray := prog_11_method_1_code
def yX9_init : MethodName := ⟨RX9, "<init>", "()V"⟩
abbrev cX9_in : ByteArray := prog_11_method_2_code
def yX9_in : MethodName := ⟨RX9, "in", "(JJJ)Z"⟩
abbrev cX9_size : ByteArray := prog_11_method_3_code
def yX9_size : MethodName := ⟨RX9, "size", "(I)I"⟩
abbrev cX9_entryAt : ByteArray := prog_11_method_4_code
def yX9_entryAt : MethodName := ⟨RX9, "entryAt", "(III)I"⟩
abbrev cX9_layEntry : ByteArray := prog_11_method_5_code
def yX9_layEntry : MethodName := ⟨RX9, "layEntry", "(IIII)V"⟩
abbrev cX9_clearAt : ByteArray := prog_11_method_6_code
def yX9_clearAt : MethodName := ⟨RX9, "clearAt", "(I)V"⟩
abbrev cX9_copyTo : ByteArray := prog_11_method_7_code
def yX9_copyTo : MethodName := ⟨RX9, "copyTo", "(II)V"⟩
abbrev cX9_isSlot : ByteArray := prog_11_method_8_code
def yX9_isSlot : MethodName := ⟨RX9, "isSlot", "(I)Z"⟩
abbrev cX9_hasForm : ByteArray := prog_11_method_9_code
def yX9_hasForm : MethodName := ⟨RX9, "hasForm", "(I)Z"⟩
abbrev cX9_isLetter : ByteArray := prog_11_method_10_code
def yX9_isLetter : MethodName := ⟨RX9, "isLetter", "(II)Z"⟩
abbrev cX9_detOf : ByteArray := prog_11_method_11_code
def yX9_detOf : MethodName := ⟨RX9, "detOf", "(III)J"⟩
abbrev cX9_clearBelow : ByteArray := prog_11_method_12_code
def yX9_clearBelow : MethodName := ⟨RX9, "clearBelow", "(IIJ)V"⟩
abbrev cX9_root : ByteArray := prog_11_method_13_code
def yX9_root : MethodName := ⟨RX9, "root", "(J)J"⟩
abbrev cX9_isLawful : ByteArray := prog_11_method_14_code
def yX9_isLawful : MethodName := ⟨RX9, "isLawful", "(I)Z"⟩
abbrev cX9_comes : ByteArray := prog_11_method_15_code
def yX9_comes : MethodName := ⟨RX9, "comes", "(I)I"⟩
abbrev cX9_single : ByteArray := prog_11_method_16_code
def yX9_single : MethodName := ⟨RX9, "single", "(II)I"⟩
abbrev cX9_form : ByteArray := prog_11_method_17_code
def yX9_form : MethodName := ⟨RX9, "form", "(IIII)I"⟩
abbrev cX9_spread : ByteArray := prog_11_method_18_code
def yX9_spread : MethodName := ⟨RX9, "spread", "(III)I"⟩
abbrev cX9_clear : ByteArray := prog_11_method_19_code
def yX9_clear : MethodName := ⟨RX9, "clear", "(I)I"⟩
abbrev cX9_entry : ByteArray := prog_11_method_20_code
def yX9_entry : MethodName := ⟨RX9, "entry", "(IIII)I"⟩
abbrev cX9_at : ByteArray := prog_11_method_21_code
def yX9_at : MethodName := ⟨RX9, "at", "(III)I"⟩
abbrev cX9_minor : ByteArray := prog_11_method_22_code
def yX9_minor : MethodName := ⟨RX9, "minor", "(II)I"⟩
abbrev cX9_of : ByteArray := prog_11_method_23_code
def yX9_of : MethodName := ⟨RX9, "of", "(II)I"⟩
abbrev cX9_worth : ByteArray := prog_11_method_24_code
def yX9_worth : MethodName := ⟨RX9, "worth", "(IIIII)J"⟩
abbrev cX9_changeAt : ByteArray := prog_11_method_25_code
def yX9_changeAt : MethodName := ⟨RX9, "changeAt", "(IIII)V"⟩
abbrev cX9_change : ByteArray := prog_11_method_26_code
def yX9_change : MethodName := ⟨RX9, "change", "(IIII)I"⟩
abbrev cX9_swap : ByteArray := prog_11_method_27_code
def yX9_swap : MethodName := ⟨RX9, "swap", "(III)I"⟩
abbrev cX9_scale : ByteArray := prog_11_method_28_code
def yX9_scale : MethodName := ⟨RX9, "scale", "(II)I"⟩
abbrev cX9_join : ByteArray := prog_11_method_29_code
def yX9_join : MethodName := ⟨RX9, "join", "(III)I"⟩
abbrev cX9_reduce : ByteArray := prog_11_method_30_code
def yX9_reduce : MethodName := ⟨RX9, "reduce", "(I)I"⟩
abbrev cX9_nextStep : ByteArray := prog_11_method_31_code
def yX9_nextStep : MethodName := ⟨RX9, "nextStep", "()I"⟩
abbrev cX9_same : ByteArray := prog_11_method_32_code
def yX9_same : MethodName := ⟨RX9, "same", "(II)I"⟩
abbrev cX9_layCounts : ByteArray := prog_11_method_33_code
def yX9_layCounts : MethodName := ⟨RX9, "layCounts", "(I)V"⟩
abbrev cX9_layLast : ByteArray := prog_11_method_34_code
def yX9_layLast : MethodName := ⟨RX9, "layLast", "(II)V"⟩
abbrev cX9_seeAt : ByteArray := prog_11_method_35_code
def yX9_seeAt : MethodName := ⟨RX9, "seeAt", "(II)V"⟩
abbrev cX9_unlike : ByteArray := prog_11_method_36_code
def yX9_unlike : MethodName := ⟨RX9, "unlike", "(II)I"⟩
abbrev cX9_takes : ByteArray := prog_11_method_37_code
def yX9_takes : MethodName := ⟨RX9, "takes", "(II)I"⟩
abbrev cX9_vector : ByteArray := prog_11_method_38_code
def yX9_vector : MethodName := ⟨RX9, "vector", "(III)I"⟩
abbrev cX9_truantOf : ByteArray := prog_11_method_39_code
def yX9_truantOf : MethodName := ⟨RX9, "truantOf", "(I)I"⟩
abbrev cX9_truant : ByteArray := prog_11_method_40_code
def yX9_truant : MethodName := ⟨RX9, "truant", "(I)I"⟩
abbrev cX9_layRests : ByteArray := prog_11_method_41_code
def yX9_layRests : MethodName := ⟨RX9, "layRests", "(I)V"⟩
abbrev cX9_restsBy : ByteArray := prog_11_method_42_code
def yX9_restsBy : MethodName := ⟨RX9, "restsBy", "(II)I"⟩
abbrev cX9_barredBy : ByteArray := prog_11_method_43_code
def yX9_barredBy : MethodName := ⟨RX9, "barredBy", "(I)I"⟩
abbrev cX9_exceptions : ByteArray := prog_11_method_44_code
def yX9_exceptions : MethodName := ⟨RX9, "exceptions", "(III)I"⟩
abbrev cX9_exception : ByteArray := prog_11_method_45_code
def yX9_exception : MethodName := ⟨RX9, "exception", "(II)I"⟩
abbrev cX9_residues : ByteArray := prog_11_method_46_code
def yX9_residues : MethodName := ⟨RX9, "residues", "(II)I"⟩
abbrev cX9_barred : ByteArray := prog_11_method_47_code
def yX9_barred : MethodName := ⟨RX9, "barred", "(II)I"⟩
abbrev cX9_ruleMany : ByteArray := prog_11_method_48_code
def yX9_ruleMany : MethodName := ⟨RX9, "ruleMany", "(I)I"⟩
abbrev cX9_ruledAt : ByteArray := prog_11_method_49_code
def yX9_ruledAt : MethodName := ⟨RX9, "ruledAt", "(II)I"⟩
abbrev cX9_isRule : ByteArray := prog_11_method_50_code
def yX9_isRule : MethodName := ⟨RX9, "isRule", "(I)Z"⟩
abbrev cX9_rule : ByteArray := prog_11_method_51_code
def yX9_rule : MethodName := ⟨RX9, "rule", "(II)I"⟩
abbrev cX9_lackMany : ByteArray := prog_11_method_52_code
def yX9_lackMany : MethodName := ⟨RX9, "lackMany", "(I)I"⟩
abbrev cX9_claim : ByteArray := prog_11_method_53_code
def yX9_claim : MethodName := ⟨RX9, "claim", "(II)I"⟩
abbrev cX9_lacks : ByteArray := prog_11_method_54_code
def yX9_lacks : MethodName := ⟨RX9, "lacks", "(III)I"⟩
abbrev cX9_certify : ByteArray := prog_11_method_55_code
def yX9_certify : MethodName := ⟨RX9, "certify", "(IIII)I"⟩
abbrev cX9_beginChildren : ByteArray := prog_11_method_56_code
def yX9_beginChildren : MethodName := ⟨RX9, "beginChildren", "(I)I"⟩
abbrev cX9_nextRow : ByteArray := prog_11_method_57_code
def yX9_nextRow : MethodName := ⟨RX9, "nextRow", "()Z"⟩
abbrev cX9_nextChild : ByteArray := prog_11_method_58_code
def yX9_nextChild : MethodName := ⟨RX9, "nextChild", "()Z"⟩
abbrev cX9_isChild : ByteArray := prog_11_method_59_code
def yX9_isChild : MethodName := ⟨RX9, "isChild", "(I)Z"⟩
abbrev cX9_children : ByteArray := prog_11_method_60_code
def yX9_children : MethodName := ⟨RX9, "children", "(I)I"⟩
abbrev cX9_child : ByteArray := prog_11_method_61_code
def yX9_child : MethodName := ⟨RX9, "child", "(III)I"⟩
abbrev cX9_next : ByteArray := prog_11_method_62_code
def yX9_next : MethodName := ⟨RX9, "next", "(III)I"⟩
abbrev cX9_greatestLack : ByteArray := prog_11_method_63_code
def yX9_greatestLack : MethodName := ⟨RX9, "greatestLack", "()I"⟩
abbrev cX9_isNode : ByteArray := prog_11_method_64_code
def yX9_isNode : MethodName := ⟨RX9, "isNode", "(I)Z"⟩
abbrev cX9_plant : ByteArray := prog_11_method_65_code
def yX9_plant : MethodName := ⟨RX9, "plant", "(I)I"⟩
abbrev cX9_branch : ByteArray := prog_11_method_66_code
def yX9_branch : MethodName := ⟨RX9, "branch", "(II)I"⟩
abbrev cX9_layHeights : ByteArray := prog_11_method_67_code
def yX9_layHeights : MethodName := ⟨RX9, "layHeights", "()V"⟩
abbrev cX9_isBelow : ByteArray := prog_11_method_68_code
def yX9_isBelow : MethodName := ⟨RX9, "isBelow", "(II)Z"⟩
abbrev cX9_claimsBelow : ByteArray := prog_11_method_69_code
def yX9_claimsBelow : MethodName := ⟨RX9, "claimsBelow", "(I)I"⟩
abbrev cX9_ofNode : ByteArray := prog_11_method_70_code
def yX9_ofNode : MethodName := ⟨RX9, "ofNode", "(II)I"⟩
abbrev cX9_nodeTo : ByteArray := prog_11_method_71_code
def yX9_nodeTo : MethodName := ⟨RX9, "nodeTo", "(II)I"⟩
abbrev cX9_firstUnder : ByteArray := prog_11_method_72_code
def yX9_firstUnder : MethodName := ⟨RX9, "firstUnder", "(II)I"⟩
abbrev cX9_behind : ByteArray := prog_11_method_73_code
def yX9_behind : MethodName := ⟨RX9, "behind", "(I)I"⟩
abbrev cX9_walk : ByteArray := prog_11_method_74_code
def yX9_walk : MethodName := ⟨RX9, "walk", "(I)I"⟩
abbrev cX9_cut : ByteArray := prog_11_method_75_code
def yX9_cut : MethodName := ⟨RX9, "cut", "(I)I"⟩
abbrev cX9_isSheet : ByteArray := prog_11_method_76_code
def yX9_isSheet : MethodName := ⟨RX9, "isSheet", "(I)Z"⟩
abbrev cX9_lowest : ByteArray := prog_11_method_77_code
def yX9_lowest : MethodName := ⟨RX9, "lowest", "(II)I"⟩
abbrev cX9_sheet : ByteArray := prog_11_method_78_code
def yX9_sheet : MethodName := ⟨RX9, "sheet", "(III)I"⟩
abbrev cX9_cell : ByteArray := prog_11_method_79_code
def yX9_cell : MethodName := ⟨RX9, "cell", "(III)I"⟩
abbrev cX9_item : ByteArray := prog_11_method_80_code
def yX9_item : MethodName := ⟨RX9, "item", "(II)J"⟩
abbrev cX9_move : ByteArray := prog_11_method_81_code
def yX9_move : MethodName := ⟨RX9, "move", "(IIIII)I"⟩
abbrev cX9_slotsHeld : ByteArray := prog_11_method_82_code
def yX9_slotsHeld : MethodName := ⟨RX9, "slotsHeld", "()I"⟩
abbrev cX9_keep : ByteArray := prog_11_method_83_code
def yX9_keep : MethodName := ⟨RX9, "keep", "()I"⟩
abbrev cX9_back : ByteArray := prog_11_method_84_code
def yX9_back : MethodName := ⟨RX9, "back", "()I"⟩
abbrev cX9_count : ByteArray := prog_11_method_85_code
def yX9_count : MethodName := ⟨RX9, "count", "(I)I"⟩
def RJ9 : String := "java/lang/Math"
abbrev cJ9_floorDiv_f86c9 : ByteArray := prog_13_method_49_code
def yJ9_floorDiv_f86c9 : MethodName := ⟨RJ9, "floorDiv", "(JJ)J"⟩
abbrev cJ9_floorMod_7cf53 : ByteArray := prog_13_method_50_code
def yJ9_floorMod_7cf53 : MethodName := ⟨RJ9, "floorMod", "(II)I"⟩
abbrev cJ9_abs_0f7a4 : ByteArray := prog_13_method_59_code
def yJ9_abs_0f7a4 : MethodName := ⟨RJ9, "abs", "(I)I"⟩
abbrev cJ9_abs_067f4 : ByteArray := prog_13_method_61_code
def yJ9_abs_067f4 : MethodName := ⟨RJ9, "abs", "(J)J"⟩
abbrev cJ9_max_7cf53 : ByteArray := prog_13_method_65_code
def yJ9_max_7cf53 : MethodName := ⟨RJ9, "max", "(II)I"⟩
abbrev cJ9_min_7cf53 : ByteArray := prog_13_method_69_code
def yJ9_min_7cf53 : MethodName := ⟨RJ9, "min", "(II)I"⟩
def RJ10 : String := "java/lang/System"
def RJ7 : String := "java/util/Arrays"
abbrev cJ7_fill_53178 : ByteArray := prog_15_method_103_code
def yJ7_fill_53178 : MethodName := ⟨RJ7, "fill", "([II)V"⟩
abbrev cJ7_fill_031fb : ByteArray := prog_15_method_109_code
def yJ7_fill_031fb : MethodName := ⟨RJ7, "fill", "([BB)V"⟩
abbrev cJ7_copyOf_59c91 : ByteArray := prog_15_method_123_code
def yJ7_copyOf_59c91 : MethodName := ⟨RJ7, "copyOf", "([II)[I"⟩
def RL : String := "EscalatedFormsLaw"
abbrev cL_law : ByteArray := code
def yL_law : MethodName := ⟨RL, "law", "([I)Z"⟩
abbrev vwCl : List vw_C := [(RX0, TX0, 4), (RX1, TX1, 6), (RX2, TX2, 11), (RX3, TX3, 6), (RX4, TX4, 2), (RX5, TX5, 3), (RX6, TX6, 2), (RX7, TX7, 5), (RX8, TX8, 10), (RX9, TX9, 34)]
end
section
/-! A PURE LAYER over the machine: references are numbered 0 .. 3 (arrays that stand ahead of the start) and 4, 5 .. (cells in the order in which they are made);
    a heap is (K, I, L, R, n, s): kinds and lengths, ints, longs, references, the next number, slots made. Z: from here the method ends, with an answer and a heap that Q allows. -/
def gw : List Cond := lw_tbl.filter goodWord
theorem gw_in {w : Cond} (h : w ∈ lw_tbl) (hg : goodWord w = true) : w ∈ gw := List.mem_filter.mpr ⟨h, hg⟩
theorem gw_good {w : Cond} (h : w ∈ gw) : (w.onTables && w.keeps) = true ∨ ∃ ty, w = .arrayClass ty := good_of_word (List.mem_filter.mp h).2
/-- class numbers, classes of arrays 1 .. 5, addresses of the old arrays 0 .. 3, the first new address, what the old arrays hold -/
abbrev ZG : Type := va_G × (Nat → ClassId) × (Nat → Nat) × Nat × (Nat → Nat × (Nat → Int32))
def zA (g : ZG) : Nat → Prop := fun q => g.2.2.2.1 ≤ q
def zphi (g : ZG) (r : Nat) : Nat := if r < 4 then g.2.2.1 r else g.2.2.2.1 + (r - 4)
def zv (g : ZG) (v : Value) : Value := match v with
  | .ref r => .ref (zphi g r)
  | v => v
theorem zv_cat (g : ZG) (v : Value) : (zv g v).category = v.category := by cases v <;> rfl
abbrev ZK : Type := Nat → Nat × Nat
abbrev ZI : Type := Nat → Nat → Int32
abbrev ZL : Type := Nat → Nat → Int64
abbrev ZR : Type := Nat → Nat → Option Nat
abbrev ZH : Type := ZK × ZI × ZL × ZR × Nat × Nat
def zup {α : Type} (I : Nat → Nat → α) (r i : Nat) (x : α) : Nat → Nat → α := fun a j => if a = r then (if j = i then x else I a j) else I a j
def zupA {α : Type} (I : Nat → Nat → α) (r : Nat) (f : Nat → α) : Nat → Nat → α := fun a => if a = r then f else I a
def zkp (K : ZK) (r : Nat) (x : Nat × Nat) : ZK := fun a => if a = r then x else K a
def zsort : FieldType → Nat
  | .long => 1
  | .object _ => 2
  | .array _ => 2
  | _ => 0
def zty (ci : Nat) : Nat → FieldType := match ci with
  | 0 => tyX0
  | 1 => tyX1
  | 2 => tyX2
  | 3 => tyX3
  | 4 => tyX4
  | 5 => tyX5
  | 6 => tyX6
  | 7 => tyX7
  | 8 => tyX8
  | _ => tyX9
def zN (ci : Nat) : Nat := match vwCl[ci]? with
  | some q => q.2.2
  | none => 0
def zfv (g : ZG) (I : ZI) (L : ZL) (R : ZR) (ci r k : Nat) : Value := match zsort (zty ci k) with
  | 0 => .int (I r k)
  | 1 => .long (L r k)
  | _ => va_rf ((R r k).map (zphi g))
def zcell (g : ZG) (K : ZK) (I : ZI) (L : ZL) (R : ZR) (r : Nat) : va_E := match (K r).1 with
  | 1 => .inl (g.2.1 1, (K r).2, .inl (I r))
  | 2 => .inl (g.2.1 2, (K r).2, .inr (.inl (L r)))
  | 3 => .inl (g.2.1 3, (K r).2, .inl (I r))
  | 4 => .inl (g.2.1 4, (K r).2, .inr (.inr (.inr (.inr (fun j => (R r j).map (zphi g))))))
  | 5 => .inl (g.2.1 5, (K r).2, .inr (.inr (.inr (.inr (fun j => (R r j).map (zphi g))))))
  | k => .inr (k - 10, (List.range (zN (k - 10))).map (zfv g I L R (k - 10) r))
def zws (g : ZG) (h : ZH) : va_W := (List.range (h.2.2.2.2.1 - 4)).map (fun i => (g.2.2.2.1 + i, zcell g h.1 h.2.1 h.2.2.1 h.2.2.2.1 (i + 4)))
def ztys (g : ZG) : List (ClassId × FieldType) := [(g.2.1 1, .int), (g.2.1 2, .long), (g.2.1 3, .byte), (g.2.1 4, .object RX3), (g.2.1 5, .object RX5)]
/-- the heap holds the pure heap, and nothing else is new -/
def zmem (g : ZG) (H : Heap) (h : ZH) : Prop := 4 ≤ h.2.2.2.2.1 ∧ (∀ a, (h.1 a).1 ≠ 0 → 4 ≤ a ∧ a < h.2.2.2.2.1) ∧ H.size = g.2.2.2.1 + (h.2.2.2.2.1 - 4) ∧ va_P g.1 vwCl (zws g h) H
def znest : List (String × Nat × MethodName × String) := [("EscalatedForms", 22, yX7_init, "EscalatedForms"), ("EscalatedForms", 40, yX5_init, "EscalatedForms"), ("EscalatedForms", 43, yX1_init, "EscalatedForms"), ("EscalatedForms", 50, yX2_init, "EscalatedForms"), ("EscalatedForms", 57, yX4_init, "EscalatedForms"), ("EscalatedForms", 64, yX0_init, "EscalatedForms"), ("EscalatedForms$Draft", 71, yX8_squareRoot, "EscalatedForms"), ("EscalatedForms$Ellipsoid", 71, yX8_squareRoot, "EscalatedForms")]
/-- what the tables say -/
def zT (g : ZG) (U : State) : Prop := va_K g.1 vwCl (ztys g) U ∧ (∀ q ∈ znest, va_Nw (.methodLinkNest q.1 q.2.1 q.2.2.1 q.2.2.2) U) ∧ va_Nw (.castable "[I" "java/lang/Cloneable") U ∧ va_AO RX3 U ∧ va_AO RX5 U
/-- the old arrays, and the static fields that hold three of them -/
def zold (g : ZG) (U : State) (H : Heap) : Prop := (∀ r, r < 4 → va_T .int (g.2.2.1 r) (g.2.2.2.2 r).1 (fun j => .int ((g.2.2.2.2 r).2 j)) (zA g) U H) ∧ va_Z RX8 "RULE_ALL" "[I" (.ref (g.2.2.1 1)) (zA g) U H ∧ va_Z RX8 "RULE_ODD" "[I" (.ref (g.2.2.1 2)) (zA g) U H ∧ va_Z RX8 "RULE_PRIME" "[I" (.ref (g.2.2.1 3)) (zA g) U H
def zpre (g : ZG) (U : State) (h : ZH) : Prop := zT g U ∧ zold g U U.heap ∧ zmem g U.heap h
/-- name, code, locals, what it returns, frames and words of locals below it -/
abbrev ZM : Type := MethodName × ByteArray × Nat × Option FieldType × Nat × Nat
def zw (M : ZM) : List Cond := Cond.code M.1 M.2.1 M.2.2.1 M.2.2.2.1 :: gw
def zQ (g : ZG) (v : Option Value) (h : ZH) : Array Value → State → Outcome → State → Prop := fun _ st oc t => oc = .returned (v.map (zv g)) ∧ zmem g t.heap h ∧ va_F (zA g) st t
def zl (g : ZG) (lsA : Array Slot) (nL : Nat) (ls : List (Option Value)) : Prop := lsA.size = nL ∧ lv_wf lsA ∧ ∀ (i : Nat) (v : Value), ls[i]? = some (some v) → lsA[i]? = some (.val (zv g v))
/-- a method's frame -/
def ZX (g : ZG) (M : ZM) (p : Program) (R : Room) (s : State) (m : MethodId) (args : Array Value) (meth : Method) (c : Code) : Prop :=
  p.tables.exec = Jvm.exec ∧ c.code = M.2.1 ∧ meth.sig.returnType = M.2.2.2.1 ∧ c.maxLocals = M.2.2.1 ∧ s.vm.findClass M.1.cls = some m.cls ∧ (∀ w ∈ gw, w.before args s = true) ∧ meth.locks = false ∧ meth.name = M.1.name ∧ M.2.2.2.2.1 ≤ R.frames ∧ M.2.2.2.2.2 ≤ R.locals ∧ zT g s ∧ zold g s s.heap ∧ g.2.2.2.1 ≤ s.heap.size
def Z (g : ZG) (l : Launch) (M : ZM) (pc : Nat) (ls : List (Option Value)) (st : List Value) (h : ZH) (Q : Option Value → ZH → Prop) : Prop :=
  ∃ (v : Option Value) (h' : ZH) (dc ds : Nat), Q v h' ∧ h'.2.2.2.2.1 = h.2.2.2.2.1 + dc ∧ h'.2.2.2.2.2 = h.2.2.2.2.2 + ds ∧
    ∀ (p : Program) (e : Env) (R : Room) (s : State) (m : MethodId) (args : Array Value) (below : List Frame) (meth : Method) (c : Code), ZX g M p R s m args meth c →
      ∀ (H : Heap) (locs : List Loc) (cells slots : Nat) (lsA : Array Slot), zmem g H h → va_S (zA g) s.heap H locs → zl g lsA M.2.2.1 ls → cells + dc ≤ R.cells → slots + ds ≤ R.slots →
        W p l e R s m args below meth c H locs cells slots (MQ below (zQ g v h') args s (cells + dc) (slots + ds) (zA g)) (F0 m pc lsA (st.map (zv g)))
def ZC (g : ZG) (l : Launch) (M : ZM) (as : List Value) (h : ZH) (Q : Option Value → ZH → Prop) : Prop :=
  ∃ (v : Option Value) (h' : ZH) (dc ds : Nat), Q v h' ∧ h'.2.2.2.2.1 = h.2.2.2.2.1 + dc ∧ h'.2.2.2.2.2 = h.2.2.2.2.2 + ds ∧
    Met l M.1 (zw M) { frames := M.2.2.2.2.1, cells := dc, slots := ds, locals := M.2.2.2.2.2 } (va_Pc (as.map (zv g)) (fun U => zpre g U h)) (zQ g v h') dc ds (zA g)
theorem Z.mono {g : ZG} {l : Launch} {M : ZM} {pc : Nat} {ls : List (Option Value)} {st : List Value} {h : ZH} {Q Q' : Option Value → ZH → Prop} (hq : ∀ v h', Q v h' → Q' v h') (k : Z g l M pc ls st h Q) : Z g l M pc ls st h Q' := by
  obtain ⟨v, h', dc, ds, a, b⟩ := k
  exact ⟨v, h', dc, ds, hq v h' a, b⟩
theorem ZC.mono {g : ZG} {l : Launch} {M : ZM} {as : List Value} {h : ZH} {Q Q' : Option Value → ZH → Prop} (k : ZC g l M as h Q) (hq : ∀ v h', Q v h' → Q' v h') : ZC g l M as h Q' := by
  obtain ⟨v, h', dc, ds, a, b⟩ := k
  exact ⟨v, h', dc, ds, hq v h' a, b⟩
-- the world as a list
theorem zws_at (g : ZG) (h : ZH) {r : Nat} (h4 : 4 ≤ r) (hr : r < h.2.2.2.2.1) : (zws g h)[r - 4]? = some (zphi g r, zcell g h.1 h.2.1 h.2.2.1 h.2.2.2.1 r) := by
  unfold zws
  rw [List.getElem?_map, List.getElem?_range (by omega)]
  simp only [Option.map_some]
  rw [show r - 4 + 4 = r by omega]
  unfold zphi
  rw [if_neg (by omega)]
theorem zws_len (g : ZG) (h : ZH) : (zws g h).length = h.2.2.2.2.1 - 4 := by simp [zws]
theorem zws_get {g : ZG} {h : ZH} {k : Nat} {q : Nat × va_E} (hk : (zws g h)[k]? = some q) : k < h.2.2.2.2.1 - 4 ∧ q = (g.2.2.2.1 + k, zcell g h.1 h.2.1 h.2.2.1 h.2.2.2.1 (k + 4)) := by
  have hl : k < (zws g h).length := (List.getElem?_eq_some_iff.mp hk).1
  rw [zws_len] at hl
  refine ⟨hl, ?_⟩
  unfold zws at hk
  rw [List.getElem?_map, List.getElem?_range hl] at hk
  simpa using hk.symm
theorem zws_D (g : ZG) (h : ZH) : va_D (zA g) (zws g h) := by
  refine ⟨fun i j p q hi hj hpq => ?_, fun k q hk => ?_⟩
  · have a := (zws_get hi).2
    have b := (zws_get hj).2
    rw [a, b] at hpq
    simp only at hpq
    omega
  · rw [(zws_get hk).2]
    exact Nat.le_add_right _ _
theorem zws_set {g : ZG} {K K' : ZK} {I I' : ZI} {L L' : ZL} {R R' : ZR} {n s : Nat} {r : Nat} (h4 : 4 ≤ r) (hr : r < n) {e : va_E} (he : e = zcell g K' I' L' R' r) (ho : ∀ q, q ≠ r → zcell g K' I' L' R' q = zcell g K I L R q) :
    (zws g (K, I, L, R, n, s)).set (r - 4) (zphi g r, e) = zws g (K', I', L', R', n, s) := by
  apply List.ext_getElem?
  intro k
  by_cases hk : k = r - 4
  · subst hk
    rw [List.getElem?_set_self (by rw [zws_len]; show r - 4 < n - 4; omega), zws_at g (K', I', L', R', n, s) h4 hr, he]
  · rw [List.getElem?_set_ne (Ne.symm hk)]
    by_cases hkn : k < n - 4
    · have e1 := zws_at g (K, I, L, R, n, s) (r := k + 4) (by omega) (show k + 4 < n by omega)
      have e2 := zws_at g (K', I', L', R', n, s) (r := k + 4) (by omega) (show k + 4 < n by omega)
      rw [show k + 4 - 4 = k by omega] at e1 e2
      rw [e1, e2]
      simp only
      rw [ho (k + 4) (by omega)]
    · rw [List.getElem?_eq_none (by rw [zws_len]; show n - 4 ≤ k; omega), List.getElem?_eq_none (by rw [zws_len]; show n - 4 ≤ k; omega)]
theorem zws_push {g : ZG} {K K' : ZK} {I I' : ZI} {L L' : ZL} {R R' : ZR} {n s s' : Nat} (h4 : 4 ≤ n) {e : va_E} (he : e = zcell g K' I' L' R' n) (ho : ∀ q, q ≠ n → zcell g K' I' L' R' q = zcell g K I L R q) :
    zws g (K, I, L, R, n, s) ++ [(g.2.2.2.1 + (n - 4), e)] = zws g (K', I', L', R', n + 1, s') := by
  unfold zws
  simp only
  rw [show n + 1 - 4 = (n - 4) + 1 by omega, List.range_succ, List.map_append]
  congr 1
  · apply List.map_congr_left
    intro i hi
    rw [List.mem_range] at hi
    rw [ho (i + 4) (by omega)]
  · simp only [List.map_cons, List.map_nil]
    rw [he, show n - 4 + 4 = n by omega]
theorem zphi_new (g : ZG) {n : Nat} (h4 : 4 ≤ n) : zphi g n = g.2.2.2.1 + (n - 4) := by unfold zphi; rw [if_neg (by omega)]
theorem zphi_inj {g : ZG} {a b : Nat} (ha : 4 ≤ a) (hb : 4 ≤ b) (h : zphi g a = zphi g b) : a = b := by rw [zphi_new g ha, zphi_new g hb] at h; omega
end
section
section ZRules
variable {g : ZG} {l : Launch} {M : ZM} {pc : Nat} {ls : List (Option Value)} {st : List Value} {h : ZH} {Q : Option Value → ZH → Prop}
theorem Z.step {pc' : Nat} {st' : List Value} (hw : ∀ {p : Program} {e : Env} {R : Room} {s : State} {m : MethodId} {args : Array Value} {below : List Frame} {meth : Method} {c : Code} {H : Heap} {locs : List Loc} {cells slots : Nat} {lsA : Array Slot} {Qm : State → Prop}, ZX g M p R s m args meth c → zmem g H h → va_S (zA g) s.heap H locs → zl g lsA M.2.2.1 ls → W p l e R s m args below meth c H locs cells slots Qm (F0 m pc' lsA (st'.map (zv g))) → W p l e R s m args below meth c H locs cells slots Qm (F0 m pc lsA (st.map (zv g)))) (k : Z g l M pc' ls st' h Q) : Z g l M pc ls st h Q := by
  obtain ⟨v, h', dc, ds, hq, hn, hs, kk⟩ := k
  exact ⟨v, h', dc, ds, hq, hn, hs, fun p e R s m args below meth c X H locs cells slots lsA hm hS hl h1 h2 => hw X hm hS hl (kk p e R s m args below meth c X H locs cells slots lsA hm hS hl h1 h2)⟩
theorem Z.stepL {pc' : Nat} {st' : List Value} {ls' : List (Option Value)} (hw : ∀ {p : Program} {e : Env} {R : Room} {s : State} {m : MethodId} {args : Array Value} {below : List Frame} {meth : Method} {c : Code} {H : Heap} {locs : List Loc} {cells slots : Nat} {lsA : Array Slot} {Qm : State → Prop}, ZX g M p R s m args meth c → zl g lsA M.2.2.1 ls → (∀ lsB : Array Slot, zl g lsB M.2.2.1 ls' → W p l e R s m args below meth c H locs cells slots Qm (F0 m pc' lsB (st'.map (zv g)))) → W p l e R s m args below meth c H locs cells slots Qm (F0 m pc lsA (st.map (zv g)))) (k : Z g l M pc' ls' st' h Q) : Z g l M pc ls st h Q := by
  obtain ⟨v, h', dc, ds, hq, hn, hs, kk⟩ := k
  exact ⟨v, h', dc, ds, hq, hn, hs, fun p e R s m args below meth c X H locs cells slots lsA hm hS hl h1 h2 => hw X hl (fun lsB hB => kk p e R s m args below meth c X H locs cells slots lsB hm hS hB h1 h2)⟩
theorem Z.forget {ls' : List (Option Value)} (k : Z g l M pc ls' st h Q) (hs : ∀ (i : Nat) (v : Value), ls'[i]? = some (some v) → ls[i]? = some (some v)) : Z g l M pc ls st h Q := by
  obtain ⟨v, h', dc, ds, hq, hn, hss, kk⟩ := k
  exact ⟨v, h', dc, ds, hq, hn, hss, fun p e R s m args below meth c X H locs cells slots lsA hm hS hl h1 h2 => kk p e R s m args below meth c X H locs cells slots lsA hm hS ⟨hl.1, hl.2.1, fun i v hv => hl.2.2 i v (hs i v hv)⟩ h1 h2⟩
def zlp (g : ZG) (ls : List (Option Value)) : List (Nat × Value) := (List.range ls.length).filterMap (fun i => match ls[i]? with
  | some (some v) => some (i, zv g v)
  | _ => none)
theorem zlp_mem {ls : List (Option Value)} {i : Nat} {v : Value} (hv : ls[i]? = some (some v)) : (i, zv g v) ∈ zlp g ls := by
  have hl : i < ls.length := (List.getElem?_eq_some_iff.mp hv).1
  exact List.mem_filterMap.mpr ⟨i, List.mem_range.mpr hl, by rw [hv]⟩
theorem zlp_has {lsA : Array Slot} {nL : Nat} {ls : List (Option Value)} (hl : zl g lsA nL ls) : lv_has lsA nL (zlp g ls) := by
  refine ⟨hl.1, hl.2.1, fun q hq => ?_⟩
  obtain ⟨i, -, hi⟩ := List.mem_filterMap.mp hq
  cases hv : ls[i]? with
  | none => rw [hv] at hi; cases hi
  | some o =>
    cases o with
    | none => rw [hv] at hi; cases hi
    | some v => rw [hv] at hi; cases hi; exact hl.2.2 i v hv
/-- the place ahead of a store holds no long -/
def znl (ls : List (Option Value)) (i : Nat) : Bool := match i with
  | 0 => true
  | k + 1 => match ls[k]? with
    | some (some (.long _)) => false
    | some (some (.double _)) => false
    | _ => true
theorem znl_cat {ls : List (Option Value)} {i j : Nat} {v : Value} (hz : znl ls i = true) (hj : j + 1 = i) (hv : ls[j]? = some (some v)) : v.category ≠ 2 := by
  subst hj
  simp only [znl] at hz
  rw [hv] at hz
  cases v <;> simp_all [Value.category]
theorem zl_set1 {lsB : Array Slot} {nL i : Nat} {ls : List (Option Value)} {v : Value} (hz : znl ls i = true) (hB : lv_has lsB nL ((i, zv g v) :: (zlp g ls).filter (fun q => !(q.1 == i) && !(q.1 + 1 == i && q.2.category == 2)))) : zl g lsB nL (ls.set i (some v)) := by
  refine ⟨hB.1, hB.2.1, fun j w hw => ?_⟩
  by_cases hj : j = i
  · subst hj
    have hl : j < (ls.set j (some v)).length := (List.getElem?_eq_some_iff.mp hw).1
    rw [List.length_set] at hl
    rw [List.getElem?_set_self hl] at hw
    cases hw
    exact hB.2.2 (j, zv g v) List.mem_cons_self
  · rw [List.getElem?_set_ne (Ne.symm hj)] at hw
    refine hB.2.2 (j, zv g w) (List.mem_cons_of_mem _ (List.mem_filter.mpr ⟨zlp_mem hw, ?_⟩))
    by_cases h1 : j + 1 = i
    · have := znl_cat hz h1 hw
      simp [hj, zv_cat, this]
    · simp [hj, h1]
theorem zl_set2 {lsB : Array Slot} {nL i : Nat} {ls : List (Option Value)} {v : Value} (hz : znl ls i = true) (hB : lv_has lsB nL ((i, zv g v) :: (zlp g ls).filter (fun q => !(q.1 == i) && (!(q.1 == i + 1) && !(q.1 + 1 == i && q.2.category == 2))))) : zl g lsB nL ((ls.set i (some v)).set (i + 1) none) := by
  refine ⟨hB.1, hB.2.1, fun j w hw => ?_⟩
  by_cases hj2 : j = i + 1
  · subst hj2
    have hl := (List.getElem?_eq_some_iff.mp hw).1
    rw [List.length_set] at hl
    rw [List.getElem?_set_self hl] at hw
    cases hw
  · rw [List.getElem?_set_ne (Ne.symm hj2)] at hw
    by_cases hj : j = i
    · subst hj
      have hl : j < (ls.set j (some v)).length := (List.getElem?_eq_some_iff.mp hw).1
      rw [List.length_set] at hl
      rw [List.getElem?_set_self hl] at hw
      cases hw
      exact hB.2.2 (j, zv g v) List.mem_cons_self
    · rw [List.getElem?_set_ne (Ne.symm hj)] at hw
      refine hB.2.2 (j, zv g w) (List.mem_cons_of_mem _ (List.mem_filter.mpr ⟨zlp_mem hw, ?_⟩))
      by_cases h1 : j + 1 = i
      · have := znl_cat hz h1 hw
        simp [hj, hj2, zv_cat, this]
      · simp [hj, hj2, h1]
theorem z_iconst {n : Int} (hd : decode M.2.1 pc = .ok (.iconst n, 1)) {v : Int32} (hv : Int32.ofInt n = v) (k : Z g l M (pc + 1) ls (.int v :: st) h Q) : Z g l M pc ls st h Q := Z.step (fun X _ _ _ k => lv_iconst X.1 X.2.1 hd hv k) k
theorem z_bipush {n : Int} (hd : decode M.2.1 pc = .ok (.bipush n, 2)) {v : Int32} (hv : (Int8.ofInt n).toInt32 = v) (k : Z g l M (pc + 2) ls (.int v :: st) h Q) : Z g l M pc ls st h Q := Z.step (fun X _ _ _ k => lv_bipush X.1 X.2.1 hd hv k) k
theorem z_sipush {n : Int} (hd : decode M.2.1 pc = .ok (.sipush n, 3)) {v : Int32} (hv : (Int16.ofInt n).toInt32 = v) (k : Z g l M (pc + 3) ls (.int v :: st) h Q) : Z g l M pc ls st h Q := Z.step (fun X _ _ _ k => lv_sipush X.1 X.2.1 hd hv k) k
theorem z_lconst {n : Fin 2} (hd : decode M.2.1 pc = .ok (.lconst n, 1)) {v : Int64} (hv : Int64.ofNat (n : Nat) = v) (k : Z g l M (pc + 1) ls (.long v :: st) h Q) : Z g l M pc ls st h Q := Z.step (fun X _ _ _ k => lv_lconst X.1 X.2.1 hd hv k) k
theorem z_ldc {index : Nat} (hd : decode M.2.1 pc = .ok (.ldc index, 2)) {v : Int32} (hc : Cond.constant M.1.cls index v ∈ gw) (k : Z g l M (pc + 2) ls (.int v :: st) h Q) : Z g l M pc ls st h Q := Z.step (fun X _ _ _ k => lv_ldc X.1 X.2.1 X.2.2.2.2.1 (X.2.2.2.2.2.1 _ hc) hd k) k
theorem z_ldc2 {index : Nat} (hd : decode M.2.1 pc = .ok (.ldc2_w index, 3)) {v : Int64} (hc : Cond.constantLong M.1.cls index v ∈ gw) (k : Z g l M (pc + 3) ls (.long v :: st) h Q) : Z g l M pc ls st h Q := Z.step (fun X _ _ _ k => lv_ldc2 X.1 X.2.1 X.2.2.2.2.1 (X.2.2.2.2.2.1 _ hc) hd k) k
theorem z_null (hd : decode M.2.1 pc = .ok (.aconst_null, 1)) (k : Z g l M (pc + 1) ls (.null :: st) h Q) : Z g l M pc ls st h Q := Z.step (fun X _ _ _ k => lv_null X.1 X.2.1 hd k) k
theorem z_iload_n {kf : Fin 4} {i : Nat} {x : Int32} (hd : decode M.2.1 pc = .ok (.iload_n kf, 1)) (hi : (kf : Nat) = i) (hx : ls[i]? = some (some (.int x))) (k : Z g l M (pc + 1) ls (.int x :: st) h Q) : Z g l M pc ls st h Q := Z.step (fun X _ _ hl k => lv_iload_n X.1 X.2.1 hd hi (hl.2.2 i _ hx) k) k
theorem z_iload {i : Nat} {x : Int32} (hd : decode M.2.1 pc = .ok (.iload i, 2)) (hx : ls[i]? = some (some (.int x))) (k : Z g l M (pc + 2) ls (.int x :: st) h Q) : Z g l M pc ls st h Q := Z.step (fun X _ _ hl k => lv_iload X.1 X.2.1 hd (hl.2.2 i _ hx) k) k
theorem z_lload_n {kf : Fin 4} {i : Nat} {x : Int64} (hd : decode M.2.1 pc = .ok (.lload_n kf, 1)) (hi : (kf : Nat) = i) (hx : ls[i]? = some (some (.long x))) (k : Z g l M (pc + 1) ls (.long x :: st) h Q) : Z g l M pc ls st h Q := Z.step (fun X _ _ hl k => lv_lload_n X.1 X.2.1 hd hi (hl.2.2 i _ hx) k) k
theorem z_lload {i : Nat} {x : Int64} (hd : decode M.2.1 pc = .ok (.lload i, 2)) (hx : ls[i]? = some (some (.long x))) (k : Z g l M (pc + 2) ls (.long x :: st) h Q) : Z g l M pc ls st h Q := Z.step (fun X _ _ hl k => lv_lload X.1 X.2.1 hd (hl.2.2 i _ hx) k) k
theorem z_aload_n {kf : Fin 4} {i : Nat} {x : Nat} (hd : decode M.2.1 pc = .ok (.aload_n kf, 1)) (hi : (kf : Nat) = i) (hx : ls[i]? = some (some (.ref x))) (k : Z g l M (pc + 1) ls (.ref x :: st) h Q) : Z g l M pc ls st h Q := Z.step (fun X _ _ hl k => lv_aload_n X.1 X.2.1 hd hi (hl.2.2 i _ hx) k) k
theorem z_aload {i : Nat} {x : Nat} (hd : decode M.2.1 pc = .ok (.aload i, 2)) (hx : ls[i]? = some (some (.ref x))) (k : Z g l M (pc + 2) ls (.ref x :: st) h Q) : Z g l M pc ls st h Q := Z.step (fun X _ _ hl k => lv_aload X.1 X.2.1 hd (hl.2.2 i _ hx) k) k
theorem z_aload_nN {kf : Fin 4} {i : Nat} (hd : decode M.2.1 pc = .ok (.aload_n kf, 1)) (hi : (kf : Nat) = i) (hx : ls[i]? = some (some .null)) (k : Z g l M (pc + 1) ls (.null :: st) h Q) : Z g l M pc ls st h Q := Z.step (fun X _ _ hl k => lv_aload_nN X.1 X.2.1 hd hi (hl.2.2 i _ hx) k) k
theorem z_aloadN {i : Nat} (hd : decode M.2.1 pc = .ok (.aload i, 2)) (hx : ls[i]? = some (some .null)) (k : Z g l M (pc + 2) ls (.null :: st) h Q) : Z g l M pc ls st h Q := Z.step (fun X _ _ hl k => lv_aloadN X.1 X.2.1 hd (hl.2.2 i _ hx) k) k
theorem z_istore_n {kf : Fin 4} {i : Nat} {x : Int32} (hd : decode M.2.1 pc = .ok (.istore_n kf, 1)) (hi : (kf : Nat) = i) (hn : i < M.2.2.1) (hz : znl ls i = true) (k : Z g l M (pc + 1) (ls.set i (some (.int x))) st h Q) : Z g l M pc ls (.int x :: st) h Q := Z.stepL (fun X hl kk => lv_istore_n X.1 X.2.1 hd hi (zlp_has hl) hn rfl (fun lsB hB => kk lsB (zl_set1 (v := .int x) hz hB))) k
theorem z_istore {i : Nat} {x : Int32} (hd : decode M.2.1 pc = .ok (.istore i, 2)) (hn : i < M.2.2.1) (hz : znl ls i = true) (k : Z g l M (pc + 2) (ls.set i (some (.int x))) st h Q) : Z g l M pc ls (.int x :: st) h Q := Z.stepL (fun X hl kk => lv_istore X.1 X.2.1 hd (zlp_has hl) hn rfl (fun lsB hB => kk lsB (zl_set1 (v := .int x) hz hB))) k
theorem z_astore_n {kf : Fin 4} {i : Nat} {x : Nat} (hd : decode M.2.1 pc = .ok (.astore_n kf, 1)) (hi : (kf : Nat) = i) (hn : i < M.2.2.1) (hz : znl ls i = true) (k : Z g l M (pc + 1) (ls.set i (some (.ref x))) st h Q) : Z g l M pc ls (.ref x :: st) h Q := Z.stepL (fun X hl kk => lv_astore_n X.1 X.2.1 hd hi (zlp_has hl) hn rfl (fun lsB hB => kk lsB (zl_set1 (v := .ref x) hz hB))) k
theorem z_astore {i : Nat} {x : Nat} (hd : decode M.2.1 pc = .ok (.astore i, 2)) (hn : i < M.2.2.1) (hz : znl ls i = true) (k : Z g l M (pc + 2) (ls.set i (some (.ref x))) st h Q) : Z g l M pc ls (.ref x :: st) h Q := Z.stepL (fun X hl kk => lv_astore X.1 X.2.1 hd (zlp_has hl) hn rfl (fun lsB hB => kk lsB (zl_set1 (v := .ref x) hz hB))) k
theorem z_astore_nN {kf : Fin 4} {i : Nat} (hd : decode M.2.1 pc = .ok (.astore_n kf, 1)) (hi : (kf : Nat) = i) (hn : i < M.2.2.1) (hz : znl ls i = true) (k : Z g l M (pc + 1) (ls.set i (some .null)) st h Q) : Z g l M pc ls (.null :: st) h Q := Z.stepL (fun X hl kk => lv_astore_nN X.1 X.2.1 hd hi (zlp_has hl) hn rfl (fun lsB hB => kk lsB (zl_set1 (v := .null) hz hB))) k
theorem z_astoreN {i : Nat} (hd : decode M.2.1 pc = .ok (.astore i, 2)) (hn : i < M.2.2.1) (hz : znl ls i = true) (k : Z g l M (pc + 2) (ls.set i (some .null)) st h Q) : Z g l M pc ls (.null :: st) h Q := Z.stepL (fun X hl kk => lv_astoreN X.1 X.2.1 hd (zlp_has hl) hn rfl (fun lsB hB => kk lsB (zl_set1 (v := .null) hz hB))) k
theorem z_lstore_n {kf : Fin 4} {i : Nat} {x : Int64} (hd : decode M.2.1 pc = .ok (.lstore_n kf, 1)) (hi : (kf : Nat) = i) (hn : i + 1 < M.2.2.1) (hz : znl ls i = true) (k : Z g l M (pc + 1) ((ls.set i (some (.long x))).set (i + 1) none) st h Q) : Z g l M pc ls (.long x :: st) h Q := Z.stepL (fun X hl kk => lv_lstore_n X.1 X.2.1 hd hi (zlp_has hl) hn rfl (fun lsB hB => kk lsB (zl_set2 (v := .long x) hz hB))) k
theorem z_lstore {i : Nat} {x : Int64} (hd : decode M.2.1 pc = .ok (.lstore i, 2)) (hn : i + 1 < M.2.2.1) (hz : znl ls i = true) (k : Z g l M (pc + 2) ((ls.set i (some (.long x))).set (i + 1) none) st h Q) : Z g l M pc ls (.long x :: st) h Q := Z.stepL (fun X hl kk => lv_lstore X.1 X.2.1 hd (zlp_has hl) hn rfl (fun lsB hB => kk lsB (zl_set2 (v := .long x) hz hB))) k
theorem zlp_find {ls : List (Option Value)} {i : Nat} {v : Value} (hv : ls[i]? = some (some v)) : ∃ k : Nat, (zlp g ls)[k]? = some (i, zv g v) := List.getElem?_of_mem (zlp_mem hv)
theorem z_iinc {i : Nat} {n : Int} {x : Int32} (hd : decode M.2.1 pc = .ok (.iinc i n, 3)) (hx : ls[i]? = some (some (.int x))) (hn : i < M.2.2.1) (hz : znl ls i = true) (k : Z g l M (pc + 3) (ls.set i (some (.int (x + Int32.ofInt n)))) st h Q) : Z g l M pc ls st h Q := Z.stepL (fun X hl kk => by
    obtain ⟨j, hj⟩ := zlp_find (g := g) hx
    exact lv_iinc X.1 X.2.1 hd (zlp_has hl) hj rfl hn rfl (fun lsB hB => kk lsB (zl_set1 (v := .int (x + Int32.ofInt n)) hz hB))) k
theorem z_iadd {x y : Int32} (hd : decode M.2.1 pc = .ok (.iadd, 1)) (k : Z g l M (pc + 1) ls (.int (x + y) :: st) h Q) : Z g l M pc ls (.int y :: .int x :: st) h Q := Z.step (fun X _ _ _ k => lv_iadd X.1 X.2.1 hd k) k
theorem z_isub {x y : Int32} (hd : decode M.2.1 pc = .ok (.isub, 1)) (k : Z g l M (pc + 1) ls (.int (x - y) :: st) h Q) : Z g l M pc ls (.int y :: .int x :: st) h Q := Z.step (fun X _ _ _ k => lv_isub X.1 X.2.1 hd k) k
theorem z_imul {x y : Int32} (hd : decode M.2.1 pc = .ok (.imul, 1)) (k : Z g l M (pc + 1) ls (.int (x * y) :: st) h Q) : Z g l M pc ls (.int y :: .int x :: st) h Q := Z.step (fun X _ _ _ k => lv_imul X.1 X.2.1 hd k) k
theorem z_iand {x y : Int32} (hd : decode M.2.1 pc = .ok (.iand, 1)) (k : Z g l M (pc + 1) ls (.int (x &&& y) :: st) h Q) : Z g l M pc ls (.int y :: .int x :: st) h Q := Z.step (fun X _ _ _ k => lv_iand X.1 X.2.1 hd k) k
theorem z_ior {x y : Int32} (hd : decode M.2.1 pc = .ok (.ior, 1)) (k : Z g l M (pc + 1) ls (.int (x ||| y) :: st) h Q) : Z g l M pc ls (.int y :: .int x :: st) h Q := Z.step (fun X _ _ _ k => lv_ior X.1 X.2.1 hd k) k
theorem z_ixor {x y : Int32} (hd : decode M.2.1 pc = .ok (.ixor, 1)) (k : Z g l M (pc + 1) ls (.int (x ^^^ y) :: st) h Q) : Z g l M pc ls (.int y :: .int x :: st) h Q := Z.step (fun X _ _ _ k => lv_ixor X.1 X.2.1 hd k) k
theorem z_ishl {x y : Int32} (hd : decode M.2.1 pc = .ok (.ishl, 1)) (k : Z g l M (pc + 1) ls (.int (x <<< (y &&& 31)) :: st) h Q) : Z g l M pc ls (.int y :: .int x :: st) h Q := Z.step (fun X _ _ _ k => lv_ishl X.1 X.2.1 hd k) k
theorem z_ishr {x y : Int32} (hd : decode M.2.1 pc = .ok (.ishr, 1)) (k : Z g l M (pc + 1) ls (.int (x >>> (y &&& 31)) :: st) h Q) : Z g l M pc ls (.int y :: .int x :: st) h Q := Z.step (fun X _ _ _ k => lv_ishr X.1 X.2.1 hd k) k
theorem z_idiv {x y : Int32} (hd : decode M.2.1 pc = .ok (.idiv, 1)) (hne : ¬ y = 0) (k : Z g l M (pc + 1) ls (.int (x / y) :: st) h Q) : Z g l M pc ls (.int y :: .int x :: st) h Q := Z.step (fun X _ _ _ k => lv_idiv X.1 X.2.1 hd hne k) k
theorem z_irem {x y : Int32} (hd : decode M.2.1 pc = .ok (.irem, 1)) (hne : ¬ y = 0) (k : Z g l M (pc + 1) ls (.int (x - x / y * y) :: st) h Q) : Z g l M pc ls (.int y :: .int x :: st) h Q := Z.step (fun X _ _ _ k => lv_irem X.1 X.2.1 hd hne k) k
theorem z_ineg {x : Int32} (hd : decode M.2.1 pc = .ok (.ineg, 1)) (k : Z g l M (pc + 1) ls (.int (-x) :: st) h Q) : Z g l M pc ls (.int x :: st) h Q := Z.step (fun X _ _ _ k => lv_ineg X.1 X.2.1 hd k) k
theorem z_ladd {x y : Int64} (hd : decode M.2.1 pc = .ok (.ladd, 1)) (k : Z g l M (pc + 1) ls (.long (x + y) :: st) h Q) : Z g l M pc ls (.long y :: .long x :: st) h Q := Z.step (fun X _ _ _ k => lv_ladd X.1 X.2.1 hd k) k
theorem z_lsub {x y : Int64} (hd : decode M.2.1 pc = .ok (.lsub, 1)) (k : Z g l M (pc + 1) ls (.long (x - y) :: st) h Q) : Z g l M pc ls (.long y :: .long x :: st) h Q := Z.step (fun X _ _ _ k => lv_lsub X.1 X.2.1 hd k) k
theorem z_lmul {x y : Int64} (hd : decode M.2.1 pc = .ok (.lmul, 1)) (k : Z g l M (pc + 1) ls (.long (x * y) :: st) h Q) : Z g l M pc ls (.long y :: .long x :: st) h Q := Z.step (fun X _ _ _ k => lv_lmul X.1 X.2.1 hd k) k
theorem z_lxor {x y : Int64} (hd : decode M.2.1 pc = .ok (.lxor, 1)) (k : Z g l M (pc + 1) ls (.long (x ^^^ y) :: st) h Q) : Z g l M pc ls (.long y :: .long x :: st) h Q := Z.step (fun X _ _ _ k => lv_lxor X.1 X.2.1 hd k) k
theorem z_ldiv {x y : Int64} (hd : decode M.2.1 pc = .ok (.ldiv, 1)) (hne : ¬ y = 0) (k : Z g l M (pc + 1) ls (.long (x / y) :: st) h Q) : Z g l M pc ls (.long y :: .long x :: st) h Q := Z.step (fun X _ _ _ k => lv_ldiv X.1 X.2.1 hd hne k) k
theorem z_lrem {x y : Int64} (hd : decode M.2.1 pc = .ok (.lrem, 1)) (hne : ¬ y = 0) (k : Z g l M (pc + 1) ls (.long (x - x / y * y) :: st) h Q) : Z g l M pc ls (.long y :: .long x :: st) h Q := Z.step (fun X _ _ _ k => lv_lrem X.1 X.2.1 hd hne k) k
theorem z_lneg {x : Int64} (hd : decode M.2.1 pc = .ok (.lneg, 1)) (k : Z g l M (pc + 1) ls (.long (-x) :: st) h Q) : Z g l M pc ls (.long x :: st) h Q := Z.step (fun X _ _ _ k => lv_lneg X.1 X.2.1 hd k) k
theorem z_lshr {x : Int64} {y : Int32} (hd : decode M.2.1 pc = .ok (.lshr, 1)) (k : Z g l M (pc + 1) ls (.long (x >>> (y.toInt64 &&& 63)) :: st) h Q) : Z g l M pc ls (.int y :: .long x :: st) h Q := Z.step (fun X _ _ _ k => lv_lshr X.1 X.2.1 hd rfl k) k
theorem z_i2l {x : Int32} (hd : decode M.2.1 pc = .ok (.i2l, 1)) (k : Z g l M (pc + 1) ls (.long x.toInt64 :: st) h Q) : Z g l M pc ls (.int x :: st) h Q := Z.step (fun X _ _ _ k => lv_i2l X.1 X.2.1 hd rfl k) k
theorem z_l2i {x : Int64} (hd : decode M.2.1 pc = .ok (.l2i, 1)) (k : Z g l M (pc + 1) ls (.int x.toInt32 :: st) h Q) : Z g l M pc ls (.long x :: st) h Q := Z.step (fun X _ _ _ k => lv_l2i X.1 X.2.1 hd rfl k) k
theorem z_i2b {x : Int32} (hd : decode M.2.1 pc = .ok (.i2b, 1)) (k : Z g l M (pc + 1) ls (.int x.toInt8.toInt32 :: st) h Q) : Z g l M pc ls (.int x :: st) h Q := Z.step (fun X _ _ _ k => lv_i2b X.1 X.2.1 hd rfl k) k
theorem z_lcmp {x y : Int64} (hd : decode M.2.1 pc = .ok (.lcmp, 1)) (k : Z g l M (pc + 1) ls (.int (lg_cmp x y) :: st) h Q) : Z g l M pc ls (.long y :: .long x :: st) h Q := Z.step (fun X _ _ _ k => W.lcmp X.1 X.2.1 hd k) k
theorem z_dup {a : Value} (hd : decode M.2.1 pc = .ok (.dup, 1)) (ha : a.category = 1) (k : Z g l M (pc + 1) ls (a :: a :: st) h Q) : Z g l M pc ls (a :: st) h Q := Z.step (fun X _ _ _ k => lv_dup X.1 X.2.1 hd (by rw [zv_cat]; exact ha) k) k
theorem z_pop {a : Value} (hd : decode M.2.1 pc = .ok (.pop, 1)) (ha : a.category = 1) (k : Z g l M (pc + 1) ls st h Q) : Z g l M pc ls (a :: st) h Q := Z.step (fun X _ _ _ k => lv_pop X.1 X.2.1 hd (by rw [zv_cat]; exact ha) k) k
theorem z_dup2 {a b : Value} (hd : decode M.2.1 pc = .ok (.dup2, 1)) (ha : a.category = 1) (hb : b.category = 1) (k : Z g l M (pc + 1) ls (a :: b :: a :: b :: st) h Q) : Z g l M pc ls (a :: b :: st) h Q := Z.step (fun X _ _ _ k => lv_dup2_11 X.1 X.2.1 hd (by rw [zv_cat]; exact ha) (by rw [zv_cat]; exact hb) k) k
theorem Z.br {pt pf : Nat} {st' : List Value} {P : Prop} (hw : ∀ {p : Program} {e : Env} {R : Room} {s : State} {m : MethodId} {args : Array Value} {below : List Frame} {meth : Method} {c : Code} {H : Heap} {locs : List Loc} {cells slots : Nat} {lsA : Array Slot} {Qm : State → Prop}, ZX g M p R s m args meth c → (P → W p l e R s m args below meth c H locs cells slots Qm (F0 m pt lsA (st'.map (zv g)))) → (¬ P → W p l e R s m args below meth c H locs cells slots Qm (F0 m pf lsA (st'.map (zv g)))) → W p l e R s m args below meth c H locs cells slots Qm (F0 m pc lsA (st.map (zv g)))) (kt : P → Z g l M pt ls st' h Q) (kf : ¬ P → Z g l M pf ls st' h Q) : Z g l M pc ls st h Q := by
  by_cases hP : P
  · obtain ⟨v, h', dc, ds, hq, hn, hs, kk⟩ := kt hP
    exact ⟨v, h', dc, ds, hq, hn, hs, fun p e R s m args below meth c X H locs cells slots lsA hm hS hl h1 h2 => hw X (fun _ => kk p e R s m args below meth c X H locs cells slots lsA hm hS hl h1 h2) (fun hN => absurd hP hN)⟩
  · obtain ⟨v, h', dc, ds, hq, hn, hs, kk⟩ := kf hP
    exact ⟨v, h', dc, ds, hq, hn, hs, fun p e R s m args below meth c X H locs cells slots lsA hm hS hl h1 h2 => hw X (fun hN => absurd hN hP) (fun _ => kk p e R s m args below meth c X H locs cells slots lsA hm hS hl h1 h2)⟩
theorem z_if_eq {x : Int32} {off : Int} {tgt : Nat} (hd : decode M.2.1 pc = .ok (.ifCond .eq off, 3)) (ht : (pc : Int) + off = (tgt : Int)) (kt : x = 0 → Z g l M tgt ls st h Q) (kf : ¬ (x = 0) → Z g l M (pc + 3) ls st h Q) : Z g l M pc ls (.int x :: st) h Q := Z.br (st' := st) (fun X a b => lv_if_eq X.1 X.2.1 hd ht a b) kt kf
theorem z_icmp_eq {x y : Int32} {off : Int} {tgt : Nat} (hd : decode M.2.1 pc = .ok (.if_icmp .eq off, 3)) (ht : (pc : Int) + off = (tgt : Int)) (kt : x = y → Z g l M tgt ls st h Q) (kf : ¬ (x = y) → Z g l M (pc + 3) ls st h Q) : Z g l M pc ls (.int y :: .int x :: st) h Q := Z.br (st' := st) (fun X a b => lv_icmp_eq X.1 X.2.1 hd ht a b) kt kf
theorem z_if_ne {x : Int32} {off : Int} {tgt : Nat} (hd : decode M.2.1 pc = .ok (.ifCond .ne off, 3)) (ht : (pc : Int) + off = (tgt : Int)) (kt : ¬ x = 0 → Z g l M tgt ls st h Q) (kf : ¬ (¬ x = 0) → Z g l M (pc + 3) ls st h Q) : Z g l M pc ls (.int x :: st) h Q := Z.br (st' := st) (fun X a b => lv_if_ne X.1 X.2.1 hd ht a (fun q => b (fun z => absurd q z))) kt kf
theorem z_icmp_ne {x y : Int32} {off : Int} {tgt : Nat} (hd : decode M.2.1 pc = .ok (.if_icmp .ne off, 3)) (ht : (pc : Int) + off = (tgt : Int)) (kt : ¬ x = y → Z g l M tgt ls st h Q) (kf : ¬ (¬ x = y) → Z g l M (pc + 3) ls st h Q) : Z g l M pc ls (.int y :: .int x :: st) h Q := Z.br (st' := st) (fun X a b => lv_icmp_ne X.1 X.2.1 hd ht a (fun q => b (fun z => absurd q z))) kt kf
theorem z_if_lt {x : Int32} {off : Int} {tgt : Nat} (hd : decode M.2.1 pc = .ok (.ifCond .lt off, 3)) (ht : (pc : Int) + off = (tgt : Int)) (kt : x < 0 → Z g l M tgt ls st h Q) (kf : ¬ (x < 0) → Z g l M (pc + 3) ls st h Q) : Z g l M pc ls (.int x :: st) h Q := Z.br (st' := st) (fun X a b => lv_if_lt X.1 X.2.1 hd ht a b) kt kf
theorem z_icmp_lt {x y : Int32} {off : Int} {tgt : Nat} (hd : decode M.2.1 pc = .ok (.if_icmp .lt off, 3)) (ht : (pc : Int) + off = (tgt : Int)) (kt : x < y → Z g l M tgt ls st h Q) (kf : ¬ (x < y) → Z g l M (pc + 3) ls st h Q) : Z g l M pc ls (.int y :: .int x :: st) h Q := Z.br (st' := st) (fun X a b => lv_icmp_lt X.1 X.2.1 hd ht a b) kt kf
theorem z_if_ge {x : Int32} {off : Int} {tgt : Nat} (hd : decode M.2.1 pc = .ok (.ifCond .ge off, 3)) (ht : (pc : Int) + off = (tgt : Int)) (kt : 0 ≤ x → Z g l M tgt ls st h Q) (kf : ¬ (0 ≤ x) → Z g l M (pc + 3) ls st h Q) : Z g l M pc ls (.int x :: st) h Q := Z.br (st' := st) (fun X a b => lv_if_ge X.1 X.2.1 hd ht a b) kt kf
theorem z_icmp_ge {x y : Int32} {off : Int} {tgt : Nat} (hd : decode M.2.1 pc = .ok (.if_icmp .ge off, 3)) (ht : (pc : Int) + off = (tgt : Int)) (kt : y ≤ x → Z g l M tgt ls st h Q) (kf : ¬ (y ≤ x) → Z g l M (pc + 3) ls st h Q) : Z g l M pc ls (.int y :: .int x :: st) h Q := Z.br (st' := st) (fun X a b => lv_icmp_ge X.1 X.2.1 hd ht a b) kt kf
theorem z_if_gt {x : Int32} {off : Int} {tgt : Nat} (hd : decode M.2.1 pc = .ok (.ifCond .gt off, 3)) (ht : (pc : Int) + off = (tgt : Int)) (kt : 0 < x → Z g l M tgt ls st h Q) (kf : ¬ (0 < x) → Z g l M (pc + 3) ls st h Q) : Z g l M pc ls (.int x :: st) h Q := Z.br (st' := st) (fun X a b => lv_if_gt X.1 X.2.1 hd ht a b) kt kf
theorem z_icmp_gt {x y : Int32} {off : Int} {tgt : Nat} (hd : decode M.2.1 pc = .ok (.if_icmp .gt off, 3)) (ht : (pc : Int) + off = (tgt : Int)) (kt : y < x → Z g l M tgt ls st h Q) (kf : ¬ (y < x) → Z g l M (pc + 3) ls st h Q) : Z g l M pc ls (.int y :: .int x :: st) h Q := Z.br (st' := st) (fun X a b => lv_icmp_gt X.1 X.2.1 hd ht a b) kt kf
theorem z_if_le {x : Int32} {off : Int} {tgt : Nat} (hd : decode M.2.1 pc = .ok (.ifCond .le off, 3)) (ht : (pc : Int) + off = (tgt : Int)) (kt : x ≤ 0 → Z g l M tgt ls st h Q) (kf : ¬ (x ≤ 0) → Z g l M (pc + 3) ls st h Q) : Z g l M pc ls (.int x :: st) h Q := Z.br (st' := st) (fun X a b => lv_if_le X.1 X.2.1 hd ht a b) kt kf
theorem z_icmp_le {x y : Int32} {off : Int} {tgt : Nat} (hd : decode M.2.1 pc = .ok (.if_icmp .le off, 3)) (ht : (pc : Int) + off = (tgt : Int)) (kt : x ≤ y → Z g l M tgt ls st h Q) (kf : ¬ (x ≤ y) → Z g l M (pc + 3) ls st h Q) : Z g l M pc ls (.int y :: .int x :: st) h Q := Z.br (st' := st) (fun X a b => lv_icmp_le X.1 X.2.1 hd ht a b) kt kf
theorem z_goto {off : Int} {tgt : Nat} (hd : decode M.2.1 pc = .ok (.goto off, 3)) (ht : (pc : Int) + off = (tgt : Int)) (k : Z g l M tgt ls st h Q) : Z g l M pc ls st h Q := Z.step (fun X _ _ _ k => lv_goto X.1 X.2.1 hd ht k) k
theorem z_ifnonnull {x : Nat} {off : Int} {tgt : Nat} (hd : decode M.2.1 pc = .ok (.ifnonnull off, 3)) (ht : (pc : Int) + off = (tgt : Int)) (k : Z g l M tgt ls st h Q) : Z g l M pc ls (.ref x :: st) h Q := Z.step (fun X _ _ _ k => lv_ifnonnull X.1 X.2.1 hd ht k) k
theorem z_ifnonnullN {off : Int} (hd : decode M.2.1 pc = .ok (.ifnonnull off, 3)) (k : Z g l M (pc + 3) ls st h Q) : Z g l M pc ls (.null :: st) h Q := Z.step (fun X _ _ _ k => lv_ifnonnullN X.1 X.2.1 hd k) k
theorem z_ifnull {x : Nat} {off : Int} (hd : decode M.2.1 pc = .ok (.ifnull off, 3)) (k : Z g l M (pc + 3) ls st h Q) : Z g l M pc ls (.ref x :: st) h Q := Z.step (fun X _ _ _ k => lv_ifnull X.1 X.2.1 hd k) k
theorem z_ifnullN {off : Int} {tgt : Nat} (hd : decode M.2.1 pc = .ok (.ifnull off, 3)) (ht : (pc : Int) + off = (tgt : Int)) (k : Z g l M tgt ls st h Q) : Z g l M pc ls (.null :: st) h Q := Z.step (fun X _ _ _ k => lv_ifnullN X.1 X.2.1 hd ht k) k
theorem z_tableOut {dflt lo hi : Int} {offs : Array Int} {len : Nat} {x : Int32} {tgt : Nat} (hd : decode M.2.1 pc = .ok (.tableswitch dflt lo hi offs, len)) (hx : x.toInt < lo ∨ hi < x.toInt) (ht : (pc : Int) + dflt = (tgt : Int)) (k : Z g l M tgt ls st h Q) : Z g l M pc ls (.int x :: st) h Q := Z.step (fun X _ _ _ k => lv_tableOut X.1 X.2.1 hd hx ht k) k
theorem z_tableIn {dflt lo hi : Int} {offs : Array Int} {len : Nat} {x : Int32} {off : Int} {tgt : Nat} (hd : decode M.2.1 pc = .ok (.tableswitch dflt lo hi offs, len)) (h1 : ¬ x.toInt < lo) (h2 : ¬ hi < x.toInt) (ho : offs[(x.toInt - lo).toNat]? = some off) (ht : (pc : Int) + off = (tgt : Int)) (k : Z g l M tgt ls st h Q) : Z g l M pc ls (.int x :: st) h Q := Z.step (fun X _ _ _ k => lv_tableIn X.1 X.2.1 hd h1 h2 ho ht k) k
end ZRules
end
section
section ZHeap
variable {g : ZG} {l : Launch} {M : ZM} {pc : Nat} {ls : List (Option Value)} {st : List Value} {Q : Option Value → ZH → Prop} {K : ZK} {I : ZI} {L : ZL} {R : ZR} {n s0 : Nat}
theorem zcell_congr {I' : ZI} {L' : ZL} {R' : ZR} {q : Nat} (h1 : I' q = I q) (h2 : L' q = L q) (h3 : R' q = R q) : zcell g K I' L' R' q = zcell g K I L R q := by
  simp only [zcell, h1, h2, h3]
  have e : ∀ ci k, zfv g I' L' R' ci q k = zfv g I L R ci q k := fun ci k => by simp only [zfv, h1, h2, h3]
  simp only [funext (e _)]
theorem zcell_congrK {K' : ZK} {I' : ZI} {L' : ZL} {R' : ZR} {q : Nat} (h0 : K' q = K q) (h1 : I' q = I q) (h2 : L' q = L q) (h3 : R' q = R q) : zcell g K' I' L' R' q = zcell g K I L R q := by
  rw [← zcell_congr (K := K) h1 h2 h3]
  simp only [zcell, h0]
theorem zup_ne {α : Type} {f : Nat → Nat → α} {r i q : Nat} {x : α} (h : q ≠ r) : zup f r i x q = f q := by funext j; simp [zup, h]
theorem zup_eq {α : Type} {f : Nat → Nat → α} {r i : Nat} {x : α} : zup f r i x r = fun j => if j = i then x else f r j := by funext j; simp [zup]
theorem zupA_ne {α : Type} {f : Nat → Nat → α} {r q : Nat} {x : Nat → α} (h : q ≠ r) : zupA f r x q = f q := by simp [zupA, h]
theorem zupA_eq {α : Type} {f : Nat → Nat → α} {r : Nat} {x : Nat → α} : zupA f r x r = x := by simp [zupA]
theorem zmem_in {H : Heap} (hm : zmem g H (K, I, L, R, n, s0)) {r k : Nat} (hk : (K r).1 = k) (h0 : k ≠ 0) : 4 ≤ r ∧ r < n := hm.2.1 r (by rw [hk]; exact h0)
theorem zmem_set {H H1 : Heap} {I' : ZI} {L' : ZL} {R' : ZR} {r : Nat} (hm : zmem g H (K, I, L, R, n, s0)) (hr : 4 ≤ r ∧ r < n) (he : va_at g.1 vwCl (zphi g r, zcell g K I' L' R' r) H1) (ho : ∀ q, q ≠ r → I' q = I q ∧ L' q = L q ∧ R' q = R q) (z : H1.size = H.size) (oq : ∀ q : Nat, q ≠ zphi g r → H1[q]? = H[q]?) : zmem g H1 (K, I', L', R', n, s0) := by
  refine ⟨hm.1, hm.2.1, z.trans hm.2.2.1, ?_⟩
  rw [← zws_set (g := g) (K := K) (I := I) (L := L) (R := R) hr.1 hr.2 rfl (fun q hq => zcell_congr (ho q hq).1 (ho q hq).2.1 (ho q hq).2.2)]
  exact va_P.set hm.2.2.2 (zws_D g _) (zws_at g (K, I, L, R, n, s0) hr.1 hr.2) he oq
theorem zA_phi {r : Nat} (h : 4 ≤ r) : zA g (zphi g r) := by rw [zphi_new g h]; exact Nat.le_add_right _ _
theorem Z.stepH {pc' : Nat} {st' : List Value} {h h1 : ZH} (e1 : h1.2.2.2.2.1 = h.2.2.2.2.1) (e2 : h1.2.2.2.2.2 = h.2.2.2.2.2) (hw : ∀ {p : Program} {e : Env} {R : Room} {s : State} {m : MethodId} {args : Array Value} {below : List Frame} {meth : Method} {c : Code} {H : Heap} {locs : List Loc} {cells slots : Nat} {lsA : Array Slot} {Qm : State → Prop}, ZX g M p R s m args meth c → zmem g H h → va_S (zA g) s.heap H locs → zl g lsA M.2.2.1 ls → (∀ (H1 : Heap) (locs1 : List Loc), zmem g H1 h1 → va_S (zA g) s.heap H1 locs1 → W p l e R s m args below meth c H1 locs1 cells slots Qm (F0 m pc' lsA (st'.map (zv g)))) → W p l e R s m args below meth c H locs cells slots Qm (F0 m pc lsA (st.map (zv g)))) (k : Z g l M pc' ls st' h1 Q) : Z g l M pc ls st h Q := by
  obtain ⟨v, h', dc, ds, hq, hn, hs, kk⟩ := k
  exact ⟨v, h', dc, ds, hq, by rw [hn, e1], by rw [hs, e2], fun p e R s m args below meth c X H locs cells slots lsA hm hS hl h1 h2 => hw X hm hS hl (fun H1 locs1 hm1 hS1 => kk p e R s m args below meth c X H1 locs1 cells slots lsA hm1 hS1 hl h1 h2)⟩
theorem Z.stepN {pc' N : Nat} {st' : List Value} {h h1 : ZH} (e1 : h1.2.2.2.2.1 = h.2.2.2.2.1 + 1) (e2 : h1.2.2.2.2.2 = h.2.2.2.2.2 + N) (hw : ∀ {p : Program} {e : Env} {R : Room} {s : State} {m : MethodId} {args : Array Value} {below : List Frame} {meth : Method} {c : Code} {H : Heap} {locs : List Loc} {cells slots : Nat} {lsA : Array Slot} {Qm : State → Prop}, ZX g M p R s m args meth c → zmem g H h → va_S (zA g) s.heap H locs → zl g lsA M.2.2.1 ls → cells + 1 ≤ R.cells → slots + N ≤ R.slots → (∀ (H1 : Heap), zmem g H1 h1 → va_S (zA g) s.heap H1 locs → W p l e R s m args below meth c H1 locs (cells + 1) (slots + N) Qm (F0 m pc' lsA (st'.map (zv g)))) → W p l e R s m args below meth c H locs cells slots Qm (F0 m pc lsA (st.map (zv g)))) (k : Z g l M pc' ls st' h1 Q) : Z g l M pc ls st h Q := by
  obtain ⟨v, h', dc, ds, hq, hn, hs, kk⟩ := k
  refine ⟨v, h', 1 + dc, N + ds, hq, by rw [hn, e1]; omega, by rw [hs, e2]; omega, fun p e R s m args below meth c X H locs cells slots lsA hm hS hl h1 h2 => hw X hm hS hl (by omega) (by omega) (fun H1 hm1 hS1 => ?_)⟩
  rw [← Nat.add_assoc, ← Nat.add_assoc]
  exact kk p e R s m args below meth c X H1 locs (cells + 1) (slots + N) lsA hm1 hS1 hl (by omega) (by omega)
-- the classes
def zTT (ci : Nat) : u_T := match ci with
  | 0 => TX0
  | 1 => TX1
  | 2 => TX2
  | 3 => TX3
  | 4 => TX4
  | 5 => TX5
  | 6 => TX6
  | 7 => TX7
  | 8 => TX8
  | _ => TX9
def zRR (ci : Nat) : String := match ci with
  | 0 => RX0
  | 1 => RX1
  | 2 => RX2
  | 3 => RX3
  | 4 => RX4
  | 5 => RX5
  | 6 => RX6
  | 7 => RX7
  | 8 => RX8
  | _ => RX9
theorem zcl : ∀ ci, ci < 10 → vwCl[ci]? = some (zRR ci, zTT ci, zN ci)
  | 0, _ => rfl | 1, _ => rfl | 2, _ => rfl | 3, _ => rfl | 4, _ => rfl | 5, _ => rfl | 6, _ => rfl | 7, _ => rfl | 8, _ => rfl | 9, _ => rfl
  | k + 10, h => absurd h (by omega)
theorem ztyok : ∀ ci, ci < 10 → ∀ k, k < zN ci → parseFieldDescriptor (zTT ci k).2.2.1 = some (zty ci k)
  | 0, _ => tyX0_ok | 1, _ => tyX1_ok | 2, _ => tyX2_ok | 3, _ => tyX3_ok | 4, _ => tyX4_ok | 5, _ => tyX5_ok | 6, _ => tyX6_ok | 7, _ => tyX7_ok | 8, _ => tyX8_ok | 9, _ => tyX9_ok
  | k + 10, h => absurd h (by omega)
theorem znm : ∀ ci, ci < 10 → ∀ a, a < zN ci → ∀ b, b < zN ci → a ≠ b → (zTT ci a).2.1 ≠ (zTT ci b).2.1
  | 0, _ => nmX0 | 1, _ => nmX1 | 2, _ => nmX2 | 3, _ => nmX3 | 4, _ => nmX4 | 5, _ => nmX5 | 6, _ => nmX6 | 7, _ => nmX7 | 8, _ => nmX8 | 9, _ => nmX9
  | k + 10, h => absurd h (by omega)
theorem zuw0 : ((List.range 10).all (fun ci => (u_ws (zRR ci) (zTT ci) (zN ci)).all (fun w => decide (w ∈ lw_tbl) && goodWord w))) = true := by decide +kernel
theorem zuw {ci : Nat} (hc : ci < 10) : ∀ w ∈ u_ws (zRR ci) (zTT ci) (zN ci), w ∈ gw := by
  intro w hw
  have h1 := List.all_eq_true.mp (List.all_eq_true.mp zuw0 ci (List.mem_range.mpr hc)) w hw
  simp only [Bool.and_eq_true, decide_eq_true_eq] at h1
  exact gw_in h1.1 h1.2
theorem zcell_obj {r ci : Nat} (hK : (K r).1 = 10 + ci) : zcell g K I L R r = .inr (ci, (List.range (zN ci)).map (zfv g I L R ci r)) := by
  unfold zcell
  rw [hK]
  split <;> first | omega | rw [show 10 + ci - 10 = ci by omega]
theorem zfs_at {r ci k : Nat} (hk : k < zN ci) : ((List.range (zN ci)).map (zfv g I L R ci r))[k]? = some (zfv g I L R ci r k) := by
  rw [List.getElem?_map, List.getElem?_range hk]; rfl
theorem z_getV {a ci kf index : Nat} {v : Value} (hd : decode M.2.1 pc = .ok (.getfield index, 3)) (hK : (K a).1 = 10 + ci) (hc : ci < 10) (hk : kf < zN ci) (hv : zfv g I L R ci a kf = zv g v) (hw : Cond.fieldLink M.1.cls index (zTT ci kf).1 (zTT ci kf).2.1 (zTT ci kf).2.2.1 ∈ gw) (k : Z g l M (pc + 3) ls (v :: st) (K, I, L, R, n, s0) Q) : Z g l M pc ls (.ref a :: st) (K, I, L, R, n, s0) Q := by
  refine Z.step (fun X hm _ _ k => ?_) k
  have hr := zmem_in hm hK (by omega)
  have hat := zws_at g (K, I, L, R, n, s0) hr.1 hr.2
  simp only [zcell_obj hK] at hat
  exact va_get X.1 X.2.1 X.2.2.2.2.2.1 (zuw hc) X.2.2.2.2.1 X.2.2.2.2.2.2.2.2.2.2.1.1 hm.2.2.2 (a - 4) hat (zcl ci hc) kf hk (X.2.2.2.2.2.1 _ hw) (fun _ h9 => h9) (by rw [zfs_at hk, hv]) hd k
theorem z_getI {a ci kf index : Nat} (hd : decode M.2.1 pc = .ok (.getfield index, 3)) (hK : (K a).1 = 10 + ci) (hc : ci < 10) (hk : kf < zN ci) (hs : zsort (zty ci kf) = 0) (hw : Cond.fieldLink M.1.cls index (zTT ci kf).1 (zTT ci kf).2.1 (zTT ci kf).2.2.1 ∈ gw) (k : Z g l M (pc + 3) ls (.int (I a kf) :: st) (K, I, L, R, n, s0) Q) : Z g l M pc ls (.ref a :: st) (K, I, L, R, n, s0) Q := z_getV hd hK hc hk (by simp only [zfv, hs]; rfl) hw k
theorem z_getL {a ci kf index : Nat} (hd : decode M.2.1 pc = .ok (.getfield index, 3)) (hK : (K a).1 = 10 + ci) (hc : ci < 10) (hk : kf < zN ci) (hs : zsort (zty ci kf) = 1) (hw : Cond.fieldLink M.1.cls index (zTT ci kf).1 (zTT ci kf).2.1 (zTT ci kf).2.2.1 ∈ gw) (k : Z g l M (pc + 3) ls (.long (L a kf) :: st) (K, I, L, R, n, s0) Q) : Z g l M pc ls (.ref a :: st) (K, I, L, R, n, s0) Q := z_getV hd hK hc hk (by simp only [zfv, hs]; rfl) hw k
theorem z_getR {a ci kf index r : Nat} (hd : decode M.2.1 pc = .ok (.getfield index, 3)) (hK : (K a).1 = 10 + ci) (hc : ci < 10) (hk : kf < zN ci) (hs : zsort (zty ci kf) = 2) (hw : Cond.fieldLink M.1.cls index (zTT ci kf).1 (zTT ci kf).2.1 (zTT ci kf).2.2.1 ∈ gw) (hr : R a kf = some r) (k : Z g l M (pc + 3) ls (.ref r :: st) (K, I, L, R, n, s0) Q) : Z g l M pc ls (.ref a :: st) (K, I, L, R, n, s0) Q := z_getV hd hK hc hk (by simp only [zfv, hs, hr]; rfl) hw k
theorem z_getRN {a ci kf index : Nat} (hd : decode M.2.1 pc = .ok (.getfield index, 3)) (hK : (K a).1 = 10 + ci) (hc : ci < 10) (hk : kf < zN ci) (hs : zsort (zty ci kf) = 2) (hw : Cond.fieldLink M.1.cls index (zTT ci kf).1 (zTT ci kf).2.1 (zTT ci kf).2.2.1 ∈ gw) (hr : R a kf = none) (k : Z g l M (pc + 3) ls (.null :: st) (K, I, L, R, n, s0) Q) : Z g l M pc ls (.ref a :: st) (K, I, L, R, n, s0) Q := z_getV hd hK hc hk (by simp only [zfv, hs, hr]; rfl) hw k
theorem zV_at {r ci j : Nat} (hj : j < zN ci) : vp_V ((List.range (zN ci)).map (zfv g I L R ci r)) j = zfv g I L R ci r j := by
  unfold vp_V
  rw [List.getD_eq_getElem?_getD, zfs_at hj]; rfl
/-- a store into an object's field, final or not -/
theorem z_putV {a ci kf index : Nat} {v : Value} {I' : ZI} {L' : ZL} {R' : ZR} (hd : decode M.2.1 pc = .ok (.putfield index, 3)) (hK : (K a).1 = 10 + ci) (hc : ci < 10) (hk : kf < zN ci) (hf : (zTT ci kf).2.2.2 = false ∨ ((zTT ci kf).2.2.2 = true ∧ M.1.name = "<init>" ∧ (zTT ci kf).1 = M.1.cls)) (hn : narrow (zty ci kf) (zv g v) = zv g v) (hfit : fits (zty ci kf) (zv g v) = true) (hw : Cond.fieldLink M.1.cls index (zTT ci kf).1 (zTT ci kf).2.1 (zTT ci kf).2.2.1 ∈ gw)
    (hz : ∀ j, j < zN ci → (if j = kf then zv g v else zfv g I L R ci a j) = zfv g I' L' R' ci a j) (ho : ∀ q, q ≠ a → I' q = I q ∧ L' q = L q ∧ R' q = R q) (k : Z g l M (pc + 3) ls st (K, I', L', R', n, s0) Q) : Z g l M pc ls (v :: .ref a :: st) (K, I, L, R, n, s0) Q := by
  refine Z.stepH (h := (K, I, L, R, n, s0)) (h1 := (K, I', L', R', n, s0)) rfl rfl (fun {p e Rm s m args below meth c H locs cells slots lsA Qm} X hm hS _ kk => ?_) k
  have hr := zmem_in hm hK (by omega)
  have hat := zws_at g (K, I, L, R, n, s0) hr.1 hr.2
  simp only [zcell_obj hK] at hat
  have hts := X.2.2.2.2.2.1
  have hown := X.2.2.2.2.1
  have hKt := X.2.2.2.2.2.2.2.2.2.2.1.1
  have hap := va_apart (own := M.1.cls) hts (zuw hc) (zty ci) (ztyok ci hc) (znm ci hc) hKt (zcl ci hc)
  obtain ⟨r, h1, cell, q1, q2, q3, q4⟩ := hm.2.2.2 (a - 4) _ hat
  have hre : r = (zRR ci, zTT ci, zN ci) := Option.some.inj (h1.symm.trans (zcl ci hc))
  subst hre
  obtain ⟨hSl, hfc, kC, hkC, hkind⟩ := hKt.1 ci _ (zcl ci hc)
  obtain ⟨cf, kf', fi, f, hi, hsl⟩ := hSl kf hk
  have hst := (u_facts hfc hkC (u_lays hts (zuw hc) hk) hi).1
  have hlay := hts _ (zuw hc _ (u_in_lay hk))
  have fin : ∀ H' : Heap, H'[zphi g a]? = some (cell.setSlot f.slot (zv g v)) → H'.size = H.size → (∀ q, q ≠ zphi g a → H'[q]? = H[q]?) → W p l e Rm s m args below meth c H' (locs ++ [⟨zphi g a, f.slot⟩]) cells slots Qm (F0 m (pc + 3) lsA (st.map (zv g))) := by
    intro H' e1 e2 e3
    refine kk H' _ (zmem_set hm hr ?_ ho e2 e3) (hS.put e2 e3 (zA_phi hr.1))
    rw [zcell_obj hK]
    rw [hsl] at e1
    exact ⟨_, zcl ci hc, t_OB.to (V := updV (vp_V ((List.range (zN ci)).map (zfv g I L R ci a))) kf (zv g v)) ⟨_, e1, q2, q3, t_set q4 hap hk (zv g v)⟩ (fun j hj => by
      rw [zV_at hj, ← hz j hj]
      unfold updV
      by_cases hjk : j = kf
      · rw [if_pos hjk, if_pos hjk]
      · rw [if_neg hjk, if_neg hjk, zV_at hj])⟩
  rcases hf with hfin | ⟨hfin, hin2, hdecl⟩
  · unfold u_lay at hlay
    rw [if_neg (by rw [hfin]; decide)] at hlay
    have h6 := u_store hfc hkC hkind hlay hi (ztyok ci hc kf hk) hn hfit
    exact W.putK X.1 X.2.1 (f := f) ⟨hown, hts _ hw, ⟨_, _, _, hi⟩, hst⟩ (by rw [q2]; exact h6) q1 q3 (by rw [hsl]; exact k2_hasslot (q4 kf hk)) rfl rfl hd fin
  · unfold u_lay at hlay
    rw [if_pos hfin] at hlay
    have hcf : m.cls = cf := by
      obtain ⟨_, _, c', _, _, _, -, -, hf', -, -, -, hown2, -⟩ := Cond.laysFinal_spec hlay
      have e1 : c' = cf := by have := hi.symm.trans hf'; simp at this; exact this.1.symm
      rw [hdecl] at hown2
      rw [← e1]; exact Option.some.inj (hown.symm.trans hown2)
    have h6 := u_fits hfc hkC hkind (Or.inr hlay) hi (ztyok ci hc kf hk) hn hfit
    exact W.putFinK X.1 X.2.1 hown (hts _ hw) hi hst hcf (X.2.2.2.2.2.2.2.1.trans hin2) (by rw [q2]; exact h6) q1 q3 (by rw [hsl]; exact k2_hasslot (q4 kf hk)) rfl rfl hd fin
/-- may be written here: not final, or by its own class's constructor -/
def zfinok (M : ZM) (ci kf : Nat) : Bool := !(zTT ci kf).2.2.2 || (M.1.name == "<init>" && (zTT ci kf).1 == M.1.cls)
theorem zfinok_spec {ci kf : Nat} (h : zfinok M ci kf = true) : (zTT ci kf).2.2.2 = false ∨ ((zTT ci kf).2.2.2 = true ∧ M.1.name = "<init>" ∧ (zTT ci kf).1 = M.1.cls) := by
  unfold zfinok at h
  cases hb : (zTT ci kf).2.2.2 with
  | false => exact Or.inl rfl
  | true => rw [hb] at h; simp at h; exact Or.inr ⟨rfl, h.1, h.2⟩
theorem zfv_upI {a ci kf j : Nat} {x : Int32} (hs : zsort (zty ci kf) = 0) : (if j = kf then zv g (.int x) else zfv g I L R ci a j) = zfv g (zup I a kf x) L R ci a j := by
  by_cases h : j = kf
  · subst h
    simp only [if_true, zfv, hs, zup_eq]; rfl
  · simp only [if_neg h, zfv, zup_eq]
theorem zfv_upL {a ci kf j : Nat} {x : Int64} (hs : zsort (zty ci kf) = 1) : (if j = kf then zv g (.long x) else zfv g I L R ci a j) = zfv g I (zup L a kf x) R ci a j := by
  by_cases h : j = kf
  · subst h
    simp only [if_true, zfv, hs, zup_eq]; rfl
  · simp only [if_neg h, zfv, zup_eq]
theorem zfv_upR {a ci kf j : Nat} {x : Option Nat} (hs : zsort (zty ci kf) = 2) : (if j = kf then zv g (va_rf x) else zfv g I L R ci a j) = zfv g I L (zup R a kf x) ci a j := by
  by_cases h : j = kf
  · subst h
    simp only [if_true, zfv, hs, zup_eq]
    cases x <;> rfl
  · simp only [if_neg h, zfv, zup_eq]
theorem z_putI {a ci kf index : Nat} {x : Int32} (hd : decode M.2.1 pc = .ok (.putfield index, 3)) (hK : (K a).1 = 10 + ci) (hc : ci < 10) (hk : kf < zN ci) (hs : zsort (zty ci kf) = 0) (hf : zfinok M ci kf = true) (hn : narrow (zty ci kf) (.int x) = .int x) (hfit : fits (zty ci kf) (.int x) = true) (hw : Cond.fieldLink M.1.cls index (zTT ci kf).1 (zTT ci kf).2.1 (zTT ci kf).2.2.1 ∈ gw) (k : Z g l M (pc + 3) ls st (K, zup I a kf x, L, R, n, s0) Q) : Z g l M pc ls (.int x :: .ref a :: st) (K, I, L, R, n, s0) Q :=
  z_putV hd hK hc hk (zfinok_spec hf) hn hfit hw (fun _ _ => zfv_upI hs) (fun _ hq => ⟨zup_ne hq, rfl, rfl⟩) k
theorem z_putL {a ci kf index : Nat} {x : Int64} (hd : decode M.2.1 pc = .ok (.putfield index, 3)) (hK : (K a).1 = 10 + ci) (hc : ci < 10) (hk : kf < zN ci) (hs : zsort (zty ci kf) = 1) (hf : zfinok M ci kf = true) (hn : narrow (zty ci kf) (.long x) = .long x) (hfit : fits (zty ci kf) (.long x) = true) (hw : Cond.fieldLink M.1.cls index (zTT ci kf).1 (zTT ci kf).2.1 (zTT ci kf).2.2.1 ∈ gw) (k : Z g l M (pc + 3) ls st (K, I, zup L a kf x, R, n, s0) Q) : Z g l M pc ls (.long x :: .ref a :: st) (K, I, L, R, n, s0) Q :=
  z_putV hd hK hc hk (zfinok_spec hf) hn hfit hw (fun _ _ => zfv_upL hs) (fun _ hq => ⟨rfl, zup_ne hq, rfl⟩) k
theorem z_putR {a ci kf index x : Nat} (hd : decode M.2.1 pc = .ok (.putfield index, 3)) (hK : (K a).1 = 10 + ci) (hc : ci < 10) (hk : kf < zN ci) (hs : zsort (zty ci kf) = 2) (hf : zfinok M ci kf = true) (hn : ∀ y, narrow (zty ci kf) (.ref y) = .ref y) (hfit : ∀ y, fits (zty ci kf) (.ref y) = true) (hw : Cond.fieldLink M.1.cls index (zTT ci kf).1 (zTT ci kf).2.1 (zTT ci kf).2.2.1 ∈ gw) (k : Z g l M (pc + 3) ls st (K, I, L, zup R a kf (some x), n, s0) Q) : Z g l M pc ls (.ref x :: .ref a :: st) (K, I, L, R, n, s0) Q :=
  z_putV hd hK hc hk (zfinok_spec hf) (hn _) (hfit _) hw (fun _ _ => zfv_upR (x := some x) hs) (fun _ hq => ⟨rfl, rfl, zup_ne hq⟩) k
theorem z_putRN {a ci kf index : Nat} (hd : decode M.2.1 pc = .ok (.putfield index, 3)) (hK : (K a).1 = 10 + ci) (hc : ci < 10) (hk : kf < zN ci) (hs : zsort (zty ci kf) = 2) (hf : zfinok M ci kf = true) (hn : narrow (zty ci kf) .null = .null) (hfit : fits (zty ci kf) .null = true) (hw : Cond.fieldLink M.1.cls index (zTT ci kf).1 (zTT ci kf).2.1 (zTT ci kf).2.2.1 ∈ gw) (k : Z g l M (pc + 3) ls st (K, I, L, zup R a kf none, n, s0) Q) : Z g l M pc ls (.null :: .ref a :: st) (K, I, L, R, n, s0) Q :=
  z_putV hd hK hc hk (zfinok_spec hf) hn hfit hw (fun _ _ => zfv_upR (x := none) hs) (fun _ hq => ⟨rfl, rfl, zup_ne hq⟩) k
end ZHeap
end
section
section ZArr
variable {g : ZG} {l : Launch} {M : ZM} {pc : Nat} {ls : List (Option Value)} {st : List Value} {Q : Option Value → ZH → Prop} {K : ZK} {I : ZI} {L : ZL} {R : ZR} {n s0 : Nat}
theorem zcell_1 {r len : Nat} (hK : K r = (1, len)) : zcell g K I L R r = .inl (g.2.1 1, len, .inl (I r)) := by simp only [zcell, hK]
theorem zcell_2 {r len : Nat} (hK : K r = (2, len)) : zcell g K I L R r = .inl (g.2.1 2, len, .inr (.inl (L r))) := by simp only [zcell, hK]
theorem zcell_3 {r len : Nat} (hK : K r = (3, len)) : zcell g K I L R r = .inl (g.2.1 3, len, .inl (I r)) := by simp only [zcell, hK]
theorem zcell_4 {r len : Nat} (hK : K r = (4, len)) : zcell g K I L R r = .inl (g.2.1 4, len, .inr (.inr (.inr (.inr (fun j => (R r j).map (zphi g)))))) := by simp only [zcell, hK]
theorem zcell_5 {r len : Nat} (hK : K r = (5, len)) : zcell g K I L R r = .inl (g.2.1 5, len, .inr (.inr (.inr (.inr (fun j => (R r j).map (zphi g)))))) := by simp only [zcell, hK]
theorem zmem_in' {H : Heap} (hm : zmem g H (K, I, L, R, n, s0)) {r k len : Nat} (hk : K r = (k, len)) (h0 : k ≠ 0) : 4 ≤ r ∧ r < n := zmem_in hm (k := k) (by rw [hk]) h0
theorem z_iald {a len : Nat} {i : Int32} (hd : decode M.2.1 pc = .ok (.iaload, 1)) (hK : K a = (1, len)) (hin : vp_in i len) (k : Z g l M (pc + 1) ls (.int (I a i.toNatClampNeg) :: st) (K, I, L, R, n, s0) Q) : Z g l M pc ls (.int i :: .ref a :: st) (K, I, L, R, n, s0) Q := by
  refine Z.step (fun X hm _ _ k => ?_) k
  have hr := zmem_in' hm hK (by omega)
  have hat := zws_at g (K, I, L, R, n, s0) hr.1 hr.2
  simp only [zcell_1 hK] at hat
  exact va_iald X.1 X.2.1 X.2.2.2.2.2.2.2.2.2.2.1.1 hm.2.2.2 (a - 4) 0 hat rfl hin hd k
theorem z_bald {a len : Nat} {i : Int32} (hd : decode M.2.1 pc = .ok (.baload, 1)) (hK : K a = (3, len)) (hin : vp_in i len) (k : Z g l M (pc + 1) ls (.int (I a i.toNatClampNeg) :: st) (K, I, L, R, n, s0) Q) : Z g l M pc ls (.int i :: .ref a :: st) (K, I, L, R, n, s0) Q := by
  refine Z.step (fun X hm _ _ k => ?_) k
  have hr := zmem_in' hm hK (by omega)
  have hat := zws_at g (K, I, L, R, n, s0) hr.1 hr.2
  simp only [zcell_3 hK] at hat
  exact va_bald X.1 X.2.1 X.2.2.2.2.2.2.2.2.2.2.1.1 hm.2.2.2 (a - 4) 2 hat rfl hin hd k
theorem z_lald {a len : Nat} {i : Int32} (hd : decode M.2.1 pc = .ok (.laload, 1)) (hK : K a = (2, len)) (hin : vp_in i len) (k : Z g l M (pc + 1) ls (.long (L a i.toNatClampNeg) :: st) (K, I, L, R, n, s0) Q) : Z g l M pc ls (.int i :: .ref a :: st) (K, I, L, R, n, s0) Q := by
  refine Z.step (fun X hm _ _ k => ?_) k
  have hr := zmem_in' hm hK (by omega)
  have hat := zws_at g (K, I, L, R, n, s0) hr.1 hr.2
  simp only [zcell_2 hK] at hat
  exact va_lald X.1 X.2.1 X.2.2.2.2.2.2.2.2.2.2.1.1 hm.2.2.2 (a - 4) 1 hat rfl hin hd k
theorem z_aaldV {a len t : Nat} {i : Int32} {v : Value} (hd : decode M.2.1 pc = .ok (.aaload, 1)) (hK : K a = (4, len) ∨ K a = (5, len)) (hin : vp_in i len) (hv : va_rf (R a i.toNatClampNeg) = v) (k : Z g l M (pc + 1) ls (v :: st) (K, I, L, R, n, s0) Q) : Z g l M pc ls (.int i :: .ref a :: st) (K, I, L, R, n, s0) Q := by
  refine Z.step (fun X hm _ _ k => ?_) k
  have e : zv g v = va_rf ((R a i.toNatClampNeg).map (zphi g)) := by rw [← hv]; cases R a i.toNatClampNeg <;> rfl
  simp only [List.map_cons, e] at k
  rcases hK with hK | hK
  · have hr := zmem_in' hm hK (by omega)
    have hat := zws_at g (K, I, L, R, n, s0) hr.1 hr.2
    simp only [zcell_4 hK] at hat
    exact va_aldq X.1 X.2.1 X.2.2.2.2.2.2.2.2.2.2.1.1 hm.2.2.2 (a - 4) 3 hat rfl hin hd k
  · have hr := zmem_in' hm hK (by omega)
    have hat := zws_at g (K, I, L, R, n, s0) hr.1 hr.2
    simp only [zcell_5 hK] at hat
    exact va_aldq X.1 X.2.1 X.2.2.2.2.2.2.2.2.2.2.1.1 hm.2.2.2 (a - 4) 4 hat rfl hin hd k
theorem z_aald {a len r : Nat} {i : Int32} (hd : decode M.2.1 pc = .ok (.aaload, 1)) (hK : K a = (4, len) ∨ K a = (5, len)) (hin : vp_in i len) (hv : R a i.toNatClampNeg = some r) (k : Z g l M (pc + 1) ls (.ref r :: st) (K, I, L, R, n, s0) Q) : Z g l M pc ls (.int i :: .ref a :: st) (K, I, L, R, n, s0) Q := z_aaldV (t := 0) hd hK hin (by rw [hv]; rfl) k
theorem z_aaldN {a len : Nat} {i : Int32} (hd : decode M.2.1 pc = .ok (.aaload, 1)) (hK : K a = (4, len) ∨ K a = (5, len)) (hin : vp_in i len) (hv : R a i.toNatClampNeg = none) (k : Z g l M (pc + 1) ls (.null :: st) (K, I, L, R, n, s0) Q) : Z g l M pc ls (.int i :: .ref a :: st) (K, I, L, R, n, s0) Q := z_aaldV (t := 0) hd hK hin (by rw [hv]; rfl) k
-- old arrays
theorem zphi_old {r : Nat} (h : r < 4) : zphi g r = g.2.2.1 r := by unfold zphi; rw [if_pos h]
theorem z_iald_old {r : Nat} {i : Int32} {h : ZH} (hd : decode M.2.1 pc = .ok (.iaload, 1)) (hr : r < 4) (hin : vp_in i (g.2.2.2.2 r).1) (k : Z g l M (pc + 1) ls (.int ((g.2.2.2.2 r).2 i.toNatClampNeg) :: st) h Q) : Z g l M pc ls (.int i :: .ref r :: st) h Q := by
  refine Z.step (fun X _ hS _ k => ?_) k
  have e : zv g (.ref r) = .ref (g.2.2.1 r) := by show Value.ref (zphi g r) = _; rw [zphi_old hr]
  simp only [List.map_cons, e]
  exact va_ti X.1 X.2.1 (X.2.2.2.2.2.2.2.2.2.2.2.1.1 r hr) hS hin rfl hd k
theorem z_alen_old {r : Nat} {h : ZH} (hd : decode M.2.1 pc = .ok (.arraylength, 1)) (hr : r < 4) (k : Z g l M (pc + 1) ls (.int (Int32.ofNat (g.2.2.2.2 r).1) :: st) h Q) : Z g l M pc ls (.ref r :: st) h Q := by
  refine Z.step (fun X _ hS _ k => ?_) k
  have e : zv g (.ref r) = .ref (g.2.2.1 r) := by show Value.ref (zphi g r) = _; rw [zphi_old hr]
  simp only [List.map_cons, e]
  exact va_tlen X.1 X.2.1 (X.2.2.2.2.2.2.2.2.2.2.2.1.1 r hr) hS rfl hd k
theorem z_static {r index : Nat} {nm : String} {h : ZH} (hd : decode M.2.1 pc = .ok (.getstatic index, 3)) (hr : (r = 1 ∧ nm = "RULE_ALL") ∨ (r = 2 ∧ nm = "RULE_ODD") ∨ (r = 3 ∧ nm = "RULE_PRIME")) (hw : Cond.fieldLink M.1.cls index RX8 nm "[I" ∈ gw) (k : Z g l M (pc + 3) ls (.ref r :: st) h Q) : Z g l M pc ls st h Q := by
  refine Z.step (fun X _ hS _ k => ?_) k
  have ho := X.2.2.2.2.2.2.2.2.2.2.2.1.2
  rcases hr with ⟨rfl, rfl⟩ | ⟨rfl, rfl⟩ | ⟨rfl, rfl⟩
  · exact va_gets X.1 X.2.1 ho.1 hS X.2.2.2.2.1 (X.2.2.2.2.2.1 _ hw) (fun _ h9 => h9) hd k
  · exact va_gets X.1 X.2.1 ho.2.1 hS X.2.2.2.2.1 (X.2.2.2.2.2.1 _ hw) (fun _ h9 => h9) hd k
  · exact va_gets X.1 X.2.1 ho.2.2 hS X.2.2.2.2.1 (X.2.2.2.2.2.1 _ hw) (fun _ h9 => h9) hd k
theorem z_alen {a len kd : Nat} (hd : decode M.2.1 pc = .ok (.arraylength, 1)) (hK : K a = (kd, len)) (hk : kd = 1 ∨ kd = 2 ∨ kd = 3) (k : Z g l M (pc + 1) ls (.int (Int32.ofNat len) :: st) (K, I, L, R, n, s0) Q) : Z g l M pc ls (.ref a :: st) (K, I, L, R, n, s0) Q := by
  refine Z.step (fun X hm _ _ k => ?_) k
  have hr := zmem_in' hm hK (by omega)
  have hat := zws_at g (K, I, L, R, n, s0) hr.1 hr.2
  rcases hk with rfl | rfl | rfl
  · simp only [zcell_1 hK] at hat
    exact va_alen X.1 X.2.1 X.2.2.2.2.2.2.2.2.2.2.1.1 hm.2.2.2 (a - 4) 0 hat rfl rfl hd k
  · simp only [zcell_2 hK] at hat
    exact va_alen X.1 X.2.1 X.2.2.2.2.2.2.2.2.2.2.1.1 hm.2.2.2 (a - 4) 1 hat rfl rfl hd k
  · simp only [zcell_3 hK] at hat
    exact va_alen X.1 X.2.1 X.2.2.2.2.2.2.2.2.2.2.1.1 hm.2.2.2 (a - 4) 2 hat rfl rfl hd k
-- stores
theorem z_iast {a len : Nat} {i x : Int32} (hd : decode M.2.1 pc = .ok (.iastore, 1)) (hK : K a = (1, len)) (hin : vp_in i len) (k : Z g l M (pc + 1) ls st (K, zup I a i.toNatClampNeg x, L, R, n, s0) Q) : Z g l M pc ls (.int x :: .int i :: .ref a :: st) (K, I, L, R, n, s0) Q := by
  refine Z.stepH (h := (K, I, L, R, n, s0)) (h1 := (K, zup I a i.toNatClampNeg x, L, R, n, s0)) rfl rfl (fun X hm hS _ kk => ?_) k
  have hr := zmem_in' hm hK (by omega)
  have hat := hm.2.2.2 (a - 4) _ (zws_at g (K, I, L, R, n, s0) hr.1 hr.2)
  simp only [zcell_1 hK] at hat
  refine W.iast X.1 X.2.1 hat ((X.2.2.2.2.2.2.2.2.2.2.1.1.2 0 _ rfl).1 len (fun j => .int (I a j))) (fun q => by cases q) (by show ¬ (i < 0 ∨ (arrV _ _ _).slots.size ≤ _); rw [arrV_size]; exact hin) rfl rfl hd fun H1 e z oq => ?_
  refine kk H1 _ (zmem_set hm hr ?_ (fun q hq => ⟨zup_ne hq, rfl, rfl⟩) z oq) (hS.put z oq (zA_phi hr.1))
  rw [zcell_1 hK]
  show H1[_]? = some (vp_cell _ _)
  rw [e, vp_cell_i, vp_cell_i, arrV_store]
  congr 2
  funext q
  simp only [updV, zup_eq]
  split <;> rfl
theorem z_bast {a len : Nat} {i x : Int32} (hd : decode M.2.1 pc = .ok (.bastore, 1)) (hK : K a = (3, len)) (hin : vp_in i len) (k : Z g l M (pc + 1) ls st (K, zup I a i.toNatClampNeg x.toInt8.toInt32, L, R, n, s0) Q) : Z g l M pc ls (.int x :: .int i :: .ref a :: st) (K, I, L, R, n, s0) Q := by
  refine Z.stepH (h := (K, I, L, R, n, s0)) (h1 := (K, zup I a i.toNatClampNeg x.toInt8.toInt32, L, R, n, s0)) rfl rfl (fun X hm hS _ kk => ?_) k
  have hr := zmem_in' hm hK (by omega)
  have hat := hm.2.2.2 (a - 4) _ (zws_at g (K, I, L, R, n, s0) hr.1 hr.2)
  simp only [zcell_3 hK] at hat
  refine W.bast X.1 X.2.1 hat ((X.2.2.2.2.2.2.2.2.2.2.1.1.2 2 _ rfl).1 len (fun j => .int (I a j))) (fun q => by cases q) (by show ¬ (i < 0 ∨ (arrV _ _ _).slots.size ≤ _); rw [arrV_size]; exact hin) rfl rfl hd fun H1 e z oq => ?_
  refine kk H1 _ (zmem_set hm hr ?_ (fun q hq => ⟨zup_ne hq, rfl, rfl⟩) z oq) (hS.put z oq (zA_phi hr.1))
  rw [zcell_3 hK]
  show H1[_]? = some (vp_cell _ _)
  rw [e, vp_cell_i, vp_cell_i, arrV_store]
  congr 2
  funext q
  simp only [updV, zup_eq]
  split <;> rfl
theorem z_last {a len : Nat} {i : Int32} {x : Int64} (hd : decode M.2.1 pc = .ok (.lastore, 1)) (hK : K a = (2, len)) (hin : vp_in i len) (k : Z g l M (pc + 1) ls st (K, I, zup L a i.toNatClampNeg x, R, n, s0) Q) : Z g l M pc ls (.long x :: .int i :: .ref a :: st) (K, I, L, R, n, s0) Q := by
  refine Z.stepH (h := (K, I, L, R, n, s0)) (h1 := (K, I, zup L a i.toNatClampNeg x, R, n, s0)) rfl rfl (fun X hm hS _ kk => ?_) k
  have hr := zmem_in' hm hK (by omega)
  have hat := hm.2.2.2 (a - 4) _ (zws_at g (K, I, L, R, n, s0) hr.1 hr.2)
  simp only [zcell_2 hK] at hat
  refine W.last X.1 X.2.1 hat ((X.2.2.2.2.2.2.2.2.2.2.1.1.2 1 _ rfl).1 len (fun j => .long (L a j))) (fun q => by cases q) (by show ¬ (i < 0 ∨ (arrV _ _ _).slots.size ≤ _); rw [arrV_size]; exact hin) rfl rfl hd fun H1 e z oq => ?_
  refine kk H1 _ (zmem_set hm hr ?_ (fun q hq => ⟨rfl, zup_ne hq, rfl⟩) z oq) (hS.put z oq (zA_phi hr.1))
  rw [zcell_2 hK]
  show H1[_]? = some (vp_cell _ _)
  rw [e, vp_cell_l, vp_cell_l, arrV_store]
  congr 2
  funext q
  simp only [updV, zup_eq]
  split <;> rfl
theorem z_aastN {a len : Nat} {i : Int32} (hd : decode M.2.1 pc = .ok (.aastore, 1)) (hK : K a = (4, len)) (hin : vp_in i len) (k : Z g l M (pc + 1) ls st (K, I, L, zup R a i.toNatClampNeg none, n, s0) Q) : Z g l M pc ls (.null :: .int i :: .ref a :: st) (K, I, L, R, n, s0) Q := by
  refine Z.stepH (h := (K, I, L, R, n, s0)) (h1 := (K, I, L, zup R a i.toNatClampNeg none, n, s0)) rfl rfl (fun X hm hS _ kk => ?_) k
  have hr := zmem_in' hm hK (by omega)
  have hat := hm.2.2.2 (a - 4) _ (zws_at g (K, I, L, R, n, s0) hr.1 hr.2)
  simp only [zcell_4 hK] at hat
  refine va_WaastN (C := RX3) X.1 X.2.1 hat ((X.2.2.2.2.2.2.2.2.2.2.1.1.2 3 _ rfl).1 len (fun j => va_rf ((R a j).map (zphi g)))) (fun q => by cases q) (by show ¬ (i < 0 ∨ (arrV _ _ _).slots.size ≤ _); rw [arrV_size]; exact hin) rfl rfl hd fun H1 e z oq => ?_
  refine kk H1 _ (zmem_set hm hr ?_ (fun q hq => ⟨rfl, rfl, zup_ne hq⟩) z oq) (hS.put z oq (zA_phi hr.1))
  rw [zcell_4 hK]
  show H1[_]? = some (vp_cell _ _)
  rw [e, vp_cell_q, vp_cell_q, arrV_store]
  congr 2
  funext q
  simp only [updV, zup_eq]
  split <;> rfl
theorem z_aast {a len r kd ci : Nat} {i : Int32} (hd : decode M.2.1 pc = .ok (.aastore, 1)) (hK : K a = (kd, len)) (hkc : (kd = 4 ∧ ci = 3) ∨ (kd = 5 ∧ ci = 5)) (hin : vp_in i len) (hv : (K r).1 = 10 + ci) (k : Z g l M (pc + 1) ls st (K, I, L, zup R a i.toNatClampNeg (some r), n, s0) Q) : Z g l M pc ls (.ref r :: .int i :: .ref a :: st) (K, I, L, R, n, s0) Q := by
  refine Z.stepH (h := (K, I, L, R, n, s0)) (h1 := (K, I, L, zup R a i.toNatClampNeg (some r), n, s0)) rfl rfl (fun {p e Rm s m args below meth c H locs cells slots lsA Qm} X hm hS _ kk => ?_) k
  have hr := zmem_in' hm hK (by omega)
  have hat := hm.2.2.2 (a - 4) _ (zws_at g (K, I, L, R, n, s0) hr.1 hr.2)
  have hr2 := zmem_in hm hv (by omega)
  have hat2 := hm.2.2.2 (r - 4) _ (zws_at g (K, I, L, R, n, s0) hr2.1 hr2.2)
  simp only [zcell_obj hv] at hat2
  have hlt : i.toNatClampNeg < len := Nat.not_le.mp fun q => hin (Or.inr q)
  have h0 : ¬ i < 0 := fun q => hin (Or.inl q)
  have hKt := X.2.2.2.2.2.2.2.2.2.2.1.1
  obtain ⟨r', hr', cellV, g1, g2, g3, -⟩ := hat2
  have main : ∀ (cA : ClassId), cA = g.2.1 kd → zcell g K I L R a = .inl (cA, len, .inr (.inr (.inr (.inr (fun j => (R a j).map (zphi g)))))) → zcell g K I L (zup R a i.toNatClampNeg (some r)) a = .inl (cA, len, .inr (.inr (.inr (.inr (fun j => (zup R a i.toNatClampNeg (some r) a j).map (zphi g)))))) → va_RA s cA (.object (zRR ci)) → ci < 10 → W p l e Rm s m args below meth c H locs cells slots Qm (F0 m pc lsA ((Value.ref r :: Value.int i :: Value.ref a :: st).map (zv g))) := by
    intro cA _ ec ec' hra hc10
    have hcls := (hKt.1 ci _ (zcl ci hc10)).2
    obtain ⟨kA, comp, k1, k2, k3, -⟩ := hra
    have hcomp : comp = g.1.1 ci := Option.some.inj (k3.symm.trans hcls.1)
    subst hcomp
    obtain ⟨kC, hkC, -⟩ := hcls.2
    simp only [ec] at hat
    refine W.aast X.1 X.2.1 hat (fun q h => by cases h) (fun h => by cases h) k1 k2 rfl hkC ⟨h0, by show _ < (arrV _ _ _).slots.size; rw [arrV_size]; exact hlt⟩ g1 (fun q h => by rw [g3] at h; cases h) (by rw [g2]; exact hkC) (by rw [g2]; exact va_assign hcls) rfl rfl hd fun H1 e z oq => ?_
    refine kk H1 _ (zmem_set hm hr ?_ (fun q hq => ⟨rfl, rfl, zup_ne hq⟩) z oq) (hS.put z oq (zA_phi hr.1))
    rw [ec']
    show H1[_]? = some (vp_cell _ _)
    rw [e, vp_cell_q, vp_cell_q, arrV_store]
    congr 2
    funext q
    simp only [updV, zup_eq]
    split <;> rfl
  rcases hkc with ⟨rfl, rfl⟩ | ⟨rfl, rfl⟩
  · exact main _ rfl (zcell_4 hK) (zcell_4 hK) (hKt.2 3 _ rfl).2 (by omega)
  · exact main _ rfl (zcell_5 hK) (zcell_5 hK) (hKt.2 4 _ rfl).2 (by omega)
end ZArr
end
section
section ZNew
variable {g : ZG} {l : Launch} {M : ZM} {pc : Nat} {ls : List (Option Value)} {st : List Value} {Q : Option Value → ZH → Prop} {K : ZK} {I : ZI} {L : ZL} {R : ZR} {n s0 : Nat}
theorem zkp_ne {r q : Nat} {x : Nat × Nat} (h : q ≠ r) : zkp K r x q = K q := by simp [zkp, h]
theorem zkp_eq {r : Nat} {x : Nat × Nat} : zkp K r x r = x := by simp [zkp]
theorem zmem_push {H H1 : Heap} {K' : ZK} {I' : ZI} {L' : ZL} {R' : ZR} {s1 kd len : Nat} (hm : zmem g H (K, I, L, R, n, s0)) (hKe : K' = zkp K n (kd, len)) (he : va_at g.1 vwCl (zphi g n, zcell g K' I' L' R' n) H1) (ho : ∀ q, q ≠ n → I' q = I q ∧ L' q = L q ∧ R' q = R q) (z : H1.size = H.size + 1) (oq : ∀ q : Nat, q < H.size → H1[q]? = H[q]?) : zmem g H1 (K', I', L', R', n + 1, s1) := by
  subst hKe
  have h4 : 4 ≤ n := hm.1
  have hz : H.size = g.2.2.2.1 + (n - 4) := hm.2.2.1
  refine ⟨by show 4 ≤ n + 1; omega, fun a ha => ?_, by show H1.size = _ + (n + 1 - 4); rw [z, hz]; omega, ?_⟩
  · show 4 ≤ a ∧ a < n + 1
    by_cases hq : a = n
    · subst hq; omega
    · have h1 := hm.2.1 a (by have ha' : (zkp K n (kd, len) a).1 ≠ 0 := ha; rw [zkp_ne hq] at ha'; exact ha')
      have : a < n := h1.2
      exact ⟨h1.1, by omega⟩
  · rw [← zws_push (g := g) (K := K) (I := I) (L := L) (R := R) (s := s0) h4 rfl (fun q hq => zcell_congrK (zkp_ne hq) (ho q hq).1 (ho q hq).2.1 (ho q hq).2.2)]
    refine va_P.app (va_P.kept hm.2.2.2 (fun k q hk => oq q.1 ((hm.2.2.2 k q hk).lt))) (fun k x hx => ?_)
    have hz1 : k < 1 := (List.getElem?_eq_some_iff.mp hx).1
    rw [show k = 0 by omega] at hx
    cases hx
    rw [← zphi_new g h4]
    exact he
theorem va_S_grow {A : Nat → Prop} {H0 H H1 : Heap} {locs : List Loc} (hS : va_S A H0 H locs) (z : H.size ≤ H1.size) (oq : ∀ q : Nat, q < H.size → H1[q]? = H[q]?) : va_S A H0 H1 locs :=
  ⟨Nat.le_trans hS.1 z, fun x h1 h2 => (oq x (Nat.lt_of_lt_of_le h1 hS.1)).trans (hS.2.1 x h1 h2), hS.2.2⟩
theorem z_newi {N : Nat} {x : Int32} (hd : decode M.2.1 pc = .ok (.newarray .int, 2)) (hw : Cond.arrayClass .int ∈ gw) (h0 : ¬ x < 0) (hN : x.toNatClampNeg = N) (hb : N ≤ 100000000) (k : Z g l M (pc + 2) ls (.ref n :: st) (zkp K n (1, N), zupA I n (fun _ => 0), L, R, n + 1, s0 + N) Q) : Z g l M pc ls (.int x :: st) (K, I, L, R, n, s0) Q := by
  refine Z.stepN (N := N) (h := (K, I, L, R, n, s0)) (h1 := (zkp K n (1, N), zupA I n (fun _ => 0), L, R, n + 1, s0 + N)) rfl rfl (fun X hm hS _ hc hs kk => ?_) k
  have hz : _ = g.2.2.2.1 + (n - 4) := hm.2.2.1
  refine va_newaK X.1 X.2.1 (atype := .int) (X.2.2.2.2.2.1 _ hw) rfl hd rfl h0 hN (by show N * 4 ≤ _; omega) hc hs (hz.trans (zphi_new g hm.1).symm) fun H1 cA e1 z1 o1 hAr hNm => ?_
  have hcA : cA = g.2.1 1 := Option.some.inj (hNm.symm.trans (X.2.2.2.2.2.2.2.2.2.2.1.1.2 0 _ rfl).2)
  subst hcA
  rw [← hz.trans (zphi_new g hm.1).symm] at z1 o1
  refine kk H1 (zmem_push hm rfl ?_ (fun q hq => ⟨zupA_ne hq, rfl, rfl⟩) z1 o1) (va_S_grow hS (by omega) o1)
  rw [zcell_1 zkp_eq, zupA_eq]
  exact e1
theorem z_newb {N : Nat} {x : Int32} (hd : decode M.2.1 pc = .ok (.newarray .byte, 2)) (hw : Cond.arrayClass .byte ∈ gw) (h0 : ¬ x < 0) (hN : x.toNatClampNeg = N) (hb : N ≤ 100000000) (k : Z g l M (pc + 2) ls (.ref n :: st) (zkp K n (3, N), zupA I n (fun _ => 0), L, R, n + 1, s0 + N) Q) : Z g l M pc ls (.int x :: st) (K, I, L, R, n, s0) Q := by
  refine Z.stepN (N := N) (h := (K, I, L, R, n, s0)) (h1 := (zkp K n (3, N), zupA I n (fun _ => 0), L, R, n + 1, s0 + N)) rfl rfl (fun X hm hS _ hc hs kk => ?_) k
  have hz : _ = g.2.2.2.1 + (n - 4) := hm.2.2.1
  refine va_newaK X.1 X.2.1 (atype := .byte) (X.2.2.2.2.2.1 _ hw) rfl hd rfl h0 hN (by show N * 1 ≤ _; omega) hc hs (hz.trans (zphi_new g hm.1).symm) fun H1 cA e1 z1 o1 hAr hNm => ?_
  have hcA : cA = g.2.1 3 := Option.some.inj (hNm.symm.trans (X.2.2.2.2.2.2.2.2.2.2.1.1.2 2 _ rfl).2)
  subst hcA
  rw [← hz.trans (zphi_new g hm.1).symm] at z1 o1
  refine kk H1 (zmem_push hm rfl ?_ (fun q hq => ⟨zupA_ne hq, rfl, rfl⟩) z1 o1) (va_S_grow hS (by omega) o1)
  rw [zcell_3 zkp_eq, zupA_eq]
  exact e1
theorem z_newl {N : Nat} {x : Int32} (hd : decode M.2.1 pc = .ok (.newarray .long, 2)) (hw : Cond.arrayClass .long ∈ gw) (h0 : ¬ x < 0) (hN : x.toNatClampNeg = N) (hb : N ≤ 60000000) (k : Z g l M (pc + 2) ls (.ref n :: st) (zkp K n (2, N), I, zupA L n (fun _ => 0), R, n + 1, s0 + N) Q) : Z g l M pc ls (.int x :: st) (K, I, L, R, n, s0) Q := by
  refine Z.stepN (N := N) (h := (K, I, L, R, n, s0)) (h1 := (zkp K n (2, N), I, zupA L n (fun _ => 0), R, n + 1, s0 + N)) rfl rfl (fun X hm hS _ hc hs kk => ?_) k
  have hz : _ = g.2.2.2.1 + (n - 4) := hm.2.2.1
  refine va_newaK X.1 X.2.1 (atype := .long) (X.2.2.2.2.2.1 _ hw) rfl hd rfl h0 hN (by show N * 8 ≤ _; omega) hc hs (hz.trans (zphi_new g hm.1).symm) fun H1 cA e1 z1 o1 hAr hNm => ?_
  have hcA : cA = g.2.1 2 := Option.some.inj (hNm.symm.trans (X.2.2.2.2.2.2.2.2.2.2.1.1.2 1 _ rfl).2)
  subst hcA
  rw [← hz.trans (zphi_new g hm.1).symm] at z1 o1
  refine kk H1 (zmem_push hm rfl ?_ (fun q hq => ⟨rfl, zupA_ne hq, rfl⟩) z1 o1) (va_S_grow hS (by omega) o1)
  rw [zcell_2 zkp_eq, zupA_eq]
  exact e1
theorem z_newq {N index kd ci : Nat} {x : Int32} (hd : decode M.2.1 pc = .ok (.anewarray index, 3)) (hkc : (kd = 4 ∧ ci = 3) ∨ (kd = 5 ∧ ci = 5)) (hw : Cond.classLink M.1.cls index (zRR ci) ∈ gw) (h0 : ¬ x < 0) (hN : x.toNatClampNeg = N) (hb : N ≤ 100000000) (k : Z g l M (pc + 3) ls (.ref n :: st) (zkp K n (kd, N), I, L, zupA R n (fun _ => none), n + 1, s0 + N) Q) : Z g l M pc ls (.int x :: st) (K, I, L, R, n, s0) Q := by
  refine Z.stepN (N := N) (h := (K, I, L, R, n, s0)) (h1 := (zkp K n (kd, N), I, L, zupA R n (fun _ => none), n + 1, s0 + N)) rfl rfl (fun {p e Rm s m args below meth c H locs cells slots lsA Qm} X hm hS _ hc hs kk => ?_) k
  have hz : H.size = g.2.2.2.1 + (n - 4) := hm.2.2.1
  subst hN
  have hKt := X.2.2.2.2.2.2.2.2.2.2.1
  have hAO : va_AO (zRR ci) s := by
    rcases hkc with ⟨-, rfl⟩ | ⟨-, rfl⟩
    · exact hKt.2.2.2.1
    · exact hKt.2.2.2.2
  refine W.anew X.1 X.2.1 X.2.2.2.2.1 (X.2.2.2.2.2.1 _ hw) (va_AO.use hAO) rfl hd rfl h0 (by omega) hc hs fun cA kA comp f1 f2 f3 f4 => ?_
  generalize hH1 : H.push ({ cls := cA, slots := Array.replicate x.toNatClampNeg .null, vm := .none } : Cell) = H1
  have z1 : H1.size = H.size + 1 := by rw [← hH1, Array.size_push]
  have e1 : H1[H.size]? = some (arrV cA x.toNatClampNeg (fun _ => .null)) := by rw [← hH1, Array.getElem?_push_size, ← arrV_new]
  have o1 : ∀ q : Nat, q < H.size → H1[q]? = H[q]? := fun q hq => by rw [← hH1, Array.getElem?_push, if_neg (Nat.ne_of_lt hq)]
  have hcA : cA = g.2.1 kd := by
    rcases hkc with ⟨rfl, rfl⟩ | ⟨rfl, rfl⟩
    · obtain ⟨_, _, -, -, -, r4⟩ := (hKt.1.2 3 _ rfl).2
      exact Option.some.inj (f1.symm.trans r4)
    · obtain ⟨_, _, -, -, -, r4⟩ := (hKt.1.2 4 _ rfl).2
      exact Option.some.inj (f1.symm.trans r4)
  subst hcA
  have hp := hz.trans (zphi_new g hm.1).symm
  have k2 := kk H1 (zmem_push hm rfl ?_ (fun q hq => ⟨rfl, rfl, zupA_ne hq⟩) z1 o1) (va_S_grow hS (by omega) o1)
  · rw [hp]
    exact k2
  · rw [hp] at e1
    rcases hkc with ⟨rfl, rfl⟩ | ⟨rfl, rfl⟩
    · rw [zcell_4 zkp_eq, zupA_eq]
      exact e1
    · rw [zcell_5 zkp_eq, zupA_eq]
      exact e1
def znf : FieldType → Bool
  | .float => false
  | .double => false
  | _ => true
theorem znf0 : ((List.range 10).all (fun ci => (List.range (zN ci)).all (fun j => znf (zty ci j)))) = true := by decide +kernel
theorem znf1 {ci j : Nat} (hc : ci < 10) (hj : j < zN ci) : znf (zty ci j) = true := List.all_eq_true.mp (List.all_eq_true.mp znf0 ci (List.mem_range.mpr hc)) j (List.mem_range.mpr hj)
theorem z_new {index ci : Nat} (hd : decode M.2.1 pc = .ok (.new index, 3)) (hc : ci < 10) (hw : Cond.classLink M.1.cls index (zRR ci) ∈ gw) (hi : Cond.instantiable (zRR ci) (zN ci) ∈ gw) (hini : Cond.initialized (zRR ci) ∈ gw) (k : Z g l M (pc + 3) ls (.ref n :: st) (zkp K n (10 + ci, 0), zupA I n (fun _ => 0), zupA L n (fun _ => 0), zupA R n (fun _ => none), n + 1, s0 + zN ci) Q) : Z g l M pc ls st (K, I, L, R, n, s0) Q := by
  refine Z.stepN (N := zN ci) (h := (K, I, L, R, n, s0)) (h1 := (zkp K n (10 + ci, 0), zupA I n (fun _ => 0), zupA L n (fun _ => 0), zupA R n (fun _ => none), n + 1, s0 + zN ci)) rfl rfl (fun X hm hS _ hcc hss kk => ?_) k
  have hz : _ = g.2.2.2.1 + (n - 4) := hm.2.2.1
  have hp := hz.trans (zphi_new g hm.1).symm
  have hts := X.2.2.2.2.2.1
  have hKn := X.2.2.2.2.2.2.2.2.2.2.1.1.1 ci _ (zcl ci hc)
  refine W.newcK X.1 X.2.1 X.2.2.2.2.1 (hts _ hw) (hts _ hi) (hts _ hini) rfl hd hcc hss hKn.2.1 hp fun H1 kC hkC e1 z1 o1 => ?_
  rw [← hp] at z1 o1
  refine kk H1 (zmem_push hm rfl ?_ (fun q hq => ⟨zupA_ne hq, zupA_ne hq, zupA_ne hq⟩) z1 o1) (va_S_grow hS (by omega) o1)
  rw [zcell_obj (ci := ci) (by rw [zkp_eq])]
  refine ⟨_, zcl ci hc, (u_born (zty ci) hts (zuw hc) hKn hkC e1 (ztyok ci hc)).to (fun j hj => ?_)⟩
  rw [zV_at hj]
  simp only [zfv, zupA_eq]
  have hnf := znf1 hc hj
  revert hnf
  cases zty ci j <;> intro hnf <;> first | rfl | cases hnf
/-- a copy of ints from one array into another -/
theorem z_copyi {a b la lb index : Nat} {sp dp m : Int32} (hd : decode M.2.1 pc = .ok (.invokestatic index, 3)) (hl : Cond.methodLink M.1.cls index arraycopyName ∈ gw) (hnat : Cond.native arraycopyName ∈ gw) (hsta : Cond.static arraycopyName ∈ gw) (hini : Cond.initialized "java/lang/System" ∈ gw) (hKa : K a = (1, la)) (hKb : K b = (1, lb))
    (h1 : ¬ sp < 0) (h2 : ¬ dp < 0) (h3 : ¬ m < 0) (h4 : sp.toNatClampNeg + m.toNatClampNeg ≤ la) (h5 : dp.toNatClampNeg + m.toNatClampNeg ≤ lb) (hfr : 1 ≤ M.2.2.2.2.1) (hlo : (st.map fun v => v.category).sum + (nativeFrameWords "java/lang/System" "arraycopy" 5 + 11) ≤ M.2.2.2.2.2)
    (k : Z g l M (pc + 3) ls st (K, zupA I b (va_cpy (I a) (I b) sp.toNatClampNeg dp.toNatClampNeg m.toNatClampNeg), L, R, n, s0) Q) : Z g l M pc ls (.int m :: .int dp :: .ref b :: .int sp :: .ref a :: st) (K, I, L, R, n, s0) Q := by
  refine Z.stepH (h := (K, I, L, R, n, s0)) (h1 := (K, zupA I b (va_cpy (I a) (I b) sp.toNatClampNeg dp.toNatClampNeg m.toNatClampNeg), L, R, n, s0)) rfl rfl (fun {p e Rm s mm args below meth c H locs cells slots lsA Qm} X hm hS hls kk => ?_) k
  have nn : ∀ z : Int32, ¬ z < 0 → z.toInt = (z.toNatClampNeg : Int) := by
    intro z hz
    have hz0 : (0 : Int) ≤ z.toInt := by
      have := Int32.not_lt.mp hz
      simpa using Int32.le_iff_toInt_le.mp this
    show z.toInt = ((z.toInt.toNat : Nat) : Int)
    omega
  have hra := zmem_in' hm hKa (by omega)
  have hrb := zmem_in' hm hKb (by omega)
  have hc0 := hm.2.2.2 (a - 4) _ (zws_at g (K, I, L, R, n, s0) hra.1 hra.2)
  have hc1 := hm.2.2.2 (b - 4) _ (zws_at g (K, I, L, R, n, s0) hrb.1 hrb.2)
  simp only [zcell_1 hKa] at hc0
  simp only [zcell_1 hKb] at hc1
  have hc0 : H[zphi g a]? = some (vp_cell (g.2.1 1) (la, .inl (I a))) := hc0
  have hc1 : H[zphi g b]? = some (vp_cell (g.2.1 1) (lb, .inl (I b))) := hc1
  have hKt := X.2.2.2.2.2.2.2.2.2.2.1.1
  have hts := X.2.2.2.2.2.1
  obtain ⟨-, k0, hk0, cm0, hkk0⟩ := (hKt.2 0 _ rfl).1 la (fun j => .int (I a j))
  have esum : ((st.map (zv g)).map fun v => v.category).sum = (st.map fun v => v.category).sum := by
    rw [List.map_map]; congr 1; exact List.map_congr_left (fun v _ => zv_cat g v)
  intro T hT XX
  obtain ⟨vm', X', step⟩ := XX.arraycopy X.1 X.2.2.2.2.1 (hts _ hl) (hts _ hnat) (hts _ hsta) (hts _ hini) (src := zphi g a) (dst := zphi g b) (cs := vp_cell (g.2.1 1) (la, .inl (I a))) (cd := vp_cell (g.2.1 1) (lb, .inl (I b))) (srcPos := sp) (destPos := dp) (n := m) (by rw [hT]; exact hc0) (by rw [hT]; exact hc1)
    (fun _ h => by cases h) (fun _ h => by cases h) (fun h => by cases h) (fun h => by cases h) hk0 hk0 hkk0 hkk0 (by simp [refKind]) h1 h2 h3
    (by rw [nn sp h1, nn m h3]; show ¬ _ > ((arrV _ la (fun j => .int (I a j))).slots.size : Int); rw [arrV_size]; omega)
    (by rw [nn dp h2, nn m h3]; show ¬ _ > ((arrV _ lb (fun j => .int (I b j))).slots.size : Int); rw [arrV_size]; omega)
    (fun vm₁ _ i hi => by
      have e : (vp_cell (g.2.1 1) (la, .inl (I a))).slots.getD (sp.toNatClampNeg + i) .null = .int (I a (sp.toNatClampNeg + i)) := by
        show (arrV _ la (fun j => .int (I a j))).slots.getD _ _ = _
        rw [Array.getD_eq_getD_getElem?, arrV_read _ _ (by omega)]
        rfl
      refine ⟨?_, ?_⟩
      · rw [e]; rfl
      · rw [e]
        exact trivial)
    (g := F0 mm pc lsA (.int m :: .int dp :: .ref (zphi g b) :: .int sp :: .ref (zphi g a) :: st.map (zv g))) rfl (by rw [X.2.2.2.1]; exact hls.1) (rest := st.map (zv g)) rfl (by rw [X.2.1]; exact hd) (Nat.le_trans hfr X.2.2.2.2.2.2.2.2.1) (by show 2 * 0 + _ + _ ≤ _; rw [esum]; have := X.2.2.2.2.2.2.2.2.2.1; omega)
  have e1 : copied (vp_cell (g.2.1 1) (la, .inl (I a))) (vp_cell (g.2.1 1) (lb, .inl (I b))) sp dp m = vp_cell (g.2.1 1) (lb, .inl (va_cpy (I a) (I b) sp.toNatClampNeg dp.toNatClampNeg m.toNatClampNeg)) := va_copied (fun z => .int z) _ _ (I a) (I b) h4
  rw [e1] at X' step
  have hlt : zphi g b < H.size := (Array.getElem?_eq_some_iff.mp hc1).1
  have hheap : ((T.setVm vm').setCell (zphi g b) (vp_cell (g.2.1 1) (lb, .inl (va_cpy (I a) (I b) sp.toNatClampNeg dp.toNatClampNeg m.toNatClampNeg)))).heap = H.setIfInBounds (zphi g b) (vp_cell (g.2.1 1) (lb, .inl (va_cpy (I a) (I b) sp.toNatClampNeg dp.toNatClampNeg m.toNatClampNeg))) := by rw [← hT]; rfl
  have oq : ∀ q : Nat, q ≠ zphi g b → (H.setIfInBounds (zphi g b) (vp_cell (g.2.1 1) (lb, .inl (va_cpy (I a) (I b) sp.toNatClampNeg dp.toNatClampNeg m.toNatClampNeg))))[q]? = H[q]? := fun q hq => by simp [Array.getElem?_setIfInBounds, Ne.symm hq]
  have zz : (H.setIfInBounds (zphi g b) (vp_cell (g.2.1 1) (lb, .inl (va_cpy (I a) (I b) sp.toNatClampNeg dp.toNatClampNeg m.toNatClampNeg)))).size = H.size := by simp
  obtain ⟨t, a1, b1⟩ := kk _ _ (zmem_set hm hrb (by rw [zcell_1 hKb, zupA_eq]; show (H.setIfInBounds (zphi g b) _)[zphi g b]? = some _; simp [Array.getElem?_setIfInBounds, hlt]) (fun q hq => ⟨zupA_ne hq, rfl, rfl⟩) zz oq) ⟨by rw [zz]; exact hS.1, fun q g1 g2 => by
      rw [oq q (fun e => g2 (by rw [e]; exact zA_phi hrb.1))]
      exact hS.2.1 q g1 g2, fun q hq => by
      rcases List.mem_append.mp hq with h | h
      · exact hS.2.2 q h
      · obtain ⟨z, -, hz⟩ := List.mem_map.mp h
        rw [← hz]
        exact zA_phi hrb.1⟩ _ hheap X'
  exact ⟨t, step t a1, b1⟩
theorem z_castA {a len index : Nat} (hd : decode M.2.1 pc = .ok (.checkcast index, 3)) (hw : Cond.classLink M.1.cls index "[I" ∈ gw) (hK : K a = (1, len)) (k : Z g l M (pc + 3) ls (.ref a :: st) (K, I, L, R, n, s0) Q) : Z g l M pc ls (.ref a :: st) (K, I, L, R, n, s0) Q := by
  refine Z.step (fun X hm _ _ k => ?_) k
  have hr := zmem_in' hm hK (by omega)
  have hat := zws_at g (K, I, L, R, n, s0) hr.1 hr.2
  simp only [zcell_1 hK] at hat
  exact va_castA X.1 X.2.1 X.2.2.2.2.1 (X.2.2.2.2.2.1 _ hw) hm.2.2.2 (a - 4) hat (X.2.2.2.2.2.2.2.2.2.2.1.1.2 0 _ rfl).2 hd k
theorem z_clone {a len index : Nat} (hd : decode M.2.1 pc = .ok (.invokevirtual index, 3)) (hl : Cond.methodLink M.1.cls index ⟨"[I", "clone", "()Ljava/lang/Object;"⟩ ∈ gw) (hsm : Cond.sameMethod "[I" "java/lang/Object" "clone" "()Ljava/lang/Object;" ∈ gw) (hnat : Cond.native ⟨"java/lang/Object", "clone", "()Ljava/lang/Object;"⟩ ∈ gw) (hinst : Cond.instanceMethod ⟨"java/lang/Object", "clone", "()Ljava/lang/Object;"⟩ ∈ gw)
    (hsel : Cond.selects "[I" ⟨"[I", "clone", "()Ljava/lang/Object;"⟩ ⟨"java/lang/Object", "clone", "()Ljava/lang/Object;"⟩ ∈ gw) (hK : K a = (1, len)) (hfr : 1 ≤ M.2.2.2.2.1) (hlo : (st.map fun v => v.category).sum + 14 ≤ M.2.2.2.2.2)
    (k : Z g l M (pc + 3) ls (.ref n :: st) (zkp K n (1, len), zupA I n (I a), L, R, n + 1, s0 + len) Q) : Z g l M pc ls (.ref a :: st) (K, I, L, R, n, s0) Q := by
  refine Z.stepN (N := len) (h := (K, I, L, R, n, s0)) (h1 := (zkp K n (1, len), zupA I n (I a), L, R, n + 1, s0 + len)) rfl rfl (fun {p e Rm s m args below meth c H locs cells slots lsA Qm} X hm hS hls hcc hss kk => ?_) k
  have hz : H.size = g.2.2.2.1 + (n - 4) := hm.2.2.1
  have hp := hz.trans (zphi_new g hm.1).symm
  have hr := zmem_in' hm hK (by omega)
  have hc0 := hm.2.2.2 (a - 4) _ (zws_at g (K, I, L, R, n, s0) hr.1 hr.2)
  simp only [zcell_1 hK] at hc0
  have hc0 : H[zphi g a]? = some (arrV (g.2.1 1) len (fun j => .int (I a j))) := hc0
  have hKt := X.2.2.2.2.2.2.2.2.2.2.1
  have hts := X.2.2.2.2.2.1
  have hnm : s.vm.findClass "[I" = some (g.2.1 1) := (hKt.1.2 0 _ rfl).2
  obtain ⟨c0, t0', f1, f2, f3⟩ := Cond.castable_spec (va_Nw.use (A := args) rfl hKt.2.2.1)
  cases hnm.symm.trans f1
  have esum : ((st.map (zv g)).map fun v => v.category).sum = (st.map fun v => v.category).sum := by
    rw [List.map_map]; congr 1; exact List.map_congr_left (fun v _ => zv_cat g v)
  intro T hT XX
  have hcellT : T.heap[zphi g a]? = some (arrV (g.2.1 1) len (fun j => .int (I a j))) := by rw [hT]; exact hc0
  obtain ⟨-, kA, hkA, comp, hkind⟩ := State.isArrayOf_alike XX.warmed.alike ((hKt.1.2 0 _ rfl).1 0 (fun _ => .null))
  obtain ⟨-, kS, hkS, compS, hkindS⟩ := (hKt.1.2 0 _ rfl).1 0 (fun _ => .null)
  obtain ⟨vm', X', step⟩ := XX.cloneArray X.1 X.2.2.2.2.1 (hts _ hl) (hts _ hsm) (hts _ hnat) (hts _ hinst) (hts _ hsel) (a := zphi g a) (cell := arrV (g.2.1 1) len (fun j => .int (I a j))) hcellT (fun k h => by cases h) (fun h => by cases h) hnm f2 f3
    (fun i v hv => by
      have hk' : T.vm.classes[g.2.1 1]? = some kA := hkA
      have hf : fits .int v = true := va_fit (cA := g.2.1 1) (n := len) (F := fun j => .int (I a j)) (ty := .int) (fun _ _ => rfl) i v hv
      show T.fitsSlot (g.2.1 1) .none i v = true
      simpa [State.fitsSlot, State.slotType?, hk', hkind] using hf)
    (g := F0 m pc lsA (.ref (zphi g a) :: st.map (zv g))) rfl (by rw [X.2.2.2.1]; exact hls.1) rfl (by rw [X.2.1]; exact hd) (Nat.le_trans hfr X.2.2.2.2.2.2.2.2.1) (by show 2 * 0 + _ + 14 ≤ _; rw [esum]; have := X.2.2.2.2.2.2.2.2.2.1; omega) hcc (by rw [arrV_size]; exact hss) (hloader := Vm.clonesLoader_of_array hkS hkindS)
  rw [arrV_size] at X'
  generalize hH1 : H.push (arrV (g.2.1 1) len (fun j => .int (I a j))) = H1
  have z1 : H1.size = H.size + 1 := by rw [← hH1, Array.size_push]
  have e1 : H1[H.size]? = some (arrV (g.2.1 1) len (fun j => .int (I a j))) := by rw [← hH1, Array.getElem?_push_size]
  have o1 : ∀ q : Nat, q < H.size → H1[q]? = H[q]? := fun q hq => by rw [← hH1, Array.getElem?_push, if_neg (Nat.ne_of_lt hq)]
  obtain ⟨t, b1, b2⟩ := kk H1 (zmem_push hm rfl (by rw [zcell_1 zkp_eq, zupA_eq, ← hp]; exact e1) (fun q hq => ⟨zupA_ne hq, rfl, rfl⟩) z1 o1) (va_S_grow hS (by omega) o1) ((T.setVm vm').pushCell (arrV (g.2.1 1) len (fun j => .int (I a j)))) (by rw [← hH1, ← hT]; rfl) X'
  refine ⟨t, step t ?_, b2⟩
  rw [hT, hp]
  exact b1
end ZNew
end
section
section ZCalls
variable {g : ZG} {l : Launch} {M N : ZM} {pc : Nat} {ls : List (Option Value)} {st : List Value} {Q : Option Value → ZH → Prop} {h : ZH}
-- answers
theorem z_ret0 {v : Option Value} (hq : Q v h) (hw : ∀ {p : Program} {e : Env} {R : Room} {s : State} {m : MethodId} {args : Array Value} {below : List Frame} {meth : Method} {c : Code} {H : Heap} {locs : List Loc} {cells slots : Nat} {lsA : Array Slot}, ZX g M p R s m args meth c → (∀ t : State, t.heap = H → s.WarmedH t.vm → zQ g v h args s (.returned (v.map (zv g))) t) → (∀ q ∈ locs, zA g q.base) → W p l e R s m args below meth c H locs cells slots (MQ below (zQ g v h) args s cells slots (zA g)) (F0 m pc lsA (st.map (zv g)))) : Z g l M pc ls st h Q := by
  refine ⟨v, h, 0, 0, hq, rfl, rfl, fun p e R s m args below meth c X H locs cells slots lsA hm hS hl h1 h2 => ?_⟩
  exact hw X (fun t ht _ => ⟨rfl, by rw [ht]; exact hm, hS.F ht⟩) hS.2.2
theorem z_ireturn {x : Int32} (hd : decode M.2.1 pc = .ok (.ireturn, 1)) (hr : M.2.2.2.1 = some .int) (hq : Q (some (.int x)) h) : Z g l M pc ls [.int x] h Q :=
  z_ret0 (v := some (.int x)) hq (fun X a b => W.iret (v := x) X.1 X.2.1 (X.2.2.1.trans hr) a b hd X.2.2.2.2.2.2.1)
theorem z_zreturn {x : Int32} (hd : decode M.2.1 pc = .ok (.ireturn, 1)) (hr : M.2.2.2.1 = some .boolean) (hx : x &&& 1 = x) (hq : Q (some (.int x)) h) : Z g l M pc ls [.int x] h Q :=
  z_ret0 (v := some (.int x)) hq (fun X a b => W.zret (v := x) X.1 X.2.1 (X.2.2.1.trans hr) (show Value.int (x &&& 1) = _ by rw [hx]) a b hd X.2.2.2.2.2.2.1)
theorem z_lreturn {x : Int64} (hd : decode M.2.1 pc = .ok (.lreturn, 1)) (hr : M.2.2.2.1 = some .long) (hq : Q (some (.long x)) h) : Z g l M pc ls [.long x] h Q :=
  z_ret0 (v := some (.long x)) hq (fun X a b => W.lret (v := x) X.1 X.2.1 (X.2.2.1.trans hr) a b hd X.2.2.2.2.2.2.1)
theorem z_return (hd : decode M.2.1 pc = .ok (.return_, 1)) (hr : M.2.2.2.1 = none) (hq : Q none h) : Z g l M pc ls [] h Q :=
  z_ret0 (v := none) hq (fun X a b => W.vret X.1 X.2.1 (X.2.2.1.trans hr) a b hd X.2.2.2.2.2.2.1)
theorem z_areturn {x : Nat} {rt : FieldType} (hd : decode M.2.1 pc = .ok (.areturn, 1)) (hr : M.2.2.2.1 = some rt) (hrt : (∃ n, rt = .object n) ∨ ∃ t, rt = .array t) (hq : Q (some (.ref x)) h) : Z g l M pc ls [.ref x] h Q :=
  z_ret0 (v := some (.ref x)) hq (fun X a b => W.aret X.1 X.2.1 (X.2.2.1.trans hr) hrt (Or.inr ⟨_, rfl⟩) a b hd X.2.2.2.2.2.2.1)
theorem z_areturnN {rt : FieldType} (hd : decode M.2.1 pc = .ok (.areturn, 1)) (hr : M.2.2.2.1 = some rt) (hrt : (∃ n, rt = .object n) ∨ ∃ t, rt = .array t) (hq : Q (some .null) h) : Z g l M pc ls [.null] h Q :=
  z_ret0 (v := some .null) hq (fun X a b => W.aret X.1 X.2.1 (X.2.2.1.trans hr) hrt (Or.inl rfl) a b hd X.2.2.2.2.2.2.1)
/-- two references that are the same or not -/
theorem z_acmp_eq {x : Option Nat} {y : Nat} {off : Int} {tgt : Nat} (hd : decode M.2.1 pc = .ok (.if_acmp .eq off, 3)) (ht : (pc : Int) + off = (tgt : Int)) (hx : ∀ a, x = some a → 4 ≤ a) (hy : 4 ≤ y) (kt : x = some y → Z g l M tgt ls st h Q) (kf : ¬ x = some y → Z g l M (pc + 3) ls st h Q) : Z g l M pc ls (.ref y :: va_rf x :: st) h Q := by
  refine Z.br (P := x = some y) (st' := st) (fun X a b => ?_) kt kf
  have e : (Value.ref y :: va_rf x :: st).map (zv g) = va_rf (some (zphi g y)) :: va_rf (x.map (zphi g)) :: st.map (zv g) := by cases x <;> rfl
  rw [e]
  refine lv_acmp_eq X.1 X.2.1 hd ht (fun q => a ?_) (fun q => b ?_)
  · cases x with
    | none => cases q
    | some z => exact congrArg some (zphi_inj (g := g) (hx z rfl) hy (Option.some.inj q))
  · intro z; apply q; rw [z]; rfl
theorem z_objInit {a index : Nat} (hd : decode M.2.1 pc = .ok (.invokespecial index, 3)) (hl : Cond.methodLink M.1.cls index objectInit ∈ gw) (hi : Cond.instanceMethod objectInit ∈ gw) (hc : Cond.code objectInit ⟨#[0xb1]⟩ 1 none ∈ gw) (hfr : 1 ≤ M.2.2.2.2.1) (hlo : (st.map fun v => v.category).sum + 12 ≤ M.2.2.2.2.2) (k : Z g l M (pc + 3) ls st h Q) : Z g l M pc ls (.ref a :: st) h Q := by
  refine Z.step (fun X _ _ hls k => ?_) k
  have hts := X.2.2.2.2.2.1
  have esum : ((st.map (zv g)).map fun v => v.category).sum = (st.map fun v => v.category).sum := by
    rw [List.map_map]; congr 1; exact List.map_congr_left (fun v _ => zv_cat g v)
  exact W.objInit X.1 X.2.1 X.2.2.2.2.1 (hts _ hl) (hts _ hi) (hts _ hc) rfl (by rw [X.2.2.2.1]; exact hls.1) rfl hd (Nat.le_trans hfr X.2.2.2.2.2.2.2.2.1) (by show 2 * 0 + _ + 12 ≤ _; rw [esum]; have := X.2.2.2.2.2.2.2.2.2.1; omega) k
-- a method's contract out of its walk
theorem zT_moved {s U : State} (hW : s.WarmedH U.vm) (hT : zT g s) : zT g U :=
  ⟨va_K.moved hW.alike hT.1, fun q hq => va_Nw.warmM hW (hT.2.1 q hq), va_Nw.warmC hW hT.2.2.1, va_AO.moved hW.alike hT.2.2.2.1, va_AO.moved hW.alike hT.2.2.2.2⟩
theorem zold_moved {s U : State} {H : Heap} (hvm : s.vm.Alike U.vm) (hO : zold g s H) : zold g U H :=
  ⟨fun r hr => va_T.moved hvm (hO.1 r hr), va_Z.moved hvm hO.2.1, va_Z.moved hvm hO.2.2.1, va_Z.moved hvm hO.2.2.2⟩
theorem zold_kept {s : State} {H H1 : Heap} (hO : zold g s H) (hq : ∀ a : Nat, a < H.size → ¬ zA g a → H1[a]? = H[a]?) : zold g s H1 :=
  ⟨fun r hr => va_T.kept (hO.1 r hr) hq, va_Z.kept hO.2.1 hq, va_Z.kept hO.2.2.1 hq, va_Z.kept hO.2.2.2 hq⟩
theorem zpre_blind (as : List Value) : FrameBlind (va_Pc (as.map (zv g)) (fun U => zpre g U h)) := by
  intro a U f mk hp
  obtain ⟨h1, h2, h3, h4⟩ := hp
  refine ⟨h1, ?_, ?_, h4⟩
  · obtain ⟨k1, k2, k3, k4, k5⟩ := h2
    exact ⟨va_K.moved (u := U) (U := U.calling f mk a) (Vm.Alike.refl U.vm) k1, fun q hq => va_Nw.same rfl rfl (k2 q hq), va_Nw.same rfl rfl k3, k4, k5⟩
  · exact zold_moved (s := U) (U := U.calling f mk a) (Vm.Alike.refl U.vm) h3
theorem zl_entry {as : List Value} {nL : Nat} {ls : List (Option Value)} {lsA : Array Slot} (hA : lv_has lsA nL (lv_args 0 (as.map (zv g)))) (hls : ∀ (i : Nat) (v : Value), ls[i]? = some (some v) → (i, v) ∈ lv_args 0 as) : zl g lsA nL ls := by
  refine ⟨hA.1, hA.2.1, fun i v hv => hA.2.2 (i, zv g v) ?_⟩
  have key : ∀ (as : List Value) (k : Nat), (i, v) ∈ lv_args k as → (i, zv g v) ∈ lv_args k (as.map (zv g)) := by
    intro as
    induction as with
    | nil => intro k hk; cases hk
    | cons w as ih =>
      intro k hk
      simp only [List.map_cons, lv_args, List.mem_cons, zv_cat] at hk ⊢
      rcases hk with hk | hk
      · left; cases hk; rfl
      · right; exact ih _ hk
  exact key as 0 (hls i v hv)
/-- the locals at a method's entry -/
def zargs : List Value → List (Option Value)
  | [] => []
  | v :: vs => if v.category = 2 then some v :: none :: zargs vs else some v :: zargs vs
theorem zargs_in : ∀ (as : List Value) (k i : Nat) (v : Value), (zargs as)[i]? = some (some v) → (k + i, v) ∈ lv_args k as
  | [], k, i, v, hv => by simp [zargs] at hv
  | w :: as, k, i, v, hv => by
    unfold zargs at hv
    unfold lv_args
    by_cases hc : w.category = 2
    · rw [if_pos hc] at hv
      rw [if_pos hc]
      match i, hv with
      | 0, hv => simp at hv; subst hv; exact List.mem_cons_self
      | 1, hv => simp at hv
      | i + 2, hv =>
        have := zargs_in as (k + 2) i v (by simpa using hv)
        rw [show k + (i + 2) = k + 2 + i by omega]
        exact List.mem_cons_of_mem _ this
    · rw [if_neg hc] at hv
      rw [if_neg hc]
      match i, hv with
      | 0, hv => simp at hv; subst hv; exact List.mem_cons_self
      | i + 1, hv =>
        have := zargs_in as (k + 1) i v (by simpa using hv)
        rw [show k + (i + 1) = k + 1 + i by omega]
        exact List.mem_cons_of_mem _ this
theorem zargs_len : ∀ as : List Value, (lg_sl (as.map (zv g))).length = (zargs as).length
  | [] => rfl
  | v :: as => by
    have ih := zargs_len as
    simp only [lg_sl, zargs, List.map_cons, List.flatMap_cons, List.length_append, zv_cat] at ih ⊢
    split <;> simp [ih] <;> omega
theorem zargs_pad {as : List Value} {k : Nat} : ∀ (i : Nat) (v : Value), (zargs as ++ List.replicate k none)[i]? = some (some v) → (i, v) ∈ lv_args 0 as := by
  intro i v hv
  by_cases hl : i < (zargs as).length
  · rw [List.getElem?_append_left hl] at hv
    have := zargs_in as 0 i v hv
    rwa [Nat.zero_add] at this
  · rw [List.getElem?_append_right (by omega), List.getElem?_replicate] at hv
    split at hv <;> cases hv
theorem ZC.of {as : List Value} (hy : plainName M.1.cls = true) (hn : (zargs as).length ≤ M.2.2.1) (k : Z g l M 0 (zargs as ++ List.replicate (M.2.2.1 - (zargs as).length) none) [] h Q) : ZC g l M as h Q := by
  obtain ⟨v, h', dc, ds, hq, e1, e2, kk⟩ := k
  refine ⟨v, h', dc, ds, hq, e1, e2, ?_⟩
  refine Met.ofW (cc := M.2.1) (maxL := M.2.2.1) (ret := M.2.2.2.1) (ws' := gw) hy rfl ?_
  intro p e s m args below meth c s₁ B hml hv
  obtain ⟨rfl, hT, hO, hm⟩ := hv
  have hts := atoms_spec (ws := zw M) B.pre
  have X : ZX g M p (headSpec (zw M) { frames := M.2.2.2.2.1, cells := dc, slots := ds, locals := M.2.2.2.2.2 }).room s m (as.map (zv g)).toArray meth c :=
    ⟨B.exec, B.bytes, B.returns, hml, findClass_of_methodNamed B.named, fun w hw => hts w (List.mem_cons_of_mem _ hw), B.notSynchronized, (name_of_methodNamed B.named B.method).1, Nat.le_refl _, Nat.le_refl _, hT, hO, by rw [hm.2.2.1]; exact Nat.le_add_right _ _⟩
  have hl := lv_entry (as.map (zv g)) (n := M.2.2.1) (by rw [zargs_len]; exact hn)
  rw [lg_entry_eq]
  have k1 := kk p e _ s m (as.map (zv g)).toArray below meth c X s.heap [] 0 0 _ hm va_S.rf (zl_entry hl zargs_pad) (by show 0 + dc ≤ dc; omega) (by show 0 + ds ≤ ds; omega)
  rw [Nat.zero_add, Nat.zero_add] at k1
  exact k1
-- calls
theorem zw_good (hc : Cond.code N.1 N.2.1 N.2.2.1 N.2.2.2.1 ∈ gw) : GoodIn gw (zw N) := fun w hw => by
  rcases List.mem_cons.mp hw with rfl | hw
  · exact ⟨hc, gw_good hc⟩
  · exact ⟨hw, gw_good hw⟩
theorem Z.call {as rest : List Value} {hp : Prop} (hrun : ∀ {v : Option Value} {h' : ZH} {dc ds : Nat} {p : Program} {e : Env} {R : Room} {s : State} {m : MethodId} {args : Array Value} {below : List Frame} {meth : Method} {c : Code} {H : Heap} {locs : List Loc} {cells slots : Nat} {lsA : Array Slot}, Met l N.1 (zw N) { frames := N.2.2.2.2.1, cells := dc, slots := ds, locals := N.2.2.2.2.2 } (va_Pc (as.map (zv g)) (fun U => zpre g U h)) (zQ g v h') dc ds (zA g) → ZX g M p R s m args meth c → zmem g H h → va_S (zA g) s.heap H locs → zl g lsA M.2.2.1 ls → cells + dc ≤ R.cells → slots + ds ≤ R.slots →
      va_Run p l e R s m args below meth c H locs cells slots dc ds (F0 m pc lsA (st.map (zv g))) (rest.map (zv g)) (zQ g v h' (as.map (zv g)).toArray) (zA g))
    (k : ZC g l N as h (fun v h' => Z g l M (pc + 3) ls (v.toList ++ rest) h' Q)) : Z g l M pc ls st h Q := by
  obtain ⟨v, h', dc, ds, ⟨v2, h2, dc2, ds2, hq, f1, f2, kk⟩, e1, e2, hM⟩ := k
  refine ⟨v2, h2, dc + dc2, ds + ds2, hq, by rw [f1, e1]; omega, by rw [f2, e2]; omega, ?_⟩
  intro p e R s m args below meth c X H locs cells slots lsA hm hS hl c1 c2
  have hr := hrun hM (e := e) (below := below) X hm hS hl (cells := cells) (slots := slots) (by omega) (by omega)
  intro T hT XX
  obtain ⟨w, st₀, t, T', Lc, h0, X', hL, t1, t2, ⟨q1, q2, q3, q4⟩, go⟩ := hr T hT XX
  have hw : w = v.map (zv g) := by injection q1
  subst hw
  rw [h0] at q3 q4
  have key := kk p e R s m args below meth c X T'.heap (locs ++ Lc) (cells + dc) (slots + ds) lsA (by rw [t1]; exact q2) ⟨Nat.le_trans hS.1 (by rw [t1]; exact q3), fun q g1 g2 => by rw [t1, q4 q (Nat.lt_of_lt_of_le g1 hS.1) g2]; exact hS.2.1 q g1 g2, fun q hq => by
      rcases List.mem_append.mp hq with z | z
      · exact hS.2.2 q z
      · exact hL q z⟩ hl (by omega) (by omega)
  rw [Nat.add_assoc, Nat.add_assoc] at key
  obtain ⟨t3, a1, b1⟩ := key T' rfl X'
  refine ⟨t3, go t3 ?_, b1⟩
  have e5 : (v.map (zv g)).toList ++ rest.map (zv g) = (v.toList ++ rest).map (zv g) := by cases v <;> simp
  show Steps p.tables e below (T'.setTop { F0 m pc lsA (st.map (zv g)) with pc := pc + 3, stack := (v.map (zv g)).toList ++ rest.map (zv g) }) t3
  rw [e5]
  exact a1
theorem zroom {rest : List Value} (hc : (rest.map fun v => v.category).sum ≤ 8) : ((rest.map (zv g)).map fun v => v.category).sum ≤ 8 := by
  rw [List.map_map]
  rw [show List.map ((fun v : Value => v.category) ∘ zv g) rest = rest.map (fun v => v.category) from List.map_congr_left (fun v _ => zv_cat g v)]
  exact hc
def zparams (y : MethodName) (n : Nat) : Bool := y.cls != "java/lang/invoke/MethodHandle" && y.cls != "java/lang/invoke/VarHandle" && (parseMethodDescriptor y.desc).map (fun d => d.parameters.length) == some n
theorem zparams_spec {y : MethodName} {n : Nat} (h : zparams y n = true) : y.cls ≠ "java/lang/invoke/MethodHandle" ∧ y.cls ≠ "java/lang/invoke/VarHandle" ∧ (parseMethodDescriptor y.desc).map (fun d => d.parameters.length) = some n := by
  unfold zparams at h
  simp only [Bool.and_eq_true, bne_iff_ne, beq_iff_eq] at h
  exact ⟨h.1.1, h.1.2, h.2⟩
theorem zpre_of {p : Program} {R : Room} {s : State} {m : MethodId} {args : Array Value} {meth : Method} {c : Code} {H : Heap} {locs : List Loc} (as : List Value) (X : ZX g M p R s m args meth c) (hm : zmem g H h) (hS : va_S (zA g) s.heap H locs) : ∀ U : State, U.heap = H → s.WarmedH U.vm → va_Pc (as.map (zv g)) (fun U => zpre g U h) (as.map (zv g)).toArray U := by
  intro U hU hW
  refine ⟨rfl, zT_moved hW X.2.2.2.2.2.2.2.2.2.2.1, ?_, by rw [hU]; exact hm⟩
  rw [hU]
  exact zold_kept (zold_moved hW.alike X.2.2.2.2.2.2.2.2.2.2.2.1) hS.2.1
theorem z_calls {as rest : List Value} {index nas : Nat} (hd : decode M.2.1 pc = .ok (.invokestatic index, 3)) (hcode : Cond.code N.1 N.2.1 N.2.2.1 N.2.2.2.1 ∈ gw) (hl : Cond.methodLink M.1.cls index N.1 ∈ gw) (hs : Cond.static N.1 ∈ gw) (hi : Cond.initialized N.1.cls ∈ gw) (hp : zparams N.1 nas = true) (hn : as.length = nas) (hst : st = as.reverse ++ rest) (hro : (rest.map fun v => v.category).sum ≤ 8) (hfr : N.2.2.2.2.1 + 1 ≤ M.2.2.2.2.1) (hlo : 8 + (N.2.2.1 + 11) + N.2.2.2.2.2 ≤ M.2.2.2.2.2)
    (k : ZC g l N as h (fun v h' => Z g l M (pc + 3) ls (v.toList ++ rest) h' Q)) : Z g l M pc ls st h Q := by
  subst hst
  refine Z.call (hp := True) (fun hM X hm hS hls c1 c2 => ?_) k
  have hts := X.2.2.2.2.2.1
  have hsp := zparams_spec hp
  exact va_runS (As := as.map (zv g)) (rest := rest.map (zv g)) ⟨X.1, X.2.1, X.2.2.2.1, X.2.2.2.2.1, hts⟩ hM ⟨callB_of nas hts (zw_good hcode) rfl rfl rfl (hts _ hi) (hts _ hl) hsp ⟨Nat.le_trans hfr X.2.2.2.2.2.2.2.2.1, Nat.le_trans hlo X.2.2.2.2.2.2.2.2.2.1⟩, hts _ hs⟩ ⟨zpre_blind as, zpre_of as X hm hS⟩ rfl (by rw [List.length_map]; exact hn) hls.1 (by show (as.reverse ++ rest).map (zv g) = _; rw [List.map_append, List.map_reverse]) (lv_room (zroom hro)) hd ⟨c1, c2⟩
theorem z_callsN {as rest : List Value} {index nas : Nat} {host : String} (hd : decode M.2.1 pc = .ok (.invokestatic index, 3)) (hcode : Cond.code N.1 N.2.1 N.2.2.1 N.2.2.2.1 ∈ gw) (hl : (M.1.cls, index, N.1, host) ∈ znest) (hs : Cond.static N.1 ∈ gw) (hi : Cond.initialized N.1.cls ∈ gw) (hp : zparams N.1 nas = true) (hn : as.length = nas) (hst : st = as.reverse ++ rest) (hro : (rest.map fun v => v.category).sum ≤ 8) (hfr : N.2.2.2.2.1 + 1 ≤ M.2.2.2.2.1) (hlo : 8 + (N.2.2.1 + 11) + N.2.2.2.2.2 ≤ M.2.2.2.2.2)
    (k : ZC g l N as h (fun v h' => Z g l M (pc + 3) ls (v.toList ++ rest) h' Q)) : Z g l M pc ls st h Q := by
  subst hst
  refine Z.call (hp := True) (fun hM X hm hS hls c1 c2 => ?_) k
  have hts := X.2.2.2.2.2.1
  have hsp := zparams_spec hp
  exact va_runSN (As := as.map (zv g)) (rest := rest.map (zv g)) ⟨X.1, X.2.1, X.2.2.2.1, X.2.2.2.2.1, hts⟩ hM ⟨va_cnB nas hts (zw_good hcode) rfl rfl rfl (X.2.2.2.2.2.2.2.2.2.2.1.2.1 _ hl) (hts _ hi) hsp ⟨Nat.le_trans hfr X.2.2.2.2.2.2.2.2.1, Nat.le_trans hlo X.2.2.2.2.2.2.2.2.2.1⟩, hts _ hs, trivial⟩ ⟨zpre_blind as, zpre_of as X hm hS⟩ rfl (by rw [List.length_map]; exact hn) hls.1 (by show (as.reverse ++ rest).map (zv g) = _; rw [List.map_append, List.map_reverse]) (lv_room (zroom hro)) hd ⟨c1, c2⟩
theorem z_callv {as rest : List Value} {index nas b ci : Nat} {K : ZK} {I : ZI} {L : ZL} {R : ZR} {n s0 : Nat} (hd : decode M.2.1 pc = .ok (.invokevirtual index, 3)) (hcode : Cond.code N.1 N.2.1 N.2.2.1 N.2.2.2.1 ∈ gw) (hl : Cond.methodLink M.1.cls index N.1 ∈ gw) (hs : Cond.instanceMethod N.1 ∈ gw) (hse : Cond.selects (zRR ci) N.1 N.1 ∈ gw) (hi : Cond.initialized N.1.cls ∈ gw) (hp : zparams N.1 nas = true) (hn : as.length = nas) (hst : st = as.reverse ++ .ref b :: rest) (hK : (K b).1 = 10 + ci) (hc : ci < 10) (hro : (rest.map fun v => v.category).sum ≤ 8) (hfr : N.2.2.2.2.1 + 1 ≤ M.2.2.2.2.1) (hlo : 8 + (N.2.2.1 + 11) + N.2.2.2.2.2 ≤ M.2.2.2.2.2)
    (k : ZC g l N (.ref b :: as) (K, I, L, R, n, s0) (fun v h' => Z g l M (pc + 3) ls (v.toList ++ rest) h' Q)) : Z g l M pc ls st (K, I, L, R, n, s0) Q := by
  subst hst
  refine Z.call (hp := True) (fun hM X hm hS hls c1 c2 => ?_) k
  have hts := X.2.2.2.2.2.1
  have hsp := zparams_spec hp
  have hr := zmem_in hm hK (by omega)
  have hat := zws_at g (K, I, L, R, n, s0) hr.1 hr.2
  simp only [zcell_obj hK] at hat
  exact va_runV (As := as.map (zv g)) (rest := rest.map (zv g)) (C := zRR ci) (b := zphi g b) ⟨X.1, X.2.1, X.2.2.2.1, X.2.2.2.2.1, hts⟩ hM ⟨callB_of nas hts (zw_good hcode) rfl rfl rfl (hts _ hi) (hts _ hl) hsp ⟨Nat.le_trans hfr X.2.2.2.2.2.2.2.2.1, Nat.le_trans hlo X.2.2.2.2.2.2.2.2.2.1⟩, hts _ hs, hts _ hse⟩ ⟨zpre_blind (.ref b :: as), va_recv X.2.2.2.2.2.2.2.2.2.2.1.1 hm.2.2.2 (zcl ci hc) hat, zpre_of (.ref b :: as) X hm hS⟩ rfl (by rw [List.length_map]; exact hn) hls.1 (by show (as.reverse ++ .ref b :: rest).map (zv g) = _; rw [List.map_append, List.map_reverse]; rfl) (lv_room (zroom hro)) hd ⟨c1, c2⟩
theorem z_calli {as rest : List Value} {index nas b : Nat} (hd : decode M.2.1 pc = .ok (.invokespecial index, 3)) (hret : N.2.2.2.1 = none) (hnm : N.1.name = "<init>") (hcode : Cond.code N.1 N.2.1 N.2.2.1 N.2.2.2.1 ∈ gw) (hl : Cond.methodLink M.1.cls index N.1 ∈ gw) (hs : Cond.instanceMethod N.1 ∈ gw) (hi : Cond.initialized N.1.cls ∈ gw) (hp : zparams N.1 nas = true) (hn : as.length = nas) (hst : st = as.reverse ++ .ref b :: rest) (hro : (rest.map fun v => v.category).sum ≤ 8) (hfr : N.2.2.2.2.1 + 1 ≤ M.2.2.2.2.1) (hlo : 8 + (N.2.2.1 + 11) + N.2.2.2.2.2 ≤ M.2.2.2.2.2)
    (k : ZC g l N (.ref b :: as) h (fun v h' => Z g l M (pc + 3) ls (v.toList ++ rest) h' Q)) : Z g l M pc ls st h Q := by
  subst hst
  refine Z.call (hp := True) (fun hM X hm hS hls c1 c2 => ?_) k
  have hts := X.2.2.2.2.2.1
  have hsp := zparams_spec hp
  have hw : zw N = Cond.code N.1 N.2.1 N.2.2.1 none :: gw := by rw [← hret]; rfl
  exact va_runI (As := as.map (zv g)) (rest := rest.map (zv g)) (b := zphi g b) ⟨X.1, X.2.1, X.2.2.2.1, X.2.2.2.2.1, hts⟩ hM ⟨callB_of nas hts (zw_good hcode) hw rfl rfl (hts _ hi) (hts _ hl) hsp ⟨Nat.le_trans hfr X.2.2.2.2.2.2.2.2.1, Nat.le_trans hlo X.2.2.2.2.2.2.2.2.2.1⟩, hnm, hts _ hs⟩ ⟨zpre_blind (.ref b :: as), zpre_of (.ref b :: as) X hm hS⟩ rfl (by rw [List.length_map]; exact hn) hls.1 (by show (as.reverse ++ .ref b :: rest).map (zv g) = _; rw [List.map_append, List.map_reverse]; rfl) (lv_room (zroom hro)) hd ⟨c1, c2⟩
theorem z_calliN {as rest : List Value} {index nas b : Nat} {host : String} (hd : decode M.2.1 pc = .ok (.invokespecial index, 3)) (hret : N.2.2.2.1 = none) (hnm : N.1.name = "<init>") (hcode : Cond.code N.1 N.2.1 N.2.2.1 N.2.2.2.1 ∈ gw) (hl : (M.1.cls, index, N.1, host) ∈ znest) (hs : Cond.instanceMethod N.1 ∈ gw) (hi : Cond.initialized N.1.cls ∈ gw) (hp : zparams N.1 nas = true) (hn : as.length = nas) (hst : st = as.reverse ++ .ref b :: rest) (hro : (rest.map fun v => v.category).sum ≤ 8) (hfr : N.2.2.2.2.1 + 1 ≤ M.2.2.2.2.1) (hlo : 8 + (N.2.2.1 + 11) + N.2.2.2.2.2 ≤ M.2.2.2.2.2)
    (k : ZC g l N (.ref b :: as) h (fun v h' => Z g l M (pc + 3) ls (v.toList ++ rest) h' Q)) : Z g l M pc ls st h Q := by
  subst hst
  refine Z.call (hp := True) (fun hM X hm hS hls c1 c2 => ?_) k
  have hts := X.2.2.2.2.2.1
  have hsp := zparams_spec hp
  have hw : zw N = Cond.code N.1 N.2.1 N.2.2.1 none :: gw := by rw [← hret]; rfl
  exact va_runIN (As := as.map (zv g)) (rest := rest.map (zv g)) (b := zphi g b) ⟨X.1, X.2.1, X.2.2.2.1, X.2.2.2.2.1, hts⟩ hM ⟨va_cnB nas hts (zw_good hcode) hw rfl rfl (X.2.2.2.2.2.2.2.2.2.2.1.2.1 _ hl) (hts _ hi) hsp ⟨Nat.le_trans hfr X.2.2.2.2.2.2.2.2.1, Nat.le_trans hlo X.2.2.2.2.2.2.2.2.2.1⟩, hnm, hts _ hs⟩ ⟨zpre_blind (.ref b :: as), zpre_of (.ref b :: as) X hm hS⟩ rfl (by rw [List.length_map]; exact hn) hls.1 (by show (as.reverse ++ .ref b :: rest).map (zv g) = _; rw [List.map_append, List.map_reverse]; rfl) (lv_room (zroom hro)) hd ⟨c1, c2⟩
end ZCalls
end
section
def iZ (z : Int) : Int32 := Int32.ofInt z
def lZ (z : Int) : Int64 := Int64.ofInt z
abbrev rI (z : Int) : Prop := -2147483648 ≤ z ∧ z ≤ 2147483647
abbrev rL (z : Int) : Prop := -9223372036854775808 ≤ z ∧ z ≤ 9223372036854775807
theorem iZ_toInt {z : Int} (h : rI z) : (iZ z).toInt = z := Int32.toInt_ofInt_of_le h.1 (by have := h.2; show z < 2147483648; omega)
theorem lZ_toInt {z : Int} (h : rL z) : (lZ z).toInt = z := Int64.toInt_ofInt_of_le h.1 (by have := h.2; show z < 9223372036854775808; omega)
theorem iZ_of (x : Int32) : x = iZ x.toInt := (Int32.ofInt_toInt x).symm
theorem lZ_of (x : Int64) : x = lZ x.toInt := (Int64.ofInt_toInt x).symm
theorem rI_of (x : Int32) : rI x.toInt := ⟨x.le_toInt, by have := x.toInt_lt; show x.toInt ≤ 2147483647; omega⟩
theorem rL_of (x : Int64) : rL x.toInt := ⟨x.le_toInt, by have := x.toInt_lt; show x.toInt ≤ 9223372036854775807; omega⟩
theorem iZ_add (a b : Int) : iZ a + iZ b = iZ (a + b) := (Int32.ofInt_add a b).symm
theorem iZ_sub (a b : Int) : iZ a - iZ b = iZ (a - b) := (Int32.ofInt_sub a b).symm
theorem iZ_mul (a b : Int) : iZ a * iZ b = iZ (a * b) := (Int32.ofInt_mul a b).symm
theorem iZ_neg (a : Int) : - iZ a = iZ (-a) := (Int32.ofInt_neg a).symm
theorem lZ_add (a b : Int) : lZ a + lZ b = lZ (a + b) := (Int64.ofInt_add a b).symm
theorem lZ_sub (a b : Int) : lZ a - lZ b = lZ (a - b) := (Int64.ofInt_sub a b).symm
theorem lZ_mul (a b : Int) : lZ a * lZ b = lZ (a * b) := (Int64.ofInt_mul a b).symm
theorem lZ_neg (a : Int) : - lZ a = lZ (-a) := (Int64.ofInt_neg a).symm
theorem iZ_lt {a b : Int} (ha : rI a) (hb : rI b) : iZ a < iZ b ↔ a < b := by rw [Int32.lt_iff_toInt_lt, iZ_toInt ha, iZ_toInt hb]
theorem iZ_le {a b : Int} (ha : rI a) (hb : rI b) : iZ a ≤ iZ b ↔ a ≤ b := by rw [Int32.le_iff_toInt_le, iZ_toInt ha, iZ_toInt hb]
theorem iZ_eq {a b : Int} (ha : rI a) (hb : rI b) : iZ a = iZ b ↔ a = b := by rw [← Int32.toInt_inj, iZ_toInt ha, iZ_toInt hb]
theorem lZ_lt {a b : Int} (ha : rL a) (hb : rL b) : lZ a < lZ b ↔ a < b := by rw [Int64.lt_iff_toInt_lt, lZ_toInt ha, lZ_toInt hb]
theorem lZ_le {a b : Int} (ha : rL a) (hb : rL b) : lZ a ≤ lZ b ↔ a ≤ b := by rw [Int64.le_iff_toInt_le, lZ_toInt ha, lZ_toInt hb]
theorem lZ_eq {a b : Int} (ha : rL a) (hb : rL b) : lZ a = lZ b ↔ a = b := by rw [← Int64.toInt_inj, lZ_toInt ha, lZ_toInt hb]
theorem iZ_0 : iZ 0 = 0 := rfl
theorem iZ_ne0 {a : Int} (ha : rI a) (h : a ≠ 0) : ¬ iZ a = 0 := fun e => h ((iZ_eq ha (by omega)).mp e)
theorem lZ_ne0 {a : Int} (ha : rL a) (h : a ≠ 0) : ¬ lZ a = 0 := fun e => h ((lZ_eq ha (by omega)).mp e)
theorem iZ_l {a : Int} (ha : rI a) : (iZ a).toInt64 = lZ a := Int32.toInt64_ofInt ha.1 ha.2
theorem lZ_i (a : Int) : (lZ a).toInt32 = iZ a := Int64.toInt32_ofInt
theorem iZ_div {a b : Int} (ha : rI a) (hb : rI b) (h : ¬ (a = -2147483648 ∧ b = -1)) : iZ a / iZ b = iZ (a.tdiv b) := by
  rw [iZ_of (iZ a / iZ b), Int32.toInt_div, iZ_toInt ha, iZ_toInt hb]
  congr 1
  have h2 : (a.tdiv b).natAbs ≤ a.natAbs := by rw [Int.natAbs_tdiv]; exact Nat.div_le_self _ _
  have h3 : (a.tdiv b) ≤ 2147483647 := by
    by_cases hm : a = -2147483648
    · by_cases hb0 : b = 0
      · subst hb0; simp
      · by_cases hb1 : b = 1
        · subst hb1; simp; omega
        · have h4 : (a.tdiv b).natAbs = a.natAbs / b.natAbs := Int.natAbs_tdiv a b
          have h5 : 2 ≤ b.natAbs := by omega
          have h6 : a.natAbs / b.natAbs ≤ a.natAbs / 2 := Nat.div_le_div_left h5 (by omega)
          omega
    · omega
  show (a.tdiv b).bmod 4294967296 = _
  rw [Int.bmod_eq_of_le (by omega) (by omega)]
theorem lZ_div {a b : Int} (ha : rL a) (hb : rL b) (h : ¬ (a = -9223372036854775808 ∧ b = -1)) : lZ a / lZ b = lZ (a.tdiv b) := by
  rw [lZ_of (lZ a / lZ b), Int64.toInt_div, lZ_toInt ha, lZ_toInt hb]
  congr 1
  have h2 : (a.tdiv b).natAbs ≤ a.natAbs := by rw [Int.natAbs_tdiv]; exact Nat.div_le_self _ _
  have h3 : (a.tdiv b) ≤ 9223372036854775807 := by
    by_cases hm : a = -9223372036854775808
    · by_cases hb0 : b = 0
      · subst hb0; simp
      · by_cases hb1 : b = 1
        · subst hb1; simp; omega
        · have h4 : (a.tdiv b).natAbs = a.natAbs / b.natAbs := Int.natAbs_tdiv a b
          have h5 : 2 ≤ b.natAbs := by omega
          have h6 : a.natAbs / b.natAbs ≤ a.natAbs / 2 := Nat.div_le_div_left h5 (by omega)
          omega
    · omega
  show (a.tdiv b).bmod 18446744073709551616 = _
  rw [Int.bmod_eq_of_le (by omega) (by omega)]
theorem iZ_nn {j : Int} {n : Nat} (hn : (n : Int) ≤ 2147483647) (h : 0 ≤ j ∧ j < n) : vp_in (iZ j) n ∧ (iZ j).toNatClampNeg = j.toNat := by
  have e : (iZ j).toInt = j := iZ_toInt ⟨by omega, by omega⟩
  refine ⟨vp_in_iff.mpr (by rw [e]; exact h), ?_⟩
  show (iZ j).toInt.toNat = _
  rw [e]
theorem iZ_clamp {j : Int} (h : 0 ≤ j ∧ j ≤ 2147483647) : (iZ j).toNatClampNeg = j.toNat ∧ ¬ iZ j < 0 := by
  have e : (iZ j).toInt = j := iZ_toInt ⟨by omega, by omega⟩
  refine ⟨by show (iZ j).toInt.toNat = _; rw [e], fun q => ?_⟩
  have := (iZ_lt (b := 0) ⟨by omega, by omega⟩ (by omega)).mp q
  omega
def zi (J : Nat → Nat → Int) : ZI := fun a k => iZ (J a k)
def zj (P : Nat → Nat → Int) : ZL := fun a k => lZ (P a k)
theorem zup_zi {J : Nat → Nat → Int} {a i : Nat} {z : Int} : zup (zi J) a i (iZ z) = zi (zup J a i z) := by
  funext b j; simp only [zup, zi]; split
  · split <;> rfl
  · rfl
theorem zup_zj {J : Nat → Nat → Int} {a i : Nat} {z : Int} : zup (zj J) a i (lZ z) = zj (zup J a i z) := by
  funext b j; simp only [zup, zj]; split
  · split <;> rfl
  · rfl
theorem zupA_zi {J : Nat → Nat → Int} {a : Nat} {f : Nat → Int} : zupA (zi J) a (fun j => iZ (f j)) = zi (zupA J a f) := by
  funext b j; simp only [zupA, zi]; split <;> rfl
theorem zupA_zj {J : Nat → Nat → Int} {a : Nat} {f : Nat → Int} : zupA (zj J) a (fun j => lZ (f j)) = zj (zupA J a f) := by
  funext b j; simp only [zupA, zj]; split <;> rfl
theorem zi_of (I : ZI) : I = zi (fun a k => (I a k).toInt) := by funext a k; exact iZ_of _
theorem zj_of (I : ZL) : I = zj (fun a k => (I a k).toInt) := by funext a k; exact lZ_of _
section ZCan
variable {g : ZG} {l : Launch} {M : ZM} {pc : Nat} {ls : List (Option Value)} {st : List Value} {Q : Option Value → ZH → Prop} {h : ZH} {K : ZK} {J P : Nat → Nat → Int} {R : ZR} {n s0 : Nat}
theorem c_iconst {n : Int} (hd : decode M.2.1 pc = .ok (.iconst n, 1)) (k : Z g l M (pc + 1) ls (.int (iZ n) :: st) h Q) : Z g l M pc ls st h Q := z_iconst hd rfl k
theorem c_bipush {n : Int} (hd : decode M.2.1 pc = .ok (.bipush n, 2)) (hv : -128 ≤ n ∧ n ≤ 127) (k : Z g l M (pc + 2) ls (.int (iZ n) :: st) h Q) : Z g l M pc ls st h Q := z_bipush hd (Int8.toInt32_ofInt hv.1 hv.2) k
theorem c_sipush {n : Int} (hd : decode M.2.1 pc = .ok (.sipush n, 3)) (hv : -32768 ≤ n ∧ n ≤ 32767) (k : Z g l M (pc + 3) ls (.int (iZ n) :: st) h Q) : Z g l M pc ls st h Q := z_sipush hd (Int16.toInt32_ofInt hv.1 hv.2) k
theorem c_lconst0 (hd : decode M.2.1 pc = .ok (.lconst 0, 1)) (k : Z g l M (pc + 1) ls (.long (lZ 0) :: st) h Q) : Z g l M pc ls st h Q := z_lconst hd rfl k
theorem c_lconst1 (hd : decode M.2.1 pc = .ok (.lconst 1, 1)) (k : Z g l M (pc + 1) ls (.long (lZ 1) :: st) h Q) : Z g l M pc ls st h Q := z_lconst hd rfl k
theorem c_ldc {index : Nat} {z : Int} {v : Int32} (hd : decode M.2.1 pc = .ok (.ldc index, 2)) (hc : Cond.constant M.1.cls index v ∈ gw) (hv : v = iZ z) (k : Z g l M (pc + 2) ls (.int (iZ z) :: st) h Q) : Z g l M pc ls st h Q := z_ldc hd hc (hv ▸ k)
theorem c_ldc2 {index : Nat} {z : Int} {v : Int64} (hd : decode M.2.1 pc = .ok (.ldc2_w index, 3)) (hc : Cond.constantLong M.1.cls index v ∈ gw) (hv : v = lZ z) (k : Z g l M (pc + 3) ls (.long (lZ z) :: st) h Q) : Z g l M pc ls st h Q := z_ldc2 hd hc (hv ▸ k)
theorem c_iinc {i : Nat} {n x : Int} (hd : decode M.2.1 pc = .ok (.iinc i n, 3)) (hx : ls[i]? = some (some (.int (iZ x)))) (hn : i < M.2.2.1) (hz : znl ls i = true) (k : Z g l M (pc + 3) (ls.set i (some (.int (iZ (x + n))))) st h Q) : Z g l M pc ls st h Q := z_iinc hd hx hn hz (by rw [show iZ x + Int32.ofInt n = iZ (x + n) from iZ_add x n]; exact k)
theorem c_iadd {x y : Int} (hd : decode M.2.1 pc = .ok (.iadd, 1)) (k : Z g l M (pc + 1) ls (.int (iZ (x + y)) :: st) h Q) : Z g l M pc ls (.int (iZ y) :: .int (iZ x) :: st) h Q := z_iadd hd (by rw [iZ_add]; exact k)
theorem c_isub {x y : Int} (hd : decode M.2.1 pc = .ok (.isub, 1)) (k : Z g l M (pc + 1) ls (.int (iZ (x - y)) :: st) h Q) : Z g l M pc ls (.int (iZ y) :: .int (iZ x) :: st) h Q := z_isub hd (by rw [iZ_sub]; exact k)
theorem c_imul {x y : Int} (hd : decode M.2.1 pc = .ok (.imul, 1)) (k : Z g l M (pc + 1) ls (.int (iZ (x * y)) :: st) h Q) : Z g l M pc ls (.int (iZ y) :: .int (iZ x) :: st) h Q := z_imul hd (by rw [iZ_mul]; exact k)
theorem c_ladd {x y : Int} (hd : decode M.2.1 pc = .ok (.ladd, 1)) (k : Z g l M (pc + 1) ls (.long (lZ (x + y)) :: st) h Q) : Z g l M pc ls (.long (lZ y) :: .long (lZ x) :: st) h Q := z_ladd hd (by rw [lZ_add]; exact k)
theorem c_lsub {x y : Int} (hd : decode M.2.1 pc = .ok (.lsub, 1)) (k : Z g l M (pc + 1) ls (.long (lZ (x - y)) :: st) h Q) : Z g l M pc ls (.long (lZ y) :: .long (lZ x) :: st) h Q := z_lsub hd (by rw [lZ_sub]; exact k)
theorem c_lmul {x y : Int} (hd : decode M.2.1 pc = .ok (.lmul, 1)) (k : Z g l M (pc + 1) ls (.long (lZ (x * y)) :: st) h Q) : Z g l M pc ls (.long (lZ y) :: .long (lZ x) :: st) h Q := z_lmul hd (by rw [lZ_mul]; exact k)
theorem c_ineg {x : Int} (hd : decode M.2.1 pc = .ok (.ineg, 1)) (k : Z g l M (pc + 1) ls (.int (iZ (-x)) :: st) h Q) : Z g l M pc ls (.int (iZ x) :: st) h Q := z_ineg hd (by rw [iZ_neg]; exact k)
theorem c_lneg {x : Int} (hd : decode M.2.1 pc = .ok (.lneg, 1)) (k : Z g l M (pc + 1) ls (.long (lZ (-x)) :: st) h Q) : Z g l M pc ls (.long (lZ x) :: st) h Q := z_lneg hd (by rw [lZ_neg]; exact k)
theorem c_i2l {x : Int} (hd : decode M.2.1 pc = .ok (.i2l, 1)) (hx : rI x) (k : Z g l M (pc + 1) ls (.long (lZ x) :: st) h Q) : Z g l M pc ls (.int (iZ x) :: st) h Q := z_i2l hd (by rw [iZ_l hx]; exact k)
theorem c_l2i {x : Int} (hd : decode M.2.1 pc = .ok (.l2i, 1)) (k : Z g l M (pc + 1) ls (.int (iZ x) :: st) h Q) : Z g l M pc ls (.long (lZ x) :: st) h Q := z_l2i hd (by rw [lZ_i]; exact k)
theorem iZ_byte (x : Int) : (iZ x).toInt8.toInt32 = iZ (x.bmod 256) := by rw [iZ_of (iZ x).toInt8.toInt32]; congr 1; rw [Int8.toInt_toInt32, iZ, Int32.toInt8_ofInt, Int8.toInt_ofInt]
theorem c_i2b {x : Int} (hd : decode M.2.1 pc = .ok (.i2b, 1)) (k : Z g l M (pc + 1) ls (.int (iZ (x.bmod 256)) :: st) h Q) : Z g l M pc ls (.int (iZ x) :: st) h Q := z_i2b hd (by rw [iZ_byte]; exact k)
theorem c_idiv {x y : Int} (hd : decode M.2.1 pc = .ok (.idiv, 1)) (hx : rI x) (hy : rI y) (h0 : y ≠ 0) (ho : ¬ (x = -2147483648 ∧ y = -1)) (k : Z g l M (pc + 1) ls (.int (iZ (x.tdiv y)) :: st) h Q) : Z g l M pc ls (.int (iZ y) :: .int (iZ x) :: st) h Q := z_idiv hd (iZ_ne0 hy h0) (by rw [iZ_div hx hy ho]; exact k)
theorem c_irem {x y : Int} (hd : decode M.2.1 pc = .ok (.irem, 1)) (hx : rI x) (hy : rI y) (h0 : y ≠ 0) (ho : ¬ (x = -2147483648 ∧ y = -1)) (k : Z g l M (pc + 1) ls (.int (iZ (x.tmod y)) :: st) h Q) : Z g l M pc ls (.int (iZ y) :: .int (iZ x) :: st) h Q := z_irem hd (iZ_ne0 hy h0) (by rw [iZ_div hx hy ho, iZ_mul, iZ_sub, Int.mul_comm, ← Int.tmod_def]; exact k)
theorem c_ldiv {x y : Int} (hd : decode M.2.1 pc = .ok (.ldiv, 1)) (hx : rL x) (hy : rL y) (h0 : y ≠ 0) (ho : ¬ (x = -9223372036854775808 ∧ y = -1)) (k : Z g l M (pc + 1) ls (.long (lZ (x.tdiv y)) :: st) h Q) : Z g l M pc ls (.long (lZ y) :: .long (lZ x) :: st) h Q := z_ldiv hd (lZ_ne0 hy h0) (by rw [lZ_div hx hy ho]; exact k)
theorem c_lrem {x y : Int} (hd : decode M.2.1 pc = .ok (.lrem, 1)) (hx : rL x) (hy : rL y) (h0 : y ≠ 0) (ho : ¬ (x = -9223372036854775808 ∧ y = -1)) (k : Z g l M (pc + 1) ls (.long (lZ (x.tmod y)) :: st) h Q) : Z g l M pc ls (.long (lZ y) :: .long (lZ x) :: st) h Q := z_lrem hd (lZ_ne0 hy h0) (by rw [lZ_div hx hy ho, lZ_mul, lZ_sub, Int.mul_comm, ← Int.tmod_def]; exact k)
theorem Z.cast {P P' : Prop} {X Y : Prop} (e : P ↔ P') (a : P' → X) (b : ¬ P' → Y) : (P → X) ∧ (¬ P → Y) := ⟨fun q => a (e.mp q), fun q => b (fun z => q (e.mpr z))⟩
theorem c_if_eq {x off : Int} {tgt : Nat} (hd : decode M.2.1 pc = .ok (.ifCond .eq off, 3)) (ht : (pc : Int) + off = (tgt : Int)) (hx : rI x) (kt : x = 0 → Z g l M tgt ls st h Q) (kf : ¬ (x = 0) → Z g l M (pc + 3) ls st h Q) : Z g l M pc ls (.int (iZ x) :: st) h Q := have e := Z.cast (iZ_eq hx (by omega) : _ ↔ x = 0) kt kf; z_if_eq hd ht e.1 e.2
theorem c_icmp_eq {x y off : Int} {tgt : Nat} (hd : decode M.2.1 pc = .ok (.if_icmp .eq off, 3)) (ht : (pc : Int) + off = (tgt : Int)) (hx : rI x) (hy : rI y) (kt : x = y → Z g l M tgt ls st h Q) (kf : ¬ (x = y) → Z g l M (pc + 3) ls st h Q) : Z g l M pc ls (.int (iZ y) :: .int (iZ x) :: st) h Q := have e := Z.cast (iZ_eq hx hy : _ ↔ x = y) kt kf; z_icmp_eq hd ht e.1 e.2
theorem c_if_ne {x off : Int} {tgt : Nat} (hd : decode M.2.1 pc = .ok (.ifCond .ne off, 3)) (ht : (pc : Int) + off = (tgt : Int)) (hx : rI x) (kt : ¬ x = 0 → Z g l M tgt ls st h Q) (kf : ¬ (¬ x = 0) → Z g l M (pc + 3) ls st h Q) : Z g l M pc ls (.int (iZ x) :: st) h Q := have e := Z.cast (not_congr (iZ_eq hx (by omega)) : _ ↔ ¬ x = 0) kt kf; z_if_ne hd ht e.1 e.2
theorem c_icmp_ne {x y off : Int} {tgt : Nat} (hd : decode M.2.1 pc = .ok (.if_icmp .ne off, 3)) (ht : (pc : Int) + off = (tgt : Int)) (hx : rI x) (hy : rI y) (kt : ¬ x = y → Z g l M tgt ls st h Q) (kf : ¬ (¬ x = y) → Z g l M (pc + 3) ls st h Q) : Z g l M pc ls (.int (iZ y) :: .int (iZ x) :: st) h Q := have e := Z.cast (not_congr (iZ_eq hx hy) : _ ↔ ¬ x = y) kt kf; z_icmp_ne hd ht e.1 e.2
theorem c_if_lt {x off : Int} {tgt : Nat} (hd : decode M.2.1 pc = .ok (.ifCond .lt off, 3)) (ht : (pc : Int) + off = (tgt : Int)) (hx : rI x) (kt : x < 0 → Z g l M tgt ls st h Q) (kf : ¬ (x < 0) → Z g l M (pc + 3) ls st h Q) : Z g l M pc ls (.int (iZ x) :: st) h Q := have e := Z.cast (iZ_lt hx (by omega) : _ ↔ x < 0) kt kf; z_if_lt hd ht e.1 e.2
theorem c_icmp_lt {x y off : Int} {tgt : Nat} (hd : decode M.2.1 pc = .ok (.if_icmp .lt off, 3)) (ht : (pc : Int) + off = (tgt : Int)) (hx : rI x) (hy : rI y) (kt : x < y → Z g l M tgt ls st h Q) (kf : ¬ (x < y) → Z g l M (pc + 3) ls st h Q) : Z g l M pc ls (.int (iZ y) :: .int (iZ x) :: st) h Q := have e := Z.cast (iZ_lt hx hy : _ ↔ x < y) kt kf; z_icmp_lt hd ht e.1 e.2
theorem c_if_ge {x off : Int} {tgt : Nat} (hd : decode M.2.1 pc = .ok (.ifCond .ge off, 3)) (ht : (pc : Int) + off = (tgt : Int)) (hx : rI x) (kt : 0 ≤ x → Z g l M tgt ls st h Q) (kf : ¬ (0 ≤ x) → Z g l M (pc + 3) ls st h Q) : Z g l M pc ls (.int (iZ x) :: st) h Q := have e := Z.cast (iZ_le (by omega) hx : _ ↔ 0 ≤ x) kt kf; z_if_ge hd ht e.1 e.2
theorem c_icmp_ge {x y off : Int} {tgt : Nat} (hd : decode M.2.1 pc = .ok (.if_icmp .ge off, 3)) (ht : (pc : Int) + off = (tgt : Int)) (hx : rI x) (hy : rI y) (kt : y ≤ x → Z g l M tgt ls st h Q) (kf : ¬ (y ≤ x) → Z g l M (pc + 3) ls st h Q) : Z g l M pc ls (.int (iZ y) :: .int (iZ x) :: st) h Q := have e := Z.cast (iZ_le hy hx : _ ↔ y ≤ x) kt kf; z_icmp_ge hd ht e.1 e.2
theorem c_if_gt {x off : Int} {tgt : Nat} (hd : decode M.2.1 pc = .ok (.ifCond .gt off, 3)) (ht : (pc : Int) + off = (tgt : Int)) (hx : rI x) (kt : 0 < x → Z g l M tgt ls st h Q) (kf : ¬ (0 < x) → Z g l M (pc + 3) ls st h Q) : Z g l M pc ls (.int (iZ x) :: st) h Q := have e := Z.cast (iZ_lt (by omega) hx : _ ↔ 0 < x) kt kf; z_if_gt hd ht e.1 e.2
theorem c_icmp_gt {x y off : Int} {tgt : Nat} (hd : decode M.2.1 pc = .ok (.if_icmp .gt off, 3)) (ht : (pc : Int) + off = (tgt : Int)) (hx : rI x) (hy : rI y) (kt : y < x → Z g l M tgt ls st h Q) (kf : ¬ (y < x) → Z g l M (pc + 3) ls st h Q) : Z g l M pc ls (.int (iZ y) :: .int (iZ x) :: st) h Q := have e := Z.cast (iZ_lt hy hx : _ ↔ y < x) kt kf; z_icmp_gt hd ht e.1 e.2
theorem c_if_le {x off : Int} {tgt : Nat} (hd : decode M.2.1 pc = .ok (.ifCond .le off, 3)) (ht : (pc : Int) + off = (tgt : Int)) (hx : rI x) (kt : x ≤ 0 → Z g l M tgt ls st h Q) (kf : ¬ (x ≤ 0) → Z g l M (pc + 3) ls st h Q) : Z g l M pc ls (.int (iZ x) :: st) h Q := have e := Z.cast (iZ_le hx (by omega) : _ ↔ x ≤ 0) kt kf; z_if_le hd ht e.1 e.2
theorem c_icmp_le {x y off : Int} {tgt : Nat} (hd : decode M.2.1 pc = .ok (.if_icmp .le off, 3)) (ht : (pc : Int) + off = (tgt : Int)) (hx : rI x) (hy : rI y) (kt : x ≤ y → Z g l M tgt ls st h Q) (kf : ¬ (x ≤ y) → Z g l M (pc + 3) ls st h Q) : Z g l M pc ls (.int (iZ y) :: .int (iZ x) :: st) h Q := have e := Z.cast (iZ_le hx hy : _ ↔ x ≤ y) kt kf; z_icmp_le hd ht e.1 e.2
theorem lg_cmp_Z {x y : Int} (hx : rL x) (hy : rL y) : lg_cmp (lZ x) (lZ y) = iZ (if y < x then 1 else if x = y then 0 else -1) := by
  unfold lg_cmp
  simp only [gt_iff_lt, lZ_lt hy hx, lZ_eq hx hy]
  split
  · rfl
  · split <;> rfl
theorem c_lif_eq {x y off : Int} {tgt : Nat} (hd : decode M.2.1 pc = .ok (.lcmp, 1)) (hd2 : decode M.2.1 (pc + 1) = .ok (.ifCond .eq off, 3)) (ht : ((pc + 1 : Nat) : Int) + off = (tgt : Int)) (hx : rL x) (hy : rL y) (kt : x = y → Z g l M tgt ls st h Q) (kf : ¬ (x = y) → Z g l M (pc + 1 + 3) ls st h Q) : Z g l M pc ls (.long (lZ y) :: .long (lZ x) :: st) h Q := by
  refine z_lcmp hd ?_
  rw [lg_cmp_Z hx hy]
  refine c_if_eq hd2 ht (by split <;> (try split) <;> omega) (fun q => kt ?_) (fun q => kf ?_)
  · split at q <;> (try split at q) <;> omega
  · split at q <;> (try split at q) <;> omega
theorem c_lif_ne {x y off : Int} {tgt : Nat} (hd : decode M.2.1 pc = .ok (.lcmp, 1)) (hd2 : decode M.2.1 (pc + 1) = .ok (.ifCond .ne off, 3)) (ht : ((pc + 1 : Nat) : Int) + off = (tgt : Int)) (hx : rL x) (hy : rL y) (kt : ¬ x = y → Z g l M tgt ls st h Q) (kf : ¬ (¬ x = y) → Z g l M (pc + 1 + 3) ls st h Q) : Z g l M pc ls (.long (lZ y) :: .long (lZ x) :: st) h Q := by
  refine z_lcmp hd ?_
  rw [lg_cmp_Z hx hy]
  refine c_if_ne hd2 ht (by split <;> (try split) <;> omega) (fun q => kt ?_) (fun q => kf ?_)
  · split at q <;> (try split at q) <;> omega
  · split at q <;> (try split at q) <;> omega
theorem c_lif_lt {x y off : Int} {tgt : Nat} (hd : decode M.2.1 pc = .ok (.lcmp, 1)) (hd2 : decode M.2.1 (pc + 1) = .ok (.ifCond .lt off, 3)) (ht : ((pc + 1 : Nat) : Int) + off = (tgt : Int)) (hx : rL x) (hy : rL y) (kt : x < y → Z g l M tgt ls st h Q) (kf : ¬ (x < y) → Z g l M (pc + 1 + 3) ls st h Q) : Z g l M pc ls (.long (lZ y) :: .long (lZ x) :: st) h Q := by
  refine z_lcmp hd ?_
  rw [lg_cmp_Z hx hy]
  refine c_if_lt hd2 ht (by split <;> (try split) <;> omega) (fun q => kt ?_) (fun q => kf ?_)
  · split at q <;> (try split at q) <;> omega
  · split at q <;> (try split at q) <;> omega
theorem c_lif_ge {x y off : Int} {tgt : Nat} (hd : decode M.2.1 pc = .ok (.lcmp, 1)) (hd2 : decode M.2.1 (pc + 1) = .ok (.ifCond .ge off, 3)) (ht : ((pc + 1 : Nat) : Int) + off = (tgt : Int)) (hx : rL x) (hy : rL y) (kt : y ≤ x → Z g l M tgt ls st h Q) (kf : ¬ (y ≤ x) → Z g l M (pc + 1 + 3) ls st h Q) : Z g l M pc ls (.long (lZ y) :: .long (lZ x) :: st) h Q := by
  refine z_lcmp hd ?_
  rw [lg_cmp_Z hx hy]
  refine c_if_ge hd2 ht (by split <;> (try split) <;> omega) (fun q => kt ?_) (fun q => kf ?_)
  · split at q <;> (try split at q) <;> omega
  · split at q <;> (try split at q) <;> omega
theorem c_lif_gt {x y off : Int} {tgt : Nat} (hd : decode M.2.1 pc = .ok (.lcmp, 1)) (hd2 : decode M.2.1 (pc + 1) = .ok (.ifCond .gt off, 3)) (ht : ((pc + 1 : Nat) : Int) + off = (tgt : Int)) (hx : rL x) (hy : rL y) (kt : y < x → Z g l M tgt ls st h Q) (kf : ¬ (y < x) → Z g l M (pc + 1 + 3) ls st h Q) : Z g l M pc ls (.long (lZ y) :: .long (lZ x) :: st) h Q := by
  refine z_lcmp hd ?_
  rw [lg_cmp_Z hx hy]
  refine c_if_gt hd2 ht (by split <;> (try split) <;> omega) (fun q => kt ?_) (fun q => kf ?_)
  · split at q <;> (try split at q) <;> omega
  · split at q <;> (try split at q) <;> omega
theorem c_lif_le {x y off : Int} {tgt : Nat} (hd : decode M.2.1 pc = .ok (.lcmp, 1)) (hd2 : decode M.2.1 (pc + 1) = .ok (.ifCond .le off, 3)) (ht : ((pc + 1 : Nat) : Int) + off = (tgt : Int)) (hx : rL x) (hy : rL y) (kt : x ≤ y → Z g l M tgt ls st h Q) (kf : ¬ (x ≤ y) → Z g l M (pc + 1 + 3) ls st h Q) : Z g l M pc ls (.long (lZ y) :: .long (lZ x) :: st) h Q := by
  refine z_lcmp hd ?_
  rw [lg_cmp_Z hx hy]
  refine c_if_le hd2 ht (by split <;> (try split) <;> omega) (fun q => kt ?_) (fun q => kf ?_)
  · split at q <;> (try split at q) <;> omega
  · split at q <;> (try split at q) <;> omega
theorem c_getI {a ci kf index : Nat} (hd : decode M.2.1 pc = .ok (.getfield index, 3)) (hK : (K a).1 = 10 + ci) (hc : ci < 10) (hk : kf < zN ci) (hs : zsort (zty ci kf) = 0) (hw : Cond.fieldLink M.1.cls index (zTT ci kf).1 (zTT ci kf).2.1 (zTT ci kf).2.2.1 ∈ gw) (k : Z g l M (pc + 3) ls (.int (iZ (J a kf)) :: st) (K, zi J, zj P, R, n, s0) Q) : Z g l M pc ls (.ref a :: st) (K, zi J, zj P, R, n, s0) Q := z_getI hd hK hc hk hs hw k
theorem c_getL {a ci kf index : Nat} (hd : decode M.2.1 pc = .ok (.getfield index, 3)) (hK : (K a).1 = 10 + ci) (hc : ci < 10) (hk : kf < zN ci) (hs : zsort (zty ci kf) = 1) (hw : Cond.fieldLink M.1.cls index (zTT ci kf).1 (zTT ci kf).2.1 (zTT ci kf).2.2.1 ∈ gw) (k : Z g l M (pc + 3) ls (.long (lZ (P a kf)) :: st) (K, zi J, zj P, R, n, s0) Q) : Z g l M pc ls (.ref a :: st) (K, zi J, zj P, R, n, s0) Q := z_getL hd hK hc hk hs hw k
theorem c_putI {a ci kf index : Nat} {x : Int} (hd : decode M.2.1 pc = .ok (.putfield index, 3)) (hK : (K a).1 = 10 + ci) (hc : ci < 10) (hk : kf < zN ci) (hs : zty ci kf = .int) (hf : zfinok M ci kf = true) (hw : Cond.fieldLink M.1.cls index (zTT ci kf).1 (zTT ci kf).2.1 (zTT ci kf).2.2.1 ∈ gw) (k : Z g l M (pc + 3) ls st (K, zi (zup J a kf x), zj P, R, n, s0) Q) : Z g l M pc ls (.int (iZ x) :: .ref a :: st) (K, zi J, zj P, R, n, s0) Q := z_putI hd hK hc hk (by rw [hs]; rfl) hf (by rw [hs]; rfl) (by rw [hs]; rfl) hw (by rw [zup_zi]; exact k)
theorem c_putZ {a ci kf index : Nat} {x : Int} (hd : decode M.2.1 pc = .ok (.putfield index, 3)) (hK : (K a).1 = 10 + ci) (hc : ci < 10) (hk : kf < zN ci) (hs : zty ci kf = .boolean) (hf : zfinok M ci kf = true) (hx : x = 0 ∨ x = 1) (hw : Cond.fieldLink M.1.cls index (zTT ci kf).1 (zTT ci kf).2.1 (zTT ci kf).2.2.1 ∈ gw) (k : Z g l M (pc + 3) ls st (K, zi (zup J a kf x), zj P, R, n, s0) Q) : Z g l M pc ls (.int (iZ x) :: .ref a :: st) (K, zi J, zj P, R, n, s0) Q := z_putI hd hK hc hk (by rw [hs]; rfl) hf (by rw [hs]; rcases hx with rfl | rfl <;> rfl) (by rw [hs]; rcases hx with rfl | rfl <;> rfl) hw (by rw [zup_zi]; exact k)
theorem c_putL {a ci kf index : Nat} {x : Int} (hd : decode M.2.1 pc = .ok (.putfield index, 3)) (hK : (K a).1 = 10 + ci) (hc : ci < 10) (hk : kf < zN ci) (hs : zty ci kf = .long) (hf : zfinok M ci kf = true) (hw : Cond.fieldLink M.1.cls index (zTT ci kf).1 (zTT ci kf).2.1 (zTT ci kf).2.2.1 ∈ gw) (k : Z g l M (pc + 3) ls st (K, zi J, zj (zup P a kf x), R, n, s0) Q) : Z g l M pc ls (.long (lZ x) :: .ref a :: st) (K, zi J, zj P, R, n, s0) Q := z_putL hd hK hc hk (by rw [hs]; rfl) hf (by rw [hs]; rfl) (by rw [hs]; rfl) hw (by rw [zup_zj]; exact k)
theorem c_iald {a len : Nat} {j : Int} (hd : decode M.2.1 pc = .ok (.iaload, 1)) (hK : K a = (1, len)) (hj : 0 ≤ j ∧ j < (len : Int)) (hl : (len : Int) ≤ 2147483647) (k : Z g l M (pc + 1) ls (.int (iZ (J a j.toNat)) :: st) (K, zi J, zj P, R, n, s0) Q) : Z g l M pc ls (.int (iZ j) :: .ref a :: st) (K, zi J, zj P, R, n, s0) Q := have e := iZ_nn hl hj; z_iald hd hK e.1 (by rw [e.2]; exact k)
theorem c_bald {a len : Nat} {j : Int} (hd : decode M.2.1 pc = .ok (.baload, 1)) (hK : K a = (3, len)) (hj : 0 ≤ j ∧ j < (len : Int)) (hl : (len : Int) ≤ 2147483647) (k : Z g l M (pc + 1) ls (.int (iZ (J a j.toNat)) :: st) (K, zi J, zj P, R, n, s0) Q) : Z g l M pc ls (.int (iZ j) :: .ref a :: st) (K, zi J, zj P, R, n, s0) Q := have e := iZ_nn hl hj; z_bald hd hK e.1 (by rw [e.2]; exact k)
theorem c_lald {a len : Nat} {j : Int} (hd : decode M.2.1 pc = .ok (.laload, 1)) (hK : K a = (2, len)) (hj : 0 ≤ j ∧ j < (len : Int)) (hl : (len : Int) ≤ 2147483647) (k : Z g l M (pc + 1) ls (.long (lZ (P a j.toNat)) :: st) (K, zi J, zj P, R, n, s0) Q) : Z g l M pc ls (.int (iZ j) :: .ref a :: st) (K, zi J, zj P, R, n, s0) Q := have e := iZ_nn hl hj; z_lald hd hK e.1 (by rw [e.2]; exact k)
theorem c_aald {a len r : Nat} {j : Int} (hd : decode M.2.1 pc = .ok (.aaload, 1)) (hK : K a = (4, len) ∨ K a = (5, len)) (hj : 0 ≤ j ∧ j < (len : Int)) (hl : (len : Int) ≤ 2147483647) (hv : R a j.toNat = some r) (k : Z g l M (pc + 1) ls (.ref r :: st) (K, zi J, zj P, R, n, s0) Q) : Z g l M pc ls (.int (iZ j) :: .ref a :: st) (K, zi J, zj P, R, n, s0) Q := have e := iZ_nn hl hj; z_aald hd hK e.1 (by rw [e.2]; exact hv) k
theorem c_aaldN {a len : Nat} {j : Int} (hd : decode M.2.1 pc = .ok (.aaload, 1)) (hK : K a = (4, len) ∨ K a = (5, len)) (hj : 0 ≤ j ∧ j < (len : Int)) (hl : (len : Int) ≤ 2147483647) (hv : R a j.toNat = none) (k : Z g l M (pc + 1) ls (.null :: st) (K, zi J, zj P, R, n, s0) Q) : Z g l M pc ls (.int (iZ j) :: .ref a :: st) (K, zi J, zj P, R, n, s0) Q := have e := iZ_nn hl hj; z_aaldN hd hK e.1 (by rw [e.2]; exact hv) k
theorem c_iast {a len : Nat} {j x : Int} (hd : decode M.2.1 pc = .ok (.iastore, 1)) (hK : K a = (1, len)) (hj : 0 ≤ j ∧ j < (len : Int)) (hl : (len : Int) ≤ 2147483647) (k : Z g l M (pc + 1) ls st (K, zi (zup J a j.toNat x), zj P, R, n, s0) Q) : Z g l M pc ls (.int (iZ x) :: .int (iZ j) :: .ref a :: st) (K, zi J, zj P, R, n, s0) Q := have e := iZ_nn hl hj; z_iast hd hK e.1 (by rw [e.2, zup_zi]; exact k)
theorem c_bast {a len : Nat} {j x : Int} (hd : decode M.2.1 pc = .ok (.bastore, 1)) (hK : K a = (3, len)) (hj : 0 ≤ j ∧ j < (len : Int)) (hl : (len : Int) ≤ 2147483647) (k : Z g l M (pc + 1) ls st (K, zi (zup J a j.toNat (x.bmod 256)), zj P, R, n, s0) Q) : Z g l M pc ls (.int (iZ x) :: .int (iZ j) :: .ref a :: st) (K, zi J, zj P, R, n, s0) Q := have e := iZ_nn hl hj; z_bast hd hK e.1 (by rw [e.2, iZ_byte, zup_zi]; exact k)
theorem c_last {a len : Nat} {j x : Int} (hd : decode M.2.1 pc = .ok (.lastore, 1)) (hK : K a = (2, len)) (hj : 0 ≤ j ∧ j < (len : Int)) (hl : (len : Int) ≤ 2147483647) (k : Z g l M (pc + 1) ls st (K, zi J, zj (zup P a j.toNat x), R, n, s0) Q) : Z g l M pc ls (.long (lZ x) :: .int (iZ j) :: .ref a :: st) (K, zi J, zj P, R, n, s0) Q := have e := iZ_nn hl hj; z_last hd hK e.1 (by rw [e.2, zup_zj]; exact k)
theorem c_aast {a len r kd ci : Nat} {j : Int} (hd : decode M.2.1 pc = .ok (.aastore, 1)) (hK : K a = (kd, len)) (hkc : (kd = 4 ∧ ci = 3) ∨ (kd = 5 ∧ ci = 5)) (hj : 0 ≤ j ∧ j < (len : Int)) (hl : (len : Int) ≤ 2147483647) (hv : (K r).1 = 10 + ci) (k : Z g l M (pc + 1) ls st (K, zi J, zj P, zup R a j.toNat (some r), n, s0) Q) : Z g l M pc ls (.ref r :: .int (iZ j) :: .ref a :: st) (K, zi J, zj P, R, n, s0) Q := have e := iZ_nn hl hj; z_aast hd hK hkc e.1 hv (by rw [e.2]; exact k)
theorem c_aastN {a len : Nat} {j : Int} (hd : decode M.2.1 pc = .ok (.aastore, 1)) (hK : K a = (4, len)) (hj : 0 ≤ j ∧ j < (len : Int)) (hl : (len : Int) ≤ 2147483647) (k : Z g l M (pc + 1) ls st (K, zi J, zj P, zup R a j.toNat none, n, s0) Q) : Z g l M pc ls (.null :: .int (iZ j) :: .ref a :: st) (K, zi J, zj P, R, n, s0) Q := have e := iZ_nn hl hj; z_aastN hd hK e.1 (by rw [e.2]; exact k)
theorem c_alen {a len kd : Nat} (hd : decode M.2.1 pc = .ok (.arraylength, 1)) (hK : K a = (kd, len)) (hk : kd = 1 ∨ kd = 2 ∨ kd = 3) (k : Z g l M (pc + 1) ls (.int (iZ len) :: st) (K, zi J, zj P, R, n, s0) Q) : Z g l M pc ls (.ref a :: st) (K, zi J, zj P, R, n, s0) Q := z_alen hd hK hk (by rw [show Int32.ofNat len = iZ len from Int32.ofInt_eq_ofNat.symm]; exact k)
theorem c_iald_old {r len : Nat} {j : Int} {f : Nat → Int} (hd : decode M.2.1 pc = .ok (.iaload, 1)) (hr : r < 4) (hg : g.2.2.2.2 r = (len, fun j => iZ (f j))) (hj : 0 ≤ j ∧ j < (len : Int)) (hl : (len : Int) ≤ 2147483647) (k : Z g l M (pc + 1) ls (.int (iZ (f j.toNat)) :: st) h Q) : Z g l M pc ls (.int (iZ j) :: .ref r :: st) h Q := have e := iZ_nn hl hj; z_iald_old hd hr (by rw [hg]; exact e.1) (by rw [hg, e.2]; exact k)
theorem c_alen_old {r len : Nat} {f : Nat → Int} (hd : decode M.2.1 pc = .ok (.arraylength, 1)) (hr : r < 4) (hg : g.2.2.2.2 r = (len, fun j => iZ (f j))) (k : Z g l M (pc + 1) ls (.int (iZ len) :: st) h Q) : Z g l M pc ls (.ref r :: st) h Q := z_alen_old hd hr (by rw [hg, show Int32.ofNat len = iZ len from Int32.ofInt_eq_ofNat.symm]; exact k)
theorem c_newi {x : Int} (hd : decode M.2.1 pc = .ok (.newarray .int, 2)) (hw : Cond.arrayClass .int ∈ gw) (h0 : 0 ≤ x ∧ x ≤ 60000000) (k : Z g l M (pc + 2) ls (.ref n :: st) (zkp K n (1, x.toNat), zi (zupA J n (fun _ => 0)), zj P, R, n + 1, s0 + x.toNat) Q) : Z g l M pc ls (.int (iZ x) :: st) (K, zi J, zj P, R, n, s0) Q := have e := iZ_clamp (j := x) ⟨h0.1, by omega⟩; z_newi hd hw e.2 e.1 (by omega) (by rw [show zupA (zi J) n (fun _ => 0) = zi (zupA J n (fun _ => 0)) from zupA_zi (f := fun _ => 0)]; exact k)
theorem c_newb {x : Int} (hd : decode M.2.1 pc = .ok (.newarray .byte, 2)) (hw : Cond.arrayClass .byte ∈ gw) (h0 : 0 ≤ x ∧ x ≤ 60000000) (k : Z g l M (pc + 2) ls (.ref n :: st) (zkp K n (3, x.toNat), zi (zupA J n (fun _ => 0)), zj P, R, n + 1, s0 + x.toNat) Q) : Z g l M pc ls (.int (iZ x) :: st) (K, zi J, zj P, R, n, s0) Q := have e := iZ_clamp (j := x) ⟨h0.1, by omega⟩; z_newb hd hw e.2 e.1 (by omega) (by rw [show zupA (zi J) n (fun _ => 0) = zi (zupA J n (fun _ => 0)) from zupA_zi (f := fun _ => 0)]; exact k)
theorem c_newl {x : Int} (hd : decode M.2.1 pc = .ok (.newarray .long, 2)) (hw : Cond.arrayClass .long ∈ gw) (h0 : 0 ≤ x ∧ x ≤ 60000000) (k : Z g l M (pc + 2) ls (.ref n :: st) (zkp K n (2, x.toNat), zi J, zj (zupA P n (fun _ => 0)), R, n + 1, s0 + x.toNat) Q) : Z g l M pc ls (.int (iZ x) :: st) (K, zi J, zj P, R, n, s0) Q := have e := iZ_clamp (j := x) ⟨h0.1, by omega⟩; z_newl hd hw e.2 e.1 (by omega) (by rw [show zupA (zj P) n (fun _ => 0) = zj (zupA P n (fun _ => 0)) from zupA_zj (f := fun _ => 0)]; exact k)
theorem c_newq {index kd ci : Nat} {x : Int} (hd : decode M.2.1 pc = .ok (.anewarray index, 3)) (hkc : (kd = 4 ∧ ci = 3) ∨ (kd = 5 ∧ ci = 5)) (hw : Cond.classLink M.1.cls index (zRR ci) ∈ gw) (h0 : 0 ≤ x ∧ x ≤ 60000000) (k : Z g l M (pc + 3) ls (.ref n :: st) (zkp K n (kd, x.toNat), zi J, zj P, zupA R n (fun _ => none), n + 1, s0 + x.toNat) Q) : Z g l M pc ls (.int (iZ x) :: st) (K, zi J, zj P, R, n, s0) Q := have e := iZ_clamp (j := x) ⟨h0.1, by omega⟩; z_newq hd hkc hw e.2 e.1 (by omega) k
theorem c_new {index ci : Nat} (hd : decode M.2.1 pc = .ok (.new index, 3)) (hc : ci < 10) (hw : Cond.classLink M.1.cls index (zRR ci) ∈ gw) (hi : Cond.instantiable (zRR ci) (zN ci) ∈ gw) (hini : Cond.initialized (zRR ci) ∈ gw) (k : Z g l M (pc + 3) ls (.ref n :: st) (zkp K n (10 + ci, 0), zi (zupA J n (fun _ => 0)), zj (zupA P n (fun _ => 0)), zupA R n (fun _ => none), n + 1, s0 + zN ci) Q) : Z g l M pc ls st (K, zi J, zj P, R, n, s0) Q := z_new hd hc hw hi hini (by rw [show zupA (zi J) n (fun _ => 0) = zi (zupA J n (fun _ => 0)) from zupA_zi (f := fun _ => 0), show zupA (zj P) n (fun _ => 0) = zj (zupA P n (fun _ => 0)) from zupA_zj (f := fun _ => 0)]; exact k)
theorem va_cpy_zi {J : Nat → Nat → Int} {a b sp dp m : Nat} : va_cpy (zi J a) (zi J b) sp dp m = fun j => iZ (va_cpy (J a) (J b) sp dp m j) := by
  funext j; simp only [va_cpy, zi]; split <;> rfl
theorem c_copyi {a b la lb index : Nat} {sp dp m : Int} (hd : decode M.2.1 pc = .ok (.invokestatic index, 3)) (hl : Cond.methodLink M.1.cls index arraycopyName ∈ gw) (hnat : Cond.native arraycopyName ∈ gw) (hsta : Cond.static arraycopyName ∈ gw) (hini : Cond.initialized "java/lang/System" ∈ gw) (hKa : K a = (1, la)) (hKb : K b = (1, lb)) (h1 : 0 ≤ sp ∧ 0 ≤ dp ∧ 0 ≤ m) (h4 : sp + m ≤ la) (h5 : dp + m ≤ lb) (hla : (la : Int) ≤ 2147483647) (hlb : (lb : Int) ≤ 2147483647) (hfr : 1 ≤ M.2.2.2.2.1) (hlo : (st.map fun v => v.category).sum + (nativeFrameWords "java/lang/System" "arraycopy" 5 + 11) ≤ M.2.2.2.2.2)
    (k : Z g l M (pc + 3) ls st (K, zi (zupA J b (va_cpy (J a) (J b) sp.toNat dp.toNat m.toNat)), zj P, R, n, s0) Q) : Z g l M pc ls (.int (iZ m) :: .int (iZ dp) :: .ref b :: .int (iZ sp) :: .ref a :: st) (K, zi J, zj P, R, n, s0) Q := by
  have e1 := iZ_clamp (j := sp) ⟨h1.1, by omega⟩
  have e2 := iZ_clamp (j := dp) ⟨h1.2.1, by omega⟩
  have e3 := iZ_clamp (j := m) ⟨h1.2.2, by omega⟩
  refine z_copyi hd hl hnat hsta hini hKa hKb e1.2 e2.2 e3.2 (by rw [e1.1, e3.1]; omega) (by rw [e2.1, e3.1]; omega) hfr hlo ?_
  rw [e1.1, e2.1, e3.1, va_cpy_zi, zupA_zi]
  exact k
theorem c_clone {a len index : Nat} (hd : decode M.2.1 pc = .ok (.invokevirtual index, 3)) (hl : Cond.methodLink M.1.cls index ⟨"[I", "clone", "()Ljava/lang/Object;"⟩ ∈ gw) (hsm : Cond.sameMethod "[I" "java/lang/Object" "clone" "()Ljava/lang/Object;" ∈ gw) (hnat : Cond.native ⟨"java/lang/Object", "clone", "()Ljava/lang/Object;"⟩ ∈ gw) (hinst : Cond.instanceMethod ⟨"java/lang/Object", "clone", "()Ljava/lang/Object;"⟩ ∈ gw)
    (hsel : Cond.selects "[I" ⟨"[I", "clone", "()Ljava/lang/Object;"⟩ ⟨"java/lang/Object", "clone", "()Ljava/lang/Object;"⟩ ∈ gw) (hK : K a = (1, len)) (hfr : 1 ≤ M.2.2.2.2.1) (hlo : (st.map fun v => v.category).sum + 14 ≤ M.2.2.2.2.2)
    (k : Z g l M (pc + 3) ls (.ref n :: st) (zkp K n (1, len), zi (zupA J n (J a)), zj P, R, n + 1, s0 + len) Q) : Z g l M pc ls (.ref a :: st) (K, zi J, zj P, R, n, s0) Q := z_clone hd hl hsm hnat hinst hsel hK hfr hlo (by rw [show zupA (zi J) n (zi J a) = zi (zupA J n (J a)) from zupA_zi (f := J a)]; exact k)
theorem c_ireturn {x : Int} (hd : decode M.2.1 pc = .ok (.ireturn, 1)) (hr : M.2.2.2.1 = some .int) (hq : Q (some (.int (iZ x))) h) : Z g l M pc ls [.int (iZ x)] h Q := z_ireturn hd hr hq
theorem c_zreturn {x : Int} (hd : decode M.2.1 pc = .ok (.ireturn, 1)) (hr : M.2.2.2.1 = some .boolean) (hx : x = 0 ∨ x = 1) (hq : Q (some (.int (iZ x))) h) : Z g l M pc ls [.int (iZ x)] h Q := z_zreturn hd hr (by rcases hx with rfl | rfl <;> rfl) hq
end ZCan
/-- locals: what is asked for is there -/
def zsub : List (Option Value) → List (Option Value) → Prop
  | [], _ => True
  | none :: a, b => zsub a b.tail
  | some v :: a, b => b.head? = some (some v) ∧ zsub a b.tail
theorem zsub_get : ∀ (a b : List (Option Value)), zsub a b → ∀ (i : Nat) (v : Value), a[i]? = some (some v) → b[i]? = some (some v)
  | [], b, _, i, v, hv => by simp at hv
  | none :: a, b, hs, 0, v, hv => by simp at hv
  | none :: a, b, hs, i + 1, v, hv => by
    have := zsub_get a b.tail hs i v (by simpa using hv)
    cases b with
    | nil => simp at this
    | cons x b => simpa using this
  | some w :: a, b, hs, 0, v, hv => by
    simp at hv; subst hv
    cases b with
    | nil => simp [zsub] at hs
    | cons x b => simpa [zsub] using hs.1
  | some w :: a, b, hs, i + 1, v, hv => by
    have := zsub_get a b.tail hs.2 i v (by simpa using hv)
    cases b with
    | nil => simp at this
    | cons x b => simpa using this
theorem Z.fg {g : ZG} {l : Launch} {M : ZM} {pc : Nat} {ls ls' : List (Option Value)} {st : List Value} {h : ZH} {Q : Option Value → ZH → Prop} (hs : zsub ls' ls) (k : Z g l M pc ls' st h Q) : Z g l M pc ls st h Q := Z.forget k (zsub_get ls' ls hs)
end
section
theorem w_0 : (Jvm.Cond.initialized "EscalatedFormsLaw") ∈ gw := gw_in (List.mem_append_right _ (List.mem_of_getElem? (i := 0) (by decide +kernel))) rfl
theorem w_1 : (Jvm.Cond.initialized "EscalatedForms") ∈ gw := gw_in (List.mem_append_right _ (List.mem_of_getElem? (i := 1) (by decide +kernel))) rfl
theorem w_2 : (Jvm.Cond.initialized "EscalatedForms$Tree") ∈ gw := gw_in (List.mem_append_right _ (List.mem_of_getElem? (i := 2) (by decide +kernel))) rfl
theorem w_3 : (Jvm.Cond.initialized "EscalatedForms$Sheet") ∈ gw := gw_in (List.mem_append_right _ (List.mem_of_getElem? (i := 3) (by decide +kernel))) rfl
theorem w_4 : (Jvm.Cond.initialized "EscalatedForms$Draft") ∈ gw := gw_in (List.mem_append_right _ (List.mem_of_getElem? (i := 4) (by decide +kernel))) rfl
theorem w_5 : (Jvm.Cond.initialized "EscalatedForms$Ellipsoid") ∈ gw := gw_in (List.mem_append_right _ (List.mem_of_getElem? (i := 5) (by decide +kernel))) rfl
theorem w_6 : (Jvm.Cond.initialized "EscalatedForms$Remainders") ∈ gw := gw_in (List.mem_append_right _ (List.mem_of_getElem? (i := 6) (by decide +kernel))) rfl
theorem w_7 : (Jvm.Cond.initialized "EscalatedForms$Brood") ∈ gw := gw_in (List.mem_append_right _ (List.mem_of_getElem? (i := 7) (by decide +kernel))) rfl
theorem w_8 : (Jvm.Cond.initialized "EscalatedFormsModel") ∈ gw := gw_in (List.mem_append_right _ (List.mem_of_getElem? (i := 8) (by decide +kernel))) rfl
theorem w_9 : (Jvm.Cond.initialized "java/util/Arrays") ∈ gw := gw_in (List.mem_append_right _ (List.mem_of_getElem? (i := 9) (by decide +kernel))) rfl
theorem w_10 : (Jvm.Cond.initialized "EscalatedForms$Form") ∈ gw := gw_in (List.mem_append_right _ (List.mem_of_getElem? (i := 10) (by decide +kernel))) rfl
theorem w_11 : (Jvm.Cond.initialized "java/lang/System") ∈ gw := gw_in (List.mem_append_right _ (List.mem_of_getElem? (i := 11) (by decide +kernel))) rfl
theorem w_12 : (Jvm.Cond.initialized "java/lang/Math") ∈ gw := gw_in (List.mem_append_right _ (List.mem_of_getElem? (i := 12) (by decide +kernel))) rfl
theorem w_13 : (Jvm.Cond.initialized "EscalatedForms$Taken") ∈ gw := gw_in (List.mem_append_right _ (List.mem_of_getElem? (i := 13) (by decide +kernel))) rfl
theorem w_14 : (Jvm.Cond.classLink "EscalatedFormsLaw" (7 : Nat) "EscalatedForms") ∈ gw := gw_in (List.mem_append_right _ (List.mem_of_getElem? (i := 14) (by decide +kernel))) rfl
theorem w_15 : (Jvm.Cond.instantiable "EscalatedForms" (10 : Nat)) ∈ gw := gw_in (List.mem_append_right _ (List.mem_of_getElem? (i := 15) (by decide +kernel))) rfl
theorem w_16 : (Jvm.Cond.methodLink "EscalatedFormsLaw" (9 : Nat) ({ cls := "EscalatedForms", name := "<init>", desc := "()V" } : Jvm.MethodName)) ∈ gw := gw_in (List.mem_append_right _ (List.mem_of_getElem? (i := 16) (by decide +kernel))) rfl
theorem w_17 : (Jvm.Cond.instanceMethod ({ cls := "EscalatedForms", name := "<init>", desc := "()V" } : Jvm.MethodName)) ∈ gw := gw_in (List.mem_append_right _ (List.mem_of_getElem? (i := 17) (by decide +kernel))) rfl
theorem w_18 : (Jvm.Cond.code ({ cls := "EscalatedForms", name := "<init>", desc := "()V" } : Jvm.MethodName) prog_1_method_1_code (2 : Nat) (Option.none : Option Jvm.ClassFile.FieldType)) ∈ gw := gw_in (List.mem_append_right _ (List.mem_of_getElem? (i := 18) (by decide +kernel))) rfl
theorem w_19 : (Jvm.Cond.methodLink "EscalatedForms" (3 : Nat) ({ cls := "java/lang/Object", name := "<init>", desc := "()V" } : Jvm.MethodName)) ∈ gw := gw_in (List.mem_append_right _ (List.mem_of_getElem? (i := 19) (by decide +kernel))) rfl
theorem w_20 : (Jvm.Cond.instanceMethod ({ cls := "java/lang/Object", name := "<init>", desc := "()V" } : Jvm.MethodName)) ∈ gw := gw_in (List.mem_append_right _ (List.mem_of_getElem? (i := 20) (by decide +kernel))) rfl
theorem w_21 : (Jvm.Cond.code ({ cls := "java/lang/Object", name := "<init>", desc := "()V" } : Jvm.MethodName) object_method_1_code (1 : Nat) (Option.none : Option Jvm.ClassFile.FieldType)) ∈ gw := gw_in (List.mem_append_right _ (List.mem_of_getElem? (i := 21) (by decide +kernel))) rfl
theorem w_22 : (Jvm.Cond.classLink "EscalatedForms" (11 : Nat) "EscalatedForms$Form") ∈ gw := gw_in (List.mem_append_right _ (List.mem_of_getElem? (i := 22) (by decide +kernel))) rfl
theorem w_24 : (Jvm.Cond.classLink "EscalatedForms" (20 : Nat) "EscalatedForms$Tree") ∈ gw := gw_in (List.mem_append_right _ (List.mem_of_getElem? (i := 24) (by decide +kernel))) rfl
theorem w_25 : (Jvm.Cond.instantiable "EscalatedForms$Tree" (5 : Nat)) ∈ gw := gw_in (List.mem_append_right _ (List.mem_of_getElem? (i := 25) (by decide +kernel))) rfl
theorem w_27 : (Jvm.Cond.instanceMethod ({ cls := "EscalatedForms$Tree", name := "<init>", desc := "()V" } : Jvm.MethodName)) ∈ gw := gw_in (List.mem_append_right _ (List.mem_of_getElem? (i := 27) (by decide +kernel))) rfl
theorem w_28 : (Jvm.Cond.code ({ cls := "EscalatedForms$Tree", name := "<init>", desc := "()V" } : Jvm.MethodName) prog_9_method_1_code (1 : Nat) (Option.none : Option Jvm.ClassFile.FieldType)) ∈ gw := gw_in (List.mem_append_right _ (List.mem_of_getElem? (i := 28) (by decide +kernel))) rfl
theorem w_29 : (Jvm.Cond.methodLink "EscalatedForms$Tree" (3 : Nat) ({ cls := "java/lang/Object", name := "<init>", desc := "()V" } : Jvm.MethodName)) ∈ gw := gw_in (List.mem_append_right _ (List.mem_of_getElem? (i := 29) (by decide +kernel))) rfl
theorem w_30 : (Jvm.Cond.classLink "EscalatedForms$Tree" (9 : Nat) "EscalatedForms$Form") ∈ gw := gw_in (List.mem_append_right _ (List.mem_of_getElem? (i := 30) (by decide +kernel))) rfl
theorem w_31 : (Jvm.Cond.fieldLink "EscalatedForms$Tree" (27 : Nat) "EscalatedForms$Tree" "size" "I") ∈ gw := gw_in (List.mem_append_right _ (List.mem_of_getElem? (i := 31) (by decide +kernel))) rfl
theorem w_32 : (Jvm.Cond.fieldLink "EscalatedForms" (239 : Nat) "EscalatedForms$Tree" "size" "I") ∈ gw := gw_in (List.mem_append_right _ (List.mem_of_getElem? (i := 32) (by decide +kernel))) rfl
theorem w_33 : (Jvm.Cond.fieldLink "EscalatedForms$Tree" (11 : Nat) "EscalatedForms$Tree" "forms" "[LEscalatedForms$Form;") ∈ gw := gw_in (List.mem_append_right _ (List.mem_of_getElem? (i := 33) (by decide +kernel))) rfl
theorem w_34 : (Jvm.Cond.fieldLink "EscalatedForms" (250 : Nat) "EscalatedForms$Tree" "forms" "[LEscalatedForms$Form;") ∈ gw := gw_in (List.mem_append_right _ (List.mem_of_getElem? (i := 34) (by decide +kernel))) rfl
theorem w_35 : (Jvm.Cond.fieldLink "EscalatedForms$Tree" (17 : Nat) "EscalatedForms$Tree" "above" "[I") ∈ gw := gw_in (List.mem_append_right _ (List.mem_of_getElem? (i := 35) (by decide +kernel))) rfl
theorem w_36 : (Jvm.Cond.fieldLink "EscalatedForms" (259 : Nat) "EscalatedForms$Tree" "above" "[I") ∈ gw := gw_in (List.mem_append_right _ (List.mem_of_getElem? (i := 36) (by decide +kernel))) rfl
theorem w_37 : (Jvm.Cond.fieldLink "EscalatedForms$Tree" (21 : Nat) "EscalatedForms$Tree" "which" "[I") ∈ gw := gw_in (List.mem_append_right _ (List.mem_of_getElem? (i := 37) (by decide +kernel))) rfl
theorem w_38 : (Jvm.Cond.fieldLink "EscalatedForms" (274 : Nat) "EscalatedForms$Tree" "which" "[I") ∈ gw := gw_in (List.mem_append_right _ (List.mem_of_getElem? (i := 38) (by decide +kernel))) rfl
theorem w_39 : (Jvm.Cond.fieldLink "EscalatedForms$Tree" (24 : Nat) "EscalatedForms$Tree" "heights" "[I") ∈ gw := gw_in (List.mem_append_right _ (List.mem_of_getElem? (i := 39) (by decide +kernel))) rfl
theorem w_51 : (Jvm.Cond.arrayClass Jvm.ClassFile.FieldType.int) ∈ gw := gw_in (List.mem_append_right _ (List.mem_of_getElem? (i := 51) (by decide +kernel))) rfl
theorem w_52 : (Jvm.Cond.classLink "EscalatedForms" (34 : Nat) "EscalatedForms$Sheet") ∈ gw := gw_in (List.mem_append_right _ (List.mem_of_getElem? (i := 52) (by decide +kernel))) rfl
theorem w_54 : (Jvm.Cond.instantiable "EscalatedForms$Sheet" (3 : Nat)) ∈ gw := gw_in (List.mem_append_right _ (List.mem_of_getElem? (i := 54) (by decide +kernel))) rfl
theorem w_56 : (Jvm.Cond.instanceMethod ({ cls := "EscalatedForms$Sheet", name := "<init>", desc := "()V" } : Jvm.MethodName)) ∈ gw := gw_in (List.mem_append_right _ (List.mem_of_getElem? (i := 56) (by decide +kernel))) rfl
theorem w_57 : (Jvm.Cond.code ({ cls := "EscalatedForms$Sheet", name := "<init>", desc := "()V" } : Jvm.MethodName) prog_7_method_1_code (1 : Nat) (Option.none : Option Jvm.ClassFile.FieldType)) ∈ gw := gw_in (List.mem_append_right _ (List.mem_of_getElem? (i := 57) (by decide +kernel))) rfl
theorem w_58 : (Jvm.Cond.methodLink "EscalatedForms$Sheet" (3 : Nat) ({ cls := "java/lang/Object", name := "<init>", desc := "()V" } : Jvm.MethodName)) ∈ gw := gw_in (List.mem_append_right _ (List.mem_of_getElem? (i := 58) (by decide +kernel))) rfl
theorem w_59 : (Jvm.Cond.fieldLink "EscalatedForms$Sheet" (11 : Nat) "EscalatedForms$Sheet" "sort" "I") ∈ gw := gw_in (List.mem_append_right _ (List.mem_of_getElem? (i := 59) (by decide +kernel))) rfl
theorem w_60 : (Jvm.Cond.fieldLink "EscalatedForms" (288 : Nat) "EscalatedForms$Sheet" "sort" "I") ∈ gw := gw_in (List.mem_append_right _ (List.mem_of_getElem? (i := 60) (by decide +kernel))) rfl
theorem w_61 : (Jvm.Cond.fieldLink "EscalatedForms$Sheet" (19 : Nat) "EscalatedForms$Sheet" "size" "I") ∈ gw := gw_in (List.mem_append_right _ (List.mem_of_getElem? (i := 61) (by decide +kernel))) rfl
theorem w_62 : (Jvm.Cond.fieldLink "EscalatedForms$Sheet" (15 : Nat) "EscalatedForms$Sheet" "numbers" "[I") ∈ gw := gw_in (List.mem_append_right _ (List.mem_of_getElem? (i := 62) (by decide +kernel))) rfl
theorem w_63 : (Jvm.Cond.fieldLink "EscalatedForms" (103 : Nat) "EscalatedForms$Sheet" "numbers" "[I") ∈ gw := gw_in (List.mem_append_right _ (List.mem_of_getElem? (i := 63) (by decide +kernel))) rfl
theorem w_71 : (Jvm.Cond.classLink "EscalatedForms" (41 : Nat) "EscalatedForms$Draft") ∈ gw := gw_in (List.mem_append_right _ (List.mem_of_getElem? (i := 71) (by decide +kernel))) rfl
theorem w_72 : (Jvm.Cond.instantiable "EscalatedForms$Draft" (6 : Nat)) ∈ gw := gw_in (List.mem_append_right _ (List.mem_of_getElem? (i := 72) (by decide +kernel))) rfl
theorem w_74 : (Jvm.Cond.instanceMethod ({ cls := "EscalatedForms$Draft", name := "<init>", desc := "()V" } : Jvm.MethodName)) ∈ gw := gw_in (List.mem_append_right _ (List.mem_of_getElem? (i := 74) (by decide +kernel))) rfl
theorem w_75 : (Jvm.Cond.code ({ cls := "EscalatedForms$Draft", name := "<init>", desc := "()V" } : Jvm.MethodName) prog_3_method_1_code (1 : Nat) (Option.none : Option Jvm.ClassFile.FieldType)) ∈ gw := gw_in (List.mem_append_right _ (List.mem_of_getElem? (i := 75) (by decide +kernel))) rfl
theorem w_76 : (Jvm.Cond.methodLink "EscalatedForms$Draft" (3 : Nat) ({ cls := "java/lang/Object", name := "<init>", desc := "()V" } : Jvm.MethodName)) ∈ gw := gw_in (List.mem_append_right _ (List.mem_of_getElem? (i := 76) (by decide +kernel))) rfl
theorem w_77 : (Jvm.Cond.fieldLink "EscalatedForms$Form" (9 : Nat) "EscalatedForms$Draft" "letters" "I") ∈ gw := gw_in (List.mem_append_right _ (List.mem_of_getElem? (i := 77) (by decide +kernel))) rfl
theorem w_78 : (Jvm.Cond.fieldLink "EscalatedForms$Draft" (22 : Nat) "EscalatedForms$Draft" "letters" "I") ∈ gw := gw_in (List.mem_append_right _ (List.mem_of_getElem? (i := 78) (by decide +kernel))) rfl
theorem w_79 : (Jvm.Cond.fieldLink "EscalatedForms$Brood" (43 : Nat) "EscalatedForms$Draft" "letters" "I") ∈ gw := gw_in (List.mem_append_right _ (List.mem_of_getElem? (i := 79) (by decide +kernel))) rfl
theorem w_80 : (Jvm.Cond.fieldLink "EscalatedForms" (336 : Nat) "EscalatedForms$Draft" "letters" "I") ∈ gw := gw_in (List.mem_append_right _ (List.mem_of_getElem? (i := 80) (by decide +kernel))) rfl
theorem w_81 : (Jvm.Cond.fieldLink "EscalatedForms$Draft" (9 : Nat) "EscalatedForms$Draft" "entries" "[I") ∈ gw := gw_in (List.mem_append_right _ (List.mem_of_getElem? (i := 81) (by decide +kernel))) rfl
theorem w_82 : (Jvm.Cond.fieldLink "EscalatedForms$Form" (18 : Nat) "EscalatedForms$Draft" "entries" "[I") ∈ gw := gw_in (List.mem_append_right _ (List.mem_of_getElem? (i := 82) (by decide +kernel))) rfl
theorem w_83 : (Jvm.Cond.fieldLink "EscalatedForms" (337 : Nat) "EscalatedForms$Draft" "entries" "[I") ∈ gw := gw_in (List.mem_append_right _ (List.mem_of_getElem? (i := 83) (by decide +kernel))) rfl
theorem w_84 : (Jvm.Cond.fieldLink "EscalatedForms$Form" (28 : Nat) "EscalatedForms$Draft" "det" "I") ∈ gw := gw_in (List.mem_append_right _ (List.mem_of_getElem? (i := 84) (by decide +kernel))) rfl
theorem w_85 : (Jvm.Cond.fieldLink "EscalatedForms" (84 : Nat) "EscalatedForms$Draft" "det" "I") ∈ gw := gw_in (List.mem_append_right _ (List.mem_of_getElem? (i := 85) (by decide +kernel))) rfl
theorem w_86 : (Jvm.Cond.fieldLink "EscalatedForms$Draft" (77 : Nat) "EscalatedForms$Draft" "det" "I") ∈ gw := gw_in (List.mem_append_right _ (List.mem_of_getElem? (i := 86) (by decide +kernel))) rfl
theorem w_87 : (Jvm.Cond.fieldLink "EscalatedForms$Form" (32 : Nat) "EscalatedForms$Draft" "box" "I") ∈ gw := gw_in (List.mem_append_right _ (List.mem_of_getElem? (i := 87) (by decide +kernel))) rfl
theorem w_88 : (Jvm.Cond.fieldLink "EscalatedForms$Draft" (80 : Nat) "EscalatedForms$Draft" "box" "I") ∈ gw := gw_in (List.mem_append_right _ (List.mem_of_getElem? (i := 88) (by decide +kernel))) rfl
theorem w_89 : (Jvm.Cond.fieldLink "EscalatedForms$Draft" (15 : Nat) "EscalatedForms$Draft" "work" "[J") ∈ gw := gw_in (List.mem_append_right _ (List.mem_of_getElem? (i := 89) (by decide +kernel))) rfl
theorem w_90 : (Jvm.Cond.fieldLink "EscalatedForms$Draft" (19 : Nat) "EscalatedForms$Draft" "chosen" "[I") ∈ gw := gw_in (List.mem_append_right _ (List.mem_of_getElem? (i := 90) (by decide +kernel))) rfl
theorem w_104 : (Jvm.Cond.arrayClass Jvm.ClassFile.FieldType.long) ∈ gw := gw_in (List.mem_append_right _ (List.mem_of_getElem? (i := 104) (by decide +kernel))) rfl
theorem w_105 : (Jvm.Cond.classLink "EscalatedForms" (48 : Nat) "EscalatedForms$Ellipsoid") ∈ gw := gw_in (List.mem_append_right _ (List.mem_of_getElem? (i := 105) (by decide +kernel))) rfl
theorem w_106 : (Jvm.Cond.instantiable "EscalatedForms$Ellipsoid" (11 : Nat)) ∈ gw := gw_in (List.mem_append_right _ (List.mem_of_getElem? (i := 106) (by decide +kernel))) rfl
theorem w_108 : (Jvm.Cond.instanceMethod ({ cls := "EscalatedForms$Ellipsoid", name := "<init>", desc := "()V" } : Jvm.MethodName)) ∈ gw := gw_in (List.mem_append_right _ (List.mem_of_getElem? (i := 108) (by decide +kernel))) rfl
theorem w_109 : (Jvm.Cond.code ({ cls := "EscalatedForms$Ellipsoid", name := "<init>", desc := "()V" } : Jvm.MethodName) prog_4_method_1_code (1 : Nat) (Option.none : Option Jvm.ClassFile.FieldType)) ∈ gw := gw_in (List.mem_append_right _ (List.mem_of_getElem? (i := 109) (by decide +kernel))) rfl
theorem w_110 : (Jvm.Cond.methodLink "EscalatedForms$Ellipsoid" (3 : Nat) ({ cls := "java/lang/Object", name := "<init>", desc := "()V" } : Jvm.MethodName)) ∈ gw := gw_in (List.mem_append_right _ (List.mem_of_getElem? (i := 110) (by decide +kernel))) rfl
theorem w_111 : (Jvm.Cond.fieldLink "EscalatedForms$Ellipsoid" (31 : Nat) "EscalatedForms$Ellipsoid" "letters" "I") ∈ gw := gw_in (List.mem_append_right _ (List.mem_of_getElem? (i := 111) (by decide +kernel))) rfl
theorem w_112 : (Jvm.Cond.fieldLink "EscalatedForms$Ellipsoid" (68 : Nat) "EscalatedForms$Ellipsoid" "level" "I") ∈ gw := gw_in (List.mem_append_right _ (List.mem_of_getElem? (i := 112) (by decide +kernel))) rfl
theorem w_113 : (Jvm.Cond.fieldLink "EscalatedForms$Ellipsoid" (35 : Nat) "EscalatedForms$Ellipsoid" "limit" "I") ∈ gw := gw_in (List.mem_append_right _ (List.mem_of_getElem? (i := 113) (by decide +kernel))) rfl
theorem w_114 : (Jvm.Cond.fieldLink "EscalatedForms$Ellipsoid" (38 : Nat) "EscalatedForms$Ellipsoid" "isHalf" "Z") ∈ gw := gw_in (List.mem_append_right _ (List.mem_of_getElem? (i := 114) (by decide +kernel))) rfl
theorem w_115 : (Jvm.Cond.fieldLink "EscalatedForms$Ellipsoid" (42 : Nat) "EscalatedForms$Ellipsoid" "strict" "I") ∈ gw := gw_in (List.mem_append_right _ (List.mem_of_getElem? (i := 115) (by decide +kernel))) rfl
theorem w_116 : (Jvm.Cond.fieldLink "EscalatedForms$Ellipsoid" (9 : Nat) "EscalatedForms$Ellipsoid" "slopes" "[J") ∈ gw := gw_in (List.mem_append_right _ (List.mem_of_getElem? (i := 116) (by decide +kernel))) rfl
theorem w_117 : (Jvm.Cond.fieldLink "EscalatedForms$Ellipsoid" (15 : Nat) "EscalatedForms$Ellipsoid" "outer" "[J") ∈ gw := gw_in (List.mem_append_right _ (List.mem_of_getElem? (i := 117) (by decide +kernel))) rfl
theorem w_118 : (Jvm.Cond.fieldLink "EscalatedForms$Ellipsoid" (18 : Nat) "EscalatedForms$Ellipsoid" "left" "[J") ∈ gw := gw_in (List.mem_append_right _ (List.mem_of_getElem? (i := 118) (by decide +kernel))) rfl
theorem w_119 : (Jvm.Cond.fieldLink "EscalatedForms$Ellipsoid" (21 : Nat) "EscalatedForms$Ellipsoid" "shift" "[J") ∈ gw := gw_in (List.mem_append_right _ (List.mem_of_getElem? (i := 119) (by decide +kernel))) rfl
theorem w_120 : (Jvm.Cond.fieldLink "EscalatedForms$Ellipsoid" (24 : Nat) "EscalatedForms$Ellipsoid" "x" "[I") ∈ gw := gw_in (List.mem_append_right _ (List.mem_of_getElem? (i := 120) (by decide +kernel))) rfl
theorem w_121 : (Jvm.Cond.fieldLink "EscalatedForms$Taken" (42 : Nat) "EscalatedForms$Ellipsoid" "x" "[I") ∈ gw := gw_in (List.mem_append_right _ (List.mem_of_getElem? (i := 121) (by decide +kernel))) rfl
theorem w_122 : (Jvm.Cond.fieldLink "EscalatedForms$Brood" (53 : Nat) "EscalatedForms$Ellipsoid" "x" "[I") ∈ gw := gw_in (List.mem_append_right _ (List.mem_of_getElem? (i := 122) (by decide +kernel))) rfl
theorem w_123 : (Jvm.Cond.fieldLink "EscalatedForms$Ellipsoid" (28 : Nat) "EscalatedForms$Ellipsoid" "low" "[I") ∈ gw := gw_in (List.mem_append_right _ (List.mem_of_getElem? (i := 123) (by decide +kernel))) rfl
theorem w_147 : (Jvm.Cond.classLink "EscalatedForms" (55 : Nat) "EscalatedForms$Remainders") ∈ gw := gw_in (List.mem_append_right _ (List.mem_of_getElem? (i := 147) (by decide +kernel))) rfl
theorem w_148 : (Jvm.Cond.instantiable "EscalatedForms$Remainders" (2 : Nat)) ∈ gw := gw_in (List.mem_append_right _ (List.mem_of_getElem? (i := 148) (by decide +kernel))) rfl
theorem w_150 : (Jvm.Cond.instanceMethod ({ cls := "EscalatedForms$Remainders", name := "<init>", desc := "()V" } : Jvm.MethodName)) ∈ gw := gw_in (List.mem_append_right _ (List.mem_of_getElem? (i := 150) (by decide +kernel))) rfl
theorem w_151 : (Jvm.Cond.code ({ cls := "EscalatedForms$Remainders", name := "<init>", desc := "()V" } : Jvm.MethodName) prog_6_method_1_code (1 : Nat) (Option.none : Option Jvm.ClassFile.FieldType)) ∈ gw := gw_in (List.mem_append_right _ (List.mem_of_getElem? (i := 151) (by decide +kernel))) rfl
theorem w_152 : (Jvm.Cond.methodLink "EscalatedForms$Remainders" (3 : Nat) ({ cls := "java/lang/Object", name := "<init>", desc := "()V" } : Jvm.MethodName)) ∈ gw := gw_in (List.mem_append_right _ (List.mem_of_getElem? (i := 152) (by decide +kernel))) rfl
theorem w_153 : (Jvm.Cond.fieldLink "EscalatedForms$Remainders" (9 : Nat) "EscalatedForms$Remainders" "x" "[I") ∈ gw := gw_in (List.mem_append_right _ (List.mem_of_getElem? (i := 153) (by decide +kernel))) rfl
theorem w_154 : (Jvm.Cond.fieldLink "EscalatedForms$Remainders" (15 : Nat) "EscalatedForms$Remainders" "seen" "[B") ∈ gw := gw_in (List.mem_append_right _ (List.mem_of_getElem? (i := 154) (by decide +kernel))) rfl
theorem w_160 : (Jvm.Cond.arrayClass Jvm.ClassFile.FieldType.byte) ∈ gw := gw_in (List.mem_append_right _ (List.mem_of_getElem? (i := 160) (by decide +kernel))) rfl
theorem w_161 : (Jvm.Cond.classLink "EscalatedForms" (62 : Nat) "EscalatedForms$Brood") ∈ gw := gw_in (List.mem_append_right _ (List.mem_of_getElem? (i := 161) (by decide +kernel))) rfl
theorem w_162 : (Jvm.Cond.instantiable "EscalatedForms$Brood" (4 : Nat)) ∈ gw := gw_in (List.mem_append_right _ (List.mem_of_getElem? (i := 162) (by decide +kernel))) rfl
theorem w_164 : (Jvm.Cond.instanceMethod ({ cls := "EscalatedForms$Brood", name := "<init>", desc := "()V" } : Jvm.MethodName)) ∈ gw := gw_in (List.mem_append_right _ (List.mem_of_getElem? (i := 164) (by decide +kernel))) rfl
theorem w_165 : (Jvm.Cond.code ({ cls := "EscalatedForms$Brood", name := "<init>", desc := "()V" } : Jvm.MethodName) prog_2_method_1_code (1 : Nat) (Option.none : Option Jvm.ClassFile.FieldType)) ∈ gw := gw_in (List.mem_append_right _ (List.mem_of_getElem? (i := 165) (by decide +kernel))) rfl
theorem w_166 : (Jvm.Cond.methodLink "EscalatedForms$Brood" (3 : Nat) ({ cls := "java/lang/Object", name := "<init>", desc := "()V" } : Jvm.MethodName)) ∈ gw := gw_in (List.mem_append_right _ (List.mem_of_getElem? (i := 166) (by decide +kernel))) rfl
theorem w_167 : (Jvm.Cond.fieldLink "EscalatedForms$Brood" (15 : Nat) "EscalatedForms$Brood" "parent" "LEscalatedForms$Form;") ∈ gw := gw_in (List.mem_append_right _ (List.mem_of_getElem? (i := 167) (by decide +kernel))) rfl
theorem w_168 : (Jvm.Cond.fieldLink "EscalatedForms" (328 : Nat) "EscalatedForms$Brood" "parent" "LEscalatedForms$Form;") ∈ gw := gw_in (List.mem_append_right _ (List.mem_of_getElem? (i := 168) (by decide +kernel))) rfl
theorem w_169 : (Jvm.Cond.fieldLink "EscalatedForms$Brood" (23 : Nat) "EscalatedForms$Brood" "size" "I") ∈ gw := gw_in (List.mem_append_right _ (List.mem_of_getElem? (i := 169) (by decide +kernel))) rfl
theorem w_170 : (Jvm.Cond.fieldLink "EscalatedForms" (222 : Nat) "EscalatedForms$Brood" "size" "I") ∈ gw := gw_in (List.mem_append_right _ (List.mem_of_getElem? (i := 170) (by decide +kernel))) rfl
theorem w_171 : (Jvm.Cond.fieldLink "EscalatedForms$Brood" (19 : Nat) "EscalatedForms$Brood" "square" "I") ∈ gw := gw_in (List.mem_append_right _ (List.mem_of_getElem? (i := 171) (by decide +kernel))) rfl
theorem w_172 : (Jvm.Cond.fieldLink "EscalatedForms$Brood" (9 : Nat) "EscalatedForms$Brood" "rows" "[I") ∈ gw := gw_in (List.mem_append_right _ (List.mem_of_getElem? (i := 172) (by decide +kernel))) rfl
theorem w_182 : (Jvm.Cond.fieldLink "EscalatedForms" (13 : Nat) "EscalatedForms" "slots" "[LEscalatedForms$Form;") ∈ gw := gw_in (List.mem_append_right _ (List.mem_of_getElem? (i := 182) (by decide +kernel))) rfl
theorem w_183 : (Jvm.Cond.fieldLink "EscalatedForms" (17 : Nat) "EscalatedForms" "keptSlots" "[LEscalatedForms$Form;") ∈ gw := gw_in (List.mem_append_right _ (List.mem_of_getElem? (i := 183) (by decide +kernel))) rfl
theorem w_184 : (Jvm.Cond.fieldLink "EscalatedForms" (23 : Nat) "EscalatedForms" "tree" "LEscalatedForms$Tree;") ∈ gw := gw_in (List.mem_append_right _ (List.mem_of_getElem? (i := 184) (by decide +kernel))) rfl
theorem w_185 : (Jvm.Cond.fieldLink "EscalatedForms" (27 : Nat) "EscalatedForms" "keptTree" "LEscalatedForms$Tree;") ∈ gw := gw_in (List.mem_append_right _ (List.mem_of_getElem? (i := 185) (by decide +kernel))) rfl
theorem w_186 : (Jvm.Cond.fieldLink "EscalatedForms" (30 : Nat) "EscalatedForms" "isKept" "Z") ∈ gw := gw_in (List.mem_append_right _ (List.mem_of_getElem? (i := 186) (by decide +kernel))) rfl
theorem w_187 : (Jvm.Cond.fieldLink "EscalatedForms" (36 : Nat) "EscalatedForms" "sheets" "[LEscalatedForms$Sheet;") ∈ gw := gw_in (List.mem_append_right _ (List.mem_of_getElem? (i := 187) (by decide +kernel))) rfl
theorem w_188 : (Jvm.Cond.fieldLink "EscalatedForms" (44 : Nat) "EscalatedForms" "draft" "LEscalatedForms$Draft;") ∈ gw := gw_in (List.mem_append_right _ (List.mem_of_getElem? (i := 188) (by decide +kernel))) rfl
theorem w_189 : (Jvm.Cond.fieldLink "EscalatedForms" (51 : Nat) "EscalatedForms" "ellipsoid" "LEscalatedForms$Ellipsoid;") ∈ gw := gw_in (List.mem_append_right _ (List.mem_of_getElem? (i := 189) (by decide +kernel))) rfl
theorem w_190 : (Jvm.Cond.fieldLink "EscalatedForms" (58 : Nat) "EscalatedForms" "remainders" "LEscalatedForms$Remainders;") ∈ gw := gw_in (List.mem_append_right _ (List.mem_of_getElem? (i := 190) (by decide +kernel))) rfl
theorem w_191 : (Jvm.Cond.fieldLink "EscalatedForms" (65 : Nat) "EscalatedForms" "brood" "LEscalatedForms$Brood;") ∈ gw := gw_in (List.mem_append_right _ (List.mem_of_getElem? (i := 191) (by decide +kernel))) rfl
theorem w_213 : (Jvm.Cond.methodLink "EscalatedFormsLaw" (13 : Nat) ({ cls := "EscalatedForms", name := "single", desc := "(II)I" } : Jvm.MethodName)) ∈ gw := gw_in (List.mem_append_right _ (List.mem_of_getElem? (i := 213) (by decide +kernel))) rfl
theorem w_214 : (Jvm.Cond.instanceMethod ({ cls := "EscalatedForms", name := "single", desc := "(II)I" } : Jvm.MethodName)) ∈ gw := gw_in (List.mem_append_right _ (List.mem_of_getElem? (i := 214) (by decide +kernel))) rfl
theorem w_215 : (Jvm.Cond.selects "EscalatedForms" ({ cls := "EscalatedForms", name := "single", desc := "(II)I" } : Jvm.MethodName) ({ cls := "EscalatedForms", name := "single", desc := "(II)I" } : Jvm.MethodName)) ∈ gw := gw_in (List.mem_append_right _ (List.mem_of_getElem? (i := 215) (by decide +kernel))) rfl
theorem w_216 : (Jvm.Cond.code ({ cls := "EscalatedForms", name := "single", desc := "(II)I" } : Jvm.MethodName) prog_1_method_2_code (3 : Nat) (Option.some Jvm.ClassFile.FieldType.int)) ∈ gw := gw_in (List.mem_append_right _ (List.mem_of_getElem? (i := 216) (by decide +kernel))) rfl
theorem w_217 : (Jvm.Cond.methodLink "EscalatedForms" (69 : Nat) ({ cls := "EscalatedForms", name := "isSlot", desc := "(I)Z" } : Jvm.MethodName)) ∈ gw := gw_in (List.mem_append_right _ (List.mem_of_getElem? (i := 217) (by decide +kernel))) rfl
theorem w_218 : (Jvm.Cond.static ({ cls := "EscalatedForms", name := "isSlot", desc := "(I)Z" } : Jvm.MethodName)) ∈ gw := gw_in (List.mem_append_right _ (List.mem_of_getElem? (i := 218) (by decide +kernel))) rfl
theorem w_219 : (Jvm.Cond.code ({ cls := "EscalatedForms", name := "isSlot", desc := "(I)Z" } : Jvm.MethodName) prog_1_method_45_code (1 : Nat) (Option.some Jvm.ClassFile.FieldType.boolean)) ∈ gw := gw_in (List.mem_append_right _ (List.mem_of_getElem? (i := 219) (by decide +kernel))) rfl
theorem w_220 : (Jvm.Cond.methodLink "EscalatedForms" (73 : Nat) ({ cls := "EscalatedForms$Draft", name := "begin", desc := "(I)V" } : Jvm.MethodName)) ∈ gw := gw_in (List.mem_append_right _ (List.mem_of_getElem? (i := 220) (by decide +kernel))) rfl
theorem w_221 : (Jvm.Cond.instanceMethod ({ cls := "EscalatedForms$Draft", name := "begin", desc := "(I)V" } : Jvm.MethodName)) ∈ gw := gw_in (List.mem_append_right _ (List.mem_of_getElem? (i := 221) (by decide +kernel))) rfl
theorem w_222 : (Jvm.Cond.selects "EscalatedForms$Draft" ({ cls := "EscalatedForms$Draft", name := "begin", desc := "(I)V" } : Jvm.MethodName) ({ cls := "EscalatedForms$Draft", name := "begin", desc := "(I)V" } : Jvm.MethodName)) ∈ gw := gw_in (List.mem_append_right _ (List.mem_of_getElem? (i := 222) (by decide +kernel))) rfl
theorem w_223 : (Jvm.Cond.code ({ cls := "EscalatedForms$Draft", name := "begin", desc := "(I)V" } : Jvm.MethodName) prog_3_method_2_code (2 : Nat) (Option.none : Option Jvm.ClassFile.FieldType)) ∈ gw := gw_in (List.mem_append_right _ (List.mem_of_getElem? (i := 223) (by decide +kernel))) rfl
theorem w_224 : (Jvm.Cond.methodLink "EscalatedForms$Draft" (26 : Nat) ({ cls := "java/util/Arrays", name := "fill", desc := "([II)V" } : Jvm.MethodName)) ∈ gw := gw_in (List.mem_append_right _ (List.mem_of_getElem? (i := 224) (by decide +kernel))) rfl
theorem w_225 : (Jvm.Cond.static ({ cls := "java/util/Arrays", name := "fill", desc := "([II)V" } : Jvm.MethodName)) ∈ gw := gw_in (List.mem_append_right _ (List.mem_of_getElem? (i := 225) (by decide +kernel))) rfl
theorem w_226 : (Jvm.Cond.code ({ cls := "java/util/Arrays", name := "fill", desc := "([II)V" } : Jvm.MethodName) prog_15_method_103_code (4 : Nat) (Option.none : Option Jvm.ClassFile.FieldType)) ∈ gw := gw_in (List.mem_append_right _ (List.mem_of_getElem? (i := 226) (by decide +kernel))) rfl
theorem w_227 : (Jvm.Cond.methodLink "EscalatedForms" (77 : Nat) ({ cls := "EscalatedForms$Draft", name := "set", desc := "(III)V" } : Jvm.MethodName)) ∈ gw := gw_in (List.mem_append_right _ (List.mem_of_getElem? (i := 227) (by decide +kernel))) rfl
theorem w_228 : (Jvm.Cond.instanceMethod ({ cls := "EscalatedForms$Draft", name := "set", desc := "(III)V" } : Jvm.MethodName)) ∈ gw := gw_in (List.mem_append_right _ (List.mem_of_getElem? (i := 228) (by decide +kernel))) rfl
theorem w_229 : (Jvm.Cond.selects "EscalatedForms$Draft" ({ cls := "EscalatedForms$Draft", name := "set", desc := "(III)V" } : Jvm.MethodName) ({ cls := "EscalatedForms$Draft", name := "set", desc := "(III)V" } : Jvm.MethodName)) ∈ gw := gw_in (List.mem_append_right _ (List.mem_of_getElem? (i := 229) (by decide +kernel))) rfl
theorem w_230 : (Jvm.Cond.code ({ cls := "EscalatedForms$Draft", name := "set", desc := "(III)V" } : Jvm.MethodName) prog_3_method_5_code (4 : Nat) (Option.none : Option Jvm.ClassFile.FieldType)) ∈ gw := gw_in (List.mem_append_right _ (List.mem_of_getElem? (i := 230) (by decide +kernel))) rfl
theorem w_231 : (Jvm.Cond.methodLink "EscalatedForms" (81 : Nat) ({ cls := "EscalatedForms", name := "storeDraft", desc := "(I)Z" } : Jvm.MethodName)) ∈ gw := gw_in (List.mem_append_right _ (List.mem_of_getElem? (i := 231) (by decide +kernel))) rfl
theorem w_233 : (Jvm.Cond.instanceMethod ({ cls := "EscalatedForms", name := "storeDraft", desc := "(I)Z" } : Jvm.MethodName)) ∈ gw := gw_in (List.mem_append_right _ (List.mem_of_getElem? (i := 233) (by decide +kernel))) rfl
theorem w_234 : (Jvm.Cond.code ({ cls := "EscalatedForms", name := "storeDraft", desc := "(I)Z" } : Jvm.MethodName) prog_1_method_54_code (2 : Nat) (Option.some Jvm.ClassFile.FieldType.boolean)) ∈ gw := gw_in (List.mem_append_right _ (List.mem_of_getElem? (i := 234) (by decide +kernel))) rfl
theorem w_235 : (Jvm.Cond.methodLink "EscalatedForms" (253 : Nat) ({ cls := "EscalatedForms$Draft", name := "isLawful", desc := "()Z" } : Jvm.MethodName)) ∈ gw := gw_in (List.mem_append_right _ (List.mem_of_getElem? (i := 235) (by decide +kernel))) rfl
theorem w_236 : (Jvm.Cond.instanceMethod ({ cls := "EscalatedForms$Draft", name := "isLawful", desc := "()Z" } : Jvm.MethodName)) ∈ gw := gw_in (List.mem_append_right _ (List.mem_of_getElem? (i := 236) (by decide +kernel))) rfl
theorem w_237 : (Jvm.Cond.selects "EscalatedForms$Draft" ({ cls := "EscalatedForms$Draft", name := "isLawful", desc := "()Z" } : Jvm.MethodName) ({ cls := "EscalatedForms$Draft", name := "isLawful", desc := "()Z" } : Jvm.MethodName)) ∈ gw := gw_in (List.mem_append_right _ (List.mem_of_getElem? (i := 237) (by decide +kernel))) rfl
theorem w_238 : (Jvm.Cond.code ({ cls := "EscalatedForms$Draft", name := "isLawful", desc := "()Z" } : Jvm.MethodName) prog_3_method_12_code (9 : Nat) (Option.some Jvm.ClassFile.FieldType.boolean)) ∈ gw := gw_in (List.mem_append_right _ (List.mem_of_getElem? (i := 238) (by decide +kernel))) rfl
theorem w_239 : (Jvm.Cond.methodLink "EscalatedForms$Draft" (59 : Nat) ({ cls := "EscalatedForms$Draft", name := "isInRange", desc := "()Z" } : Jvm.MethodName)) ∈ gw := gw_in (List.mem_append_right _ (List.mem_of_getElem? (i := 239) (by decide +kernel))) rfl
theorem w_240 : (Jvm.Cond.instanceMethod ({ cls := "EscalatedForms$Draft", name := "isInRange", desc := "()Z" } : Jvm.MethodName)) ∈ gw := gw_in (List.mem_append_right _ (List.mem_of_getElem? (i := 240) (by decide +kernel))) rfl
theorem w_241 : (Jvm.Cond.selects "EscalatedForms$Draft" ({ cls := "EscalatedForms$Draft", name := "isInRange", desc := "()Z" } : Jvm.MethodName) ({ cls := "EscalatedForms$Draft", name := "isInRange", desc := "()Z" } : Jvm.MethodName)) ∈ gw := gw_in (List.mem_append_right _ (List.mem_of_getElem? (i := 241) (by decide +kernel))) rfl
theorem w_242 : (Jvm.Cond.code ({ cls := "EscalatedForms$Draft", name := "isInRange", desc := "()Z" } : Jvm.MethodName) prog_3_method_11_code (2 : Nat) (Option.some Jvm.ClassFile.FieldType.boolean)) ∈ gw := gw_in (List.mem_append_right _ (List.mem_of_getElem? (i := 242) (by decide +kernel))) rfl
theorem w_243 : (Jvm.Cond.methodLink "EscalatedForms$Draft" (63 : Nat) ({ cls := "EscalatedForms$Draft", name := "determinant", desc := "(I)J" } : Jvm.MethodName)) ∈ gw := gw_in (List.mem_append_right _ (List.mem_of_getElem? (i := 243) (by decide +kernel))) rfl
theorem w_244 : (Jvm.Cond.instanceMethod ({ cls := "EscalatedForms$Draft", name := "determinant", desc := "(I)J" } : Jvm.MethodName)) ∈ gw := gw_in (List.mem_append_right _ (List.mem_of_getElem? (i := 244) (by decide +kernel))) rfl
theorem w_245 : (Jvm.Cond.selects "EscalatedForms$Draft" ({ cls := "EscalatedForms$Draft", name := "determinant", desc := "(I)J" } : Jvm.MethodName) ({ cls := "EscalatedForms$Draft", name := "determinant", desc := "(I)J" } : Jvm.MethodName)) ∈ gw := gw_in (List.mem_append_right _ (List.mem_of_getElem? (i := 245) (by decide +kernel))) rfl
theorem w_246 : (Jvm.Cond.code ({ cls := "EscalatedForms$Draft", name := "determinant", desc := "(I)J" } : Jvm.MethodName) prog_3_method_13_code (8 : Nat) (Option.some Jvm.ClassFile.FieldType.long)) ∈ gw := gw_in (List.mem_append_right _ (List.mem_of_getElem? (i := 246) (by decide +kernel))) rfl
theorem w_247 : (Jvm.Cond.methodLink "EscalatedForms$Draft" (46 : Nat) ({ cls := "EscalatedForms$Draft", name := "get", desc := "(II)I" } : Jvm.MethodName)) ∈ gw := gw_in (List.mem_append_right _ (List.mem_of_getElem? (i := 247) (by decide +kernel))) rfl
theorem w_248 : (Jvm.Cond.instanceMethod ({ cls := "EscalatedForms$Draft", name := "get", desc := "(II)I" } : Jvm.MethodName)) ∈ gw := gw_in (List.mem_append_right _ (List.mem_of_getElem? (i := 248) (by decide +kernel))) rfl
theorem w_249 : (Jvm.Cond.selects "EscalatedForms$Draft" ({ cls := "EscalatedForms$Draft", name := "get", desc := "(II)I" } : Jvm.MethodName) ({ cls := "EscalatedForms$Draft", name := "get", desc := "(II)I" } : Jvm.MethodName)) ∈ gw := gw_in (List.mem_append_right _ (List.mem_of_getElem? (i := 249) (by decide +kernel))) rfl
theorem w_250 : (Jvm.Cond.code ({ cls := "EscalatedForms$Draft", name := "get", desc := "(II)I" } : Jvm.MethodName) prog_3_method_4_code (3 : Nat) (Option.some Jvm.ClassFile.FieldType.int)) ∈ gw := gw_in (List.mem_append_right _ (List.mem_of_getElem? (i := 250) (by decide +kernel))) rfl
theorem w_251 : (Jvm.Cond.methodLink "EscalatedForms$Draft" (83 : Nat) ({ cls := "EscalatedForms$Draft", name := "eliminateBehind", desc := "(IIJ)V" } : Jvm.MethodName)) ∈ gw := gw_in (List.mem_append_right _ (List.mem_of_getElem? (i := 251) (by decide +kernel))) rfl
theorem w_253 : (Jvm.Cond.instanceMethod ({ cls := "EscalatedForms$Draft", name := "eliminateBehind", desc := "(IIJ)V" } : Jvm.MethodName)) ∈ gw := gw_in (List.mem_append_right _ (List.mem_of_getElem? (i := 253) (by decide +kernel))) rfl
theorem w_254 : (Jvm.Cond.code ({ cls := "EscalatedForms$Draft", name := "eliminateBehind", desc := "(IIJ)V" } : Jvm.MethodName) prog_3_method_14_code (11 : Nat) (Option.none : Option Jvm.ClassFile.FieldType)) ∈ gw := gw_in (List.mem_append_right _ (List.mem_of_getElem? (i := 254) (by decide +kernel))) rfl
theorem w_255 : (Jvm.Cond.constantLong "EscalatedForms$Draft" (67 : Nat) (2 : Int64)) ∈ gw := gw_in (List.mem_append_right _ (List.mem_of_getElem? (i := 255) (by decide +kernel))) rfl
theorem w_256 : (Jvm.Cond.constantLong "EscalatedForms$Draft" (69 : Nat) (100 : Int64)) ∈ gw := gw_in (List.mem_append_right _ (List.mem_of_getElem? (i := 256) (by decide +kernel))) rfl
theorem w_258 : (Jvm.Cond.static ({ cls := "EscalatedForms", name := "squareRoot", desc := "(J)J" } : Jvm.MethodName)) ∈ gw := gw_in (List.mem_append_right _ (List.mem_of_getElem? (i := 258) (by decide +kernel))) rfl
theorem w_259 : (Jvm.Cond.code ({ cls := "EscalatedForms", name := "squareRoot", desc := "(J)J" } : Jvm.MethodName) prog_1_method_63_code (7 : Nat) (Option.some Jvm.ClassFile.FieldType.long)) ∈ gw := gw_in (List.mem_append_right _ (List.mem_of_getElem? (i := 259) (by decide +kernel))) rfl
theorem w_260 : (Jvm.Cond.constantLong "EscalatedForms" (348 : Nat) (2 : Int64)) ∈ gw := gw_in (List.mem_append_right _ (List.mem_of_getElem? (i := 260) (by decide +kernel))) rfl
theorem w_261 : (Jvm.Cond.constantLong "EscalatedForms$Draft" (75 : Nat) (1000000 : Int64)) ∈ gw := gw_in (List.mem_append_right _ (List.mem_of_getElem? (i := 261) (by decide +kernel))) rfl
theorem w_262 : (Jvm.Cond.instantiable "EscalatedForms$Form" (6 : Nat)) ∈ gw := gw_in (List.mem_append_right _ (List.mem_of_getElem? (i := 262) (by decide +kernel))) rfl
theorem w_263 : (Jvm.Cond.methodLink "EscalatedForms" (256 : Nat) ({ cls := "EscalatedForms$Form", name := "<init>", desc := "(LEscalatedForms$Draft;)V" } : Jvm.MethodName)) ∈ gw := gw_in (List.mem_append_right _ (List.mem_of_getElem? (i := 263) (by decide +kernel))) rfl
theorem w_264 : (Jvm.Cond.instanceMethod ({ cls := "EscalatedForms$Form", name := "<init>", desc := "(LEscalatedForms$Draft;)V" } : Jvm.MethodName)) ∈ gw := gw_in (List.mem_append_right _ (List.mem_of_getElem? (i := 264) (by decide +kernel))) rfl
theorem w_265 : (Jvm.Cond.code ({ cls := "EscalatedForms$Form", name := "<init>", desc := "(LEscalatedForms$Draft;)V" } : Jvm.MethodName) prog_5_method_1_code (2 : Nat) (Option.none : Option Jvm.ClassFile.FieldType)) ∈ gw := gw_in (List.mem_append_right _ (List.mem_of_getElem? (i := 265) (by decide +kernel))) rfl
theorem w_266 : (Jvm.Cond.methodLink "EscalatedForms$Form" (3 : Nat) ({ cls := "java/lang/Object", name := "<init>", desc := "()V" } : Jvm.MethodName)) ∈ gw := gw_in (List.mem_append_right _ (List.mem_of_getElem? (i := 266) (by decide +kernel))) rfl
theorem w_267 : (Jvm.Cond.methodLink "EscalatedForms$Form" (22 : Nat) ({ cls := "[I", name := "clone", desc := "()Ljava/lang/Object;" } : Jvm.MethodName)) ∈ gw := gw_in (List.mem_append_right _ (List.mem_of_getElem? (i := 267) (by decide +kernel))) rfl
theorem w_268 : (Jvm.Cond.sameMethod "[I" "java/lang/Object" "clone" "()Ljava/lang/Object;") ∈ gw := gw_in (List.mem_append_right _ (List.mem_of_getElem? (i := 268) (by decide +kernel))) rfl
theorem w_269 : (Jvm.Cond.native ({ cls := "java/lang/Object", name := "clone", desc := "()Ljava/lang/Object;" } : Jvm.MethodName)) ∈ gw := gw_in (List.mem_append_right _ (List.mem_of_getElem? (i := 269) (by decide +kernel))) rfl
theorem w_270 : (Jvm.Cond.instanceMethod ({ cls := "java/lang/Object", name := "clone", desc := "()Ljava/lang/Object;" } : Jvm.MethodName)) ∈ gw := gw_in (List.mem_append_right _ (List.mem_of_getElem? (i := 270) (by decide +kernel))) rfl
theorem w_271 : (Jvm.Cond.selects "[I" ({ cls := "[I", name := "clone", desc := "()Ljava/lang/Object;" } : Jvm.MethodName) ({ cls := "java/lang/Object", name := "clone", desc := "()Ljava/lang/Object;" } : Jvm.MethodName)) ∈ gw := gw_in (List.mem_append_right _ (List.mem_of_getElem? (i := 271) (by decide +kernel))) rfl
theorem w_273 : (Jvm.Cond.classLink "EscalatedForms$Form" (23 : Nat) "[I") ∈ gw := gw_in (List.mem_append_right _ (List.mem_of_getElem? (i := 273) (by decide +kernel))) rfl
theorem w_274 : (Jvm.Cond.fieldLink "EscalatedForms$Form" (15 : Nat) "EscalatedForms$Form" "letters" "I") ∈ gw := gw_in (List.mem_append_right _ (List.mem_of_getElem? (i := 274) (by decide +kernel))) rfl
theorem w_275 : (Jvm.Cond.fieldLink "EscalatedForms$Taken" (15 : Nat) "EscalatedForms$Form" "letters" "I") ∈ gw := gw_in (List.mem_append_right _ (List.mem_of_getElem? (i := 275) (by decide +kernel))) rfl
theorem w_276 : (Jvm.Cond.fieldLink "EscalatedForms$Brood" (26 : Nat) "EscalatedForms$Form" "letters" "I") ∈ gw := gw_in (List.mem_append_right _ (List.mem_of_getElem? (i := 276) (by decide +kernel))) rfl
theorem w_277 : (Jvm.Cond.fieldLink "EscalatedForms$Draft" (32 : Nat) "EscalatedForms$Form" "letters" "I") ∈ gw := gw_in (List.mem_append_right _ (List.mem_of_getElem? (i := 277) (by decide +kernel))) rfl
theorem w_278 : (Jvm.Cond.fieldLink "EscalatedForms$Remainders" (37 : Nat) "EscalatedForms$Form" "letters" "I") ∈ gw := gw_in (List.mem_append_right _ (List.mem_of_getElem? (i := 278) (by decide +kernel))) rfl
theorem w_279 : (Jvm.Cond.fieldLink "EscalatedForms$Ellipsoid" (53 : Nat) "EscalatedForms$Form" "letters" "I") ∈ gw := gw_in (List.mem_append_right _ (List.mem_of_getElem? (i := 279) (by decide +kernel))) rfl
theorem w_280 : (Jvm.Cond.fieldLink "EscalatedForms" (114 : Nat) "EscalatedForms$Form" "letters" "I") ∈ gw := gw_in (List.mem_append_right _ (List.mem_of_getElem? (i := 280) (by decide +kernel))) rfl
theorem w_281 : (Jvm.Cond.fieldLink "EscalatedForms$Form" (27 : Nat) "EscalatedForms$Form" "entries" "[I") ∈ gw := gw_in (List.mem_append_right _ (List.mem_of_getElem? (i := 281) (by decide +kernel))) rfl
theorem w_282 : (Jvm.Cond.fieldLink "EscalatedForms$Taken" (24 : Nat) "EscalatedForms$Form" "entries" "[I") ∈ gw := gw_in (List.mem_append_right _ (List.mem_of_getElem? (i := 282) (by decide +kernel))) rfl
theorem w_283 : (Jvm.Cond.fieldLink "EscalatedForms$Draft" (35 : Nat) "EscalatedForms$Form" "entries" "[I") ∈ gw := gw_in (List.mem_append_right _ (List.mem_of_getElem? (i := 283) (by decide +kernel))) rfl
theorem w_284 : (Jvm.Cond.fieldLink "EscalatedForms$Remainders" (53 : Nat) "EscalatedForms$Form" "entries" "[I") ∈ gw := gw_in (List.mem_append_right _ (List.mem_of_getElem? (i := 284) (by decide +kernel))) rfl
theorem w_285 : (Jvm.Cond.fieldLink "EscalatedForms$Ellipsoid" (62 : Nat) "EscalatedForms$Form" "entries" "[I") ∈ gw := gw_in (List.mem_append_right _ (List.mem_of_getElem? (i := 285) (by decide +kernel))) rfl
theorem w_286 : (Jvm.Cond.fieldLink "EscalatedForms" (117 : Nat) "EscalatedForms$Form" "entries" "[I") ∈ gw := gw_in (List.mem_append_right _ (List.mem_of_getElem? (i := 286) (by decide +kernel))) rfl
theorem w_287 : (Jvm.Cond.fieldLink "EscalatedForms$Form" (31 : Nat) "EscalatedForms$Form" "det" "I") ∈ gw := gw_in (List.mem_append_right _ (List.mem_of_getElem? (i := 287) (by decide +kernel))) rfl
theorem w_288 : (Jvm.Cond.fieldLink "EscalatedForms$Ellipsoid" (65 : Nat) "EscalatedForms$Form" "det" "I") ∈ gw := gw_in (List.mem_append_right _ (List.mem_of_getElem? (i := 288) (by decide +kernel))) rfl
theorem w_289 : (Jvm.Cond.fieldLink "EscalatedForms" (137 : Nat) "EscalatedForms$Form" "det" "I") ∈ gw := gw_in (List.mem_append_right _ (List.mem_of_getElem? (i := 289) (by decide +kernel))) rfl
theorem w_290 : (Jvm.Cond.fieldLink "EscalatedForms$Form" (35 : Nat) "EscalatedForms$Form" "box" "I") ∈ gw := gw_in (List.mem_append_right _ (List.mem_of_getElem? (i := 290) (by decide +kernel))) rfl
theorem w_291 : (Jvm.Cond.fieldLink "EscalatedForms" (138 : Nat) "EscalatedForms$Form" "box" "I") ∈ gw := gw_in (List.mem_append_right _ (List.mem_of_getElem? (i := 291) (by decide +kernel))) rfl
theorem w_292 : (Jvm.Cond.fieldLink "EscalatedForms" (315 : Nat) "EscalatedForms$Form" "taken" "LEscalatedForms$Taken;") ∈ gw := gw_in (List.mem_append_right _ (List.mem_of_getElem? (i := 292) (by decide +kernel))) rfl
theorem w_293 : (Jvm.Cond.fieldLink "EscalatedForms$Remainders" (19 : Nat) "EscalatedForms$Form" "remainderBits" "[I") ∈ gw := gw_in (List.mem_append_right _ (List.mem_of_getElem? (i := 293) (by decide +kernel))) rfl
theorem w_307 : (Jvm.Cond.methodLink "EscalatedFormsLaw" (18 : Nat) ({ cls := "EscalatedForms", name := "form", desc := "(IIII)I" } : Jvm.MethodName)) ∈ gw := gw_in (List.mem_append_right _ (List.mem_of_getElem? (i := 307) (by decide +kernel))) rfl
theorem w_308 : (Jvm.Cond.instanceMethod ({ cls := "EscalatedForms", name := "form", desc := "(IIII)I" } : Jvm.MethodName)) ∈ gw := gw_in (List.mem_append_right _ (List.mem_of_getElem? (i := 308) (by decide +kernel))) rfl
theorem w_309 : (Jvm.Cond.selects "EscalatedForms" ({ cls := "EscalatedForms", name := "form", desc := "(IIII)I" } : Jvm.MethodName) ({ cls := "EscalatedForms", name := "form", desc := "(IIII)I" } : Jvm.MethodName)) ∈ gw := gw_in (List.mem_append_right _ (List.mem_of_getElem? (i := 309) (by decide +kernel))) rfl
theorem w_310 : (Jvm.Cond.code ({ cls := "EscalatedForms", name := "form", desc := "(IIII)I" } : Jvm.MethodName) prog_1_method_3_code (9 : Nat) (Option.some Jvm.ClassFile.FieldType.int)) ∈ gw := gw_in (List.mem_append_right _ (List.mem_of_getElem? (i := 310) (by decide +kernel))) rfl
theorem w_311 : (Jvm.Cond.methodLink "EscalatedForms" (88 : Nat) ({ cls := "EscalatedForms", name := "isSheet", desc := "(I)Z" } : Jvm.MethodName)) ∈ gw := gw_in (List.mem_append_right _ (List.mem_of_getElem? (i := 311) (by decide +kernel))) rfl
theorem w_312 : (Jvm.Cond.static ({ cls := "EscalatedForms", name := "isSheet", desc := "(I)Z" } : Jvm.MethodName)) ∈ gw := gw_in (List.mem_append_right _ (List.mem_of_getElem? (i := 312) (by decide +kernel))) rfl
theorem w_313 : (Jvm.Cond.code ({ cls := "EscalatedForms", name := "isSheet", desc := "(I)Z" } : Jvm.MethodName) prog_1_method_46_code (1 : Nat) (Option.some Jvm.ClassFile.FieldType.boolean)) ∈ gw := gw_in (List.mem_append_right _ (List.mem_of_getElem? (i := 313) (by decide +kernel))) rfl
theorem w_314 : (Jvm.Cond.methodLink "EscalatedForms" (91 : Nat) ({ cls := "EscalatedForms$Sheet", name := "isMissing", desc := "()Z" } : Jvm.MethodName)) ∈ gw := gw_in (List.mem_append_right _ (List.mem_of_getElem? (i := 314) (by decide +kernel))) rfl
theorem w_315 : (Jvm.Cond.instanceMethod ({ cls := "EscalatedForms$Sheet", name := "isMissing", desc := "()Z" } : Jvm.MethodName)) ∈ gw := gw_in (List.mem_append_right _ (List.mem_of_getElem? (i := 315) (by decide +kernel))) rfl
theorem w_316 : (Jvm.Cond.selects "EscalatedForms$Sheet" ({ cls := "EscalatedForms$Sheet", name := "isMissing", desc := "()Z" } : Jvm.MethodName) ({ cls := "EscalatedForms$Sheet", name := "isMissing", desc := "()Z" } : Jvm.MethodName)) ∈ gw := gw_in (List.mem_append_right _ (List.mem_of_getElem? (i := 316) (by decide +kernel))) rfl
theorem w_317 : (Jvm.Cond.code ({ cls := "EscalatedForms$Sheet", name := "isMissing", desc := "()Z" } : Jvm.MethodName) prog_7_method_2_code (1 : Nat) (Option.some Jvm.ClassFile.FieldType.boolean)) ∈ gw := gw_in (List.mem_append_right _ (List.mem_of_getElem? (i := 317) (by decide +kernel))) rfl
theorem w_318 : (Jvm.Cond.methodLink "EscalatedForms" (95 : Nat) ({ cls := "EscalatedForms", name := "triangle", desc := "(I)I" } : Jvm.MethodName)) ∈ gw := gw_in (List.mem_append_right _ (List.mem_of_getElem? (i := 318) (by decide +kernel))) rfl
theorem w_319 : (Jvm.Cond.static ({ cls := "EscalatedForms", name := "triangle", desc := "(I)I" } : Jvm.MethodName)) ∈ gw := gw_in (List.mem_append_right _ (List.mem_of_getElem? (i := 319) (by decide +kernel))) rfl
theorem w_320 : (Jvm.Cond.code ({ cls := "EscalatedForms", name := "triangle", desc := "(I)I" } : Jvm.MethodName) prog_1_method_50_code (1 : Nat) (Option.some Jvm.ClassFile.FieldType.int)) ∈ gw := gw_in (List.mem_append_right _ (List.mem_of_getElem? (i := 320) (by decide +kernel))) rfl
theorem w_321 : (Jvm.Cond.methodLink "EscalatedForms" (99 : Nat) ({ cls := "EscalatedForms$Sheet", name := "has", desc := "(II)Z" } : Jvm.MethodName)) ∈ gw := gw_in (List.mem_append_right _ (List.mem_of_getElem? (i := 321) (by decide +kernel))) rfl
theorem w_322 : (Jvm.Cond.instanceMethod ({ cls := "EscalatedForms$Sheet", name := "has", desc := "(II)Z" } : Jvm.MethodName)) ∈ gw := gw_in (List.mem_append_right _ (List.mem_of_getElem? (i := 322) (by decide +kernel))) rfl
theorem w_323 : (Jvm.Cond.selects "EscalatedForms$Sheet" ({ cls := "EscalatedForms$Sheet", name := "has", desc := "(II)Z" } : Jvm.MethodName) ({ cls := "EscalatedForms$Sheet", name := "has", desc := "(II)Z" } : Jvm.MethodName)) ∈ gw := gw_in (List.mem_append_right _ (List.mem_of_getElem? (i := 323) (by decide +kernel))) rfl
theorem w_324 : (Jvm.Cond.code ({ cls := "EscalatedForms$Sheet", name := "has", desc := "(II)Z" } : Jvm.MethodName) prog_7_method_4_code (3 : Nat) (Option.some Jvm.ClassFile.FieldType.boolean)) ∈ gw := gw_in (List.mem_append_right _ (List.mem_of_getElem? (i := 324) (by decide +kernel))) rfl
theorem w_325 : (Jvm.Cond.methodLink "EscalatedForms" (107 : Nat) ({ cls := "EscalatedForms$Draft", name := "isInRange", desc := "()Z" } : Jvm.MethodName)) ∈ gw := gw_in (List.mem_append_right _ (List.mem_of_getElem? (i := 325) (by decide +kernel))) rfl
theorem w_326 : (Jvm.Cond.methodLink "EscalatedFormsLaw" (23 : Nat) ({ cls := "EscalatedForms", name := "spread", desc := "(III)I" } : Jvm.MethodName)) ∈ gw := gw_in (List.mem_append_right _ (List.mem_of_getElem? (i := 326) (by decide +kernel))) rfl
theorem w_327 : (Jvm.Cond.instanceMethod ({ cls := "EscalatedForms", name := "spread", desc := "(III)I" } : Jvm.MethodName)) ∈ gw := gw_in (List.mem_append_right _ (List.mem_of_getElem? (i := 327) (by decide +kernel))) rfl
theorem w_328 : (Jvm.Cond.selects "EscalatedForms" ({ cls := "EscalatedForms", name := "spread", desc := "(III)I" } : Jvm.MethodName) ({ cls := "EscalatedForms", name := "spread", desc := "(III)I" } : Jvm.MethodName)) ∈ gw := gw_in (List.mem_append_right _ (List.mem_of_getElem? (i := 328) (by decide +kernel))) rfl
theorem w_329 : (Jvm.Cond.code ({ cls := "EscalatedForms", name := "spread", desc := "(III)I" } : Jvm.MethodName) prog_1_method_4_code (9 : Nat) (Option.some Jvm.ClassFile.FieldType.int)) ∈ gw := gw_in (List.mem_append_right _ (List.mem_of_getElem? (i := 329) (by decide +kernel))) rfl
theorem w_330 : (Jvm.Cond.methodLink "EscalatedForms" (110 : Nat) ({ cls := "EscalatedForms", name := "held", desc := "(I)LEscalatedForms$Form;" } : Jvm.MethodName)) ∈ gw := gw_in (List.mem_append_right _ (List.mem_of_getElem? (i := 330) (by decide +kernel))) rfl
theorem w_332 : (Jvm.Cond.instanceMethod ({ cls := "EscalatedForms", name := "held", desc := "(I)LEscalatedForms$Form;" } : Jvm.MethodName)) ∈ gw := gw_in (List.mem_append_right _ (List.mem_of_getElem? (i := 332) (by decide +kernel))) rfl
theorem w_333 : (Jvm.Cond.code ({ cls := "EscalatedForms", name := "held", desc := "(I)LEscalatedForms$Form;" } : Jvm.MethodName) prog_1_method_51_code (2 : Nat) (Option.some (Jvm.ClassFile.FieldType.object "EscalatedForms$Form"))) ∈ gw := gw_in (List.mem_append_right _ (List.mem_of_getElem? (i := 333) (by decide +kernel))) rfl
theorem w_334 : (Jvm.Cond.methodLink "EscalatedForms" (120 : Nat) ({ cls := "EscalatedForms$Sheet", name := "put", desc := "(II)V" } : Jvm.MethodName)) ∈ gw := gw_in (List.mem_append_right _ (List.mem_of_getElem? (i := 334) (by decide +kernel))) rfl
theorem w_335 : (Jvm.Cond.instanceMethod ({ cls := "EscalatedForms$Sheet", name := "put", desc := "(II)V" } : Jvm.MethodName)) ∈ gw := gw_in (List.mem_append_right _ (List.mem_of_getElem? (i := 335) (by decide +kernel))) rfl
theorem w_336 : (Jvm.Cond.selects "EscalatedForms$Sheet" ({ cls := "EscalatedForms$Sheet", name := "put", desc := "(II)V" } : Jvm.MethodName) ({ cls := "EscalatedForms$Sheet", name := "put", desc := "(II)V" } : Jvm.MethodName)) ∈ gw := gw_in (List.mem_append_right _ (List.mem_of_getElem? (i := 336) (by decide +kernel))) rfl
theorem w_337 : (Jvm.Cond.code ({ cls := "EscalatedForms$Sheet", name := "put", desc := "(II)V" } : Jvm.MethodName) prog_7_method_5_code (3 : Nat) (Option.none : Option Jvm.ClassFile.FieldType)) ∈ gw := gw_in (List.mem_append_right _ (List.mem_of_getElem? (i := 337) (by decide +kernel))) rfl
theorem w_338 : (Jvm.Cond.methodLink "EscalatedFormsLaw" (28 : Nat) ({ cls := "EscalatedForms", name := "clear", desc := "(I)I" } : Jvm.MethodName)) ∈ gw := gw_in (List.mem_append_right _ (List.mem_of_getElem? (i := 338) (by decide +kernel))) rfl
theorem w_339 : (Jvm.Cond.instanceMethod ({ cls := "EscalatedForms", name := "clear", desc := "(I)I" } : Jvm.MethodName)) ∈ gw := gw_in (List.mem_append_right _ (List.mem_of_getElem? (i := 339) (by decide +kernel))) rfl
theorem w_340 : (Jvm.Cond.selects "EscalatedForms" ({ cls := "EscalatedForms", name := "clear", desc := "(I)I" } : Jvm.MethodName) ({ cls := "EscalatedForms", name := "clear", desc := "(I)I" } : Jvm.MethodName)) ∈ gw := gw_in (List.mem_append_right _ (List.mem_of_getElem? (i := 340) (by decide +kernel))) rfl
theorem w_341 : (Jvm.Cond.code ({ cls := "EscalatedForms", name := "clear", desc := "(I)I" } : Jvm.MethodName) prog_1_method_5_code (3 : Nat) (Option.some Jvm.ClassFile.FieldType.int)) ∈ gw := gw_in (List.mem_append_right _ (List.mem_of_getElem? (i := 341) (by decide +kernel))) rfl
theorem w_342 : (Jvm.Cond.methodLink "EscalatedFormsLaw" (33 : Nat) ({ cls := "EscalatedForms", name := "entry", desc := "(IIII)I" } : Jvm.MethodName)) ∈ gw := gw_in (List.mem_append_right _ (List.mem_of_getElem? (i := 342) (by decide +kernel))) rfl
theorem w_343 : (Jvm.Cond.instanceMethod ({ cls := "EscalatedForms", name := "entry", desc := "(IIII)I" } : Jvm.MethodName)) ∈ gw := gw_in (List.mem_append_right _ (List.mem_of_getElem? (i := 343) (by decide +kernel))) rfl
theorem w_344 : (Jvm.Cond.selects "EscalatedForms" ({ cls := "EscalatedForms", name := "entry", desc := "(IIII)I" } : Jvm.MethodName) ({ cls := "EscalatedForms", name := "entry", desc := "(IIII)I" } : Jvm.MethodName)) ∈ gw := gw_in (List.mem_append_right _ (List.mem_of_getElem? (i := 344) (by decide +kernel))) rfl
theorem w_345 : (Jvm.Cond.code ({ cls := "EscalatedForms", name := "entry", desc := "(IIII)I" } : Jvm.MethodName) prog_1_method_6_code (6 : Nat) (Option.some Jvm.ClassFile.FieldType.int)) ∈ gw := gw_in (List.mem_append_right _ (List.mem_of_getElem? (i := 345) (by decide +kernel))) rfl
theorem w_346 : (Jvm.Cond.methodLink "EscalatedForms" (124 : Nat) ({ cls := "EscalatedForms", name := "isLetter", desc := "(LEscalatedForms$Form;I)Z" } : Jvm.MethodName)) ∈ gw := gw_in (List.mem_append_right _ (List.mem_of_getElem? (i := 346) (by decide +kernel))) rfl
theorem w_347 : (Jvm.Cond.static ({ cls := "EscalatedForms", name := "isLetter", desc := "(LEscalatedForms$Form;I)Z" } : Jvm.MethodName)) ∈ gw := gw_in (List.mem_append_right _ (List.mem_of_getElem? (i := 347) (by decide +kernel))) rfl
theorem w_348 : (Jvm.Cond.code ({ cls := "EscalatedForms", name := "isLetter", desc := "(LEscalatedForms$Form;I)Z" } : Jvm.MethodName) prog_1_method_47_code (2 : Nat) (Option.some Jvm.ClassFile.FieldType.boolean)) ∈ gw := gw_in (List.mem_append_right _ (List.mem_of_getElem? (i := 348) (by decide +kernel))) rfl
theorem w_349 : (Jvm.Cond.methodLink "EscalatedForms" (128 : Nat) ({ cls := "EscalatedForms$Draft", name := "load", desc := "(LEscalatedForms$Form;)V" } : Jvm.MethodName)) ∈ gw := gw_in (List.mem_append_right _ (List.mem_of_getElem? (i := 349) (by decide +kernel))) rfl
theorem w_350 : (Jvm.Cond.instanceMethod ({ cls := "EscalatedForms$Draft", name := "load", desc := "(LEscalatedForms$Form;)V" } : Jvm.MethodName)) ∈ gw := gw_in (List.mem_append_right _ (List.mem_of_getElem? (i := 350) (by decide +kernel))) rfl
theorem w_351 : (Jvm.Cond.selects "EscalatedForms$Draft" ({ cls := "EscalatedForms$Draft", name := "load", desc := "(LEscalatedForms$Form;)V" } : Jvm.MethodName) ({ cls := "EscalatedForms$Draft", name := "load", desc := "(LEscalatedForms$Form;)V" } : Jvm.MethodName)) ∈ gw := gw_in (List.mem_append_right _ (List.mem_of_getElem? (i := 351) (by decide +kernel))) rfl
theorem w_352 : (Jvm.Cond.code ({ cls := "EscalatedForms$Draft", name := "load", desc := "(LEscalatedForms$Form;)V" } : Jvm.MethodName) prog_3_method_3_code (2 : Nat) (Option.none : Option Jvm.ClassFile.FieldType)) ∈ gw := gw_in (List.mem_append_right _ (List.mem_of_getElem? (i := 352) (by decide +kernel))) rfl
theorem w_353 : (Jvm.Cond.methodLink "EscalatedForms$Draft" (36 : Nat) ({ cls := "java/lang/System", name := "arraycopy", desc := "(Ljava/lang/Object;ILjava/lang/Object;II)V" } : Jvm.MethodName)) ∈ gw := gw_in (List.mem_append_right _ (List.mem_of_getElem? (i := 353) (by decide +kernel))) rfl
theorem w_354 : (Jvm.Cond.static ({ cls := "java/lang/System", name := "arraycopy", desc := "(Ljava/lang/Object;ILjava/lang/Object;II)V" } : Jvm.MethodName)) ∈ gw := gw_in (List.mem_append_right _ (List.mem_of_getElem? (i := 354) (by decide +kernel))) rfl
theorem w_355 : (Jvm.Cond.native ({ cls := "java/lang/System", name := "arraycopy", desc := "(Ljava/lang/Object;ILjava/lang/Object;II)V" } : Jvm.MethodName)) ∈ gw := gw_in (List.mem_append_right _ (List.mem_of_getElem? (i := 355) (by decide +kernel))) rfl
theorem w_356 : (Jvm.Cond.methodLink "EscalatedFormsLaw" (37 : Nat) ({ cls := "EscalatedForms", name := "at", desc := "(III)I" } : Jvm.MethodName)) ∈ gw := gw_in (List.mem_append_right _ (List.mem_of_getElem? (i := 356) (by decide +kernel))) rfl
theorem w_357 : (Jvm.Cond.instanceMethod ({ cls := "EscalatedForms", name := "at", desc := "(III)I" } : Jvm.MethodName)) ∈ gw := gw_in (List.mem_append_right _ (List.mem_of_getElem? (i := 357) (by decide +kernel))) rfl
theorem w_358 : (Jvm.Cond.selects "EscalatedForms" ({ cls := "EscalatedForms", name := "at", desc := "(III)I" } : Jvm.MethodName) ({ cls := "EscalatedForms", name := "at", desc := "(III)I" } : Jvm.MethodName)) ∈ gw := gw_in (List.mem_append_right _ (List.mem_of_getElem? (i := 358) (by decide +kernel))) rfl
theorem w_359 : (Jvm.Cond.code ({ cls := "EscalatedForms", name := "at", desc := "(III)I" } : Jvm.MethodName) prog_1_method_7_code (5 : Nat) (Option.some Jvm.ClassFile.FieldType.int)) ∈ gw := gw_in (List.mem_append_right _ (List.mem_of_getElem? (i := 359) (by decide +kernel))) rfl
theorem w_360 : (Jvm.Cond.constant "EscalatedForms" (132 : Nat) (-2147483648 : Int32)) ∈ gw := gw_in (List.mem_append_right _ (List.mem_of_getElem? (i := 360) (by decide +kernel))) rfl
theorem w_361 : (Jvm.Cond.methodLink "EscalatedFormsLaw" (41 : Nat) ({ cls := "EscalatedForms", name := "minor", desc := "(II)I" } : Jvm.MethodName)) ∈ gw := gw_in (List.mem_append_right _ (List.mem_of_getElem? (i := 361) (by decide +kernel))) rfl
theorem w_362 : (Jvm.Cond.instanceMethod ({ cls := "EscalatedForms", name := "minor", desc := "(II)I" } : Jvm.MethodName)) ∈ gw := gw_in (List.mem_append_right _ (List.mem_of_getElem? (i := 362) (by decide +kernel))) rfl
theorem w_363 : (Jvm.Cond.selects "EscalatedForms" ({ cls := "EscalatedForms", name := "minor", desc := "(II)I" } : Jvm.MethodName) ({ cls := "EscalatedForms", name := "minor", desc := "(II)I" } : Jvm.MethodName)) ∈ gw := gw_in (List.mem_append_right _ (List.mem_of_getElem? (i := 363) (by decide +kernel))) rfl
theorem w_364 : (Jvm.Cond.code ({ cls := "EscalatedForms", name := "minor", desc := "(II)I" } : Jvm.MethodName) prog_1_method_8_code (4 : Nat) (Option.some Jvm.ClassFile.FieldType.int)) ∈ gw := gw_in (List.mem_append_right _ (List.mem_of_getElem? (i := 364) (by decide +kernel))) rfl
theorem w_365 : (Jvm.Cond.methodLink "EscalatedForms" (133 : Nat) ({ cls := "EscalatedForms$Draft", name := "determinant", desc := "(I)J" } : Jvm.MethodName)) ∈ gw := gw_in (List.mem_append_right _ (List.mem_of_getElem? (i := 365) (by decide +kernel))) rfl
theorem w_366 : (Jvm.Cond.methodLink "EscalatedFormsLaw" (45 : Nat) ({ cls := "EscalatedForms", name := "of", desc := "(II)I" } : Jvm.MethodName)) ∈ gw := gw_in (List.mem_append_right _ (List.mem_of_getElem? (i := 366) (by decide +kernel))) rfl
theorem w_367 : (Jvm.Cond.instanceMethod ({ cls := "EscalatedForms", name := "of", desc := "(II)I" } : Jvm.MethodName)) ∈ gw := gw_in (List.mem_append_right _ (List.mem_of_getElem? (i := 367) (by decide +kernel))) rfl
theorem w_368 : (Jvm.Cond.selects "EscalatedForms" ({ cls := "EscalatedForms", name := "of", desc := "(II)I" } : Jvm.MethodName) ({ cls := "EscalatedForms", name := "of", desc := "(II)I" } : Jvm.MethodName)) ∈ gw := gw_in (List.mem_append_right _ (List.mem_of_getElem? (i := 368) (by decide +kernel))) rfl
theorem w_369 : (Jvm.Cond.code ({ cls := "EscalatedForms", name := "of", desc := "(II)I" } : Jvm.MethodName) prog_1_method_9_code (4 : Nat) (Option.some Jvm.ClassFile.FieldType.int)) ∈ gw := gw_in (List.mem_append_right _ (List.mem_of_getElem? (i := 369) (by decide +kernel))) rfl
theorem w_370 : (Jvm.Cond.methodLink "EscalatedForms" (141 : Nat) ({ cls := "EscalatedForms$Form", name := "greatestSquare", desc := "()I" } : Jvm.MethodName)) ∈ gw := gw_in (List.mem_append_right _ (List.mem_of_getElem? (i := 370) (by decide +kernel))) rfl
theorem w_371 : (Jvm.Cond.instanceMethod ({ cls := "EscalatedForms$Form", name := "greatestSquare", desc := "()I" } : Jvm.MethodName)) ∈ gw := gw_in (List.mem_append_right _ (List.mem_of_getElem? (i := 371) (by decide +kernel))) rfl
theorem w_372 : (Jvm.Cond.selects "EscalatedForms$Form" ({ cls := "EscalatedForms$Form", name := "greatestSquare", desc := "()I" } : Jvm.MethodName) ({ cls := "EscalatedForms$Form", name := "greatestSquare", desc := "()I" } : Jvm.MethodName)) ∈ gw := gw_in (List.mem_append_right _ (List.mem_of_getElem? (i := 372) (by decide +kernel))) rfl
theorem w_373 : (Jvm.Cond.code ({ cls := "EscalatedForms$Form", name := "greatestSquare", desc := "()I" } : Jvm.MethodName) prog_5_method_2_code (3 : Nat) (Option.some Jvm.ClassFile.FieldType.int)) ∈ gw := gw_in (List.mem_append_right _ (List.mem_of_getElem? (i := 373) (by decide +kernel))) rfl
theorem w_374 : (Jvm.Cond.methodLink "EscalatedForms$Form" (36 : Nat) ({ cls := "java/lang/Math", name := "max", desc := "(II)I" } : Jvm.MethodName)) ∈ gw := gw_in (List.mem_append_right _ (List.mem_of_getElem? (i := 374) (by decide +kernel))) rfl
theorem w_375 : (Jvm.Cond.static ({ cls := "java/lang/Math", name := "max", desc := "(II)I" } : Jvm.MethodName)) ∈ gw := gw_in (List.mem_append_right _ (List.mem_of_getElem? (i := 375) (by decide +kernel))) rfl
theorem w_376 : (Jvm.Cond.code ({ cls := "java/lang/Math", name := "max", desc := "(II)I" } : Jvm.MethodName) prog_13_method_65_code (2 : Nat) (Option.some Jvm.ClassFile.FieldType.int)) ∈ gw := gw_in (List.mem_append_right _ (List.mem_of_getElem? (i := 376) (by decide +kernel))) rfl
theorem w_377 : (Jvm.Cond.methodLink "EscalatedFormsLaw" (49 : Nat) ({ cls := "EscalatedForms", name := "worth", desc := "(IIIII)J" } : Jvm.MethodName)) ∈ gw := gw_in (List.mem_append_right _ (List.mem_of_getElem? (i := 377) (by decide +kernel))) rfl
theorem w_378 : (Jvm.Cond.instanceMethod ({ cls := "EscalatedForms", name := "worth", desc := "(IIIII)J" } : Jvm.MethodName)) ∈ gw := gw_in (List.mem_append_right _ (List.mem_of_getElem? (i := 378) (by decide +kernel))) rfl
theorem w_379 : (Jvm.Cond.selects "EscalatedForms" ({ cls := "EscalatedForms", name := "worth", desc := "(IIIII)J" } : Jvm.MethodName) ({ cls := "EscalatedForms", name := "worth", desc := "(IIIII)J" } : Jvm.MethodName)) ∈ gw := gw_in (List.mem_append_right _ (List.mem_of_getElem? (i := 379) (by decide +kernel))) rfl
theorem w_380 : (Jvm.Cond.code ({ cls := "EscalatedForms", name := "worth", desc := "(IIIII)J" } : Jvm.MethodName) prog_1_method_10_code (19 : Nat) (Option.some Jvm.ClassFile.FieldType.long)) ∈ gw := gw_in (List.mem_append_right _ (List.mem_of_getElem? (i := 380) (by decide +kernel))) rfl
theorem w_381 : (Jvm.Cond.constantLong "EscalatedForms" (145 : Nat) (-1 : Int64)) ∈ gw := gw_in (List.mem_append_right _ (List.mem_of_getElem? (i := 381) (by decide +kernel))) rfl
theorem w_382 : (Jvm.Cond.constantLong "EscalatedForms" (147 : Nat) (9223372036854775807 : Int64)) ∈ gw := gw_in (List.mem_append_right _ (List.mem_of_getElem? (i := 382) (by decide +kernel))) rfl
theorem w_383 : (Jvm.Cond.methodLink "EscalatedForms" (149 : Nat) ({ cls := "java/lang/Math", name := "abs", desc := "(J)J" } : Jvm.MethodName)) ∈ gw := gw_in (List.mem_append_right _ (List.mem_of_getElem? (i := 383) (by decide +kernel))) rfl
theorem w_384 : (Jvm.Cond.static ({ cls := "java/lang/Math", name := "abs", desc := "(J)J" } : Jvm.MethodName)) ∈ gw := gw_in (List.mem_append_right _ (List.mem_of_getElem? (i := 384) (by decide +kernel))) rfl
theorem w_385 : (Jvm.Cond.code ({ cls := "java/lang/Math", name := "abs", desc := "(J)J" } : Jvm.MethodName) prog_13_method_61_code (2 : Nat) (Option.some Jvm.ClassFile.FieldType.long)) ∈ gw := gw_in (List.mem_append_right _ (List.mem_of_getElem? (i := 385) (by decide +kernel))) rfl
theorem w_386 : (Jvm.Cond.methodLink "EscalatedForms" (155 : Nat) ({ cls := "java/lang/Math", name := "abs", desc := "(I)I" } : Jvm.MethodName)) ∈ gw := gw_in (List.mem_append_right _ (List.mem_of_getElem? (i := 386) (by decide +kernel))) rfl
theorem w_387 : (Jvm.Cond.static ({ cls := "java/lang/Math", name := "abs", desc := "(I)I" } : Jvm.MethodName)) ∈ gw := gw_in (List.mem_append_right _ (List.mem_of_getElem? (i := 387) (by decide +kernel))) rfl
theorem w_388 : (Jvm.Cond.code ({ cls := "java/lang/Math", name := "abs", desc := "(I)I" } : Jvm.MethodName) prog_13_method_59_code (1 : Nat) (Option.some Jvm.ClassFile.FieldType.int)) ∈ gw := gw_in (List.mem_append_right _ (List.mem_of_getElem? (i := 388) (by decide +kernel))) rfl
theorem w_389 : (Jvm.Cond.constantLong "EscalatedForms" (157 : Nat) (-6 : Int64)) ∈ gw := gw_in (List.mem_append_right _ (List.mem_of_getElem? (i := 389) (by decide +kernel))) rfl
theorem w_390 : (Jvm.Cond.methodLink "EscalatedFormsLaw" (54 : Nat) ({ cls := "EscalatedForms", name := "change", desc := "(IIII)I" } : Jvm.MethodName)) ∈ gw := gw_in (List.mem_append_right _ (List.mem_of_getElem? (i := 390) (by decide +kernel))) rfl
theorem w_391 : (Jvm.Cond.instanceMethod ({ cls := "EscalatedForms", name := "change", desc := "(IIII)I" } : Jvm.MethodName)) ∈ gw := gw_in (List.mem_append_right _ (List.mem_of_getElem? (i := 391) (by decide +kernel))) rfl
theorem w_392 : (Jvm.Cond.selects "EscalatedForms" ({ cls := "EscalatedForms", name := "change", desc := "(IIII)I" } : Jvm.MethodName) ({ cls := "EscalatedForms", name := "change", desc := "(IIII)I" } : Jvm.MethodName)) ∈ gw := gw_in (List.mem_append_right _ (List.mem_of_getElem? (i := 392) (by decide +kernel))) rfl
theorem w_393 : (Jvm.Cond.code ({ cls := "EscalatedForms", name := "change", desc := "(IIII)I" } : Jvm.MethodName) prog_1_method_11_code (6 : Nat) (Option.some Jvm.ClassFile.FieldType.int)) ∈ gw := gw_in (List.mem_append_right _ (List.mem_of_getElem? (i := 393) (by decide +kernel))) rfl
theorem w_394 : (Jvm.Cond.methodLink "EscalatedForms" (159 : Nat) ({ cls := "EscalatedForms$Draft", name := "addLetter", desc := "(III)V" } : Jvm.MethodName)) ∈ gw := gw_in (List.mem_append_right _ (List.mem_of_getElem? (i := 394) (by decide +kernel))) rfl
theorem w_395 : (Jvm.Cond.instanceMethod ({ cls := "EscalatedForms$Draft", name := "addLetter", desc := "(III)V" } : Jvm.MethodName)) ∈ gw := gw_in (List.mem_append_right _ (List.mem_of_getElem? (i := 395) (by decide +kernel))) rfl
theorem w_396 : (Jvm.Cond.selects "EscalatedForms$Draft" ({ cls := "EscalatedForms$Draft", name := "addLetter", desc := "(III)V" } : Jvm.MethodName) ({ cls := "EscalatedForms$Draft", name := "addLetter", desc := "(III)V" } : Jvm.MethodName)) ∈ gw := gw_in (List.mem_append_right _ (List.mem_of_getElem? (i := 396) (by decide +kernel))) rfl
theorem w_397 : (Jvm.Cond.code ({ cls := "EscalatedForms$Draft", name := "addLetter", desc := "(III)V" } : Jvm.MethodName) prog_3_method_9_code (6 : Nat) (Option.none : Option Jvm.ClassFile.FieldType)) ∈ gw := gw_in (List.mem_append_right _ (List.mem_of_getElem? (i := 397) (by decide +kernel))) rfl
theorem w_398 : (Jvm.Cond.methodLink "EscalatedForms$Draft" (42 : Nat) ({ cls := "EscalatedForms$Draft", name := "set", desc := "(III)V" } : Jvm.MethodName)) ∈ gw := gw_in (List.mem_append_right _ (List.mem_of_getElem? (i := 398) (by decide +kernel))) rfl
theorem w_399 : (Jvm.Cond.methodLink "EscalatedFormsLaw" (58 : Nat) ({ cls := "EscalatedForms", name := "swap", desc := "(III)I" } : Jvm.MethodName)) ∈ gw := gw_in (List.mem_append_right _ (List.mem_of_getElem? (i := 399) (by decide +kernel))) rfl
theorem w_400 : (Jvm.Cond.instanceMethod ({ cls := "EscalatedForms", name := "swap", desc := "(III)I" } : Jvm.MethodName)) ∈ gw := gw_in (List.mem_append_right _ (List.mem_of_getElem? (i := 400) (by decide +kernel))) rfl
theorem w_401 : (Jvm.Cond.selects "EscalatedForms" ({ cls := "EscalatedForms", name := "swap", desc := "(III)I" } : Jvm.MethodName) ({ cls := "EscalatedForms", name := "swap", desc := "(III)I" } : Jvm.MethodName)) ∈ gw := gw_in (List.mem_append_right _ (List.mem_of_getElem? (i := 401) (by decide +kernel))) rfl
theorem w_402 : (Jvm.Cond.code ({ cls := "EscalatedForms", name := "swap", desc := "(III)I" } : Jvm.MethodName) prog_1_method_12_code (5 : Nat) (Option.some Jvm.ClassFile.FieldType.int)) ∈ gw := gw_in (List.mem_append_right _ (List.mem_of_getElem? (i := 402) (by decide +kernel))) rfl
theorem w_403 : (Jvm.Cond.methodLink "EscalatedForms" (162 : Nat) ({ cls := "EscalatedForms$Draft", name := "exchange", desc := "(LEscalatedForms$Form;II)V" } : Jvm.MethodName)) ∈ gw := gw_in (List.mem_append_right _ (List.mem_of_getElem? (i := 403) (by decide +kernel))) rfl
theorem w_404 : (Jvm.Cond.instanceMethod ({ cls := "EscalatedForms$Draft", name := "exchange", desc := "(LEscalatedForms$Form;II)V" } : Jvm.MethodName)) ∈ gw := gw_in (List.mem_append_right _ (List.mem_of_getElem? (i := 404) (by decide +kernel))) rfl
theorem w_405 : (Jvm.Cond.selects "EscalatedForms$Draft" ({ cls := "EscalatedForms$Draft", name := "exchange", desc := "(LEscalatedForms$Form;II)V" } : Jvm.MethodName) ({ cls := "EscalatedForms$Draft", name := "exchange", desc := "(LEscalatedForms$Form;II)V" } : Jvm.MethodName)) ∈ gw := gw_in (List.mem_append_right _ (List.mem_of_getElem? (i := 405) (by decide +kernel))) rfl
theorem w_406 : (Jvm.Cond.code ({ cls := "EscalatedForms$Draft", name := "exchange", desc := "(LEscalatedForms$Form;II)V" } : Jvm.MethodName) prog_3_method_8_code (8 : Nat) (Option.none : Option Jvm.ClassFile.FieldType)) ∈ gw := gw_in (List.mem_append_right _ (List.mem_of_getElem? (i := 406) (by decide +kernel))) rfl
theorem w_407 : (Jvm.Cond.methodLink "EscalatedFormsLaw" (62 : Nat) ({ cls := "EscalatedForms", name := "scale", desc := "(II)I" } : Jvm.MethodName)) ∈ gw := gw_in (List.mem_append_right _ (List.mem_of_getElem? (i := 407) (by decide +kernel))) rfl
theorem w_408 : (Jvm.Cond.instanceMethod ({ cls := "EscalatedForms", name := "scale", desc := "(II)I" } : Jvm.MethodName)) ∈ gw := gw_in (List.mem_append_right _ (List.mem_of_getElem? (i := 408) (by decide +kernel))) rfl
theorem w_409 : (Jvm.Cond.selects "EscalatedForms" ({ cls := "EscalatedForms", name := "scale", desc := "(II)I" } : Jvm.MethodName) ({ cls := "EscalatedForms", name := "scale", desc := "(II)I" } : Jvm.MethodName)) ∈ gw := gw_in (List.mem_append_right _ (List.mem_of_getElem? (i := 409) (by decide +kernel))) rfl
theorem w_410 : (Jvm.Cond.code ({ cls := "EscalatedForms", name := "scale", desc := "(II)I" } : Jvm.MethodName) prog_1_method_13_code (4 : Nat) (Option.some Jvm.ClassFile.FieldType.int)) ∈ gw := gw_in (List.mem_append_right _ (List.mem_of_getElem? (i := 410) (by decide +kernel))) rfl
theorem w_411 : (Jvm.Cond.methodLink "EscalatedForms" (166 : Nat) ({ cls := "EscalatedForms$Draft", name := "multiply", desc := "(I)V" } : Jvm.MethodName)) ∈ gw := gw_in (List.mem_append_right _ (List.mem_of_getElem? (i := 411) (by decide +kernel))) rfl
theorem w_412 : (Jvm.Cond.instanceMethod ({ cls := "EscalatedForms$Draft", name := "multiply", desc := "(I)V" } : Jvm.MethodName)) ∈ gw := gw_in (List.mem_append_right _ (List.mem_of_getElem? (i := 412) (by decide +kernel))) rfl
theorem w_413 : (Jvm.Cond.selects "EscalatedForms$Draft" ({ cls := "EscalatedForms$Draft", name := "multiply", desc := "(I)V" } : Jvm.MethodName) ({ cls := "EscalatedForms$Draft", name := "multiply", desc := "(I)V" } : Jvm.MethodName)) ∈ gw := gw_in (List.mem_append_right _ (List.mem_of_getElem? (i := 413) (by decide +kernel))) rfl
theorem w_414 : (Jvm.Cond.code ({ cls := "EscalatedForms$Draft", name := "multiply", desc := "(I)V" } : Jvm.MethodName) prog_3_method_7_code (3 : Nat) (Option.none : Option Jvm.ClassFile.FieldType)) ∈ gw := gw_in (List.mem_append_right _ (List.mem_of_getElem? (i := 414) (by decide +kernel))) rfl
theorem w_415 : (Jvm.Cond.methodLink "EscalatedFormsLaw" (66 : Nat) ({ cls := "EscalatedForms", name := "join", desc := "(III)I" } : Jvm.MethodName)) ∈ gw := gw_in (List.mem_append_right _ (List.mem_of_getElem? (i := 415) (by decide +kernel))) rfl
theorem w_416 : (Jvm.Cond.instanceMethod ({ cls := "EscalatedForms", name := "join", desc := "(III)I" } : Jvm.MethodName)) ∈ gw := gw_in (List.mem_append_right _ (List.mem_of_getElem? (i := 416) (by decide +kernel))) rfl
theorem w_417 : (Jvm.Cond.selects "EscalatedForms" ({ cls := "EscalatedForms", name := "join", desc := "(III)I" } : Jvm.MethodName) ({ cls := "EscalatedForms", name := "join", desc := "(III)I" } : Jvm.MethodName)) ∈ gw := gw_in (List.mem_append_right _ (List.mem_of_getElem? (i := 417) (by decide +kernel))) rfl
theorem w_418 : (Jvm.Cond.code ({ cls := "EscalatedForms", name := "join", desc := "(III)I" } : Jvm.MethodName) prog_1_method_14_code (7 : Nat) (Option.some Jvm.ClassFile.FieldType.int)) ∈ gw := gw_in (List.mem_append_right _ (List.mem_of_getElem? (i := 418) (by decide +kernel))) rfl
theorem w_419 : (Jvm.Cond.methodLink "EscalatedForms" (169 : Nat) ({ cls := "EscalatedForms$Draft", name := "paste", desc := "(LEscalatedForms$Form;I)V" } : Jvm.MethodName)) ∈ gw := gw_in (List.mem_append_right _ (List.mem_of_getElem? (i := 419) (by decide +kernel))) rfl
theorem w_420 : (Jvm.Cond.instanceMethod ({ cls := "EscalatedForms$Draft", name := "paste", desc := "(LEscalatedForms$Form;I)V" } : Jvm.MethodName)) ∈ gw := gw_in (List.mem_append_right _ (List.mem_of_getElem? (i := 420) (by decide +kernel))) rfl
theorem w_421 : (Jvm.Cond.selects "EscalatedForms$Draft" ({ cls := "EscalatedForms$Draft", name := "paste", desc := "(LEscalatedForms$Form;I)V" } : Jvm.MethodName) ({ cls := "EscalatedForms$Draft", name := "paste", desc := "(LEscalatedForms$Form;I)V" } : Jvm.MethodName)) ∈ gw := gw_in (List.mem_append_right _ (List.mem_of_getElem? (i := 421) (by decide +kernel))) rfl
theorem w_422 : (Jvm.Cond.code ({ cls := "EscalatedForms$Draft", name := "paste", desc := "(LEscalatedForms$Form;I)V" } : Jvm.MethodName) prog_3_method_6_code (5 : Nat) (Option.none : Option Jvm.ClassFile.FieldType)) ∈ gw := gw_in (List.mem_append_right _ (List.mem_of_getElem? (i := 422) (by decide +kernel))) rfl
theorem w_423 : (Jvm.Cond.methodLink "EscalatedFormsLaw" (70 : Nat) ({ cls := "EscalatedForms", name := "reduce", desc := "(I)I" } : Jvm.MethodName)) ∈ gw := gw_in (List.mem_append_right _ (List.mem_of_getElem? (i := 423) (by decide +kernel))) rfl
theorem w_424 : (Jvm.Cond.instanceMethod ({ cls := "EscalatedForms", name := "reduce", desc := "(I)I" } : Jvm.MethodName)) ∈ gw := gw_in (List.mem_append_right _ (List.mem_of_getElem? (i := 424) (by decide +kernel))) rfl
theorem w_425 : (Jvm.Cond.selects "EscalatedForms" ({ cls := "EscalatedForms", name := "reduce", desc := "(I)I" } : Jvm.MethodName) ({ cls := "EscalatedForms", name := "reduce", desc := "(I)I" } : Jvm.MethodName)) ∈ gw := gw_in (List.mem_append_right _ (List.mem_of_getElem? (i := 425) (by decide +kernel))) rfl
theorem w_426 : (Jvm.Cond.code ({ cls := "EscalatedForms", name := "reduce", desc := "(I)I" } : Jvm.MethodName) prog_1_method_15_code (4 : Nat) (Option.some Jvm.ClassFile.FieldType.int)) ∈ gw := gw_in (List.mem_append_right _ (List.mem_of_getElem? (i := 426) (by decide +kernel))) rfl
theorem w_427 : (Jvm.Cond.constant "EscalatedForms" (173 : Nat) (4000000 : Int32)) ∈ gw := gw_in (List.mem_append_right _ (List.mem_of_getElem? (i := 427) (by decide +kernel))) rfl
theorem w_428 : (Jvm.Cond.methodLink "EscalatedForms" (174 : Nat) ({ cls := "EscalatedForms$Draft", name := "reduceOnce", desc := "()Z" } : Jvm.MethodName)) ∈ gw := gw_in (List.mem_append_right _ (List.mem_of_getElem? (i := 428) (by decide +kernel))) rfl
theorem w_429 : (Jvm.Cond.instanceMethod ({ cls := "EscalatedForms$Draft", name := "reduceOnce", desc := "()Z" } : Jvm.MethodName)) ∈ gw := gw_in (List.mem_append_right _ (List.mem_of_getElem? (i := 429) (by decide +kernel))) rfl
theorem w_430 : (Jvm.Cond.selects "EscalatedForms$Draft" ({ cls := "EscalatedForms$Draft", name := "reduceOnce", desc := "()Z" } : Jvm.MethodName) ({ cls := "EscalatedForms$Draft", name := "reduceOnce", desc := "()Z" } : Jvm.MethodName)) ∈ gw := gw_in (List.mem_append_right _ (List.mem_of_getElem? (i := 430) (by decide +kernel))) rfl
theorem w_431 : (Jvm.Cond.code ({ cls := "EscalatedForms$Draft", name := "reduceOnce", desc := "()Z" } : Jvm.MethodName) prog_3_method_10_code (6 : Nat) (Option.some Jvm.ClassFile.FieldType.boolean)) ∈ gw := gw_in (List.mem_append_right _ (List.mem_of_getElem? (i := 431) (by decide +kernel))) rfl
theorem w_432 : (Jvm.Cond.methodLink "EscalatedForms$Draft" (50 : Nat) ({ cls := "java/lang/Math", name := "abs", desc := "(I)I" } : Jvm.MethodName)) ∈ gw := gw_in (List.mem_append_right _ (List.mem_of_getElem? (i := 432) (by decide +kernel))) rfl
theorem w_433 : (Jvm.Cond.methodLink "EscalatedForms$Draft" (56 : Nat) ({ cls := "EscalatedForms$Draft", name := "addLetter", desc := "(III)V" } : Jvm.MethodName)) ∈ gw := gw_in (List.mem_append_right _ (List.mem_of_getElem? (i := 433) (by decide +kernel))) rfl
theorem w_434 : (Jvm.Cond.methodLink "EscalatedFormsLaw" (74 : Nat) ({ cls := "EscalatedForms", name := "same", desc := "(II)I" } : Jvm.MethodName)) ∈ gw := gw_in (List.mem_append_right _ (List.mem_of_getElem? (i := 434) (by decide +kernel))) rfl
theorem w_435 : (Jvm.Cond.instanceMethod ({ cls := "EscalatedForms", name := "same", desc := "(II)I" } : Jvm.MethodName)) ∈ gw := gw_in (List.mem_append_right _ (List.mem_of_getElem? (i := 435) (by decide +kernel))) rfl
theorem w_436 : (Jvm.Cond.selects "EscalatedForms" ({ cls := "EscalatedForms", name := "same", desc := "(II)I" } : Jvm.MethodName) ({ cls := "EscalatedForms", name := "same", desc := "(II)I" } : Jvm.MethodName)) ∈ gw := gw_in (List.mem_append_right _ (List.mem_of_getElem? (i := 436) (by decide +kernel))) rfl
theorem w_437 : (Jvm.Cond.code ({ cls := "EscalatedForms", name := "same", desc := "(II)I" } : Jvm.MethodName) prog_1_method_16_code (6 : Nat) (Option.some Jvm.ClassFile.FieldType.int)) ∈ gw := gw_in (List.mem_append_right _ (List.mem_of_getElem? (i := 437) (by decide +kernel))) rfl
theorem w_438 : (Jvm.Cond.methodLink "EscalatedFormsLaw" (78 : Nat) ({ cls := "EscalatedForms", name := "unlike", desc := "(II)I" } : Jvm.MethodName)) ∈ gw := gw_in (List.mem_append_right _ (List.mem_of_getElem? (i := 438) (by decide +kernel))) rfl
theorem w_439 : (Jvm.Cond.instanceMethod ({ cls := "EscalatedForms", name := "unlike", desc := "(II)I" } : Jvm.MethodName)) ∈ gw := gw_in (List.mem_append_right _ (List.mem_of_getElem? (i := 439) (by decide +kernel))) rfl
theorem w_440 : (Jvm.Cond.selects "EscalatedForms" ({ cls := "EscalatedForms", name := "unlike", desc := "(II)I" } : Jvm.MethodName) ({ cls := "EscalatedForms", name := "unlike", desc := "(II)I" } : Jvm.MethodName)) ∈ gw := gw_in (List.mem_append_right _ (List.mem_of_getElem? (i := 440) (by decide +kernel))) rfl
theorem w_441 : (Jvm.Cond.code ({ cls := "EscalatedForms", name := "unlike", desc := "(II)I" } : Jvm.MethodName) prog_1_method_17_code (8 : Nat) (Option.some Jvm.ClassFile.FieldType.int)) ∈ gw := gw_in (List.mem_append_right _ (List.mem_of_getElem? (i := 441) (by decide +kernel))) rfl
theorem w_442 : (Jvm.Cond.methodLink "EscalatedForms" (177 : Nat) ({ cls := "EscalatedForms", name := "takenBy", desc := "(LEscalatedForms$Form;)LEscalatedForms$Taken;" } : Jvm.MethodName)) ∈ gw := gw_in (List.mem_append_right _ (List.mem_of_getElem? (i := 442) (by decide +kernel))) rfl
theorem w_444 : (Jvm.Cond.instanceMethod ({ cls := "EscalatedForms", name := "takenBy", desc := "(LEscalatedForms$Form;)LEscalatedForms$Taken;" } : Jvm.MethodName)) ∈ gw := gw_in (List.mem_append_right _ (List.mem_of_getElem? (i := 444) (by decide +kernel))) rfl
theorem w_445 : (Jvm.Cond.code ({ cls := "EscalatedForms", name := "takenBy", desc := "(LEscalatedForms$Form;)LEscalatedForms$Taken;" } : Jvm.MethodName) prog_1_method_55_code (2 : Nat) (Option.some (Jvm.ClassFile.FieldType.object "EscalatedForms$Taken"))) ∈ gw := gw_in (List.mem_append_right _ (List.mem_of_getElem? (i := 445) (by decide +kernel))) rfl
theorem w_446 : (Jvm.Cond.classLink "EscalatedForms" (182 : Nat) "EscalatedForms$Taken") ∈ gw := gw_in (List.mem_append_right _ (List.mem_of_getElem? (i := 446) (by decide +kernel))) rfl
theorem w_447 : (Jvm.Cond.instantiable "EscalatedForms$Taken" (2 : Nat)) ∈ gw := gw_in (List.mem_append_right _ (List.mem_of_getElem? (i := 447) (by decide +kernel))) rfl
theorem w_448 : (Jvm.Cond.methodLink "EscalatedForms" (319 : Nat) ({ cls := "EscalatedForms$Taken", name := "<init>", desc := "(LEscalatedForms$Form;LEscalatedForms$Ellipsoid;)V" } : Jvm.MethodName)) ∈ gw := gw_in (List.mem_append_right _ (List.mem_of_getElem? (i := 448) (by decide +kernel))) rfl
theorem w_449 : (Jvm.Cond.instanceMethod ({ cls := "EscalatedForms$Taken", name := "<init>", desc := "(LEscalatedForms$Form;LEscalatedForms$Ellipsoid;)V" } : Jvm.MethodName)) ∈ gw := gw_in (List.mem_append_right _ (List.mem_of_getElem? (i := 449) (by decide +kernel))) rfl
theorem w_450 : (Jvm.Cond.code ({ cls := "EscalatedForms$Taken", name := "<init>", desc := "(LEscalatedForms$Form;LEscalatedForms$Ellipsoid;)V" } : Jvm.MethodName) prog_8_method_1_code (6 : Nat) (Option.none : Option Jvm.ClassFile.FieldType)) ∈ gw := gw_in (List.mem_append_right _ (List.mem_of_getElem? (i := 450) (by decide +kernel))) rfl
theorem w_451 : (Jvm.Cond.methodLink "EscalatedForms$Taken" (3 : Nat) ({ cls := "java/lang/Object", name := "<init>", desc := "()V" } : Jvm.MethodName)) ∈ gw := gw_in (List.mem_append_right _ (List.mem_of_getElem? (i := 451) (by decide +kernel))) rfl
theorem w_452 : (Jvm.Cond.methodLink "EscalatedForms$Taken" (27 : Nat) ({ cls := "EscalatedForms$Ellipsoid", name := "openWorths", desc := "(I[II)V" } : Jvm.MethodName)) ∈ gw := gw_in (List.mem_append_right _ (List.mem_of_getElem? (i := 452) (by decide +kernel))) rfl
theorem w_453 : (Jvm.Cond.instanceMethod ({ cls := "EscalatedForms$Ellipsoid", name := "openWorths", desc := "(I[II)V" } : Jvm.MethodName)) ∈ gw := gw_in (List.mem_append_right _ (List.mem_of_getElem? (i := 453) (by decide +kernel))) rfl
theorem w_454 : (Jvm.Cond.selects "EscalatedForms$Ellipsoid" ({ cls := "EscalatedForms$Ellipsoid", name := "openWorths", desc := "(I[II)V" } : Jvm.MethodName) ({ cls := "EscalatedForms$Ellipsoid", name := "openWorths", desc := "(I[II)V" } : Jvm.MethodName)) ∈ gw := gw_in (List.mem_append_right _ (List.mem_of_getElem? (i := 454) (by decide +kernel))) rfl
theorem w_455 : (Jvm.Cond.code ({ cls := "EscalatedForms$Ellipsoid", name := "openWorths", desc := "(I[II)V" } : Jvm.MethodName) prog_4_method_2_code (7 : Nat) (Option.none : Option Jvm.ClassFile.FieldType)) ∈ gw := gw_in (List.mem_append_right _ (List.mem_of_getElem? (i := 455) (by decide +kernel))) rfl
theorem w_456 : (Jvm.Cond.methodLink "EscalatedForms$Ellipsoid" (45 : Nat) ({ cls := "EscalatedForms$Ellipsoid", name := "eliminateAhead", desc := "(IJ)V" } : Jvm.MethodName)) ∈ gw := gw_in (List.mem_append_right _ (List.mem_of_getElem? (i := 456) (by decide +kernel))) rfl
theorem w_458 : (Jvm.Cond.instanceMethod ({ cls := "EscalatedForms$Ellipsoid", name := "eliminateAhead", desc := "(IJ)V" } : Jvm.MethodName)) ∈ gw := gw_in (List.mem_append_right _ (List.mem_of_getElem? (i := 458) (by decide +kernel))) rfl
theorem w_459 : (Jvm.Cond.code ({ cls := "EscalatedForms$Ellipsoid", name := "eliminateAhead", desc := "(IJ)V" } : Jvm.MethodName) prog_4_method_3_code (10 : Nat) (Option.none : Option Jvm.ClassFile.FieldType)) ∈ gw := gw_in (List.mem_append_right _ (List.mem_of_getElem? (i := 459) (by decide +kernel))) rfl
theorem w_460 : (Jvm.Cond.methodLink "EscalatedForms$Ellipsoid" (49 : Nat) ({ cls := "EscalatedForms$Ellipsoid", name := "enter", desc := "(I)V" } : Jvm.MethodName)) ∈ gw := gw_in (List.mem_append_right _ (List.mem_of_getElem? (i := 460) (by decide +kernel))) rfl
theorem w_462 : (Jvm.Cond.instanceMethod ({ cls := "EscalatedForms$Ellipsoid", name := "enter", desc := "(I)V" } : Jvm.MethodName)) ∈ gw := gw_in (List.mem_append_right _ (List.mem_of_getElem? (i := 462) (by decide +kernel))) rfl
theorem w_463 : (Jvm.Cond.code ({ cls := "EscalatedForms$Ellipsoid", name := "enter", desc := "(I)V" } : Jvm.MethodName) prog_4_method_5_code (9 : Nat) (Option.none : Option Jvm.ClassFile.FieldType)) ∈ gw := gw_in (List.mem_append_right _ (List.mem_of_getElem? (i := 463) (by decide +kernel))) rfl
theorem w_465 : (Jvm.Cond.methodLink "EscalatedForms$Ellipsoid" (75 : Nat) ({ cls := "java/lang/Math", name := "floorDiv", desc := "(JJ)J" } : Jvm.MethodName)) ∈ gw := gw_in (List.mem_append_right _ (List.mem_of_getElem? (i := 465) (by decide +kernel))) rfl
theorem w_466 : (Jvm.Cond.static ({ cls := "java/lang/Math", name := "floorDiv", desc := "(JJ)J" } : Jvm.MethodName)) ∈ gw := gw_in (List.mem_append_right _ (List.mem_of_getElem? (i := 466) (by decide +kernel))) rfl
theorem w_467 : (Jvm.Cond.code ({ cls := "java/lang/Math", name := "floorDiv", desc := "(JJ)J" } : Jvm.MethodName) prog_13_method_49_code (6 : Nat) (Option.some Jvm.ClassFile.FieldType.long)) ∈ gw := gw_in (List.mem_append_right _ (List.mem_of_getElem? (i := 467) (by decide +kernel))) rfl
theorem w_468 : (Jvm.Cond.constant "EscalatedForms$Taken" (33 : Nat) (4000000 : Int32)) ∈ gw := gw_in (List.mem_append_right _ (List.mem_of_getElem? (i := 468) (by decide +kernel))) rfl
theorem w_469 : (Jvm.Cond.methodLink "EscalatedForms$Taken" (34 : Nat) ({ cls := "EscalatedForms$Ellipsoid", name := "advance", desc := "()Z" } : Jvm.MethodName)) ∈ gw := gw_in (List.mem_append_right _ (List.mem_of_getElem? (i := 469) (by decide +kernel))) rfl
theorem w_470 : (Jvm.Cond.instanceMethod ({ cls := "EscalatedForms$Ellipsoid", name := "advance", desc := "()Z" } : Jvm.MethodName)) ∈ gw := gw_in (List.mem_append_right _ (List.mem_of_getElem? (i := 470) (by decide +kernel))) rfl
theorem w_471 : (Jvm.Cond.selects "EscalatedForms$Ellipsoid" ({ cls := "EscalatedForms$Ellipsoid", name := "advance", desc := "()Z" } : Jvm.MethodName) ({ cls := "EscalatedForms$Ellipsoid", name := "advance", desc := "()Z" } : Jvm.MethodName)) ∈ gw := gw_in (List.mem_append_right _ (List.mem_of_getElem? (i := 471) (by decide +kernel))) rfl
theorem w_472 : (Jvm.Cond.code ({ cls := "EscalatedForms$Ellipsoid", name := "advance", desc := "()Z" } : Jvm.MethodName) prog_4_method_6_code (2 : Nat) (Option.some Jvm.ClassFile.FieldType.boolean)) ∈ gw := gw_in (List.mem_append_right _ (List.mem_of_getElem? (i := 472) (by decide +kernel))) rfl
theorem w_473 : (Jvm.Cond.constant "EscalatedForms$Ellipsoid" (79 : Nat) (4000000 : Int32)) ∈ gw := gw_in (List.mem_append_right _ (List.mem_of_getElem? (i := 473) (by decide +kernel))) rfl
theorem w_474 : (Jvm.Cond.methodLink "EscalatedForms$Ellipsoid" (80 : Nat) ({ cls := "EscalatedForms$Ellipsoid", name := "narrow", desc := "(I)V" } : Jvm.MethodName)) ∈ gw := gw_in (List.mem_append_right _ (List.mem_of_getElem? (i := 474) (by decide +kernel))) rfl
theorem w_476 : (Jvm.Cond.instanceMethod ({ cls := "EscalatedForms$Ellipsoid", name := "narrow", desc := "(I)V" } : Jvm.MethodName)) ∈ gw := gw_in (List.mem_append_right _ (List.mem_of_getElem? (i := 476) (by decide +kernel))) rfl
theorem w_477 : (Jvm.Cond.code ({ cls := "EscalatedForms$Ellipsoid", name := "narrow", desc := "(I)V" } : Jvm.MethodName) prog_4_method_7_code (6 : Nat) (Option.none : Option Jvm.ClassFile.FieldType)) ∈ gw := gw_in (List.mem_append_right _ (List.mem_of_getElem? (i := 477) (by decide +kernel))) rfl
theorem w_478 : (Jvm.Cond.methodLink "EscalatedForms$Taken" (38 : Nat) ({ cls := "EscalatedForms$Ellipsoid", name := "worthHere", desc := "()I" } : Jvm.MethodName)) ∈ gw := gw_in (List.mem_append_right _ (List.mem_of_getElem? (i := 478) (by decide +kernel))) rfl
theorem w_479 : (Jvm.Cond.instanceMethod ({ cls := "EscalatedForms$Ellipsoid", name := "worthHere", desc := "()I" } : Jvm.MethodName)) ∈ gw := gw_in (List.mem_append_right _ (List.mem_of_getElem? (i := 479) (by decide +kernel))) rfl
theorem w_480 : (Jvm.Cond.selects "EscalatedForms$Ellipsoid" ({ cls := "EscalatedForms$Ellipsoid", name := "worthHere", desc := "()I" } : Jvm.MethodName) ({ cls := "EscalatedForms$Ellipsoid", name := "worthHere", desc := "()I" } : Jvm.MethodName)) ∈ gw := gw_in (List.mem_append_right _ (List.mem_of_getElem? (i := 480) (by decide +kernel))) rfl
theorem w_481 : (Jvm.Cond.code ({ cls := "EscalatedForms$Ellipsoid", name := "worthHere", desc := "()I" } : Jvm.MethodName) prog_4_method_8_code (1 : Nat) (Option.some Jvm.ClassFile.FieldType.int)) ∈ gw := gw_in (List.mem_append_right _ (List.mem_of_getElem? (i := 481) (by decide +kernel))) rfl
theorem w_482 : (Jvm.Cond.methodLink "EscalatedForms$Taken" (45 : Nat) ({ cls := "java/lang/System", name := "arraycopy", desc := "(Ljava/lang/Object;ILjava/lang/Object;II)V" } : Jvm.MethodName)) ∈ gw := gw_in (List.mem_append_right _ (List.mem_of_getElem? (i := 482) (by decide +kernel))) rfl
theorem w_483 : (Jvm.Cond.fieldLink "EscalatedForms$Taken" (9 : Nat) "EscalatedForms$Taken" "counts" "[I") ∈ gw := gw_in (List.mem_append_right _ (List.mem_of_getElem? (i := 483) (by decide +kernel))) rfl
theorem w_484 : (Jvm.Cond.fieldLink "EscalatedForms" (181 : Nat) "EscalatedForms$Taken" "counts" "[I") ∈ gw := gw_in (List.mem_append_right _ (List.mem_of_getElem? (i := 484) (by decide +kernel))) rfl
theorem w_485 : (Jvm.Cond.fieldLink "EscalatedForms$Taken" (21 : Nat) "EscalatedForms$Taken" "firsts" "[I") ∈ gw := gw_in (List.mem_append_right _ (List.mem_of_getElem? (i := 485) (by decide +kernel))) rfl
theorem w_486 : (Jvm.Cond.fieldLink "EscalatedForms" (186 : Nat) "EscalatedForms$Taken" "firsts" "[I") ∈ gw := gw_in (List.mem_append_right _ (List.mem_of_getElem? (i := 486) (by decide +kernel))) rfl
theorem w_492 : (Jvm.Cond.methodLink "EscalatedFormsLaw" (82 : Nat) ({ cls := "EscalatedForms", name := "takes", desc := "(II)I" } : Jvm.MethodName)) ∈ gw := gw_in (List.mem_append_right _ (List.mem_of_getElem? (i := 492) (by decide +kernel))) rfl
theorem w_493 : (Jvm.Cond.instanceMethod ({ cls := "EscalatedForms", name := "takes", desc := "(II)I" } : Jvm.MethodName)) ∈ gw := gw_in (List.mem_append_right _ (List.mem_of_getElem? (i := 493) (by decide +kernel))) rfl
theorem w_494 : (Jvm.Cond.selects "EscalatedForms" ({ cls := "EscalatedForms", name := "takes", desc := "(II)I" } : Jvm.MethodName) ({ cls := "EscalatedForms", name := "takes", desc := "(II)I" } : Jvm.MethodName)) ∈ gw := gw_in (List.mem_append_right _ (List.mem_of_getElem? (i := 494) (by decide +kernel))) rfl
theorem w_495 : (Jvm.Cond.code ({ cls := "EscalatedForms", name := "takes", desc := "(II)I" } : Jvm.MethodName) prog_1_method_18_code (4 : Nat) (Option.some Jvm.ClassFile.FieldType.int)) ∈ gw := gw_in (List.mem_append_right _ (List.mem_of_getElem? (i := 495) (by decide +kernel))) rfl
theorem w_496 : (Jvm.Cond.methodLink "EscalatedFormsLaw" (86 : Nat) ({ cls := "EscalatedForms", name := "vector", desc := "(III)I" } : Jvm.MethodName)) ∈ gw := gw_in (List.mem_append_right _ (List.mem_of_getElem? (i := 496) (by decide +kernel))) rfl
theorem w_497 : (Jvm.Cond.instanceMethod ({ cls := "EscalatedForms", name := "vector", desc := "(III)I" } : Jvm.MethodName)) ∈ gw := gw_in (List.mem_append_right _ (List.mem_of_getElem? (i := 497) (by decide +kernel))) rfl
theorem w_498 : (Jvm.Cond.selects "EscalatedForms" ({ cls := "EscalatedForms", name := "vector", desc := "(III)I" } : Jvm.MethodName) ({ cls := "EscalatedForms", name := "vector", desc := "(III)I" } : Jvm.MethodName)) ∈ gw := gw_in (List.mem_append_right _ (List.mem_of_getElem? (i := 498) (by decide +kernel))) rfl
theorem w_499 : (Jvm.Cond.code ({ cls := "EscalatedForms", name := "vector", desc := "(III)I" } : Jvm.MethodName) prog_1_method_19_code (6 : Nat) (Option.some Jvm.ClassFile.FieldType.int)) ∈ gw := gw_in (List.mem_append_right _ (List.mem_of_getElem? (i := 499) (by decide +kernel))) rfl
theorem w_500 : (Jvm.Cond.methodLink "EscalatedFormsLaw" (90 : Nat) ({ cls := "EscalatedForms", name := "truant", desc := "(I)I" } : Jvm.MethodName)) ∈ gw := gw_in (List.mem_append_right _ (List.mem_of_getElem? (i := 500) (by decide +kernel))) rfl
theorem w_501 : (Jvm.Cond.instanceMethod ({ cls := "EscalatedForms", name := "truant", desc := "(I)I" } : Jvm.MethodName)) ∈ gw := gw_in (List.mem_append_right _ (List.mem_of_getElem? (i := 501) (by decide +kernel))) rfl
theorem w_502 : (Jvm.Cond.selects "EscalatedForms" ({ cls := "EscalatedForms", name := "truant", desc := "(I)I" } : Jvm.MethodName) ({ cls := "EscalatedForms", name := "truant", desc := "(I)I" } : Jvm.MethodName)) ∈ gw := gw_in (List.mem_append_right _ (List.mem_of_getElem? (i := 502) (by decide +kernel))) rfl
theorem w_503 : (Jvm.Cond.code ({ cls := "EscalatedForms", name := "truant", desc := "(I)I" } : Jvm.MethodName) prog_1_method_20_code (4 : Nat) (Option.some Jvm.ClassFile.FieldType.int)) ∈ gw := gw_in (List.mem_append_right _ (List.mem_of_getElem? (i := 503) (by decide +kernel))) rfl
theorem w_504 : (Jvm.Cond.methodLink "EscalatedForms" (189 : Nat) ({ cls := "EscalatedForms$Taken", name := "firstLacking", desc := "()I" } : Jvm.MethodName)) ∈ gw := gw_in (List.mem_append_right _ (List.mem_of_getElem? (i := 504) (by decide +kernel))) rfl
theorem w_505 : (Jvm.Cond.instanceMethod ({ cls := "EscalatedForms$Taken", name := "firstLacking", desc := "()I" } : Jvm.MethodName)) ∈ gw := gw_in (List.mem_append_right _ (List.mem_of_getElem? (i := 505) (by decide +kernel))) rfl
theorem w_506 : (Jvm.Cond.selects "EscalatedForms$Taken" ({ cls := "EscalatedForms$Taken", name := "firstLacking", desc := "()I" } : Jvm.MethodName) ({ cls := "EscalatedForms$Taken", name := "firstLacking", desc := "()I" } : Jvm.MethodName)) ∈ gw := gw_in (List.mem_append_right _ (List.mem_of_getElem? (i := 506) (by decide +kernel))) rfl
theorem w_507 : (Jvm.Cond.code ({ cls := "EscalatedForms$Taken", name := "firstLacking", desc := "()I" } : Jvm.MethodName) prog_8_method_2_code (2 : Nat) (Option.some Jvm.ClassFile.FieldType.int)) ∈ gw := gw_in (List.mem_append_right _ (List.mem_of_getElem? (i := 507) (by decide +kernel))) rfl
theorem w_508 : (Jvm.Cond.methodLink "EscalatedFormsLaw" (94 : Nat) ({ cls := "EscalatedForms", name := "exceptions", desc := "(III)I" } : Jvm.MethodName)) ∈ gw := gw_in (List.mem_append_right _ (List.mem_of_getElem? (i := 508) (by decide +kernel))) rfl
theorem w_509 : (Jvm.Cond.instanceMethod ({ cls := "EscalatedForms", name := "exceptions", desc := "(III)I" } : Jvm.MethodName)) ∈ gw := gw_in (List.mem_append_right _ (List.mem_of_getElem? (i := 509) (by decide +kernel))) rfl
theorem w_510 : (Jvm.Cond.selects "EscalatedForms" ({ cls := "EscalatedForms", name := "exceptions", desc := "(III)I" } : Jvm.MethodName) ({ cls := "EscalatedForms", name := "exceptions", desc := "(III)I" } : Jvm.MethodName)) ∈ gw := gw_in (List.mem_append_right _ (List.mem_of_getElem? (i := 510) (by decide +kernel))) rfl
theorem w_511 : (Jvm.Cond.code ({ cls := "EscalatedForms", name := "exceptions", desc := "(III)I" } : Jvm.MethodName) prog_1_method_21_code (10 : Nat) (Option.some Jvm.ClassFile.FieldType.int)) ∈ gw := gw_in (List.mem_append_right _ (List.mem_of_getElem? (i := 511) (by decide +kernel))) rfl
theorem w_512 : (Jvm.Cond.methodLink "EscalatedForms" (192 : Nat) ({ cls := "EscalatedForms", name := "barrierOf", desc := "(LEscalatedForms$Form;I)I" } : Jvm.MethodName)) ∈ gw := gw_in (List.mem_append_right _ (List.mem_of_getElem? (i := 512) (by decide +kernel))) rfl
theorem w_514 : (Jvm.Cond.instanceMethod ({ cls := "EscalatedForms", name := "barrierOf", desc := "(LEscalatedForms$Form;I)I" } : Jvm.MethodName)) ∈ gw := gw_in (List.mem_append_right _ (List.mem_of_getElem? (i := 514) (by decide +kernel))) rfl
theorem w_515 : (Jvm.Cond.code ({ cls := "EscalatedForms", name := "barrierOf", desc := "(LEscalatedForms$Form;I)I" } : Jvm.MethodName) prog_1_method_56_code (4 : Nat) (Option.some Jvm.ClassFile.FieldType.int)) ∈ gw := gw_in (List.mem_append_right _ (List.mem_of_getElem? (i := 515) (by decide +kernel))) rfl
theorem w_516 : (Jvm.Cond.methodLink "EscalatedForms" (196 : Nat) ({ cls := "EscalatedForms$Remainders", name := "bitsOf", desc := "(LEscalatedForms$Form;I)I" } : Jvm.MethodName)) ∈ gw := gw_in (List.mem_append_right _ (List.mem_of_getElem? (i := 516) (by decide +kernel))) rfl
theorem w_517 : (Jvm.Cond.instanceMethod ({ cls := "EscalatedForms$Remainders", name := "bitsOf", desc := "(LEscalatedForms$Form;I)I" } : Jvm.MethodName)) ∈ gw := gw_in (List.mem_append_right _ (List.mem_of_getElem? (i := 517) (by decide +kernel))) rfl
theorem w_518 : (Jvm.Cond.selects "EscalatedForms$Remainders" ({ cls := "EscalatedForms$Remainders", name := "bitsOf", desc := "(LEscalatedForms$Form;I)I" } : Jvm.MethodName) ({ cls := "EscalatedForms$Remainders", name := "bitsOf", desc := "(LEscalatedForms$Form;I)I" } : Jvm.MethodName)) ∈ gw := gw_in (List.mem_append_right _ (List.mem_of_getElem? (i := 518) (by decide +kernel))) rfl
theorem w_519 : (Jvm.Cond.code ({ cls := "EscalatedForms$Remainders", name := "bitsOf", desc := "(LEscalatedForms$Form;I)I" } : Jvm.MethodName) prog_6_method_2_code (3 : Nat) (Option.some Jvm.ClassFile.FieldType.int)) ∈ gw := gw_in (List.mem_append_right _ (List.mem_of_getElem? (i := 519) (by decide +kernel))) rfl
theorem w_520 : (Jvm.Cond.methodLink "EscalatedForms$Remainders" (24 : Nat) ({ cls := "EscalatedForms$Remainders", name := "foundBits", desc := "(LEscalatedForms$Form;I)I" } : Jvm.MethodName)) ∈ gw := gw_in (List.mem_append_right _ (List.mem_of_getElem? (i := 520) (by decide +kernel))) rfl
theorem w_522 : (Jvm.Cond.instanceMethod ({ cls := "EscalatedForms$Remainders", name := "foundBits", desc := "(LEscalatedForms$Form;I)I" } : Jvm.MethodName)) ∈ gw := gw_in (List.mem_append_right _ (List.mem_of_getElem? (i := 522) (by decide +kernel))) rfl
theorem w_523 : (Jvm.Cond.code ({ cls := "EscalatedForms$Remainders", name := "foundBits", desc := "(LEscalatedForms$Form;I)I" } : Jvm.MethodName) prog_6_method_3_code (12 : Nat) (Option.some Jvm.ClassFile.FieldType.int)) ∈ gw := gw_in (List.mem_append_right _ (List.mem_of_getElem? (i := 523) (by decide +kernel))) rfl
theorem w_524 : (Jvm.Cond.methodLink "EscalatedForms$Remainders" (28 : Nat) ({ cls := "java/util/Arrays", name := "fill", desc := "([BB)V" } : Jvm.MethodName)) ∈ gw := gw_in (List.mem_append_right _ (List.mem_of_getElem? (i := 524) (by decide +kernel))) rfl
theorem w_525 : (Jvm.Cond.static ({ cls := "java/util/Arrays", name := "fill", desc := "([BB)V" } : Jvm.MethodName)) ∈ gw := gw_in (List.mem_append_right _ (List.mem_of_getElem? (i := 525) (by decide +kernel))) rfl
theorem w_526 : (Jvm.Cond.code ({ cls := "java/util/Arrays", name := "fill", desc := "([BB)V" } : Jvm.MethodName) prog_15_method_109_code (4 : Nat) (Option.none : Option Jvm.ClassFile.FieldType)) ∈ gw := gw_in (List.mem_append_right _ (List.mem_of_getElem? (i := 526) (by decide +kernel))) rfl
theorem w_527 : (Jvm.Cond.methodLink "EscalatedForms$Remainders" (34 : Nat) ({ cls := "java/util/Arrays", name := "fill", desc := "([II)V" } : Jvm.MethodName)) ∈ gw := gw_in (List.mem_append_right _ (List.mem_of_getElem? (i := 527) (by decide +kernel))) rfl
theorem w_528 : (Jvm.Cond.methodLink "EscalatedForms$Remainders" (41 : Nat) ({ cls := "EscalatedForms$Remainders", name := "worthAhead", desc := "(LEscalatedForms$Form;I)I" } : Jvm.MethodName)) ∈ gw := gw_in (List.mem_append_right _ (List.mem_of_getElem? (i := 528) (by decide +kernel))) rfl
theorem w_530 : (Jvm.Cond.instanceMethod ({ cls := "EscalatedForms$Remainders", name := "worthAhead", desc := "(LEscalatedForms$Form;I)I" } : Jvm.MethodName)) ∈ gw := gw_in (List.mem_append_right _ (List.mem_of_getElem? (i := 530) (by decide +kernel))) rfl
theorem w_531 : (Jvm.Cond.code ({ cls := "EscalatedForms$Remainders", name := "worthAhead", desc := "(LEscalatedForms$Form;I)I" } : Jvm.MethodName) prog_6_method_4_code (6 : Nat) (Option.some Jvm.ClassFile.FieldType.int)) ∈ gw := gw_in (List.mem_append_right _ (List.mem_of_getElem? (i := 531) (by decide +kernel))) rfl
theorem w_532 : (Jvm.Cond.methodLink "EscalatedForms$Remainders" (44 : Nat) ({ cls := "java/lang/Math", name := "floorMod", desc := "(II)I" } : Jvm.MethodName)) ∈ gw := gw_in (List.mem_append_right _ (List.mem_of_getElem? (i := 532) (by decide +kernel))) rfl
theorem w_533 : (Jvm.Cond.static ({ cls := "java/lang/Math", name := "floorMod", desc := "(II)I" } : Jvm.MethodName)) ∈ gw := gw_in (List.mem_append_right _ (List.mem_of_getElem? (i := 533) (by decide +kernel))) rfl
theorem w_534 : (Jvm.Cond.code ({ cls := "java/lang/Math", name := "floorMod", desc := "(II)I" } : Jvm.MethodName) prog_13_method_50_code (3 : Nat) (Option.some Jvm.ClassFile.FieldType.int)) ∈ gw := gw_in (List.mem_append_right _ (List.mem_of_getElem? (i := 534) (by decide +kernel))) rfl
theorem w_535 : (Jvm.Cond.methodLink "EscalatedForms$Remainders" (50 : Nat) ({ cls := "EscalatedForms$Remainders", name := "slopeOf", desc := "(LEscalatedForms$Form;I)I" } : Jvm.MethodName)) ∈ gw := gw_in (List.mem_append_right _ (List.mem_of_getElem? (i := 535) (by decide +kernel))) rfl
theorem w_537 : (Jvm.Cond.instanceMethod ({ cls := "EscalatedForms$Remainders", name := "slopeOf", desc := "(LEscalatedForms$Form;I)I" } : Jvm.MethodName)) ∈ gw := gw_in (List.mem_append_right _ (List.mem_of_getElem? (i := 537) (by decide +kernel))) rfl
theorem w_538 : (Jvm.Cond.code ({ cls := "EscalatedForms$Remainders", name := "slopeOf", desc := "(LEscalatedForms$Form;I)I" } : Jvm.MethodName) prog_6_method_5_code (5 : Nat) (Option.some Jvm.ClassFile.FieldType.int)) ∈ gw := gw_in (List.mem_append_right _ (List.mem_of_getElem? (i := 538) (by decide +kernel))) rfl
theorem w_539 : (Jvm.Cond.methodLink "EscalatedForms$Remainders" (56 : Nat) ({ cls := "EscalatedForms$Remainders", name := "countOn", desc := "(II)V" } : Jvm.MethodName)) ∈ gw := gw_in (List.mem_append_right _ (List.mem_of_getElem? (i := 539) (by decide +kernel))) rfl
theorem w_541 : (Jvm.Cond.instanceMethod ({ cls := "EscalatedForms$Remainders", name := "countOn", desc := "(II)V" } : Jvm.MethodName)) ∈ gw := gw_in (List.mem_append_right _ (List.mem_of_getElem? (i := 541) (by decide +kernel))) rfl
theorem w_542 : (Jvm.Cond.code ({ cls := "EscalatedForms$Remainders", name := "countOn", desc := "(II)V" } : Jvm.MethodName) prog_6_method_6_code (4 : Nat) (Option.none : Option Jvm.ClassFile.FieldType)) ∈ gw := gw_in (List.mem_append_right _ (List.mem_of_getElem? (i := 542) (by decide +kernel))) rfl
theorem w_543 : (Jvm.Cond.methodLink "EscalatedForms" (322 : Nat) ({ cls := "java/lang/Math", name := "floorMod", desc := "(II)I" } : Jvm.MethodName)) ∈ gw := gw_in (List.mem_append_right _ (List.mem_of_getElem? (i := 543) (by decide +kernel))) rfl
theorem w_544 : (Jvm.Cond.methodLink "EscalatedFormsLaw" (98 : Nat) ({ cls := "EscalatedForms", name := "exception", desc := "(II)I" } : Jvm.MethodName)) ∈ gw := gw_in (List.mem_append_right _ (List.mem_of_getElem? (i := 544) (by decide +kernel))) rfl
theorem w_545 : (Jvm.Cond.instanceMethod ({ cls := "EscalatedForms", name := "exception", desc := "(II)I" } : Jvm.MethodName)) ∈ gw := gw_in (List.mem_append_right _ (List.mem_of_getElem? (i := 545) (by decide +kernel))) rfl
theorem w_546 : (Jvm.Cond.selects "EscalatedForms" ({ cls := "EscalatedForms", name := "exception", desc := "(II)I" } : Jvm.MethodName) ({ cls := "EscalatedForms", name := "exception", desc := "(II)I" } : Jvm.MethodName)) ∈ gw := gw_in (List.mem_append_right _ (List.mem_of_getElem? (i := 546) (by decide +kernel))) rfl
theorem w_547 : (Jvm.Cond.code ({ cls := "EscalatedForms", name := "exception", desc := "(II)I" } : Jvm.MethodName) prog_1_method_22_code (7 : Nat) (Option.some Jvm.ClassFile.FieldType.int)) ∈ gw := gw_in (List.mem_append_right _ (List.mem_of_getElem? (i := 547) (by decide +kernel))) rfl
theorem w_548 : (Jvm.Cond.methodLink "EscalatedFormsLaw" (102 : Nat) ({ cls := "EscalatedForms", name := "residues", desc := "(II)I" } : Jvm.MethodName)) ∈ gw := gw_in (List.mem_append_right _ (List.mem_of_getElem? (i := 548) (by decide +kernel))) rfl
theorem w_549 : (Jvm.Cond.instanceMethod ({ cls := "EscalatedForms", name := "residues", desc := "(II)I" } : Jvm.MethodName)) ∈ gw := gw_in (List.mem_append_right _ (List.mem_of_getElem? (i := 549) (by decide +kernel))) rfl
theorem w_550 : (Jvm.Cond.selects "EscalatedForms" ({ cls := "EscalatedForms", name := "residues", desc := "(II)I" } : Jvm.MethodName) ({ cls := "EscalatedForms", name := "residues", desc := "(II)I" } : Jvm.MethodName)) ∈ gw := gw_in (List.mem_append_right _ (List.mem_of_getElem? (i := 550) (by decide +kernel))) rfl
theorem w_551 : (Jvm.Cond.code ({ cls := "EscalatedForms", name := "residues", desc := "(II)I" } : Jvm.MethodName) prog_1_method_23_code (4 : Nat) (Option.some Jvm.ClassFile.FieldType.int)) ∈ gw := gw_in (List.mem_append_right _ (List.mem_of_getElem? (i := 551) (by decide +kernel))) rfl
theorem w_552 : (Jvm.Cond.methodLink "EscalatedFormsLaw" (106 : Nat) ({ cls := "EscalatedForms", name := "barred", desc := "(II)I" } : Jvm.MethodName)) ∈ gw := gw_in (List.mem_append_right _ (List.mem_of_getElem? (i := 552) (by decide +kernel))) rfl
theorem w_553 : (Jvm.Cond.instanceMethod ({ cls := "EscalatedForms", name := "barred", desc := "(II)I" } : Jvm.MethodName)) ∈ gw := gw_in (List.mem_append_right _ (List.mem_of_getElem? (i := 553) (by decide +kernel))) rfl
theorem w_554 : (Jvm.Cond.selects "EscalatedForms" ({ cls := "EscalatedForms", name := "barred", desc := "(II)I" } : Jvm.MethodName) ({ cls := "EscalatedForms", name := "barred", desc := "(II)I" } : Jvm.MethodName)) ∈ gw := gw_in (List.mem_append_right _ (List.mem_of_getElem? (i := 554) (by decide +kernel))) rfl
theorem w_555 : (Jvm.Cond.code ({ cls := "EscalatedForms", name := "barred", desc := "(II)I" } : Jvm.MethodName) prog_1_method_24_code (4 : Nat) (Option.some Jvm.ClassFile.FieldType.int)) ∈ gw := gw_in (List.mem_append_right _ (List.mem_of_getElem? (i := 555) (by decide +kernel))) rfl
theorem w_556 : (Jvm.Cond.methodLink "EscalatedFormsLaw" (110 : Nat) ({ cls := "EscalatedForms", name := "rule", desc := "(II)I" } : Jvm.MethodName)) ∈ gw := gw_in (List.mem_append_right _ (List.mem_of_getElem? (i := 556) (by decide +kernel))) rfl
theorem w_557 : (Jvm.Cond.instanceMethod ({ cls := "EscalatedForms", name := "rule", desc := "(II)I" } : Jvm.MethodName)) ∈ gw := gw_in (List.mem_append_right _ (List.mem_of_getElem? (i := 557) (by decide +kernel))) rfl
theorem w_558 : (Jvm.Cond.selects "EscalatedForms" ({ cls := "EscalatedForms", name := "rule", desc := "(II)I" } : Jvm.MethodName) ({ cls := "EscalatedForms", name := "rule", desc := "(II)I" } : Jvm.MethodName)) ∈ gw := gw_in (List.mem_append_right _ (List.mem_of_getElem? (i := 558) (by decide +kernel))) rfl
theorem w_559 : (Jvm.Cond.code ({ cls := "EscalatedForms", name := "rule", desc := "(II)I" } : Jvm.MethodName) prog_1_method_25_code (4 : Nat) (Option.some Jvm.ClassFile.FieldType.int)) ∈ gw := gw_in (List.mem_append_right _ (List.mem_of_getElem? (i := 559) (by decide +kernel))) rfl
theorem w_560 : (Jvm.Cond.methodLink "EscalatedForms" (199 : Nat) ({ cls := "EscalatedForms", name := "isRule", desc := "(I)Z" } : Jvm.MethodName)) ∈ gw := gw_in (List.mem_append_right _ (List.mem_of_getElem? (i := 560) (by decide +kernel))) rfl
theorem w_561 : (Jvm.Cond.static ({ cls := "EscalatedForms", name := "isRule", desc := "(I)Z" } : Jvm.MethodName)) ∈ gw := gw_in (List.mem_append_right _ (List.mem_of_getElem? (i := 561) (by decide +kernel))) rfl
theorem w_562 : (Jvm.Cond.code ({ cls := "EscalatedForms", name := "isRule", desc := "(I)Z" } : Jvm.MethodName) prog_1_method_48_code (1 : Nat) (Option.some Jvm.ClassFile.FieldType.boolean)) ∈ gw := gw_in (List.mem_append_right _ (List.mem_of_getElem? (i := 562) (by decide +kernel))) rfl
theorem w_563 : (Jvm.Cond.methodLink "EscalatedForms" (202 : Nat) ({ cls := "EscalatedForms", name := "numbersOf", desc := "(I)[I" } : Jvm.MethodName)) ∈ gw := gw_in (List.mem_append_right _ (List.mem_of_getElem? (i := 563) (by decide +kernel))) rfl
theorem w_564 : (Jvm.Cond.static ({ cls := "EscalatedForms", name := "numbersOf", desc := "(I)[I" } : Jvm.MethodName)) ∈ gw := gw_in (List.mem_append_right _ (List.mem_of_getElem? (i := 564) (by decide +kernel))) rfl
theorem w_565 : (Jvm.Cond.code ({ cls := "EscalatedForms", name := "numbersOf", desc := "(I)[I" } : Jvm.MethodName) prog_1_method_49_code (1 : Nat) (Option.some (Jvm.ClassFile.FieldType.array Jvm.ClassFile.FieldType.int))) ∈ gw := gw_in (List.mem_append_right _ (List.mem_of_getElem? (i := 565) (by decide +kernel))) rfl
theorem w_566 : (Jvm.Cond.fieldLink "EscalatedForms" (306 : Nat) "EscalatedForms" "RULE_ALL" "[I") ∈ gw := gw_in (List.mem_append_right _ (List.mem_of_getElem? (i := 566) (by decide +kernel))) rfl
theorem w_568 : (Jvm.Cond.fieldLink "EscalatedForms" (309 : Nat) "EscalatedForms" "RULE_ODD" "[I") ∈ gw := gw_in (List.mem_append_right _ (List.mem_of_getElem? (i := 568) (by decide +kernel))) rfl
theorem w_570 : (Jvm.Cond.fieldLink "EscalatedForms" (312 : Nat) "EscalatedForms" "RULE_PRIME" "[I") ∈ gw := gw_in (List.mem_append_right _ (List.mem_of_getElem? (i := 570) (by decide +kernel))) rfl
theorem w_572 : (Jvm.Cond.methodLink "EscalatedFormsLaw" (114 : Nat) ({ cls := "EscalatedForms", name := "claim", desc := "(II)I" } : Jvm.MethodName)) ∈ gw := gw_in (List.mem_append_right _ (List.mem_of_getElem? (i := 572) (by decide +kernel))) rfl
theorem w_573 : (Jvm.Cond.instanceMethod ({ cls := "EscalatedForms", name := "claim", desc := "(II)I" } : Jvm.MethodName)) ∈ gw := gw_in (List.mem_append_right _ (List.mem_of_getElem? (i := 573) (by decide +kernel))) rfl
theorem w_574 : (Jvm.Cond.selects "EscalatedForms" ({ cls := "EscalatedForms", name := "claim", desc := "(II)I" } : Jvm.MethodName) ({ cls := "EscalatedForms", name := "claim", desc := "(II)I" } : Jvm.MethodName)) ∈ gw := gw_in (List.mem_append_right _ (List.mem_of_getElem? (i := 574) (by decide +kernel))) rfl
theorem w_575 : (Jvm.Cond.code ({ cls := "EscalatedForms", name := "claim", desc := "(II)I" } : Jvm.MethodName) prog_1_method_26_code (4 : Nat) (Option.some Jvm.ClassFile.FieldType.int)) ∈ gw := gw_in (List.mem_append_right _ (List.mem_of_getElem? (i := 575) (by decide +kernel))) rfl
theorem w_576 : (Jvm.Cond.methodLink "EscalatedForms" (206 : Nat) ({ cls := "EscalatedForms", name := "isClaimed", desc := "(LEscalatedForms$Taken;I)Z" } : Jvm.MethodName)) ∈ gw := gw_in (List.mem_append_right _ (List.mem_of_getElem? (i := 576) (by decide +kernel))) rfl
theorem w_577 : (Jvm.Cond.static ({ cls := "EscalatedForms", name := "isClaimed", desc := "(LEscalatedForms$Taken;I)Z" } : Jvm.MethodName)) ∈ gw := gw_in (List.mem_append_right _ (List.mem_of_getElem? (i := 577) (by decide +kernel))) rfl
theorem w_578 : (Jvm.Cond.code ({ cls := "EscalatedForms", name := "isClaimed", desc := "(LEscalatedForms$Taken;I)Z" } : Jvm.MethodName) prog_1_method_58_code (2 : Nat) (Option.some Jvm.ClassFile.FieldType.boolean)) ∈ gw := gw_in (List.mem_append_right _ (List.mem_of_getElem? (i := 578) (by decide +kernel))) rfl
theorem w_579 : (Jvm.Cond.methodLink "EscalatedForms" (210 : Nat) ({ cls := "EscalatedForms", name := "lackingOf", desc := "(LEscalatedForms$Taken;II)I" } : Jvm.MethodName)) ∈ gw := gw_in (List.mem_append_right _ (List.mem_of_getElem? (i := 579) (by decide +kernel))) rfl
theorem w_580 : (Jvm.Cond.static ({ cls := "EscalatedForms", name := "lackingOf", desc := "(LEscalatedForms$Taken;II)I" } : Jvm.MethodName)) ∈ gw := gw_in (List.mem_append_right _ (List.mem_of_getElem? (i := 580) (by decide +kernel))) rfl
theorem w_581 : (Jvm.Cond.code ({ cls := "EscalatedForms", name := "lackingOf", desc := "(LEscalatedForms$Taken;II)I" } : Jvm.MethodName) prog_1_method_57_code (6 : Nat) (Option.some Jvm.ClassFile.FieldType.int)) ∈ gw := gw_in (List.mem_append_right _ (List.mem_of_getElem? (i := 581) (by decide +kernel))) rfl
theorem w_582 : (Jvm.Cond.methodLink "EscalatedFormsLaw" (118 : Nat) ({ cls := "EscalatedForms", name := "lacks", desc := "(III)I" } : Jvm.MethodName)) ∈ gw := gw_in (List.mem_append_right _ (List.mem_of_getElem? (i := 582) (by decide +kernel))) rfl
theorem w_583 : (Jvm.Cond.instanceMethod ({ cls := "EscalatedForms", name := "lacks", desc := "(III)I" } : Jvm.MethodName)) ∈ gw := gw_in (List.mem_append_right _ (List.mem_of_getElem? (i := 583) (by decide +kernel))) rfl
theorem w_584 : (Jvm.Cond.selects "EscalatedForms" ({ cls := "EscalatedForms", name := "lacks", desc := "(III)I" } : Jvm.MethodName) ({ cls := "EscalatedForms", name := "lacks", desc := "(III)I" } : Jvm.MethodName)) ∈ gw := gw_in (List.mem_append_right _ (List.mem_of_getElem? (i := 584) (by decide +kernel))) rfl
theorem w_585 : (Jvm.Cond.code ({ cls := "EscalatedForms", name := "lacks", desc := "(III)I" } : Jvm.MethodName) prog_1_method_27_code (5 : Nat) (Option.some Jvm.ClassFile.FieldType.int)) ∈ gw := gw_in (List.mem_append_right _ (List.mem_of_getElem? (i := 585) (by decide +kernel))) rfl
theorem w_586 : (Jvm.Cond.methodLink "EscalatedFormsLaw" (122 : Nat) ({ cls := "EscalatedForms", name := "certify", desc := "(IIII)I" } : Jvm.MethodName)) ∈ gw := gw_in (List.mem_append_right _ (List.mem_of_getElem? (i := 586) (by decide +kernel))) rfl
theorem w_587 : (Jvm.Cond.instanceMethod ({ cls := "EscalatedForms", name := "certify", desc := "(IIII)I" } : Jvm.MethodName)) ∈ gw := gw_in (List.mem_append_right _ (List.mem_of_getElem? (i := 587) (by decide +kernel))) rfl
theorem w_588 : (Jvm.Cond.selects "EscalatedForms" ({ cls := "EscalatedForms", name := "certify", desc := "(IIII)I" } : Jvm.MethodName) ({ cls := "EscalatedForms", name := "certify", desc := "(IIII)I" } : Jvm.MethodName)) ∈ gw := gw_in (List.mem_append_right _ (List.mem_of_getElem? (i := 588) (by decide +kernel))) rfl
theorem w_589 : (Jvm.Cond.code ({ cls := "EscalatedForms", name := "certify", desc := "(IIII)I" } : Jvm.MethodName) prog_1_method_28_code (12 : Nat) (Option.some Jvm.ClassFile.FieldType.int)) ∈ gw := gw_in (List.mem_append_right _ (List.mem_of_getElem? (i := 589) (by decide +kernel))) rfl
theorem w_590 : (Jvm.Cond.methodLink "EscalatedFormsLaw" (126 : Nat) ({ cls := "EscalatedForms", name := "children", desc := "(I)I" } : Jvm.MethodName)) ∈ gw := gw_in (List.mem_append_right _ (List.mem_of_getElem? (i := 590) (by decide +kernel))) rfl
theorem w_591 : (Jvm.Cond.instanceMethod ({ cls := "EscalatedForms", name := "children", desc := "(I)I" } : Jvm.MethodName)) ∈ gw := gw_in (List.mem_append_right _ (List.mem_of_getElem? (i := 591) (by decide +kernel))) rfl
theorem w_592 : (Jvm.Cond.selects "EscalatedForms" ({ cls := "EscalatedForms", name := "children", desc := "(I)I" } : Jvm.MethodName) ({ cls := "EscalatedForms", name := "children", desc := "(I)I" } : Jvm.MethodName)) ∈ gw := gw_in (List.mem_append_right _ (List.mem_of_getElem? (i := 592) (by decide +kernel))) rfl
theorem w_593 : (Jvm.Cond.code ({ cls := "EscalatedForms", name := "children", desc := "(I)I" } : Jvm.MethodName) prog_1_method_29_code (4 : Nat) (Option.some Jvm.ClassFile.FieldType.int)) ∈ gw := gw_in (List.mem_append_right _ (List.mem_of_getElem? (i := 593) (by decide +kernel))) rfl
theorem w_594 : (Jvm.Cond.methodLink "EscalatedForms" (214 : Nat) ({ cls := "EscalatedForms", name := "refusalToGrow", desc := "(LEscalatedForms$Form;)I" } : Jvm.MethodName)) ∈ gw := gw_in (List.mem_append_right _ (List.mem_of_getElem? (i := 594) (by decide +kernel))) rfl
theorem w_596 : (Jvm.Cond.instanceMethod ({ cls := "EscalatedForms", name := "refusalToGrow", desc := "(LEscalatedForms$Form;)I" } : Jvm.MethodName)) ∈ gw := gw_in (List.mem_append_right _ (List.mem_of_getElem? (i := 596) (by decide +kernel))) rfl
theorem w_597 : (Jvm.Cond.code ({ cls := "EscalatedForms", name := "refusalToGrow", desc := "(LEscalatedForms$Form;)I" } : Jvm.MethodName) prog_1_method_60_code (2 : Nat) (Option.some Jvm.ClassFile.FieldType.int)) ∈ gw := gw_in (List.mem_append_right _ (List.mem_of_getElem? (i := 597) (by decide +kernel))) rfl
theorem w_598 : (Jvm.Cond.methodLink "EscalatedForms" (218 : Nat) ({ cls := "EscalatedForms", name := "broodOf", desc := "(LEscalatedForms$Form;)LEscalatedForms$Brood;" } : Jvm.MethodName)) ∈ gw := gw_in (List.mem_append_right _ (List.mem_of_getElem? (i := 598) (by decide +kernel))) rfl
theorem w_600 : (Jvm.Cond.instanceMethod ({ cls := "EscalatedForms", name := "broodOf", desc := "(LEscalatedForms$Form;)LEscalatedForms$Brood;" } : Jvm.MethodName)) ∈ gw := gw_in (List.mem_append_right _ (List.mem_of_getElem? (i := 600) (by decide +kernel))) rfl
theorem w_601 : (Jvm.Cond.code ({ cls := "EscalatedForms", name := "broodOf", desc := "(LEscalatedForms$Form;)LEscalatedForms$Brood;" } : Jvm.MethodName) prog_1_method_61_code (2 : Nat) (Option.some (Jvm.ClassFile.FieldType.object "EscalatedForms$Brood"))) ∈ gw := gw_in (List.mem_append_right _ (List.mem_of_getElem? (i := 601) (by decide +kernel))) rfl
theorem w_602 : (Jvm.Cond.methodLink "EscalatedForms" (332 : Nat) ({ cls := "EscalatedForms$Brood", name := "gather", desc := "(LEscalatedForms$Form;ILEscalatedForms$Draft;LEscalatedForms$Ellipsoid;)V" } : Jvm.MethodName)) ∈ gw := gw_in (List.mem_append_right _ (List.mem_of_getElem? (i := 602) (by decide +kernel))) rfl
theorem w_603 : (Jvm.Cond.instanceMethod ({ cls := "EscalatedForms$Brood", name := "gather", desc := "(LEscalatedForms$Form;ILEscalatedForms$Draft;LEscalatedForms$Ellipsoid;)V" } : Jvm.MethodName)) ∈ gw := gw_in (List.mem_append_right _ (List.mem_of_getElem? (i := 603) (by decide +kernel))) rfl
theorem w_604 : (Jvm.Cond.selects "EscalatedForms$Brood" ({ cls := "EscalatedForms$Brood", name := "gather", desc := "(LEscalatedForms$Form;ILEscalatedForms$Draft;LEscalatedForms$Ellipsoid;)V" } : Jvm.MethodName) ({ cls := "EscalatedForms$Brood", name := "gather", desc := "(LEscalatedForms$Form;ILEscalatedForms$Draft;LEscalatedForms$Ellipsoid;)V" } : Jvm.MethodName)) ∈ gw := gw_in (List.mem_append_right _ (List.mem_of_getElem? (i := 604) (by decide +kernel))) rfl
theorem w_605 : (Jvm.Cond.code ({ cls := "EscalatedForms$Brood", name := "gather", desc := "(LEscalatedForms$Form;ILEscalatedForms$Draft;LEscalatedForms$Ellipsoid;)V" } : Jvm.MethodName) prog_2_method_2_code (8 : Nat) (Option.none : Option Jvm.ClassFile.FieldType)) ∈ gw := gw_in (List.mem_append_right _ (List.mem_of_getElem? (i := 605) (by decide +kernel))) rfl
theorem w_606 : (Jvm.Cond.methodLink "EscalatedForms$Brood" (31 : Nat) ({ cls := "EscalatedForms$Ellipsoid", name := "openRows", desc := "(LEscalatedForms$Form;I)V" } : Jvm.MethodName)) ∈ gw := gw_in (List.mem_append_right _ (List.mem_of_getElem? (i := 606) (by decide +kernel))) rfl
theorem w_607 : (Jvm.Cond.instanceMethod ({ cls := "EscalatedForms$Ellipsoid", name := "openRows", desc := "(LEscalatedForms$Form;I)V" } : Jvm.MethodName)) ∈ gw := gw_in (List.mem_append_right _ (List.mem_of_getElem? (i := 607) (by decide +kernel))) rfl
theorem w_608 : (Jvm.Cond.selects "EscalatedForms$Ellipsoid" ({ cls := "EscalatedForms$Ellipsoid", name := "openRows", desc := "(LEscalatedForms$Form;I)V" } : Jvm.MethodName) ({ cls := "EscalatedForms$Ellipsoid", name := "openRows", desc := "(LEscalatedForms$Form;I)V" } : Jvm.MethodName)) ∈ gw := gw_in (List.mem_append_right _ (List.mem_of_getElem? (i := 608) (by decide +kernel))) rfl
theorem w_609 : (Jvm.Cond.code ({ cls := "EscalatedForms$Ellipsoid", name := "openRows", desc := "(LEscalatedForms$Form;I)V" } : Jvm.MethodName) prog_4_method_4_code (13 : Nat) (Option.none : Option Jvm.ClassFile.FieldType)) ∈ gw := gw_in (List.mem_append_right _ (List.mem_of_getElem? (i := 609) (by decide +kernel))) rfl
theorem w_610 : (Jvm.Cond.methodLink "EscalatedForms$Ellipsoid" (56 : Nat) ({ cls := "java/lang/Math", name := "min", desc := "(II)I" } : Jvm.MethodName)) ∈ gw := gw_in (List.mem_append_right _ (List.mem_of_getElem? (i := 610) (by decide +kernel))) rfl
theorem w_611 : (Jvm.Cond.static ({ cls := "java/lang/Math", name := "min", desc := "(II)I" } : Jvm.MethodName)) ∈ gw := gw_in (List.mem_append_right _ (List.mem_of_getElem? (i := 611) (by decide +kernel))) rfl
theorem w_612 : (Jvm.Cond.code ({ cls := "java/lang/Math", name := "min", desc := "(II)I" } : Jvm.MethodName) prog_13_method_69_code (2 : Nat) (Option.some Jvm.ClassFile.FieldType.int)) ∈ gw := gw_in (List.mem_append_right _ (List.mem_of_getElem? (i := 612) (by decide +kernel))) rfl
theorem w_613 : (Jvm.Cond.methodLink "EscalatedForms$Brood" (37 : Nat) ({ cls := "EscalatedForms$Draft", name := "load", desc := "(LEscalatedForms$Form;)V" } : Jvm.MethodName)) ∈ gw := gw_in (List.mem_append_right _ (List.mem_of_getElem? (i := 613) (by decide +kernel))) rfl
theorem w_614 : (Jvm.Cond.methodLink "EscalatedForms$Brood" (44 : Nat) ({ cls := "EscalatedForms$Draft", name := "set", desc := "(III)V" } : Jvm.MethodName)) ∈ gw := gw_in (List.mem_append_right _ (List.mem_of_getElem? (i := 614) (by decide +kernel))) rfl
theorem w_615 : (Jvm.Cond.constant "EscalatedForms$Brood" (48 : Nat) (4000000 : Int32)) ∈ gw := gw_in (List.mem_append_right _ (List.mem_of_getElem? (i := 615) (by decide +kernel))) rfl
theorem w_616 : (Jvm.Cond.methodLink "EscalatedForms$Brood" (49 : Nat) ({ cls := "EscalatedForms$Ellipsoid", name := "advance", desc := "()Z" } : Jvm.MethodName)) ∈ gw := gw_in (List.mem_append_right _ (List.mem_of_getElem? (i := 616) (by decide +kernel))) rfl
theorem w_617 : (Jvm.Cond.methodLink "EscalatedForms$Brood" (56 : Nat) ({ cls := "EscalatedForms$Draft", name := "isLawful", desc := "()Z" } : Jvm.MethodName)) ∈ gw := gw_in (List.mem_append_right _ (List.mem_of_getElem? (i := 617) (by decide +kernel))) rfl
theorem w_618 : (Jvm.Cond.methodLink "EscalatedForms$Brood" (59 : Nat) ({ cls := "EscalatedForms$Brood", name := "add", desc := "(I)V" } : Jvm.MethodName)) ∈ gw := gw_in (List.mem_append_right _ (List.mem_of_getElem? (i := 618) (by decide +kernel))) rfl
theorem w_620 : (Jvm.Cond.instanceMethod ({ cls := "EscalatedForms$Brood", name := "add", desc := "(I)V" } : Jvm.MethodName)) ∈ gw := gw_in (List.mem_append_right _ (List.mem_of_getElem? (i := 620) (by decide +kernel))) rfl
theorem w_621 : (Jvm.Cond.code ({ cls := "EscalatedForms$Brood", name := "add", desc := "(I)V" } : Jvm.MethodName) prog_2_method_3_code (2 : Nat) (Option.none : Option Jvm.ClassFile.FieldType)) ∈ gw := gw_in (List.mem_append_right _ (List.mem_of_getElem? (i := 621) (by decide +kernel))) rfl
theorem w_622 : (Jvm.Cond.methodLink "EscalatedForms$Brood" (63 : Nat) ({ cls := "java/util/Arrays", name := "copyOf", desc := "([II)[I" } : Jvm.MethodName)) ∈ gw := gw_in (List.mem_append_right _ (List.mem_of_getElem? (i := 622) (by decide +kernel))) rfl
theorem w_623 : (Jvm.Cond.static ({ cls := "java/util/Arrays", name := "copyOf", desc := "([II)[I" } : Jvm.MethodName)) ∈ gw := gw_in (List.mem_append_right _ (List.mem_of_getElem? (i := 623) (by decide +kernel))) rfl
theorem w_624 : (Jvm.Cond.code ({ cls := "java/util/Arrays", name := "copyOf", desc := "([II)[I" } : Jvm.MethodName) prog_15_method_123_code (3 : Nat) (Option.some (Jvm.ClassFile.FieldType.array Jvm.ClassFile.FieldType.int))) ∈ gw := gw_in (List.mem_append_right _ (List.mem_of_getElem? (i := 624) (by decide +kernel))) rfl
theorem w_625 : (Jvm.Cond.methodLink "java/util/Arrays" (316 : Nat) ({ cls := "[I", name := "clone", desc := "()Ljava/lang/Object;" } : Jvm.MethodName)) ∈ gw := gw_in (List.mem_append_right _ (List.mem_of_getElem? (i := 625) (by decide +kernel))) rfl
theorem w_626 : (Jvm.Cond.classLink "java/util/Arrays" (317 : Nat) "[I") ∈ gw := gw_in (List.mem_append_right _ (List.mem_of_getElem? (i := 626) (by decide +kernel))) rfl
theorem w_627 : (Jvm.Cond.methodLink "java/util/Arrays" (304 : Nat) ({ cls := "java/lang/Math", name := "min", desc := "(II)I" } : Jvm.MethodName)) ∈ gw := gw_in (List.mem_append_right _ (List.mem_of_getElem? (i := 627) (by decide +kernel))) rfl
theorem w_628 : (Jvm.Cond.methodLink "java/util/Arrays" (150 : Nat) ({ cls := "java/lang/System", name := "arraycopy", desc := "(Ljava/lang/Object;ILjava/lang/Object;II)V" } : Jvm.MethodName)) ∈ gw := gw_in (List.mem_append_right _ (List.mem_of_getElem? (i := 628) (by decide +kernel))) rfl
theorem w_629 : (Jvm.Cond.methodLink "EscalatedFormsLaw" (130 : Nat) ({ cls := "EscalatedForms", name := "child", desc := "(III)I" } : Jvm.MethodName)) ∈ gw := gw_in (List.mem_append_right _ (List.mem_of_getElem? (i := 629) (by decide +kernel))) rfl
theorem w_630 : (Jvm.Cond.instanceMethod ({ cls := "EscalatedForms", name := "child", desc := "(III)I" } : Jvm.MethodName)) ∈ gw := gw_in (List.mem_append_right _ (List.mem_of_getElem? (i := 630) (by decide +kernel))) rfl
theorem w_631 : (Jvm.Cond.selects "EscalatedForms" ({ cls := "EscalatedForms", name := "child", desc := "(III)I" } : Jvm.MethodName) ({ cls := "EscalatedForms", name := "child", desc := "(III)I" } : Jvm.MethodName)) ∈ gw := gw_in (List.mem_append_right _ (List.mem_of_getElem? (i := 631) (by decide +kernel))) rfl
theorem w_632 : (Jvm.Cond.code ({ cls := "EscalatedForms", name := "child", desc := "(III)I" } : Jvm.MethodName) prog_1_method_30_code (6 : Nat) (Option.some Jvm.ClassFile.FieldType.int)) ∈ gw := gw_in (List.mem_append_right _ (List.mem_of_getElem? (i := 632) (by decide +kernel))) rfl
theorem w_633 : (Jvm.Cond.methodLink "EscalatedForms" (225 : Nat) ({ cls := "EscalatedForms$Brood", name := "shape", desc := "(ILEscalatedForms$Draft;)Z" } : Jvm.MethodName)) ∈ gw := gw_in (List.mem_append_right _ (List.mem_of_getElem? (i := 633) (by decide +kernel))) rfl
theorem w_634 : (Jvm.Cond.instanceMethod ({ cls := "EscalatedForms$Brood", name := "shape", desc := "(ILEscalatedForms$Draft;)Z" } : Jvm.MethodName)) ∈ gw := gw_in (List.mem_append_right _ (List.mem_of_getElem? (i := 634) (by decide +kernel))) rfl
theorem w_635 : (Jvm.Cond.selects "EscalatedForms$Brood" ({ cls := "EscalatedForms$Brood", name := "shape", desc := "(ILEscalatedForms$Draft;)Z" } : Jvm.MethodName) ({ cls := "EscalatedForms$Brood", name := "shape", desc := "(ILEscalatedForms$Draft;)Z" } : Jvm.MethodName)) ∈ gw := gw_in (List.mem_append_right _ (List.mem_of_getElem? (i := 635) (by decide +kernel))) rfl
theorem w_636 : (Jvm.Cond.code ({ cls := "EscalatedForms$Brood", name := "shape", desc := "(ILEscalatedForms$Draft;)Z" } : Jvm.MethodName) prog_2_method_4_code (5 : Nat) (Option.some Jvm.ClassFile.FieldType.boolean)) ∈ gw := gw_in (List.mem_append_right _ (List.mem_of_getElem? (i := 636) (by decide +kernel))) rfl
theorem w_637 : (Jvm.Cond.methodLink "EscalatedFormsLaw" (134 : Nat) ({ cls := "EscalatedForms", name := "next", desc := "(III)I" } : Jvm.MethodName)) ∈ gw := gw_in (List.mem_append_right _ (List.mem_of_getElem? (i := 637) (by decide +kernel))) rfl
theorem w_638 : (Jvm.Cond.instanceMethod ({ cls := "EscalatedForms", name := "next", desc := "(III)I" } : Jvm.MethodName)) ∈ gw := gw_in (List.mem_append_right _ (List.mem_of_getElem? (i := 638) (by decide +kernel))) rfl
theorem w_639 : (Jvm.Cond.selects "EscalatedForms" ({ cls := "EscalatedForms", name := "next", desc := "(III)I" } : Jvm.MethodName) ({ cls := "EscalatedForms", name := "next", desc := "(III)I" } : Jvm.MethodName)) ∈ gw := gw_in (List.mem_append_right _ (List.mem_of_getElem? (i := 639) (by decide +kernel))) rfl
theorem w_640 : (Jvm.Cond.code ({ cls := "EscalatedForms", name := "next", desc := "(III)I" } : Jvm.MethodName) prog_1_method_31_code (12 : Nat) (Option.some Jvm.ClassFile.FieldType.int)) ∈ gw := gw_in (List.mem_append_right _ (List.mem_of_getElem? (i := 640) (by decide +kernel))) rfl
theorem w_641 : (Jvm.Cond.methodLink "EscalatedForms" (229 : Nat) ({ cls := "java/lang/Math", name := "min", desc := "(II)I" } : Jvm.MethodName)) ∈ gw := gw_in (List.mem_append_right _ (List.mem_of_getElem? (i := 641) (by decide +kernel))) rfl
theorem w_642 : (Jvm.Cond.methodLink "EscalatedForms" (233 : Nat) ({ cls := "java/lang/Math", name := "max", desc := "(II)I" } : Jvm.MethodName)) ∈ gw := gw_in (List.mem_append_right _ (List.mem_of_getElem? (i := 642) (by decide +kernel))) rfl
theorem w_643 : (Jvm.Cond.methodLink "EscalatedForms" (236 : Nat) ({ cls := "EscalatedForms", name := "greatestLackOfDraft", desc := "()I" } : Jvm.MethodName)) ∈ gw := gw_in (List.mem_append_right _ (List.mem_of_getElem? (i := 643) (by decide +kernel))) rfl
theorem w_645 : (Jvm.Cond.instanceMethod ({ cls := "EscalatedForms", name := "greatestLackOfDraft", desc := "()I" } : Jvm.MethodName)) ∈ gw := gw_in (List.mem_append_right _ (List.mem_of_getElem? (i := 645) (by decide +kernel))) rfl
theorem w_646 : (Jvm.Cond.code ({ cls := "EscalatedForms", name := "greatestLackOfDraft", desc := "()I" } : Jvm.MethodName) prog_1_method_62_code (3 : Nat) (Option.some Jvm.ClassFile.FieldType.int)) ∈ gw := gw_in (List.mem_append_right _ (List.mem_of_getElem? (i := 646) (by decide +kernel))) rfl
theorem w_647 : (Jvm.Cond.methodLink "EscalatedForms" (338 : Nat) ({ cls := "EscalatedForms$Ellipsoid", name := "openWorths", desc := "(I[II)V" } : Jvm.MethodName)) ∈ gw := gw_in (List.mem_append_right _ (List.mem_of_getElem? (i := 647) (by decide +kernel))) rfl
theorem w_648 : (Jvm.Cond.methodLink "EscalatedForms" (342 : Nat) ({ cls := "EscalatedForms$Ellipsoid", name := "advance", desc := "()Z" } : Jvm.MethodName)) ∈ gw := gw_in (List.mem_append_right _ (List.mem_of_getElem? (i := 648) (by decide +kernel))) rfl
theorem w_649 : (Jvm.Cond.methodLink "EscalatedForms" (345 : Nat) ({ cls := "EscalatedForms$Ellipsoid", name := "worthHere", desc := "()I" } : Jvm.MethodName)) ∈ gw := gw_in (List.mem_append_right _ (List.mem_of_getElem? (i := 649) (by decide +kernel))) rfl
theorem w_650 : (Jvm.Cond.methodLink "EscalatedFormsLaw" (138 : Nat) ({ cls := "EscalatedForms", name := "plant", desc := "(I)I" } : Jvm.MethodName)) ∈ gw := gw_in (List.mem_append_right _ (List.mem_of_getElem? (i := 650) (by decide +kernel))) rfl
theorem w_651 : (Jvm.Cond.instanceMethod ({ cls := "EscalatedForms", name := "plant", desc := "(I)I" } : Jvm.MethodName)) ∈ gw := gw_in (List.mem_append_right _ (List.mem_of_getElem? (i := 651) (by decide +kernel))) rfl
theorem w_652 : (Jvm.Cond.selects "EscalatedForms" ({ cls := "EscalatedForms", name := "plant", desc := "(I)I" } : Jvm.MethodName) ({ cls := "EscalatedForms", name := "plant", desc := "(I)I" } : Jvm.MethodName)) ∈ gw := gw_in (List.mem_append_right _ (List.mem_of_getElem? (i := 652) (by decide +kernel))) rfl
theorem w_653 : (Jvm.Cond.code ({ cls := "EscalatedForms", name := "plant", desc := "(I)I" } : Jvm.MethodName) prog_1_method_32_code (4 : Nat) (Option.some Jvm.ClassFile.FieldType.int)) ∈ gw := gw_in (List.mem_append_right _ (List.mem_of_getElem? (i := 653) (by decide +kernel))) rfl
theorem w_654 : (Jvm.Cond.methodLink "EscalatedForms" (240 : Nat) ({ cls := "EscalatedForms$Tree", name := "truncate", desc := "(I)V" } : Jvm.MethodName)) ∈ gw := gw_in (List.mem_append_right _ (List.mem_of_getElem? (i := 654) (by decide +kernel))) rfl
theorem w_655 : (Jvm.Cond.instanceMethod ({ cls := "EscalatedForms$Tree", name := "truncate", desc := "(I)V" } : Jvm.MethodName)) ∈ gw := gw_in (List.mem_append_right _ (List.mem_of_getElem? (i := 655) (by decide +kernel))) rfl
theorem w_656 : (Jvm.Cond.selects "EscalatedForms$Tree" ({ cls := "EscalatedForms$Tree", name := "truncate", desc := "(I)V" } : Jvm.MethodName) ({ cls := "EscalatedForms$Tree", name := "truncate", desc := "(I)V" } : Jvm.MethodName)) ∈ gw := gw_in (List.mem_append_right _ (List.mem_of_getElem? (i := 656) (by decide +kernel))) rfl
theorem w_657 : (Jvm.Cond.code ({ cls := "EscalatedForms$Tree", name := "truncate", desc := "(I)V" } : Jvm.MethodName) prog_9_method_4_code (3 : Nat) (Option.none : Option Jvm.ClassFile.FieldType)) ∈ gw := gw_in (List.mem_append_right _ (List.mem_of_getElem? (i := 657) (by decide +kernel))) rfl
theorem w_658 : (Jvm.Cond.methodLink "EscalatedForms" (243 : Nat) ({ cls := "EscalatedForms$Tree", name := "add", desc := "(LEscalatedForms$Form;II)I" } : Jvm.MethodName)) ∈ gw := gw_in (List.mem_append_right _ (List.mem_of_getElem? (i := 658) (by decide +kernel))) rfl
theorem w_659 : (Jvm.Cond.instanceMethod ({ cls := "EscalatedForms$Tree", name := "add", desc := "(LEscalatedForms$Form;II)I" } : Jvm.MethodName)) ∈ gw := gw_in (List.mem_append_right _ (List.mem_of_getElem? (i := 659) (by decide +kernel))) rfl
theorem w_660 : (Jvm.Cond.selects "EscalatedForms$Tree" ({ cls := "EscalatedForms$Tree", name := "add", desc := "(LEscalatedForms$Form;II)I" } : Jvm.MethodName) ({ cls := "EscalatedForms$Tree", name := "add", desc := "(LEscalatedForms$Form;II)I" } : Jvm.MethodName)) ∈ gw := gw_in (List.mem_append_right _ (List.mem_of_getElem? (i := 660) (by decide +kernel))) rfl
theorem w_661 : (Jvm.Cond.code ({ cls := "EscalatedForms$Tree", name := "add", desc := "(LEscalatedForms$Form;II)I" } : Jvm.MethodName) prog_9_method_5_code (4 : Nat) (Option.some Jvm.ClassFile.FieldType.int)) ∈ gw := gw_in (List.mem_append_right _ (List.mem_of_getElem? (i := 661) (by decide +kernel))) rfl
theorem w_662 : (Jvm.Cond.methodLink "EscalatedFormsLaw" (142 : Nat) ({ cls := "EscalatedForms", name := "branch", desc := "(II)I" } : Jvm.MethodName)) ∈ gw := gw_in (List.mem_append_right _ (List.mem_of_getElem? (i := 662) (by decide +kernel))) rfl
theorem w_663 : (Jvm.Cond.instanceMethod ({ cls := "EscalatedForms", name := "branch", desc := "(II)I" } : Jvm.MethodName)) ∈ gw := gw_in (List.mem_append_right _ (List.mem_of_getElem? (i := 663) (by decide +kernel))) rfl
theorem w_664 : (Jvm.Cond.selects "EscalatedForms" ({ cls := "EscalatedForms", name := "branch", desc := "(II)I" } : Jvm.MethodName) ({ cls := "EscalatedForms", name := "branch", desc := "(II)I" } : Jvm.MethodName)) ∈ gw := gw_in (List.mem_append_right _ (List.mem_of_getElem? (i := 664) (by decide +kernel))) rfl
theorem w_665 : (Jvm.Cond.code ({ cls := "EscalatedForms", name := "branch", desc := "(II)I" } : Jvm.MethodName) prog_1_method_33_code (5 : Nat) (Option.some Jvm.ClassFile.FieldType.int)) ∈ gw := gw_in (List.mem_append_right _ (List.mem_of_getElem? (i := 665) (by decide +kernel))) rfl
theorem w_666 : (Jvm.Cond.methodLink "EscalatedForms" (247 : Nat) ({ cls := "EscalatedForms$Tree", name := "isNode", desc := "(I)Z" } : Jvm.MethodName)) ∈ gw := gw_in (List.mem_append_right _ (List.mem_of_getElem? (i := 666) (by decide +kernel))) rfl
theorem w_667 : (Jvm.Cond.instanceMethod ({ cls := "EscalatedForms$Tree", name := "isNode", desc := "(I)Z" } : Jvm.MethodName)) ∈ gw := gw_in (List.mem_append_right _ (List.mem_of_getElem? (i := 667) (by decide +kernel))) rfl
theorem w_668 : (Jvm.Cond.selects "EscalatedForms$Tree" ({ cls := "EscalatedForms$Tree", name := "isNode", desc := "(I)Z" } : Jvm.MethodName) ({ cls := "EscalatedForms$Tree", name := "isNode", desc := "(I)Z" } : Jvm.MethodName)) ∈ gw := gw_in (List.mem_append_right _ (List.mem_of_getElem? (i := 668) (by decide +kernel))) rfl
theorem w_669 : (Jvm.Cond.code ({ cls := "EscalatedForms$Tree", name := "isNode", desc := "(I)Z" } : Jvm.MethodName) prog_9_method_2_code (2 : Nat) (Option.some Jvm.ClassFile.FieldType.boolean)) ∈ gw := gw_in (List.mem_append_right _ (List.mem_of_getElem? (i := 669) (by decide +kernel))) rfl
theorem w_670 : (Jvm.Cond.methodLink "EscalatedFormsLaw" (146 : Nat) ({ cls := "EscalatedForms", name := "ofNode", desc := "(II)I" } : Jvm.MethodName)) ∈ gw := gw_in (List.mem_append_right _ (List.mem_of_getElem? (i := 670) (by decide +kernel))) rfl
theorem w_671 : (Jvm.Cond.instanceMethod ({ cls := "EscalatedForms", name := "ofNode", desc := "(II)I" } : Jvm.MethodName)) ∈ gw := gw_in (List.mem_append_right _ (List.mem_of_getElem? (i := 671) (by decide +kernel))) rfl
theorem w_672 : (Jvm.Cond.selects "EscalatedForms" ({ cls := "EscalatedForms", name := "ofNode", desc := "(II)I" } : Jvm.MethodName) ({ cls := "EscalatedForms", name := "ofNode", desc := "(II)I" } : Jvm.MethodName)) ∈ gw := gw_in (List.mem_append_right _ (List.mem_of_getElem? (i := 672) (by decide +kernel))) rfl
theorem w_673 : (Jvm.Cond.code ({ cls := "EscalatedForms", name := "ofNode", desc := "(II)I" } : Jvm.MethodName) prog_1_method_34_code (4 : Nat) (Option.some Jvm.ClassFile.FieldType.int)) ∈ gw := gw_in (List.mem_append_right _ (List.mem_of_getElem? (i := 673) (by decide +kernel))) rfl
theorem w_674 : (Jvm.Cond.methodLink "EscalatedForms" (262 : Nat) ({ cls := "EscalatedForms$Tree", name := "under", desc := "(I)I" } : Jvm.MethodName)) ∈ gw := gw_in (List.mem_append_right _ (List.mem_of_getElem? (i := 674) (by decide +kernel))) rfl
theorem w_675 : (Jvm.Cond.instanceMethod ({ cls := "EscalatedForms$Tree", name := "under", desc := "(I)I" } : Jvm.MethodName)) ∈ gw := gw_in (List.mem_append_right _ (List.mem_of_getElem? (i := 675) (by decide +kernel))) rfl
theorem w_676 : (Jvm.Cond.selects "EscalatedForms$Tree" ({ cls := "EscalatedForms$Tree", name := "under", desc := "(I)I" } : Jvm.MethodName) ({ cls := "EscalatedForms$Tree", name := "under", desc := "(I)I" } : Jvm.MethodName)) ∈ gw := gw_in (List.mem_append_right _ (List.mem_of_getElem? (i := 676) (by decide +kernel))) rfl
theorem w_677 : (Jvm.Cond.code ({ cls := "EscalatedForms$Tree", name := "under", desc := "(I)I" } : Jvm.MethodName) prog_9_method_6_code (4 : Nat) (Option.some Jvm.ClassFile.FieldType.int)) ∈ gw := gw_in (List.mem_append_right _ (List.mem_of_getElem? (i := 677) (by decide +kernel))) rfl
theorem w_678 : (Jvm.Cond.methodLink "EscalatedForms" (265 : Nat) ({ cls := "EscalatedForms$Tree", name := "heightOf", desc := "(I)I" } : Jvm.MethodName)) ∈ gw := gw_in (List.mem_append_right _ (List.mem_of_getElem? (i := 678) (by decide +kernel))) rfl
theorem w_679 : (Jvm.Cond.instanceMethod ({ cls := "EscalatedForms$Tree", name := "heightOf", desc := "(I)I" } : Jvm.MethodName)) ∈ gw := gw_in (List.mem_append_right _ (List.mem_of_getElem? (i := 679) (by decide +kernel))) rfl
theorem w_680 : (Jvm.Cond.selects "EscalatedForms$Tree" ({ cls := "EscalatedForms$Tree", name := "heightOf", desc := "(I)I" } : Jvm.MethodName) ({ cls := "EscalatedForms$Tree", name := "heightOf", desc := "(I)I" } : Jvm.MethodName)) ∈ gw := gw_in (List.mem_append_right _ (List.mem_of_getElem? (i := 680) (by decide +kernel))) rfl
theorem w_681 : (Jvm.Cond.code ({ cls := "EscalatedForms$Tree", name := "heightOf", desc := "(I)I" } : Jvm.MethodName) prog_9_method_8_code (3 : Nat) (Option.some Jvm.ClassFile.FieldType.int)) ∈ gw := gw_in (List.mem_append_right _ (List.mem_of_getElem? (i := 681) (by decide +kernel))) rfl
theorem w_682 : (Jvm.Cond.methodLink "EscalatedForms$Tree" (31 : Nat) ({ cls := "java/util/Arrays", name := "fill", desc := "([II)V" } : Jvm.MethodName)) ∈ gw := gw_in (List.mem_append_right _ (List.mem_of_getElem? (i := 682) (by decide +kernel))) rfl
theorem w_683 : (Jvm.Cond.methodLink "EscalatedForms$Tree" (37 : Nat) ({ cls := "java/lang/Math", name := "max", desc := "(II)I" } : Jvm.MethodName)) ∈ gw := gw_in (List.mem_append_right _ (List.mem_of_getElem? (i := 683) (by decide +kernel))) rfl
theorem w_684 : (Jvm.Cond.methodLink "EscalatedForms" (268 : Nat) ({ cls := "EscalatedForms$Tree", name := "leavesOf", desc := "(I)I" } : Jvm.MethodName)) ∈ gw := gw_in (List.mem_append_right _ (List.mem_of_getElem? (i := 684) (by decide +kernel))) rfl
theorem w_685 : (Jvm.Cond.instanceMethod ({ cls := "EscalatedForms$Tree", name := "leavesOf", desc := "(I)I" } : Jvm.MethodName)) ∈ gw := gw_in (List.mem_append_right _ (List.mem_of_getElem? (i := 685) (by decide +kernel))) rfl
theorem w_686 : (Jvm.Cond.selects "EscalatedForms$Tree" ({ cls := "EscalatedForms$Tree", name := "leavesOf", desc := "(I)I" } : Jvm.MethodName) ({ cls := "EscalatedForms$Tree", name := "leavesOf", desc := "(I)I" } : Jvm.MethodName)) ∈ gw := gw_in (List.mem_append_right _ (List.mem_of_getElem? (i := 686) (by decide +kernel))) rfl
theorem w_687 : (Jvm.Cond.code ({ cls := "EscalatedForms$Tree", name := "leavesOf", desc := "(I)I" } : Jvm.MethodName) prog_9_method_9_code (4 : Nat) (Option.some Jvm.ClassFile.FieldType.int)) ∈ gw := gw_in (List.mem_append_right _ (List.mem_of_getElem? (i := 687) (by decide +kernel))) rfl
theorem w_688 : (Jvm.Cond.methodLink "EscalatedForms$Tree" (43 : Nat) ({ cls := "EscalatedForms$Tree", name := "isWithin", desc := "(II)Z" } : Jvm.MethodName)) ∈ gw := gw_in (List.mem_append_right _ (List.mem_of_getElem? (i := 688) (by decide +kernel))) rfl
theorem w_689 : (Jvm.Cond.instanceMethod ({ cls := "EscalatedForms$Tree", name := "isWithin", desc := "(II)Z" } : Jvm.MethodName)) ∈ gw := gw_in (List.mem_append_right _ (List.mem_of_getElem? (i := 689) (by decide +kernel))) rfl
theorem w_690 : (Jvm.Cond.selects "EscalatedForms$Tree" ({ cls := "EscalatedForms$Tree", name := "isWithin", desc := "(II)Z" } : Jvm.MethodName) ({ cls := "EscalatedForms$Tree", name := "isWithin", desc := "(II)Z" } : Jvm.MethodName)) ∈ gw := gw_in (List.mem_append_right _ (List.mem_of_getElem? (i := 690) (by decide +kernel))) rfl
theorem w_691 : (Jvm.Cond.code ({ cls := "EscalatedForms$Tree", name := "isWithin", desc := "(II)Z" } : Jvm.MethodName) prog_9_method_7_code (5 : Nat) (Option.some Jvm.ClassFile.FieldType.boolean)) ∈ gw := gw_in (List.mem_append_right _ (List.mem_of_getElem? (i := 691) (by decide +kernel))) rfl
theorem w_692 : (Jvm.Cond.methodLink "EscalatedForms$Tree" (47 : Nat) ({ cls := "EscalatedForms$Tree", name := "under", desc := "(I)I" } : Jvm.MethodName)) ∈ gw := gw_in (List.mem_append_right _ (List.mem_of_getElem? (i := 692) (by decide +kernel))) rfl
theorem w_693 : (Jvm.Cond.methodLink "EscalatedForms" (271 : Nat) ({ cls := "EscalatedForms", name := "claimsBelow", desc := "(I)I" } : Jvm.MethodName)) ∈ gw := gw_in (List.mem_append_right _ (List.mem_of_getElem? (i := 693) (by decide +kernel))) rfl
theorem w_695 : (Jvm.Cond.instanceMethod ({ cls := "EscalatedForms", name := "claimsBelow", desc := "(I)I" } : Jvm.MethodName)) ∈ gw := gw_in (List.mem_append_right _ (List.mem_of_getElem? (i := 695) (by decide +kernel))) rfl
theorem w_696 : (Jvm.Cond.code ({ cls := "EscalatedForms", name := "claimsBelow", desc := "(I)I" } : Jvm.MethodName) prog_1_method_59_code (4 : Nat) (Option.some Jvm.ClassFile.FieldType.int)) ∈ gw := gw_in (List.mem_append_right _ (List.mem_of_getElem? (i := 696) (by decide +kernel))) rfl
theorem w_697 : (Jvm.Cond.methodLink "EscalatedForms" (325 : Nat) ({ cls := "EscalatedForms$Tree", name := "isWithin", desc := "(II)Z" } : Jvm.MethodName)) ∈ gw := gw_in (List.mem_append_right _ (List.mem_of_getElem? (i := 697) (by decide +kernel))) rfl
theorem w_698 : (Jvm.Cond.methodLink "EscalatedFormsLaw" (150 : Nat) ({ cls := "EscalatedForms", name := "nodeTo", desc := "(II)I" } : Jvm.MethodName)) ∈ gw := gw_in (List.mem_append_right _ (List.mem_of_getElem? (i := 698) (by decide +kernel))) rfl
theorem w_699 : (Jvm.Cond.instanceMethod ({ cls := "EscalatedForms", name := "nodeTo", desc := "(II)I" } : Jvm.MethodName)) ∈ gw := gw_in (List.mem_append_right _ (List.mem_of_getElem? (i := 699) (by decide +kernel))) rfl
theorem w_700 : (Jvm.Cond.selects "EscalatedForms" ({ cls := "EscalatedForms", name := "nodeTo", desc := "(II)I" } : Jvm.MethodName) ({ cls := "EscalatedForms", name := "nodeTo", desc := "(II)I" } : Jvm.MethodName)) ∈ gw := gw_in (List.mem_append_right _ (List.mem_of_getElem? (i := 700) (by decide +kernel))) rfl
theorem w_701 : (Jvm.Cond.code ({ cls := "EscalatedForms", name := "nodeTo", desc := "(II)I" } : Jvm.MethodName) prog_1_method_35_code (3 : Nat) (Option.some Jvm.ClassFile.FieldType.int)) ∈ gw := gw_in (List.mem_append_right _ (List.mem_of_getElem? (i := 701) (by decide +kernel))) rfl
theorem w_702 : (Jvm.Cond.methodLink "EscalatedFormsLaw" (154 : Nat) ({ cls := "EscalatedForms", name := "walk", desc := "(I)I" } : Jvm.MethodName)) ∈ gw := gw_in (List.mem_append_right _ (List.mem_of_getElem? (i := 702) (by decide +kernel))) rfl
theorem w_703 : (Jvm.Cond.instanceMethod ({ cls := "EscalatedForms", name := "walk", desc := "(I)I" } : Jvm.MethodName)) ∈ gw := gw_in (List.mem_append_right _ (List.mem_of_getElem? (i := 703) (by decide +kernel))) rfl
theorem w_704 : (Jvm.Cond.selects "EscalatedForms" ({ cls := "EscalatedForms", name := "walk", desc := "(I)I" } : Jvm.MethodName) ({ cls := "EscalatedForms", name := "walk", desc := "(I)I" } : Jvm.MethodName)) ∈ gw := gw_in (List.mem_append_right _ (List.mem_of_getElem? (i := 704) (by decide +kernel))) rfl
theorem w_705 : (Jvm.Cond.code ({ cls := "EscalatedForms", name := "walk", desc := "(I)I" } : Jvm.MethodName) prog_1_method_36_code (4 : Nat) (Option.some Jvm.ClassFile.FieldType.int)) ∈ gw := gw_in (List.mem_append_right _ (List.mem_of_getElem? (i := 705) (by decide +kernel))) rfl
theorem w_706 : (Jvm.Cond.methodLink "EscalatedForms" (277 : Nat) ({ cls := "EscalatedForms$Tree", name := "following", desc := "(I)I" } : Jvm.MethodName)) ∈ gw := gw_in (List.mem_append_right _ (List.mem_of_getElem? (i := 706) (by decide +kernel))) rfl
theorem w_707 : (Jvm.Cond.instanceMethod ({ cls := "EscalatedForms$Tree", name := "following", desc := "(I)I" } : Jvm.MethodName)) ∈ gw := gw_in (List.mem_append_right _ (List.mem_of_getElem? (i := 707) (by decide +kernel))) rfl
theorem w_708 : (Jvm.Cond.selects "EscalatedForms$Tree" ({ cls := "EscalatedForms$Tree", name := "following", desc := "(I)I" } : Jvm.MethodName) ({ cls := "EscalatedForms$Tree", name := "following", desc := "(I)I" } : Jvm.MethodName)) ∈ gw := gw_in (List.mem_append_right _ (List.mem_of_getElem? (i := 708) (by decide +kernel))) rfl
theorem w_709 : (Jvm.Cond.code ({ cls := "EscalatedForms$Tree", name := "following", desc := "(I)I" } : Jvm.MethodName) prog_9_method_11_code (5 : Nat) (Option.some Jvm.ClassFile.FieldType.int)) ∈ gw := gw_in (List.mem_append_right _ (List.mem_of_getElem? (i := 709) (by decide +kernel))) rfl
theorem w_710 : (Jvm.Cond.methodLink "EscalatedForms$Tree" (51 : Nat) ({ cls := "EscalatedForms$Tree", name := "firstUnder", desc := "(II)I" } : Jvm.MethodName)) ∈ gw := gw_in (List.mem_append_right _ (List.mem_of_getElem? (i := 710) (by decide +kernel))) rfl
theorem w_712 : (Jvm.Cond.instanceMethod ({ cls := "EscalatedForms$Tree", name := "firstUnder", desc := "(II)I" } : Jvm.MethodName)) ∈ gw := gw_in (List.mem_append_right _ (List.mem_of_getElem? (i := 712) (by decide +kernel))) rfl
theorem w_713 : (Jvm.Cond.code ({ cls := "EscalatedForms$Tree", name := "firstUnder", desc := "(II)I" } : Jvm.MethodName) prog_9_method_10_code (4 : Nat) (Option.some Jvm.ClassFile.FieldType.int)) ∈ gw := gw_in (List.mem_append_right _ (List.mem_of_getElem? (i := 713) (by decide +kernel))) rfl
theorem w_714 : (Jvm.Cond.methodLink "EscalatedFormsLaw" (158 : Nat) ({ cls := "EscalatedForms", name := "cut", desc := "(I)I" } : Jvm.MethodName)) ∈ gw := gw_in (List.mem_append_right _ (List.mem_of_getElem? (i := 714) (by decide +kernel))) rfl
theorem w_715 : (Jvm.Cond.instanceMethod ({ cls := "EscalatedForms", name := "cut", desc := "(I)I" } : Jvm.MethodName)) ∈ gw := gw_in (List.mem_append_right _ (List.mem_of_getElem? (i := 715) (by decide +kernel))) rfl
theorem w_716 : (Jvm.Cond.selects "EscalatedForms" ({ cls := "EscalatedForms", name := "cut", desc := "(I)I" } : Jvm.MethodName) ({ cls := "EscalatedForms", name := "cut", desc := "(I)I" } : Jvm.MethodName)) ∈ gw := gw_in (List.mem_append_right _ (List.mem_of_getElem? (i := 716) (by decide +kernel))) rfl
theorem w_717 : (Jvm.Cond.code ({ cls := "EscalatedForms", name := "cut", desc := "(I)I" } : Jvm.MethodName) prog_1_method_37_code (2 : Nat) (Option.some Jvm.ClassFile.FieldType.int)) ∈ gw := gw_in (List.mem_append_right _ (List.mem_of_getElem? (i := 717) (by decide +kernel))) rfl
theorem w_718 : (Jvm.Cond.methodLink "EscalatedForms" (280 : Nat) ({ cls := "EscalatedForms$Tree", name := "remove", desc := "(I)V" } : Jvm.MethodName)) ∈ gw := gw_in (List.mem_append_right _ (List.mem_of_getElem? (i := 718) (by decide +kernel))) rfl
theorem w_719 : (Jvm.Cond.instanceMethod ({ cls := "EscalatedForms$Tree", name := "remove", desc := "(I)V" } : Jvm.MethodName)) ∈ gw := gw_in (List.mem_append_right _ (List.mem_of_getElem? (i := 719) (by decide +kernel))) rfl
theorem w_720 : (Jvm.Cond.selects "EscalatedForms$Tree" ({ cls := "EscalatedForms$Tree", name := "remove", desc := "(I)V" } : Jvm.MethodName) ({ cls := "EscalatedForms$Tree", name := "remove", desc := "(I)V" } : Jvm.MethodName)) ∈ gw := gw_in (List.mem_append_right _ (List.mem_of_getElem? (i := 720) (by decide +kernel))) rfl
theorem w_721 : (Jvm.Cond.code ({ cls := "EscalatedForms$Tree", name := "remove", desc := "(I)V" } : Jvm.MethodName) prog_9_method_12_code (6 : Nat) (Option.none : Option Jvm.ClassFile.FieldType)) ∈ gw := gw_in (List.mem_append_right _ (List.mem_of_getElem? (i := 721) (by decide +kernel))) rfl
theorem w_722 : (Jvm.Cond.methodLink "EscalatedForms$Tree" (54 : Nat) ({ cls := "EscalatedForms$Tree", name := "truncate", desc := "(I)V" } : Jvm.MethodName)) ∈ gw := gw_in (List.mem_append_right _ (List.mem_of_getElem? (i := 722) (by decide +kernel))) rfl
theorem w_723 : (Jvm.Cond.methodLink "EscalatedFormsLaw" (162 : Nat) ({ cls := "EscalatedForms", name := "sheet", desc := "(III)I" } : Jvm.MethodName)) ∈ gw := gw_in (List.mem_append_right _ (List.mem_of_getElem? (i := 723) (by decide +kernel))) rfl
theorem w_724 : (Jvm.Cond.instanceMethod ({ cls := "EscalatedForms", name := "sheet", desc := "(III)I" } : Jvm.MethodName)) ∈ gw := gw_in (List.mem_append_right _ (List.mem_of_getElem? (i := 724) (by decide +kernel))) rfl
theorem w_725 : (Jvm.Cond.selects "EscalatedForms" ({ cls := "EscalatedForms", name := "sheet", desc := "(III)I" } : Jvm.MethodName) ({ cls := "EscalatedForms", name := "sheet", desc := "(III)I" } : Jvm.MethodName)) ∈ gw := gw_in (List.mem_append_right _ (List.mem_of_getElem? (i := 725) (by decide +kernel))) rfl
theorem w_726 : (Jvm.Cond.code ({ cls := "EscalatedForms", name := "sheet", desc := "(III)I" } : Jvm.MethodName) prog_1_method_38_code (4 : Nat) (Option.some Jvm.ClassFile.FieldType.int)) ∈ gw := gw_in (List.mem_append_right _ (List.mem_of_getElem? (i := 726) (by decide +kernel))) rfl
theorem w_727 : (Jvm.Cond.methodLink "EscalatedForms" (283 : Nat) ({ cls := "EscalatedForms$Sheet", name := "become", desc := "(II)V" } : Jvm.MethodName)) ∈ gw := gw_in (List.mem_append_right _ (List.mem_of_getElem? (i := 727) (by decide +kernel))) rfl
theorem w_728 : (Jvm.Cond.instanceMethod ({ cls := "EscalatedForms$Sheet", name := "become", desc := "(II)V" } : Jvm.MethodName)) ∈ gw := gw_in (List.mem_append_right _ (List.mem_of_getElem? (i := 728) (by decide +kernel))) rfl
theorem w_729 : (Jvm.Cond.selects "EscalatedForms$Sheet" ({ cls := "EscalatedForms$Sheet", name := "become", desc := "(II)V" } : Jvm.MethodName) ({ cls := "EscalatedForms$Sheet", name := "become", desc := "(II)V" } : Jvm.MethodName)) ∈ gw := gw_in (List.mem_append_right _ (List.mem_of_getElem? (i := 729) (by decide +kernel))) rfl
theorem w_730 : (Jvm.Cond.code ({ cls := "EscalatedForms$Sheet", name := "become", desc := "(II)V" } : Jvm.MethodName) prog_7_method_3_code (3 : Nat) (Option.none : Option Jvm.ClassFile.FieldType)) ∈ gw := gw_in (List.mem_append_right _ (List.mem_of_getElem? (i := 730) (by decide +kernel))) rfl
theorem w_731 : (Jvm.Cond.methodLink "EscalatedForms$Sheet" (22 : Nat) ({ cls := "java/util/Arrays", name := "fill", desc := "([II)V" } : Jvm.MethodName)) ∈ gw := gw_in (List.mem_append_right _ (List.mem_of_getElem? (i := 731) (by decide +kernel))) rfl
theorem w_732 : (Jvm.Cond.methodLink "EscalatedFormsLaw" (166 : Nat) ({ cls := "EscalatedForms", name := "cell", desc := "(III)I" } : Jvm.MethodName)) ∈ gw := gw_in (List.mem_append_right _ (List.mem_of_getElem? (i := 732) (by decide +kernel))) rfl
theorem w_733 : (Jvm.Cond.instanceMethod ({ cls := "EscalatedForms", name := "cell", desc := "(III)I" } : Jvm.MethodName)) ∈ gw := gw_in (List.mem_append_right _ (List.mem_of_getElem? (i := 733) (by decide +kernel))) rfl
theorem w_734 : (Jvm.Cond.selects "EscalatedForms" ({ cls := "EscalatedForms", name := "cell", desc := "(III)I" } : Jvm.MethodName) ({ cls := "EscalatedForms", name := "cell", desc := "(III)I" } : Jvm.MethodName)) ∈ gw := gw_in (List.mem_append_right _ (List.mem_of_getElem? (i := 734) (by decide +kernel))) rfl
theorem w_735 : (Jvm.Cond.code ({ cls := "EscalatedForms", name := "cell", desc := "(III)I" } : Jvm.MethodName) prog_1_method_39_code (5 : Nat) (Option.some Jvm.ClassFile.FieldType.int)) ∈ gw := gw_in (List.mem_append_right _ (List.mem_of_getElem? (i := 735) (by decide +kernel))) rfl
theorem w_736 : (Jvm.Cond.methodLink "EscalatedFormsLaw" (170 : Nat) ({ cls := "EscalatedForms", name := "item", desc := "(II)J" } : Jvm.MethodName)) ∈ gw := gw_in (List.mem_append_right _ (List.mem_of_getElem? (i := 736) (by decide +kernel))) rfl
theorem w_737 : (Jvm.Cond.instanceMethod ({ cls := "EscalatedForms", name := "item", desc := "(II)J" } : Jvm.MethodName)) ∈ gw := gw_in (List.mem_append_right _ (List.mem_of_getElem? (i := 737) (by decide +kernel))) rfl
theorem w_738 : (Jvm.Cond.selects "EscalatedForms" ({ cls := "EscalatedForms", name := "item", desc := "(II)J" } : Jvm.MethodName) ({ cls := "EscalatedForms", name := "item", desc := "(II)J" } : Jvm.MethodName)) ∈ gw := gw_in (List.mem_append_right _ (List.mem_of_getElem? (i := 738) (by decide +kernel))) rfl
theorem w_739 : (Jvm.Cond.code ({ cls := "EscalatedForms", name := "item", desc := "(II)J" } : Jvm.MethodName) prog_1_method_40_code (3 : Nat) (Option.some Jvm.ClassFile.FieldType.long)) ∈ gw := gw_in (List.mem_append_right _ (List.mem_of_getElem? (i := 739) (by decide +kernel))) rfl
theorem w_740 : (Jvm.Cond.constantLong "EscalatedForms" (286 : Nat) (-9223372036854775808 : Int64)) ∈ gw := gw_in (List.mem_append_right _ (List.mem_of_getElem? (i := 740) (by decide +kernel))) rfl
theorem w_741 : (Jvm.Cond.methodLink "EscalatedFormsLaw" (175 : Nat) ({ cls := "EscalatedForms", name := "move", desc := "(IIIII)I" } : Jvm.MethodName)) ∈ gw := gw_in (List.mem_append_right _ (List.mem_of_getElem? (i := 741) (by decide +kernel))) rfl
theorem w_742 : (Jvm.Cond.instanceMethod ({ cls := "EscalatedForms", name := "move", desc := "(IIIII)I" } : Jvm.MethodName)) ∈ gw := gw_in (List.mem_append_right _ (List.mem_of_getElem? (i := 742) (by decide +kernel))) rfl
theorem w_743 : (Jvm.Cond.selects "EscalatedForms" ({ cls := "EscalatedForms", name := "move", desc := "(IIIII)I" } : Jvm.MethodName) ({ cls := "EscalatedForms", name := "move", desc := "(IIIII)I" } : Jvm.MethodName)) ∈ gw := gw_in (List.mem_append_right _ (List.mem_of_getElem? (i := 743) (by decide +kernel))) rfl
theorem w_744 : (Jvm.Cond.code ({ cls := "EscalatedForms", name := "move", desc := "(IIIII)I" } : Jvm.MethodName) prog_1_method_41_code (8 : Nat) (Option.some Jvm.ClassFile.FieldType.int)) ∈ gw := gw_in (List.mem_append_right _ (List.mem_of_getElem? (i := 744) (by decide +kernel))) rfl
theorem w_745 : (Jvm.Cond.methodLink "EscalatedForms" (291 : Nat) ({ cls := "java/lang/System", name := "arraycopy", desc := "(Ljava/lang/Object;ILjava/lang/Object;II)V" } : Jvm.MethodName)) ∈ gw := gw_in (List.mem_append_right _ (List.mem_of_getElem? (i := 745) (by decide +kernel))) rfl
theorem w_746 : (Jvm.Cond.methodLink "EscalatedFormsLaw" (180 : Nat) ({ cls := "EscalatedForms", name := "keep", desc := "()I" } : Jvm.MethodName)) ∈ gw := gw_in (List.mem_append_right _ (List.mem_of_getElem? (i := 746) (by decide +kernel))) rfl
theorem w_747 : (Jvm.Cond.instanceMethod ({ cls := "EscalatedForms", name := "keep", desc := "()I" } : Jvm.MethodName)) ∈ gw := gw_in (List.mem_append_right _ (List.mem_of_getElem? (i := 747) (by decide +kernel))) rfl
theorem w_748 : (Jvm.Cond.selects "EscalatedForms" ({ cls := "EscalatedForms", name := "keep", desc := "()I" } : Jvm.MethodName) ({ cls := "EscalatedForms", name := "keep", desc := "()I" } : Jvm.MethodName)) ∈ gw := gw_in (List.mem_append_right _ (List.mem_of_getElem? (i := 748) (by decide +kernel))) rfl
theorem w_749 : (Jvm.Cond.code ({ cls := "EscalatedForms", name := "keep", desc := "()I" } : Jvm.MethodName) prog_1_method_42_code (2 : Nat) (Option.some Jvm.ClassFile.FieldType.int)) ∈ gw := gw_in (List.mem_append_right _ (List.mem_of_getElem? (i := 749) (by decide +kernel))) rfl
theorem w_750 : (Jvm.Cond.methodLink "EscalatedForms" (297 : Nat) ({ cls := "EscalatedForms$Tree", name := "become", desc := "(LEscalatedForms$Tree;)V" } : Jvm.MethodName)) ∈ gw := gw_in (List.mem_append_right _ (List.mem_of_getElem? (i := 750) (by decide +kernel))) rfl
theorem w_751 : (Jvm.Cond.instanceMethod ({ cls := "EscalatedForms$Tree", name := "become", desc := "(LEscalatedForms$Tree;)V" } : Jvm.MethodName)) ∈ gw := gw_in (List.mem_append_right _ (List.mem_of_getElem? (i := 751) (by decide +kernel))) rfl
theorem w_752 : (Jvm.Cond.selects "EscalatedForms$Tree" ({ cls := "EscalatedForms$Tree", name := "become", desc := "(LEscalatedForms$Tree;)V" } : Jvm.MethodName) ({ cls := "EscalatedForms$Tree", name := "become", desc := "(LEscalatedForms$Tree;)V" } : Jvm.MethodName)) ∈ gw := gw_in (List.mem_append_right _ (List.mem_of_getElem? (i := 752) (by decide +kernel))) rfl
theorem w_753 : (Jvm.Cond.code ({ cls := "EscalatedForms$Tree", name := "become", desc := "(LEscalatedForms$Tree;)V" } : Jvm.MethodName) prog_9_method_3_code (3 : Nat) (Option.none : Option Jvm.ClassFile.FieldType)) ∈ gw := gw_in (List.mem_append_right _ (List.mem_of_getElem? (i := 753) (by decide +kernel))) rfl
theorem w_754 : (Jvm.Cond.methodLink "EscalatedForms" (300 : Nat) ({ cls := "EscalatedForms", name := "heldSlots", desc := "()I" } : Jvm.MethodName)) ∈ gw := gw_in (List.mem_append_right _ (List.mem_of_getElem? (i := 754) (by decide +kernel))) rfl
theorem w_756 : (Jvm.Cond.instanceMethod ({ cls := "EscalatedForms", name := "heldSlots", desc := "()I" } : Jvm.MethodName)) ∈ gw := gw_in (List.mem_append_right _ (List.mem_of_getElem? (i := 756) (by decide +kernel))) rfl
theorem w_757 : (Jvm.Cond.code ({ cls := "EscalatedForms", name := "heldSlots", desc := "()I" } : Jvm.MethodName) prog_1_method_52_code (3 : Nat) (Option.some Jvm.ClassFile.FieldType.int)) ∈ gw := gw_in (List.mem_append_right _ (List.mem_of_getElem? (i := 757) (by decide +kernel))) rfl
theorem w_758 : (Jvm.Cond.methodLink "EscalatedFormsLaw" (185 : Nat) ({ cls := "EscalatedForms", name := "back", desc := "()I" } : Jvm.MethodName)) ∈ gw := gw_in (List.mem_append_right _ (List.mem_of_getElem? (i := 758) (by decide +kernel))) rfl
theorem w_759 : (Jvm.Cond.instanceMethod ({ cls := "EscalatedForms", name := "back", desc := "()I" } : Jvm.MethodName)) ∈ gw := gw_in (List.mem_append_right _ (List.mem_of_getElem? (i := 759) (by decide +kernel))) rfl
theorem w_760 : (Jvm.Cond.selects "EscalatedForms" ({ cls := "EscalatedForms", name := "back", desc := "()I" } : Jvm.MethodName) ({ cls := "EscalatedForms", name := "back", desc := "()I" } : Jvm.MethodName)) ∈ gw := gw_in (List.mem_append_right _ (List.mem_of_getElem? (i := 760) (by decide +kernel))) rfl
theorem w_761 : (Jvm.Cond.code ({ cls := "EscalatedForms", name := "back", desc := "()I" } : Jvm.MethodName) prog_1_method_43_code (2 : Nat) (Option.some Jvm.ClassFile.FieldType.int)) ∈ gw := gw_in (List.mem_append_right _ (List.mem_of_getElem? (i := 761) (by decide +kernel))) rfl
theorem w_762 : (Jvm.Cond.methodLink "EscalatedFormsLaw" (189 : Nat) ({ cls := "EscalatedForms", name := "count", desc := "(I)I" } : Jvm.MethodName)) ∈ gw := gw_in (List.mem_append_right _ (List.mem_of_getElem? (i := 762) (by decide +kernel))) rfl
theorem w_763 : (Jvm.Cond.instanceMethod ({ cls := "EscalatedForms", name := "count", desc := "(I)I" } : Jvm.MethodName)) ∈ gw := gw_in (List.mem_append_right _ (List.mem_of_getElem? (i := 763) (by decide +kernel))) rfl
theorem w_764 : (Jvm.Cond.selects "EscalatedForms" ({ cls := "EscalatedForms", name := "count", desc := "(I)I" } : Jvm.MethodName) ({ cls := "EscalatedForms", name := "count", desc := "(I)I" } : Jvm.MethodName)) ∈ gw := gw_in (List.mem_append_right _ (List.mem_of_getElem? (i := 764) (by decide +kernel))) rfl
theorem w_765 : (Jvm.Cond.code ({ cls := "EscalatedForms", name := "count", desc := "(I)I" } : Jvm.MethodName) prog_1_method_44_code (2 : Nat) (Option.some Jvm.ClassFile.FieldType.int)) ∈ gw := gw_in (List.mem_append_right _ (List.mem_of_getElem? (i := 765) (by decide +kernel))) rfl
theorem w_766 : (Jvm.Cond.methodLink "EscalatedForms" (303 : Nat) ({ cls := "EscalatedForms", name := "presentSheets", desc := "()I" } : Jvm.MethodName)) ∈ gw := gw_in (List.mem_append_right _ (List.mem_of_getElem? (i := 766) (by decide +kernel))) rfl
theorem w_768 : (Jvm.Cond.instanceMethod ({ cls := "EscalatedForms", name := "presentSheets", desc := "()I" } : Jvm.MethodName)) ∈ gw := gw_in (List.mem_append_right _ (List.mem_of_getElem? (i := 768) (by decide +kernel))) rfl
theorem w_769 : (Jvm.Cond.code ({ cls := "EscalatedForms", name := "presentSheets", desc := "()I" } : Jvm.MethodName) prog_1_method_53_code (3 : Nat) (Option.some Jvm.ClassFile.FieldType.int)) ∈ gw := gw_in (List.mem_append_right _ (List.mem_of_getElem? (i := 769) (by decide +kernel))) rfl
theorem w_770 : (Jvm.Cond.classLink "EscalatedFormsLaw" (10 : Nat) "EscalatedFormsModel") ∈ gw := gw_in (List.mem_append_right _ (List.mem_of_getElem? (i := 770) (by decide +kernel))) rfl
theorem w_771 : (Jvm.Cond.instantiable "EscalatedFormsModel" (34 : Nat)) ∈ gw := gw_in (List.mem_append_right _ (List.mem_of_getElem? (i := 771) (by decide +kernel))) rfl
theorem w_772 : (Jvm.Cond.methodLink "EscalatedFormsLaw" (12 : Nat) ({ cls := "EscalatedFormsModel", name := "<init>", desc := "()V" } : Jvm.MethodName)) ∈ gw := gw_in (List.mem_append_right _ (List.mem_of_getElem? (i := 772) (by decide +kernel))) rfl
theorem w_773 : (Jvm.Cond.instanceMethod ({ cls := "EscalatedFormsModel", name := "<init>", desc := "()V" } : Jvm.MethodName)) ∈ gw := gw_in (List.mem_append_right _ (List.mem_of_getElem? (i := 773) (by decide +kernel))) rfl
theorem w_774 : (Jvm.Cond.code ({ cls := "EscalatedFormsModel", name := "<init>", desc := "()V" } : Jvm.MethodName) prog_11_method_1_code (1 : Nat) (Option.none : Option Jvm.ClassFile.FieldType)) ∈ gw := gw_in (List.mem_append_right _ (List.mem_of_getElem? (i := 774) (by decide +kernel))) rfl
theorem w_775 : (Jvm.Cond.methodLink "EscalatedFormsModel" (5 : Nat) ({ cls := "java/lang/Object", name := "<init>", desc := "()V" } : Jvm.MethodName)) ∈ gw := gw_in (List.mem_append_right _ (List.mem_of_getElem? (i := 775) (by decide +kernel))) rfl
theorem w_776 : (Jvm.Cond.fieldLink "EscalatedFormsModel" (11 : Nat) "EscalatedFormsModel" "entries" "[I") ∈ gw := gw_in (List.mem_append_right _ (List.mem_of_getElem? (i := 776) (by decide +kernel))) rfl
theorem w_777 : (Jvm.Cond.fieldLink "EscalatedFormsModel" (15 : Nat) "EscalatedFormsModel" "letters" "[I") ∈ gw := gw_in (List.mem_append_right _ (List.mem_of_getElem? (i := 777) (by decide +kernel))) rfl
theorem w_778 : (Jvm.Cond.fieldLink "EscalatedFormsModel" (82 : Nat) "EscalatedFormsModel" "nodes" "I") ∈ gw := gw_in (List.mem_append_right _ (List.mem_of_getElem? (i := 778) (by decide +kernel))) rfl
theorem w_779 : (Jvm.Cond.fieldLink "EscalatedFormsModel" (18 : Nat) "EscalatedFormsModel" "under" "[I") ∈ gw := gw_in (List.mem_append_right _ (List.mem_of_getElem? (i := 779) (by decide +kernel))) rfl
theorem w_780 : (Jvm.Cond.fieldLink "EscalatedFormsModel" (21 : Nat) "EscalatedFormsModel" "childOf" "[I") ∈ gw := gw_in (List.mem_append_right _ (List.mem_of_getElem? (i := 780) (by decide +kernel))) rfl
theorem w_781 : (Jvm.Cond.fieldLink "EscalatedFormsModel" (279 : Nat) "EscalatedFormsModel" "keptNodes" "I") ∈ gw := gw_in (List.mem_append_right _ (List.mem_of_getElem? (i := 781) (by decide +kernel))) rfl
theorem w_782 : (Jvm.Cond.fieldLink "EscalatedFormsModel" (24 : Nat) "EscalatedFormsModel" "keptUnder" "[I") ∈ gw := gw_in (List.mem_append_right _ (List.mem_of_getElem? (i := 782) (by decide +kernel))) rfl
theorem w_783 : (Jvm.Cond.fieldLink "EscalatedFormsModel" (27 : Nat) "EscalatedFormsModel" "keptChild" "[I") ∈ gw := gw_in (List.mem_append_right _ (List.mem_of_getElem? (i := 783) (by decide +kernel))) rfl
theorem w_784 : (Jvm.Cond.fieldLink "EscalatedFormsModel" (282 : Nat) "EscalatedFormsModel" "isKept" "Z") ∈ gw := gw_in (List.mem_append_right _ (List.mem_of_getElem? (i := 784) (by decide +kernel))) rfl
theorem w_785 : (Jvm.Cond.fieldLink "EscalatedFormsModel" (30 : Nat) "EscalatedFormsModel" "table" "[J") ∈ gw := gw_in (List.mem_append_right _ (List.mem_of_getElem? (i := 785) (by decide +kernel))) rfl
theorem w_786 : (Jvm.Cond.fieldLink "EscalatedFormsModel" (34 : Nat) "EscalatedFormsModel" "reach" "[J") ∈ gw := gw_in (List.mem_append_right _ (List.mem_of_getElem? (i := 786) (by decide +kernel))) rfl
theorem w_787 : (Jvm.Cond.fieldLink "EscalatedFormsModel" (108 : Nat) "EscalatedFormsModel" "det0" "J") ∈ gw := gw_in (List.mem_append_right _ (List.mem_of_getElem? (i := 787) (by decide +kernel))) rfl
theorem w_788 : (Jvm.Cond.fieldLink "EscalatedFormsModel" (112 : Nat) "EscalatedFormsModel" "box0" "J") ∈ gw := gw_in (List.mem_append_right _ (List.mem_of_getElem? (i := 788) (by decide +kernel))) rfl
theorem w_789 : (Jvm.Cond.fieldLink "EscalatedFormsModel" (37 : Nat) "EscalatedFormsModel" "told" "[J") ∈ gw := gw_in (List.mem_append_right _ (List.mem_of_getElem? (i := 789) (by decide +kernel))) rfl
theorem w_790 : (Jvm.Cond.fieldLink "EscalatedFormsModel" (40 : Nat) "EscalatedFormsModel" "counts" "[I") ∈ gw := gw_in (List.mem_append_right _ (List.mem_of_getElem? (i := 790) (by decide +kernel))) rfl
theorem w_791 : (Jvm.Cond.fieldLink "EscalatedFormsModel" (43 : Nat) "EscalatedFormsModel" "otherCounts" "[I") ∈ gw := gw_in (List.mem_append_right _ (List.mem_of_getElem? (i := 791) (by decide +kernel))) rfl
theorem w_792 : (Jvm.Cond.fieldLink "EscalatedFormsModel" (46 : Nat) "EscalatedFormsModel" "firstAt" "[I") ∈ gw := gw_in (List.mem_append_right _ (List.mem_of_getElem? (i := 792) (by decide +kernel))) rfl
theorem w_793 : (Jvm.Cond.fieldLink "EscalatedFormsModel" (183 : Nat) "EscalatedFormsModel" "x0" "I") ∈ gw := gw_in (List.mem_append_right _ (List.mem_of_getElem? (i := 793) (by decide +kernel))) rfl
theorem w_794 : (Jvm.Cond.fieldLink "EscalatedFormsModel" (186 : Nat) "EscalatedFormsModel" "x1" "I") ∈ gw := gw_in (List.mem_append_right _ (List.mem_of_getElem? (i := 794) (by decide +kernel))) rfl
theorem w_795 : (Jvm.Cond.fieldLink "EscalatedFormsModel" (189 : Nat) "EscalatedFormsModel" "x2" "I") ∈ gw := gw_in (List.mem_append_right _ (List.mem_of_getElem? (i := 795) (by decide +kernel))) rfl
theorem w_796 : (Jvm.Cond.fieldLink "EscalatedFormsModel" (49 : Nat) "EscalatedFormsModel" "rests" "[I") ∈ gw := gw_in (List.mem_append_right _ (List.mem_of_getElem? (i := 796) (by decide +kernel))) rfl
theorem w_797 : (Jvm.Cond.fieldLink "EscalatedFormsModel" (52 : Nat) "EscalatedFormsModel" "ruled" "[I") ∈ gw := gw_in (List.mem_append_right _ (List.mem_of_getElem? (i := 797) (by decide +kernel))) rfl
theorem w_798 : (Jvm.Cond.fieldLink "EscalatedFormsModel" (234 : Nat) "EscalatedFormsModel" "parent" "I") ∈ gw := gw_in (List.mem_append_right _ (List.mem_of_getElem? (i := 798) (by decide +kernel))) rfl
theorem w_799 : (Jvm.Cond.fieldLink "EscalatedFormsModel" (231 : Nat) "EscalatedFormsModel" "truant0" "I") ∈ gw := gw_in (List.mem_append_right _ (List.mem_of_getElem? (i := 799) (by decide +kernel))) rfl
theorem w_800 : (Jvm.Cond.fieldLink "EscalatedFormsModel" (55 : Nat) "EscalatedFormsModel" "bounds" "[I") ∈ gw := gw_in (List.mem_append_right _ (List.mem_of_getElem? (i := 800) (by decide +kernel))) rfl
theorem w_801 : (Jvm.Cond.fieldLink "EscalatedFormsModel" (58 : Nat) "EscalatedFormsModel" "row" "[I") ∈ gw := gw_in (List.mem_append_right _ (List.mem_of_getElem? (i := 801) (by decide +kernel))) rfl
theorem w_802 : (Jvm.Cond.fieldLink "EscalatedFormsModel" (237 : Nat) "EscalatedFormsModel" "isFresh" "Z") ∈ gw := gw_in (List.mem_append_right _ (List.mem_of_getElem? (i := 802) (by decide +kernel))) rfl
theorem w_803 : (Jvm.Cond.fieldLink "EscalatedFormsModel" (61 : Nat) "EscalatedFormsModel" "heights" "[I") ∈ gw := gw_in (List.mem_append_right _ (List.mem_of_getElem? (i := 803) (by decide +kernel))) rfl
theorem w_804 : (Jvm.Cond.fieldLink "EscalatedFormsModel" (64 : Nat) "EscalatedFormsModel" "leaves" "[I") ∈ gw := gw_in (List.mem_append_right _ (List.mem_of_getElem? (i := 804) (by decide +kernel))) rfl
theorem w_805 : (Jvm.Cond.fieldLink "EscalatedFormsModel" (67 : Nat) "EscalatedFormsModel" "directs" "[I") ∈ gw := gw_in (List.mem_append_right _ (List.mem_of_getElem? (i := 805) (by decide +kernel))) rfl
theorem w_806 : (Jvm.Cond.fieldLink "EscalatedFormsModel" (70 : Nat) "EscalatedFormsModel" "newNumber" "[I") ∈ gw := gw_in (List.mem_append_right _ (List.mem_of_getElem? (i := 806) (by decide +kernel))) rfl
theorem w_807 : (Jvm.Cond.fieldLink "EscalatedFormsModel" (73 : Nat) "EscalatedFormsModel" "sorts" "[I") ∈ gw := gw_in (List.mem_append_right _ (List.mem_of_getElem? (i := 807) (by decide +kernel))) rfl
theorem w_808 : (Jvm.Cond.fieldLink "EscalatedFormsModel" (76 : Nat) "EscalatedFormsModel" "sizes" "[I") ∈ gw := gw_in (List.mem_append_right _ (List.mem_of_getElem? (i := 808) (by decide +kernel))) rfl
theorem w_809 : (Jvm.Cond.fieldLink "EscalatedFormsModel" (79 : Nat) "EscalatedFormsModel" "numbers" "[I") ∈ gw := gw_in (List.mem_append_right _ (List.mem_of_getElem? (i := 809) (by decide +kernel))) rfl
theorem w_879 : (Jvm.Cond.methodLink "EscalatedFormsLaw" (17 : Nat) ({ cls := "EscalatedFormsModel", name := "single", desc := "(II)I" } : Jvm.MethodName)) ∈ gw := gw_in (List.mem_append_right _ (List.mem_of_getElem? (i := 879) (by decide +kernel))) rfl
theorem w_880 : (Jvm.Cond.instanceMethod ({ cls := "EscalatedFormsModel", name := "single", desc := "(II)I" } : Jvm.MethodName)) ∈ gw := gw_in (List.mem_append_right _ (List.mem_of_getElem? (i := 880) (by decide +kernel))) rfl
theorem w_881 : (Jvm.Cond.selects "EscalatedFormsModel" ({ cls := "EscalatedFormsModel", name := "single", desc := "(II)I" } : Jvm.MethodName) ({ cls := "EscalatedFormsModel", name := "single", desc := "(II)I" } : Jvm.MethodName)) ∈ gw := gw_in (List.mem_append_right _ (List.mem_of_getElem? (i := 881) (by decide +kernel))) rfl
theorem w_882 : (Jvm.Cond.code ({ cls := "EscalatedFormsModel", name := "single", desc := "(II)I" } : Jvm.MethodName) prog_11_method_16_code (3 : Nat) (Option.some Jvm.ClassFile.FieldType.int)) ∈ gw := gw_in (List.mem_append_right _ (List.mem_of_getElem? (i := 882) (by decide +kernel))) rfl
theorem w_883 : (Jvm.Cond.methodLink "EscalatedFormsModel" (86 : Nat) ({ cls := "EscalatedFormsModel", name := "isSlot", desc := "(I)Z" } : Jvm.MethodName)) ∈ gw := gw_in (List.mem_append_right _ (List.mem_of_getElem? (i := 883) (by decide +kernel))) rfl
theorem w_884 : (Jvm.Cond.static ({ cls := "EscalatedFormsModel", name := "isSlot", desc := "(I)Z" } : Jvm.MethodName)) ∈ gw := gw_in (List.mem_append_right _ (List.mem_of_getElem? (i := 884) (by decide +kernel))) rfl
theorem w_885 : (Jvm.Cond.code ({ cls := "EscalatedFormsModel", name := "isSlot", desc := "(I)Z" } : Jvm.MethodName) prog_11_method_8_code (1 : Nat) (Option.some Jvm.ClassFile.FieldType.boolean)) ∈ gw := gw_in (List.mem_append_right _ (List.mem_of_getElem? (i := 885) (by decide +kernel))) rfl
theorem w_886 : (Jvm.Cond.constantLong "EscalatedFormsModel" (132 : Nat) (99 : Int64)) ∈ gw := gw_in (List.mem_append_right _ (List.mem_of_getElem? (i := 886) (by decide +kernel))) rfl
theorem w_887 : (Jvm.Cond.methodLink "EscalatedFormsModel" (134 : Nat) ({ cls := "EscalatedFormsModel", name := "in", desc := "(JJJ)Z" } : Jvm.MethodName)) ∈ gw := gw_in (List.mem_append_right _ (List.mem_of_getElem? (i := 887) (by decide +kernel))) rfl
theorem w_888 : (Jvm.Cond.static ({ cls := "EscalatedFormsModel", name := "in", desc := "(JJJ)Z" } : Jvm.MethodName)) ∈ gw := gw_in (List.mem_append_right _ (List.mem_of_getElem? (i := 888) (by decide +kernel))) rfl
theorem w_889 : (Jvm.Cond.code ({ cls := "EscalatedFormsModel", name := "in", desc := "(JJJ)Z" } : Jvm.MethodName) prog_11_method_2_code (6 : Nat) (Option.some Jvm.ClassFile.FieldType.boolean)) ∈ gw := gw_in (List.mem_append_right _ (List.mem_of_getElem? (i := 889) (by decide +kernel))) rfl
theorem w_890 : (Jvm.Cond.methodLink "EscalatedFormsModel" (138 : Nat) ({ cls := "EscalatedFormsModel", name := "clearAt", desc := "(I)V" } : Jvm.MethodName)) ∈ gw := gw_in (List.mem_append_right _ (List.mem_of_getElem? (i := 890) (by decide +kernel))) rfl
theorem w_892 : (Jvm.Cond.instanceMethod ({ cls := "EscalatedFormsModel", name := "clearAt", desc := "(I)V" } : Jvm.MethodName)) ∈ gw := gw_in (List.mem_append_right _ (List.mem_of_getElem? (i := 892) (by decide +kernel))) rfl
theorem w_893 : (Jvm.Cond.code ({ cls := "EscalatedFormsModel", name := "clearAt", desc := "(I)V" } : Jvm.MethodName) prog_11_method_6_code (3 : Nat) (Option.none : Option Jvm.ClassFile.FieldType)) ∈ gw := gw_in (List.mem_append_right _ (List.mem_of_getElem? (i := 893) (by decide +kernel))) rfl
theorem w_894 : (Jvm.Cond.methodLink "EscalatedFormsModel" (142 : Nat) ({ cls := "EscalatedFormsModel", name := "layEntry", desc := "(IIII)V" } : Jvm.MethodName)) ∈ gw := gw_in (List.mem_append_right _ (List.mem_of_getElem? (i := 894) (by decide +kernel))) rfl
theorem w_896 : (Jvm.Cond.instanceMethod ({ cls := "EscalatedFormsModel", name := "layEntry", desc := "(IIII)V" } : Jvm.MethodName)) ∈ gw := gw_in (List.mem_append_right _ (List.mem_of_getElem? (i := 896) (by decide +kernel))) rfl
theorem w_897 : (Jvm.Cond.code ({ cls := "EscalatedFormsModel", name := "layEntry", desc := "(IIII)V" } : Jvm.MethodName) prog_11_method_5_code (5 : Nat) (Option.none : Option Jvm.ClassFile.FieldType)) ∈ gw := gw_in (List.mem_append_right _ (List.mem_of_getElem? (i := 897) (by decide +kernel))) rfl
theorem w_898 : (Jvm.Cond.methodLink "EscalatedFormsLaw" (22 : Nat) ({ cls := "EscalatedFormsModel", name := "form", desc := "(IIII)I" } : Jvm.MethodName)) ∈ gw := gw_in (List.mem_append_right _ (List.mem_of_getElem? (i := 898) (by decide +kernel))) rfl
theorem w_899 : (Jvm.Cond.instanceMethod ({ cls := "EscalatedFormsModel", name := "form", desc := "(IIII)I" } : Jvm.MethodName)) ∈ gw := gw_in (List.mem_append_right _ (List.mem_of_getElem? (i := 899) (by decide +kernel))) rfl
theorem w_900 : (Jvm.Cond.selects "EscalatedFormsModel" ({ cls := "EscalatedFormsModel", name := "form", desc := "(IIII)I" } : Jvm.MethodName) ({ cls := "EscalatedFormsModel", name := "form", desc := "(IIII)I" } : Jvm.MethodName)) ∈ gw := gw_in (List.mem_append_right _ (List.mem_of_getElem? (i := 900) (by decide +kernel))) rfl
theorem w_901 : (Jvm.Cond.code ({ cls := "EscalatedFormsModel", name := "form", desc := "(IIII)I" } : Jvm.MethodName) prog_11_method_17_code (10 : Nat) (Option.some Jvm.ClassFile.FieldType.int)) ∈ gw := gw_in (List.mem_append_right _ (List.mem_of_getElem? (i := 901) (by decide +kernel))) rfl
theorem w_902 : (Jvm.Cond.methodLink "EscalatedFormsModel" (146 : Nat) ({ cls := "EscalatedFormsModel", name := "isSheet", desc := "(I)Z" } : Jvm.MethodName)) ∈ gw := gw_in (List.mem_append_right _ (List.mem_of_getElem? (i := 902) (by decide +kernel))) rfl
theorem w_903 : (Jvm.Cond.static ({ cls := "EscalatedFormsModel", name := "isSheet", desc := "(I)Z" } : Jvm.MethodName)) ∈ gw := gw_in (List.mem_append_right _ (List.mem_of_getElem? (i := 903) (by decide +kernel))) rfl
theorem w_904 : (Jvm.Cond.code ({ cls := "EscalatedFormsModel", name := "isSheet", desc := "(I)Z" } : Jvm.MethodName) prog_11_method_76_code (1 : Nat) (Option.some Jvm.ClassFile.FieldType.boolean)) ∈ gw := gw_in (List.mem_append_right _ (List.mem_of_getElem? (i := 904) (by decide +kernel))) rfl
theorem w_905 : (Jvm.Cond.constantLong "EscalatedFormsModel" (149 : Nat) (4 : Int64)) ∈ gw := gw_in (List.mem_append_right _ (List.mem_of_getElem? (i := 905) (by decide +kernel))) rfl
theorem w_906 : (Jvm.Cond.constantLong "EscalatedFormsModel" (151 : Nat) (-99 : Int64)) ∈ gw := gw_in (List.mem_append_right _ (List.mem_of_getElem? (i := 906) (by decide +kernel))) rfl
theorem w_907 : (Jvm.Cond.methodLink "EscalatedFormsModel" (153 : Nat) ({ cls := "EscalatedFormsModel", name := "comes", desc := "(I)I" } : Jvm.MethodName)) ∈ gw := gw_in (List.mem_append_right _ (List.mem_of_getElem? (i := 907) (by decide +kernel))) rfl
theorem w_909 : (Jvm.Cond.instanceMethod ({ cls := "EscalatedFormsModel", name := "comes", desc := "(I)I" } : Jvm.MethodName)) ∈ gw := gw_in (List.mem_append_right _ (List.mem_of_getElem? (i := 909) (by decide +kernel))) rfl
theorem w_910 : (Jvm.Cond.code ({ cls := "EscalatedFormsModel", name := "comes", desc := "(I)I" } : Jvm.MethodName) prog_11_method_15_code (2 : Nat) (Option.some Jvm.ClassFile.FieldType.int)) ∈ gw := gw_in (List.mem_append_right _ (List.mem_of_getElem? (i := 910) (by decide +kernel))) rfl
theorem w_911 : (Jvm.Cond.methodLink "EscalatedFormsModel" (125 : Nat) ({ cls := "EscalatedFormsModel", name := "isLawful", desc := "(I)Z" } : Jvm.MethodName)) ∈ gw := gw_in (List.mem_append_right _ (List.mem_of_getElem? (i := 911) (by decide +kernel))) rfl
theorem w_913 : (Jvm.Cond.instanceMethod ({ cls := "EscalatedFormsModel", name := "isLawful", desc := "(I)Z" } : Jvm.MethodName)) ∈ gw := gw_in (List.mem_append_right _ (List.mem_of_getElem? (i := 913) (by decide +kernel))) rfl
theorem w_914 : (Jvm.Cond.code ({ cls := "EscalatedFormsModel", name := "isLawful", desc := "(I)Z" } : Jvm.MethodName) prog_11_method_14_code (4 : Nat) (Option.some Jvm.ClassFile.FieldType.boolean)) ∈ gw := gw_in (List.mem_append_right _ (List.mem_of_getElem? (i := 914) (by decide +kernel))) rfl
theorem w_915 : (Jvm.Cond.methodLink "EscalatedFormsModel" (100 : Nat) ({ cls := "EscalatedFormsModel", name := "size", desc := "(I)I" } : Jvm.MethodName)) ∈ gw := gw_in (List.mem_append_right _ (List.mem_of_getElem? (i := 915) (by decide +kernel))) rfl
theorem w_916 : (Jvm.Cond.static ({ cls := "EscalatedFormsModel", name := "size", desc := "(I)I" } : Jvm.MethodName)) ∈ gw := gw_in (List.mem_append_right _ (List.mem_of_getElem? (i := 916) (by decide +kernel))) rfl
theorem w_917 : (Jvm.Cond.code ({ cls := "EscalatedFormsModel", name := "size", desc := "(I)I" } : Jvm.MethodName) prog_11_method_3_code (1 : Nat) (Option.some Jvm.ClassFile.FieldType.int)) ∈ gw := gw_in (List.mem_append_right _ (List.mem_of_getElem? (i := 917) (by decide +kernel))) rfl
theorem w_918 : (Jvm.Cond.methodLink "EscalatedFormsModel" (104 : Nat) ({ cls := "EscalatedFormsModel", name := "detOf", desc := "(III)J" } : Jvm.MethodName)) ∈ gw := gw_in (List.mem_append_right _ (List.mem_of_getElem? (i := 918) (by decide +kernel))) rfl
theorem w_920 : (Jvm.Cond.instanceMethod ({ cls := "EscalatedFormsModel", name := "detOf", desc := "(III)J" } : Jvm.MethodName)) ∈ gw := gw_in (List.mem_append_right _ (List.mem_of_getElem? (i := 920) (by decide +kernel))) rfl
theorem w_921 : (Jvm.Cond.code ({ cls := "EscalatedFormsModel", name := "detOf", desc := "(III)J" } : Jvm.MethodName) prog_11_method_11_code (10 : Nat) (Option.some Jvm.ClassFile.FieldType.long)) ∈ gw := gw_in (List.mem_append_right _ (List.mem_of_getElem? (i := 921) (by decide +kernel))) rfl
theorem w_922 : (Jvm.Cond.methodLink "EscalatedFormsModel" (90 : Nat) ({ cls := "EscalatedFormsModel", name := "entryAt", desc := "(III)I" } : Jvm.MethodName)) ∈ gw := gw_in (List.mem_append_right _ (List.mem_of_getElem? (i := 922) (by decide +kernel))) rfl
theorem w_924 : (Jvm.Cond.instanceMethod ({ cls := "EscalatedFormsModel", name := "entryAt", desc := "(III)I" } : Jvm.MethodName)) ∈ gw := gw_in (List.mem_append_right _ (List.mem_of_getElem? (i := 924) (by decide +kernel))) rfl
theorem w_925 : (Jvm.Cond.code ({ cls := "EscalatedFormsModel", name := "entryAt", desc := "(III)I" } : Jvm.MethodName) prog_11_method_4_code (4 : Nat) (Option.some Jvm.ClassFile.FieldType.int)) ∈ gw := gw_in (List.mem_append_right _ (List.mem_of_getElem? (i := 925) (by decide +kernel))) rfl
theorem w_926 : (Jvm.Cond.methodLink "EscalatedFormsModel" (94 : Nat) ({ cls := "EscalatedFormsModel", name := "clearBelow", desc := "(IIJ)V" } : Jvm.MethodName)) ∈ gw := gw_in (List.mem_append_right _ (List.mem_of_getElem? (i := 926) (by decide +kernel))) rfl
theorem w_928 : (Jvm.Cond.instanceMethod ({ cls := "EscalatedFormsModel", name := "clearBelow", desc := "(IIJ)V" } : Jvm.MethodName)) ∈ gw := gw_in (List.mem_append_right _ (List.mem_of_getElem? (i := 928) (by decide +kernel))) rfl
theorem w_929 : (Jvm.Cond.code ({ cls := "EscalatedFormsModel", name := "clearBelow", desc := "(IIJ)V" } : Jvm.MethodName) prog_11_method_12_code (7 : Nat) (Option.none : Option Jvm.ClassFile.FieldType)) ∈ gw := gw_in (List.mem_append_right _ (List.mem_of_getElem? (i := 929) (by decide +kernel))) rfl
theorem w_930 : (Jvm.Cond.constantLong "EscalatedFormsModel" (115 : Nat) (100 : Int64)) ∈ gw := gw_in (List.mem_append_right _ (List.mem_of_getElem? (i := 930) (by decide +kernel))) rfl
theorem w_931 : (Jvm.Cond.methodLink "EscalatedFormsModel" (117 : Nat) ({ cls := "EscalatedFormsModel", name := "root", desc := "(J)J" } : Jvm.MethodName)) ∈ gw := gw_in (List.mem_append_right _ (List.mem_of_getElem? (i := 931) (by decide +kernel))) rfl
theorem w_932 : (Jvm.Cond.static ({ cls := "EscalatedFormsModel", name := "root", desc := "(J)J" } : Jvm.MethodName)) ∈ gw := gw_in (List.mem_append_right _ (List.mem_of_getElem? (i := 932) (by decide +kernel))) rfl
theorem w_933 : (Jvm.Cond.code ({ cls := "EscalatedFormsModel", name := "root", desc := "(J)J" } : Jvm.MethodName) prog_11_method_13_code (6 : Nat) (Option.some Jvm.ClassFile.FieldType.long)) ∈ gw := gw_in (List.mem_append_right _ (List.mem_of_getElem? (i := 933) (by decide +kernel))) rfl
theorem w_934 : (Jvm.Cond.constantLong "EscalatedFormsModel" (98 : Nat) (1048576 : Int64)) ∈ gw := gw_in (List.mem_append_right _ (List.mem_of_getElem? (i := 934) (by decide +kernel))) rfl
theorem w_935 : (Jvm.Cond.constantLong "EscalatedFormsModel" (121 : Nat) (1000000 : Int64)) ∈ gw := gw_in (List.mem_append_right _ (List.mem_of_getElem? (i := 935) (by decide +kernel))) rfl
theorem w_936 : (Jvm.Cond.constantLong "EscalatedFormsModel" (123 : Nat) (2 : Int64)) ∈ gw := gw_in (List.mem_append_right _ (List.mem_of_getElem? (i := 936) (by decide +kernel))) rfl
theorem w_937 : (Jvm.Cond.methodLink "EscalatedFormsModel" (128 : Nat) ({ cls := "EscalatedFormsModel", name := "copyTo", desc := "(II)V" } : Jvm.MethodName)) ∈ gw := gw_in (List.mem_append_right _ (List.mem_of_getElem? (i := 937) (by decide +kernel))) rfl
theorem w_939 : (Jvm.Cond.instanceMethod ({ cls := "EscalatedFormsModel", name := "copyTo", desc := "(II)V" } : Jvm.MethodName)) ∈ gw := gw_in (List.mem_append_right _ (List.mem_of_getElem? (i := 939) (by decide +kernel))) rfl
theorem w_940 : (Jvm.Cond.code ({ cls := "EscalatedFormsModel", name := "copyTo", desc := "(II)V" } : Jvm.MethodName) prog_11_method_7_code (4 : Nat) (Option.none : Option Jvm.ClassFile.FieldType)) ∈ gw := gw_in (List.mem_append_right _ (List.mem_of_getElem? (i := 940) (by decide +kernel))) rfl
theorem w_941 : (Jvm.Cond.methodLink "EscalatedFormsLaw" (27 : Nat) ({ cls := "EscalatedFormsModel", name := "spread", desc := "(III)I" } : Jvm.MethodName)) ∈ gw := gw_in (List.mem_append_right _ (List.mem_of_getElem? (i := 941) (by decide +kernel))) rfl
theorem w_942 : (Jvm.Cond.instanceMethod ({ cls := "EscalatedFormsModel", name := "spread", desc := "(III)I" } : Jvm.MethodName)) ∈ gw := gw_in (List.mem_append_right _ (List.mem_of_getElem? (i := 942) (by decide +kernel))) rfl
theorem w_943 : (Jvm.Cond.selects "EscalatedFormsModel" ({ cls := "EscalatedFormsModel", name := "spread", desc := "(III)I" } : Jvm.MethodName) ({ cls := "EscalatedFormsModel", name := "spread", desc := "(III)I" } : Jvm.MethodName)) ∈ gw := gw_in (List.mem_append_right _ (List.mem_of_getElem? (i := 943) (by decide +kernel))) rfl
theorem w_944 : (Jvm.Cond.code ({ cls := "EscalatedFormsModel", name := "spread", desc := "(III)I" } : Jvm.MethodName) prog_11_method_18_code (9 : Nat) (Option.some Jvm.ClassFile.FieldType.int)) ∈ gw := gw_in (List.mem_append_right _ (List.mem_of_getElem? (i := 944) (by decide +kernel))) rfl
theorem w_945 : (Jvm.Cond.methodLink "EscalatedFormsModel" (156 : Nat) ({ cls := "EscalatedFormsModel", name := "hasForm", desc := "(I)Z" } : Jvm.MethodName)) ∈ gw := gw_in (List.mem_append_right _ (List.mem_of_getElem? (i := 945) (by decide +kernel))) rfl
theorem w_947 : (Jvm.Cond.instanceMethod ({ cls := "EscalatedFormsModel", name := "hasForm", desc := "(I)Z" } : Jvm.MethodName)) ∈ gw := gw_in (List.mem_append_right _ (List.mem_of_getElem? (i := 947) (by decide +kernel))) rfl
theorem w_948 : (Jvm.Cond.code ({ cls := "EscalatedFormsModel", name := "hasForm", desc := "(I)Z" } : Jvm.MethodName) prog_11_method_9_code (2 : Nat) (Option.some Jvm.ClassFile.FieldType.boolean)) ∈ gw := gw_in (List.mem_append_right _ (List.mem_of_getElem? (i := 948) (by decide +kernel))) rfl
theorem w_949 : (Jvm.Cond.methodLink "EscalatedFormsLaw" (32 : Nat) ({ cls := "EscalatedFormsModel", name := "clear", desc := "(I)I" } : Jvm.MethodName)) ∈ gw := gw_in (List.mem_append_right _ (List.mem_of_getElem? (i := 949) (by decide +kernel))) rfl
theorem w_950 : (Jvm.Cond.instanceMethod ({ cls := "EscalatedFormsModel", name := "clear", desc := "(I)I" } : Jvm.MethodName)) ∈ gw := gw_in (List.mem_append_right _ (List.mem_of_getElem? (i := 950) (by decide +kernel))) rfl
theorem w_951 : (Jvm.Cond.selects "EscalatedFormsModel" ({ cls := "EscalatedFormsModel", name := "clear", desc := "(I)I" } : Jvm.MethodName) ({ cls := "EscalatedFormsModel", name := "clear", desc := "(I)I" } : Jvm.MethodName)) ∈ gw := gw_in (List.mem_append_right _ (List.mem_of_getElem? (i := 951) (by decide +kernel))) rfl
theorem w_952 : (Jvm.Cond.code ({ cls := "EscalatedFormsModel", name := "clear", desc := "(I)I" } : Jvm.MethodName) prog_11_method_19_code (3 : Nat) (Option.some Jvm.ClassFile.FieldType.int)) ∈ gw := gw_in (List.mem_append_right _ (List.mem_of_getElem? (i := 952) (by decide +kernel))) rfl
theorem w_953 : (Jvm.Cond.methodLink "EscalatedFormsLaw" (36 : Nat) ({ cls := "EscalatedFormsModel", name := "entry", desc := "(IIII)I" } : Jvm.MethodName)) ∈ gw := gw_in (List.mem_append_right _ (List.mem_of_getElem? (i := 953) (by decide +kernel))) rfl
theorem w_954 : (Jvm.Cond.instanceMethod ({ cls := "EscalatedFormsModel", name := "entry", desc := "(IIII)I" } : Jvm.MethodName)) ∈ gw := gw_in (List.mem_append_right _ (List.mem_of_getElem? (i := 954) (by decide +kernel))) rfl
theorem w_955 : (Jvm.Cond.selects "EscalatedFormsModel" ({ cls := "EscalatedFormsModel", name := "entry", desc := "(IIII)I" } : Jvm.MethodName) ({ cls := "EscalatedFormsModel", name := "entry", desc := "(IIII)I" } : Jvm.MethodName)) ∈ gw := gw_in (List.mem_append_right _ (List.mem_of_getElem? (i := 955) (by decide +kernel))) rfl
theorem w_956 : (Jvm.Cond.code ({ cls := "EscalatedFormsModel", name := "entry", desc := "(IIII)I" } : Jvm.MethodName) prog_11_method_20_code (5 : Nat) (Option.some Jvm.ClassFile.FieldType.int)) ∈ gw := gw_in (List.mem_append_right _ (List.mem_of_getElem? (i := 956) (by decide +kernel))) rfl
theorem w_957 : (Jvm.Cond.methodLink "EscalatedFormsModel" (159 : Nat) ({ cls := "EscalatedFormsModel", name := "isLetter", desc := "(II)Z" } : Jvm.MethodName)) ∈ gw := gw_in (List.mem_append_right _ (List.mem_of_getElem? (i := 957) (by decide +kernel))) rfl
theorem w_959 : (Jvm.Cond.instanceMethod ({ cls := "EscalatedFormsModel", name := "isLetter", desc := "(II)Z" } : Jvm.MethodName)) ∈ gw := gw_in (List.mem_append_right _ (List.mem_of_getElem? (i := 959) (by decide +kernel))) rfl
theorem w_960 : (Jvm.Cond.code ({ cls := "EscalatedFormsModel", name := "isLetter", desc := "(II)Z" } : Jvm.MethodName) prog_11_method_10_code (3 : Nat) (Option.some Jvm.ClassFile.FieldType.boolean)) ∈ gw := gw_in (List.mem_append_right _ (List.mem_of_getElem? (i := 960) (by decide +kernel))) rfl
theorem w_961 : (Jvm.Cond.methodLink "EscalatedFormsLaw" (40 : Nat) ({ cls := "EscalatedFormsModel", name := "at", desc := "(III)I" } : Jvm.MethodName)) ∈ gw := gw_in (List.mem_append_right _ (List.mem_of_getElem? (i := 961) (by decide +kernel))) rfl
theorem w_962 : (Jvm.Cond.instanceMethod ({ cls := "EscalatedFormsModel", name := "at", desc := "(III)I" } : Jvm.MethodName)) ∈ gw := gw_in (List.mem_append_right _ (List.mem_of_getElem? (i := 962) (by decide +kernel))) rfl
theorem w_963 : (Jvm.Cond.selects "EscalatedFormsModel" ({ cls := "EscalatedFormsModel", name := "at", desc := "(III)I" } : Jvm.MethodName) ({ cls := "EscalatedFormsModel", name := "at", desc := "(III)I" } : Jvm.MethodName)) ∈ gw := gw_in (List.mem_append_right _ (List.mem_of_getElem? (i := 963) (by decide +kernel))) rfl
theorem w_964 : (Jvm.Cond.code ({ cls := "EscalatedFormsModel", name := "at", desc := "(III)I" } : Jvm.MethodName) prog_11_method_21_code (4 : Nat) (Option.some Jvm.ClassFile.FieldType.int)) ∈ gw := gw_in (List.mem_append_right _ (List.mem_of_getElem? (i := 964) (by decide +kernel))) rfl
theorem w_965 : (Jvm.Cond.constant "EscalatedFormsModel" (163 : Nat) (-2147483648 : Int32)) ∈ gw := gw_in (List.mem_append_right _ (List.mem_of_getElem? (i := 965) (by decide +kernel))) rfl
theorem w_966 : (Jvm.Cond.methodLink "EscalatedFormsLaw" (44 : Nat) ({ cls := "EscalatedFormsModel", name := "minor", desc := "(II)I" } : Jvm.MethodName)) ∈ gw := gw_in (List.mem_append_right _ (List.mem_of_getElem? (i := 966) (by decide +kernel))) rfl
theorem w_967 : (Jvm.Cond.instanceMethod ({ cls := "EscalatedFormsModel", name := "minor", desc := "(II)I" } : Jvm.MethodName)) ∈ gw := gw_in (List.mem_append_right _ (List.mem_of_getElem? (i := 967) (by decide +kernel))) rfl
theorem w_968 : (Jvm.Cond.selects "EscalatedFormsModel" ({ cls := "EscalatedFormsModel", name := "minor", desc := "(II)I" } : Jvm.MethodName) ({ cls := "EscalatedFormsModel", name := "minor", desc := "(II)I" } : Jvm.MethodName)) ∈ gw := gw_in (List.mem_append_right _ (List.mem_of_getElem? (i := 968) (by decide +kernel))) rfl
theorem w_969 : (Jvm.Cond.code ({ cls := "EscalatedFormsModel", name := "minor", desc := "(II)I" } : Jvm.MethodName) prog_11_method_22_code (3 : Nat) (Option.some Jvm.ClassFile.FieldType.int)) ∈ gw := gw_in (List.mem_append_right _ (List.mem_of_getElem? (i := 969) (by decide +kernel))) rfl
theorem w_970 : (Jvm.Cond.methodLink "EscalatedFormsLaw" (48 : Nat) ({ cls := "EscalatedFormsModel", name := "of", desc := "(II)I" } : Jvm.MethodName)) ∈ gw := gw_in (List.mem_append_right _ (List.mem_of_getElem? (i := 970) (by decide +kernel))) rfl
theorem w_971 : (Jvm.Cond.instanceMethod ({ cls := "EscalatedFormsModel", name := "of", desc := "(II)I" } : Jvm.MethodName)) ∈ gw := gw_in (List.mem_append_right _ (List.mem_of_getElem? (i := 971) (by decide +kernel))) rfl
theorem w_972 : (Jvm.Cond.selects "EscalatedFormsModel" ({ cls := "EscalatedFormsModel", name := "of", desc := "(II)I" } : Jvm.MethodName) ({ cls := "EscalatedFormsModel", name := "of", desc := "(II)I" } : Jvm.MethodName)) ∈ gw := gw_in (List.mem_append_right _ (List.mem_of_getElem? (i := 972) (by decide +kernel))) rfl
theorem w_973 : (Jvm.Cond.code ({ cls := "EscalatedFormsModel", name := "of", desc := "(II)I" } : Jvm.MethodName) prog_11_method_23_code (6 : Nat) (Option.some Jvm.ClassFile.FieldType.int)) ∈ gw := gw_in (List.mem_append_right _ (List.mem_of_getElem? (i := 973) (by decide +kernel))) rfl
theorem w_974 : (Jvm.Cond.constantLong "EscalatedFormsModel" (164 : Nat) (3 : Int64)) ∈ gw := gw_in (List.mem_append_right _ (List.mem_of_getElem? (i := 974) (by decide +kernel))) rfl
theorem w_975 : (Jvm.Cond.methodLink "EscalatedFormsLaw" (53 : Nat) ({ cls := "EscalatedFormsModel", name := "worth", desc := "(IIIII)J" } : Jvm.MethodName)) ∈ gw := gw_in (List.mem_append_right _ (List.mem_of_getElem? (i := 975) (by decide +kernel))) rfl
theorem w_976 : (Jvm.Cond.instanceMethod ({ cls := "EscalatedFormsModel", name := "worth", desc := "(IIIII)J" } : Jvm.MethodName)) ∈ gw := gw_in (List.mem_append_right _ (List.mem_of_getElem? (i := 976) (by decide +kernel))) rfl
theorem w_977 : (Jvm.Cond.selects "EscalatedFormsModel" ({ cls := "EscalatedFormsModel", name := "worth", desc := "(IIIII)J" } : Jvm.MethodName) ({ cls := "EscalatedFormsModel", name := "worth", desc := "(IIIII)J" } : Jvm.MethodName)) ∈ gw := gw_in (List.mem_append_right _ (List.mem_of_getElem? (i := 977) (by decide +kernel))) rfl
theorem w_978 : (Jvm.Cond.code ({ cls := "EscalatedFormsModel", name := "worth", desc := "(IIIII)J" } : Jvm.MethodName) prog_11_method_24_code (20 : Nat) (Option.some Jvm.ClassFile.FieldType.long)) ∈ gw := gw_in (List.mem_append_right _ (List.mem_of_getElem? (i := 978) (by decide +kernel))) rfl
theorem w_979 : (Jvm.Cond.constantLong "EscalatedFormsModel" (166 : Nat) (-1 : Int64)) ∈ gw := gw_in (List.mem_append_right _ (List.mem_of_getElem? (i := 979) (by decide +kernel))) rfl
theorem w_980 : (Jvm.Cond.constantLong "EscalatedFormsModel" (168 : Nat) (9223372036854775807 : Int64)) ∈ gw := gw_in (List.mem_append_right _ (List.mem_of_getElem? (i := 980) (by decide +kernel))) rfl
theorem w_981 : (Jvm.Cond.constantLong "EscalatedFormsModel" (170 : Nat) (-6 : Int64)) ∈ gw := gw_in (List.mem_append_right _ (List.mem_of_getElem? (i := 981) (by decide +kernel))) rfl
theorem w_982 : (Jvm.Cond.methodLink "EscalatedFormsLaw" (57 : Nat) ({ cls := "EscalatedFormsModel", name := "change", desc := "(IIII)I" } : Jvm.MethodName)) ∈ gw := gw_in (List.mem_append_right _ (List.mem_of_getElem? (i := 982) (by decide +kernel))) rfl
theorem w_983 : (Jvm.Cond.instanceMethod ({ cls := "EscalatedFormsModel", name := "change", desc := "(IIII)I" } : Jvm.MethodName)) ∈ gw := gw_in (List.mem_append_right _ (List.mem_of_getElem? (i := 983) (by decide +kernel))) rfl
theorem w_984 : (Jvm.Cond.selects "EscalatedFormsModel" ({ cls := "EscalatedFormsModel", name := "change", desc := "(IIII)I" } : Jvm.MethodName) ({ cls := "EscalatedFormsModel", name := "change", desc := "(IIII)I" } : Jvm.MethodName)) ∈ gw := gw_in (List.mem_append_right _ (List.mem_of_getElem? (i := 984) (by decide +kernel))) rfl
theorem w_985 : (Jvm.Cond.code ({ cls := "EscalatedFormsModel", name := "change", desc := "(IIII)I" } : Jvm.MethodName) prog_11_method_26_code (5 : Nat) (Option.some Jvm.ClassFile.FieldType.int)) ∈ gw := gw_in (List.mem_append_right _ (List.mem_of_getElem? (i := 985) (by decide +kernel))) rfl
theorem w_986 : (Jvm.Cond.constantLong "EscalatedFormsModel" (172 : Nat) (-9 : Int64)) ∈ gw := gw_in (List.mem_append_right _ (List.mem_of_getElem? (i := 986) (by decide +kernel))) rfl
theorem w_987 : (Jvm.Cond.constantLong "EscalatedFormsModel" (174 : Nat) (9 : Int64)) ∈ gw := gw_in (List.mem_append_right _ (List.mem_of_getElem? (i := 987) (by decide +kernel))) rfl
theorem w_988 : (Jvm.Cond.methodLink "EscalatedFormsModel" (176 : Nat) ({ cls := "EscalatedFormsModel", name := "changeAt", desc := "(IIII)V" } : Jvm.MethodName)) ∈ gw := gw_in (List.mem_append_right _ (List.mem_of_getElem? (i := 988) (by decide +kernel))) rfl
theorem w_990 : (Jvm.Cond.instanceMethod ({ cls := "EscalatedFormsModel", name := "changeAt", desc := "(IIII)V" } : Jvm.MethodName)) ∈ gw := gw_in (List.mem_append_right _ (List.mem_of_getElem? (i := 990) (by decide +kernel))) rfl
theorem w_991 : (Jvm.Cond.code ({ cls := "EscalatedFormsModel", name := "changeAt", desc := "(IIII)V" } : Jvm.MethodName) prog_11_method_25_code (7 : Nat) (Option.none : Option Jvm.ClassFile.FieldType)) ∈ gw := gw_in (List.mem_append_right _ (List.mem_of_getElem? (i := 991) (by decide +kernel))) rfl
theorem w_992 : (Jvm.Cond.methodLink "EscalatedFormsLaw" (61 : Nat) ({ cls := "EscalatedFormsModel", name := "swap", desc := "(III)I" } : Jvm.MethodName)) ∈ gw := gw_in (List.mem_append_right _ (List.mem_of_getElem? (i := 992) (by decide +kernel))) rfl
theorem w_993 : (Jvm.Cond.instanceMethod ({ cls := "EscalatedFormsModel", name := "swap", desc := "(III)I" } : Jvm.MethodName)) ∈ gw := gw_in (List.mem_append_right _ (List.mem_of_getElem? (i := 993) (by decide +kernel))) rfl
theorem w_994 : (Jvm.Cond.selects "EscalatedFormsModel" ({ cls := "EscalatedFormsModel", name := "swap", desc := "(III)I" } : Jvm.MethodName) ({ cls := "EscalatedFormsModel", name := "swap", desc := "(III)I" } : Jvm.MethodName)) ∈ gw := gw_in (List.mem_append_right _ (List.mem_of_getElem? (i := 994) (by decide +kernel))) rfl
theorem w_995 : (Jvm.Cond.code ({ cls := "EscalatedFormsModel", name := "swap", desc := "(III)I" } : Jvm.MethodName) prog_11_method_27_code (8 : Nat) (Option.some Jvm.ClassFile.FieldType.int)) ∈ gw := gw_in (List.mem_append_right _ (List.mem_of_getElem? (i := 995) (by decide +kernel))) rfl
theorem w_996 : (Jvm.Cond.methodLink "EscalatedFormsLaw" (65 : Nat) ({ cls := "EscalatedFormsModel", name := "scale", desc := "(II)I" } : Jvm.MethodName)) ∈ gw := gw_in (List.mem_append_right _ (List.mem_of_getElem? (i := 996) (by decide +kernel))) rfl
theorem w_997 : (Jvm.Cond.instanceMethod ({ cls := "EscalatedFormsModel", name := "scale", desc := "(II)I" } : Jvm.MethodName)) ∈ gw := gw_in (List.mem_append_right _ (List.mem_of_getElem? (i := 997) (by decide +kernel))) rfl
theorem w_998 : (Jvm.Cond.selects "EscalatedFormsModel" ({ cls := "EscalatedFormsModel", name := "scale", desc := "(II)I" } : Jvm.MethodName) ({ cls := "EscalatedFormsModel", name := "scale", desc := "(II)I" } : Jvm.MethodName)) ∈ gw := gw_in (List.mem_append_right _ (List.mem_of_getElem? (i := 998) (by decide +kernel))) rfl
theorem w_999 : (Jvm.Cond.code ({ cls := "EscalatedFormsModel", name := "scale", desc := "(II)I" } : Jvm.MethodName) prog_11_method_28_code (4 : Nat) (Option.some Jvm.ClassFile.FieldType.int)) ∈ gw := gw_in (List.mem_append_right _ (List.mem_of_getElem? (i := 999) (by decide +kernel))) rfl
theorem w_1000 : (Jvm.Cond.methodLink "EscalatedFormsLaw" (69 : Nat) ({ cls := "EscalatedFormsModel", name := "join", desc := "(III)I" } : Jvm.MethodName)) ∈ gw := gw_in (List.mem_append_right _ (List.mem_of_getElem? (i := 1000) (by decide +kernel))) rfl
theorem w_1001 : (Jvm.Cond.instanceMethod ({ cls := "EscalatedFormsModel", name := "join", desc := "(III)I" } : Jvm.MethodName)) ∈ gw := gw_in (List.mem_append_right _ (List.mem_of_getElem? (i := 1001) (by decide +kernel))) rfl
theorem w_1002 : (Jvm.Cond.selects "EscalatedFormsModel" ({ cls := "EscalatedFormsModel", name := "join", desc := "(III)I" } : Jvm.MethodName) ({ cls := "EscalatedFormsModel", name := "join", desc := "(III)I" } : Jvm.MethodName)) ∈ gw := gw_in (List.mem_append_right _ (List.mem_of_getElem? (i := 1002) (by decide +kernel))) rfl
theorem w_1003 : (Jvm.Cond.code ({ cls := "EscalatedFormsModel", name := "join", desc := "(III)I" } : Jvm.MethodName) prog_11_method_29_code (7 : Nat) (Option.some Jvm.ClassFile.FieldType.int)) ∈ gw := gw_in (List.mem_append_right _ (List.mem_of_getElem? (i := 1003) (by decide +kernel))) rfl
theorem w_1004 : (Jvm.Cond.methodLink "EscalatedFormsLaw" (73 : Nat) ({ cls := "EscalatedFormsModel", name := "reduce", desc := "(I)I" } : Jvm.MethodName)) ∈ gw := gw_in (List.mem_append_right _ (List.mem_of_getElem? (i := 1004) (by decide +kernel))) rfl
theorem w_1005 : (Jvm.Cond.instanceMethod ({ cls := "EscalatedFormsModel", name := "reduce", desc := "(I)I" } : Jvm.MethodName)) ∈ gw := gw_in (List.mem_append_right _ (List.mem_of_getElem? (i := 1005) (by decide +kernel))) rfl
theorem w_1006 : (Jvm.Cond.selects "EscalatedFormsModel" ({ cls := "EscalatedFormsModel", name := "reduce", desc := "(I)I" } : Jvm.MethodName) ({ cls := "EscalatedFormsModel", name := "reduce", desc := "(I)I" } : Jvm.MethodName)) ∈ gw := gw_in (List.mem_append_right _ (List.mem_of_getElem? (i := 1006) (by decide +kernel))) rfl
theorem w_1007 : (Jvm.Cond.code ({ cls := "EscalatedFormsModel", name := "reduce", desc := "(I)I" } : Jvm.MethodName) prog_11_method_30_code (9 : Nat) (Option.some Jvm.ClassFile.FieldType.int)) ∈ gw := gw_in (List.mem_append_right _ (List.mem_of_getElem? (i := 1007) (by decide +kernel))) rfl
theorem w_1008 : (Jvm.Cond.methodLink "EscalatedFormsModel" (179 : Nat) ({ cls := "EscalatedFormsModel", name := "nextStep", desc := "()I" } : Jvm.MethodName)) ∈ gw := gw_in (List.mem_append_right _ (List.mem_of_getElem? (i := 1008) (by decide +kernel))) rfl
theorem w_1010 : (Jvm.Cond.instanceMethod ({ cls := "EscalatedFormsModel", name := "nextStep", desc := "()I" } : Jvm.MethodName)) ∈ gw := gw_in (List.mem_append_right _ (List.mem_of_getElem? (i := 1010) (by decide +kernel))) rfl
theorem w_1011 : (Jvm.Cond.code ({ cls := "EscalatedFormsModel", name := "nextStep", desc := "()I" } : Jvm.MethodName) prog_11_method_31_code (3 : Nat) (Option.some Jvm.ClassFile.FieldType.int)) ∈ gw := gw_in (List.mem_append_right _ (List.mem_of_getElem? (i := 1011) (by decide +kernel))) rfl
theorem w_1012 : (Jvm.Cond.methodLink "EscalatedFormsLaw" (77 : Nat) ({ cls := "EscalatedFormsModel", name := "same", desc := "(II)I" } : Jvm.MethodName)) ∈ gw := gw_in (List.mem_append_right _ (List.mem_of_getElem? (i := 1012) (by decide +kernel))) rfl
theorem w_1013 : (Jvm.Cond.instanceMethod ({ cls := "EscalatedFormsModel", name := "same", desc := "(II)I" } : Jvm.MethodName)) ∈ gw := gw_in (List.mem_append_right _ (List.mem_of_getElem? (i := 1013) (by decide +kernel))) rfl
theorem w_1014 : (Jvm.Cond.selects "EscalatedFormsModel" ({ cls := "EscalatedFormsModel", name := "same", desc := "(II)I" } : Jvm.MethodName) ({ cls := "EscalatedFormsModel", name := "same", desc := "(II)I" } : Jvm.MethodName)) ∈ gw := gw_in (List.mem_append_right _ (List.mem_of_getElem? (i := 1014) (by decide +kernel))) rfl
theorem w_1015 : (Jvm.Cond.code ({ cls := "EscalatedFormsModel", name := "same", desc := "(II)I" } : Jvm.MethodName) prog_11_method_32_code (5 : Nat) (Option.some Jvm.ClassFile.FieldType.int)) ∈ gw := gw_in (List.mem_append_right _ (List.mem_of_getElem? (i := 1015) (by decide +kernel))) rfl
theorem w_1016 : (Jvm.Cond.methodLink "EscalatedFormsLaw" (81 : Nat) ({ cls := "EscalatedFormsModel", name := "unlike", desc := "(II)I" } : Jvm.MethodName)) ∈ gw := gw_in (List.mem_append_right _ (List.mem_of_getElem? (i := 1016) (by decide +kernel))) rfl
theorem w_1017 : (Jvm.Cond.instanceMethod ({ cls := "EscalatedFormsModel", name := "unlike", desc := "(II)I" } : Jvm.MethodName)) ∈ gw := gw_in (List.mem_append_right _ (List.mem_of_getElem? (i := 1017) (by decide +kernel))) rfl
theorem w_1018 : (Jvm.Cond.selects "EscalatedFormsModel" ({ cls := "EscalatedFormsModel", name := "unlike", desc := "(II)I" } : Jvm.MethodName) ({ cls := "EscalatedFormsModel", name := "unlike", desc := "(II)I" } : Jvm.MethodName)) ∈ gw := gw_in (List.mem_append_right _ (List.mem_of_getElem? (i := 1018) (by decide +kernel))) rfl
theorem w_1019 : (Jvm.Cond.code ({ cls := "EscalatedFormsModel", name := "unlike", desc := "(II)I" } : Jvm.MethodName) prog_11_method_36_code (4 : Nat) (Option.some Jvm.ClassFile.FieldType.int)) ∈ gw := gw_in (List.mem_append_right _ (List.mem_of_getElem? (i := 1019) (by decide +kernel))) rfl
theorem w_1020 : (Jvm.Cond.methodLink "EscalatedFormsModel" (198 : Nat) ({ cls := "EscalatedFormsModel", name := "layCounts", desc := "(I)V" } : Jvm.MethodName)) ∈ gw := gw_in (List.mem_append_right _ (List.mem_of_getElem? (i := 1020) (by decide +kernel))) rfl
theorem w_1022 : (Jvm.Cond.instanceMethod ({ cls := "EscalatedFormsModel", name := "layCounts", desc := "(I)V" } : Jvm.MethodName)) ∈ gw := gw_in (List.mem_append_right _ (List.mem_of_getElem? (i := 1022) (by decide +kernel))) rfl
theorem w_1023 : (Jvm.Cond.code ({ cls := "EscalatedFormsModel", name := "layCounts", desc := "(I)V" } : Jvm.MethodName) prog_11_method_33_code (6 : Nat) (Option.none : Option Jvm.ClassFile.FieldType)) ∈ gw := gw_in (List.mem_append_right _ (List.mem_of_getElem? (i := 1023) (by decide +kernel))) rfl
theorem w_1024 : (Jvm.Cond.methodLink "EscalatedFormsModel" (192 : Nat) ({ cls := "EscalatedFormsModel", name := "layLast", desc := "(II)V" } : Jvm.MethodName)) ∈ gw := gw_in (List.mem_append_right _ (List.mem_of_getElem? (i := 1024) (by decide +kernel))) rfl
theorem w_1026 : (Jvm.Cond.instanceMethod ({ cls := "EscalatedFormsModel", name := "layLast", desc := "(II)V" } : Jvm.MethodName)) ∈ gw := gw_in (List.mem_append_right _ (List.mem_of_getElem? (i := 1026) (by decide +kernel))) rfl
theorem w_1027 : (Jvm.Cond.code ({ cls := "EscalatedFormsModel", name := "layLast", desc := "(II)V" } : Jvm.MethodName) prog_11_method_34_code (12 : Nat) (Option.none : Option Jvm.ClassFile.FieldType)) ∈ gw := gw_in (List.mem_append_right _ (List.mem_of_getElem? (i := 1027) (by decide +kernel))) rfl
theorem w_1028 : (Jvm.Cond.methodLink "EscalatedFormsModel" (195 : Nat) ({ cls := "EscalatedFormsModel", name := "seeAt", desc := "(II)V" } : Jvm.MethodName)) ∈ gw := gw_in (List.mem_append_right _ (List.mem_of_getElem? (i := 1028) (by decide +kernel))) rfl
theorem w_1030 : (Jvm.Cond.instanceMethod ({ cls := "EscalatedFormsModel", name := "seeAt", desc := "(II)V" } : Jvm.MethodName)) ∈ gw := gw_in (List.mem_append_right _ (List.mem_of_getElem? (i := 1030) (by decide +kernel))) rfl
theorem w_1031 : (Jvm.Cond.code ({ cls := "EscalatedFormsModel", name := "seeAt", desc := "(II)V" } : Jvm.MethodName) prog_11_method_35_code (3 : Nat) (Option.none : Option Jvm.ClassFile.FieldType)) ∈ gw := gw_in (List.mem_append_right _ (List.mem_of_getElem? (i := 1031) (by decide +kernel))) rfl
theorem w_1032 : (Jvm.Cond.methodLink "EscalatedFormsLaw" (85 : Nat) ({ cls := "EscalatedFormsModel", name := "takes", desc := "(II)I" } : Jvm.MethodName)) ∈ gw := gw_in (List.mem_append_right _ (List.mem_of_getElem? (i := 1032) (by decide +kernel))) rfl
theorem w_1033 : (Jvm.Cond.instanceMethod ({ cls := "EscalatedFormsModel", name := "takes", desc := "(II)I" } : Jvm.MethodName)) ∈ gw := gw_in (List.mem_append_right _ (List.mem_of_getElem? (i := 1033) (by decide +kernel))) rfl
theorem w_1034 : (Jvm.Cond.selects "EscalatedFormsModel" ({ cls := "EscalatedFormsModel", name := "takes", desc := "(II)I" } : Jvm.MethodName) ({ cls := "EscalatedFormsModel", name := "takes", desc := "(II)I" } : Jvm.MethodName)) ∈ gw := gw_in (List.mem_append_right _ (List.mem_of_getElem? (i := 1034) (by decide +kernel))) rfl
theorem w_1035 : (Jvm.Cond.code ({ cls := "EscalatedFormsModel", name := "takes", desc := "(II)I" } : Jvm.MethodName) prog_11_method_37_code (3 : Nat) (Option.some Jvm.ClassFile.FieldType.int)) ∈ gw := gw_in (List.mem_append_right _ (List.mem_of_getElem? (i := 1035) (by decide +kernel))) rfl
theorem w_1036 : (Jvm.Cond.methodLink "EscalatedFormsLaw" (89 : Nat) ({ cls := "EscalatedFormsModel", name := "vector", desc := "(III)I" } : Jvm.MethodName)) ∈ gw := gw_in (List.mem_append_right _ (List.mem_of_getElem? (i := 1036) (by decide +kernel))) rfl
theorem w_1037 : (Jvm.Cond.instanceMethod ({ cls := "EscalatedFormsModel", name := "vector", desc := "(III)I" } : Jvm.MethodName)) ∈ gw := gw_in (List.mem_append_right _ (List.mem_of_getElem? (i := 1037) (by decide +kernel))) rfl
theorem w_1038 : (Jvm.Cond.selects "EscalatedFormsModel" ({ cls := "EscalatedFormsModel", name := "vector", desc := "(III)I" } : Jvm.MethodName) ({ cls := "EscalatedFormsModel", name := "vector", desc := "(III)I" } : Jvm.MethodName)) ∈ gw := gw_in (List.mem_append_right _ (List.mem_of_getElem? (i := 1038) (by decide +kernel))) rfl
theorem w_1039 : (Jvm.Cond.code ({ cls := "EscalatedFormsModel", name := "vector", desc := "(III)I" } : Jvm.MethodName) prog_11_method_38_code (4 : Nat) (Option.some Jvm.ClassFile.FieldType.int)) ∈ gw := gw_in (List.mem_append_right _ (List.mem_of_getElem? (i := 1039) (by decide +kernel))) rfl
theorem w_1040 : (Jvm.Cond.methodLink "EscalatedFormsLaw" (93 : Nat) ({ cls := "EscalatedFormsModel", name := "truant", desc := "(I)I" } : Jvm.MethodName)) ∈ gw := gw_in (List.mem_append_right _ (List.mem_of_getElem? (i := 1040) (by decide +kernel))) rfl
theorem w_1041 : (Jvm.Cond.instanceMethod ({ cls := "EscalatedFormsModel", name := "truant", desc := "(I)I" } : Jvm.MethodName)) ∈ gw := gw_in (List.mem_append_right _ (List.mem_of_getElem? (i := 1041) (by decide +kernel))) rfl
theorem w_1042 : (Jvm.Cond.selects "EscalatedFormsModel" ({ cls := "EscalatedFormsModel", name := "truant", desc := "(I)I" } : Jvm.MethodName) ({ cls := "EscalatedFormsModel", name := "truant", desc := "(I)I" } : Jvm.MethodName)) ∈ gw := gw_in (List.mem_append_right _ (List.mem_of_getElem? (i := 1042) (by decide +kernel))) rfl
theorem w_1043 : (Jvm.Cond.code ({ cls := "EscalatedFormsModel", name := "truant", desc := "(I)I" } : Jvm.MethodName) prog_11_method_40_code (3 : Nat) (Option.some Jvm.ClassFile.FieldType.int)) ∈ gw := gw_in (List.mem_append_right _ (List.mem_of_getElem? (i := 1043) (by decide +kernel))) rfl
theorem w_1044 : (Jvm.Cond.methodLink "EscalatedFormsModel" (201 : Nat) ({ cls := "EscalatedFormsModel", name := "truantOf", desc := "(I)I" } : Jvm.MethodName)) ∈ gw := gw_in (List.mem_append_right _ (List.mem_of_getElem? (i := 1044) (by decide +kernel))) rfl
theorem w_1046 : (Jvm.Cond.instanceMethod ({ cls := "EscalatedFormsModel", name := "truantOf", desc := "(I)I" } : Jvm.MethodName)) ∈ gw := gw_in (List.mem_append_right _ (List.mem_of_getElem? (i := 1046) (by decide +kernel))) rfl
theorem w_1047 : (Jvm.Cond.code ({ cls := "EscalatedFormsModel", name := "truantOf", desc := "(I)I" } : Jvm.MethodName) prog_11_method_39_code (4 : Nat) (Option.some Jvm.ClassFile.FieldType.int)) ∈ gw := gw_in (List.mem_append_right _ (List.mem_of_getElem? (i := 1047) (by decide +kernel))) rfl
theorem w_1048 : (Jvm.Cond.methodLink "EscalatedFormsLaw" (97 : Nat) ({ cls := "EscalatedFormsModel", name := "exceptions", desc := "(III)I" } : Jvm.MethodName)) ∈ gw := gw_in (List.mem_append_right _ (List.mem_of_getElem? (i := 1048) (by decide +kernel))) rfl
theorem w_1049 : (Jvm.Cond.instanceMethod ({ cls := "EscalatedFormsModel", name := "exceptions", desc := "(III)I" } : Jvm.MethodName)) ∈ gw := gw_in (List.mem_append_right _ (List.mem_of_getElem? (i := 1049) (by decide +kernel))) rfl
theorem w_1050 : (Jvm.Cond.selects "EscalatedFormsModel" ({ cls := "EscalatedFormsModel", name := "exceptions", desc := "(III)I" } : Jvm.MethodName) ({ cls := "EscalatedFormsModel", name := "exceptions", desc := "(III)I" } : Jvm.MethodName)) ∈ gw := gw_in (List.mem_append_right _ (List.mem_of_getElem? (i := 1050) (by decide +kernel))) rfl
theorem w_1051 : (Jvm.Cond.code ({ cls := "EscalatedFormsModel", name := "exceptions", desc := "(III)I" } : Jvm.MethodName) prog_11_method_44_code (8 : Nat) (Option.some Jvm.ClassFile.FieldType.int)) ∈ gw := gw_in (List.mem_append_right _ (List.mem_of_getElem? (i := 1051) (by decide +kernel))) rfl
theorem w_1052 : (Jvm.Cond.methodLink "EscalatedFormsModel" (208 : Nat) ({ cls := "EscalatedFormsModel", name := "layRests", desc := "(I)V" } : Jvm.MethodName)) ∈ gw := gw_in (List.mem_append_right _ (List.mem_of_getElem? (i := 1052) (by decide +kernel))) rfl
theorem w_1054 : (Jvm.Cond.instanceMethod ({ cls := "EscalatedFormsModel", name := "layRests", desc := "(I)V" } : Jvm.MethodName)) ∈ gw := gw_in (List.mem_append_right _ (List.mem_of_getElem? (i := 1054) (by decide +kernel))) rfl
theorem w_1055 : (Jvm.Cond.code ({ cls := "EscalatedFormsModel", name := "layRests", desc := "(I)V" } : Jvm.MethodName) prog_11_method_41_code (3 : Nat) (Option.none : Option Jvm.ClassFile.FieldType)) ∈ gw := gw_in (List.mem_append_right _ (List.mem_of_getElem? (i := 1055) (by decide +kernel))) rfl
theorem w_1056 : (Jvm.Cond.methodLink "EscalatedFormsModel" (204 : Nat) ({ cls := "EscalatedFormsModel", name := "restsBy", desc := "(II)I" } : Jvm.MethodName)) ∈ gw := gw_in (List.mem_append_right _ (List.mem_of_getElem? (i := 1056) (by decide +kernel))) rfl
theorem w_1058 : (Jvm.Cond.instanceMethod ({ cls := "EscalatedFormsModel", name := "restsBy", desc := "(II)I" } : Jvm.MethodName)) ∈ gw := gw_in (List.mem_append_right _ (List.mem_of_getElem? (i := 1058) (by decide +kernel))) rfl
theorem w_1059 : (Jvm.Cond.code ({ cls := "EscalatedFormsModel", name := "restsBy", desc := "(II)I" } : Jvm.MethodName) prog_11_method_42_code (12 : Nat) (Option.some Jvm.ClassFile.FieldType.int)) ∈ gw := gw_in (List.mem_append_right _ (List.mem_of_getElem? (i := 1059) (by decide +kernel))) rfl
theorem w_1060 : (Jvm.Cond.methodLink "EscalatedFormsModel" (211 : Nat) ({ cls := "EscalatedFormsModel", name := "barredBy", desc := "(I)I" } : Jvm.MethodName)) ∈ gw := gw_in (List.mem_append_right _ (List.mem_of_getElem? (i := 1060) (by decide +kernel))) rfl
theorem w_1062 : (Jvm.Cond.instanceMethod ({ cls := "EscalatedFormsModel", name := "barredBy", desc := "(I)I" } : Jvm.MethodName)) ∈ gw := gw_in (List.mem_append_right _ (List.mem_of_getElem? (i := 1062) (by decide +kernel))) rfl
theorem w_1063 : (Jvm.Cond.code ({ cls := "EscalatedFormsModel", name := "barredBy", desc := "(I)I" } : Jvm.MethodName) prog_11_method_43_code (5 : Nat) (Option.some Jvm.ClassFile.FieldType.int)) ∈ gw := gw_in (List.mem_append_right _ (List.mem_of_getElem? (i := 1063) (by decide +kernel))) rfl
theorem w_1064 : (Jvm.Cond.methodLink "EscalatedFormsLaw" (101 : Nat) ({ cls := "EscalatedFormsModel", name := "exception", desc := "(II)I" } : Jvm.MethodName)) ∈ gw := gw_in (List.mem_append_right _ (List.mem_of_getElem? (i := 1064) (by decide +kernel))) rfl
theorem w_1065 : (Jvm.Cond.instanceMethod ({ cls := "EscalatedFormsModel", name := "exception", desc := "(II)I" } : Jvm.MethodName)) ∈ gw := gw_in (List.mem_append_right _ (List.mem_of_getElem? (i := 1065) (by decide +kernel))) rfl
theorem w_1066 : (Jvm.Cond.selects "EscalatedFormsModel" ({ cls := "EscalatedFormsModel", name := "exception", desc := "(II)I" } : Jvm.MethodName) ({ cls := "EscalatedFormsModel", name := "exception", desc := "(II)I" } : Jvm.MethodName)) ∈ gw := gw_in (List.mem_append_right _ (List.mem_of_getElem? (i := 1066) (by decide +kernel))) rfl
theorem w_1067 : (Jvm.Cond.code ({ cls := "EscalatedFormsModel", name := "exception", desc := "(II)I" } : Jvm.MethodName) prog_11_method_45_code (5 : Nat) (Option.some Jvm.ClassFile.FieldType.int)) ∈ gw := gw_in (List.mem_append_right _ (List.mem_of_getElem? (i := 1067) (by decide +kernel))) rfl
theorem w_1068 : (Jvm.Cond.methodLink "EscalatedFormsLaw" (105 : Nat) ({ cls := "EscalatedFormsModel", name := "residues", desc := "(II)I" } : Jvm.MethodName)) ∈ gw := gw_in (List.mem_append_right _ (List.mem_of_getElem? (i := 1068) (by decide +kernel))) rfl
theorem w_1069 : (Jvm.Cond.instanceMethod ({ cls := "EscalatedFormsModel", name := "residues", desc := "(II)I" } : Jvm.MethodName)) ∈ gw := gw_in (List.mem_append_right _ (List.mem_of_getElem? (i := 1069) (by decide +kernel))) rfl
theorem w_1070 : (Jvm.Cond.selects "EscalatedFormsModel" ({ cls := "EscalatedFormsModel", name := "residues", desc := "(II)I" } : Jvm.MethodName) ({ cls := "EscalatedFormsModel", name := "residues", desc := "(II)I" } : Jvm.MethodName)) ∈ gw := gw_in (List.mem_append_right _ (List.mem_of_getElem? (i := 1070) (by decide +kernel))) rfl
theorem w_1071 : (Jvm.Cond.code ({ cls := "EscalatedFormsModel", name := "residues", desc := "(II)I" } : Jvm.MethodName) prog_11_method_46_code (3 : Nat) (Option.some Jvm.ClassFile.FieldType.int)) ∈ gw := gw_in (List.mem_append_right _ (List.mem_of_getElem? (i := 1071) (by decide +kernel))) rfl
theorem w_1072 : (Jvm.Cond.constantLong "EscalatedFormsModel" (214 : Nat) (16 : Int64)) ∈ gw := gw_in (List.mem_append_right _ (List.mem_of_getElem? (i := 1072) (by decide +kernel))) rfl
theorem w_1073 : (Jvm.Cond.methodLink "EscalatedFormsLaw" (109 : Nat) ({ cls := "EscalatedFormsModel", name := "barred", desc := "(II)I" } : Jvm.MethodName)) ∈ gw := gw_in (List.mem_append_right _ (List.mem_of_getElem? (i := 1073) (by decide +kernel))) rfl
theorem w_1074 : (Jvm.Cond.instanceMethod ({ cls := "EscalatedFormsModel", name := "barred", desc := "(II)I" } : Jvm.MethodName)) ∈ gw := gw_in (List.mem_append_right _ (List.mem_of_getElem? (i := 1074) (by decide +kernel))) rfl
theorem w_1075 : (Jvm.Cond.selects "EscalatedFormsModel" ({ cls := "EscalatedFormsModel", name := "barred", desc := "(II)I" } : Jvm.MethodName) ({ cls := "EscalatedFormsModel", name := "barred", desc := "(II)I" } : Jvm.MethodName)) ∈ gw := gw_in (List.mem_append_right _ (List.mem_of_getElem? (i := 1075) (by decide +kernel))) rfl
theorem w_1076 : (Jvm.Cond.code ({ cls := "EscalatedFormsModel", name := "barred", desc := "(II)I" } : Jvm.MethodName) prog_11_method_47_code (4 : Nat) (Option.some Jvm.ClassFile.FieldType.int)) ∈ gw := gw_in (List.mem_append_right _ (List.mem_of_getElem? (i := 1076) (by decide +kernel))) rfl
theorem w_1077 : (Jvm.Cond.methodLink "EscalatedFormsLaw" (113 : Nat) ({ cls := "EscalatedFormsModel", name := "rule", desc := "(II)I" } : Jvm.MethodName)) ∈ gw := gw_in (List.mem_append_right _ (List.mem_of_getElem? (i := 1077) (by decide +kernel))) rfl
theorem w_1078 : (Jvm.Cond.instanceMethod ({ cls := "EscalatedFormsModel", name := "rule", desc := "(II)I" } : Jvm.MethodName)) ∈ gw := gw_in (List.mem_append_right _ (List.mem_of_getElem? (i := 1078) (by decide +kernel))) rfl
theorem w_1079 : (Jvm.Cond.selects "EscalatedFormsModel" ({ cls := "EscalatedFormsModel", name := "rule", desc := "(II)I" } : Jvm.MethodName) ({ cls := "EscalatedFormsModel", name := "rule", desc := "(II)I" } : Jvm.MethodName)) ∈ gw := gw_in (List.mem_append_right _ (List.mem_of_getElem? (i := 1079) (by decide +kernel))) rfl
theorem w_1080 : (Jvm.Cond.code ({ cls := "EscalatedFormsModel", name := "rule", desc := "(II)I" } : Jvm.MethodName) prog_11_method_51_code (3 : Nat) (Option.some Jvm.ClassFile.FieldType.int)) ∈ gw := gw_in (List.mem_append_right _ (List.mem_of_getElem? (i := 1080) (by decide +kernel))) rfl
theorem w_1081 : (Jvm.Cond.methodLink "EscalatedFormsModel" (216 : Nat) ({ cls := "EscalatedFormsModel", name := "isRule", desc := "(I)Z" } : Jvm.MethodName)) ∈ gw := gw_in (List.mem_append_right _ (List.mem_of_getElem? (i := 1081) (by decide +kernel))) rfl
theorem w_1082 : (Jvm.Cond.static ({ cls := "EscalatedFormsModel", name := "isRule", desc := "(I)Z" } : Jvm.MethodName)) ∈ gw := gw_in (List.mem_append_right _ (List.mem_of_getElem? (i := 1082) (by decide +kernel))) rfl
theorem w_1083 : (Jvm.Cond.code ({ cls := "EscalatedFormsModel", name := "isRule", desc := "(I)Z" } : Jvm.MethodName) prog_11_method_50_code (1 : Nat) (Option.some Jvm.ClassFile.FieldType.boolean)) ∈ gw := gw_in (List.mem_append_right _ (List.mem_of_getElem? (i := 1083) (by decide +kernel))) rfl
theorem w_1084 : (Jvm.Cond.methodLink "EscalatedFormsModel" (219 : Nat) ({ cls := "EscalatedFormsModel", name := "ruleMany", desc := "(I)I" } : Jvm.MethodName)) ∈ gw := gw_in (List.mem_append_right _ (List.mem_of_getElem? (i := 1084) (by decide +kernel))) rfl
theorem w_1085 : (Jvm.Cond.static ({ cls := "EscalatedFormsModel", name := "ruleMany", desc := "(I)I" } : Jvm.MethodName)) ∈ gw := gw_in (List.mem_append_right _ (List.mem_of_getElem? (i := 1085) (by decide +kernel))) rfl
theorem w_1086 : (Jvm.Cond.code ({ cls := "EscalatedFormsModel", name := "ruleMany", desc := "(I)I" } : Jvm.MethodName) prog_11_method_48_code (1 : Nat) (Option.some Jvm.ClassFile.FieldType.int)) ∈ gw := gw_in (List.mem_append_right _ (List.mem_of_getElem? (i := 1086) (by decide +kernel))) rfl
theorem w_1087 : (Jvm.Cond.methodLink "EscalatedFormsModel" (222 : Nat) ({ cls := "EscalatedFormsModel", name := "ruledAt", desc := "(II)I" } : Jvm.MethodName)) ∈ gw := gw_in (List.mem_append_right _ (List.mem_of_getElem? (i := 1087) (by decide +kernel))) rfl
theorem w_1089 : (Jvm.Cond.instanceMethod ({ cls := "EscalatedFormsModel", name := "ruledAt", desc := "(II)I" } : Jvm.MethodName)) ∈ gw := gw_in (List.mem_append_right _ (List.mem_of_getElem? (i := 1089) (by decide +kernel))) rfl
theorem w_1090 : (Jvm.Cond.code ({ cls := "EscalatedFormsModel", name := "ruledAt", desc := "(II)I" } : Jvm.MethodName) prog_11_method_49_code (3 : Nat) (Option.some Jvm.ClassFile.FieldType.int)) ∈ gw := gw_in (List.mem_append_right _ (List.mem_of_getElem? (i := 1090) (by decide +kernel))) rfl
theorem w_1091 : (Jvm.Cond.methodLink "EscalatedFormsLaw" (117 : Nat) ({ cls := "EscalatedFormsModel", name := "claim", desc := "(II)I" } : Jvm.MethodName)) ∈ gw := gw_in (List.mem_append_right _ (List.mem_of_getElem? (i := 1091) (by decide +kernel))) rfl
theorem w_1092 : (Jvm.Cond.instanceMethod ({ cls := "EscalatedFormsModel", name := "claim", desc := "(II)I" } : Jvm.MethodName)) ∈ gw := gw_in (List.mem_append_right _ (List.mem_of_getElem? (i := 1092) (by decide +kernel))) rfl
theorem w_1093 : (Jvm.Cond.selects "EscalatedFormsModel" ({ cls := "EscalatedFormsModel", name := "claim", desc := "(II)I" } : Jvm.MethodName) ({ cls := "EscalatedFormsModel", name := "claim", desc := "(II)I" } : Jvm.MethodName)) ∈ gw := gw_in (List.mem_append_right _ (List.mem_of_getElem? (i := 1093) (by decide +kernel))) rfl
theorem w_1094 : (Jvm.Cond.code ({ cls := "EscalatedFormsModel", name := "claim", desc := "(II)I" } : Jvm.MethodName) prog_11_method_53_code (3 : Nat) (Option.some Jvm.ClassFile.FieldType.int)) ∈ gw := gw_in (List.mem_append_right _ (List.mem_of_getElem? (i := 1094) (by decide +kernel))) rfl
theorem w_1095 : (Jvm.Cond.methodLink "EscalatedFormsModel" (225 : Nat) ({ cls := "EscalatedFormsModel", name := "lackMany", desc := "(I)I" } : Jvm.MethodName)) ∈ gw := gw_in (List.mem_append_right _ (List.mem_of_getElem? (i := 1095) (by decide +kernel))) rfl
theorem w_1097 : (Jvm.Cond.instanceMethod ({ cls := "EscalatedFormsModel", name := "lackMany", desc := "(I)I" } : Jvm.MethodName)) ∈ gw := gw_in (List.mem_append_right _ (List.mem_of_getElem? (i := 1097) (by decide +kernel))) rfl
theorem w_1098 : (Jvm.Cond.code ({ cls := "EscalatedFormsModel", name := "lackMany", desc := "(I)I" } : Jvm.MethodName) prog_11_method_52_code (4 : Nat) (Option.some Jvm.ClassFile.FieldType.int)) ∈ gw := gw_in (List.mem_append_right _ (List.mem_of_getElem? (i := 1098) (by decide +kernel))) rfl
theorem w_1099 : (Jvm.Cond.methodLink "EscalatedFormsLaw" (121 : Nat) ({ cls := "EscalatedFormsModel", name := "lacks", desc := "(III)I" } : Jvm.MethodName)) ∈ gw := gw_in (List.mem_append_right _ (List.mem_of_getElem? (i := 1099) (by decide +kernel))) rfl
theorem w_1100 : (Jvm.Cond.instanceMethod ({ cls := "EscalatedFormsModel", name := "lacks", desc := "(III)I" } : Jvm.MethodName)) ∈ gw := gw_in (List.mem_append_right _ (List.mem_of_getElem? (i := 1100) (by decide +kernel))) rfl
theorem w_1101 : (Jvm.Cond.selects "EscalatedFormsModel" ({ cls := "EscalatedFormsModel", name := "lacks", desc := "(III)I" } : Jvm.MethodName) ({ cls := "EscalatedFormsModel", name := "lacks", desc := "(III)I" } : Jvm.MethodName)) ∈ gw := gw_in (List.mem_append_right _ (List.mem_of_getElem? (i := 1101) (by decide +kernel))) rfl
theorem w_1102 : (Jvm.Cond.code ({ cls := "EscalatedFormsModel", name := "lacks", desc := "(III)I" } : Jvm.MethodName) prog_11_method_54_code (7 : Nat) (Option.some Jvm.ClassFile.FieldType.int)) ∈ gw := gw_in (List.mem_append_right _ (List.mem_of_getElem? (i := 1102) (by decide +kernel))) rfl
theorem w_1103 : (Jvm.Cond.methodLink "EscalatedFormsLaw" (125 : Nat) ({ cls := "EscalatedFormsModel", name := "certify", desc := "(IIII)I" } : Jvm.MethodName)) ∈ gw := gw_in (List.mem_append_right _ (List.mem_of_getElem? (i := 1103) (by decide +kernel))) rfl
theorem w_1104 : (Jvm.Cond.instanceMethod ({ cls := "EscalatedFormsModel", name := "certify", desc := "(IIII)I" } : Jvm.MethodName)) ∈ gw := gw_in (List.mem_append_right _ (List.mem_of_getElem? (i := 1104) (by decide +kernel))) rfl
theorem w_1105 : (Jvm.Cond.selects "EscalatedFormsModel" ({ cls := "EscalatedFormsModel", name := "certify", desc := "(IIII)I" } : Jvm.MethodName) ({ cls := "EscalatedFormsModel", name := "certify", desc := "(IIII)I" } : Jvm.MethodName)) ∈ gw := gw_in (List.mem_append_right _ (List.mem_of_getElem? (i := 1105) (by decide +kernel))) rfl
theorem w_1106 : (Jvm.Cond.code ({ cls := "EscalatedFormsModel", name := "certify", desc := "(IIII)I" } : Jvm.MethodName) prog_11_method_55_code (10 : Nat) (Option.some Jvm.ClassFile.FieldType.int)) ∈ gw := gw_in (List.mem_append_right _ (List.mem_of_getElem? (i := 1106) (by decide +kernel))) rfl
theorem w_1107 : (Jvm.Cond.methodLink "EscalatedFormsModel" (228 : Nat) ({ cls := "EscalatedFormsModel", name := "lowest", desc := "(II)I" } : Jvm.MethodName)) ∈ gw := gw_in (List.mem_append_right _ (List.mem_of_getElem? (i := 1107) (by decide +kernel))) rfl
theorem w_1109 : (Jvm.Cond.instanceMethod ({ cls := "EscalatedFormsModel", name := "lowest", desc := "(II)I" } : Jvm.MethodName)) ∈ gw := gw_in (List.mem_append_right _ (List.mem_of_getElem? (i := 1109) (by decide +kernel))) rfl
theorem w_1110 : (Jvm.Cond.code ({ cls := "EscalatedFormsModel", name := "lowest", desc := "(II)I" } : Jvm.MethodName) prog_11_method_77_code (3 : Nat) (Option.some Jvm.ClassFile.FieldType.int)) ∈ gw := gw_in (List.mem_append_right _ (List.mem_of_getElem? (i := 1110) (by decide +kernel))) rfl
theorem w_1111 : (Jvm.Cond.methodLink "EscalatedFormsLaw" (129 : Nat) ({ cls := "EscalatedFormsModel", name := "children", desc := "(I)I" } : Jvm.MethodName)) ∈ gw := gw_in (List.mem_append_right _ (List.mem_of_getElem? (i := 1111) (by decide +kernel))) rfl
theorem w_1112 : (Jvm.Cond.instanceMethod ({ cls := "EscalatedFormsModel", name := "children", desc := "(I)I" } : Jvm.MethodName)) ∈ gw := gw_in (List.mem_append_right _ (List.mem_of_getElem? (i := 1112) (by decide +kernel))) rfl
theorem w_1113 : (Jvm.Cond.selects "EscalatedFormsModel" ({ cls := "EscalatedFormsModel", name := "children", desc := "(I)I" } : Jvm.MethodName) ({ cls := "EscalatedFormsModel", name := "children", desc := "(I)I" } : Jvm.MethodName)) ∈ gw := gw_in (List.mem_append_right _ (List.mem_of_getElem? (i := 1113) (by decide +kernel))) rfl
theorem w_1114 : (Jvm.Cond.code ({ cls := "EscalatedFormsModel", name := "children", desc := "(I)I" } : Jvm.MethodName) prog_11_method_60_code (4 : Nat) (Option.some Jvm.ClassFile.FieldType.int)) ∈ gw := gw_in (List.mem_append_right _ (List.mem_of_getElem? (i := 1114) (by decide +kernel))) rfl
theorem w_1115 : (Jvm.Cond.methodLink "EscalatedFormsModel" (248 : Nat) ({ cls := "EscalatedFormsModel", name := "beginChildren", desc := "(I)I" } : Jvm.MethodName)) ∈ gw := gw_in (List.mem_append_right _ (List.mem_of_getElem? (i := 1115) (by decide +kernel))) rfl
theorem w_1117 : (Jvm.Cond.instanceMethod ({ cls := "EscalatedFormsModel", name := "beginChildren", desc := "(I)I" } : Jvm.MethodName)) ∈ gw := gw_in (List.mem_append_right _ (List.mem_of_getElem? (i := 1117) (by decide +kernel))) rfl
theorem w_1118 : (Jvm.Cond.code ({ cls := "EscalatedFormsModel", name := "beginChildren", desc := "(I)I" } : Jvm.MethodName) prog_11_method_56_code (6 : Nat) (Option.some Jvm.ClassFile.FieldType.int)) ∈ gw := gw_in (List.mem_append_right _ (List.mem_of_getElem? (i := 1118) (by decide +kernel))) rfl
theorem w_1119 : (Jvm.Cond.methodLink "EscalatedFormsModel" (245 : Nat) ({ cls := "EscalatedFormsModel", name := "nextChild", desc := "()Z" } : Jvm.MethodName)) ∈ gw := gw_in (List.mem_append_right _ (List.mem_of_getElem? (i := 1119) (by decide +kernel))) rfl
theorem w_1121 : (Jvm.Cond.instanceMethod ({ cls := "EscalatedFormsModel", name := "nextChild", desc := "()Z" } : Jvm.MethodName)) ∈ gw := gw_in (List.mem_append_right _ (List.mem_of_getElem? (i := 1121) (by decide +kernel))) rfl
theorem w_1122 : (Jvm.Cond.code ({ cls := "EscalatedFormsModel", name := "nextChild", desc := "()Z" } : Jvm.MethodName) prog_11_method_58_code (3 : Nat) (Option.some Jvm.ClassFile.FieldType.boolean)) ∈ gw := gw_in (List.mem_append_right _ (List.mem_of_getElem? (i := 1122) (by decide +kernel))) rfl
theorem w_1123 : (Jvm.Cond.methodLink "EscalatedFormsModel" (241 : Nat) ({ cls := "EscalatedFormsModel", name := "nextRow", desc := "()Z" } : Jvm.MethodName)) ∈ gw := gw_in (List.mem_append_right _ (List.mem_of_getElem? (i := 1123) (by decide +kernel))) rfl
theorem w_1125 : (Jvm.Cond.instanceMethod ({ cls := "EscalatedFormsModel", name := "nextRow", desc := "()Z" } : Jvm.MethodName)) ∈ gw := gw_in (List.mem_append_right _ (List.mem_of_getElem? (i := 1125) (by decide +kernel))) rfl
theorem w_1126 : (Jvm.Cond.code ({ cls := "EscalatedFormsModel", name := "nextRow", desc := "()Z" } : Jvm.MethodName) prog_11_method_57_code (2 : Nat) (Option.some Jvm.ClassFile.FieldType.boolean)) ∈ gw := gw_in (List.mem_append_right _ (List.mem_of_getElem? (i := 1126) (by decide +kernel))) rfl
theorem w_1127 : (Jvm.Cond.methodLink "EscalatedFormsLaw" (133 : Nat) ({ cls := "EscalatedFormsModel", name := "child", desc := "(III)I" } : Jvm.MethodName)) ∈ gw := gw_in (List.mem_append_right _ (List.mem_of_getElem? (i := 1127) (by decide +kernel))) rfl
theorem w_1128 : (Jvm.Cond.instanceMethod ({ cls := "EscalatedFormsModel", name := "child", desc := "(III)I" } : Jvm.MethodName)) ∈ gw := gw_in (List.mem_append_right _ (List.mem_of_getElem? (i := 1128) (by decide +kernel))) rfl
theorem w_1129 : (Jvm.Cond.selects "EscalatedFormsModel" ({ cls := "EscalatedFormsModel", name := "child", desc := "(III)I" } : Jvm.MethodName) ({ cls := "EscalatedFormsModel", name := "child", desc := "(III)I" } : Jvm.MethodName)) ∈ gw := gw_in (List.mem_append_right _ (List.mem_of_getElem? (i := 1129) (by decide +kernel))) rfl
theorem w_1130 : (Jvm.Cond.code ({ cls := "EscalatedFormsModel", name := "child", desc := "(III)I" } : Jvm.MethodName) prog_11_method_61_code (5 : Nat) (Option.some Jvm.ClassFile.FieldType.int)) ∈ gw := gw_in (List.mem_append_right _ (List.mem_of_getElem? (i := 1130) (by decide +kernel))) rfl
theorem w_1131 : (Jvm.Cond.methodLink "EscalatedFormsModel" (251 : Nat) ({ cls := "EscalatedFormsModel", name := "isChild", desc := "(I)Z" } : Jvm.MethodName)) ∈ gw := gw_in (List.mem_append_right _ (List.mem_of_getElem? (i := 1131) (by decide +kernel))) rfl
theorem w_1133 : (Jvm.Cond.instanceMethod ({ cls := "EscalatedFormsModel", name := "isChild", desc := "(I)Z" } : Jvm.MethodName)) ∈ gw := gw_in (List.mem_append_right _ (List.mem_of_getElem? (i := 1133) (by decide +kernel))) rfl
theorem w_1134 : (Jvm.Cond.code ({ cls := "EscalatedFormsModel", name := "isChild", desc := "(I)Z" } : Jvm.MethodName) prog_11_method_59_code (4 : Nat) (Option.some Jvm.ClassFile.FieldType.boolean)) ∈ gw := gw_in (List.mem_append_right _ (List.mem_of_getElem? (i := 1134) (by decide +kernel))) rfl
theorem w_1135 : (Jvm.Cond.methodLink "EscalatedFormsLaw" (137 : Nat) ({ cls := "EscalatedFormsModel", name := "next", desc := "(III)I" } : Jvm.MethodName)) ∈ gw := gw_in (List.mem_append_right _ (List.mem_of_getElem? (i := 1135) (by decide +kernel))) rfl
theorem w_1136 : (Jvm.Cond.instanceMethod ({ cls := "EscalatedFormsModel", name := "next", desc := "(III)I" } : Jvm.MethodName)) ∈ gw := gw_in (List.mem_append_right _ (List.mem_of_getElem? (i := 1136) (by decide +kernel))) rfl
theorem w_1137 : (Jvm.Cond.selects "EscalatedFormsModel" ({ cls := "EscalatedFormsModel", name := "next", desc := "(III)I" } : Jvm.MethodName) ({ cls := "EscalatedFormsModel", name := "next", desc := "(III)I" } : Jvm.MethodName)) ∈ gw := gw_in (List.mem_append_right _ (List.mem_of_getElem? (i := 1137) (by decide +kernel))) rfl
theorem w_1138 : (Jvm.Cond.code ({ cls := "EscalatedFormsModel", name := "next", desc := "(III)I" } : Jvm.MethodName) prog_11_method_62_code (11 : Nat) (Option.some Jvm.ClassFile.FieldType.int)) ∈ gw := gw_in (List.mem_append_right _ (List.mem_of_getElem? (i := 1138) (by decide +kernel))) rfl
theorem w_1139 : (Jvm.Cond.methodLink "EscalatedFormsModel" (254 : Nat) ({ cls := "EscalatedFormsModel", name := "greatestLack", desc := "()I" } : Jvm.MethodName)) ∈ gw := gw_in (List.mem_append_right _ (List.mem_of_getElem? (i := 1139) (by decide +kernel))) rfl
theorem w_1141 : (Jvm.Cond.instanceMethod ({ cls := "EscalatedFormsModel", name := "greatestLack", desc := "()I" } : Jvm.MethodName)) ∈ gw := gw_in (List.mem_append_right _ (List.mem_of_getElem? (i := 1141) (by decide +kernel))) rfl
theorem w_1142 : (Jvm.Cond.code ({ cls := "EscalatedFormsModel", name := "greatestLack", desc := "()I" } : Jvm.MethodName) prog_11_method_63_code (3 : Nat) (Option.some Jvm.ClassFile.FieldType.int)) ∈ gw := gw_in (List.mem_append_right _ (List.mem_of_getElem? (i := 1142) (by decide +kernel))) rfl
theorem w_1143 : (Jvm.Cond.methodLink "EscalatedFormsLaw" (141 : Nat) ({ cls := "EscalatedFormsModel", name := "plant", desc := "(I)I" } : Jvm.MethodName)) ∈ gw := gw_in (List.mem_append_right _ (List.mem_of_getElem? (i := 1143) (by decide +kernel))) rfl
theorem w_1144 : (Jvm.Cond.instanceMethod ({ cls := "EscalatedFormsModel", name := "plant", desc := "(I)I" } : Jvm.MethodName)) ∈ gw := gw_in (List.mem_append_right _ (List.mem_of_getElem? (i := 1144) (by decide +kernel))) rfl
theorem w_1145 : (Jvm.Cond.selects "EscalatedFormsModel" ({ cls := "EscalatedFormsModel", name := "plant", desc := "(I)I" } : Jvm.MethodName) ({ cls := "EscalatedFormsModel", name := "plant", desc := "(I)I" } : Jvm.MethodName)) ∈ gw := gw_in (List.mem_append_right _ (List.mem_of_getElem? (i := 1145) (by decide +kernel))) rfl
theorem w_1146 : (Jvm.Cond.code ({ cls := "EscalatedFormsModel", name := "plant", desc := "(I)I" } : Jvm.MethodName) prog_11_method_65_code (3 : Nat) (Option.some Jvm.ClassFile.FieldType.int)) ∈ gw := gw_in (List.mem_append_right _ (List.mem_of_getElem? (i := 1146) (by decide +kernel))) rfl
theorem w_1147 : (Jvm.Cond.methodLink "EscalatedFormsLaw" (145 : Nat) ({ cls := "EscalatedFormsModel", name := "branch", desc := "(II)I" } : Jvm.MethodName)) ∈ gw := gw_in (List.mem_append_right _ (List.mem_of_getElem? (i := 1147) (by decide +kernel))) rfl
theorem w_1148 : (Jvm.Cond.instanceMethod ({ cls := "EscalatedFormsModel", name := "branch", desc := "(II)I" } : Jvm.MethodName)) ∈ gw := gw_in (List.mem_append_right _ (List.mem_of_getElem? (i := 1148) (by decide +kernel))) rfl
theorem w_1149 : (Jvm.Cond.selects "EscalatedFormsModel" ({ cls := "EscalatedFormsModel", name := "branch", desc := "(II)I" } : Jvm.MethodName) ({ cls := "EscalatedFormsModel", name := "branch", desc := "(II)I" } : Jvm.MethodName)) ∈ gw := gw_in (List.mem_append_right _ (List.mem_of_getElem? (i := 1149) (by decide +kernel))) rfl
theorem w_1150 : (Jvm.Cond.code ({ cls := "EscalatedFormsModel", name := "branch", desc := "(II)I" } : Jvm.MethodName) prog_11_method_66_code (4 : Nat) (Option.some Jvm.ClassFile.FieldType.int)) ∈ gw := gw_in (List.mem_append_right _ (List.mem_of_getElem? (i := 1150) (by decide +kernel))) rfl
theorem w_1151 : (Jvm.Cond.methodLink "EscalatedFormsModel" (257 : Nat) ({ cls := "EscalatedFormsModel", name := "isNode", desc := "(I)Z" } : Jvm.MethodName)) ∈ gw := gw_in (List.mem_append_right _ (List.mem_of_getElem? (i := 1151) (by decide +kernel))) rfl
theorem w_1153 : (Jvm.Cond.instanceMethod ({ cls := "EscalatedFormsModel", name := "isNode", desc := "(I)Z" } : Jvm.MethodName)) ∈ gw := gw_in (List.mem_append_right _ (List.mem_of_getElem? (i := 1153) (by decide +kernel))) rfl
theorem w_1154 : (Jvm.Cond.code ({ cls := "EscalatedFormsModel", name := "isNode", desc := "(I)Z" } : Jvm.MethodName) prog_11_method_64_code (2 : Nat) (Option.some Jvm.ClassFile.FieldType.boolean)) ∈ gw := gw_in (List.mem_append_right _ (List.mem_of_getElem? (i := 1154) (by decide +kernel))) rfl
theorem w_1155 : (Jvm.Cond.methodLink "EscalatedFormsLaw" (149 : Nat) ({ cls := "EscalatedFormsModel", name := "ofNode", desc := "(II)I" } : Jvm.MethodName)) ∈ gw := gw_in (List.mem_append_right _ (List.mem_of_getElem? (i := 1155) (by decide +kernel))) rfl
theorem w_1156 : (Jvm.Cond.instanceMethod ({ cls := "EscalatedFormsModel", name := "ofNode", desc := "(II)I" } : Jvm.MethodName)) ∈ gw := gw_in (List.mem_append_right _ (List.mem_of_getElem? (i := 1156) (by decide +kernel))) rfl
theorem w_1157 : (Jvm.Cond.selects "EscalatedFormsModel" ({ cls := "EscalatedFormsModel", name := "ofNode", desc := "(II)I" } : Jvm.MethodName) ({ cls := "EscalatedFormsModel", name := "ofNode", desc := "(II)I" } : Jvm.MethodName)) ∈ gw := gw_in (List.mem_append_right _ (List.mem_of_getElem? (i := 1157) (by decide +kernel))) rfl
theorem w_1158 : (Jvm.Cond.code ({ cls := "EscalatedFormsModel", name := "ofNode", desc := "(II)I" } : Jvm.MethodName) prog_11_method_70_code (3 : Nat) (Option.some Jvm.ClassFile.FieldType.int)) ∈ gw := gw_in (List.mem_append_right _ (List.mem_of_getElem? (i := 1158) (by decide +kernel))) rfl
theorem w_1159 : (Jvm.Cond.constantLong "EscalatedFormsModel" (263 : Nat) (8 : Int64)) ∈ gw := gw_in (List.mem_append_right _ (List.mem_of_getElem? (i := 1159) (by decide +kernel))) rfl
theorem w_1160 : (Jvm.Cond.methodLink "EscalatedFormsModel" (265 : Nat) ({ cls := "EscalatedFormsModel", name := "layHeights", desc := "()V" } : Jvm.MethodName)) ∈ gw := gw_in (List.mem_append_right _ (List.mem_of_getElem? (i := 1160) (by decide +kernel))) rfl
theorem w_1162 : (Jvm.Cond.instanceMethod ({ cls := "EscalatedFormsModel", name := "layHeights", desc := "()V" } : Jvm.MethodName)) ∈ gw := gw_in (List.mem_append_right _ (List.mem_of_getElem? (i := 1162) (by decide +kernel))) rfl
theorem w_1163 : (Jvm.Cond.code ({ cls := "EscalatedFormsModel", name := "layHeights", desc := "()V" } : Jvm.MethodName) prog_11_method_67_code (3 : Nat) (Option.none : Option Jvm.ClassFile.FieldType)) ∈ gw := gw_in (List.mem_append_right _ (List.mem_of_getElem? (i := 1163) (by decide +kernel))) rfl
theorem w_1164 : (Jvm.Cond.methodLink "EscalatedFormsModel" (268 : Nat) ({ cls := "EscalatedFormsModel", name := "claimsBelow", desc := "(I)I" } : Jvm.MethodName)) ∈ gw := gw_in (List.mem_append_right _ (List.mem_of_getElem? (i := 1164) (by decide +kernel))) rfl
theorem w_1166 : (Jvm.Cond.instanceMethod ({ cls := "EscalatedFormsModel", name := "claimsBelow", desc := "(I)I" } : Jvm.MethodName)) ∈ gw := gw_in (List.mem_append_right _ (List.mem_of_getElem? (i := 1166) (by decide +kernel))) rfl
theorem w_1167 : (Jvm.Cond.code ({ cls := "EscalatedFormsModel", name := "claimsBelow", desc := "(I)I" } : Jvm.MethodName) prog_11_method_69_code (4 : Nat) (Option.some Jvm.ClassFile.FieldType.int)) ∈ gw := gw_in (List.mem_append_right _ (List.mem_of_getElem? (i := 1167) (by decide +kernel))) rfl
theorem w_1168 : (Jvm.Cond.methodLink "EscalatedFormsModel" (260 : Nat) ({ cls := "EscalatedFormsModel", name := "isBelow", desc := "(II)Z" } : Jvm.MethodName)) ∈ gw := gw_in (List.mem_append_right _ (List.mem_of_getElem? (i := 1168) (by decide +kernel))) rfl
theorem w_1170 : (Jvm.Cond.instanceMethod ({ cls := "EscalatedFormsModel", name := "isBelow", desc := "(II)Z" } : Jvm.MethodName)) ∈ gw := gw_in (List.mem_append_right _ (List.mem_of_getElem? (i := 1170) (by decide +kernel))) rfl
theorem w_1171 : (Jvm.Cond.code ({ cls := "EscalatedFormsModel", name := "isBelow", desc := "(II)Z" } : Jvm.MethodName) prog_11_method_68_code (4 : Nat) (Option.some Jvm.ClassFile.FieldType.boolean)) ∈ gw := gw_in (List.mem_append_right _ (List.mem_of_getElem? (i := 1171) (by decide +kernel))) rfl
theorem w_1172 : (Jvm.Cond.methodLink "EscalatedFormsLaw" (153 : Nat) ({ cls := "EscalatedFormsModel", name := "nodeTo", desc := "(II)I" } : Jvm.MethodName)) ∈ gw := gw_in (List.mem_append_right _ (List.mem_of_getElem? (i := 1172) (by decide +kernel))) rfl
theorem w_1173 : (Jvm.Cond.instanceMethod ({ cls := "EscalatedFormsModel", name := "nodeTo", desc := "(II)I" } : Jvm.MethodName)) ∈ gw := gw_in (List.mem_append_right _ (List.mem_of_getElem? (i := 1173) (by decide +kernel))) rfl
theorem w_1174 : (Jvm.Cond.selects "EscalatedFormsModel" ({ cls := "EscalatedFormsModel", name := "nodeTo", desc := "(II)I" } : Jvm.MethodName) ({ cls := "EscalatedFormsModel", name := "nodeTo", desc := "(II)I" } : Jvm.MethodName)) ∈ gw := gw_in (List.mem_append_right _ (List.mem_of_getElem? (i := 1174) (by decide +kernel))) rfl
theorem w_1175 : (Jvm.Cond.code ({ cls := "EscalatedFormsModel", name := "nodeTo", desc := "(II)I" } : Jvm.MethodName) prog_11_method_71_code (3 : Nat) (Option.some Jvm.ClassFile.FieldType.int)) ∈ gw := gw_in (List.mem_append_right _ (List.mem_of_getElem? (i := 1175) (by decide +kernel))) rfl
theorem w_1176 : (Jvm.Cond.methodLink "EscalatedFormsLaw" (157 : Nat) ({ cls := "EscalatedFormsModel", name := "walk", desc := "(I)I" } : Jvm.MethodName)) ∈ gw := gw_in (List.mem_append_right _ (List.mem_of_getElem? (i := 1176) (by decide +kernel))) rfl
theorem w_1177 : (Jvm.Cond.instanceMethod ({ cls := "EscalatedFormsModel", name := "walk", desc := "(I)I" } : Jvm.MethodName)) ∈ gw := gw_in (List.mem_append_right _ (List.mem_of_getElem? (i := 1177) (by decide +kernel))) rfl
theorem w_1178 : (Jvm.Cond.selects "EscalatedFormsModel" ({ cls := "EscalatedFormsModel", name := "walk", desc := "(I)I" } : Jvm.MethodName) ({ cls := "EscalatedFormsModel", name := "walk", desc := "(I)I" } : Jvm.MethodName)) ∈ gw := gw_in (List.mem_append_right _ (List.mem_of_getElem? (i := 1178) (by decide +kernel))) rfl
theorem w_1179 : (Jvm.Cond.code ({ cls := "EscalatedFormsModel", name := "walk", desc := "(I)I" } : Jvm.MethodName) prog_11_method_74_code (4 : Nat) (Option.some Jvm.ClassFile.FieldType.int)) ∈ gw := gw_in (List.mem_append_right _ (List.mem_of_getElem? (i := 1179) (by decide +kernel))) rfl
theorem w_1180 : (Jvm.Cond.methodLink "EscalatedFormsModel" (274 : Nat) ({ cls := "EscalatedFormsModel", name := "behind", desc := "(I)I" } : Jvm.MethodName)) ∈ gw := gw_in (List.mem_append_right _ (List.mem_of_getElem? (i := 1180) (by decide +kernel))) rfl
theorem w_1182 : (Jvm.Cond.instanceMethod ({ cls := "EscalatedFormsModel", name := "behind", desc := "(I)I" } : Jvm.MethodName)) ∈ gw := gw_in (List.mem_append_right _ (List.mem_of_getElem? (i := 1182) (by decide +kernel))) rfl
theorem w_1183 : (Jvm.Cond.code ({ cls := "EscalatedFormsModel", name := "behind", desc := "(I)I" } : Jvm.MethodName) prog_11_method_73_code (4 : Nat) (Option.some Jvm.ClassFile.FieldType.int)) ∈ gw := gw_in (List.mem_append_right _ (List.mem_of_getElem? (i := 1183) (by decide +kernel))) rfl
theorem w_1184 : (Jvm.Cond.methodLink "EscalatedFormsModel" (271 : Nat) ({ cls := "EscalatedFormsModel", name := "firstUnder", desc := "(II)I" } : Jvm.MethodName)) ∈ gw := gw_in (List.mem_append_right _ (List.mem_of_getElem? (i := 1184) (by decide +kernel))) rfl
theorem w_1186 : (Jvm.Cond.instanceMethod ({ cls := "EscalatedFormsModel", name := "firstUnder", desc := "(II)I" } : Jvm.MethodName)) ∈ gw := gw_in (List.mem_append_right _ (List.mem_of_getElem? (i := 1186) (by decide +kernel))) rfl
theorem w_1187 : (Jvm.Cond.code ({ cls := "EscalatedFormsModel", name := "firstUnder", desc := "(II)I" } : Jvm.MethodName) prog_11_method_72_code (4 : Nat) (Option.some Jvm.ClassFile.FieldType.int)) ∈ gw := gw_in (List.mem_append_right _ (List.mem_of_getElem? (i := 1187) (by decide +kernel))) rfl
theorem w_1188 : (Jvm.Cond.methodLink "EscalatedFormsLaw" (161 : Nat) ({ cls := "EscalatedFormsModel", name := "cut", desc := "(I)I" } : Jvm.MethodName)) ∈ gw := gw_in (List.mem_append_right _ (List.mem_of_getElem? (i := 1188) (by decide +kernel))) rfl
theorem w_1189 : (Jvm.Cond.instanceMethod ({ cls := "EscalatedFormsModel", name := "cut", desc := "(I)I" } : Jvm.MethodName)) ∈ gw := gw_in (List.mem_append_right _ (List.mem_of_getElem? (i := 1189) (by decide +kernel))) rfl
theorem w_1190 : (Jvm.Cond.selects "EscalatedFormsModel" ({ cls := "EscalatedFormsModel", name := "cut", desc := "(I)I" } : Jvm.MethodName) ({ cls := "EscalatedFormsModel", name := "cut", desc := "(I)I" } : Jvm.MethodName)) ∈ gw := gw_in (List.mem_append_right _ (List.mem_of_getElem? (i := 1190) (by decide +kernel))) rfl
theorem w_1191 : (Jvm.Cond.code ({ cls := "EscalatedFormsModel", name := "cut", desc := "(I)I" } : Jvm.MethodName) prog_11_method_75_code (7 : Nat) (Option.some Jvm.ClassFile.FieldType.int)) ∈ gw := gw_in (List.mem_append_right _ (List.mem_of_getElem? (i := 1191) (by decide +kernel))) rfl
theorem w_1192 : (Jvm.Cond.methodLink "EscalatedFormsLaw" (165 : Nat) ({ cls := "EscalatedFormsModel", name := "sheet", desc := "(III)I" } : Jvm.MethodName)) ∈ gw := gw_in (List.mem_append_right _ (List.mem_of_getElem? (i := 1192) (by decide +kernel))) rfl
theorem w_1193 : (Jvm.Cond.instanceMethod ({ cls := "EscalatedFormsModel", name := "sheet", desc := "(III)I" } : Jvm.MethodName)) ∈ gw := gw_in (List.mem_append_right _ (List.mem_of_getElem? (i := 1193) (by decide +kernel))) rfl
theorem w_1194 : (Jvm.Cond.selects "EscalatedFormsModel" ({ cls := "EscalatedFormsModel", name := "sheet", desc := "(III)I" } : Jvm.MethodName) ({ cls := "EscalatedFormsModel", name := "sheet", desc := "(III)I" } : Jvm.MethodName)) ∈ gw := gw_in (List.mem_append_right _ (List.mem_of_getElem? (i := 1194) (by decide +kernel))) rfl
theorem w_1195 : (Jvm.Cond.code ({ cls := "EscalatedFormsModel", name := "sheet", desc := "(III)I" } : Jvm.MethodName) prog_11_method_78_code (5 : Nat) (Option.some Jvm.ClassFile.FieldType.int)) ∈ gw := gw_in (List.mem_append_right _ (List.mem_of_getElem? (i := 1195) (by decide +kernel))) rfl
theorem w_1196 : (Jvm.Cond.methodLink "EscalatedFormsLaw" (169 : Nat) ({ cls := "EscalatedFormsModel", name := "cell", desc := "(III)I" } : Jvm.MethodName)) ∈ gw := gw_in (List.mem_append_right _ (List.mem_of_getElem? (i := 1196) (by decide +kernel))) rfl
theorem w_1197 : (Jvm.Cond.instanceMethod ({ cls := "EscalatedFormsModel", name := "cell", desc := "(III)I" } : Jvm.MethodName)) ∈ gw := gw_in (List.mem_append_right _ (List.mem_of_getElem? (i := 1197) (by decide +kernel))) rfl
theorem w_1198 : (Jvm.Cond.selects "EscalatedFormsModel" ({ cls := "EscalatedFormsModel", name := "cell", desc := "(III)I" } : Jvm.MethodName) ({ cls := "EscalatedFormsModel", name := "cell", desc := "(III)I" } : Jvm.MethodName)) ∈ gw := gw_in (List.mem_append_right _ (List.mem_of_getElem? (i := 1198) (by decide +kernel))) rfl
theorem w_1199 : (Jvm.Cond.code ({ cls := "EscalatedFormsModel", name := "cell", desc := "(III)I" } : Jvm.MethodName) prog_11_method_79_code (4 : Nat) (Option.some Jvm.ClassFile.FieldType.int)) ∈ gw := gw_in (List.mem_append_right _ (List.mem_of_getElem? (i := 1199) (by decide +kernel))) rfl
theorem w_1200 : (Jvm.Cond.methodLink "EscalatedFormsLaw" (174 : Nat) ({ cls := "EscalatedFormsModel", name := "item", desc := "(II)J" } : Jvm.MethodName)) ∈ gw := gw_in (List.mem_append_right _ (List.mem_of_getElem? (i := 1200) (by decide +kernel))) rfl
theorem w_1201 : (Jvm.Cond.instanceMethod ({ cls := "EscalatedFormsModel", name := "item", desc := "(II)J" } : Jvm.MethodName)) ∈ gw := gw_in (List.mem_append_right _ (List.mem_of_getElem? (i := 1201) (by decide +kernel))) rfl
theorem w_1202 : (Jvm.Cond.selects "EscalatedFormsModel" ({ cls := "EscalatedFormsModel", name := "item", desc := "(II)J" } : Jvm.MethodName) ({ cls := "EscalatedFormsModel", name := "item", desc := "(II)J" } : Jvm.MethodName)) ∈ gw := gw_in (List.mem_append_right _ (List.mem_of_getElem? (i := 1202) (by decide +kernel))) rfl
theorem w_1203 : (Jvm.Cond.code ({ cls := "EscalatedFormsModel", name := "item", desc := "(II)J" } : Jvm.MethodName) prog_11_method_80_code (3 : Nat) (Option.some Jvm.ClassFile.FieldType.long)) ∈ gw := gw_in (List.mem_append_right _ (List.mem_of_getElem? (i := 1203) (by decide +kernel))) rfl
theorem w_1204 : (Jvm.Cond.constantLong "EscalatedFormsModel" (277 : Nat) (-9223372036854775808 : Int64)) ∈ gw := gw_in (List.mem_append_right _ (List.mem_of_getElem? (i := 1204) (by decide +kernel))) rfl
theorem w_1205 : (Jvm.Cond.methodLink "EscalatedFormsLaw" (179 : Nat) ({ cls := "EscalatedFormsModel", name := "move", desc := "(IIIII)I" } : Jvm.MethodName)) ∈ gw := gw_in (List.mem_append_right _ (List.mem_of_getElem? (i := 1205) (by decide +kernel))) rfl
theorem w_1206 : (Jvm.Cond.instanceMethod ({ cls := "EscalatedFormsModel", name := "move", desc := "(IIIII)I" } : Jvm.MethodName)) ∈ gw := gw_in (List.mem_append_right _ (List.mem_of_getElem? (i := 1206) (by decide +kernel))) rfl
theorem w_1207 : (Jvm.Cond.selects "EscalatedFormsModel" ({ cls := "EscalatedFormsModel", name := "move", desc := "(IIIII)I" } : Jvm.MethodName) ({ cls := "EscalatedFormsModel", name := "move", desc := "(IIIII)I" } : Jvm.MethodName)) ∈ gw := gw_in (List.mem_append_right _ (List.mem_of_getElem? (i := 1207) (by decide +kernel))) rfl
theorem w_1208 : (Jvm.Cond.code ({ cls := "EscalatedFormsModel", name := "move", desc := "(IIIII)I" } : Jvm.MethodName) prog_11_method_81_code (9 : Nat) (Option.some Jvm.ClassFile.FieldType.int)) ∈ gw := gw_in (List.mem_append_right _ (List.mem_of_getElem? (i := 1208) (by decide +kernel))) rfl
theorem w_1209 : (Jvm.Cond.methodLink "EscalatedFormsLaw" (184 : Nat) ({ cls := "EscalatedFormsModel", name := "keep", desc := "()I" } : Jvm.MethodName)) ∈ gw := gw_in (List.mem_append_right _ (List.mem_of_getElem? (i := 1209) (by decide +kernel))) rfl
theorem w_1210 : (Jvm.Cond.instanceMethod ({ cls := "EscalatedFormsModel", name := "keep", desc := "()I" } : Jvm.MethodName)) ∈ gw := gw_in (List.mem_append_right _ (List.mem_of_getElem? (i := 1210) (by decide +kernel))) rfl
theorem w_1211 : (Jvm.Cond.selects "EscalatedFormsModel" ({ cls := "EscalatedFormsModel", name := "keep", desc := "()I" } : Jvm.MethodName) ({ cls := "EscalatedFormsModel", name := "keep", desc := "()I" } : Jvm.MethodName)) ∈ gw := gw_in (List.mem_append_right _ (List.mem_of_getElem? (i := 1211) (by decide +kernel))) rfl
theorem w_1212 : (Jvm.Cond.code ({ cls := "EscalatedFormsModel", name := "keep", desc := "()I" } : Jvm.MethodName) prog_11_method_83_code (2 : Nat) (Option.some Jvm.ClassFile.FieldType.int)) ∈ gw := gw_in (List.mem_append_right _ (List.mem_of_getElem? (i := 1212) (by decide +kernel))) rfl
theorem w_1213 : (Jvm.Cond.methodLink "EscalatedFormsModel" (285 : Nat) ({ cls := "EscalatedFormsModel", name := "slotsHeld", desc := "()I" } : Jvm.MethodName)) ∈ gw := gw_in (List.mem_append_right _ (List.mem_of_getElem? (i := 1213) (by decide +kernel))) rfl
theorem w_1215 : (Jvm.Cond.instanceMethod ({ cls := "EscalatedFormsModel", name := "slotsHeld", desc := "()I" } : Jvm.MethodName)) ∈ gw := gw_in (List.mem_append_right _ (List.mem_of_getElem? (i := 1215) (by decide +kernel))) rfl
theorem w_1216 : (Jvm.Cond.code ({ cls := "EscalatedFormsModel", name := "slotsHeld", desc := "()I" } : Jvm.MethodName) prog_11_method_82_code (3 : Nat) (Option.some Jvm.ClassFile.FieldType.int)) ∈ gw := gw_in (List.mem_append_right _ (List.mem_of_getElem? (i := 1216) (by decide +kernel))) rfl
theorem w_1217 : (Jvm.Cond.methodLink "EscalatedFormsLaw" (188 : Nat) ({ cls := "EscalatedFormsModel", name := "back", desc := "()I" } : Jvm.MethodName)) ∈ gw := gw_in (List.mem_append_right _ (List.mem_of_getElem? (i := 1217) (by decide +kernel))) rfl
theorem w_1218 : (Jvm.Cond.instanceMethod ({ cls := "EscalatedFormsModel", name := "back", desc := "()I" } : Jvm.MethodName)) ∈ gw := gw_in (List.mem_append_right _ (List.mem_of_getElem? (i := 1218) (by decide +kernel))) rfl
theorem w_1219 : (Jvm.Cond.selects "EscalatedFormsModel" ({ cls := "EscalatedFormsModel", name := "back", desc := "()I" } : Jvm.MethodName) ({ cls := "EscalatedFormsModel", name := "back", desc := "()I" } : Jvm.MethodName)) ∈ gw := gw_in (List.mem_append_right _ (List.mem_of_getElem? (i := 1219) (by decide +kernel))) rfl
theorem w_1220 : (Jvm.Cond.code ({ cls := "EscalatedFormsModel", name := "back", desc := "()I" } : Jvm.MethodName) prog_11_method_84_code (2 : Nat) (Option.some Jvm.ClassFile.FieldType.int)) ∈ gw := gw_in (List.mem_append_right _ (List.mem_of_getElem? (i := 1220) (by decide +kernel))) rfl
theorem w_1221 : (Jvm.Cond.methodLink "EscalatedFormsLaw" (192 : Nat) ({ cls := "EscalatedFormsModel", name := "count", desc := "(I)I" } : Jvm.MethodName)) ∈ gw := gw_in (List.mem_append_right _ (List.mem_of_getElem? (i := 1221) (by decide +kernel))) rfl
theorem w_1222 : (Jvm.Cond.instanceMethod ({ cls := "EscalatedFormsModel", name := "count", desc := "(I)I" } : Jvm.MethodName)) ∈ gw := gw_in (List.mem_append_right _ (List.mem_of_getElem? (i := 1222) (by decide +kernel))) rfl
theorem w_1223 : (Jvm.Cond.selects "EscalatedFormsModel" ({ cls := "EscalatedFormsModel", name := "count", desc := "(I)I" } : Jvm.MethodName) ({ cls := "EscalatedFormsModel", name := "count", desc := "(I)I" } : Jvm.MethodName)) ∈ gw := gw_in (List.mem_append_right _ (List.mem_of_getElem? (i := 1223) (by decide +kernel))) rfl
theorem w_1224 : (Jvm.Cond.code ({ cls := "EscalatedFormsModel", name := "count", desc := "(I)I" } : Jvm.MethodName) prog_11_method_85_code (4 : Nat) (Option.some Jvm.ClassFile.FieldType.int)) ∈ gw := gw_in (List.mem_append_right _ (List.mem_of_getElem? (i := 1224) (by decide +kernel))) rfl
theorem ws_0 : Cond.selects "EscalatedForms" ⟨"EscalatedForms", "storeDraft", "(I)Z"⟩ ⟨"EscalatedForms", "storeDraft", "(I)Z"⟩ ∈ gw := gw_in (List.mem_append_left _ (List.mem_of_getElem? (i := 0) (by decide +kernel))) rfl
theorem ws_1 : Cond.selects "EscalatedForms$Draft" ⟨"EscalatedForms$Draft", "eliminateBehind", "(IIJ)V"⟩ ⟨"EscalatedForms$Draft", "eliminateBehind", "(IIJ)V"⟩ ∈ gw := gw_in (List.mem_append_left _ (List.mem_of_getElem? (i := 1) (by decide +kernel))) rfl
theorem ws_2 : Cond.selects "EscalatedForms" ⟨"EscalatedForms", "held", "(I)LEscalatedForms$Form;"⟩ ⟨"EscalatedForms", "held", "(I)LEscalatedForms$Form;"⟩ ∈ gw := gw_in (List.mem_append_left _ (List.mem_of_getElem? (i := 2) (by decide +kernel))) rfl
theorem ws_3 : Cond.selects "EscalatedForms" ⟨"EscalatedForms", "takenBy", "(LEscalatedForms$Form;)LEscalatedForms$Taken;"⟩ ⟨"EscalatedForms", "takenBy", "(LEscalatedForms$Form;)LEscalatedForms$Taken;"⟩ ∈ gw := gw_in (List.mem_append_left _ (List.mem_of_getElem? (i := 3) (by decide +kernel))) rfl
theorem ws_4 : Cond.selects "EscalatedForms$Ellipsoid" ⟨"EscalatedForms$Ellipsoid", "eliminateAhead", "(IJ)V"⟩ ⟨"EscalatedForms$Ellipsoid", "eliminateAhead", "(IJ)V"⟩ ∈ gw := gw_in (List.mem_append_left _ (List.mem_of_getElem? (i := 4) (by decide +kernel))) rfl
theorem ws_5 : Cond.selects "EscalatedForms$Ellipsoid" ⟨"EscalatedForms$Ellipsoid", "enter", "(I)V"⟩ ⟨"EscalatedForms$Ellipsoid", "enter", "(I)V"⟩ ∈ gw := gw_in (List.mem_append_left _ (List.mem_of_getElem? (i := 5) (by decide +kernel))) rfl
theorem ws_6 : Cond.selects "EscalatedForms$Ellipsoid" ⟨"EscalatedForms$Ellipsoid", "narrow", "(I)V"⟩ ⟨"EscalatedForms$Ellipsoid", "narrow", "(I)V"⟩ ∈ gw := gw_in (List.mem_append_left _ (List.mem_of_getElem? (i := 6) (by decide +kernel))) rfl
theorem ws_7 : Cond.selects "EscalatedForms" ⟨"EscalatedForms", "barrierOf", "(LEscalatedForms$Form;I)I"⟩ ⟨"EscalatedForms", "barrierOf", "(LEscalatedForms$Form;I)I"⟩ ∈ gw := gw_in (List.mem_append_left _ (List.mem_of_getElem? (i := 7) (by decide +kernel))) rfl
theorem ws_8 : Cond.selects "EscalatedForms$Remainders" ⟨"EscalatedForms$Remainders", "foundBits", "(LEscalatedForms$Form;I)I"⟩ ⟨"EscalatedForms$Remainders", "foundBits", "(LEscalatedForms$Form;I)I"⟩ ∈ gw := gw_in (List.mem_append_left _ (List.mem_of_getElem? (i := 8) (by decide +kernel))) rfl
theorem ws_9 : Cond.selects "EscalatedForms$Remainders" ⟨"EscalatedForms$Remainders", "worthAhead", "(LEscalatedForms$Form;I)I"⟩ ⟨"EscalatedForms$Remainders", "worthAhead", "(LEscalatedForms$Form;I)I"⟩ ∈ gw := gw_in (List.mem_append_left _ (List.mem_of_getElem? (i := 9) (by decide +kernel))) rfl
theorem ws_10 : Cond.selects "EscalatedForms$Remainders" ⟨"EscalatedForms$Remainders", "slopeOf", "(LEscalatedForms$Form;I)I"⟩ ⟨"EscalatedForms$Remainders", "slopeOf", "(LEscalatedForms$Form;I)I"⟩ ∈ gw := gw_in (List.mem_append_left _ (List.mem_of_getElem? (i := 10) (by decide +kernel))) rfl
theorem ws_11 : Cond.selects "EscalatedForms$Remainders" ⟨"EscalatedForms$Remainders", "countOn", "(II)V"⟩ ⟨"EscalatedForms$Remainders", "countOn", "(II)V"⟩ ∈ gw := gw_in (List.mem_append_left _ (List.mem_of_getElem? (i := 11) (by decide +kernel))) rfl
theorem ws_12 : Cond.selects "EscalatedForms" ⟨"EscalatedForms", "refusalToGrow", "(LEscalatedForms$Form;)I"⟩ ⟨"EscalatedForms", "refusalToGrow", "(LEscalatedForms$Form;)I"⟩ ∈ gw := gw_in (List.mem_append_left _ (List.mem_of_getElem? (i := 12) (by decide +kernel))) rfl
theorem ws_13 : Cond.selects "EscalatedForms" ⟨"EscalatedForms", "broodOf", "(LEscalatedForms$Form;)LEscalatedForms$Brood;"⟩ ⟨"EscalatedForms", "broodOf", "(LEscalatedForms$Form;)LEscalatedForms$Brood;"⟩ ∈ gw := gw_in (List.mem_append_left _ (List.mem_of_getElem? (i := 13) (by decide +kernel))) rfl
theorem ws_14 : Cond.selects "EscalatedForms$Brood" ⟨"EscalatedForms$Brood", "add", "(I)V"⟩ ⟨"EscalatedForms$Brood", "add", "(I)V"⟩ ∈ gw := gw_in (List.mem_append_left _ (List.mem_of_getElem? (i := 14) (by decide +kernel))) rfl
theorem ws_15 : Cond.selects "EscalatedForms" ⟨"EscalatedForms", "greatestLackOfDraft", "()I"⟩ ⟨"EscalatedForms", "greatestLackOfDraft", "()I"⟩ ∈ gw := gw_in (List.mem_append_left _ (List.mem_of_getElem? (i := 15) (by decide +kernel))) rfl
theorem ws_16 : Cond.selects "EscalatedForms" ⟨"EscalatedForms", "claimsBelow", "(I)I"⟩ ⟨"EscalatedForms", "claimsBelow", "(I)I"⟩ ∈ gw := gw_in (List.mem_append_left _ (List.mem_of_getElem? (i := 16) (by decide +kernel))) rfl
theorem ws_17 : Cond.selects "EscalatedForms$Tree" ⟨"EscalatedForms$Tree", "firstUnder", "(II)I"⟩ ⟨"EscalatedForms$Tree", "firstUnder", "(II)I"⟩ ∈ gw := gw_in (List.mem_append_left _ (List.mem_of_getElem? (i := 17) (by decide +kernel))) rfl
theorem ws_18 : Cond.selects "EscalatedForms" ⟨"EscalatedForms", "heldSlots", "()I"⟩ ⟨"EscalatedForms", "heldSlots", "()I"⟩ ∈ gw := gw_in (List.mem_append_left _ (List.mem_of_getElem? (i := 18) (by decide +kernel))) rfl
theorem ws_19 : Cond.selects "EscalatedForms" ⟨"EscalatedForms", "presentSheets", "()I"⟩ ⟨"EscalatedForms", "presentSheets", "()I"⟩ ∈ gw := gw_in (List.mem_append_left _ (List.mem_of_getElem? (i := 19) (by decide +kernel))) rfl
theorem ws_20 : Cond.selects "EscalatedFormsModel" ⟨"EscalatedFormsModel", "clearAt", "(I)V"⟩ ⟨"EscalatedFormsModel", "clearAt", "(I)V"⟩ ∈ gw := gw_in (List.mem_append_left _ (List.mem_of_getElem? (i := 20) (by decide +kernel))) rfl
theorem ws_21 : Cond.selects "EscalatedFormsModel" ⟨"EscalatedFormsModel", "layEntry", "(IIII)V"⟩ ⟨"EscalatedFormsModel", "layEntry", "(IIII)V"⟩ ∈ gw := gw_in (List.mem_append_left _ (List.mem_of_getElem? (i := 21) (by decide +kernel))) rfl
theorem ws_22 : Cond.selects "EscalatedFormsModel" ⟨"EscalatedFormsModel", "comes", "(I)I"⟩ ⟨"EscalatedFormsModel", "comes", "(I)I"⟩ ∈ gw := gw_in (List.mem_append_left _ (List.mem_of_getElem? (i := 22) (by decide +kernel))) rfl
theorem ws_23 : Cond.selects "EscalatedFormsModel" ⟨"EscalatedFormsModel", "isLawful", "(I)Z"⟩ ⟨"EscalatedFormsModel", "isLawful", "(I)Z"⟩ ∈ gw := gw_in (List.mem_append_left _ (List.mem_of_getElem? (i := 23) (by decide +kernel))) rfl
theorem ws_24 : Cond.selects "EscalatedFormsModel" ⟨"EscalatedFormsModel", "detOf", "(III)J"⟩ ⟨"EscalatedFormsModel", "detOf", "(III)J"⟩ ∈ gw := gw_in (List.mem_append_left _ (List.mem_of_getElem? (i := 24) (by decide +kernel))) rfl
theorem ws_25 : Cond.selects "EscalatedFormsModel" ⟨"EscalatedFormsModel", "entryAt", "(III)I"⟩ ⟨"EscalatedFormsModel", "entryAt", "(III)I"⟩ ∈ gw := gw_in (List.mem_append_left _ (List.mem_of_getElem? (i := 25) (by decide +kernel))) rfl
theorem ws_26 : Cond.selects "EscalatedFormsModel" ⟨"EscalatedFormsModel", "clearBelow", "(IIJ)V"⟩ ⟨"EscalatedFormsModel", "clearBelow", "(IIJ)V"⟩ ∈ gw := gw_in (List.mem_append_left _ (List.mem_of_getElem? (i := 26) (by decide +kernel))) rfl
theorem ws_27 : Cond.selects "EscalatedFormsModel" ⟨"EscalatedFormsModel", "copyTo", "(II)V"⟩ ⟨"EscalatedFormsModel", "copyTo", "(II)V"⟩ ∈ gw := gw_in (List.mem_append_left _ (List.mem_of_getElem? (i := 27) (by decide +kernel))) rfl
theorem ws_28 : Cond.selects "EscalatedFormsModel" ⟨"EscalatedFormsModel", "hasForm", "(I)Z"⟩ ⟨"EscalatedFormsModel", "hasForm", "(I)Z"⟩ ∈ gw := gw_in (List.mem_append_left _ (List.mem_of_getElem? (i := 28) (by decide +kernel))) rfl
theorem ws_29 : Cond.selects "EscalatedFormsModel" ⟨"EscalatedFormsModel", "isLetter", "(II)Z"⟩ ⟨"EscalatedFormsModel", "isLetter", "(II)Z"⟩ ∈ gw := gw_in (List.mem_append_left _ (List.mem_of_getElem? (i := 29) (by decide +kernel))) rfl
theorem ws_30 : Cond.selects "EscalatedFormsModel" ⟨"EscalatedFormsModel", "changeAt", "(IIII)V"⟩ ⟨"EscalatedFormsModel", "changeAt", "(IIII)V"⟩ ∈ gw := gw_in (List.mem_append_left _ (List.mem_of_getElem? (i := 30) (by decide +kernel))) rfl
theorem ws_31 : Cond.selects "EscalatedFormsModel" ⟨"EscalatedFormsModel", "nextStep", "()I"⟩ ⟨"EscalatedFormsModel", "nextStep", "()I"⟩ ∈ gw := gw_in (List.mem_append_left _ (List.mem_of_getElem? (i := 31) (by decide +kernel))) rfl
theorem ws_32 : Cond.selects "EscalatedFormsModel" ⟨"EscalatedFormsModel", "layCounts", "(I)V"⟩ ⟨"EscalatedFormsModel", "layCounts", "(I)V"⟩ ∈ gw := gw_in (List.mem_append_left _ (List.mem_of_getElem? (i := 32) (by decide +kernel))) rfl
theorem ws_33 : Cond.selects "EscalatedFormsModel" ⟨"EscalatedFormsModel", "layLast", "(II)V"⟩ ⟨"EscalatedFormsModel", "layLast", "(II)V"⟩ ∈ gw := gw_in (List.mem_append_left _ (List.mem_of_getElem? (i := 33) (by decide +kernel))) rfl
theorem ws_34 : Cond.selects "EscalatedFormsModel" ⟨"EscalatedFormsModel", "seeAt", "(II)V"⟩ ⟨"EscalatedFormsModel", "seeAt", "(II)V"⟩ ∈ gw := gw_in (List.mem_append_left _ (List.mem_of_getElem? (i := 34) (by decide +kernel))) rfl
theorem ws_35 : Cond.selects "EscalatedFormsModel" ⟨"EscalatedFormsModel", "truantOf", "(I)I"⟩ ⟨"EscalatedFormsModel", "truantOf", "(I)I"⟩ ∈ gw := gw_in (List.mem_append_left _ (List.mem_of_getElem? (i := 35) (by decide +kernel))) rfl
theorem ws_36 : Cond.selects "EscalatedFormsModel" ⟨"EscalatedFormsModel", "layRests", "(I)V"⟩ ⟨"EscalatedFormsModel", "layRests", "(I)V"⟩ ∈ gw := gw_in (List.mem_append_left _ (List.mem_of_getElem? (i := 36) (by decide +kernel))) rfl
theorem ws_37 : Cond.selects "EscalatedFormsModel" ⟨"EscalatedFormsModel", "restsBy", "(II)I"⟩ ⟨"EscalatedFormsModel", "restsBy", "(II)I"⟩ ∈ gw := gw_in (List.mem_append_left _ (List.mem_of_getElem? (i := 37) (by decide +kernel))) rfl
theorem ws_38 : Cond.selects "EscalatedFormsModel" ⟨"EscalatedFormsModel", "barredBy", "(I)I"⟩ ⟨"EscalatedFormsModel", "barredBy", "(I)I"⟩ ∈ gw := gw_in (List.mem_append_left _ (List.mem_of_getElem? (i := 38) (by decide +kernel))) rfl
theorem ws_39 : Cond.selects "EscalatedFormsModel" ⟨"EscalatedFormsModel", "ruledAt", "(II)I"⟩ ⟨"EscalatedFormsModel", "ruledAt", "(II)I"⟩ ∈ gw := gw_in (List.mem_append_left _ (List.mem_of_getElem? (i := 39) (by decide +kernel))) rfl
theorem ws_40 : Cond.selects "EscalatedFormsModel" ⟨"EscalatedFormsModel", "lackMany", "(I)I"⟩ ⟨"EscalatedFormsModel", "lackMany", "(I)I"⟩ ∈ gw := gw_in (List.mem_append_left _ (List.mem_of_getElem? (i := 40) (by decide +kernel))) rfl
theorem ws_41 : Cond.selects "EscalatedFormsModel" ⟨"EscalatedFormsModel", "lowest", "(II)I"⟩ ⟨"EscalatedFormsModel", "lowest", "(II)I"⟩ ∈ gw := gw_in (List.mem_append_left _ (List.mem_of_getElem? (i := 41) (by decide +kernel))) rfl
theorem ws_42 : Cond.selects "EscalatedFormsModel" ⟨"EscalatedFormsModel", "beginChildren", "(I)I"⟩ ⟨"EscalatedFormsModel", "beginChildren", "(I)I"⟩ ∈ gw := gw_in (List.mem_append_left _ (List.mem_of_getElem? (i := 42) (by decide +kernel))) rfl
theorem ws_43 : Cond.selects "EscalatedFormsModel" ⟨"EscalatedFormsModel", "nextChild", "()Z"⟩ ⟨"EscalatedFormsModel", "nextChild", "()Z"⟩ ∈ gw := gw_in (List.mem_append_left _ (List.mem_of_getElem? (i := 43) (by decide +kernel))) rfl
theorem ws_44 : Cond.selects "EscalatedFormsModel" ⟨"EscalatedFormsModel", "nextRow", "()Z"⟩ ⟨"EscalatedFormsModel", "nextRow", "()Z"⟩ ∈ gw := gw_in (List.mem_append_left _ (List.mem_of_getElem? (i := 44) (by decide +kernel))) rfl
theorem ws_45 : Cond.selects "EscalatedFormsModel" ⟨"EscalatedFormsModel", "isChild", "(I)Z"⟩ ⟨"EscalatedFormsModel", "isChild", "(I)Z"⟩ ∈ gw := gw_in (List.mem_append_left _ (List.mem_of_getElem? (i := 45) (by decide +kernel))) rfl
theorem ws_46 : Cond.selects "EscalatedFormsModel" ⟨"EscalatedFormsModel", "greatestLack", "()I"⟩ ⟨"EscalatedFormsModel", "greatestLack", "()I"⟩ ∈ gw := gw_in (List.mem_append_left _ (List.mem_of_getElem? (i := 46) (by decide +kernel))) rfl
theorem ws_47 : Cond.selects "EscalatedFormsModel" ⟨"EscalatedFormsModel", "isNode", "(I)Z"⟩ ⟨"EscalatedFormsModel", "isNode", "(I)Z"⟩ ∈ gw := gw_in (List.mem_append_left _ (List.mem_of_getElem? (i := 47) (by decide +kernel))) rfl
theorem ws_48 : Cond.selects "EscalatedFormsModel" ⟨"EscalatedFormsModel", "layHeights", "()V"⟩ ⟨"EscalatedFormsModel", "layHeights", "()V"⟩ ∈ gw := gw_in (List.mem_append_left _ (List.mem_of_getElem? (i := 48) (by decide +kernel))) rfl
theorem ws_49 : Cond.selects "EscalatedFormsModel" ⟨"EscalatedFormsModel", "claimsBelow", "(I)I"⟩ ⟨"EscalatedFormsModel", "claimsBelow", "(I)I"⟩ ∈ gw := gw_in (List.mem_append_left _ (List.mem_of_getElem? (i := 49) (by decide +kernel))) rfl
theorem ws_50 : Cond.selects "EscalatedFormsModel" ⟨"EscalatedFormsModel", "isBelow", "(II)Z"⟩ ⟨"EscalatedFormsModel", "isBelow", "(II)Z"⟩ ∈ gw := gw_in (List.mem_append_left _ (List.mem_of_getElem? (i := 50) (by decide +kernel))) rfl
theorem ws_51 : Cond.selects "EscalatedFormsModel" ⟨"EscalatedFormsModel", "behind", "(I)I"⟩ ⟨"EscalatedFormsModel", "behind", "(I)I"⟩ ∈ gw := gw_in (List.mem_append_left _ (List.mem_of_getElem? (i := 51) (by decide +kernel))) rfl
theorem ws_52 : Cond.selects "EscalatedFormsModel" ⟨"EscalatedFormsModel", "firstUnder", "(II)I"⟩ ⟨"EscalatedFormsModel", "firstUnder", "(II)I"⟩ ∈ gw := gw_in (List.mem_append_left _ (List.mem_of_getElem? (i := 52) (by decide +kernel))) rfl
theorem ws_53 : Cond.selects "EscalatedFormsModel" ⟨"EscalatedFormsModel", "slotsHeld", "()I"⟩ ⟨"EscalatedFormsModel", "slotsHeld", "()I"⟩ ∈ gw := gw_in (List.mem_append_left _ (List.mem_of_getElem? (i := 53) (by decide +kernel))) rfl
end
