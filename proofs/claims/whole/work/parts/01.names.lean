-- ===== PART A: goes FIRST, ahead of the names: the tables' words, and 'selects' of the private methods out of them =====
/-- a private method of a class that the tables say can be made, by its rows of tables_1 -/
def lw_okq (q : MethodName × Nat) : Prop := (q.1.cls ≠ "java/lang/invoke/MethodHandle" ∧ q.1.cls ≠ "java/lang/invoke/VarHandle") ∧ Cond.instantiable q.1.cls q.2 ∈ tables_1 ∧ Cond.privateMethod q.1 ∈ tables_1 ∧ Cond.instanceMethod q.1 ∈ tables_1
theorem lw_p0 : lw_okq (⟨"SchoolPlay", "refuse", "(II)I"⟩, 10) := ⟨⟨by decide +kernel, by decide +kernel⟩, List.mem_of_getElem? (i := 18) (by decide +kernel), List.mem_of_getElem? (i := 409) (by decide +kernel), List.mem_of_getElem? (i := 410) (by decide +kernel)⟩
theorem lw_p1 : lw_okq (⟨"SchoolPlay$Reader", "step", "()V"⟩, 7) := ⟨⟨by decide +kernel, by decide +kernel⟩, List.mem_of_getElem? (i := 192) (by decide +kernel), List.mem_of_getElem? (i := 436) (by decide +kernel), List.mem_of_getElem? (i := 437) (by decide +kernel)⟩
theorem lw_p2 : lw_okq (⟨"SchoolPlay$Reader", "passLetters", "()V"⟩, 7) := ⟨⟨by decide +kernel, by decide +kernel⟩, List.mem_of_getElem? (i := 192) (by decide +kernel), List.mem_of_getElem? (i := 443) (by decide +kernel), List.mem_of_getElem? (i := 444) (by decide +kernel)⟩
theorem lw_p3 : lw_okq (⟨"SchoolPlay$Reader", "passFigures", "()V"⟩, 7) := ⟨⟨by decide +kernel, by decide +kernel⟩, List.mem_of_getElem? (i := 192) (by decide +kernel), List.mem_of_getElem? (i := 450) (by decide +kernel), List.mem_of_getElem? (i := 451) (by decide +kernel)⟩
theorem lw_p4 : lw_okq (⟨"SchoolPlay$Reader", "item", "()Z"⟩, 7) := ⟨⟨by decide +kernel, by decide +kernel⟩, List.mem_of_getElem? (i := 192) (by decide +kernel), List.mem_of_getElem? (i := 454) (by decide +kernel), List.mem_of_getElem? (i := 455) (by decide +kernel)⟩
theorem lw_p5 : lw_okq (⟨"SchoolPlay$Reader", "isWord", "(Ljava/lang/String;)Z"⟩, 7) := ⟨⟨by decide +kernel, by decide +kernel⟩, List.mem_of_getElem? (i := 192) (by decide +kernel), List.mem_of_getElem? (i := 459) (by decide +kernel), List.mem_of_getElem? (i := 460) (by decide +kernel)⟩
theorem lw_p6 : lw_okq (⟨"SchoolPlay$Reader", "partItem", "()Z"⟩, 7) := ⟨⟨by decide +kernel, by decide +kernel⟩, List.mem_of_getElem? (i := 192) (by decide +kernel), List.mem_of_getElem? (i := 511) (by decide +kernel), List.mem_of_getElem? (i := 512) (by decide +kernel)⟩
theorem lw_p7 : lw_okq (⟨"SchoolPlay$Reader", "number", "([IIII)Z"⟩, 7) := ⟨⟨by decide +kernel, by decide +kernel⟩, List.mem_of_getElem? (i := 192) (by decide +kernel), List.mem_of_getElem? (i := 515) (by decide +kernel), List.mem_of_getElem? (i := 516) (by decide +kernel)⟩
theorem lw_p8 : lw_okq (⟨"SchoolPlay$Reader", "isNumber", "(II)Z"⟩, 7) := ⟨⟨by decide +kernel, by decide +kernel⟩, List.mem_of_getElem? (i := 192) (by decide +kernel), List.mem_of_getElem? (i := 519) (by decide +kernel), List.mem_of_getElem? (i := 520) (by decide +kernel)⟩
theorem lw_p9 : lw_okq (⟨"SchoolPlay$Reader", "stop", "()Z"⟩, 7) := ⟨⟨by decide +kernel, by decide +kernel⟩, List.mem_of_getElem? (i := 192) (by decide +kernel), List.mem_of_getElem? (i := 523) (by decide +kernel), List.mem_of_getElem? (i := 524) (by decide +kernel)⟩
theorem lw_p10 : lw_okq (⟨"SchoolPlay$Reader", "childItem", "()Z"⟩, 7) := ⟨⟨by decide +kernel, by decide +kernel⟩, List.mem_of_getElem? (i := 192) (by decide +kernel), List.mem_of_getElem? (i := 528) (by decide +kernel), List.mem_of_getElem? (i := 529) (by decide +kernel)⟩
theorem lw_p11 : lw_okq (⟨"SchoolPlay$Reader", "sceneItem", "()Z"⟩, 7) := ⟨⟨by decide +kernel, by decide +kernel⟩, List.mem_of_getElem? (i := 192) (by decide +kernel), List.mem_of_getElem? (i := 533) (by decide +kernel), List.mem_of_getElem? (i := 534) (by decide +kernel)⟩
theorem lw_p12 : lw_okq (⟨"SchoolPlay$Reader", "wishItem", "()Z"⟩, 7) := ⟨⟨by decide +kernel, by decide +kernel⟩, List.mem_of_getElem? (i := 192) (by decide +kernel), List.mem_of_getElem? (i := 538) (by decide +kernel), List.mem_of_getElem? (i := 539) (by decide +kernel)⟩
theorem lw_p13 : lw_okq (⟨"SchoolPlay$CastSearch", "prepare", "(LSchoolPlay$State;II)V"⟩, 12) := ⟨⟨by decide +kernel, by decide +kernel⟩, List.mem_of_getElem? (i := 223) (by decide +kernel), List.mem_of_getElem? (i := 610) (by decide +kernel), List.mem_of_getElem? (i := 611) (by decide +kernel)⟩
theorem lw_p14 : lw_okq (⟨"SchoolPlay$CastSearch", "search", "()Z"⟩, 12) := ⟨⟨by decide +kernel, by decide +kernel⟩, List.mem_of_getElem? (i := 223) (by decide +kernel), List.mem_of_getElem? (i := 620) (by decide +kernel), List.mem_of_getElem? (i := 621) (by decide +kernel)⟩
theorem lw_p15 : lw_okq (⟨"SchoolPlay$CastSearch", "mostPoints", "(I)I"⟩, 12) := ⟨⟨by decide +kernel, by decide +kernel⟩, List.mem_of_getElem? (i := 223) (by decide +kernel), List.mem_of_getElem? (i := 624) (by decide +kernel), List.mem_of_getElem? (i := 625) (by decide +kernel)⟩
def lw_privs_1 : List (MethodName × Nat) := [(⟨"SchoolPlay", "refuse", "(II)I"⟩, 10), (⟨"SchoolPlay$Reader", "step", "()V"⟩, 7), (⟨"SchoolPlay$Reader", "passLetters", "()V"⟩, 7), (⟨"SchoolPlay$Reader", "passFigures", "()V"⟩, 7), (⟨"SchoolPlay$Reader", "item", "()Z"⟩, 7), (⟨"SchoolPlay$Reader", "isWord", "(Ljava/lang/String;)Z"⟩, 7), (⟨"SchoolPlay$Reader", "partItem", "()Z"⟩, 7), (⟨"SchoolPlay$Reader", "number", "([IIII)Z"⟩, 7), (⟨"SchoolPlay$Reader", "isNumber", "(II)Z"⟩, 7), (⟨"SchoolPlay$Reader", "stop", "()Z"⟩, 7), (⟨"SchoolPlay$Reader", "childItem", "()Z"⟩, 7), (⟨"SchoolPlay$Reader", "sceneItem", "()Z"⟩, 7), (⟨"SchoolPlay$Reader", "wishItem", "()Z"⟩, 7), (⟨"SchoolPlay$CastSearch", "prepare", "(LSchoolPlay$State;II)V"⟩, 12), (⟨"SchoolPlay$CastSearch", "search", "()Z"⟩, 12), (⟨"SchoolPlay$CastSearch", "mostPoints", "(I)I"⟩, 12)]
theorem lw_r1 : ∀ q ∈ lw_privs_1, lw_okq q := List.forall_mem_cons.mpr ⟨lw_p0, List.forall_mem_cons.mpr ⟨lw_p1, List.forall_mem_cons.mpr ⟨lw_p2, List.forall_mem_cons.mpr ⟨lw_p3, List.forall_mem_cons.mpr ⟨lw_p4, List.forall_mem_cons.mpr ⟨lw_p5, List.forall_mem_cons.mpr ⟨lw_p6, List.forall_mem_cons.mpr ⟨lw_p7, List.forall_mem_cons.mpr ⟨lw_p8, List.forall_mem_cons.mpr ⟨lw_p9, List.forall_mem_cons.mpr ⟨lw_p10, List.forall_mem_cons.mpr ⟨lw_p11, List.forall_mem_cons.mpr ⟨lw_p12, List.forall_mem_cons.mpr ⟨lw_p13, List.forall_mem_cons.mpr ⟨lw_p14, List.forall_mem_cons.mpr ⟨lw_p15, fun _ h => absurd h List.not_mem_nil⟩⟩⟩⟩⟩⟩⟩⟩⟩⟩⟩⟩⟩⟩⟩⟩
theorem lw_p16 : lw_okq (⟨"SchoolPlay$CastSearch", "castFrom", "(III)V"⟩, 12) := ⟨⟨by decide +kernel, by decide +kernel⟩, List.mem_of_getElem? (i := 223) (by decide +kernel), List.mem_of_getElem? (i := 628) (by decide +kernel), List.mem_of_getElem? (i := 629) (by decide +kernel)⟩
theorem lw_p17 : lw_okq (⟨"SchoolPlay$CastSearch", "keep", "(I)V"⟩, 12) := ⟨⟨by decide +kernel, by decide +kernel⟩, List.mem_of_getElem? (i := 223) (by decide +kernel), List.mem_of_getElem? (i := 632) (by decide +kernel), List.mem_of_getElem? (i := 633) (by decide +kernel)⟩
theorem lw_p18 : lw_okq (⟨"SchoolPlay$CastSearch", "playersFrom", "(II)I"⟩, 12) := ⟨⟨by decide +kernel, by decide +kernel⟩, List.mem_of_getElem? (i := 223) (by decide +kernel), List.mem_of_getElem? (i := 644) (by decide +kernel), List.mem_of_getElem? (i := 645) (by decide +kernel)⟩
theorem lw_p19 : lw_okq (⟨"SchoolPlay", "isChildOrNone", "(I)Z"⟩, 10) := ⟨⟨by decide +kernel, by decide +kernel⟩, List.mem_of_getElem? (i := 18) (by decide +kernel), List.mem_of_getElem? (i := 653) (by decide +kernel), List.mem_of_getElem? (i := 654) (by decide +kernel)⟩
theorem lw_p20 : lw_okq (⟨"SchoolPlay$PlanSearch", "prepare", "(LSchoolPlay$State;I)V"⟩, 13) := ⟨⟨by decide +kernel, by decide +kernel⟩, List.mem_of_getElem? (i := 271) (by decide +kernel), List.mem_of_getElem? (i := 739) (by decide +kernel), List.mem_of_getElem? (i := 740) (by decide +kernel)⟩
theorem lw_p21 : lw_okq (⟨"SchoolPlay$PlanSearch", "planFrom", "(II)V"⟩, 13) := ⟨⟨by decide +kernel, by decide +kernel⟩, List.mem_of_getElem? (i := 271) (by decide +kernel), List.mem_of_getElem? (i := 748) (by decide +kernel), List.mem_of_getElem? (i := 749) (by decide +kernel)⟩
theorem lw_p22 : lw_okq (⟨"SchoolPlay$PlanSearch", "leastKnown", "(I)I"⟩, 13) := ⟨⟨by decide +kernel, by decide +kernel⟩, List.mem_of_getElem? (i := 271) (by decide +kernel), List.mem_of_getElem? (i := 752) (by decide +kernel), List.mem_of_getElem? (i := 753) (by decide +kernel)⟩
theorem lw_p23 : lw_okq (⟨"SchoolPlay$PlanSearch", "compare", "(II)V"⟩, 13) := ⟨⟨by decide +kernel, by decide +kernel⟩, List.mem_of_getElem? (i := 271) (by decide +kernel), List.mem_of_getElem? (i := 756) (by decide +kernel), List.mem_of_getElem? (i := 757) (by decide +kernel)⟩
theorem lw_p24 : lw_okq (⟨"SchoolPlay$Chances", "waysOf", "(I)J"⟩, 6) := ⟨⟨by decide +kernel, by decide +kernel⟩, List.mem_of_getElem? (i := 321) (by decide +kernel), List.mem_of_getElem? (i := 776) (by decide +kernel), List.mem_of_getElem? (i := 777) (by decide +kernel)⟩
theorem lw_p25 : lw_okq (⟨"SchoolPlay$Chances", "isWell", "(II)Z"⟩, 6) := ⟨⟨by decide +kernel, by decide +kernel⟩, List.mem_of_getElem? (i := 321) (by decide +kernel), List.mem_of_getElem? (i := 780) (by decide +kernel), List.mem_of_getElem? (i := 781) (by decide +kernel)⟩
theorem lw_p26 : lw_okq (⟨"SchoolPlay$Chances", "goes", "(I)Z"⟩, 6) := ⟨⟨by decide +kernel, by decide +kernel⟩, List.mem_of_getElem? (i := 321) (by decide +kernel), List.mem_of_getElem? (i := 789) (by decide +kernel), List.mem_of_getElem? (i := 790) (by decide +kernel)⟩
theorem lw_p27 : lw_okq (⟨"SchoolPlay$Chances", "waysWith", "(II)J"⟩, 6) := ⟨⟨by decide +kernel, by decide +kernel⟩, List.mem_of_getElem? (i := 321) (by decide +kernel), List.mem_of_getElem? (i := 816) (by decide +kernel), List.mem_of_getElem? (i := 817) (by decide +kernel)⟩
theorem lw_p28 : lw_okq (⟨"SchoolPlay$Chances", "hoursOf", "(II)I"⟩, 6) := ⟨⟨by decide +kernel, by decide +kernel⟩, List.mem_of_getElem? (i := 321) (by decide +kernel), List.mem_of_getElem? (i := 821) (by decide +kernel), List.mem_of_getElem? (i := 822) (by decide +kernel)⟩
theorem lw_p29 : lw_okq (⟨"SchoolPlay$LotDraw", "tellTruth", "()V"⟩, 5) := ⟨⟨by decide +kernel, by decide +kernel⟩, List.mem_of_getElem? (i := 349) (by decide +kernel), List.mem_of_getElem? (i := 850) (by decide +kernel), List.mem_of_getElem? (i := 851) (by decide +kernel)⟩
theorem lw_p30 : lw_okq (⟨"SchoolPlay$LotDraw", "offer", "(II)V"⟩, 5) := ⟨⟨by decide +kernel, by decide +kernel⟩, List.mem_of_getElem? (i := 349) (by decide +kernel), List.mem_of_getElem? (i := 858) (by decide +kernel), List.mem_of_getElem? (i := 859) (by decide +kernel)⟩
theorem lw_p31 : lw_okq (⟨"SchoolPlay$LotDraw", "gainsByAnother", "(II)Z"⟩, 5) := ⟨⟨by decide +kernel, by decide +kernel⟩, List.mem_of_getElem? (i := 349) (by decide +kernel), List.mem_of_getElem? (i := 874) (by decide +kernel), List.mem_of_getElem? (i := 875) (by decide +kernel)⟩
def lw_privs_2 : List (MethodName × Nat) := [(⟨"SchoolPlay$CastSearch", "castFrom", "(III)V"⟩, 12), (⟨"SchoolPlay$CastSearch", "keep", "(I)V"⟩, 12), (⟨"SchoolPlay$CastSearch", "playersFrom", "(II)I"⟩, 12), (⟨"SchoolPlay", "isChildOrNone", "(I)Z"⟩, 10), (⟨"SchoolPlay$PlanSearch", "prepare", "(LSchoolPlay$State;I)V"⟩, 13), (⟨"SchoolPlay$PlanSearch", "planFrom", "(II)V"⟩, 13), (⟨"SchoolPlay$PlanSearch", "leastKnown", "(I)I"⟩, 13), (⟨"SchoolPlay$PlanSearch", "compare", "(II)V"⟩, 13), (⟨"SchoolPlay$Chances", "waysOf", "(I)J"⟩, 6), (⟨"SchoolPlay$Chances", "isWell", "(II)Z"⟩, 6), (⟨"SchoolPlay$Chances", "goes", "(I)Z"⟩, 6), (⟨"SchoolPlay$Chances", "waysWith", "(II)J"⟩, 6), (⟨"SchoolPlay$Chances", "hoursOf", "(II)I"⟩, 6), (⟨"SchoolPlay$LotDraw", "tellTruth", "()V"⟩, 5), (⟨"SchoolPlay$LotDraw", "offer", "(II)V"⟩, 5), (⟨"SchoolPlay$LotDraw", "gainsByAnother", "(II)Z"⟩, 5)]
theorem lw_r2 : ∀ q ∈ lw_privs_2, lw_okq q := List.forall_mem_cons.mpr ⟨lw_p16, List.forall_mem_cons.mpr ⟨lw_p17, List.forall_mem_cons.mpr ⟨lw_p18, List.forall_mem_cons.mpr ⟨lw_p19, List.forall_mem_cons.mpr ⟨lw_p20, List.forall_mem_cons.mpr ⟨lw_p21, List.forall_mem_cons.mpr ⟨lw_p22, List.forall_mem_cons.mpr ⟨lw_p23, List.forall_mem_cons.mpr ⟨lw_p24, List.forall_mem_cons.mpr ⟨lw_p25, List.forall_mem_cons.mpr ⟨lw_p26, List.forall_mem_cons.mpr ⟨lw_p27, List.forall_mem_cons.mpr ⟨lw_p28, List.forall_mem_cons.mpr ⟨lw_p29, List.forall_mem_cons.mpr ⟨lw_p30, List.forall_mem_cons.mpr ⟨lw_p31, fun _ h => absurd h List.not_mem_nil⟩⟩⟩⟩⟩⟩⟩⟩⟩⟩⟩⟩⟩⟩⟩⟩
theorem lw_p32 : lw_okq (⟨"SchoolPlay$LotDraw", "tellOnly", "(II)V"⟩, 5) := ⟨⟨by decide +kernel, by decide +kernel⟩, List.mem_of_getElem? (i := 349) (by decide +kernel), List.mem_of_getElem? (i := 878) (by decide +kernel), List.mem_of_getElem? (i := 879) (by decide +kernel)⟩
theorem lw_p33 : lw_okq (⟨"SchoolPlay$Fraction", "side", "(I)J"⟩, 2) := ⟨⟨by decide +kernel, by decide +kernel⟩, List.mem_of_getElem? (i := 177) (by decide +kernel), List.mem_of_getElem? (i := 914) (by decide +kernel), List.mem_of_getElem? (i := 915) (by decide +kernel)⟩
theorem lw_p34 : lw_okq (⟨"SchoolPlayModel", "clearDraft", "()V"⟩, 22) := ⟨⟨by decide +kernel, by decide +kernel⟩, List.mem_of_getElem? (i := 973) (by decide +kernel), List.mem_of_getElem? (i := 979) (by decide +kernel), List.mem_of_getElem? (i := 980) (by decide +kernel)⟩
theorem lw_p35 : lw_okq (⟨"SchoolPlayModel", "keepDraft", "()V"⟩, 22) := ⟨⟨by decide +kernel, by decide +kernel⟩, List.mem_of_getElem? (i := 973) (by decide +kernel), List.mem_of_getElem? (i := 990) (by decide +kernel), List.mem_of_getElem? (i := 991) (by decide +kernel)⟩
theorem lw_p36 : lw_okq (⟨"SchoolPlayModel", "bad", "()I"⟩, 22) := ⟨⟨by decide +kernel, by decide +kernel⟩, List.mem_of_getElem? (i := 973) (by decide +kernel), List.mem_of_getElem? (i := 1066) (by decide +kernel), List.mem_of_getElem? (i := 1067) (by decide +kernel)⟩
theorem lw_p37 : lw_okq (⟨"SchoolPlayModel", "refuse", "(II)I"⟩, 22) := ⟨⟨by decide +kernel, by decide +kernel⟩, List.mem_of_getElem? (i := 973) (by decide +kernel), List.mem_of_getElem? (i := 1070) (by decide +kernel), List.mem_of_getElem? (i := 1071) (by decide +kernel)⟩
theorem lw_p38 : lw_okq (⟨"SchoolPlayModel", "token", "()V"⟩, 22) := ⟨⟨by decide +kernel, by decide +kernel⟩, List.mem_of_getElem? (i := 973) (by decide +kernel), List.mem_of_getElem? (i := 1083) (by decide +kernel), List.mem_of_getElem? (i := 1084) (by decide +kernel)⟩
theorem lw_p39 : lw_okq (⟨"SchoolPlayModel", "look", "(I)I"⟩, 22) := ⟨⟨by decide +kernel, by decide +kernel⟩, List.mem_of_getElem? (i := 973) (by decide +kernel), List.mem_of_getElem? (i := 1087) (by decide +kernel), List.mem_of_getElem? (i := 1088) (by decide +kernel)⟩
theorem lw_p40 : lw_okq (⟨"SchoolPlayModel", "isGood", "()Z"⟩, 22) := ⟨⟨by decide +kernel, by decide +kernel⟩, List.mem_of_getElem? (i := 973) (by decide +kernel), List.mem_of_getElem? (i := 1095) (by decide +kernel), List.mem_of_getElem? (i := 1096) (by decide +kernel)⟩
theorem lw_p41 : lw_okq (⟨"SchoolPlayModel", "readItem", "()V"⟩, 22) := ⟨⟨by decide +kernel, by decide +kernel⟩, List.mem_of_getElem? (i := 973) (by decide +kernel), List.mem_of_getElem? (i := 1099) (by decide +kernel), List.mem_of_getElem? (i := 1100) (by decide +kernel)⟩
theorem lw_p42 : lw_okq (⟨"SchoolPlayModel", "is", "(IIIII)Z"⟩, 22) := ⟨⟨by decide +kernel, by decide +kernel⟩, List.mem_of_getElem? (i := 973) (by decide +kernel), List.mem_of_getElem? (i := 1103) (by decide +kernel), List.mem_of_getElem? (i := 1104) (by decide +kernel)⟩
theorem lw_p43 : lw_okq (⟨"SchoolPlayModel", "readPart", "()V"⟩, 22) := ⟨⟨by decide +kernel, by decide +kernel⟩, List.mem_of_getElem? (i := 973) (by decide +kernel), List.mem_of_getElem? (i := 1107) (by decide +kernel), List.mem_of_getElem? (i := 1108) (by decide +kernel)⟩
theorem lw_p44 : lw_okq (⟨"SchoolPlayModel", "needs", "(Z)V"⟩, 22) := ⟨⟨by decide +kernel, by decide +kernel⟩, List.mem_of_getElem? (i := 973) (by decide +kernel), List.mem_of_getElem? (i := 1111) (by decide +kernel), List.mem_of_getElem? (i := 1112) (by decide +kernel)⟩
theorem lw_p45 : lw_okq (⟨"SchoolPlayModel", "readNumber", "(II)I"⟩, 22) := ⟨⟨by decide +kernel, by decide +kernel⟩, List.mem_of_getElem? (i := 973) (by decide +kernel), List.mem_of_getElem? (i := 1115) (by decide +kernel), List.mem_of_getElem? (i := 1116) (by decide +kernel)⟩
theorem lw_p46 : lw_okq (⟨"SchoolPlayModel", "readChild", "()V"⟩, 22) := ⟨⟨by decide +kernel, by decide +kernel⟩, List.mem_of_getElem? (i := 973) (by decide +kernel), List.mem_of_getElem? (i := 1119) (by decide +kernel), List.mem_of_getElem? (i := 1120) (by decide +kernel)⟩
theorem lw_p47 : lw_okq (⟨"SchoolPlayModel", "readScene", "()V"⟩, 22) := ⟨⟨by decide +kernel, by decide +kernel⟩, List.mem_of_getElem? (i := 973) (by decide +kernel), List.mem_of_getElem? (i := 1123) (by decide +kernel), List.mem_of_getElem? (i := 1124) (by decide +kernel)⟩
def lw_privs_3 : List (MethodName × Nat) := [(⟨"SchoolPlay$LotDraw", "tellOnly", "(II)V"⟩, 5), (⟨"SchoolPlay$Fraction", "side", "(I)J"⟩, 2), (⟨"SchoolPlayModel", "clearDraft", "()V"⟩, 22), (⟨"SchoolPlayModel", "keepDraft", "()V"⟩, 22), (⟨"SchoolPlayModel", "bad", "()I"⟩, 22), (⟨"SchoolPlayModel", "refuse", "(II)I"⟩, 22), (⟨"SchoolPlayModel", "token", "()V"⟩, 22), (⟨"SchoolPlayModel", "look", "(I)I"⟩, 22), (⟨"SchoolPlayModel", "isGood", "()Z"⟩, 22), (⟨"SchoolPlayModel", "readItem", "()V"⟩, 22), (⟨"SchoolPlayModel", "is", "(IIIII)Z"⟩, 22), (⟨"SchoolPlayModel", "readPart", "()V"⟩, 22), (⟨"SchoolPlayModel", "needs", "(Z)V"⟩, 22), (⟨"SchoolPlayModel", "readNumber", "(II)I"⟩, 22), (⟨"SchoolPlayModel", "readChild", "()V"⟩, 22), (⟨"SchoolPlayModel", "readScene", "()V"⟩, 22)]
theorem lw_r3 : ∀ q ∈ lw_privs_3, lw_okq q := List.forall_mem_cons.mpr ⟨lw_p32, List.forall_mem_cons.mpr ⟨lw_p33, List.forall_mem_cons.mpr ⟨lw_p34, List.forall_mem_cons.mpr ⟨lw_p35, List.forall_mem_cons.mpr ⟨lw_p36, List.forall_mem_cons.mpr ⟨lw_p37, List.forall_mem_cons.mpr ⟨lw_p38, List.forall_mem_cons.mpr ⟨lw_p39, List.forall_mem_cons.mpr ⟨lw_p40, List.forall_mem_cons.mpr ⟨lw_p41, List.forall_mem_cons.mpr ⟨lw_p42, List.forall_mem_cons.mpr ⟨lw_p43, List.forall_mem_cons.mpr ⟨lw_p44, List.forall_mem_cons.mpr ⟨lw_p45, List.forall_mem_cons.mpr ⟨lw_p46, List.forall_mem_cons.mpr ⟨lw_p47, fun _ h => absurd h List.not_mem_nil⟩⟩⟩⟩⟩⟩⟩⟩⟩⟩⟩⟩⟩⟩⟩⟩
theorem lw_p48 : lw_okq (⟨"SchoolPlayModel", "readWish", "()V"⟩, 22) := ⟨⟨by decide +kernel, by decide +kernel⟩, List.mem_of_getElem? (i := 973) (by decide +kernel), List.mem_of_getElem? (i := 1127) (by decide +kernel), List.mem_of_getElem? (i := 1128) (by decide +kernel)⟩
theorem lw_p49 : lw_okq (⟨"SchoolPlayModel", "isChild", "(I)Z"⟩, 22) := ⟨⟨by decide +kernel, by decide +kernel⟩, List.mem_of_getElem? (i := 973) (by decide +kernel), List.mem_of_getElem? (i := 1140) (by decide +kernel), List.mem_of_getElem? (i := 1141) (by decide +kernel)⟩
theorem lw_p50 : lw_okq (⟨"SchoolPlayModel", "isPart", "(I)Z"⟩, 22) := ⟨⟨by decide +kernel, by decide +kernel⟩, List.mem_of_getElem? (i := 973) (by decide +kernel), List.mem_of_getElem? (i := 1144) (by decide +kernel), List.mem_of_getElem? (i := 1145) (by decide +kernel)⟩
theorem lw_p51 : lw_okq (⟨"SchoolPlayModel", "fitOf", "(II)I"⟩, 22) := ⟨⟨by decide +kernel, by decide +kernel⟩, List.mem_of_getElem? (i := 973) (by decide +kernel), List.mem_of_getElem? (i := 1148) (by decide +kernel), List.mem_of_getElem? (i := 1149) (by decide +kernel)⟩
theorem lw_p52 : lw_okq (⟨"SchoolPlayModel", "of", "(II)I"⟩, 22) := ⟨⟨by decide +kernel, by decide +kernel⟩, List.mem_of_getElem? (i := 973) (by decide +kernel), List.mem_of_getElem? (i := 1152) (by decide +kernel), List.mem_of_getElem? (i := 1153) (by decide +kernel)⟩
theorem lw_p53 : lw_okq (⟨"SchoolPlayModel", "rank", "(II)I"⟩, 22) := ⟨⟨by decide +kernel, by decide +kernel⟩, List.mem_of_getElem? (i := 973) (by decide +kernel), List.mem_of_getElem? (i := 1156) (by decide +kernel), List.mem_of_getElem? (i := 1157) (by decide +kernel)⟩
theorem lw_p54 : lw_okq (⟨"SchoolPlayModel", "clashes", "(II)Z"⟩, 22) := ⟨⟨by decide +kernel, by decide +kernel⟩, List.mem_of_getElem? (i := 973) (by decide +kernel), List.mem_of_getElem? (i := 1164) (by decide +kernel), List.mem_of_getElem? (i := 1165) (by decide +kernel)⟩
theorem lw_p55 : lw_okq (⟨"SchoolPlayModel", "isIn", "(II)Z"⟩, 22) := ⟨⟨by decide +kernel, by decide +kernel⟩, List.mem_of_getElem? (i := 973) (by decide +kernel), List.mem_of_getElem? (i := 1168) (by decide +kernel), List.mem_of_getElem? (i := 1169) (by decide +kernel)⟩
theorem lw_p56 : lw_okq (⟨"SchoolPlayModel", "findBest", "()V"⟩, 22) := ⟨⟨by decide +kernel, by decide +kernel⟩, List.mem_of_getElem? (i := 973) (by decide +kernel), List.mem_of_getElem? (i := 1179) (by decide +kernel), List.mem_of_getElem? (i := 1180) (by decide +kernel)⟩
theorem lw_p57 : lw_okq (⟨"SchoolPlayModel", "layClashes", "()V"⟩, 22) := ⟨⟨by decide +kernel, by decide +kernel⟩, List.mem_of_getElem? (i := 973) (by decide +kernel), List.mem_of_getElem? (i := 1183) (by decide +kernel), List.mem_of_getElem? (i := 1184) (by decide +kernel)⟩
theorem lw_p58 : lw_okq (⟨"SchoolPlayModel", "rows", "(I)I"⟩, 22) := ⟨⟨by decide +kernel, by decide +kernel⟩, List.mem_of_getElem? (i := 973) (by decide +kernel), List.mem_of_getElem? (i := 1187) (by decide +kernel), List.mem_of_getElem? (i := 1188) (by decide +kernel)⟩
theorem lw_p59 : lw_okq (⟨"SchoolPlayModel", "lays", "(II)Z"⟩, 22) := ⟨⟨by decide +kernel, by decide +kernel⟩, List.mem_of_getElem? (i := 973) (by decide +kernel), List.mem_of_getElem? (i := 1191) (by decide +kernel), List.mem_of_getElem? (i := 1192) (by decide +kernel)⟩
theorem lw_p60 : lw_okq (⟨"SchoolPlayModel", "players", "()I"⟩, 22) := ⟨⟨by decide +kernel, by decide +kernel⟩, List.mem_of_getElem? (i := 973) (by decide +kernel), List.mem_of_getElem? (i := 1195) (by decide +kernel), List.mem_of_getElem? (i := 1196) (by decide +kernel)⟩
theorem lw_p61 : lw_okq (⟨"SchoolPlayModel", "rowFit", "()I"⟩, 22) := ⟨⟨by decide +kernel, by decide +kernel⟩, List.mem_of_getElem? (i := 973) (by decide +kernel), List.mem_of_getElem? (i := 1199) (by decide +kernel), List.mem_of_getElem? (i := 1200) (by decide +kernel)⟩
theorem lw_p62 : lw_okq (⟨"SchoolPlayModel", "takes", "(II)V"⟩, 22) := ⟨⟨by decide +kernel, by decide +kernel⟩, List.mem_of_getElem? (i := 973) (by decide +kernel), List.mem_of_getElem? (i := 1203) (by decide +kernel), List.mem_of_getElem? (i := 1204) (by decide +kernel)⟩
theorem lw_p63 : lw_okq (⟨"SchoolPlayModel", "isOrNone", "(I)Z"⟩, 22) := ⟨⟨by decide +kernel, by decide +kernel⟩, List.mem_of_getElem? (i := 973) (by decide +kernel), List.mem_of_getElem? (i := 1215) (by decide +kernel), List.mem_of_getElem? (i := 1216) (by decide +kernel)⟩
def lw_privs_4 : List (MethodName × Nat) := [(⟨"SchoolPlayModel", "readWish", "()V"⟩, 22), (⟨"SchoolPlayModel", "isChild", "(I)Z"⟩, 22), (⟨"SchoolPlayModel", "isPart", "(I)Z"⟩, 22), (⟨"SchoolPlayModel", "fitOf", "(II)I"⟩, 22), (⟨"SchoolPlayModel", "of", "(II)I"⟩, 22), (⟨"SchoolPlayModel", "rank", "(II)I"⟩, 22), (⟨"SchoolPlayModel", "clashes", "(II)Z"⟩, 22), (⟨"SchoolPlayModel", "isIn", "(II)Z"⟩, 22), (⟨"SchoolPlayModel", "findBest", "()V"⟩, 22), (⟨"SchoolPlayModel", "layClashes", "()V"⟩, 22), (⟨"SchoolPlayModel", "rows", "(I)I"⟩, 22), (⟨"SchoolPlayModel", "lays", "(II)Z"⟩, 22), (⟨"SchoolPlayModel", "players", "()I"⟩, 22), (⟨"SchoolPlayModel", "rowFit", "()I"⟩, 22), (⟨"SchoolPlayModel", "takes", "(II)V"⟩, 22), (⟨"SchoolPlayModel", "isOrNone", "(I)Z"⟩, 22)]
theorem lw_r4 : ∀ q ∈ lw_privs_4, lw_okq q := List.forall_mem_cons.mpr ⟨lw_p48, List.forall_mem_cons.mpr ⟨lw_p49, List.forall_mem_cons.mpr ⟨lw_p50, List.forall_mem_cons.mpr ⟨lw_p51, List.forall_mem_cons.mpr ⟨lw_p52, List.forall_mem_cons.mpr ⟨lw_p53, List.forall_mem_cons.mpr ⟨lw_p54, List.forall_mem_cons.mpr ⟨lw_p55, List.forall_mem_cons.mpr ⟨lw_p56, List.forall_mem_cons.mpr ⟨lw_p57, List.forall_mem_cons.mpr ⟨lw_p58, List.forall_mem_cons.mpr ⟨lw_p59, List.forall_mem_cons.mpr ⟨lw_p60, List.forall_mem_cons.mpr ⟨lw_p61, List.forall_mem_cons.mpr ⟨lw_p62, List.forall_mem_cons.mpr ⟨lw_p63, fun _ h => absurd h List.not_mem_nil⟩⟩⟩⟩⟩⟩⟩⟩⟩⟩⟩⟩⟩⟩⟩⟩
theorem lw_p64 : lw_okq (⟨"SchoolPlayModel", "isScene", "(I)Z"⟩, 22) := ⟨⟨by decide +kernel, by decide +kernel⟩, List.mem_of_getElem? (i := 973) (by decide +kernel), List.mem_of_getElem? (i := 1227) (by decide +kernel), List.mem_of_getElem? (i := 1228) (by decide +kernel)⟩
theorem lw_p65 : lw_okq (⟨"SchoolPlayModel", "takesKnown", "()V"⟩, 22) := ⟨⟨by decide +kernel, by decide +kernel⟩, List.mem_of_getElem? (i := 973) (by decide +kernel), List.mem_of_getElem? (i := 1232) (by decide +kernel), List.mem_of_getElem? (i := 1233) (by decide +kernel)⟩
theorem lw_p66 : lw_okq (⟨"SchoolPlayModel", "goesThrough", "(II)V"⟩, 22) := ⟨⟨by decide +kernel, by decide +kernel⟩, List.mem_of_getElem? (i := 973) (by decide +kernel), List.mem_of_getElem? (i := 1236) (by decide +kernel), List.mem_of_getElem? (i := 1237) (by decide +kernel)⟩
theorem lw_p67 : lw_okq (⟨"SchoolPlayModel", "lines", "(I)I"⟩, 22) := ⟨⟨by decide +kernel, by decide +kernel⟩, List.mem_of_getElem? (i := 973) (by decide +kernel), List.mem_of_getElem? (i := 1240) (by decide +kernel), List.mem_of_getElem? (i := 1241) (by decide +kernel)⟩
theorem lw_p68 : lw_okq (⟨"SchoolPlayModel", "sits", "(II)Z"⟩, 22) := ⟨⟨by decide +kernel, by decide +kernel⟩, List.mem_of_getElem? (i := 973) (by decide +kernel), List.mem_of_getElem? (i := 1244) (by decide +kernel), List.mem_of_getElem? (i := 1245) (by decide +kernel)⟩
theorem lw_p69 : lw_okq (⟨"SchoolPlayModel", "has", "(II)Z"⟩, 22) := ⟨⟨by decide +kernel, by decide +kernel⟩, List.mem_of_getElem? (i := 973) (by decide +kernel), List.mem_of_getElem? (i := 1248) (by decide +kernel), List.mem_of_getElem? (i := 1249) (by decide +kernel)⟩
theorem lw_p70 : lw_okq (⟨"SchoolPlayModel", "putsKnown", "()V"⟩, 22) := ⟨⟨by decide +kernel, by decide +kernel⟩, List.mem_of_getElem? (i := 973) (by decide +kernel), List.mem_of_getElem? (i := 1252) (by decide +kernel), List.mem_of_getElem? (i := 1253) (by decide +kernel)⟩
theorem lw_p71 : lw_okq (⟨"SchoolPlayModel", "aNight", "()V"⟩, 22) := ⟨⟨by decide +kernel, by decide +kernel⟩, List.mem_of_getElem? (i := 973) (by decide +kernel), List.mem_of_getElem? (i := 1260) (by decide +kernel), List.mem_of_getElem? (i := 1261) (by decide +kernel)⟩
theorem lw_p72 : lw_okq (⟨"SchoolPlayModel", "allSlips", "(I)I"⟩, 22) := ⟨⟨by decide +kernel, by decide +kernel⟩, List.mem_of_getElem? (i := 973) (by decide +kernel), List.mem_of_getElem? (i := 1276) (by decide +kernel), List.mem_of_getElem? (i := 1277) (by decide +kernel)⟩
theorem lw_p73 : lw_okq (⟨"SchoolPlayModel", "slipsOf", "(II)I"⟩, 22) := ⟨⟨by decide +kernel, by decide +kernel⟩, List.mem_of_getElem? (i := 973) (by decide +kernel), List.mem_of_getElem? (i := 1280) (by decide +kernel), List.mem_of_getElem? (i := 1281) (by decide +kernel)⟩
theorem lw_p74 : lw_okq (⟨"SchoolPlayModel", "minutesOf", "(I)I"⟩, 22) := ⟨⟨by decide +kernel, by decide +kernel⟩, List.mem_of_getElem? (i := 973) (by decide +kernel), List.mem_of_getElem? (i := 1284) (by decide +kernel), List.mem_of_getElem? (i := 1285) (by decide +kernel)⟩
theorem lw_p75 : lw_okq (⟨"SchoolPlayModel", "leastKnown", "()I"⟩, 22) := ⟨⟨by decide +kernel, by decide +kernel⟩, List.mem_of_getElem? (i := 973) (by decide +kernel), List.mem_of_getElem? (i := 1298) (by decide +kernel), List.mem_of_getElem? (i := 1299) (by decide +kernel)⟩
theorem lw_p76 : lw_okq (⟨"SchoolPlayModel", "oddsOf", "()J"⟩, 22) := ⟨⟨by decide +kernel, by decide +kernel⟩, List.mem_of_getElem? (i := 973) (by decide +kernel), List.mem_of_getElem? (i := 1310) (by decide +kernel), List.mem_of_getElem? (i := 1311) (by decide +kernel)⟩
theorem lw_p77 : lw_okq (⟨"SchoolPlayModel", "goes", "(I)Z"⟩, 22) := ⟨⟨by decide +kernel, by decide +kernel⟩, List.mem_of_getElem? (i := 973) (by decide +kernel), List.mem_of_getElem? (i := 1314) (by decide +kernel), List.mem_of_getElem? (i := 1315) (by decide +kernel)⟩
theorem lw_p78 : lw_okq (⟨"SchoolPlayModel", "whole", "()J"⟩, 22) := ⟨⟨by decide +kernel, by decide +kernel⟩, List.mem_of_getElem? (i := 973) (by decide +kernel), List.mem_of_getElem? (i := 1321) (by decide +kernel), List.mem_of_getElem? (i := 1322) (by decide +kernel)⟩
theorem lw_p79 : lw_okq (⟨"SchoolPlayModel", "tell", "(JJ)I"⟩, 22) := ⟨⟨by decide +kernel, by decide +kernel⟩, List.mem_of_getElem? (i := 973) (by decide +kernel), List.mem_of_getElem? (i := 1326) (by decide +kernel), List.mem_of_getElem? (i := 1327) (by decide +kernel)⟩
def lw_privs_5 : List (MethodName × Nat) := [(⟨"SchoolPlayModel", "isScene", "(I)Z"⟩, 22), (⟨"SchoolPlayModel", "takesKnown", "()V"⟩, 22), (⟨"SchoolPlayModel", "goesThrough", "(II)V"⟩, 22), (⟨"SchoolPlayModel", "lines", "(I)I"⟩, 22), (⟨"SchoolPlayModel", "sits", "(II)Z"⟩, 22), (⟨"SchoolPlayModel", "has", "(II)Z"⟩, 22), (⟨"SchoolPlayModel", "putsKnown", "()V"⟩, 22), (⟨"SchoolPlayModel", "aNight", "()V"⟩, 22), (⟨"SchoolPlayModel", "allSlips", "(I)I"⟩, 22), (⟨"SchoolPlayModel", "slipsOf", "(II)I"⟩, 22), (⟨"SchoolPlayModel", "minutesOf", "(I)I"⟩, 22), (⟨"SchoolPlayModel", "leastKnown", "()I"⟩, 22), (⟨"SchoolPlayModel", "oddsOf", "()J"⟩, 22), (⟨"SchoolPlayModel", "goes", "(I)Z"⟩, 22), (⟨"SchoolPlayModel", "whole", "()J"⟩, 22), (⟨"SchoolPlayModel", "tell", "(JJ)I"⟩, 22)]
theorem lw_r5 : ∀ q ∈ lw_privs_5, lw_okq q := List.forall_mem_cons.mpr ⟨lw_p64, List.forall_mem_cons.mpr ⟨lw_p65, List.forall_mem_cons.mpr ⟨lw_p66, List.forall_mem_cons.mpr ⟨lw_p67, List.forall_mem_cons.mpr ⟨lw_p68, List.forall_mem_cons.mpr ⟨lw_p69, List.forall_mem_cons.mpr ⟨lw_p70, List.forall_mem_cons.mpr ⟨lw_p71, List.forall_mem_cons.mpr ⟨lw_p72, List.forall_mem_cons.mpr ⟨lw_p73, List.forall_mem_cons.mpr ⟨lw_p74, List.forall_mem_cons.mpr ⟨lw_p75, List.forall_mem_cons.mpr ⟨lw_p76, List.forall_mem_cons.mpr ⟨lw_p77, List.forall_mem_cons.mpr ⟨lw_p78, List.forall_mem_cons.mpr ⟨lw_p79, fun _ h => absurd h List.not_mem_nil⟩⟩⟩⟩⟩⟩⟩⟩⟩⟩⟩⟩⟩⟩⟩⟩
theorem lw_p80 : lw_okq (⟨"SchoolPlayModel", "hours", "(II)I"⟩, 22) := ⟨⟨by decide +kernel, by decide +kernel⟩, List.mem_of_getElem? (i := 973) (by decide +kernel), List.mem_of_getElem? (i := 1334) (by decide +kernel), List.mem_of_getElem? (i := 1335) (by decide +kernel)⟩
theorem lw_p81 : lw_okq (⟨"SchoolPlayModel", "takesWishes", "()V"⟩, 22) := ⟨⟨by decide +kernel, by decide +kernel⟩, List.mem_of_getElem? (i := 973) (by decide +kernel), List.mem_of_getElem? (i := 1346) (by decide +kernel), List.mem_of_getElem? (i := 1347) (by decide +kernel)⟩
theorem lw_p82 : lw_okq (⟨"SchoolPlayModel", "layLots", "(I)V"⟩, 22) := ⟨⟨by decide +kernel, by decide +kernel⟩, List.mem_of_getElem? (i := 973) (by decide +kernel), List.mem_of_getElem? (i := 1350) (by decide +kernel), List.mem_of_getElem? (i := 1351) (by decide +kernel)⟩
theorem lw_p83 : lw_okq (⟨"SchoolPlayModel", "gives", "(II)V"⟩, 22) := ⟨⟨by decide +kernel, by decide +kernel⟩, List.mem_of_getElem? (i := 973) (by decide +kernel), List.mem_of_getElem? (i := 1354) (by decide +kernel), List.mem_of_getElem? (i := 1355) (by decide +kernel)⟩
theorem lw_p84 : lw_okq (⟨"SchoolPlayModel", "isFree", "(I)Z"⟩, 22) := ⟨⟨by decide +kernel, by decide +kernel⟩, List.mem_of_getElem? (i := 973) (by decide +kernel), List.mem_of_getElem? (i := 1358) (by decide +kernel), List.mem_of_getElem? (i := 1359) (by decide +kernel)⟩
theorem lw_p85 : lw_okq (⟨"SchoolPlayModel", "gainsOne", "(II)Z"⟩, 22) := ⟨⟨by decide +kernel, by decide +kernel⟩, List.mem_of_getElem? (i := 973) (by decide +kernel), List.mem_of_getElem? (i := 1366) (by decide +kernel), List.mem_of_getElem? (i := 1367) (by decide +kernel)⟩
theorem lw_p86 : lw_okq (⟨"SchoolPlayModel", "rankOrLast", "(II)I"⟩, 22) := ⟨⟨by decide +kernel, by decide +kernel⟩, List.mem_of_getElem? (i := 973) (by decide +kernel), List.mem_of_getElem? (i := 1370) (by decide +kernel), List.mem_of_getElem? (i := 1371) (by decide +kernel)⟩
theorem lw_p87 : lw_okq (⟨"SchoolPlayModel", "leanOf", "(I)J"⟩, 22) := ⟨⟨by decide +kernel, by decide +kernel⟩, List.mem_of_getElem? (i := 973) (by decide +kernel), List.mem_of_getElem? (i := 1396) (by decide +kernel), List.mem_of_getElem? (i := 1397) (by decide +kernel)⟩
theorem lw_p88 : lw_okq (⟨"SchoolPlayModel", "signOf", "(I)I"⟩, 22) := ⟨⟨by decide +kernel, by decide +kernel⟩, List.mem_of_getElem? (i := 973) (by decide +kernel), List.mem_of_getElem? (i := 1405) (by decide +kernel), List.mem_of_getElem? (i := 1406) (by decide +kernel)⟩
theorem lw_p89 : lw_okq (⟨"SchoolPlayModel", "copies", "(II)V"⟩, 22) := ⟨⟨by decide +kernel, by decide +kernel⟩, List.mem_of_getElem? (i := 973) (by decide +kernel), List.mem_of_getElem? (i := 1424) (by decide +kernel), List.mem_of_getElem? (i := 1425) (by decide +kernel)⟩
theorem lw_p90 : lw_okq (⟨"SchoolPlayModel", "countOf", "(I)I"⟩, 22) := ⟨⟨by decide +kernel, by decide +kernel⟩, List.mem_of_getElem? (i := 973) (by decide +kernel), List.mem_of_getElem? (i := 1440) (by decide +kernel), List.mem_of_getElem? (i := 1441) (by decide +kernel)⟩
theorem lw_p91 : lw_okq (⟨"SchoolPlayModel", "notes", "(J)V"⟩, 22) := ⟨⟨by decide +kernel, by decide +kernel⟩, List.mem_of_getElem? (i := 973) (by decide +kernel), List.mem_of_getElem? (i := 1449) (by decide +kernel), List.mem_of_getElem? (i := 1450) (by decide +kernel)⟩
theorem lw_p92 : lw_okq (⟨"SchoolPlayModel", "notesRow", "(II)V"⟩, 22) := ⟨⟨by decide +kernel, by decide +kernel⟩, List.mem_of_getElem? (i := 973) (by decide +kernel), List.mem_of_getElem? (i := 1454) (by decide +kernel), List.mem_of_getElem? (i := 1455) (by decide +kernel)⟩
def lw_privs_6 : List (MethodName × Nat) := [(⟨"SchoolPlayModel", "hours", "(II)I"⟩, 22), (⟨"SchoolPlayModel", "takesWishes", "()V"⟩, 22), (⟨"SchoolPlayModel", "layLots", "(I)V"⟩, 22), (⟨"SchoolPlayModel", "gives", "(II)V"⟩, 22), (⟨"SchoolPlayModel", "isFree", "(I)Z"⟩, 22), (⟨"SchoolPlayModel", "gainsOne", "(II)Z"⟩, 22), (⟨"SchoolPlayModel", "rankOrLast", "(II)I"⟩, 22), (⟨"SchoolPlayModel", "leanOf", "(I)J"⟩, 22), (⟨"SchoolPlayModel", "signOf", "(I)I"⟩, 22), (⟨"SchoolPlayModel", "copies", "(II)V"⟩, 22), (⟨"SchoolPlayModel", "countOf", "(I)I"⟩, 22), (⟨"SchoolPlayModel", "notes", "(J)V"⟩, 22), (⟨"SchoolPlayModel", "notesRow", "(II)V"⟩, 22)]
theorem lw_r6 : ∀ q ∈ lw_privs_6, lw_okq q := List.forall_mem_cons.mpr ⟨lw_p80, List.forall_mem_cons.mpr ⟨lw_p81, List.forall_mem_cons.mpr ⟨lw_p82, List.forall_mem_cons.mpr ⟨lw_p83, List.forall_mem_cons.mpr ⟨lw_p84, List.forall_mem_cons.mpr ⟨lw_p85, List.forall_mem_cons.mpr ⟨lw_p86, List.forall_mem_cons.mpr ⟨lw_p87, List.forall_mem_cons.mpr ⟨lw_p88, List.forall_mem_cons.mpr ⟨lw_p89, List.forall_mem_cons.mpr ⟨lw_p90, List.forall_mem_cons.mpr ⟨lw_p91, List.forall_mem_cons.mpr ⟨lw_p92, fun _ h => absurd h List.not_mem_nil⟩⟩⟩⟩⟩⟩⟩⟩⟩⟩⟩⟩⟩
def lw_privs : List (MethodName × Nat) := lw_privs_1 ++ (lw_privs_2 ++ (lw_privs_3 ++ (lw_privs_4 ++ (lw_privs_5 ++ (lw_privs_6)))))
def lw_tbl : List Cond := k2_sels lw_privs ++ tables_1
theorem lw_privs_ok : ∀ q ∈ lw_privs, lw_okq q := by
  show ∀ q ∈ lw_privs_1 ++ (lw_privs_2 ++ (lw_privs_3 ++ (lw_privs_4 ++ (lw_privs_5 ++ (lw_privs_6))))), lw_okq q
  exact List.forall_mem_append.mpr ⟨lw_r1, List.forall_mem_append.mpr ⟨lw_r2, List.forall_mem_append.mpr ⟨lw_r3, List.forall_mem_append.mpr ⟨lw_r4, List.forall_mem_append.mpr ⟨lw_r5, lw_r6⟩⟩⟩⟩⟩
def RX0 : String := "SchoolPlay$CastSearch"
def TX0 : u_T := fun k => match k with
  | 0 => ("SchoolPlay$CastSearch", "found", "Z", false)
  | 1 => ("SchoolPlay$CastSearch", "bestScore", "I", false)
  | 2 => ("SchoolPlay$CastSearch", "bestRow", "[I", true)
  | 3 => ("SchoolPlay$CastSearch", "parts", "I", false)
  | 4 => ("SchoolPlay$CastSearch", "children", "I", false)
  | 5 => ("SchoolPlay$CastSearch", "away", "I", false)
  | 6 => ("SchoolPlay$CastSearch", "each", "I", false)
  | 7 => ("SchoolPlay$CastSearch", "points", "[I", true)
  | 8 => ("SchoolPlay$CastSearch", "ceiling", "[I", true)
  | 9 => ("SchoolPlay$CastSearch", "clashes", "[I", true)
  | 10 => ("SchoolPlay$CastSearch", "row", "[I", true)
  | _ => ("SchoolPlay$CastSearch", "held", "[I", true)
def tyX0 : Nat → FieldType := fun k => match k with
  | 0 => .boolean
  | 1 => .int
  | 2 => .array .int
  | 3 => .int
  | 4 => .int
  | 5 => .int
  | 6 => .int
  | 7 => .array .int
  | 8 => .array .int
  | 9 => .array .int
  | 10 => .array .int
  | _ => .array .int
abbrev wsX00 : List Cond := u_ws RX0 TX0 12
theorem nmX0 : ∀ a, a < 12 → ∀ b, b < 12 → a ≠ b → (TX0 a).2.1 ≠ (TX0 b).2.1 := by decide +kernel
theorem tyX0_ok : ∀ k, k < 12 → parseFieldDescriptor (TX0 k).2.2.1 = some (tyX0 k) := by decide +kernel
abbrev cX0_init : ByteArray := prog_2_method_1_code
def yX0_init : MethodName := ⟨RX0, "<init>", "()V"⟩
abbrev cX0_findBest : ByteArray := prog_2_method_2_code
def yX0_findBest : MethodName := ⟨RX0, "findBest", "(LSchoolPlay$State;)Z"⟩
abbrev cX0_findWithout : ByteArray := prog_2_method_3_code
def yX0_findWithout : MethodName := ⟨RX0, "findWithout", "(LSchoolPlay$State;I)Z"⟩
abbrev cX0_changes : ByteArray := prog_2_method_4_code
def yX0_changes : MethodName := ⟨RX0, "changes", "(LSchoolPlay$State;)I"⟩
abbrev cX0_fewestPlayers : ByteArray := prog_2_method_5_code
def yX0_fewestPlayers : MethodName := ⟨RX0, "fewestPlayers", "(LSchoolPlay$State;)I"⟩
abbrev cX0_prepare : ByteArray := prog_2_method_6_code
def yX0_prepare : MethodName := ⟨RX0, "prepare", "(LSchoolPlay$State;II)V"⟩
abbrev cX0_search : ByteArray := prog_2_method_7_code
def yX0_search : MethodName := ⟨RX0, "search", "()Z"⟩
abbrev cX0_mostPoints : ByteArray := prog_2_method_8_code
def yX0_mostPoints : MethodName := ⟨RX0, "mostPoints", "(I)I"⟩
abbrev cX0_castFrom : ByteArray := prog_2_method_9_code
def yX0_castFrom : MethodName := ⟨RX0, "castFrom", "(III)V"⟩
abbrev cX0_keep : ByteArray := prog_2_method_10_code
def yX0_keep : MethodName := ⟨RX0, "keep", "(I)V"⟩
abbrev cX0_playersFrom : ByteArray := prog_2_method_11_code
def yX0_playersFrom : MethodName := ⟨RX0, "playersFrom", "(II)I"⟩
def RX1 : String := "SchoolPlay$Chances"
def TX1 : u_T := fun k => match k with
  | 0 => ("SchoolPlay$Chances", "script", "LSchoolPlay$Script;", true)
  | 1 => ("SchoolPlay$Chances", "cast", "[I", true)
  | 2 => ("SchoolPlay$Chances", "behind", "[I", true)
  | 3 => ("SchoolPlay$Chances", "clashes", "[I", true)
  | 4 => ("SchoolPlay$Chances", "played", "[I", true)
  | _ => ("SchoolPlay$Chances", "ways", "[J", true)
def tyX1 : Nat → FieldType := fun k => match k with
  | 0 => .object "SchoolPlay$Script"
  | 1 => .array .int
  | 2 => .array .int
  | 3 => .array .int
  | 4 => .array .int
  | _ => .array .long
abbrev wsX10 : List Cond := u_ws RX1 TX1 6
theorem nmX1 : ∀ a, a < 6 → ∀ b, b < 6 → a ≠ b → (TX1 a).2.1 ≠ (TX1 b).2.1 := by decide +kernel
theorem tyX1_ok : ∀ k, k < 6 → parseFieldDescriptor (TX1 k).2.2.1 = some (tyX1 k) := by decide +kernel
abbrev cX1_init : ByteArray := prog_3_method_1_code
def yX1_init : MethodName := ⟨RX1, "<init>", "()V"⟩
abbrev cX1_prepare : ByteArray := prog_3_method_2_code
def yX1_prepare : MethodName := ⟨RX1, "prepare", "(LSchoolPlay$State;)V"⟩
abbrev cX1_waysInAll : ByteArray := prog_3_method_3_code
def yX1_waysInAll : MethodName := ⟨RX1, "waysInAll", "()J"⟩
abbrev cX1_waysItGoes : ByteArray := prog_3_method_4_code
def yX1_waysItGoes : MethodName := ⟨RX1, "waysItGoes", "()J"⟩
abbrev cX1_nextBehind : ByteArray := prog_3_method_5_code
def yX1_nextBehind : MethodName := ⟨RX1, "nextBehind", "()I"⟩
abbrev cX1_waysWith : ByteArray := prog_3_method_6_code
def yX1_waysWith : MethodName := ⟨RX1, "waysWith", "(II)J"⟩
abbrev cX1_hoursOf : ByteArray := prog_3_method_7_code
def yX1_hoursOf : MethodName := ⟨RX1, "hoursOf", "(II)I"⟩
abbrev cX1_waysOf : ByteArray := prog_3_method_8_code
def yX1_waysOf : MethodName := ⟨RX1, "waysOf", "(I)J"⟩
abbrev cX1_goes : ByteArray := prog_3_method_9_code
def yX1_goes : MethodName := ⟨RX1, "goes", "(I)Z"⟩
abbrev cX1_isWell : ByteArray := prog_3_method_10_code
def yX1_isWell : MethodName := ⟨RX1, "isWell", "(II)Z"⟩
def RX2 : String := "SchoolPlay$Fraction"
def TX2 : u_T := fun k => match k with
  | 0 => ("SchoolPlay$Fraction", "above", "J", false)
  | _ => ("SchoolPlay$Fraction", "below", "J", false)
def tyX2 : Nat → FieldType := fun k => match k with
  | 0 => .long
  | _ => .long
abbrev wsX20 : List Cond := u_ws RX2 TX2 2
theorem nmX2 : ∀ a, a < 2 → ∀ b, b < 2 → a ≠ b → (TX2 a).2.1 ≠ (TX2 b).2.1 := by decide +kernel
theorem tyX2_ok : ∀ k, k < 2 → parseFieldDescriptor (TX2 k).2.2.1 = some (tyX2 k) := by decide +kernel
abbrev cX2_init : ByteArray := prog_4_method_1_code
def yX2_init : MethodName := ⟨RX2, "<init>", "()V"⟩
abbrev cX2_become : ByteArray := prog_4_method_2_code
def yX2_become : MethodName := ⟨RX2, "become", "(JJ)V"⟩
abbrev cX2_limbs : ByteArray := prog_4_method_3_code
def yX2_limbs : MethodName := ⟨RX2, "limbs", "(I)I"⟩
abbrev cX2_limbAt : ByteArray := prog_4_method_4_code
def yX2_limbAt : MethodName := ⟨RX2, "limbAt", "(II)I"⟩
abbrev cX2_mix : ByteArray := prog_4_method_5_code
def yX2_mix : MethodName := ⟨RX2, "mix", "(J)J"⟩
abbrev cX2_side : ByteArray := prog_4_method_6_code
def yX2_side : MethodName := ⟨RX2, "side", "(I)J"⟩
abbrev cX2_common : ByteArray := prog_4_method_7_code
def yX2_common : MethodName := ⟨RX2, "common", "(JJ)J"⟩
def RX3 : String := "SchoolPlay$LotDraw"
def TX3 : u_T := fun k => match k with
  | 0 => ("SchoolPlay$LotDraw", "got", "[I", true)
  | 1 => ("SchoolPlay$LotDraw", "script", "LSchoolPlay$Script;", true)
  | 2 => ("SchoolPlay$LotDraw", "rule", "I", false)
  | 3 => ("SchoolPlay$LotDraw", "taken", "I", false)
  | _ => ("SchoolPlay$LotDraw", "told", "[I", true)
def tyX3 : Nat → FieldType := fun k => match k with
  | 0 => .array .int
  | 1 => .object "SchoolPlay$Script"
  | 2 => .int
  | 3 => .int
  | _ => .array .int
abbrev wsX30 : List Cond := u_ws RX3 TX3 5
theorem nmX3 : ∀ a, a < 5 → ∀ b, b < 5 → a ≠ b → (TX3 a).2.1 ≠ (TX3 b).2.1 := by decide +kernel
theorem tyX3_ok : ∀ k, k < 5 → parseFieldDescriptor (TX3 k).2.2.1 = some (tyX3 k) := by decide +kernel
abbrev cX3_init : ByteArray := prog_5_method_1_code
def yX3_init : MethodName := ⟨RX3, "<init>", "()V"⟩
abbrev cX3_prepare : ByteArray := prog_5_method_2_code
def yX3_prepare : MethodName := ⟨RX3, "prepare", "(LSchoolPlay$Script;I)V"⟩
abbrev cX3_run : ByteArray := prog_5_method_3_code
def yX3_run : MethodName := ⟨RX3, "run", "()V"⟩
abbrev cX3_leastGainer : ByteArray := prog_5_method_4_code
def yX3_leastGainer : MethodName := ⟨RX3, "leastGainer", "()I"⟩
abbrev cX3_tellTruth : ByteArray := prog_5_method_5_code
def yX3_tellTruth : MethodName := ⟨RX3, "tellTruth", "()V"⟩
abbrev cX3_offer : ByteArray := prog_5_method_6_code
def yX3_offer : MethodName := ⟨RX3, "offer", "(II)V"⟩
abbrev cX3_gainsByAnother : ByteArray := prog_5_method_7_code
def yX3_gainsByAnother : MethodName := ⟨RX3, "gainsByAnother", "(II)Z"⟩
abbrev cX3_tellOnly : ByteArray := prog_5_method_8_code
def yX3_tellOnly : MethodName := ⟨RX3, "tellOnly", "(II)V"⟩
def RX4 : String := "SchoolPlay$PlanSearch"
def TX4 : u_T := fun k => match k with
  | 0 => ("SchoolPlay$PlanSearch", "bestKnown", "I", false)
  | 1 => ("SchoolPlay$PlanSearch", "bestRow", "[I", true)
  | 2 => ("SchoolPlay$PlanSearch", "bestSitting", "I", false)
  | 3 => ("SchoolPlay$PlanSearch", "found", "Z", false)
  | 4 => ("SchoolPlay$PlanSearch", "days", "I", false)
  | 5 => ("SchoolPlay$PlanSearch", "scenes", "I", false)
  | 6 => ("SchoolPlay$PlanSearch", "parts", "I", false)
  | 7 => ("SchoolPlay$PlanSearch", "row", "[I", true)
  | 8 => ("SchoolPlay$PlanSearch", "learned", "[I", true)
  | 9 => ("SchoolPlay$PlanSearch", "fading", "[I", true)
  | 10 => ("SchoolPlay$PlanSearch", "spoken", "[Z", true)
  | 11 => ("SchoolPlay$PlanSearch", "known", "[[I", true)
  | _ => ("SchoolPlay$PlanSearch", "sitters", "[I", true)
def tyX4 : Nat → FieldType := fun k => match k with
  | 0 => .int
  | 1 => .array .int
  | 2 => .int
  | 3 => .boolean
  | 4 => .int
  | 5 => .int
  | 6 => .int
  | 7 => .array .int
  | 8 => .array .int
  | 9 => .array .int
  | 10 => .array .boolean
  | 11 => .array (.array .int)
  | _ => .array .int
abbrev wsX40 : List Cond := u_ws RX4 TX4 13
theorem nmX4 : ∀ a, a < 13 → ∀ b, b < 13 → a ≠ b → (TX4 a).2.1 ≠ (TX4 b).2.1 := by decide +kernel
theorem tyX4_ok : ∀ k, k < 13 → parseFieldDescriptor (TX4 k).2.2.1 = some (tyX4 k) := by decide +kernel
abbrev cX4_init : ByteArray := prog_6_method_1_code
def yX4_init : MethodName := ⟨RX4, "<init>", "()V"⟩
abbrev cX4_find : ByteArray := prog_6_method_2_code
def yX4_find : MethodName := ⟨RX4, "find", "(LSchoolPlay$State;II)V"⟩
abbrev cX4_prepare : ByteArray := prog_6_method_3_code
def yX4_prepare : MethodName := ⟨RX4, "prepare", "(LSchoolPlay$State;I)V"⟩
abbrev cX4_planFrom : ByteArray := prog_6_method_4_code
def yX4_planFrom : MethodName := ⟨RX4, "planFrom", "(II)V"⟩
abbrev cX4_leastKnown : ByteArray := prog_6_method_5_code
def yX4_leastKnown : MethodName := ⟨RX4, "leastKnown", "(I)I"⟩
abbrev cX4_compare : ByteArray := prog_6_method_6_code
def yX4_compare : MethodName := ⟨RX4, "compare", "(II)V"⟩
def RX5 : String := "SchoolPlay$Reader"
def TX5 : u_T := fun k => match k with
  | 0 => ("SchoolPlay$Reader", "draft", "LSchoolPlay$Script;", true)
  | 1 => ("SchoolPlay$Reader", "text", "[I", false)
  | 2 => ("SchoolPlay$Reader", "length", "I", false)
  | 3 => ("SchoolPlay$Reader", "place", "I", false)
  | 4 => ("SchoolPlay$Reader", "start", "I", false)
  | 5 => ("SchoolPlay$Reader", "kind", "I", false)
  | _ => ("SchoolPlay$Reader", "value", "I", false)
def tyX5 : Nat → FieldType := fun k => match k with
  | 0 => .object "SchoolPlay$Script"
  | 1 => .array .int
  | 2 => .int
  | 3 => .int
  | 4 => .int
  | 5 => .int
  | _ => .int
abbrev wsX50 : List Cond := u_ws RX5 TX5 7
theorem nmX5 : ∀ a, a < 7 → ∀ b, b < 7 → a ≠ b → (TX5 a).2.1 ≠ (TX5 b).2.1 := by decide +kernel
theorem tyX5_ok : ∀ k, k < 7 → parseFieldDescriptor (TX5 k).2.2.1 = some (tyX5 k) := by decide +kernel
abbrev cX5_init : ByteArray := prog_7_method_1_code
def yX5_init : MethodName := ⟨RX5, "<init>", "()V"⟩
abbrev cX5_readText : ByteArray := prog_7_method_2_code
def yX5_readText : MethodName := ⟨RX5, "readText", "([II)I"⟩
abbrev cX5_item : ByteArray := prog_7_method_3_code
def yX5_item : MethodName := ⟨RX5, "item", "()Z"⟩
abbrev cX5_partItem : ByteArray := prog_7_method_4_code
def yX5_partItem : MethodName := ⟨RX5, "partItem", "()Z"⟩
abbrev cX5_childItem : ByteArray := prog_7_method_5_code
def yX5_childItem : MethodName := ⟨RX5, "childItem", "()Z"⟩
abbrev cX5_sceneItem : ByteArray := prog_7_method_6_code
def yX5_sceneItem : MethodName := ⟨RX5, "sceneItem", "()Z"⟩
abbrev cX5_wishItem : ByteArray := prog_7_method_7_code
def yX5_wishItem : MethodName := ⟨RX5, "wishItem", "()Z"⟩
abbrev cX5_number : ByteArray := prog_7_method_8_code
def yX5_number : MethodName := ⟨RX5, "number", "([IIII)Z"⟩
abbrev cX5_isNumber : ByteArray := prog_7_method_9_code
def yX5_isNumber : MethodName := ⟨RX5, "isNumber", "(II)Z"⟩
abbrev cX5_stop : ByteArray := prog_7_method_10_code
def yX5_stop : MethodName := ⟨RX5, "stop", "()Z"⟩
abbrev cX5_isWord : ByteArray := prog_7_method_11_code
def yX5_isWord : MethodName := ⟨RX5, "isWord", "(Ljava/lang/String;)Z"⟩
abbrev cX5_step : ByteArray := prog_7_method_12_code
def yX5_step : MethodName := ⟨RX5, "step", "()V"⟩
abbrev cX5_passLetters : ByteArray := prog_7_method_13_code
def yX5_passLetters : MethodName := ⟨RX5, "passLetters", "()V"⟩
abbrev cX5_passFigures : ByteArray := prog_7_method_14_code
def yX5_passFigures : MethodName := ⟨RX5, "passFigures", "()V"⟩
abbrev cX5_isLetter : ByteArray := prog_7_method_15_code
def yX5_isLetter : MethodName := ⟨RX5, "isLetter", "(I)Z"⟩
abbrev cX5_isFigure : ByteArray := prog_7_method_16_code
def yX5_isFigure : MethodName := ⟨RX5, "isFigure", "(I)Z"⟩
def RX6 : String := "SchoolPlay$Script"
def TX6 : u_T := fun k => match k with
  | 0 => ("SchoolPlay$Script", "parts", "I", false)
  | 1 => ("SchoolPlay$Script", "kind", "[I", true)
  | 2 => ("SchoolPlay$Script", "lines", "[I", true)
  | 3 => ("SchoolPlay$Script", "need", "[I", true)
  | 4 => ("SchoolPlay$Script", "children", "I", false)
  | 5 => ("SchoolPlay$Script", "learn", "[I", true)
  | 6 => ("SchoolPlay$Script", "forget", "[I", true)
  | 7 => ("SchoolPlay$Script", "voice", "[I", true)
  | 8 => ("SchoolPlay$Script", "dread", "[I", true)
  | 9 => ("SchoolPlay$Script", "ill", "[I", true)
  | 10 => ("SchoolPlay$Script", "wishes", "[I", true)
  | 11 => ("SchoolPlay$Script", "scenes", "I", false)
  | 12 => ("SchoolPlay$Script", "minutes", "[I", true)
  | _ => ("SchoolPlay$Script", "players", "[I", true)
def tyX6 : Nat → FieldType := fun k => match k with
  | 0 => .int
  | 1 => .array .int
  | 2 => .array .int
  | 3 => .array .int
  | 4 => .int
  | 5 => .array .int
  | 6 => .array .int
  | 7 => .array .int
  | 8 => .array .int
  | 9 => .array .int
  | 10 => .array .int
  | 11 => .int
  | 12 => .array .int
  | _ => .array .int
abbrev wsX60 : List Cond := u_ws RX6 TX6 14
theorem nmX6 : ∀ a, a < 14 → ∀ b, b < 14 → a ≠ b → (TX6 a).2.1 ≠ (TX6 b).2.1 := by decide +kernel
theorem tyX6_ok : ∀ k, k < 14 → parseFieldDescriptor (TX6 k).2.2.1 = some (tyX6 k) := by decide +kernel
abbrev cX6_init : ByteArray := prog_8_method_1_code
def yX6_init : MethodName := ⟨RX6, "<init>", "()V"⟩
abbrev cX6_empty : ByteArray := prog_8_method_2_code
def yX6_empty : MethodName := ⟨RX6, "empty", "()V"⟩
abbrev cX6_copyOf : ByteArray := prog_8_method_3_code
def yX6_copyOf : MethodName := ⟨RX6, "copyOf", "(LSchoolPlay$Script;)V"⟩
abbrev cX6_hasPart : ByteArray := prog_8_method_4_code
def yX6_hasPart : MethodName := ⟨RX6, "hasPart", "(I)Z"⟩
abbrev cX6_hasChild : ByteArray := prog_8_method_5_code
def yX6_hasChild : MethodName := ⟨RX6, "hasChild", "(I)Z"⟩
abbrev cX6_hasScene : ByteArray := prog_8_method_6_code
def yX6_hasScene : MethodName := ⟨RX6, "hasScene", "(I)Z"⟩
abbrev cX6_plays : ByteArray := prog_8_method_7_code
def yX6_plays : MethodName := ⟨RX6, "plays", "(II)Z"⟩
abbrev cX6_rankOf : ByteArray := prog_8_method_8_code
def yX6_rankOf : MethodName := ⟨RX6, "rankOf", "(II)I"⟩
abbrev cX6_fitOf : ByteArray := prog_8_method_9_code
def yX6_fitOf : MethodName := ⟨RX6, "fitOf", "(II)I"⟩
abbrev cX6_scenesOf : ByteArray := prog_8_method_10_code
def yX6_scenesOf : MethodName := ⟨RX6, "scenesOf", "(I)I"⟩
abbrev cX6_clashing : ByteArray := prog_8_method_11_code
def yX6_clashing : MethodName := ⟨RX6, "clashing", "(III)Z"⟩
abbrev cX6_fillClashes : ByteArray := prog_8_method_12_code
def yX6_fillClashes : MethodName := ⟨RX6, "fillClashes", "([II)V"⟩
abbrev cX6_minutesOf : ByteArray := prog_8_method_13_code
def yX6_minutesOf : MethodName := ⟨RX6, "minutesOf", "(I)I"⟩
abbrev cX6_mixChildren : ByteArray := prog_8_method_14_code
def yX6_mixChildren : MethodName := ⟨RX6, "mixChildren", "(J[I)J"⟩
abbrev cX6_mixScenes : ByteArray := prog_8_method_15_code
def yX6_mixScenes : MethodName := ⟨RX6, "mixScenes", "(J)J"⟩
def RX7 : String := "SchoolPlay$State"
def TX7 : u_T := fun k => match k with
  | 0 => ("SchoolPlay$State", "script", "LSchoolPlay$Script;", true)
  | 1 => ("SchoolPlay$State", "cast", "[I", true)
  | 2 => ("SchoolPlay$State", "behind", "[I", true)
  | 3 => ("SchoolPlay$State", "known", "[I", true)
  | 4 => ("SchoolPlay$State", "sat", "[I", true)
  | 5 => ("SchoolPlay$State", "change", "I", false)
  | 6 => ("SchoolPlay$State", "each", "I", false)
  | 7 => ("SchoolPlay$State", "book", "[I", true)
  | 8 => ("SchoolPlay$State", "length", "I", false)
  | 9 => ("SchoolPlay$State", "years", "[I", true)
  | _ => ("SchoolPlay$State", "yearCount", "I", false)
def tyX7 : Nat → FieldType := fun k => match k with
  | 0 => .object "SchoolPlay$Script"
  | 1 => .array .int
  | 2 => .array .int
  | 3 => .array .int
  | 4 => .array .int
  | 5 => .int
  | 6 => .int
  | 7 => .array .int
  | 8 => .int
  | 9 => .array .int
  | _ => .int
abbrev wsX70 : List Cond := u_ws RX7 TX7 11
theorem nmX7 : ∀ a, a < 11 → ∀ b, b < 11 → a ≠ b → (TX7 a).2.1 ≠ (TX7 b).2.1 := by decide +kernel
theorem tyX7_ok : ∀ k, k < 11 → parseFieldDescriptor (TX7 k).2.2.1 = some (tyX7 k) := by decide +kernel
abbrev cX7_init : ByteArray := prog_9_method_1_code
def yX7_init : MethodName := ⟨RX7, "<init>", "()V"⟩
abbrev cX7_copyOf : ByteArray := prog_9_method_2_code
def yX7_copyOf : MethodName := ⟨RX7, "copyOf", "(LSchoolPlay$State;)V"⟩
abbrev cX7_addByte : ByteArray := prog_9_method_3_code
def yX7_addByte : MethodName := ⟨RX7, "addByte", "(I)V"⟩
abbrev cX7_begin : ByteArray := prog_9_method_4_code
def yX7_begin : MethodName := ⟨RX7, "begin", "(LSchoolPlay$Script;)V"⟩
abbrev cX7_learned : ByteArray := prog_9_method_5_code
def yX7_learned : MethodName := ⟨RX7, "learned", "(III)I"⟩
abbrev cX7_fading : ByteArray := prog_9_method_6_code
def yX7_fading : MethodName := ⟨RX7, "fading", "(I)I"⟩
abbrev cX7_sitting : ByteArray := prog_9_method_7_code
def yX7_sitting : MethodName := ⟨RX7, "sitting", "(I)I"⟩
abbrev cX7_sceneSlips : ByteArray := prog_9_method_8_code
def yX7_sceneSlips : MethodName := ⟨RX7, "sceneSlips", "(II)I"⟩
abbrev cX7_allSlips : ByteArray := prog_9_method_9_code
def yX7_allSlips : MethodName := ⟨RX7, "allSlips", "(I)I"⟩
abbrev cX7_leaning : ByteArray := prog_9_method_10_code
def yX7_leaning : MethodName := ⟨RX7, "leaning", "(I)J"⟩
abbrev cX7_mix : ByteArray := prog_9_method_11_code
def yX7_mix : MethodName := ⟨RX7, "mix", "(J)J"⟩
def RX8 : String := "SchoolPlay"
def TX8 : u_T := fun k => match k with
  | 0 => ("SchoolPlay", "now", "LSchoolPlay$State;", true)
  | 1 => ("SchoolPlay", "images", "[LSchoolPlay$State;", true)
  | 2 => ("SchoolPlay", "kept", "[Z", true)
  | 3 => ("SchoolPlay", "fraction", "LSchoolPlay$Fraction;", true)
  | 4 => ("SchoolPlay", "refusals", "[I", true)
  | 5 => ("SchoolPlay", "reader", "LSchoolPlay$Reader;", true)
  | 6 => ("SchoolPlay", "castings", "LSchoolPlay$CastSearch;", true)
  | 7 => ("SchoolPlay", "plans", "LSchoolPlay$PlanSearch;", true)
  | 8 => ("SchoolPlay", "chances", "LSchoolPlay$Chances;", true)
  | _ => ("SchoolPlay", "draw", "LSchoolPlay$LotDraw;", true)
def tyX8 : Nat → FieldType := fun k => match k with
  | 0 => .object "SchoolPlay$State"
  | 1 => .array (.object "SchoolPlay$State")
  | 2 => .array .boolean
  | 3 => .object "SchoolPlay$Fraction"
  | 4 => .array .int
  | 5 => .object "SchoolPlay$Reader"
  | 6 => .object "SchoolPlay$CastSearch"
  | 7 => .object "SchoolPlay$PlanSearch"
  | 8 => .object "SchoolPlay$Chances"
  | _ => .object "SchoolPlay$LotDraw"
abbrev wsX80 : List Cond := u_ws RX8 TX8 10
theorem nmX8 : ∀ a, a < 10 → ∀ b, b < 10 → a ≠ b → (TX8 a).2.1 ≠ (TX8 b).2.1 := by decide +kernel
theorem tyX8_ok : ∀ k, k < 10 → parseFieldDescriptor (TX8 k).2.2.1 = some (tyX8 k) := by decide +kernel
abbrev cX8_init : ByteArray := prog_1_method_1_code
def yX8_init : MethodName := ⟨RX8, "<init>", "()V"⟩
abbrev cX8_type : ByteArray := prog_1_method_2_code
def yX8_type : MethodName := ⟨RX8, "type", "(JI)I"⟩
abbrev cX8_clear : ByteArray := prog_1_method_3_code
def yX8_clear : MethodName := ⟨RX8, "clear", "()I"⟩
abbrev cX8_read : ByteArray := prog_1_method_4_code
def yX8_read : MethodName := ⟨RX8, "read", "()I"⟩
abbrev cX8_put : ByteArray := prog_1_method_5_code
def yX8_put : MethodName := ⟨RX8, "put", "(II)I"⟩
abbrev cX8_fit : ByteArray := prog_1_method_6_code
def yX8_fit : MethodName := ⟨RX8, "fit", "(II)I"⟩
abbrev cX8_clash : ByteArray := prog_1_method_7_code
def yX8_clash : MethodName := ⟨RX8, "clash", "(II)I"⟩
abbrev cX8_best : ByteArray := prog_1_method_8_code
def yX8_best : MethodName := ⟨RX8, "best", "(I)I"⟩
abbrev cX8_fewest : ByteArray := prog_1_method_9_code
def yX8_fewest : MethodName := ⟨RX8, "fewest", "()I"⟩
abbrev cX8_cast : ByteArray := prog_1_method_10_code
def yX8_cast : MethodName := ⟨RX8, "cast", "(II)I"⟩
abbrev cX8_takeBest : ByteArray := prog_1_method_11_code
def yX8_takeBest : MethodName := ⟨RX8, "takeBest", "()I"⟩
abbrev cX8_rehearse : ByteArray := prog_1_method_12_code
def yX8_rehearse : MethodName := ⟨RX8, "rehearse", "(II)I"⟩
abbrev cX8_night : ByteArray := prog_1_method_13_code
def yX8_night : MethodName := ⟨RX8, "night", "()I"⟩
abbrev cX8_known : ByteArray := prog_1_method_14_code
def yX8_known : MethodName := ⟨RX8, "known", "(I)I"⟩
abbrev cX8_sat : ByteArray := prog_1_method_15_code
def yX8_sat : MethodName := ⟨RX8, "sat", "(I)I"⟩
abbrev cX8_slips : ByteArray := prog_1_method_16_code
def yX8_slips : MethodName := ⟨RX8, "slips", "(I)I"⟩
abbrev cX8_cut : ByteArray := prog_1_method_17_code
def yX8_cut : MethodName := ⟨RX8, "cut", "()I"⟩
abbrev cX8_plan : ByteArray := prog_1_method_18_code
def yX8_plan : MethodName := ⟨RX8, "plan", "(III)I"⟩
abbrev cX8_behind : ByteArray := prog_1_method_19_code
def yX8_behind : MethodName := ⟨RX8, "behind", "(II)I"⟩
abbrev cX8_odds : ByteArray := prog_1_method_20_code
def yX8_odds : MethodName := ⟨RX8, "odds", "()I"⟩
abbrev cX8_next : ByteArray := prog_1_method_21_code
def yX8_next : MethodName := ⟨RX8, "next", "()I"⟩
abbrev cX8_hot : ByteArray := prog_1_method_22_code
def yX8_hot : MethodName := ⟨RX8, "hot", "(II)I"⟩
abbrev cX8_lots : ByteArray := prog_1_method_23_code
def yX8_lots : MethodName := ⟨RX8, "lots", "(II)I"⟩
abbrev cX8_gains : ByteArray := prog_1_method_24_code
def yX8_gains : MethodName := ⟨RX8, "gains", "(I)I"⟩
abbrev cX8_tried : ByteArray := prog_1_method_25_code
def yX8_tried : MethodName := ⟨RX8, "tried", "(IIIII)I"⟩
abbrev cX8_year : ByteArray := prog_1_method_26_code
def yX8_year : MethodName := ⟨RX8, "year", "(I)I"⟩
abbrev cX8_forget : ByteArray := prog_1_method_27_code
def yX8_forget : MethodName := ⟨RX8, "forget", "()I"⟩
abbrev cX8_leans : ByteArray := prog_1_method_28_code
def yX8_leans : MethodName := ⟨RX8, "leans", "(I)I"⟩
abbrev cX8_sign : ByteArray := prog_1_method_29_code
def yX8_sign : MethodName := ⟨RX8, "sign", "(I)I"⟩
abbrev cX8_limb : ByteArray := prog_1_method_30_code
def yX8_limb : MethodName := ⟨RX8, "limb", "(II)I"⟩
abbrev cX8_image : ByteArray := prog_1_method_31_code
def yX8_image : MethodName := ⟨RX8, "image", "(I)I"⟩
abbrev cX8_from : ByteArray := prog_1_method_32_code
def yX8_from : MethodName := ⟨RX8, "from", "(I)I"⟩
abbrev cX8_status : ByteArray := prog_1_method_33_code
def yX8_status : MethodName := ⟨RX8, "status", "(I)I"⟩
abbrev cX8_count : ByteArray := prog_1_method_34_code
def yX8_count : MethodName := ⟨RX8, "count", "(I)I"⟩
abbrev cX8_digest : ByteArray := prog_1_method_35_code
def yX8_digest : MethodName := ⟨RX8, "digest", "()J"⟩
abbrev cX8_refuse : ByteArray := prog_1_method_36_code
def yX8_refuse : MethodName := ⟨RX8, "refuse", "(II)I"⟩
abbrev cX8_isChildOrNone : ByteArray := prog_1_method_37_code
def yX8_isChildOrNone : MethodName := ⟨RX8, "isChildOrNone", "(I)Z"⟩
abbrev cX8_isMinutes : ByteArray := prog_1_method_38_code
def yX8_isMinutes : MethodName := ⟨RX8, "isMinutes", "(I)Z"⟩
abbrev cX8_isRule : ByteArray := prog_1_method_39_code
def yX8_isRule : MethodName := ⟨RX8, "isRule", "(I)Z"⟩
abbrev cX8_isUpTo : ByteArray := prog_1_method_40_code
def yX8_isUpTo : MethodName := ⟨RX8, "isUpTo", "(II)Z"⟩
abbrev cX8_knownWith : ByteArray := prog_1_method_41_code
def yX8_knownWith : MethodName := ⟨RX8, "knownWith", "(II)I"⟩
abbrev cX8_knownAfterNight : ByteArray := prog_1_method_42_code
def yX8_knownAfterNight : MethodName := ⟨RX8, "knownAfterNight", "(II)I"⟩
abbrev cX8_power : ByteArray := prog_1_method_43_code
def yX8_power : MethodName := ⟨RX8, "power", "(II)J"⟩
def RX9 : String := "SchoolPlayModel"
def TX9 : u_T := fun k => match k with
  | 0 => ("SchoolPlayModel", "st", "[I", true)
  | 1 => ("SchoolPlayModel", "isKept", "[Z", true)
  | 2 => ("SchoolPlayModel", "refused", "[I", true)
  | 3 => ("SchoolPlayModel", "draft", "[I", true)
  | 4 => ("SchoolPlayModel", "pos", "I", false)
  | 5 => ("SchoolPlayModel", "from", "I", false)
  | 6 => ("SchoolPlayModel", "sort", "I", false)
  | 7 => ("SchoolPlayModel", "value", "I", false)
  | 8 => ("SchoolPlayModel", "faultAt", "I", false)
  | 9 => ("SchoolPlayModel", "clashing", "[I", true)
  | 10 => ("SchoolPlayModel", "row", "[I", true)
  | 11 => ("SchoolPlayModel", "found", "[I", true)
  | 12 => ("SchoolPlayModel", "foundFit", "I", false)
  | 13 => ("SchoolPlayModel", "foundChanged", "I", false)
  | 14 => ("SchoolPlayModel", "isFound", "Z", false)
  | 15 => ("SchoolPlayModel", "knows", "[I", true)
  | 16 => ("SchoolPlayModel", "sitting", "I", false)
  | 17 => ("SchoolPlayModel", "above", "J", false)
  | 18 => ("SchoolPlayModel", "below", "J", false)
  | 19 => ("SchoolPlayModel", "wish", "[I", true)
  | 20 => ("SchoolPlayModel", "gets", "[I", true)
  | _ => ("SchoolPlayModel", "h", "J", false)
def tyX9 : Nat → FieldType := fun k => match k with
  | 0 => .array .int
  | 1 => .array .boolean
  | 2 => .array .int
  | 3 => .array .int
  | 4 => .int
  | 5 => .int
  | 6 => .int
  | 7 => .int
  | 8 => .int
  | 9 => .array .int
  | 10 => .array .int
  | 11 => .array .int
  | 12 => .int
  | 13 => .int
  | 14 => .boolean
  | 15 => .array .int
  | 16 => .int
  | 17 => .long
  | 18 => .long
  | 19 => .array .int
  | 20 => .array .int
  | _ => .long
abbrev wsX90 : List Cond := u_ws RX9 TX9 22
theorem nmX9 : ∀ a, a < 22 → ∀ b, b < 22 → a ≠ b → (TX9 a).2.1 ≠ (TX9 b).2.1 := by decide +kernel
theorem tyX9_ok : ∀ k, k < 22 → parseFieldDescriptor (TX9 k).2.2.1 = some (tyX9 k) := by decide +kernel
abbrev cX9_init : ByteArray := prog_11_method_1_code
def yX9_init : MethodName := ⟨RX9, "<init>", "()V"⟩
abbrev cX9_in : ByteArray := prog_11_method_3_code
def yX9_in : MethodName := ⟨RX9, "in", "(JJJ)Z"⟩
abbrev cX9_flag : ByteArray := prog_11_method_4_code
def yX9_flag : MethodName := ⟨RX9, "flag", "(Z)I"⟩
abbrev cX9_refuse : ByteArray := prog_11_method_5_code
def yX9_refuse : MethodName := ⟨RX9, "refuse", "(II)I"⟩
abbrev cX9_bad : ByteArray := prog_11_method_6_code
def yX9_bad : MethodName := ⟨RX9, "bad", "()I"⟩
abbrev cX9_clearDraft : ByteArray := prog_11_method_7_code
def yX9_clearDraft : MethodName := ⟨RX9, "clearDraft", "()V"⟩
abbrev cX9_keepDraft : ByteArray := prog_11_method_8_code
def yX9_keepDraft : MethodName := ⟨RX9, "keepDraft", "()V"⟩
abbrev cX9_type : ByteArray := prog_11_method_9_code
def yX9_type : MethodName := ⟨RX9, "type", "(JI)I"⟩
abbrev cX9_clear : ByteArray := prog_11_method_10_code
def yX9_clear : MethodName := ⟨RX9, "clear", "()I"⟩
abbrev cX9_look : ByteArray := prog_11_method_11_code
def yX9_look : MethodName := ⟨RX9, "look", "(I)I"⟩
abbrev cX9_token : ByteArray := prog_11_method_12_code
def yX9_token : MethodName := ⟨RX9, "token", "()V"⟩
abbrev cX9_is : ByteArray := prog_11_method_13_code
def yX9_is : MethodName := ⟨RX9, "is", "(IIIII)Z"⟩
abbrev cX9_needs : ByteArray := prog_11_method_14_code
def yX9_needs : MethodName := ⟨RX9, "needs", "(Z)V"⟩
abbrev cX9_isGood : ByteArray := prog_11_method_15_code
def yX9_isGood : MethodName := ⟨RX9, "isGood", "()Z"⟩
abbrev cX9_readNumber : ByteArray := prog_11_method_16_code
def yX9_readNumber : MethodName := ⟨RX9, "readNumber", "(II)I"⟩
abbrev cX9_readPart : ByteArray := prog_11_method_17_code
def yX9_readPart : MethodName := ⟨RX9, "readPart", "()V"⟩
abbrev cX9_readChild : ByteArray := prog_11_method_18_code
def yX9_readChild : MethodName := ⟨RX9, "readChild", "()V"⟩
abbrev cX9_readScene : ByteArray := prog_11_method_19_code
def yX9_readScene : MethodName := ⟨RX9, "readScene", "()V"⟩
abbrev cX9_readWish : ByteArray := prog_11_method_20_code
def yX9_readWish : MethodName := ⟨RX9, "readWish", "()V"⟩
abbrev cX9_readItem : ByteArray := prog_11_method_21_code
def yX9_readItem : MethodName := ⟨RX9, "readItem", "()V"⟩
abbrev cX9_read : ByteArray := prog_11_method_22_code
def yX9_read : MethodName := ⟨RX9, "read", "()I"⟩
abbrev cX9_put : ByteArray := prog_11_method_23_code
def yX9_put : MethodName := ⟨RX9, "put", "(II)I"⟩
abbrev cX9_isPart : ByteArray := prog_11_method_24_code
def yX9_isPart : MethodName := ⟨RX9, "isPart", "(I)Z"⟩
abbrev cX9_isChild : ByteArray := prog_11_method_25_code
def yX9_isChild : MethodName := ⟨RX9, "isChild", "(I)Z"⟩
abbrev cX9_of : ByteArray := prog_11_method_26_code
def yX9_of : MethodName := ⟨RX9, "of", "(II)I"⟩
abbrev cX9_lines : ByteArray := prog_11_method_27_code
def yX9_lines : MethodName := ⟨RX9, "lines", "(I)I"⟩
abbrev cX9_rank : ByteArray := prog_11_method_28_code
def yX9_rank : MethodName := ⟨RX9, "rank", "(II)I"⟩
abbrev cX9_fitOf : ByteArray := prog_11_method_29_code
def yX9_fitOf : MethodName := ⟨RX9, "fitOf", "(II)I"⟩
abbrev cX9_fit : ByteArray := prog_11_method_30_code
def yX9_fit : MethodName := ⟨RX9, "fit", "(II)I"⟩
abbrev cX9_isIn : ByteArray := prog_11_method_31_code
def yX9_isIn : MethodName := ⟨RX9, "isIn", "(II)Z"⟩
abbrev cX9_clashes : ByteArray := prog_11_method_32_code
def yX9_clashes : MethodName := ⟨RX9, "clashes", "(II)Z"⟩
abbrev cX9_clash : ByteArray := prog_11_method_33_code
def yX9_clash : MethodName := ⟨RX9, "clash", "(II)I"⟩
abbrev cX9_layClashes : ByteArray := prog_11_method_34_code
def yX9_layClashes : MethodName := ⟨RX9, "layClashes", "()V"⟩
abbrev cX9_lays : ByteArray := prog_11_method_35_code
def yX9_lays : MethodName := ⟨RX9, "lays", "(II)Z"⟩
abbrev cX9_rows : ByteArray := prog_11_method_36_code
def yX9_rows : MethodName := ⟨RX9, "rows", "(I)I"⟩
abbrev cX9_players : ByteArray := prog_11_method_37_code
def yX9_players : MethodName := ⟨RX9, "players", "()I"⟩
abbrev cX9_rowFit : ByteArray := prog_11_method_38_code
def yX9_rowFit : MethodName := ⟨RX9, "rowFit", "()I"⟩
abbrev cX9_takes : ByteArray := prog_11_method_39_code
def yX9_takes : MethodName := ⟨RX9, "takes", "(II)V"⟩
abbrev cX9_findBest : ByteArray := prog_11_method_40_code
def yX9_findBest : MethodName := ⟨RX9, "findBest", "()V"⟩
abbrev cX9_best : ByteArray := prog_11_method_41_code
def yX9_best : MethodName := ⟨RX9, "best", "(I)I"⟩
abbrev cX9_fewest : ByteArray := prog_11_method_42_code
def yX9_fewest : MethodName := ⟨RX9, "fewest", "()I"⟩
abbrev cX9_isOrNone : ByteArray := prog_11_method_43_code
def yX9_isOrNone : MethodName := ⟨RX9, "isOrNone", "(I)Z"⟩
abbrev cX9_cast : ByteArray := prog_11_method_44_code
def yX9_cast : MethodName := ⟨RX9, "cast", "(II)I"⟩
abbrev cX9_takeBest : ByteArray := prog_11_method_45_code
def yX9_takeBest : MethodName := ⟨RX9, "takeBest", "()I"⟩
abbrev cX9_isScene : ByteArray := prog_11_method_46_code
def yX9_isScene : MethodName := ⟨RX9, "isScene", "(I)Z"⟩
abbrev cX9_has : ByteArray := prog_11_method_47_code
def yX9_has : MethodName := ⟨RX9, "has", "(II)Z"⟩
abbrev cX9_sits : ByteArray := prog_11_method_48_code
def yX9_sits : MethodName := ⟨RX9, "sits", "(II)Z"⟩
abbrev cX9_goesThrough : ByteArray := prog_11_method_49_code
def yX9_goesThrough : MethodName := ⟨RX9, "goesThrough", "(II)V"⟩
abbrev cX9_aNight : ByteArray := prog_11_method_50_code
def yX9_aNight : MethodName := ⟨RX9, "aNight", "()V"⟩
abbrev cX9_takesKnown : ByteArray := prog_11_method_51_code
def yX9_takesKnown : MethodName := ⟨RX9, "takesKnown", "()V"⟩
abbrev cX9_putsKnown : ByteArray := prog_11_method_52_code
def yX9_putsKnown : MethodName := ⟨RX9, "putsKnown", "()V"⟩
abbrev cX9_rehearse : ByteArray := prog_11_method_53_code
def yX9_rehearse : MethodName := ⟨RX9, "rehearse", "(II)I"⟩
abbrev cX9_night : ByteArray := prog_11_method_54_code
def yX9_night : MethodName := ⟨RX9, "night", "()I"⟩
abbrev cX9_known : ByteArray := prog_11_method_55_code
def yX9_known : MethodName := ⟨RX9, "known", "(I)I"⟩
abbrev cX9_sat : ByteArray := prog_11_method_56_code
def yX9_sat : MethodName := ⟨RX9, "sat", "(I)I"⟩
abbrev cX9_minutesOf : ByteArray := prog_11_method_57_code
def yX9_minutesOf : MethodName := ⟨RX9, "minutesOf", "(I)I"⟩
abbrev cX9_slipsOf : ByteArray := prog_11_method_58_code
def yX9_slipsOf : MethodName := ⟨RX9, "slipsOf", "(II)I"⟩
abbrev cX9_allSlips : ByteArray := prog_11_method_59_code
def yX9_allSlips : MethodName := ⟨RX9, "allSlips", "(I)I"⟩
abbrev cX9_slips : ByteArray := prog_11_method_60_code
def yX9_slips : MethodName := ⟨RX9, "slips", "(I)I"⟩
abbrev cX9_cut : ByteArray := prog_11_method_61_code
def yX9_cut : MethodName := ⟨RX9, "cut", "()I"⟩
abbrev cX9_leastKnown : ByteArray := prog_11_method_62_code
def yX9_leastKnown : MethodName := ⟨RX9, "leastKnown", "()I"⟩
abbrev cX9_plan : ByteArray := prog_11_method_63_code
def yX9_plan : MethodName := ⟨RX9, "plan", "(III)I"⟩
abbrev cX9_behind : ByteArray := prog_11_method_64_code
def yX9_behind : MethodName := ⟨RX9, "behind", "(II)I"⟩
abbrev cX9_isWell : ByteArray := prog_11_method_65_code
def yX9_isWell : MethodName := ⟨RX9, "isWell", "(II)Z"⟩
abbrev cX9_goes : ByteArray := prog_11_method_66_code
def yX9_goes : MethodName := ⟨RX9, "goes", "(I)Z"⟩
abbrev cX9_whole : ByteArray := prog_11_method_67_code
def yX9_whole : MethodName := ⟨RX9, "whole", "()J"⟩
abbrev cX9_oddsOf : ByteArray := prog_11_method_68_code
def yX9_oddsOf : MethodName := ⟨RX9, "oddsOf", "()J"⟩
abbrev cX9_tell : ByteArray := prog_11_method_69_code
def yX9_tell : MethodName := ⟨RX9, "tell", "(JJ)I"⟩
abbrev cX9_odds : ByteArray := prog_11_method_70_code
def yX9_odds : MethodName := ⟨RX9, "odds", "()I"⟩
abbrev cX9_hours : ByteArray := prog_11_method_71_code
def yX9_hours : MethodName := ⟨RX9, "hours", "(II)I"⟩
abbrev cX9_next : ByteArray := prog_11_method_72_code
def yX9_next : MethodName := ⟨RX9, "next", "()I"⟩
abbrev cX9_hot : ByteArray := prog_11_method_73_code
def yX9_hot : MethodName := ⟨RX9, "hot", "(II)I"⟩
abbrev cX9_takesWishes : ByteArray := prog_11_method_74_code
def yX9_takesWishes : MethodName := ⟨RX9, "takesWishes", "()V"⟩
abbrev cX9_isFree : ByteArray := prog_11_method_75_code
def yX9_isFree : MethodName := ⟨RX9, "isFree", "(I)Z"⟩
abbrev cX9_gives : ByteArray := prog_11_method_76_code
def yX9_gives : MethodName := ⟨RX9, "gives", "(II)V"⟩
abbrev cX9_layLots : ByteArray := prog_11_method_77_code
def yX9_layLots : MethodName := ⟨RX9, "layLots", "(I)V"⟩
abbrev cX9_lots : ByteArray := prog_11_method_78_code
def yX9_lots : MethodName := ⟨RX9, "lots", "(II)I"⟩
abbrev cX9_rankOrLast : ByteArray := prog_11_method_79_code
def yX9_rankOrLast : MethodName := ⟨RX9, "rankOrLast", "(II)I"⟩
abbrev cX9_gainsOne : ByteArray := prog_11_method_80_code
def yX9_gainsOne : MethodName := ⟨RX9, "gainsOne", "(II)Z"⟩
abbrev cX9_gains : ByteArray := prog_11_method_81_code
def yX9_gains : MethodName := ⟨RX9, "gains", "(I)I"⟩
abbrev cX9_power : ByteArray := prog_11_method_82_code
def yX9_power : MethodName := ⟨RX9, "power", "(JI)J"⟩
abbrev cX9_tried : ByteArray := prog_11_method_83_code
def yX9_tried : MethodName := ⟨RX9, "tried", "(IIIII)I"⟩
abbrev cX9_year : ByteArray := prog_11_method_84_code
def yX9_year : MethodName := ⟨RX9, "year", "(I)I"⟩
abbrev cX9_forget : ByteArray := prog_11_method_85_code
def yX9_forget : MethodName := ⟨RX9, "forget", "()I"⟩
abbrev cX9_leanOf : ByteArray := prog_11_method_86_code
def yX9_leanOf : MethodName := ⟨RX9, "leanOf", "(I)J"⟩
abbrev cX9_leans : ByteArray := prog_11_method_87_code
def yX9_leans : MethodName := ⟨RX9, "leans", "(I)I"⟩
abbrev cX9_limbs : ByteArray := prog_11_method_88_code
def yX9_limbs : MethodName := ⟨RX9, "limbs", "(J)I"⟩
abbrev cX9_limbOf : ByteArray := prog_11_method_89_code
def yX9_limbOf : MethodName := ⟨RX9, "limbOf", "(JI)I"⟩
abbrev cX9_signOf : ByteArray := prog_11_method_90_code
def yX9_signOf : MethodName := ⟨RX9, "signOf", "(I)I"⟩
abbrev cX9_sign : ByteArray := prog_11_method_91_code
def yX9_sign : MethodName := ⟨RX9, "sign", "(I)I"⟩
abbrev cX9_limb : ByteArray := prog_11_method_92_code
def yX9_limb : MethodName := ⟨RX9, "limb", "(II)I"⟩
abbrev cX9_copies : ByteArray := prog_11_method_93_code
def yX9_copies : MethodName := ⟨RX9, "copies", "(II)V"⟩
abbrev cX9_image : ByteArray := prog_11_method_94_code
def yX9_image : MethodName := ⟨RX9, "image", "(I)I"⟩
abbrev cX9_from : ByteArray := prog_11_method_95_code
def yX9_from : MethodName := ⟨RX9, "from", "(I)I"⟩
abbrev cX9_status : ByteArray := prog_11_method_96_code
def yX9_status : MethodName := ⟨RX9, "status", "(I)I"⟩
abbrev cX9_countOf : ByteArray := prog_11_method_97_code
def yX9_countOf : MethodName := ⟨RX9, "countOf", "(I)I"⟩
abbrev cX9_count : ByteArray := prog_11_method_98_code
def yX9_count : MethodName := ⟨RX9, "count", "(I)I"⟩
abbrev cX9_notes : ByteArray := prog_11_method_99_code
def yX9_notes : MethodName := ⟨RX9, "notes", "(J)V"⟩
abbrev cX9_notesRow : ByteArray := prog_11_method_100_code
def yX9_notesRow : MethodName := ⟨RX9, "notesRow", "(II)V"⟩
abbrev cX9_digest : ByteArray := prog_11_method_101_code
def yX9_digest : MethodName := ⟨RX9, "digest", "()J"⟩
def RJ6 : String := "java/lang/Integer"
def TJ6 : u_T := fun k => match k with
  | _ => ("", "", "", false)
def tyJ6 : Nat → FieldType := fun k => match k with
  | _ => .int
abbrev wsJ60 : List Cond := u_ws RJ6 TJ6 0
theorem nmJ6 : ∀ a, a < 0 → ∀ b, b < 0 → a ≠ b → (TJ6 a).2.1 ≠ (TJ6 b).2.1 := by decide +kernel
theorem tyJ6_ok : ∀ k, k < 0 → parseFieldDescriptor (TJ6 k).2.2.1 = some (tyJ6 k) := by decide +kernel
abbrev cJ6_bitCount_0f7a4 : ByteArray := prog_12_method_49_code
def yJ6_bitCount_0f7a4 : MethodName := ⟨RJ6, "bitCount", "(I)I"⟩
def RJ9 : String := "java/lang/Math"
def TJ9 : u_T := fun k => match k with
  | _ => ("", "", "", false)
def tyJ9 : Nat → FieldType := fun k => match k with
  | _ => .int
abbrev wsJ90 : List Cond := u_ws RJ9 TJ9 0
theorem nmJ9 : ∀ a, a < 0 → ∀ b, b < 0 → a ≠ b → (TJ9 a).2.1 ≠ (TJ9 b).2.1 := by decide +kernel
theorem tyJ9_ok : ∀ k, k < 0 → parseFieldDescriptor (TJ9 k).2.2.1 = some (tyJ9 k) := by decide +kernel
abbrev cJ9_abs_0f7a4 : ByteArray := prog_13_method_59_code
def yJ9_abs_0f7a4 : MethodName := ⟨RJ9, "abs", "(I)I"⟩
abbrev cJ9_max_7cf53 : ByteArray := prog_13_method_65_code
def yJ9_max_7cf53 : MethodName := ⟨RJ9, "max", "(II)I"⟩
abbrev cJ9_min_7cf53 : ByteArray := prog_13_method_69_code
def yJ9_min_7cf53 : MethodName := ⟨RJ9, "min", "(II)I"⟩
def RJ0 : String := "java/lang/String"
def TJ0 : u_T := fun k => match k with
  | _ => ("", "", "", false)
def tyJ0 : Nat → FieldType := fun k => match k with
  | _ => .int
abbrev wsJ00 : List Cond := u_ws RJ0 TJ0 0
theorem nmJ0 : ∀ a, a < 0 → ∀ b, b < 0 → a ≠ b → (TJ0 a).2.1 ≠ (TJ0 b).2.1 := by decide +kernel
theorem tyJ0_ok : ∀ k, k < 0 → parseFieldDescriptor (TJ0 k).2.2.1 = some (tyJ0 k) := by decide +kernel
abbrev cJ0_length_8abf5 : ByteArray := prog_14_method_54_code
def yJ0_length_8abf5 : MethodName := ⟨RJ0, "length", "()I"⟩
abbrev cJ0_charAt_5068e : ByteArray := prog_14_method_56_code
def yJ0_charAt_5068e : MethodName := ⟨RJ0, "charAt", "(I)C"⟩
abbrev cJ0_coder_7d493 : ByteArray := prog_14_method_152_code
def yJ0_coder_7d493 : MethodName := ⟨RJ0, "coder", "()B"⟩
abbrev cJ0_isLatin1_aae02 : ByteArray := prog_14_method_154_code
def yJ0_isLatin1_aae02 : MethodName := ⟨RJ0, "isLatin1", "()Z"⟩
abbrev cJ0_checkIndex_df160 : ByteArray := prog_14_method_155_code
def yJ0_checkIndex_df160 : MethodName := ⟨RJ0, "checkIndex", "(II)V"⟩
def RJ1 : String := "java/lang/StringLatin1"
def TJ1 : u_T := fun k => match k with
  | _ => ("", "", "", false)
def tyJ1 : Nat → FieldType := fun k => match k with
  | _ => .int
abbrev wsJ10 : List Cond := u_ws RJ1 TJ1 0
theorem nmJ1 : ∀ a, a < 0 → ∀ b, b < 0 → a ≠ b → (TJ1 a).2.1 ≠ (TJ1 b).2.1 := by decide +kernel
theorem tyJ1_ok : ∀ k, k < 0 → parseFieldDescriptor (TJ1 k).2.2.1 = some (tyJ1 k) := by decide +kernel
abbrev cJ1_charAt_3b067 : ByteArray := prog_15_method_2_code
def yJ1_charAt_3b067 : MethodName := ⟨RJ1, "charAt", "([BI)C"⟩
def RJ2 : String := "java/lang/StringUTF16"
def TJ2 : u_T := fun k => match k with
  | _ => ("", "", "", false)
def tyJ2 : Nat → FieldType := fun k => match k with
  | _ => .int
abbrev wsJ20 : List Cond := u_ws RJ2 TJ2 0
theorem nmJ2 : ∀ a, a < 0 → ∀ b, b < 0 → a ≠ b → (TJ2 a).2.1 ≠ (TJ2 b).2.1 := by decide +kernel
theorem tyJ2_ok : ∀ k, k < 0 → parseFieldDescriptor (TJ2 k).2.2.1 = some (tyJ2 k) := by decide +kernel
abbrev cJ2_getChar_3b067 : ByteArray := prog_16_method_5_code
def yJ2_getChar_3b067 : MethodName := ⟨RJ2, "getChar", "([BI)C"⟩
abbrev cJ2_length_9d52b : ByteArray := prog_16_method_6_code
def yJ2_length_9d52b : MethodName := ⟨RJ2, "length", "([B)I"⟩
abbrev cJ2_charAt_3b067 : ByteArray := prog_16_method_83_code
def yJ2_charAt_3b067 : MethodName := ⟨RJ2, "charAt", "([BI)C"⟩
abbrev cJ2_checkIndex_2214a : ByteArray := prog_16_method_91_code
def yJ2_checkIndex_2214a : MethodName := ⟨RJ2, "checkIndex", "(I[B)V"⟩
def RJ3 : String := "jdk/internal/util/Preconditions"
def TJ3 : u_T := fun k => match k with
  | _ => ("", "", "", false)
def tyJ3 : Nat → FieldType := fun k => match k with
  | _ => .int
abbrev wsJ30 : List Cond := u_ws RJ3 TJ3 0
theorem nmJ3 : ∀ a, a < 0 → ∀ b, b < 0 → a ≠ b → (TJ3 a).2.1 ≠ (TJ3 b).2.1 := by decide +kernel
theorem tyJ3_ok : ∀ k, k < 0 → parseFieldDescriptor (TJ3 k).2.2.1 = some (tyJ3 k) := by decide +kernel
abbrev cJ3_checkIndex_8e157 : ByteArray := prog_17_method_11_code
def yJ3_checkIndex_8e157 : MethodName := ⟨RJ3, "checkIndex", "(IILjava/util/function/BiFunction;)I"⟩
def RL : String := "SchoolPlayLaw"
abbrev cL_law : ByteArray := code
def yL_law : MethodName := ⟨RL, "law", "([I)Z"⟩
abbrev vwCl : List vw_C := [(RX0, TX0, 12), (RX1, TX1, 6), (RX2, TX2, 2), (RX3, TX3, 5), (RX4, TX4, 13), (RX5, TX5, 7), (RX6, TX6, 14), (RX7, TX7, 11), (RX8, TX8, 10), (RX9, TX9, 22)]
