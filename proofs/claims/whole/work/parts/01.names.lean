/-- a private method of a class that the tables say can be made, by its rows of tables_1 -/
def lw_okq (q : MethodName × Nat) : Prop := (q.1.cls ≠ "java/lang/invoke/MethodHandle" ∧ q.1.cls ≠ "java/lang/invoke/VarHandle") ∧ Cond.instantiable q.1.cls q.2 ∈ tables_1 ∧ Cond.privateMethod q.1 ∈ tables_1 ∧ Cond.instanceMethod q.1 ∈ tables_1
theorem lw_p0 : lw_okq (⟨"ShownNot$Chart", "ringsFrom", "(II)I"⟩, 10) := ⟨⟨by decide +kernel, by decide +kernel⟩, List.mem_of_getElem? (i := 113) (by decide +kernel), List.mem_of_getElem? (i := 485) (by decide +kernel), List.mem_of_getElem? (i := 486) (by decide +kernel)⟩
theorem lw_p1 : lw_okq (⟨"ShownNot$Chart", "turnsFrom", "(LShownNot$Chart;II)I"⟩, 10) := ⟨⟨by decide +kernel, by decide +kernel⟩, List.mem_of_getElem? (i := 113) (by decide +kernel), List.mem_of_getElem? (i := 497) (by decide +kernel), List.mem_of_getElem? (i := 498) (by decide +kernel)⟩
theorem lw_p2 : lw_okq (⟨"ShownNot$Chart", "fits", "(LShownNot$Chart;II)Z"⟩, 10) := ⟨⟨by decide +kernel, by decide +kernel⟩, List.mem_of_getElem? (i := 113) (by decide +kernel), List.mem_of_getElem? (i := 501) (by decide +kernel), List.mem_of_getElem? (i := 502) (by decide +kernel)⟩
theorem lw_p3 : lw_okq (⟨"ShownNot$Reader", "splitTape", "()V"⟩, 14) := ⟨⟨by decide +kernel, by decide +kernel⟩, List.mem_of_getElem? (i := 219) (by decide +kernel), List.mem_of_getElem? (i := 533) (by decide +kernel), List.mem_of_getElem? (i := 534) (by decide +kernel)⟩
theorem lw_p4 : lw_okq (⟨"ShownNot$Reader", "splitToken", "(I)I"⟩, 14) := ⟨⟨by decide +kernel, by decide +kernel⟩, List.mem_of_getElem? (i := 219) (by decide +kernel), List.mem_of_getElem? (i := 537) (by decide +kernel), List.mem_of_getElem? (i := 538) (by decide +kernel)⟩
theorem lw_p5 : lw_okq (⟨"ShownNot$Reader", "splitWord", "(I)I"⟩, 14) := ⟨⟨by decide +kernel, by decide +kernel⟩, List.mem_of_getElem? (i := 219) (by decide +kernel), List.mem_of_getElem? (i := 544) (by decide +kernel), List.mem_of_getElem? (i := 545) (by decide +kernel)⟩
theorem lw_p6 : lw_okq (⟨"ShownNot$Reader", "wordAt", "(II)I"⟩, 14) := ⟨⟨by decide +kernel, by decide +kernel⟩, List.mem_of_getElem? (i := 219) (by decide +kernel), List.mem_of_getElem? (i := 548) (by decide +kernel), List.mem_of_getElem? (i := 549) (by decide +kernel)⟩
theorem lw_p7 : lw_okq (⟨"ShownNot$Reader", "spells", "(IILjava/lang/String;)Z"⟩, 14) := ⟨⟨by decide +kernel, by decide +kernel⟩, List.mem_of_getElem? (i := 219) (by decide +kernel), List.mem_of_getElem? (i := 638) (by decide +kernel), List.mem_of_getElem? (i := 639) (by decide +kernel)⟩
theorem lw_p8 : lw_okq (⟨"ShownNot$Reader", "splitNumber", "(I)I"⟩, 14) := ⟨⟨by decide +kernel, by decide +kernel⟩, List.mem_of_getElem? (i := 219) (by decide +kernel), List.mem_of_getElem? (i := 675) (by decide +kernel), List.mem_of_getElem? (i := 676) (by decide +kernel)⟩
theorem lw_p9 : lw_okq (⟨"ShownNot$Reader", "readClause", "()Z"⟩, 14) := ⟨⟨by decide +kernel, by decide +kernel⟩, List.mem_of_getElem? (i := 219) (by decide +kernel), List.mem_of_getElem? (i := 681) (by decide +kernel), List.mem_of_getElem? (i := 682) (by decide +kernel)⟩
theorem lw_p10 : lw_okq (⟨"ShownNot$Reader", "fail", "(I)Z"⟩, 14) := ⟨⟨by decide +kernel, by decide +kernel⟩, List.mem_of_getElem? (i := 219) (by decide +kernel), List.mem_of_getElem? (i := 685) (by decide +kernel), List.mem_of_getElem? (i := 686) (by decide +kernel)⟩
theorem lw_p11 : lw_okq (⟨"ShownNot$Reader", "step", "()V"⟩, 14) := ⟨⟨by decide +kernel, by decide +kernel⟩, List.mem_of_getElem? (i := 219) (by decide +kernel), List.mem_of_getElem? (i := 690) (by decide +kernel), List.mem_of_getElem? (i := 691) (by decide +kernel)⟩
theorem lw_p12 : lw_okq (⟨"ShownNot$Reader", "readSwap", "()Z"⟩, 14) := ⟨⟨by decide +kernel, by decide +kernel⟩, List.mem_of_getElem? (i := 219) (by decide +kernel), List.mem_of_getElem? (i := 694) (by decide +kernel), List.mem_of_getElem? (i := 695) (by decide +kernel)⟩
theorem lw_p13 : lw_okq (⟨"ShownNot$Reader", "readAsk", "()Z"⟩, 14) := ⟨⟨by decide +kernel, by decide +kernel⟩, List.mem_of_getElem? (i := 219) (by decide +kernel), List.mem_of_getElem? (i := 698) (by decide +kernel), List.mem_of_getElem? (i := 699) (by decide +kernel)⟩
theorem lw_p14 : lw_okq (⟨"ShownNot$Reader", "readEither", "()Z"⟩, 14) := ⟨⟨by decide +kernel, by decide +kernel⟩, List.mem_of_getElem? (i := 219) (by decide +kernel), List.mem_of_getElem? (i := 702) (by decide +kernel), List.mem_of_getElem? (i := 703) (by decide +kernel)⟩
theorem lw_p15 : lw_okq (⟨"ShownNot$Reader", "readBoth", "()Z"⟩, 14) := ⟨⟨by decide +kernel, by decide +kernel⟩, List.mem_of_getElem? (i := 219) (by decide +kernel), List.mem_of_getElem? (i := 706) (by decide +kernel), List.mem_of_getElem? (i := 707) (by decide +kernel)⟩
def lw_privs_1 : List (MethodName × Nat) := [(⟨"ShownNot$Chart", "ringsFrom", "(II)I"⟩, 10), (⟨"ShownNot$Chart", "turnsFrom", "(LShownNot$Chart;II)I"⟩, 10), (⟨"ShownNot$Chart", "fits", "(LShownNot$Chart;II)Z"⟩, 10), (⟨"ShownNot$Reader", "splitTape", "()V"⟩, 14), (⟨"ShownNot$Reader", "splitToken", "(I)I"⟩, 14), (⟨"ShownNot$Reader", "splitWord", "(I)I"⟩, 14), (⟨"ShownNot$Reader", "wordAt", "(II)I"⟩, 14), (⟨"ShownNot$Reader", "spells", "(IILjava/lang/String;)Z"⟩, 14), (⟨"ShownNot$Reader", "splitNumber", "(I)I"⟩, 14), (⟨"ShownNot$Reader", "readClause", "()Z"⟩, 14), (⟨"ShownNot$Reader", "fail", "(I)Z"⟩, 14), (⟨"ShownNot$Reader", "step", "()V"⟩, 14), (⟨"ShownNot$Reader", "readSwap", "()Z"⟩, 14), (⟨"ShownNot$Reader", "readAsk", "()Z"⟩, 14), (⟨"ShownNot$Reader", "readEither", "()Z"⟩, 14), (⟨"ShownNot$Reader", "readBoth", "()Z"⟩, 14)]
theorem lw_r1 : ∀ q ∈ lw_privs_1, lw_okq q := List.forall_mem_cons.mpr ⟨lw_p0, List.forall_mem_cons.mpr ⟨lw_p1, List.forall_mem_cons.mpr ⟨lw_p2, List.forall_mem_cons.mpr ⟨lw_p3, List.forall_mem_cons.mpr ⟨lw_p4, List.forall_mem_cons.mpr ⟨lw_p5, List.forall_mem_cons.mpr ⟨lw_p6, List.forall_mem_cons.mpr ⟨lw_p7, List.forall_mem_cons.mpr ⟨lw_p8, List.forall_mem_cons.mpr ⟨lw_p9, List.forall_mem_cons.mpr ⟨lw_p10, List.forall_mem_cons.mpr ⟨lw_p11, List.forall_mem_cons.mpr ⟨lw_p12, List.forall_mem_cons.mpr ⟨lw_p13, List.forall_mem_cons.mpr ⟨lw_p14, List.forall_mem_cons.mpr ⟨lw_p15, fun _ h => absurd h List.not_mem_nil⟩⟩⟩⟩⟩⟩⟩⟩⟩⟩⟩⟩⟩⟩⟩⟩
theorem lw_p16 : lw_okq (⟨"ShownNot$Reader", "readAsked", "(I)Z"⟩, 14) := ⟨⟨by decide +kernel, by decide +kernel⟩, List.mem_of_getElem? (i := 219) (by decide +kernel), List.mem_of_getElem? (i := 710) (by decide +kernel), List.mem_of_getElem? (i := 711) (by decide +kernel)⟩
theorem lw_p17 : lw_okq (⟨"ShownNot$Reader", "readSum", "(I)Z"⟩, 14) := ⟨⟨by decide +kernel, by decide +kernel⟩, List.mem_of_getElem? (i := 219) (by decide +kernel), List.mem_of_getElem? (i := 718) (by decide +kernel), List.mem_of_getElem? (i := 719) (by decide +kernel)⟩
theorem lw_p18 : lw_okq (⟨"ShownNot$Reader", "readProduct", "(I)Z"⟩, 14) := ⟨⟨by decide +kernel, by decide +kernel⟩, List.mem_of_getElem? (i := 219) (by decide +kernel), List.mem_of_getElem? (i := 722) (by decide +kernel), List.mem_of_getElem? (i := 723) (by decide +kernel)⟩
theorem lw_p19 : lw_okq (⟨"ShownNot$Reader", "readOne", "(I)Z"⟩, 14) := ⟨⟨by decide +kernel, by decide +kernel⟩, List.mem_of_getElem? (i := 219) (by decide +kernel), List.mem_of_getElem? (i := 726) (by decide +kernel), List.mem_of_getElem? (i := 727) (by decide +kernel)⟩
theorem lw_p20 : lw_okq (⟨"ShownNot$Reader", "readOpened", "(I)Z"⟩, 14) := ⟨⟨by decide +kernel, by decide +kernel⟩, List.mem_of_getElem? (i := 219) (by decide +kernel), List.mem_of_getElem? (i := 730) (by decide +kernel), List.mem_of_getElem? (i := 731) (by decide +kernel)⟩
theorem lw_p21 : lw_okq (⟨"ShownNot$JudgeCode", "openingsBelieved", "(I)I"⟩, 8) := ⟨⟨by decide +kernel, by decide +kernel⟩, List.mem_of_getElem? (i := 225) (by decide +kernel), List.mem_of_getElem? (i := 748) (by decide +kernel), List.mem_of_getElem? (i := 749) (by decide +kernel)⟩
theorem lw_p22 : lw_okq (⟨"ShownNot$JudgeCode", "isSo", "()Z"⟩, 8) := ⟨⟨by decide +kernel, by decide +kernel⟩, List.mem_of_getElem? (i := 225) (by decide +kernel), List.mem_of_getElem? (i := 752) (by decide +kernel), List.mem_of_getElem? (i := 753) (by decide +kernel)⟩
theorem lw_p23 : lw_okq (⟨"ShownNot$JudgeCode", "valueOf", "(II)J"⟩, 8) := ⟨⟨by decide +kernel, by decide +kernel⟩, List.mem_of_getElem? (i := 225) (by decide +kernel), List.mem_of_getElem? (i := 757) (by decide +kernel), List.mem_of_getElem? (i := 758) (by decide +kernel)⟩
theorem lw_p24 : lw_okq (⟨"ShownNot", "playFor", "(II)Z"⟩, 7) := ⟨⟨by decide +kernel, by decide +kernel⟩, List.mem_of_getElem? (i := 23) (by decide +kernel), List.mem_of_getElem? (i := 787) (by decide +kernel), List.mem_of_getElem? (i := 788) (by decide +kernel)⟩
theorem lw_p25 : lw_okq (⟨"ShownNot$Play", "addAsking", "(II[I)V"⟩, 17) := ⟨⟨by decide +kernel, by decide +kernel⟩, List.mem_of_getElem? (i := 303) (by decide +kernel), List.mem_of_getElem? (i := 802) (by decide +kernel), List.mem_of_getElem? (i := 803) (by decide +kernel)⟩
theorem lw_p26 : lw_okq (⟨"ShownNot$Play", "forgetFound", "()V"⟩, 17) := ⟨⟨by decide +kernel, by decide +kernel⟩, List.mem_of_getElem? (i := 303) (by decide +kernel), List.mem_of_getElem? (i := 823) (by decide +kernel), List.mem_of_getElem? (i := 824) (by decide +kernel)⟩
theorem lw_p27 : lw_okq (⟨"ShownNot$Play", "fillRefusing", "()V"⟩, 17) := ⟨⟨by decide +kernel, by decide +kernel⟩, List.mem_of_getElem? (i := 303) (by decide +kernel), List.mem_of_getElem? (i := 827) (by decide +kernel), List.mem_of_getElem? (i := 828) (by decide +kernel)⟩
theorem lw_p28 : lw_okq (⟨"ShownNot$Play", "countBelieved", "(I)I"⟩, 17) := ⟨⟨by decide +kernel, by decide +kernel⟩, List.mem_of_getElem? (i := 303) (by decide +kernel), List.mem_of_getElem? (i := 863) (by decide +kernel), List.mem_of_getElem? (i := 864) (by decide +kernel)⟩
theorem lw_p29 : lw_okq (⟨"ShownNot", "nightsUntil", "(I)I"⟩, 7) := ⟨⟨by decide +kernel, by decide +kernel⟩, List.mem_of_getElem? (i := 23) (by decide +kernel), List.mem_of_getElem? (i := 872) (by decide +kernel), List.mem_of_getElem? (i := 873) (by decide +kernel)⟩
theorem lw_p30 : lw_okq (⟨"ShownNot$Play", "fillLowest", "()V"⟩, 17) := ⟨⟨by decide +kernel, by decide +kernel⟩, List.mem_of_getElem? (i := 303) (by decide +kernel), List.mem_of_getElem? (i := 897) (by decide +kernel), List.mem_of_getElem? (i := 898) (by decide +kernel)⟩
theorem lw_p31 : lw_okq (⟨"ShownNot$Play", "findTellingPair", "()Z"⟩, 17) := ⟨⟨by decide +kernel, by decide +kernel⟩, List.mem_of_getElem? (i := 303) (by decide +kernel), List.mem_of_getElem? (i := 902) (by decide +kernel), List.mem_of_getElem? (i := 903) (by decide +kernel)⟩
def lw_privs_2 : List (MethodName × Nat) := [(⟨"ShownNot$Reader", "readAsked", "(I)Z"⟩, 14), (⟨"ShownNot$Reader", "readSum", "(I)Z"⟩, 14), (⟨"ShownNot$Reader", "readProduct", "(I)Z"⟩, 14), (⟨"ShownNot$Reader", "readOne", "(I)Z"⟩, 14), (⟨"ShownNot$Reader", "readOpened", "(I)Z"⟩, 14), (⟨"ShownNot$JudgeCode", "openingsBelieved", "(I)I"⟩, 8), (⟨"ShownNot$JudgeCode", "isSo", "()Z"⟩, 8), (⟨"ShownNot$JudgeCode", "valueOf", "(II)J"⟩, 8), (⟨"ShownNot", "playFor", "(II)Z"⟩, 7), (⟨"ShownNot$Play", "addAsking", "(II[I)V"⟩, 17), (⟨"ShownNot$Play", "forgetFound", "()V"⟩, 17), (⟨"ShownNot$Play", "fillRefusing", "()V"⟩, 17), (⟨"ShownNot$Play", "countBelieved", "(I)I"⟩, 17), (⟨"ShownNot", "nightsUntil", "(I)I"⟩, 7), (⟨"ShownNot$Play", "fillLowest", "()V"⟩, 17), (⟨"ShownNot$Play", "findTellingPair", "()Z"⟩, 17)]
theorem lw_r2 : ∀ q ∈ lw_privs_2, lw_okq q := List.forall_mem_cons.mpr ⟨lw_p16, List.forall_mem_cons.mpr ⟨lw_p17, List.forall_mem_cons.mpr ⟨lw_p18, List.forall_mem_cons.mpr ⟨lw_p19, List.forall_mem_cons.mpr ⟨lw_p20, List.forall_mem_cons.mpr ⟨lw_p21, List.forall_mem_cons.mpr ⟨lw_p22, List.forall_mem_cons.mpr ⟨lw_p23, List.forall_mem_cons.mpr ⟨lw_p24, List.forall_mem_cons.mpr ⟨lw_p25, List.forall_mem_cons.mpr ⟨lw_p26, List.forall_mem_cons.mpr ⟨lw_p27, List.forall_mem_cons.mpr ⟨lw_p28, List.forall_mem_cons.mpr ⟨lw_p29, List.forall_mem_cons.mpr ⟨lw_p30, List.forall_mem_cons.mpr ⟨lw_p31, fun _ h => absurd h List.not_mem_nil⟩⟩⟩⟩⟩⟩⟩⟩⟩⟩⟩⟩⟩⟩⟩⟩
theorem lw_p32 : lw_okq (⟨"ShownNot$Play", "firstTold", "(II)I"⟩, 17) := ⟨⟨by decide +kernel, by decide +kernel⟩, List.mem_of_getElem? (i := 303) (by decide +kernel), List.mem_of_getElem? (i := 906) (by decide +kernel), List.mem_of_getElem? (i := 907) (by decide +kernel)⟩
theorem lw_p33 : lw_okq (⟨"ShownNot$Sightings", "swapsMaking", "(IIII)I"⟩, 2) := ⟨⟨by decide +kernel, by decide +kernel⟩, List.mem_of_getElem? (i := 41) (by decide +kernel), List.mem_of_getElem? (i := 932) (by decide +kernel), List.mem_of_getElem? (i := 933) (by decide +kernel)⟩
theorem lw_p34 : lw_okq (⟨"ShownNot$Play", "isSwapOf", "(II)Z"⟩, 17) := ⟨⟨by decide +kernel, by decide +kernel⟩, List.mem_of_getElem? (i := 303) (by decide +kernel), List.mem_of_getElem? (i := 951) (by decide +kernel), List.mem_of_getElem? (i := 952) (by decide +kernel)⟩
theorem lw_p35 : lw_okq (⟨"ShownNot$Lock", "firstShowing", "(II)I"⟩, 5) := ⟨⟨by decide +kernel, by decide +kernel⟩, List.mem_of_getElem? (i := 73) (by decide +kernel), List.mem_of_getElem? (i := 1017) (by decide +kernel), List.mem_of_getElem? (i := 1018) (by decide +kernel)⟩
theorem lw_p36 : lw_okq (⟨"ShownNot$Lock", "drawsShowing", "(II)I"⟩, 5) := ⟨⟨by decide +kernel, by decide +kernel⟩, List.mem_of_getElem? (i := 73) (by decide +kernel), List.mem_of_getElem? (i := 1028) (by decide +kernel), List.mem_of_getElem? (i := 1029) (by decide +kernel)⟩
theorem lw_p37 : lw_okq (⟨"ShownNot$Play", "isFalseBelieved", "(III)Z"⟩, 17) := ⟨⟨by decide +kernel, by decide +kernel⟩, List.mem_of_getElem? (i := 303) (by decide +kernel), List.mem_of_getElem? (i := 1043) (by decide +kernel), List.mem_of_getElem? (i := 1044) (by decide +kernel)⟩
theorem lw_p38 : lw_okq (⟨"ShownNot$Riddle", "isSign", "(I)Z"⟩, 3) := ⟨⟨by decide +kernel, by decide +kernel⟩, List.mem_of_getElem? (i := 96) (by decide +kernel), List.mem_of_getElem? (i := 1082) (by decide +kernel), List.mem_of_getElem? (i := 1083) (by decide +kernel)⟩
theorem lw_p39 : lw_okq (⟨"ShownNot$Riddle", "isSolvedBy", "(I)Z"⟩, 3) := ⟨⟨by decide +kernel, by decide +kernel⟩, List.mem_of_getElem? (i := 96) (by decide +kernel), List.mem_of_getElem? (i := 1098) (by decide +kernel), List.mem_of_getElem? (i := 1099) (by decide +kernel)⟩
theorem lw_p40 : lw_okq (⟨"ShownNot$Riddle", "signPaint", "(III)I"⟩, 3) := ⟨⟨by decide +kernel, by decide +kernel⟩, List.mem_of_getElem? (i := 96) (by decide +kernel), List.mem_of_getElem? (i := 1102) (by decide +kernel), List.mem_of_getElem? (i := 1103) (by decide +kernel)⟩
theorem lw_p41 : lw_okq (⟨"ShownNot", "findMending", "(LShownNot$Showing;LShownNot$Chart;LShownNot$Chart;)I"⟩, 7) := ⟨⟨by decide +kernel, by decide +kernel⟩, List.mem_of_getElem? (i := 23) (by decide +kernel), List.mem_of_getElem? (i := 1137) (by decide +kernel), List.mem_of_getElem? (i := 1138) (by decide +kernel)⟩
theorem lw_p42 : lw_okq (⟨"ShownNot", "mends", "(LShownNot$Showing;LShownNot$Chart;LShownNot$Chart;I)Z"⟩, 7) := ⟨⟨by decide +kernel, by decide +kernel⟩, List.mem_of_getElem? (i := 23) (by decide +kernel), List.mem_of_getElem? (i := 1146) (by decide +kernel), List.mem_of_getElem? (i := 1147) (by decide +kernel)⟩
theorem lw_p43 : lw_okq (⟨"ShownNot", "aboutMap", "(II)I"⟩, 7) := ⟨⟨by decide +kernel, by decide +kernel⟩, List.mem_of_getElem? (i := 23) (by decide +kernel), List.mem_of_getElem? (i := 1201) (by decide +kernel), List.mem_of_getElem? (i := 1202) (by decide +kernel)⟩
theorem lw_p44 : lw_okq (⟨"ShownNot", "aboutShowing", "(II)I"⟩, 7) := ⟨⟨by decide +kernel, by decide +kernel⟩, List.mem_of_getElem? (i := 23) (by decide +kernel), List.mem_of_getElem? (i := 1205) (by decide +kernel), List.mem_of_getElem? (i := 1206) (by decide +kernel)⟩
theorem lw_p45 : lw_okq (⟨"ShownNotModel", "isMap", "(I)Z"⟩, 44) := ⟨⟨by decide +kernel, by decide +kernel⟩, List.mem_of_getElem? (i := 1209) (by decide +kernel), List.mem_of_getElem? (i := 1362) (by decide +kernel), List.mem_of_getElem? (i := 1363) (by decide +kernel)⟩
theorem lw_p46 : lw_okq (⟨"ShownNotModel", "isBorder", "(III)Z"⟩, 44) := ⟨⟨by decide +kernel, by decide +kernel⟩, List.mem_of_getElem? (i := 1209) (by decide +kernel), List.mem_of_getElem? (i := 1366) (by decide +kernel), List.mem_of_getElem? (i := 1367) (by decide +kernel)⟩
theorem lw_p47 : lw_okq (⟨"ShownNotModel", "oneOf", "(II)I"⟩, 44) := ⟨⟨by decide +kernel, by decide +kernel⟩, List.mem_of_getElem? (i := 1209) (by decide +kernel), List.mem_of_getElem? (i := 1370) (by decide +kernel), List.mem_of_getElem? (i := 1371) (by decide +kernel)⟩
def lw_privs_3 : List (MethodName × Nat) := [(⟨"ShownNot$Play", "firstTold", "(II)I"⟩, 17), (⟨"ShownNot$Sightings", "swapsMaking", "(IIII)I"⟩, 2), (⟨"ShownNot$Play", "isSwapOf", "(II)Z"⟩, 17), (⟨"ShownNot$Lock", "firstShowing", "(II)I"⟩, 5), (⟨"ShownNot$Lock", "drawsShowing", "(II)I"⟩, 5), (⟨"ShownNot$Play", "isFalseBelieved", "(III)Z"⟩, 17), (⟨"ShownNot$Riddle", "isSign", "(I)Z"⟩, 3), (⟨"ShownNot$Riddle", "isSolvedBy", "(I)Z"⟩, 3), (⟨"ShownNot$Riddle", "signPaint", "(III)I"⟩, 3), (⟨"ShownNot", "findMending", "(LShownNot$Showing;LShownNot$Chart;LShownNot$Chart;)I"⟩, 7), (⟨"ShownNot", "mends", "(LShownNot$Showing;LShownNot$Chart;LShownNot$Chart;I)Z"⟩, 7), (⟨"ShownNot", "aboutMap", "(II)I"⟩, 7), (⟨"ShownNot", "aboutShowing", "(II)I"⟩, 7), (⟨"ShownNotModel", "isMap", "(I)Z"⟩, 44), (⟨"ShownNotModel", "isBorder", "(III)Z"⟩, 44), (⟨"ShownNotModel", "oneOf", "(II)I"⟩, 44)]
theorem lw_r3 : ∀ q ∈ lw_privs_3, lw_okq q := List.forall_mem_cons.mpr ⟨lw_p32, List.forall_mem_cons.mpr ⟨lw_p33, List.forall_mem_cons.mpr ⟨lw_p34, List.forall_mem_cons.mpr ⟨lw_p35, List.forall_mem_cons.mpr ⟨lw_p36, List.forall_mem_cons.mpr ⟨lw_p37, List.forall_mem_cons.mpr ⟨lw_p38, List.forall_mem_cons.mpr ⟨lw_p39, List.forall_mem_cons.mpr ⟨lw_p40, List.forall_mem_cons.mpr ⟨lw_p41, List.forall_mem_cons.mpr ⟨lw_p42, List.forall_mem_cons.mpr ⟨lw_p43, List.forall_mem_cons.mpr ⟨lw_p44, List.forall_mem_cons.mpr ⟨lw_p45, List.forall_mem_cons.mpr ⟨lw_p46, List.forall_mem_cons.mpr ⟨lw_p47, fun _ h => absurd h List.not_mem_nil⟩⟩⟩⟩⟩⟩⟩⟩⟩⟩⟩⟩⟩⟩⟩⟩
theorem lw_p48 : lw_okq (⟨"ShownNotModel", "otherOf", "(II)I"⟩, 44) := ⟨⟨by decide +kernel, by decide +kernel⟩, List.mem_of_getElem? (i := 1209) (by decide +kernel), List.mem_of_getElem? (i := 1374) (by decide +kernel), List.mem_of_getElem? (i := 1375) (by decide +kernel)⟩
theorem lw_p49 : lw_okq (⟨"ShownNotModel", "findAnswers", "(I)V"⟩, 44) := ⟨⟨by decide +kernel, by decide +kernel⟩, List.mem_of_getElem? (i := 1209) (by decide +kernel), List.mem_of_getElem? (i := 1382) (by decide +kernel), List.mem_of_getElem? (i := 1383) (by decide +kernel)⟩
theorem lw_p50 : lw_okq (⟨"ShownNotModel", "rowsOf", "(I)I"⟩, 44) := ⟨⟨by decide +kernel, by decide +kernel⟩, List.mem_of_getElem? (i := 1209) (by decide +kernel), List.mem_of_getElem? (i := 1386) (by decide +kernel), List.mem_of_getElem? (i := 1387) (by decide +kernel)⟩
theorem lw_p51 : lw_okq (⟨"ShownNotModel", "isAnswer", "(II)Z"⟩, 44) := ⟨⟨by decide +kernel, by decide +kernel⟩, List.mem_of_getElem? (i := 1209) (by decide +kernel), List.mem_of_getElem? (i := 1390) (by decide +kernel), List.mem_of_getElem? (i := 1391) (by decide +kernel)⟩
theorem lw_p52 : lw_okq (⟨"ShownNotModel", "paintOf", "(III)I"⟩, 44) := ⟨⟨by decide +kernel, by decide +kernel⟩, List.mem_of_getElem? (i := 1209) (by decide +kernel), List.mem_of_getElem? (i := 1394) (by decide +kernel), List.mem_of_getElem? (i := 1395) (by decide +kernel)⟩
theorem lw_p53 : lw_okq (⟨"ShownNotModel", "swappedRow", "(III)I"⟩, 44) := ⟨⟨by decide +kernel, by decide +kernel⟩, List.mem_of_getElem? (i := 1209) (by decide +kernel), List.mem_of_getElem? (i := 1402) (by decide +kernel), List.mem_of_getElem? (i := 1403) (by decide +kernel)⟩
theorem lw_p54 : lw_okq (⟨"ShownNotModel", "swap", "(II)I"⟩, 44) := ⟨⟨by decide +kernel, by decide +kernel⟩, List.mem_of_getElem? (i := 1209) (by decide +kernel), List.mem_of_getElem? (i := 1406) (by decide +kernel), List.mem_of_getElem? (i := 1407) (by decide +kernel)⟩
theorem lw_p55 : lw_okq (⟨"ShownNotModel", "firstOrder", "(I)V"⟩, 44) := ⟨⟨by decide +kernel, by decide +kernel⟩, List.mem_of_getElem? (i := 1209) (by decide +kernel), List.mem_of_getElem? (i := 1414) (by decide +kernel), List.mem_of_getElem? (i := 1415) (by decide +kernel)⟩
theorem lw_p56 : lw_okq (⟨"ShownNotModel", "nextOrder", "(I)Z"⟩, 44) := ⟨⟨by decide +kernel, by decide +kernel⟩, List.mem_of_getElem? (i := 1209) (by decide +kernel), List.mem_of_getElem? (i := 1418) (by decide +kernel), List.mem_of_getElem? (i := 1419) (by decide +kernel)⟩
theorem lw_p57 : lw_okq (⟨"ShownNotModel", "turnsOf", "(II)I"⟩, 44) := ⟨⟨by decide +kernel, by decide +kernel⟩, List.mem_of_getElem? (i := 1209) (by decide +kernel), List.mem_of_getElem? (i := 1426) (by decide +kernel), List.mem_of_getElem? (i := 1427) (by decide +kernel)⟩
theorem lw_p58 : lw_okq (⟨"ShownNotModel", "four", "(I)V"⟩, 44) := ⟨⟨by decide +kernel, by decide +kernel⟩, List.mem_of_getElem? (i := 1209) (by decide +kernel), List.mem_of_getElem? (i := 1434) (by decide +kernel), List.mem_of_getElem? (i := 1435) (by decide +kernel)⟩
theorem lw_p59 : lw_okq (⟨"ShownNotModel", "readText", "()I"⟩, 44) := ⟨⟨by decide +kernel, by decide +kernel⟩, List.mem_of_getElem? (i := 1209) (by decide +kernel), List.mem_of_getElem? (i := 1446) (by decide +kernel), List.mem_of_getElem? (i := 1447) (by decide +kernel)⟩
theorem lw_p60 : lw_okq (⟨"ShownNotModel", "nextToken", "()V"⟩, 44) := ⟨⟨by decide +kernel, by decide +kernel⟩, List.mem_of_getElem? (i := 1209) (by decide +kernel), List.mem_of_getElem? (i := 1450) (by decide +kernel), List.mem_of_getElem? (i := 1451) (by decide +kernel)⟩
theorem lw_p61 : lw_okq (⟨"ShownNotModel", "byteAt", "(I)I"⟩, 44) := ⟨⟨by decide +kernel, by decide +kernel⟩, List.mem_of_getElem? (i := 1209) (by decide +kernel), List.mem_of_getElem? (i := 1454) (by decide +kernel), List.mem_of_getElem? (i := 1455) (by decide +kernel)⟩
theorem lw_p62 : lw_okq (⟨"ShownNotModel", "clause", "()I"⟩, 44) := ⟨⟨by decide +kernel, by decide +kernel⟩, List.mem_of_getElem? (i := 1209) (by decide +kernel), List.mem_of_getElem? (i := 1465) (by decide +kernel), List.mem_of_getElem? (i := 1466) (by decide +kernel)⟩
theorem lw_p63 : lw_okq (⟨"ShownNotModel", "sortOf", "()I"⟩, 44) := ⟨⟨by decide +kernel, by decide +kernel⟩, List.mem_of_getElem? (i := 1209) (by decide +kernel), List.mem_of_getElem? (i := 1469) (by decide +kernel), List.mem_of_getElem? (i := 1470) (by decide +kernel)⟩
def lw_privs_4 : List (MethodName × Nat) := [(⟨"ShownNotModel", "otherOf", "(II)I"⟩, 44), (⟨"ShownNotModel", "findAnswers", "(I)V"⟩, 44), (⟨"ShownNotModel", "rowsOf", "(I)I"⟩, 44), (⟨"ShownNotModel", "isAnswer", "(II)Z"⟩, 44), (⟨"ShownNotModel", "paintOf", "(III)I"⟩, 44), (⟨"ShownNotModel", "swappedRow", "(III)I"⟩, 44), (⟨"ShownNotModel", "swap", "(II)I"⟩, 44), (⟨"ShownNotModel", "firstOrder", "(I)V"⟩, 44), (⟨"ShownNotModel", "nextOrder", "(I)Z"⟩, 44), (⟨"ShownNotModel", "turnsOf", "(II)I"⟩, 44), (⟨"ShownNotModel", "four", "(I)V"⟩, 44), (⟨"ShownNotModel", "readText", "()I"⟩, 44), (⟨"ShownNotModel", "nextToken", "()V"⟩, 44), (⟨"ShownNotModel", "byteAt", "(I)I"⟩, 44), (⟨"ShownNotModel", "clause", "()I"⟩, 44), (⟨"ShownNotModel", "sortOf", "()I"⟩, 44)]
theorem lw_r4 : ∀ q ∈ lw_privs_4, lw_okq q := List.forall_mem_cons.mpr ⟨lw_p48, List.forall_mem_cons.mpr ⟨lw_p49, List.forall_mem_cons.mpr ⟨lw_p50, List.forall_mem_cons.mpr ⟨lw_p51, List.forall_mem_cons.mpr ⟨lw_p52, List.forall_mem_cons.mpr ⟨lw_p53, List.forall_mem_cons.mpr ⟨lw_p54, List.forall_mem_cons.mpr ⟨lw_p55, List.forall_mem_cons.mpr ⟨lw_p56, List.forall_mem_cons.mpr ⟨lw_p57, List.forall_mem_cons.mpr ⟨lw_p58, List.forall_mem_cons.mpr ⟨lw_p59, List.forall_mem_cons.mpr ⟨lw_p60, List.forall_mem_cons.mpr ⟨lw_p61, List.forall_mem_cons.mpr ⟨lw_p62, List.forall_mem_cons.mpr ⟨lw_p63, fun _ h => absurd h List.not_mem_nil⟩⟩⟩⟩⟩⟩⟩⟩⟩⟩⟩⟩⟩⟩⟩⟩
theorem lw_p64 : lw_okq (⟨"ShownNotModel", "isWord", "(J)Z"⟩, 44) := ⟨⟨by decide +kernel, by decide +kernel⟩, List.mem_of_getElem? (i := 1209) (by decide +kernel), List.mem_of_getElem? (i := 1479) (by decide +kernel), List.mem_of_getElem? (i := 1480) (by decide +kernel)⟩
theorem lw_p65 : lw_okq (⟨"ShownNotModel", "either", "()I"⟩, 44) := ⟨⟨by decide +kernel, by decide +kernel⟩, List.mem_of_getElem? (i := 1209) (by decide +kernel), List.mem_of_getElem? (i := 1488) (by decide +kernel), List.mem_of_getElem? (i := 1489) (by decide +kernel)⟩
theorem lw_p66 : lw_okq (⟨"ShownNotModel", "asked", "()I"⟩, 44) := ⟨⟨by decide +kernel, by decide +kernel⟩, List.mem_of_getElem? (i := 1209) (by decide +kernel), List.mem_of_getElem? (i := 1492) (by decide +kernel), List.mem_of_getElem? (i := 1493) (by decide +kernel)⟩
theorem lw_p67 : lw_okq (⟨"ShownNotModel", "summed", "()I"⟩, 44) := ⟨⟨by decide +kernel, by decide +kernel⟩, List.mem_of_getElem? (i := 1209) (by decide +kernel), List.mem_of_getElem? (i := 1496) (by decide +kernel), List.mem_of_getElem? (i := 1497) (by decide +kernel)⟩
theorem lw_p68 : lw_okq (⟨"ShownNotModel", "goesOn", "()Z"⟩, 44) := ⟨⟨by decide +kernel, by decide +kernel⟩, List.mem_of_getElem? (i := 1209) (by decide +kernel), List.mem_of_getElem? (i := 1500) (by decide +kernel), List.mem_of_getElem? (i := 1501) (by decide +kernel)⟩
theorem lw_p69 : lw_okq (⟨"ShownNotModel", "hasParen", "()Z"⟩, 44) := ⟨⟨by decide +kernel, by decide +kernel⟩, List.mem_of_getElem? (i := 1209) (by decide +kernel), List.mem_of_getElem? (i := 1504) (by decide +kernel), List.mem_of_getElem? (i := 1505) (by decide +kernel)⟩
theorem lw_p70 : lw_okq (⟨"ShownNotModel", "behindOne", "()I"⟩, 44) := ⟨⟨by decide +kernel, by decide +kernel⟩, List.mem_of_getElem? (i := 1209) (by decide +kernel), List.mem_of_getElem? (i := 1508) (by decide +kernel), List.mem_of_getElem? (i := 1509) (by decide +kernel)⟩
theorem lw_p71 : lw_okq (⟨"ShownNotModel", "settle", "(I)V"⟩, 44) := ⟨⟨by decide +kernel, by decide +kernel⟩, List.mem_of_getElem? (i := 1209) (by decide +kernel), List.mem_of_getElem? (i := 1512) (by decide +kernel), List.mem_of_getElem? (i := 1513) (by decide +kernel)⟩
theorem lw_p72 : lw_okq (⟨"ShownNotModel", "emit", "(II)V"⟩, 44) := ⟨⟨by decide +kernel, by decide +kernel⟩, List.mem_of_getElem? (i := 1209) (by decide +kernel), List.mem_of_getElem? (i := 1516) (by decide +kernel), List.mem_of_getElem? (i := 1517) (by decide +kernel)⟩
theorem lw_p73 : lw_okq (⟨"ShownNotModel", "push", "(I)V"⟩, 44) := ⟨⟨by decide +kernel, by decide +kernel⟩, List.mem_of_getElem? (i := 1209) (by decide +kernel), List.mem_of_getElem? (i := 1520) (by decide +kernel), List.mem_of_getElem? (i := 1521) (by decide +kernel)⟩
theorem lw_p74 : lw_okq (⟨"ShownNotModel", "whole", "()V"⟩, 44) := ⟨⟨by decide +kernel, by decide +kernel⟩, List.mem_of_getElem? (i := 1209) (by decide +kernel), List.mem_of_getElem? (i := 1524) (by decide +kernel), List.mem_of_getElem? (i := 1525) (by decide +kernel)⟩
theorem lw_p75 : lw_okq (⟨"ShownNotModel", "beginOne", "()I"⟩, 44) := ⟨⟨by decide +kernel, by decide +kernel⟩, List.mem_of_getElem? (i := 1209) (by decide +kernel), List.mem_of_getElem? (i := 1528) (by decide +kernel), List.mem_of_getElem? (i := 1529) (by decide +kernel)⟩
theorem lw_p76 : lw_okq (⟨"ShownNotModel", "nameOf", "()I"⟩, 44) := ⟨⟨by decide +kernel, by decide +kernel⟩, List.mem_of_getElem? (i := 1209) (by decide +kernel), List.mem_of_getElem? (i := 1532) (by decide +kernel), List.mem_of_getElem? (i := 1533) (by decide +kernel)⟩
theorem lw_p77 : lw_okq (⟨"ShownNotModel", "compareOf", "()I"⟩, 44) := ⟨⟨by decide +kernel, by decide +kernel⟩, List.mem_of_getElem? (i := 1209) (by decide +kernel), List.mem_of_getElem? (i := 1540) (by decide +kernel), List.mem_of_getElem? (i := 1541) (by decide +kernel)⟩
theorem lw_p78 : lw_okq (⟨"ShownNotModel", "isShowing", "(I)Z"⟩, 44) := ⟨⟨by decide +kernel, by decide +kernel⟩, List.mem_of_getElem? (i := 1209) (by decide +kernel), List.mem_of_getElem? (i := 1553) (by decide +kernel), List.mem_of_getElem? (i := 1554) (by decide +kernel)⟩
theorem lw_p79 : lw_okq (⟨"ShownNotModel", "take", "(I)V"⟩, 44) := ⟨⟨by decide +kernel, by decide +kernel⟩, List.mem_of_getElem? (i := 1209) (by decide +kernel), List.mem_of_getElem? (i := 1557) (by decide +kernel), List.mem_of_getElem? (i := 1558) (by decide +kernel)⟩
def lw_privs_5 : List (MethodName × Nat) := [(⟨"ShownNotModel", "isWord", "(J)Z"⟩, 44), (⟨"ShownNotModel", "either", "()I"⟩, 44), (⟨"ShownNotModel", "asked", "()I"⟩, 44), (⟨"ShownNotModel", "summed", "()I"⟩, 44), (⟨"ShownNotModel", "goesOn", "()Z"⟩, 44), (⟨"ShownNotModel", "hasParen", "()Z"⟩, 44), (⟨"ShownNotModel", "behindOne", "()I"⟩, 44), (⟨"ShownNotModel", "settle", "(I)V"⟩, 44), (⟨"ShownNotModel", "emit", "(II)V"⟩, 44), (⟨"ShownNotModel", "push", "(I)V"⟩, 44), (⟨"ShownNotModel", "whole", "()V"⟩, 44), (⟨"ShownNotModel", "beginOne", "()I"⟩, 44), (⟨"ShownNotModel", "nameOf", "()I"⟩, 44), (⟨"ShownNotModel", "compareOf", "()I"⟩, 44), (⟨"ShownNotModel", "isShowing", "(I)Z"⟩, 44), (⟨"ShownNotModel", "take", "(I)V"⟩, 44)]
theorem lw_r5 : ∀ q ∈ lw_privs_5, lw_okq q := List.forall_mem_cons.mpr ⟨lw_p64, List.forall_mem_cons.mpr ⟨lw_p65, List.forall_mem_cons.mpr ⟨lw_p66, List.forall_mem_cons.mpr ⟨lw_p67, List.forall_mem_cons.mpr ⟨lw_p68, List.forall_mem_cons.mpr ⟨lw_p69, List.forall_mem_cons.mpr ⟨lw_p70, List.forall_mem_cons.mpr ⟨lw_p71, List.forall_mem_cons.mpr ⟨lw_p72, List.forall_mem_cons.mpr ⟨lw_p73, List.forall_mem_cons.mpr ⟨lw_p74, List.forall_mem_cons.mpr ⟨lw_p75, List.forall_mem_cons.mpr ⟨lw_p76, List.forall_mem_cons.mpr ⟨lw_p77, List.forall_mem_cons.mpr ⟨lw_p78, List.forall_mem_cons.mpr ⟨lw_p79, fun _ h => absurd h List.not_mem_nil⟩⟩⟩⟩⟩⟩⟩⟩⟩⟩⟩⟩⟩⟩⟩⟩
theorem lw_p80 : lw_okq (⟨"ShownNotModel", "askingsOf", "(I)I"⟩, 44) := ⟨⟨by decide +kernel, by decide +kernel⟩, List.mem_of_getElem? (i := 1209) (by decide +kernel), List.mem_of_getElem? (i := 1561) (by decide +kernel), List.mem_of_getElem? (i := 1562) (by decide +kernel)⟩
theorem lw_p81 : lw_okq (⟨"ShownNotModel", "believes", "(IIII)Z"⟩, 44) := ⟨⟨by decide +kernel, by decide +kernel⟩, List.mem_of_getElem? (i := 1209) (by decide +kernel), List.mem_of_getElem? (i := 1565) (by decide +kernel), List.mem_of_getElem? (i := 1566) (by decide +kernel)⟩
theorem lw_p82 : lw_okq (⟨"ShownNotModel", "askedOne", "(II)I"⟩, 44) := ⟨⟨by decide +kernel, by decide +kernel⟩, List.mem_of_getElem? (i := 1209) (by decide +kernel), List.mem_of_getElem? (i := 1569) (by decide +kernel), List.mem_of_getElem? (i := 1570) (by decide +kernel)⟩
theorem lw_p83 : lw_okq (⟨"ShownNotModel", "askedOther", "(II)I"⟩, 44) := ⟨⟨by decide +kernel, by decide +kernel⟩, List.mem_of_getElem? (i := 1209) (by decide +kernel), List.mem_of_getElem? (i := 1573) (by decide +kernel), List.mem_of_getElem? (i := 1574) (by decide +kernel)⟩
theorem lw_p84 : lw_okq (⟨"ShownNotModel", "judged", "(I)Z"⟩, 44) := ⟨⟨by decide +kernel, by decide +kernel⟩, List.mem_of_getElem? (i := 1209) (by decide +kernel), List.mem_of_getElem? (i := 1577) (by decide +kernel), List.mem_of_getElem? (i := 1578) (by decide +kernel)⟩
theorem lw_p85 : lw_okq (⟨"ShownNotModel", "wrongs", "(I)I"⟩, 44) := ⟨⟨by decide +kernel, by decide +kernel⟩, List.mem_of_getElem? (i := 1209) (by decide +kernel), List.mem_of_getElem? (i := 1596) (by decide +kernel), List.mem_of_getElem? (i := 1597) (by decide +kernel)⟩
theorem lw_p86 : lw_okq (⟨"ShownNotModel", "drawnSwap", "(I)I"⟩, 44) := ⟨⟨by decide +kernel, by decide +kernel⟩, List.mem_of_getElem? (i := 1209) (by decide +kernel), List.mem_of_getElem? (i := 1600) (by decide +kernel), List.mem_of_getElem? (i := 1601) (by decide +kernel)⟩
theorem lw_p87 : lw_okq (⟨"ShownNotModel", "believesRow", "(IIII)Z"⟩, 44) := ⟨⟨by decide +kernel, by decide +kernel⟩, List.mem_of_getElem? (i := 1209) (by decide +kernel), List.mem_of_getElem? (i := 1604) (by decide +kernel), List.mem_of_getElem? (i := 1605) (by decide +kernel)⟩
theorem lw_p88 : lw_okq (⟨"ShownNotModel", "findCheat", "(I)V"⟩, 44) := ⟨⟨by decide +kernel, by decide +kernel⟩, List.mem_of_getElem? (i := 1209) (by decide +kernel), List.mem_of_getElem? (i := 1612) (by decide +kernel), List.mem_of_getElem? (i := 1613) (by decide +kernel)⟩
theorem lw_p89 : lw_okq (⟨"ShownNotModel", "isAbove", "()Z"⟩, 44) := ⟨⟨by decide +kernel, by decide +kernel⟩, List.mem_of_getElem? (i := 1209) (by decide +kernel), List.mem_of_getElem? (i := 1625) (by decide +kernel), List.mem_of_getElem? (i := 1626) (by decide +kernel)⟩
theorem lw_p90 : lw_okq (⟨"ShownNotModel", "telling", "(II)Z"⟩, 44) := ⟨⟨by decide +kernel, by decide +kernel⟩, List.mem_of_getElem? (i := 1209) (by decide +kernel), List.mem_of_getElem? (i := 1633) (by decide +kernel), List.mem_of_getElem? (i := 1634) (by decide +kernel)⟩
theorem lw_p91 : lw_okq (⟨"ShownNotModel", "finds", "(III)Z"⟩, 44) := ⟨⟨by decide +kernel, by decide +kernel⟩, List.mem_of_getElem? (i := 1209) (by decide +kernel), List.mem_of_getElem? (i := 1637) (by decide +kernel), List.mem_of_getElem? (i := 1638) (by decide +kernel)⟩
theorem lw_p92 : lw_okq (⟨"ShownNotModel", "count", "(IIII[I)V"⟩, 44) := ⟨⟨by decide +kernel, by decide +kernel⟩, List.mem_of_getElem? (i := 1209) (by decide +kernel), List.mem_of_getElem? (i := 1641) (by decide +kernel), List.mem_of_getElem? (i := 1642) (by decide +kernel)⟩
theorem lw_p93 : lw_okq (⟨"ShownNotModel", "opening", "(IIII)I"⟩, 44) := ⟨⟨by decide +kernel, by decide +kernel⟩, List.mem_of_getElem? (i := 1209) (by decide +kernel), List.mem_of_getElem? (i := 1645) (by decide +kernel), List.mem_of_getElem? (i := 1646) (by decide +kernel)⟩
theorem lw_p94 : lw_okq (⟨"ShownNotModel", "isTold", "(IIII)Z"⟩, 44) := ⟨⟨by decide +kernel, by decide +kernel⟩, List.mem_of_getElem? (i := 1209) (by decide +kernel), List.mem_of_getElem? (i := 1649) (by decide +kernel), List.mem_of_getElem? (i := 1650) (by decide +kernel)⟩
theorem lw_p95 : lw_okq (⟨"ShownNotModel", "weightOf", "(II)J"⟩, 44) := ⟨⟨by decide +kernel, by decide +kernel⟩, List.mem_of_getElem? (i := 1209) (by decide +kernel), List.mem_of_getElem? (i := 1662) (by decide +kernel), List.mem_of_getElem? (i := 1663) (by decide +kernel)⟩
def lw_privs_6 : List (MethodName × Nat) := [(⟨"ShownNotModel", "askingsOf", "(I)I"⟩, 44), (⟨"ShownNotModel", "believes", "(IIII)Z"⟩, 44), (⟨"ShownNotModel", "askedOne", "(II)I"⟩, 44), (⟨"ShownNotModel", "askedOther", "(II)I"⟩, 44), (⟨"ShownNotModel", "judged", "(I)Z"⟩, 44), (⟨"ShownNotModel", "wrongs", "(I)I"⟩, 44), (⟨"ShownNotModel", "drawnSwap", "(I)I"⟩, 44), (⟨"ShownNotModel", "believesRow", "(IIII)Z"⟩, 44), (⟨"ShownNotModel", "findCheat", "(I)V"⟩, 44), (⟨"ShownNotModel", "isAbove", "()Z"⟩, 44), (⟨"ShownNotModel", "telling", "(II)Z"⟩, 44), (⟨"ShownNotModel", "finds", "(III)Z"⟩, 44), (⟨"ShownNotModel", "count", "(IIII[I)V"⟩, 44), (⟨"ShownNotModel", "opening", "(IIII)I"⟩, 44), (⟨"ShownNotModel", "isTold", "(IIII)Z"⟩, 44), (⟨"ShownNotModel", "weightOf", "(II)J"⟩, 44)]
theorem lw_r6 : ∀ q ∈ lw_privs_6, lw_okq q := List.forall_mem_cons.mpr ⟨lw_p80, List.forall_mem_cons.mpr ⟨lw_p81, List.forall_mem_cons.mpr ⟨lw_p82, List.forall_mem_cons.mpr ⟨lw_p83, List.forall_mem_cons.mpr ⟨lw_p84, List.forall_mem_cons.mpr ⟨lw_p85, List.forall_mem_cons.mpr ⟨lw_p86, List.forall_mem_cons.mpr ⟨lw_p87, List.forall_mem_cons.mpr ⟨lw_p88, List.forall_mem_cons.mpr ⟨lw_p89, List.forall_mem_cons.mpr ⟨lw_p90, List.forall_mem_cons.mpr ⟨lw_p91, List.forall_mem_cons.mpr ⟨lw_p92, List.forall_mem_cons.mpr ⟨lw_p93, List.forall_mem_cons.mpr ⟨lw_p94, List.forall_mem_cons.mpr ⟨lw_p95, fun _ h => absurd h List.not_mem_nil⟩⟩⟩⟩⟩⟩⟩⟩⟩⟩⟩⟩⟩⟩⟩⟩
theorem lw_p96 : lw_okq (⟨"ShownNotModel", "isSeenSo", "(IIII)Z"⟩, 44) := ⟨⟨by decide +kernel, by decide +kernel⟩, List.mem_of_getElem? (i := 1209) (by decide +kernel), List.mem_of_getElem? (i := 1666) (by decide +kernel), List.mem_of_getElem? (i := 1667) (by decide +kernel)⟩
theorem lw_p97 : lw_okq (⟨"ShownNotModel", "isNight", "(II)Z"⟩, 44) := ⟨⟨by decide +kernel, by decide +kernel⟩, List.mem_of_getElem? (i := 1209) (by decide +kernel), List.mem_of_getElem? (i := 1670) (by decide +kernel), List.mem_of_getElem? (i := 1671) (by decide +kernel)⟩
theorem lw_p98 : lw_okq (⟨"ShownNotModel", "isOneButFor", "(III)Z"⟩, 44) := ⟨⟨by decide +kernel, by decide +kernel⟩, List.mem_of_getElem? (i := 1209) (by decide +kernel), List.mem_of_getElem? (i := 1678) (by decide +kernel), List.mem_of_getElem? (i := 1679) (by decide +kernel)⟩
theorem lw_p99 : lw_okq (⟨"ShownNotModel", "seenLands", "()I"⟩, 44) := ⟨⟨by decide +kernel, by decide +kernel⟩, List.mem_of_getElem? (i := 1209) (by decide +kernel), List.mem_of_getElem? (i := 1690) (by decide +kernel), List.mem_of_getElem? (i := 1691) (by decide +kernel)⟩
theorem lw_p100 : lw_okq (⟨"ShownNotModel", "isPulled", "()Z"⟩, 44) := ⟨⟨by decide +kernel, by decide +kernel⟩, List.mem_of_getElem? (i := 1209) (by decide +kernel), List.mem_of_getElem? (i := 1698) (by decide +kernel), List.mem_of_getElem? (i := 1699) (by decide +kernel)⟩
theorem lw_p101 : lw_okq (⟨"ShownNotModel", "shown", "(II)I"⟩, 44) := ⟨⟨by decide +kernel, by decide +kernel⟩, List.mem_of_getElem? (i := 1209) (by decide +kernel), List.mem_of_getElem? (i := 1710) (by decide +kernel), List.mem_of_getElem? (i := 1711) (by decide +kernel)⟩
theorem lw_p102 : lw_okq (⟨"ShownNotModel", "doubled", "(I)I"⟩, 44) := ⟨⟨by decide +kernel, by decide +kernel⟩, List.mem_of_getElem? (i := 1209) (by decide +kernel), List.mem_of_getElem? (i := 1718) (by decide +kernel), List.mem_of_getElem? (i := 1719) (by decide +kernel)⟩
theorem lw_p103 : lw_okq (⟨"ShownNotModel", "smeared", "(II)I"⟩, 44) := ⟨⟨by decide +kernel, by decide +kernel⟩, List.mem_of_getElem? (i := 1209) (by decide +kernel), List.mem_of_getElem? (i := 1722) (by decide +kernel), List.mem_of_getElem? (i := 1723) (by decide +kernel)⟩
theorem lw_p104 : lw_okq (⟨"ShownNotModel", "often", "(II)I"⟩, 44) := ⟨⟨by decide +kernel, by decide +kernel⟩, List.mem_of_getElem? (i := 1209) (by decide +kernel), List.mem_of_getElem? (i := 1726) (by decide +kernel), List.mem_of_getElem? (i := 1727) (by decide +kernel)⟩
theorem lw_p105 : lw_okq (⟨"ShownNotModel", "isSign", "(I)Z"⟩, 44) := ⟨⟨by decide +kernel, by decide +kernel⟩, List.mem_of_getElem? (i := 1209) (by decide +kernel), List.mem_of_getElem? (i := 1746) (by decide +kernel), List.mem_of_getElem? (i := 1747) (by decide +kernel)⟩
theorem lw_p106 : lw_okq (⟨"ShownNotModel", "paintings", "(I)I"⟩, 44) := ⟨⟨by decide +kernel, by decide +kernel⟩, List.mem_of_getElem? (i := 1209) (by decide +kernel), List.mem_of_getElem? (i := 1754) (by decide +kernel), List.mem_of_getElem? (i := 1755) (by decide +kernel)⟩
theorem lw_p107 : lw_okq (⟨"ShownNotModel", "isYes", "(II)Z"⟩, 44) := ⟨⟨by decide +kernel, by decide +kernel⟩, List.mem_of_getElem? (i := 1209) (by decide +kernel), List.mem_of_getElem? (i := 1758) (by decide +kernel), List.mem_of_getElem? (i := 1759) (by decide +kernel)⟩
theorem lw_p108 : lw_okq (⟨"ShownNotModel", "solves", "(I)Z"⟩, 44) := ⟨⟨by decide +kernel, by decide +kernel⟩, List.mem_of_getElem? (i := 1209) (by decide +kernel), List.mem_of_getElem? (i := 1765) (by decide +kernel), List.mem_of_getElem? (i := 1766) (by decide +kernel)⟩
theorem lw_p109 : lw_okq (⟨"ShownNotModel", "other", "(IIIII)I"⟩, 44) := ⟨⟨by decide +kernel, by decide +kernel⟩, List.mem_of_getElem? (i := 1209) (by decide +kernel), List.mem_of_getElem? (i := 1773) (by decide +kernel), List.mem_of_getElem? (i := 1774) (by decide +kernel)⟩
theorem lw_p110 : lw_okq (⟨"ShownNotModel", "isMended", "(II)Z"⟩, 44) := ⟨⟨by decide +kernel, by decide +kernel⟩, List.mem_of_getElem? (i := 1209) (by decide +kernel), List.mem_of_getElem? (i := 1777) (by decide +kernel), List.mem_of_getElem? (i := 1778) (by decide +kernel)⟩
theorem lw_p111 : lw_okq (⟨"ShownNotModel", "nightsSeen", "()I"⟩, 44) := ⟨⟨by decide +kernel, by decide +kernel⟩, List.mem_of_getElem? (i := 1209) (by decide +kernel), List.mem_of_getElem? (i := 1793) (by decide +kernel), List.mem_of_getElem? (i := 1794) (by decide +kernel)⟩
def lw_privs_7 : List (MethodName × Nat) := [(⟨"ShownNotModel", "isSeenSo", "(IIII)Z"⟩, 44), (⟨"ShownNotModel", "isNight", "(II)Z"⟩, 44), (⟨"ShownNotModel", "isOneButFor", "(III)Z"⟩, 44), (⟨"ShownNotModel", "seenLands", "()I"⟩, 44), (⟨"ShownNotModel", "isPulled", "()Z"⟩, 44), (⟨"ShownNotModel", "shown", "(II)I"⟩, 44), (⟨"ShownNotModel", "doubled", "(I)I"⟩, 44), (⟨"ShownNotModel", "smeared", "(II)I"⟩, 44), (⟨"ShownNotModel", "often", "(II)I"⟩, 44), (⟨"ShownNotModel", "isSign", "(I)Z"⟩, 44), (⟨"ShownNotModel", "paintings", "(I)I"⟩, 44), (⟨"ShownNotModel", "isYes", "(II)Z"⟩, 44), (⟨"ShownNotModel", "solves", "(I)Z"⟩, 44), (⟨"ShownNotModel", "other", "(IIIII)I"⟩, 44), (⟨"ShownNotModel", "isMended", "(II)Z"⟩, 44), (⟨"ShownNotModel", "nightsSeen", "()I"⟩, 44)]
theorem lw_r7 : ∀ q ∈ lw_privs_7, lw_okq q := List.forall_mem_cons.mpr ⟨lw_p96, List.forall_mem_cons.mpr ⟨lw_p97, List.forall_mem_cons.mpr ⟨lw_p98, List.forall_mem_cons.mpr ⟨lw_p99, List.forall_mem_cons.mpr ⟨lw_p100, List.forall_mem_cons.mpr ⟨lw_p101, List.forall_mem_cons.mpr ⟨lw_p102, List.forall_mem_cons.mpr ⟨lw_p103, List.forall_mem_cons.mpr ⟨lw_p104, List.forall_mem_cons.mpr ⟨lw_p105, List.forall_mem_cons.mpr ⟨lw_p106, List.forall_mem_cons.mpr ⟨lw_p107, List.forall_mem_cons.mpr ⟨lw_p108, List.forall_mem_cons.mpr ⟨lw_p109, List.forall_mem_cons.mpr ⟨lw_p110, List.forall_mem_cons.mpr ⟨lw_p111, fun _ h => absurd h List.not_mem_nil⟩⟩⟩⟩⟩⟩⟩⟩⟩⟩⟩⟩⟩⟩⟩⟩
def lw_privs : List (MethodName × Nat) := lw_privs_1 ++ (lw_privs_2 ++ (lw_privs_3 ++ (lw_privs_4 ++ (lw_privs_5 ++ (lw_privs_6 ++ (lw_privs_7))))))
def lw_tbl : List Cond := k2_sels lw_privs ++ tables_1
theorem lw_privs_ok : ∀ q ∈ lw_privs, lw_okq q := by
  show ∀ q ∈ lw_privs_1 ++ (lw_privs_2 ++ (lw_privs_3 ++ (lw_privs_4 ++ (lw_privs_5 ++ (lw_privs_6 ++ (lw_privs_7)))))), lw_okq q
  exact List.forall_mem_append.mpr ⟨lw_r1, List.forall_mem_append.mpr ⟨lw_r2, List.forall_mem_append.mpr ⟨lw_r3, List.forall_mem_append.mpr ⟨lw_r4, List.forall_mem_append.mpr ⟨lw_r5, List.forall_mem_append.mpr ⟨lw_r6, lw_r7⟩⟩⟩⟩⟩⟩

def RX0 : String := "ShownNot$Boxes"
def TX0 : u_T := fun k => match k with
  | 0 => ("ShownNot$Boxes", "map", "I", false)
  | 1 => ("ShownNot$Boxes", "pack", "I", false)
  | _ => ("ShownNot$Boxes", "seen", "I", false)
def tyX0 : Nat → FieldType := fun k => match k with
  | 0 => .int
  | 1 => .int
  | _ => .int
theorem nmX0 : ∀ a, a < 3 → ∀ b, b < 3 → a ≠ b → (TX0 a).2.1 ≠ (TX0 b).2.1 := by decide +kernel
theorem tyX0_ok : ∀ k, k < 3 → parseFieldDescriptor (TX0 k).2.2.1 = some (tyX0 k) := by decide +kernel
theorem inX0 : ∀ w ∈ u_ws RX0 TX0 3, w ∈ lw_tbl := by decide +kernel
def RX1 : String := "ShownNot$Chart"
def TX1 : u_T := fun k => match k with
  | 0 => ("ShownNot$Chart", "ones", "[I", true)
  | 1 => ("ShownNot$Chart", "others", "[I", true)
  | 2 => ("ShownNot$Chart", "near", "[I", true)
  | 3 => ("ShownNot$Chart", "turned", "[I", true)
  | 4 => ("ShownNot$Chart", "lands", "I", false)
  | 5 => ("ShownNot$Chart", "borders", "I", false)
  | 6 => ("ShownNot$Chart", "answerRows", "[I", false)
  | 7 => ("ShownNot$Chart", "answerPacks", "[I", false)
  | 8 => ("ShownNot$Chart", "answers", "I", false)
  | _ => ("ShownNot$Chart", "answersStand", "Z", false)
def tyX1 : Nat → FieldType := fun k => match k with
  | 0 => (.array .int)
  | 1 => (.array .int)
  | 2 => (.array .int)
  | 3 => (.array .int)
  | 4 => .int
  | 5 => .int
  | 6 => (.array .int)
  | 7 => (.array .int)
  | 8 => .int
  | _ => .boolean
theorem nmX1 : ∀ a, a < 10 → ∀ b, b < 10 → a ≠ b → (TX1 a).2.1 ≠ (TX1 b).2.1 := by decide +kernel
theorem tyX1_ok : ∀ k, k < 10 → parseFieldDescriptor (TX1 k).2.2.1 = some (tyX1 k) := by decide +kernel
theorem inX1 : ∀ w ∈ u_ws RX1 TX1 10, w ∈ lw_tbl := by decide +kernel
def RX2 : String := "ShownNot$JudgeCode"
def TX2 : u_T := fun k => match k with
  | 0 => ("ShownNot$JudgeCode", "steps", "[I", true)
  | 1 => ("ShownNot$JudgeCode", "numbers", "[I", true)
  | 2 => ("ShownNot$JudgeCode", "stack", "[J", true)
  | 3 => ("ShownNot$JudgeCode", "size", "I", false)
  | 4 => ("ShownNot$JudgeCode", "a", "I", false)
  | 5 => ("ShownNot$JudgeCode", "b", "I", false)
  | 6 => ("ShownNot$JudgeCode", "x", "I", false)
  | _ => ("ShownNot$JudgeCode", "y", "I", false)
def tyX2 : Nat → FieldType := fun k => match k with
  | 0 => (.array .int)
  | 1 => (.array .int)
  | 2 => (.array .long)
  | 3 => .int
  | 4 => .int
  | 5 => .int
  | 6 => .int
  | _ => .int
theorem nmX2 : ∀ a, a < 8 → ∀ b, b < 8 → a ≠ b → (TX2 a).2.1 ≠ (TX2 b).2.1 := by decide +kernel
theorem tyX2_ok : ∀ k, k < 8 → parseFieldDescriptor (TX2 k).2.2.1 = some (tyX2 k) := by decide +kernel
theorem inX2 : ∀ w ∈ u_ws RX2 TX2 8, w ∈ lw_tbl := by decide +kernel
def RX3 : String := "ShownNot$Lock"
def TX3 : u_T := fun k => match k with
  | 0 => ("ShownNot$Lock", "a", "I", false)
  | 1 => ("ShownNot$Lock", "b", "I", false)
  | 2 => ("ShownNot$Lock", "c", "I", false)
  | 3 => ("ShownNot$Lock", "numbers", "I", false)
  | _ => ("ShownNot$Lock", "draws", "I", false)
def tyX3 : Nat → FieldType := fun k => match k with
  | 0 => .int
  | 1 => .int
  | 2 => .int
  | 3 => .int
  | _ => .int
theorem nmX3 : ∀ a, a < 5 → ∀ b, b < 5 → a ≠ b → (TX3 a).2.1 ≠ (TX3 b).2.1 := by decide +kernel
theorem tyX3_ok : ∀ k, k < 5 → parseFieldDescriptor (TX3 k).2.2.1 = some (tyX3 k) := by decide +kernel
theorem inX3 : ∀ w ∈ u_ws RX3 TX3 5, w ∈ lw_tbl := by decide +kernel
def RX4 : String := "ShownNot$Play"
def TX4 : u_T := fun k => match k with
  | 0 => ("ShownNot$Play", "xs", "[I", true)
  | 1 => ("ShownNot$Play", "ys", "[I", true)
  | 2 => ("ShownNot$Play", "judged", "[I", true)
  | 3 => ("ShownNot$Play", "lowest", "[I", true)
  | 4 => ("ShownNot$Play", "refusing", "[I", true)
  | 5 => ("ShownNot$Play", "chart", "LShownNot$Chart;", false)
  | 6 => ("ShownNot$Play", "drawn", "I", false)
  | 7 => ("ShownNot$Play", "once", "Z", false)
  | 8 => ("ShownNot$Play", "askings", "I", false)
  | 9 => ("ShownNot$Play", "cheatCount", "I", false)
  | 10 => ("ShownNot$Play", "allAlike", "Z", false)
  | 11 => ("ShownNot$Play", "foundRow", "I", false)
  | 12 => ("ShownNot$Play", "foundAnswer", "I", false)
  | 13 => ("ShownNot$Play", "foundAsking", "I", false)
  | 14 => ("ShownNot$Play", "foundSecond", "I", false)
  | 15 => ("ShownNot$Play", "foundSwap", "I", false)
  | _ => ("ShownNot$Play", "foundTry", "I", false)
def tyX4 : Nat → FieldType := fun k => match k with
  | 0 => (.array .int)
  | 1 => (.array .int)
  | 2 => (.array .int)
  | 3 => (.array .int)
  | 4 => (.array .int)
  | 5 => (.object "ShownNot$Chart")
  | 6 => .int
  | 7 => .boolean
  | 8 => .int
  | 9 => .int
  | 10 => .boolean
  | 11 => .int
  | 12 => .int
  | 13 => .int
  | 14 => .int
  | 15 => .int
  | _ => .int
theorem nmX4 : ∀ a, a < 17 → ∀ b, b < 17 → a ≠ b → (TX4 a).2.1 ≠ (TX4 b).2.1 := by decide +kernel
theorem tyX4_ok : ∀ k, k < 17 → parseFieldDescriptor (TX4 k).2.2.1 = some (tyX4 k) := by decide +kernel
theorem inX4 : ∀ w ∈ u_ws RX4 TX4 17, w ∈ lw_tbl := by decide +kernel
def RX5 : String := "ShownNot$Power"
def TX5 : u_T := fun k => match k with
  | 0 => ("ShownNot$Power", "places", "[I", true)
  | _ => ("ShownNot$Power", "size", "I", false)
def tyX5 : Nat → FieldType := fun k => match k with
  | 0 => (.array .int)
  | _ => .int
theorem nmX5 : ∀ a, a < 2 → ∀ b, b < 2 → a ≠ b → (TX5 a).2.1 ≠ (TX5 b).2.1 := by decide +kernel
theorem tyX5_ok : ∀ k, k < 2 → parseFieldDescriptor (TX5 k).2.2.1 = some (tyX5 k) := by decide +kernel
theorem inX5 : ∀ w ∈ u_ws RX5 TX5 2, w ∈ lw_tbl := by decide +kernel
def RX6 : String := "ShownNot$Reader"
def TX6 : u_T := fun k => match k with
  | 0 => ("ShownNot$Reader", "tape", "[I", true)
  | 1 => ("ShownNot$Reader", "tokens", "[I", true)
  | 2 => ("ShownNot$Reader", "starts", "[I", true)
  | 3 => ("ShownNot$Reader", "numbers", "[I", true)
  | 4 => ("ShownNot$Reader", "code", "LShownNot$JudgeCode;", true)
  | 5 => ("ShownNot$Reader", "length", "I", false)
  | 6 => ("ShownNot$Reader", "faultKind", "I", false)
  | 7 => ("ShownNot$Reader", "faultPlace", "I", false)
  | 8 => ("ShownNot$Reader", "tokenCount", "I", false)
  | 9 => ("ShownNot$Reader", "at", "I", false)
  | 10 => ("ShownNot$Reader", "clausesRead", "I", false)
  | 11 => ("ShownNot$Reader", "swap", "I", false)
  | 12 => ("ShownNot$Reader", "asks", "I", false)
  | _ => ("ShownNot$Reader", "once", "Z", false)
def tyX6 : Nat → FieldType := fun k => match k with
  | 0 => (.array .int)
  | 1 => (.array .int)
  | 2 => (.array .int)
  | 3 => (.array .int)
  | 4 => (.object "ShownNot$JudgeCode")
  | 5 => .int
  | 6 => .int
  | 7 => .int
  | 8 => .int
  | 9 => .int
  | 10 => .int
  | 11 => .int
  | 12 => .int
  | _ => .boolean
theorem nmX6 : ∀ a, a < 14 → ∀ b, b < 14 → a ≠ b → (TX6 a).2.1 ≠ (TX6 b).2.1 := by decide +kernel
theorem tyX6_ok : ∀ k, k < 14 → parseFieldDescriptor (TX6 k).2.2.1 = some (tyX6 k) := by decide +kernel
theorem inX6 : ∀ w ∈ u_ws RX6 TX6 14, w ∈ lw_tbl := by decide +kernel
def RX7 : String := "ShownNot$Riddle"
def TX7 : u_T := fun k => match k with
  | 0 => ("ShownNot$Riddle", "signs", "[I", true)
  | 1 => ("ShownNot$Riddle", "letterCount", "I", false)
  | _ => ("ShownNot$Riddle", "rows", "I", false)
def tyX7 : Nat → FieldType := fun k => match k with
  | 0 => (.array .int)
  | 1 => .int
  | _ => .int
theorem nmX7 : ∀ a, a < 3 → ∀ b, b < 3 → a ≠ b → (TX7 a).2.1 ≠ (TX7 b).2.1 := by decide +kernel
theorem tyX7_ok : ∀ k, k < 3 → parseFieldDescriptor (TX7 k).2.2.1 = some (tyX7 k) := by decide +kernel
theorem inX7 : ∀ w ∈ u_ws RX7 TX7 3, w ∈ lw_tbl := by decide +kernel
def RX8 : String := "ShownNot$Showing"
def TX8 : u_T := fun k => match k with
  | 0 => ("ShownNot$Showing", "judge", "[I", true)
  | 1 => ("ShownNot$Showing", "swap", "I", false)
  | 2 => ("ShownNot$Showing", "asks", "I", false)
  | _ => ("ShownNot$Showing", "once", "Z", false)
def tyX8 : Nat → FieldType := fun k => match k with
  | 0 => (.array .int)
  | 1 => .int
  | 2 => .int
  | _ => .boolean
theorem nmX8 : ∀ a, a < 4 → ∀ b, b < 4 → a ≠ b → (TX8 a).2.1 ≠ (TX8 b).2.1 := by decide +kernel
theorem tyX8_ok : ∀ k, k < 4 → parseFieldDescriptor (TX8 k).2.2.1 = some (tyX8 k) := by decide +kernel
theorem inX8 : ∀ w ∈ u_ws RX8 TX8 4, w ∈ lw_tbl := by decide +kernel
def RX9 : String := "ShownNot$Sightings"
def TX9 : u_T := fun k => match k with
  | 0 => ("ShownNot$Sightings", "seen", "[I", true)
  | _ => ("ShownNot$Sightings", "paints", "[I", true)
def tyX9 : Nat → FieldType := fun k => match k with
  | 0 => (.array .int)
  | _ => (.array .int)
theorem nmX9 : ∀ a, a < 2 → ∀ b, b < 2 → a ≠ b → (TX9 a).2.1 ≠ (TX9 b).2.1 := by decide +kernel
theorem tyX9_ok : ∀ k, k < 2 → parseFieldDescriptor (TX9 k).2.2.1 = some (tyX9 k) := by decide +kernel
theorem inX9 : ∀ w ∈ u_ws RX9 TX9 2, w ∈ lw_tbl := by decide +kernel
def RX10 : String := "ShownNot$State"
def TX10 : u_T := fun k => match k with
  | 0 => ("ShownNot$State", "maps", "[LShownNot$Chart;", true)
  | 1 => ("ShownNot$State", "showings", "[LShownNot$Showing;", true)
  | 2 => ("ShownNot$State", "sightings", "LShownNot$Sightings;", true)
  | 3 => ("ShownNot$State", "boxes", "LShownNot$Boxes;", true)
  | 4 => ("ShownNot$State", "lock", "LShownNot$Lock;", true)
  | 5 => ("ShownNot$State", "riddle", "LShownNot$Riddle;", true)
  | 6 => ("ShownNot$State", "mapCount", "I", false)
  | _ => ("ShownNot$State", "showingCount", "I", false)
def tyX10 : Nat → FieldType := fun k => match k with
  | 0 => (.array (.object "ShownNot$Chart"))
  | 1 => (.array (.object "ShownNot$Showing"))
  | 2 => (.object "ShownNot$Sightings")
  | 3 => (.object "ShownNot$Boxes")
  | 4 => (.object "ShownNot$Lock")
  | 5 => (.object "ShownNot$Riddle")
  | 6 => .int
  | _ => .int
theorem nmX10 : ∀ a, a < 8 → ∀ b, b < 8 → a ≠ b → (TX10 a).2.1 ≠ (TX10 b).2.1 := by decide +kernel
theorem tyX10_ok : ∀ k, k < 8 → parseFieldDescriptor (TX10 k).2.2.1 = some (tyX10 k) := by decide +kernel
theorem inX10 : ∀ w ∈ u_ws RX10 TX10 8, w ∈ lw_tbl := by decide +kernel
def RX11 : String := "ShownNot"
def TX11 : u_T := fun k => match k with
  | 0 => ("ShownNot", "now", "LShownNot$State;", true)
  | 1 => ("ShownNot", "kept", "LShownNot$State;", true)
  | 2 => ("ShownNot", "reader", "LShownNot$Reader;", true)
  | 3 => ("ShownNot", "play", "LShownNot$Play;", true)
  | 4 => ("ShownNot", "judgeUnlike", "[I", true)
  | 5 => ("ShownNot", "odds", "LShownNot$Power;", true)
  | _ => ("ShownNot", "whole", "LShownNot$Power;", true)
def tyX11 : Nat → FieldType := fun k => match k with
  | 0 => (.object "ShownNot$State")
  | 1 => (.object "ShownNot$State")
  | 2 => (.object "ShownNot$Reader")
  | 3 => (.object "ShownNot$Play")
  | 4 => (.array .int)
  | 5 => (.object "ShownNot$Power")
  | _ => (.object "ShownNot$Power")
theorem nmX11 : ∀ a, a < 7 → ∀ b, b < 7 → a ≠ b → (TX11 a).2.1 ≠ (TX11 b).2.1 := by decide +kernel
theorem tyX11_ok : ∀ k, k < 7 → parseFieldDescriptor (TX11 k).2.2.1 = some (tyX11 k) := by decide +kernel
theorem inX11 : ∀ w ∈ u_ws RX11 TX11 7, w ∈ lw_tbl := by decide +kernel
def RX12 : String := "ShownNotModel"
def TX12 : u_T := fun k => match k with
  | 0 => ("ShownNotModel", "a", "[I", true)
  | 1 => ("ShownNotModel", "image", "[I", true)
  | 2 => ("ShownNotModel", "texts", "[I", true)
  | 3 => ("ShownNotModel", "swaps", "[I", true)
  | 4 => ("ShownNotModel", "powers", "[I", true)
  | 5 => ("ShownNotModel", "answers", "[I", true)
  | 6 => ("ShownNotModel", "found", "I", false)
  | 7 => ("ShownNotModel", "order", "[I", true)
  | 8 => ("ShownNotModel", "tape", "[I", true)
  | 9 => ("ShownNotModel", "taped", "I", false)
  | 10 => ("ShownNotModel", "fault", "I", false)
  | 11 => ("ShownNotModel", "faultPlace", "I", false)
  | 12 => ("ShownNotModel", "at", "I", false)
  | 13 => ("ShownNotModel", "place", "I", false)
  | 14 => ("ShownNotModel", "token", "I", false)
  | 15 => ("ShownNotModel", "number", "I", false)
  | 16 => ("ShownNotModel", "word", "J", false)
  | 17 => ("ShownNotModel", "text0", "I", false)
  | 18 => ("ShownNotModel", "clauses", "I", false)
  | 19 => ("ShownNotModel", "written", "I", false)
  | 20 => ("ShownNotModel", "came", "I", false)
  | 21 => ("ShownNotModel", "pile", "[I", true)
  | 22 => ("ShownNotModel", "piled", "I", false)
  | 23 => ("ShownNotModel", "opens", "I", false)
  | 24 => ("ShownNotModel", "isWhole", "Z", false)
  | 25 => ("ShownNotModel", "drawn", "I", false)
  | 26 => ("ShownNotModel", "ask", "I", false)
  | 27 => ("ShownNotModel", "judging", "I", false)
  | 28 => ("ShownNotModel", "once", "Z", false)
  | 29 => ("ShownNotModel", "named", "[I", true)
  | 30 => ("ShownNotModel", "values", "[J", true)
  | 31 => ("ShownNotModel", "truth", "[Z", true)
  | 32 => ("ShownNotModel", "badAnswer", "I", false)
  | 33 => ("ShownNotModel", "badAsking", "I", false)
  | 34 => ("ShownNotModel", "badSwap", "I", false)
  | 35 => ("ShownNotModel", "cheatRow", "I", false)
  | 36 => ("ShownNotModel", "cheatMany", "I", false)
  | 37 => ("ShownNotModel", "few", "[I", true)
  | 38 => ("ShownNotModel", "all", "[I", true)
  | 39 => ("ShownNotModel", "mine", "[I", true)
  | 40 => ("ShownNotModel", "others", "[I", true)
  | 41 => ("ShownNotModel", "toldOne", "I", false)
  | 42 => ("ShownNotModel", "toldTwo", "I", false)
  | _ => ("ShownNotModel", "toldAnswer", "I", false)
def tyX12 : Nat → FieldType := fun k => match k with
  | 0 => (.array .int)
  | 1 => (.array .int)
  | 2 => (.array .int)
  | 3 => (.array .int)
  | 4 => (.array .int)
  | 5 => (.array .int)
  | 6 => .int
  | 7 => (.array .int)
  | 8 => (.array .int)
  | 9 => .int
  | 10 => .int
  | 11 => .int
  | 12 => .int
  | 13 => .int
  | 14 => .int
  | 15 => .int
  | 16 => .long
  | 17 => .int
  | 18 => .int
  | 19 => .int
  | 20 => .int
  | 21 => (.array .int)
  | 22 => .int
  | 23 => .int
  | 24 => .boolean
  | 25 => .int
  | 26 => .int
  | 27 => .int
  | 28 => .boolean
  | 29 => (.array .int)
  | 30 => (.array .long)
  | 31 => (.array .boolean)
  | 32 => .int
  | 33 => .int
  | 34 => .int
  | 35 => .int
  | 36 => .int
  | 37 => (.array .int)
  | 38 => (.array .int)
  | 39 => (.array .int)
  | 40 => (.array .int)
  | 41 => .int
  | 42 => .int
  | _ => .int
theorem nmX12 : ∀ a, a < 44 → ∀ b, b < 44 → a ≠ b → (TX12 a).2.1 ≠ (TX12 b).2.1 := by decide +kernel
theorem tyX12_ok : ∀ k, k < 44 → parseFieldDescriptor (TX12 k).2.2.1 = some (tyX12 k) := by decide +kernel
theorem inX12 : ∀ w ∈ u_ws RX12 TX12 44, w ∈ lw_tbl := by decide +kernel
abbrev vwCl : List vw_C := [(RX0, TX0, 3), (RX1, TX1, 10), (RX2, TX2, 8), (RX3, TX3, 5), (RX4, TX4, 17), (RX5, TX5, 2), (RX6, TX6, 14), (RX7, TX7, 3), (RX8, TX8, 4), (RX9, TX9, 2), (RX10, TX10, 8), (RX11, TX11, 7), (RX12, TX12, 44)]
def R_law : String := "ShownNotLaw"
