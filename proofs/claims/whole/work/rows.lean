section
/-- a private method of a class that the tables say can be made, by its rows of tables_1 -/
def lw_okq (q : MethodName × Nat) : Prop := (q.1.cls ≠ "java/lang/invoke/MethodHandle" ∧ q.1.cls ≠ "java/lang/invoke/VarHandle") ∧ Cond.instantiable q.1.cls q.2 ∈ tables_1 ∧ Cond.privateMethod q.1 ∈ tables_1 ∧ Cond.instanceMethod q.1 ∈ tables_1
theorem lw_p0 : lw_okq (⟨"ShownNot$Chart", "ringsFrom", "(II)I"⟩, 10) := ⟨⟨by decide +kernel, by decide +kernel⟩, List.mem_of_getElem? (i := 113) (by decide +kernel), List.mem_of_getElem? (i := 485) (by decide +kernel), List.mem_of_getElem? (i := 486) (by decide +kernel)⟩
theorem lw_p1 : lw_okq (⟨"ShownNot$Chart", "turnsFrom", "(LShownNot$Chart;II)I"⟩, 10) := ⟨⟨by decide +kernel, by decide +kernel⟩, List.mem_of_getElem? (i := 113) (by decide +kernel), List.mem_of_getElem? (i := 497) (by decide +kernel), List.mem_of_getElem? (i := 498) (by decide +kernel)⟩
theorem lw_p2 : lw_okq (⟨"ShownNot$Chart", "fits", "(LShownNot$Chart;II)Z"⟩, 10) := ⟨⟨by decide +kernel, by decide +kernel⟩, List.mem_of_getElem? (i := 113) (by decide +kernel), List.mem_of_getElem? (i := 501) (by decide +kernel), List.mem_of_getElem? (i := 502) (by decide +kernel)⟩
theorem lw_p3 : lw_okq (⟨"ShownNot$Reader", "splitTape", "()V"⟩, 14) := ⟨⟨by decide +kernel, by decide +kernel⟩, List.mem_of_getElem? (i := 219) (by decide +kernel), List.mem_of_getElem? (i := 533) (by decide +kernel), List.mem_of_getElem? (i := 534) (by decide +kernel)⟩
theorem lw_p4 : lw_okq (⟨"ShownNot$Reader", "splitToken", "(I)I"⟩, 14) := ⟨⟨by decide +kernel, by decide +kernel⟩, List.mem_of_getElem? (i := 219) (by decide +kernel), List.mem_of_getElem? (i := 537) (by decide +kernel), List.mem_of_getElem? (i := 538) (by decide +kernel)⟩
theorem lw_p5 : lw_okq (⟨"ShownNot$Reader", "splitWord", "(I)I"⟩, 14) := ⟨⟨by decide +kernel, by decide +kernel⟩, List.mem_of_getElem? (i := 219) (by decide +kernel), List.mem_of_getElem? (i := 544) (by decide +kernel), List.mem_of_getElem? (i := 545) (by decide +kernel)⟩
theorem lw_p6 : lw_okq (⟨"ShownNot$Reader", "wordAt", "(II)I"⟩, 14) := ⟨⟨by decide +kernel, by decide +kernel⟩, List.mem_of_getElem? (i := 219) (by decide +kernel), List.mem_of_getElem? (i := 548) (by decide +kernel), List.mem_of_getElem? (i := 549) (by decide +kernel)⟩
theorem lw_p7 : lw_okq (⟨"ShownNot$Reader", "spells", "(IILjava/lang/String;)Z"⟩, 14) := ⟨⟨by decide +kernel, by decide +kernel⟩, List.mem_of_getElem? (i := 219) (by decide +kernel), List.mem_of_getElem? (i := 638) (by decide +kernel), List.mem_of_getElem? (i := 639) (by decide +kernel)⟩
theorem lw_p8 : lw_okq (⟨"ShownNot$Reader", "splitNumber", "(I)I"⟩, 14) := ⟨⟨by decide +kernel, by decide +kernel⟩, List.mem_of_getElem? (i := 219) (by decide +kernel), List.mem_of_getElem? (i := 675) (by decide +kernel), List.mem_of_getElem? (i := 676) (by decide +kernel)⟩
theorem lw_p9 : lw_okq (⟨"ShownNot$Reader", "readClause", "()Z"⟩, 14) := ⟨⟨by decide +kernel, by decide +kernel⟩, List.mem_of_getElem? (i := 219) (by decide +kernel), List.mem_of_getElem? (i := 681) (by decide +kernel), List.mem_of_getElem? (i := 682) (by decide +kernel)⟩
theorem lw_p10 : lw_okq (⟨"ShownNot$Reader", "fail", "(I)Z"⟩, 14) := ⟨⟨by decide +kernel, by decide +kernel⟩, List.mem_of_getElem? (i := 219) (by decide +kernel), List.mem_of_getElem? (i := 685) (by decide +kernel), List.mem_of_getElem? (i := 686) (by decide +kernel)⟩
theorem lw_p11 : lw_okq (⟨"ShownNot$Reader", "step", "()V"⟩, 14) := ⟨⟨by decide +kernel, by decide +kernel⟩, List.mem_of_getElem? (i := 219) (by decide +kernel), List.mem_of_getElem? (i := 690) (by decide +kernel), List.mem_of_getElem? (i := 691) (by decide +kernel)⟩
theorem lw_p12 : lw_okq (⟨"ShownNot$Reader", "readSwap", "()Z"⟩, 14) := ⟨⟨by decide +kernel, by decide +kernel⟩, List.mem_of_getElem? (i := 219) (by decide +kernel), List.mem_of_getElem? (i := 694) (by decide +kernel), List.mem_of_getElem? (i := 695) (by decide +kernel)⟩
theorem lw_p13 : lw_okq (⟨"ShownNot$Reader", "readAsk", "()Z"⟩, 14) := ⟨⟨by decide +kernel, by decide +kernel⟩, List.mem_of_getElem? (i := 219) (by decide +kernel), List.mem_of_getElem? (i := 698) (by decide +kernel), List.mem_of_getElem? (i := 699) (by decide +kernel)⟩
theorem lw_p14 : lw_okq (⟨"ShownNot$Reader", "readEither", "()Z"⟩, 14) := ⟨⟨by decide +kernel, by decide +kernel⟩, List.mem_of_getElem? (i := 219) (by decide +kernel), List.mem_of_getElem? (i := 702) (by decide +kernel), List.mem_of_getElem? (i := 703) (by decide +kernel)⟩
theorem lw_p15 : lw_okq (⟨"ShownNot$Reader", "readBoth", "()Z"⟩, 14) := ⟨⟨by decide +kernel, by decide +kernel⟩, List.mem_of_getElem? (i := 219) (by decide +kernel), List.mem_of_getElem? (i := 706) (by decide +kernel), List.mem_of_getElem? (i := 707) (by decide +kernel)⟩
def lw_privs_1 : List (MethodName × Nat) := [(⟨"ShownNot$Chart", "ringsFrom", "(II)I"⟩, 10), (⟨"ShownNot$Chart", "turnsFrom", "(LShownNot$Chart;II)I"⟩, 10), (⟨"ShownNot$Chart", "fits", "(LShownNot$Chart;II)Z"⟩, 10), (⟨"ShownNot$Reader", "splitTape", "()V"⟩, 14), (⟨"ShownNot$Reader", "splitToken", "(I)I"⟩, 14), (⟨"ShownNot$Reader", "splitWord", "(I)I"⟩, 14), (⟨"ShownNot$Reader", "wordAt", "(II)I"⟩, 14), (⟨"ShownNot$Reader", "spells", "(IILjava/lang/String;)Z"⟩, 14), (⟨"ShownNot$Reader", "splitNumber", "(I)I"⟩, 14), (⟨"ShownNot$Reader", "readClause", "()Z"⟩, 14), (⟨"ShownNot$Reader", "fail", "(I)Z"⟩, 14), (⟨"ShownNot$Reader", "step", "()V"⟩, 14), (⟨"ShownNot$Reader", "readSwap", "()Z"⟩, 14), (⟨"ShownNot$Reader", "readAsk", "()Z"⟩, 14), (⟨"ShownNot$Reader", "readEither", "()Z"⟩, 14), (⟨"ShownNot$Reader", "readBoth", "()Z"⟩, 14)]
theorem lw_r1 : ∀ q ∈ lw_privs_1, lw_okq q := List.forall_mem_cons.mpr ⟨lw_p0, List.forall_mem_cons.mpr ⟨lw_p1, List.forall_mem_cons.mpr ⟨lw_p2, List.forall_mem_cons.mpr ⟨lw_p3, List.forall_mem_cons.mpr ⟨lw_p4, List.forall_mem_cons.mpr ⟨lw_p5, List.forall_mem_cons.mpr ⟨lw_p6, List.forall_mem_cons.mpr ⟨lw_p7, List.forall_mem_cons.mpr ⟨lw_p8, List.forall_mem_cons.mpr ⟨lw_p9, List.forall_mem_cons.mpr ⟨lw_p10, List.forall_mem_cons.mpr ⟨lw_p11, List.forall_mem_cons.mpr ⟨lw_p12, List.forall_mem_cons.mpr ⟨lw_p13, List.forall_mem_cons.mpr ⟨lw_p14, List.forall_mem_cons.mpr ⟨lw_p15, fun _ h => absurd h List.not_mem_nil⟩⟩⟩⟩⟩⟩⟩⟩⟩⟩⟩⟩⟩⟩⟩⟩
theorem lw_p16 : lw_okq (⟨"ShownNot$Reader", "readAsked", "(I)Z"⟩, 14) := ⟨⟨by decide +kernel, by decide +kernel⟩, List.mem_of_getElem? (i := 219) (by decide +kernel), List.mem_of_getElem? (i := 710) (by decide +kernel), List.mem_of_getElem? (i := 711) (by decide +kernel)⟩
theorem lw_p17 : lw_okq (⟨"ShownNot$Reader", "readSum", "(I)Z"⟩, 14) := ⟨⟨by decide +kernel, by decide +kernel⟩, List.mem_of_getElem? (i := 219) (by decide +kernel), List.mem_of_getElem? (i := 718) (by decide +kernel), List.mem_of_getElem? (i := 719) (by decide +kernel)⟩
theorem lw_p18 : lw_okq (⟨"ShownNot$Reader", "readProduct", "(I)Z"⟩, 14) := ⟨⟨by decide +kernel, by decide +kernel⟩, List.mem_of_getElem? (i := 219) (by decide +kernel), List.mem_of_getElem? (i := 722) (by decide +kernel), List.mem_of_getElem? (i := 723) (by decide +kernel)⟩
theorem lw_p19 : lw_okq (⟨"ShownNot$Reader", "readOne", "(I)Z"⟩, 14) := ⟨⟨by decide +kernel, by decide +kernel⟩, List.mem_of_getElem? (i := 219) (by decide +kernel), List.mem_of_getElem? (i := 726) (by decide +kernel), List.mem_of_getElem? (i := 727) (by decide +kernel)⟩
theorem lw_p20 : lw_okq (⟨"ShownNot$Reader", "readOpened", "(I)Z"⟩, 14) := ⟨⟨by decide +kernel, by decide +kernel⟩, List.mem_of_getElem? (i := 219) (by decide +kernel), List.mem_of_getElem? (i := 730) (by decide +kernel), List.mem_of_getElem? (i := 731) (by decide +kernel)⟩
theorem lw_p21 : lw_okq (⟨"ShownNot$JudgeCode", "openingsBelieved", "(I)I"⟩, 8) := ⟨⟨by decide +kernel, by decide +kernel⟩, List.mem_of_getElem? (i := 225) (by decide +kernel), List.mem_of_getElem? (i := 748) (by decide +kernel), List.mem_of_getElem? (i := 749) (by decide +kernel)⟩
theorem lw_p22 : lw_okq (⟨"ShownNot$JudgeCode", "isSo", "()Z"⟩, 8) := ⟨⟨by decide +kernel, by decide +kernel⟩, List.mem_of_getElem? (i := 225) (by decide +kernel), List.mem_of_getElem? (i := 752) (by decide +kernel), List.mem_of_getElem? (i := 753) (by decide +kernel)⟩
theorem lw_p23 : lw_okq (⟨"ShownNot$JudgeCode", "valueOf", "(II)J"⟩, 8) := ⟨⟨by decide +kernel, by decide +kernel⟩, List.mem_of_getElem? (i := 225) (by decide +kernel), List.mem_of_getElem? (i := 757) (by decide +kernel), List.mem_of_getElem? (i := 758) (by decide +kernel)⟩
theorem lw_p24 : lw_okq (⟨"ShownNot", "playFor", "(II)Z"⟩, 7) := ⟨⟨by decide +kernel, by decide +kernel⟩, List.mem_of_getElem? (i := 23) (by decide +kernel), List.mem_of_getElem? (i := 787) (by decide +kernel), List.mem_of_getElem? (i := 788) (by decide +kernel)⟩
theorem lw_p25 : lw_okq (⟨"ShownNot$Play", "addAsking", "(II[I)V"⟩, 17) := ⟨⟨by decide +kernel, by decide +kernel⟩, List.mem_of_getElem? (i := 303) (by decide +kernel), List.mem_of_getElem? (i := 802) (by decide +kernel), List.mem_of_getElem? (i := 803) (by decide +kernel)⟩
theorem lw_p26 : lw_okq (⟨"ShownNot$Play", "forgetFound", "()V"⟩, 17) := ⟨⟨by decide +kernel, by decide +kernel⟩, List.mem_of_getElem? (i := 303) (by decide +kernel), List.mem_of_getElem? (i := 823) (by decide +kernel), List.mem_of_getElem? (i := 824) (by decide +kernel)⟩
theorem lw_p27 : lw_okq (⟨"ShownNot$Play", "fillRefusing", "()V"⟩, 17) := ⟨⟨by decide +kernel, by decide +kernel⟩, List.mem_of_getElem? (i := 303) (by decide +kernel), List.mem_of_getElem? (i := 827) (by decide +kernel), List.mem_of_getElem? (i := 828) (by decide +kernel)⟩
theorem lw_p28 : lw_okq (⟨"ShownNot$Play", "countBelieved", "(I)I"⟩, 17) := ⟨⟨by decide +kernel, by decide +kernel⟩, List.mem_of_getElem? (i := 303) (by decide +kernel), List.mem_of_getElem? (i := 863) (by decide +kernel), List.mem_of_getElem? (i := 864) (by decide +kernel)⟩
theorem lw_p29 : lw_okq (⟨"ShownNot", "nightsUntil", "(I)I"⟩, 7) := ⟨⟨by decide +kernel, by decide +kernel⟩, List.mem_of_getElem? (i := 23) (by decide +kernel), List.mem_of_getElem? (i := 872) (by decide +kernel), List.mem_of_getElem? (i := 873) (by decide +kernel)⟩
theorem lw_p30 : lw_okq (⟨"ShownNot$Play", "fillLowest", "()V"⟩, 17) := ⟨⟨by decide +kernel, by decide +kernel⟩, List.mem_of_getElem? (i := 303) (by decide +kernel), List.mem_of_getElem? (i := 897) (by decide +kernel), List.mem_of_getElem? (i := 898) (by decide +kernel)⟩
theorem lw_p31 : lw_okq (⟨"ShownNot$Play", "findTellingPair", "()Z"⟩, 17) := ⟨⟨by decide +kernel, by decide +kernel⟩, List.mem_of_getElem? (i := 303) (by decide +kernel), List.mem_of_getElem? (i := 902) (by decide +kernel), List.mem_of_getElem? (i := 903) (by decide +kernel)⟩
def lw_privs_2 : List (MethodName × Nat) := [(⟨"ShownNot$Reader", "readAsked", "(I)Z"⟩, 14), (⟨"ShownNot$Reader", "readSum", "(I)Z"⟩, 14), (⟨"ShownNot$Reader", "readProduct", "(I)Z"⟩, 14), (⟨"ShownNot$Reader", "readOne", "(I)Z"⟩, 14), (⟨"ShownNot$Reader", "readOpened", "(I)Z"⟩, 14), (⟨"ShownNot$JudgeCode", "openingsBelieved", "(I)I"⟩, 8), (⟨"ShownNot$JudgeCode", "isSo", "()Z"⟩, 8), (⟨"ShownNot$JudgeCode", "valueOf", "(II)J"⟩, 8), (⟨"ShownNot", "playFor", "(II)Z"⟩, 7), (⟨"ShownNot$Play", "addAsking", "(II[I)V"⟩, 17), (⟨"ShownNot$Play", "forgetFound", "()V"⟩, 17), (⟨"ShownNot$Play", "fillRefusing", "()V"⟩, 17), (⟨"ShownNot$Play", "countBelieved", "(I)I"⟩, 17), (⟨"ShownNot", "nightsUntil", "(I)I"⟩, 7), (⟨"ShownNot$Play", "fillLowest", "()V"⟩, 17), (⟨"ShownNot$Play", "findTellingPair", "()Z"⟩, 17)]
theorem lw_r2 : ∀ q ∈ lw_privs_2, lw_okq q := List.forall_mem_cons.mpr ⟨lw_p16, List.forall_mem_cons.mpr ⟨lw_p17, List.forall_mem_cons.mpr ⟨lw_p18, List.forall_mem_cons.mpr ⟨lw_p19, List.forall_mem_cons.mpr ⟨lw_p20, List.forall_mem_cons.mpr ⟨lw_p21, List.forall_mem_cons.mpr ⟨lw_p22, List.forall_mem_cons.mpr ⟨lw_p23, List.forall_mem_cons.mpr ⟨lw_p24, List.forall_mem_cons.mpr ⟨lw_p25, List.forall_mem_cons.mpr ⟨lw_p26, List.forall_mem_cons.mpr ⟨lw_p27, List.forall_mem_cons.mpr ⟨lw_p28, List.forall_mem_cons.mpr ⟨lw_p29, List.forall_mem_cons.mpr ⟨lw_p30, List.forall_mem_cons.mpr ⟨lw_p31, fun _ h => absurd h List.not_mem_nil⟩⟩⟩⟩⟩⟩⟩⟩⟩⟩⟩⟩⟩⟩⟩⟩
theorem lw_p32 : lw_okq (⟨"ShownNot$Play", "firstTold", "(II)I"⟩, 17) := ⟨⟨by decide +kernel, by decide +kernel⟩, List.mem_of_getElem? (i := 303) (by decide +kernel), List.mem_of_getElem? (i := 906) (by decide +kernel), List.mem_of_getElem? (i := 907) (by decide +kernel)⟩
theorem lw_p33 : lw_okq (⟨"ShownNot$Sightings", "swapsMaking", "(IIII)I"⟩, 2) := ⟨⟨by decide +kernel, by decide +kernel⟩, List.mem_of_getElem? (i := 41) (by decide +kernel), List.mem_of_getElem? (i := 932) (by decide +kernel), List.mem_of_getElem? (i := 933) (by decide +kernel)⟩
theorem lw_p34 : lw_okq (⟨"ShownNot$Play", "isSwapOf", "(II)Z"⟩, 17) := ⟨⟨by decide +kernel, by decide +kernel⟩, List.mem_of_getElem? (i := 303) (by decide +kernel), List.mem_of_getElem? (i := 951) (by decide +kernel), List.mem_of_getElem? (i := 952) (by decide +kernel)⟩
theorem lw_p35 : lw_okq (⟨"ShownNot$Lock", "firstShowing", "(II)I"⟩, 5) := ⟨⟨by decide +kernel, by decide +kernel⟩, List.mem_of_getElem? (i := 73) (by decide +kernel), List.mem_of_getElem? (i := 1017) (by decide +kernel), List.mem_of_getElem? (i := 1018) (by decide +kernel)⟩
theorem lw_p36 : lw_okq (⟨"ShownNot$Lock", "drawsShowing", "(II)I"⟩, 5) := ⟨⟨by decide +kernel, by decide +kernel⟩, List.mem_of_getElem? (i := 73) (by decide +kernel), List.mem_of_getElem? (i := 1028) (by decide +kernel), List.mem_of_getElem? (i := 1029) (by decide +kernel)⟩
theorem lw_p37 : lw_okq (⟨"ShownNot$Play", "isFalseBelieved", "(III)Z"⟩, 17) := ⟨⟨by decide +kernel, by decide +kernel⟩, List.mem_of_getElem? (i := 303) (by decide +kernel), List.mem_of_getElem? (i := 1043) (by decide +kernel), List.mem_of_getElem? (i := 1044) (by decide +kernel)⟩
theorem lw_p38 : lw_okq (⟨"ShownNot$Riddle", "isSign", "(I)Z"⟩, 3) := ⟨⟨by decide +kernel, by decide +kernel⟩, List.mem_of_getElem? (i := 96) (by decide +kernel), List.mem_of_getElem? (i := 1082) (by decide +kernel), List.mem_of_getElem? (i := 1083) (by decide +kernel)⟩
theorem lw_p39 : lw_okq (⟨"ShownNot$Riddle", "isSolvedBy", "(I)Z"⟩, 3) := ⟨⟨by decide +kernel, by decide +kernel⟩, List.mem_of_getElem? (i := 96) (by decide +kernel), List.mem_of_getElem? (i := 1098) (by decide +kernel), List.mem_of_getElem? (i := 1099) (by decide +kernel)⟩
theorem lw_p40 : lw_okq (⟨"ShownNot$Riddle", "signPaint", "(III)I"⟩, 3) := ⟨⟨by decide +kernel, by decide +kernel⟩, List.mem_of_getElem? (i := 96) (by decide +kernel), List.mem_of_getElem? (i := 1102) (by decide +kernel), List.mem_of_getElem? (i := 1103) (by decide +kernel)⟩
theorem lw_p41 : lw_okq (⟨"ShownNot", "findMending", "(LShownNot$Showing;LShownNot$Chart;LShownNot$Chart;)I"⟩, 7) := ⟨⟨by decide +kernel, by decide +kernel⟩, List.mem_of_getElem? (i := 23) (by decide +kernel), List.mem_of_getElem? (i := 1137) (by decide +kernel), List.mem_of_getElem? (i := 1138) (by decide +kernel)⟩
theorem lw_p42 : lw_okq (⟨"ShownNot", "mends", "(LShownNot$Showing;LShownNot$Chart;LShownNot$Chart;I)Z"⟩, 7) := ⟨⟨by decide +kernel, by decide +kernel⟩, List.mem_of_getElem? (i := 23) (by decide +kernel), List.mem_of_getElem? (i := 1146) (by decide +kernel), List.mem_of_getElem? (i := 1147) (by decide +kernel)⟩
theorem lw_p43 : lw_okq (⟨"ShownNot", "aboutMap", "(II)I"⟩, 7) := ⟨⟨by decide +kernel, by decide +kernel⟩, List.mem_of_getElem? (i := 23) (by decide +kernel), List.mem_of_getElem? (i := 1201) (by decide +kernel), List.mem_of_getElem? (i := 1202) (by decide +kernel)⟩
theorem lw_p44 : lw_okq (⟨"ShownNot", "aboutShowing", "(II)I"⟩, 7) := ⟨⟨by decide +kernel, by decide +kernel⟩, List.mem_of_getElem? (i := 23) (by decide +kernel), List.mem_of_getElem? (i := 1205) (by decide +kernel), List.mem_of_getElem? (i := 1206) (by decide +kernel)⟩
theorem lw_p45 : lw_okq (⟨"ShownNotModel", "isMap", "(I)Z"⟩, 44) := ⟨⟨by decide +kernel, by decide +kernel⟩, List.mem_of_getElem? (i := 1209) (by decide +kernel), List.mem_of_getElem? (i := 1362) (by decide +kernel), List.mem_of_getElem? (i := 1363) (by decide +kernel)⟩
theorem lw_p46 : lw_okq (⟨"ShownNotModel", "isBorder", "(III)Z"⟩, 44) := ⟨⟨by decide +kernel, by decide +kernel⟩, List.mem_of_getElem? (i := 1209) (by decide +kernel), List.mem_of_getElem? (i := 1366) (by decide +kernel), List.mem_of_getElem? (i := 1367) (by decide +kernel)⟩
theorem lw_p47 : lw_okq (⟨"ShownNotModel", "oneOf", "(II)I"⟩, 44) := ⟨⟨by decide +kernel, by decide +kernel⟩, List.mem_of_getElem? (i := 1209) (by decide +kernel), List.mem_of_getElem? (i := 1370) (by decide +kernel), List.mem_of_getElem? (i := 1371) (by decide +kernel)⟩
def lw_privs_3 : List (MethodName × Nat) := [(⟨"ShownNot$Play", "firstTold", "(II)I"⟩, 17), (⟨"ShownNot$Sightings", "swapsMaking", "(IIII)I"⟩, 2), (⟨"ShownNot$Play", "isSwapOf", "(II)Z"⟩, 17), (⟨"ShownNot$Lock", "firstShowing", "(II)I"⟩, 5), (⟨"ShownNot$Lock", "drawsShowing", "(II)I"⟩, 5), (⟨"ShownNot$Play", "isFalseBelieved", "(III)Z"⟩, 17), (⟨"ShownNot$Riddle", "isSign", "(I)Z"⟩, 3), (⟨"ShownNot$Riddle", "isSolvedBy", "(I)Z"⟩, 3), (⟨"ShownNot$Riddle", "signPaint", "(III)I"⟩, 3), (⟨"ShownNot", "findMending", "(LShownNot$Showing;LShownNot$Chart;LShownNot$Chart;)I"⟩, 7), (⟨"ShownNot", "mends", "(LShownNot$Showing;LShownNot$Chart;LShownNot$Chart;I)Z"⟩, 7), (⟨"ShownNot", "aboutMap", "(II)I"⟩, 7), (⟨"ShownNot", "aboutShowing", "(II)I"⟩, 7), (⟨"ShownNotModel", "isMap", "(I)Z"⟩, 44), (⟨"ShownNotModel", "isBorder", "(III)Z"⟩, 44), (⟨"ShownNotModel", "oneOf", "(II)I"⟩, 44)]
theorem lw_r3 : ∀ q ∈ lw_privs_3, lw_okq q := List.forall_mem_cons.mpr ⟨lw_p32, List.forall_mem_cons.mpr ⟨lw_p33, List.forall_mem_cons.mpr ⟨lw_p34, List.forall_mem_cons.mpr ⟨lw_p35, List.forall_mem_cons.mpr ⟨lw_p36, List.forall_mem_cons.mpr ⟨lw_p37, List.forall_mem_cons.mpr ⟨lw_p38, List.forall_mem_cons.mpr ⟨lw_p39, List.forall_mem_cons.mpr ⟨lw_p40, List.forall_mem_cons.mpr ⟨lw_p41, List.forall_mem_cons.mpr ⟨lw_p42, List.forall_mem_cons.mpr ⟨lw_p43, List.forall_mem_cons.mpr ⟨lw_p44, List.forall_mem_cons.mpr ⟨lw_p45, List.forall_mem_cons.mpr ⟨lw_p46, List.forall_mem_cons.mpr ⟨lw_p47, fun _ h => absurd h List.not_mem_nil⟩⟩⟩⟩⟩⟩⟩⟩⟩⟩⟩⟩⟩⟩⟩⟩
theorem lw_p48 : lw_okq (⟨"ShownNotModel", "otherOf", "(II)I"⟩, 44) := ⟨⟨by decide +kernel, by decide +kernel⟩, List.mem_of_getElem? (i := 1209) (by decide +kernel), List.mem_of_getElem? (i := 1374) (by decide +kernel), List.mem_of_getElem? (i := 1375) (by decide +kernel)⟩
theorem lw_p49 : lw_okq (⟨"ShownNotModel", "findAnswers", "(I)V"⟩, 44) := ⟨⟨by decide +kernel, by decide +kernel⟩, List.mem_of_getElem? (i := 1209) (by decide +kernel), List.mem_of_getElem? (i := 1382) (by decide +kernel), List.mem_of_getElem? (i := 1383) (by decide +kernel)⟩
theorem lw_p50 : lw_okq (⟨"ShownNotModel", "rowsOf", "(I)I"⟩, 44) := ⟨⟨by decide +kernel, by decide +kernel⟩, List.mem_of_getElem? (i := 1209) (by decide +kernel), List.mem_of_getElem? (i := 1386) (by decide +kernel), List.mem_of_getElem? (i := 1387) (by decide +kernel)⟩
theorem lw_p51 : lw_okq (⟨"ShownNotModel", "isAnswer", "(II)Z"⟩, 44) := ⟨⟨by decide +kernel, by decide +kernel⟩, List.mem_of_getElem? (i := 1209) (by decide +kernel), List.mem_of_getElem? (i := 1390) (by decide +kernel), List.mem_of_getElem? (i := 1391) (by decide +kernel)⟩
theorem lw_p52 : lw_okq (⟨"ShownNotModel", "paintOf", "(III)I"⟩, 44) := ⟨⟨by decide +kernel, by decide +kernel⟩, List.mem_of_getElem? (i := 1209) (by decide +kernel), List.mem_of_getElem? (i := 1394) (by decide +kernel), List.mem_of_getElem? (i := 1395) (by decide +kernel)⟩
theorem lw_p53 : lw_okq (⟨"ShownNotModel", "swappedRow", "(III)I"⟩, 44) := ⟨⟨by decide +kernel, by decide +kernel⟩, List.mem_of_getElem? (i := 1209) (by decide +kernel), List.mem_of_getElem? (i := 1402) (by decide +kernel), List.mem_of_getElem? (i := 1403) (by decide +kernel)⟩
theorem lw_p54 : lw_okq (⟨"ShownNotModel", "swap", "(II)I"⟩, 44) := ⟨⟨by decide +kernel, by decide +kernel⟩, List.mem_of_getElem? (i := 1209) (by decide +kernel), List.mem_of_getElem? (i := 1406) (by decide +kernel), List.mem_of_getElem? (i := 1407) (by decide +kernel)⟩
theorem lw_p55 : lw_okq (⟨"ShownNotModel", "firstOrder", "(I)V"⟩, 44) := ⟨⟨by decide +kernel, by decide +kernel⟩, List.mem_of_getElem? (i := 1209) (by decide +kernel), List.mem_of_getElem? (i := 1414) (by decide +kernel), List.mem_of_getElem? (i := 1415) (by decide +kernel)⟩
theorem lw_p56 : lw_okq (⟨"ShownNotModel", "nextOrder", "(I)Z"⟩, 44) := ⟨⟨by decide +kernel, by decide +kernel⟩, List.mem_of_getElem? (i := 1209) (by decide +kernel), List.mem_of_getElem? (i := 1418) (by decide +kernel), List.mem_of_getElem? (i := 1419) (by decide +kernel)⟩
theorem lw_p57 : lw_okq (⟨"ShownNotModel", "turnsOf", "(II)I"⟩, 44) := ⟨⟨by decide +kernel, by decide +kernel⟩, List.mem_of_getElem? (i := 1209) (by decide +kernel), List.mem_of_getElem? (i := 1426) (by decide +kernel), List.mem_of_getElem? (i := 1427) (by decide +kernel)⟩
theorem lw_p58 : lw_okq (⟨"ShownNotModel", "four", "(I)V"⟩, 44) := ⟨⟨by decide +kernel, by decide +kernel⟩, List.mem_of_getElem? (i := 1209) (by decide +kernel), List.mem_of_getElem? (i := 1434) (by decide +kernel), List.mem_of_getElem? (i := 1435) (by decide +kernel)⟩
theorem lw_p59 : lw_okq (⟨"ShownNotModel", "readText", "()I"⟩, 44) := ⟨⟨by decide +kernel, by decide +kernel⟩, List.mem_of_getElem? (i := 1209) (by decide +kernel), List.mem_of_getElem? (i := 1446) (by decide +kernel), List.mem_of_getElem? (i := 1447) (by decide +kernel)⟩
theorem lw_p60 : lw_okq (⟨"ShownNotModel", "nextToken", "()V"⟩, 44) := ⟨⟨by decide +kernel, by decide +kernel⟩, List.mem_of_getElem? (i := 1209) (by decide +kernel), List.mem_of_getElem? (i := 1450) (by decide +kernel), List.mem_of_getElem? (i := 1451) (by decide +kernel)⟩
theorem lw_p61 : lw_okq (⟨"ShownNotModel", "byteAt", "(I)I"⟩, 44) := ⟨⟨by decide +kernel, by decide +kernel⟩, List.mem_of_getElem? (i := 1209) (by decide +kernel), List.mem_of_getElem? (i := 1454) (by decide +kernel), List.mem_of_getElem? (i := 1455) (by decide +kernel)⟩
theorem lw_p62 : lw_okq (⟨"ShownNotModel", "clause", "()I"⟩, 44) := ⟨⟨by decide +kernel, by decide +kernel⟩, List.mem_of_getElem? (i := 1209) (by decide +kernel), List.mem_of_getElem? (i := 1465) (by decide +kernel), List.mem_of_getElem? (i := 1466) (by decide +kernel)⟩
theorem lw_p63 : lw_okq (⟨"ShownNotModel", "sortOf", "()I"⟩, 44) := ⟨⟨by decide +kernel, by decide +kernel⟩, List.mem_of_getElem? (i := 1209) (by decide +kernel), List.mem_of_getElem? (i := 1469) (by decide +kernel), List.mem_of_getElem? (i := 1470) (by decide +kernel)⟩
def lw_privs_4 : List (MethodName × Nat) := [(⟨"ShownNotModel", "otherOf", "(II)I"⟩, 44), (⟨"ShownNotModel", "findAnswers", "(I)V"⟩, 44), (⟨"ShownNotModel", "rowsOf", "(I)I"⟩, 44), (⟨"ShownNotModel", "isAnswer", "(II)Z"⟩, 44), (⟨"ShownNotModel", "paintOf", "(III)I"⟩, 44), (⟨"ShownNotModel", "swappedRow", "(III)I"⟩, 44), (⟨"ShownNotModel", "swap", "(II)I"⟩, 44), (⟨"ShownNotModel", "firstOrder", "(I)V"⟩, 44), (⟨"ShownNotModel", "nextOrder", "(I)Z"⟩, 44), (⟨"ShownNotModel", "turnsOf", "(II)I"⟩, 44), (⟨"ShownNotModel", "four", "(I)V"⟩, 44), (⟨"ShownNotModel", "readText", "()I"⟩, 44), (⟨"ShownNotModel", "nextToken", "()V"⟩, 44), (⟨"ShownNotModel", "byteAt", "(I)I"⟩, 44), (⟨"ShownNotModel", "clause", "()I"⟩, 44), (⟨"ShownNotModel", "sortOf", "()I"⟩, 44)]
theorem lw_r4 : ∀ q ∈ lw_privs_4, lw_okq q := List.forall_mem_cons.mpr ⟨lw_p48, List.forall_mem_cons.mpr ⟨lw_p49, List.forall_mem_cons.mpr ⟨lw_p50, List.forall_mem_cons.mpr ⟨lw_p51, List.forall_mem_cons.mpr ⟨lw_p52, List.forall_mem_cons.mpr ⟨lw_p53, List.forall_mem_cons.mpr ⟨lw_p54, List.forall_mem_cons.mpr ⟨lw_p55, List.forall_mem_cons.mpr ⟨lw_p56, List.forall_mem_cons.mpr ⟨lw_p57, List.forall_mem_cons.mpr ⟨lw_p58, List.forall_mem_cons.mpr ⟨lw_p59, List.forall_mem_cons.mpr ⟨lw_p60, List.forall_mem_cons.mpr ⟨lw_p61, List.forall_mem_cons.mpr ⟨lw_p62, List.forall_mem_cons.mpr ⟨lw_p63, fun _ h => absurd h List.not_mem_nil⟩⟩⟩⟩⟩⟩⟩⟩⟩⟩⟩⟩⟩⟩⟩⟩
theorem lw_p64 : lw_okq (⟨"ShownNotModel", "isWord", "(J)Z"⟩, 44) := ⟨⟨by decide +kernel, by decide +kernel⟩, List.mem_of_getElem? (i := 1209) (by decide +kernel), List.mem_of_getElem? (i := 1479) (by decide +kernel), List.mem_of_getElem? (i := 1480) (by decide +kernel)⟩
theorem lw_p65 : lw_okq (⟨"ShownNotModel", "either", "()I"⟩, 44) := ⟨⟨by decide +kernel, by decide +kernel⟩, List.mem_of_getElem? (i := 1209) (by decide +kernel), List.mem_of_getElem? (i := 1488) (by decide +kernel), List.mem_of_getElem? (i := 1489) (by decide +kernel)⟩
theorem lw_p66 : lw_okq (⟨"ShownNotModel", "asked", "()I"⟩, 44) := ⟨⟨by decide +kernel, by decide +kernel⟩, List.mem_of_getElem? (i := 1209) (by decide +kernel), List.mem_of_getElem? (i := 1492) (by decide +kernel), List.mem_of_getElem? (i := 1493) (by decide +kernel)⟩
theorem lw_p67 : lw_okq (⟨"ShownNotModel", "summed", "()I"⟩, 44) := ⟨⟨by decide +kernel, by decide +kernel⟩, List.mem_of_getElem? (i := 1209) (by decide +kernel), List.mem_of_getElem? (i := 1496) (by decide +kernel), List.mem_of_getElem? (i := 1497) (by decide +kernel)⟩
theorem lw_p68 : lw_okq (⟨"ShownNotModel", "goesOn", "()Z"⟩, 44) := ⟨⟨by decide +kernel, by decide +kernel⟩, List.mem_of_getElem? (i := 1209) (by decide +kernel), List.mem_of_getElem? (i := 1500) (by decide +kernel), List.mem_of_getElem? (i := 1501) (by decide +kernel)⟩
theorem lw_p69 : lw_okq (⟨"ShownNotModel", "hasParen", "()Z"⟩, 44) := ⟨⟨by decide +kernel, by decide +kernel⟩, List.mem_of_getElem? (i := 1209) (by decide +kernel), List.mem_of_getElem? (i := 1504) (by decide +kernel), List.mem_of_getElem? (i := 1505) (by decide +kernel)⟩
theorem lw_p70 : lw_okq (⟨"ShownNotModel", "behindOne", "()I"⟩, 44) := ⟨⟨by decide +kernel, by decide +kernel⟩, List.mem_of_getElem? (i := 1209) (by decide +kernel), List.mem_of_getElem? (i := 1508) (by decide +kernel), List.mem_of_getElem? (i := 1509) (by decide +kernel)⟩
theorem lw_p71 : lw_okq (⟨"ShownNotModel", "settle", "(I)V"⟩, 44) := ⟨⟨by decide +kernel, by decide +kernel⟩, List.mem_of_getElem? (i := 1209) (by decide +kernel), List.mem_of_getElem? (i := 1512) (by decide +kernel), List.mem_of_getElem? (i := 1513) (by decide +kernel)⟩
theorem lw_p72 : lw_okq (⟨"ShownNotModel", "emit", "(II)V"⟩, 44) := ⟨⟨by decide +kernel, by decide +kernel⟩, List.mem_of_getElem? (i := 1209) (by decide +kernel), List.mem_of_getElem? (i := 1516) (by decide +kernel), List.mem_of_getElem? (i := 1517) (by decide +kernel)⟩
theorem lw_p73 : lw_okq (⟨"ShownNotModel", "push", "(I)V"⟩, 44) := ⟨⟨by decide +kernel, by decide +kernel⟩, List.mem_of_getElem? (i := 1209) (by decide +kernel), List.mem_of_getElem? (i := 1520) (by decide +kernel), List.mem_of_getElem? (i := 1521) (by decide +kernel)⟩
theorem lw_p74 : lw_okq (⟨"ShownNotModel", "whole", "()V"⟩, 44) := ⟨⟨by decide +kernel, by decide +kernel⟩, List.mem_of_getElem? (i := 1209) (by decide +kernel), List.mem_of_getElem? (i := 1524) (by decide +kernel), List.mem_of_getElem? (i := 1525) (by decide +kernel)⟩
theorem lw_p75 : lw_okq (⟨"ShownNotModel", "beginOne", "()I"⟩, 44) := ⟨⟨by decide +kernel, by decide +kernel⟩, List.mem_of_getElem? (i := 1209) (by decide +kernel), List.mem_of_getElem? (i := 1528) (by decide +kernel), List.mem_of_getElem? (i := 1529) (by decide +kernel)⟩
theorem lw_p76 : lw_okq (⟨"ShownNotModel", "nameOf", "()I"⟩, 44) := ⟨⟨by decide +kernel, by decide +kernel⟩, List.mem_of_getElem? (i := 1209) (by decide +kernel), List.mem_of_getElem? (i := 1532) (by decide +kernel), List.mem_of_getElem? (i := 1533) (by decide +kernel)⟩
theorem lw_p77 : lw_okq (⟨"ShownNotModel", "compareOf", "()I"⟩, 44) := ⟨⟨by decide +kernel, by decide +kernel⟩, List.mem_of_getElem? (i := 1209) (by decide +kernel), List.mem_of_getElem? (i := 1540) (by decide +kernel), List.mem_of_getElem? (i := 1541) (by decide +kernel)⟩
theorem lw_p78 : lw_okq (⟨"ShownNotModel", "isShowing", "(I)Z"⟩, 44) := ⟨⟨by decide +kernel, by decide +kernel⟩, List.mem_of_getElem? (i := 1209) (by decide +kernel), List.mem_of_getElem? (i := 1553) (by decide +kernel), List.mem_of_getElem? (i := 1554) (by decide +kernel)⟩
theorem lw_p79 : lw_okq (⟨"ShownNotModel", "take", "(I)V"⟩, 44) := ⟨⟨by decide +kernel, by decide +kernel⟩, List.mem_of_getElem? (i := 1209) (by decide +kernel), List.mem_of_getElem? (i := 1557) (by decide +kernel), List.mem_of_getElem? (i := 1558) (by decide +kernel)⟩
def lw_privs_5 : List (MethodName × Nat) := [(⟨"ShownNotModel", "isWord", "(J)Z"⟩, 44), (⟨"ShownNotModel", "either", "()I"⟩, 44), (⟨"ShownNotModel", "asked", "()I"⟩, 44), (⟨"ShownNotModel", "summed", "()I"⟩, 44), (⟨"ShownNotModel", "goesOn", "()Z"⟩, 44), (⟨"ShownNotModel", "hasParen", "()Z"⟩, 44), (⟨"ShownNotModel", "behindOne", "()I"⟩, 44), (⟨"ShownNotModel", "settle", "(I)V"⟩, 44), (⟨"ShownNotModel", "emit", "(II)V"⟩, 44), (⟨"ShownNotModel", "push", "(I)V"⟩, 44), (⟨"ShownNotModel", "whole", "()V"⟩, 44), (⟨"ShownNotModel", "beginOne", "()I"⟩, 44), (⟨"ShownNotModel", "nameOf", "()I"⟩, 44), (⟨"ShownNotModel", "compareOf", "()I"⟩, 44), (⟨"ShownNotModel", "isShowing", "(I)Z"⟩, 44), (⟨"ShownNotModel", "take", "(I)V"⟩, 44)]
theorem lw_r5 : ∀ q ∈ lw_privs_5, lw_okq q := List.forall_mem_cons.mpr ⟨lw_p64, List.forall_mem_cons.mpr ⟨lw_p65, List.forall_mem_cons.mpr ⟨lw_p66, List.forall_mem_cons.mpr ⟨lw_p67, List.forall_mem_cons.mpr ⟨lw_p68, List.forall_mem_cons.mpr ⟨lw_p69, List.forall_mem_cons.mpr ⟨lw_p70, List.forall_mem_cons.mpr ⟨lw_p71, List.forall_mem_cons.mpr ⟨lw_p72, List.forall_mem_cons.mpr ⟨lw_p73, List.forall_mem_cons.mpr ⟨lw_p74, List.forall_mem_cons.mpr ⟨lw_p75, List.forall_mem_cons.mpr ⟨lw_p76, List.forall_mem_cons.mpr ⟨lw_p77, List.forall_mem_cons.mpr ⟨lw_p78, List.forall_mem_cons.mpr ⟨lw_p79, fun _ h => absurd h List.not_mem_nil⟩⟩⟩⟩⟩⟩⟩⟩⟩⟩⟩⟩⟩⟩⟩⟩
theorem lw_p80 : lw_okq (⟨"ShownNotModel", "askingsOf", "(I)I"⟩, 44) := ⟨⟨by decide +kernel, by decide +kernel⟩, List.mem_of_getElem? (i := 1209) (by decide +kernel), List.mem_of_getElem? (i := 1561) (by decide +kernel), List.mem_of_getElem? (i := 1562) (by decide +kernel)⟩
theorem lw_p81 : lw_okq (⟨"ShownNotModel", "believes", "(IIII)Z"⟩, 44) := ⟨⟨by decide +kernel, by decide +kernel⟩, List.mem_of_getElem? (i := 1209) (by decide +kernel), List.mem_of_getElem? (i := 1565) (by decide +kernel), List.mem_of_getElem? (i := 1566) (by decide +kernel)⟩
theorem lw_p82 : lw_okq (⟨"ShownNotModel", "askedOne", "(II)I"⟩, 44) := ⟨⟨by decide +kernel, by decide +kernel⟩, List.mem_of_getElem? (i := 1209) (by decide +kernel), List.mem_of_getElem? (i := 1569) (by decide +kernel), List.mem_of_getElem? (i := 1570) (by decide +kernel)⟩
theorem lw_p83 : lw_okq (⟨"ShownNotModel", "askedOther", "(II)I"⟩, 44) := ⟨⟨by decide +kernel, by decide +kernel⟩, List.mem_of_getElem? (i := 1209) (by decide +kernel), List.mem_of_getElem? (i := 1573) (by decide +kernel), List.mem_of_getElem? (i := 1574) (by decide +kernel)⟩
theorem lw_p84 : lw_okq (⟨"ShownNotModel", "judged", "(I)Z"⟩, 44) := ⟨⟨by decide +kernel, by decide +kernel⟩, List.mem_of_getElem? (i := 1209) (by decide +kernel), List.mem_of_getElem? (i := 1577) (by decide +kernel), List.mem_of_getElem? (i := 1578) (by decide +kernel)⟩
theorem lw_p85 : lw_okq (⟨"ShownNotModel", "wrongs", "(I)I"⟩, 44) := ⟨⟨by decide +kernel, by decide +kernel⟩, List.mem_of_getElem? (i := 1209) (by decide +kernel), List.mem_of_getElem? (i := 1596) (by decide +kernel), List.mem_of_getElem? (i := 1597) (by decide +kernel)⟩
theorem lw_p86 : lw_okq (⟨"ShownNotModel", "drawnSwap", "(I)I"⟩, 44) := ⟨⟨by decide +kernel, by decide +kernel⟩, List.mem_of_getElem? (i := 1209) (by decide +kernel), List.mem_of_getElem? (i := 1600) (by decide +kernel), List.mem_of_getElem? (i := 1601) (by decide +kernel)⟩
theorem lw_p87 : lw_okq (⟨"ShownNotModel", "believesRow", "(IIII)Z"⟩, 44) := ⟨⟨by decide +kernel, by decide +kernel⟩, List.mem_of_getElem? (i := 1209) (by decide +kernel), List.mem_of_getElem? (i := 1604) (by decide +kernel), List.mem_of_getElem? (i := 1605) (by decide +kernel)⟩
theorem lw_p88 : lw_okq (⟨"ShownNotModel", "findCheat", "(I)V"⟩, 44) := ⟨⟨by decide +kernel, by decide +kernel⟩, List.mem_of_getElem? (i := 1209) (by decide +kernel), List.mem_of_getElem? (i := 1612) (by decide +kernel), List.mem_of_getElem? (i := 1613) (by decide +kernel)⟩
theorem lw_p89 : lw_okq (⟨"ShownNotModel", "isAbove", "()Z"⟩, 44) := ⟨⟨by decide +kernel, by decide +kernel⟩, List.mem_of_getElem? (i := 1209) (by decide +kernel), List.mem_of_getElem? (i := 1625) (by decide +kernel), List.mem_of_getElem? (i := 1626) (by decide +kernel)⟩
theorem lw_p90 : lw_okq (⟨"ShownNotModel", "telling", "(II)Z"⟩, 44) := ⟨⟨by decide +kernel, by decide +kernel⟩, List.mem_of_getElem? (i := 1209) (by decide +kernel), List.mem_of_getElem? (i := 1633) (by decide +kernel), List.mem_of_getElem? (i := 1634) (by decide +kernel)⟩
theorem lw_p91 : lw_okq (⟨"ShownNotModel", "finds", "(III)Z"⟩, 44) := ⟨⟨by decide +kernel, by decide +kernel⟩, List.mem_of_getElem? (i := 1209) (by decide +kernel), List.mem_of_getElem? (i := 1637) (by decide +kernel), List.mem_of_getElem? (i := 1638) (by decide +kernel)⟩
theorem lw_p92 : lw_okq (⟨"ShownNotModel", "count", "(IIII[I)V"⟩, 44) := ⟨⟨by decide +kernel, by decide +kernel⟩, List.mem_of_getElem? (i := 1209) (by decide +kernel), List.mem_of_getElem? (i := 1641) (by decide +kernel), List.mem_of_getElem? (i := 1642) (by decide +kernel)⟩
theorem lw_p93 : lw_okq (⟨"ShownNotModel", "opening", "(IIII)I"⟩, 44) := ⟨⟨by decide +kernel, by decide +kernel⟩, List.mem_of_getElem? (i := 1209) (by decide +kernel), List.mem_of_getElem? (i := 1645) (by decide +kernel), List.mem_of_getElem? (i := 1646) (by decide +kernel)⟩
theorem lw_p94 : lw_okq (⟨"ShownNotModel", "isTold", "(IIII)Z"⟩, 44) := ⟨⟨by decide +kernel, by decide +kernel⟩, List.mem_of_getElem? (i := 1209) (by decide +kernel), List.mem_of_getElem? (i := 1649) (by decide +kernel), List.mem_of_getElem? (i := 1650) (by decide +kernel)⟩
theorem lw_p95 : lw_okq (⟨"ShownNotModel", "weightOf", "(II)J"⟩, 44) := ⟨⟨by decide +kernel, by decide +kernel⟩, List.mem_of_getElem? (i := 1209) (by decide +kernel), List.mem_of_getElem? (i := 1662) (by decide +kernel), List.mem_of_getElem? (i := 1663) (by decide +kernel)⟩
def lw_privs_6 : List (MethodName × Nat) := [(⟨"ShownNotModel", "askingsOf", "(I)I"⟩, 44), (⟨"ShownNotModel", "believes", "(IIII)Z"⟩, 44), (⟨"ShownNotModel", "askedOne", "(II)I"⟩, 44), (⟨"ShownNotModel", "askedOther", "(II)I"⟩, 44), (⟨"ShownNotModel", "judged", "(I)Z"⟩, 44), (⟨"ShownNotModel", "wrongs", "(I)I"⟩, 44), (⟨"ShownNotModel", "drawnSwap", "(I)I"⟩, 44), (⟨"ShownNotModel", "believesRow", "(IIII)Z"⟩, 44), (⟨"ShownNotModel", "findCheat", "(I)V"⟩, 44), (⟨"ShownNotModel", "isAbove", "()Z"⟩, 44), (⟨"ShownNotModel", "telling", "(II)Z"⟩, 44), (⟨"ShownNotModel", "finds", "(III)Z"⟩, 44), (⟨"ShownNotModel", "count", "(IIII[I)V"⟩, 44), (⟨"ShownNotModel", "opening", "(IIII)I"⟩, 44), (⟨"ShownNotModel", "isTold", "(IIII)Z"⟩, 44), (⟨"ShownNotModel", "weightOf", "(II)J"⟩, 44)]
theorem lw_r6 : ∀ q ∈ lw_privs_6, lw_okq q := List.forall_mem_cons.mpr ⟨lw_p80, List.forall_mem_cons.mpr ⟨lw_p81, List.forall_mem_cons.mpr ⟨lw_p82, List.forall_mem_cons.mpr ⟨lw_p83, List.forall_mem_cons.mpr ⟨lw_p84, List.forall_mem_cons.mpr ⟨lw_p85, List.forall_mem_cons.mpr ⟨lw_p86, List.forall_mem_cons.mpr ⟨lw_p87, List.forall_mem_cons.mpr ⟨lw_p88, List.forall_mem_cons.mpr ⟨lw_p89, List.forall_mem_cons.mpr ⟨lw_p90, List.forall_mem_cons.mpr ⟨lw_p91, List.forall_mem_cons.mpr ⟨lw_p92, List.forall_mem_cons.mpr ⟨lw_p93, List.forall_mem_cons.mpr ⟨lw_p94, List.forall_mem_cons.mpr ⟨lw_p95, fun _ h => absurd h List.not_mem_nil⟩⟩⟩⟩⟩⟩⟩⟩⟩⟩⟩⟩⟩⟩⟩⟩
theorem lw_p96 : lw_okq (⟨"ShownNotModel", "isSeenSo", "(IIII)Z"⟩, 44) := ⟨⟨by decide +kernel, by decide +kernel⟩, List.mem_of_getElem? (i := 1209) (by decide +kernel), List.mem_of_getElem? (i := 1666) (by decide +kernel), List.mem_of_getElem? (i := 1667) (by decide +kernel)⟩
theorem lw_p97 : lw_okq (⟨"ShownNotModel", "isNight", "(II)Z"⟩, 44) := ⟨⟨by decide +kernel, by decide +kernel⟩, List.mem_of_getElem? (i := 1209) (by decide +kernel), List.mem_of_getElem? (i := 1670) (by decide +kernel), List.mem_of_getElem? (i := 1671) (by decide +kernel)⟩
theorem lw_p98 : lw_okq (⟨"ShownNotModel", "isOneButFor", "(III)Z"⟩, 44) := ⟨⟨by decide +kernel, by decide +kernel⟩, List.mem_of_getElem? (i := 1209) (by decide +kernel), List.mem_of_getElem? (i := 1678) (by decide +kernel), List.mem_of_getElem? (i := 1679) (by decide +kernel)⟩
theorem lw_p99 : lw_okq (⟨"ShownNotModel", "seenLands", "()I"⟩, 44) := ⟨⟨by decide +kernel, by decide +kernel⟩, List.mem_of_getElem? (i := 1209) (by decide +kernel), List.mem_of_getElem? (i := 1690) (by decide +kernel), List.mem_of_getElem? (i := 1691) (by decide +kernel)⟩
theorem lw_p100 : lw_okq (⟨"ShownNotModel", "isPulled", "()Z"⟩, 44) := ⟨⟨by decide +kernel, by decide +kernel⟩, List.mem_of_getElem? (i := 1209) (by decide +kernel), List.mem_of_getElem? (i := 1698) (by decide +kernel), List.mem_of_getElem? (i := 1699) (by decide +kernel)⟩
theorem lw_p101 : lw_okq (⟨"ShownNotModel", "shown", "(II)I"⟩, 44) := ⟨⟨by decide +kernel, by decide +kernel⟩, List.mem_of_getElem? (i := 1209) (by decide +kernel), List.mem_of_getElem? (i := 1710) (by decide +kernel), List.mem_of_getElem? (i := 1711) (by decide +kernel)⟩
theorem lw_p102 : lw_okq (⟨"ShownNotModel", "doubled", "(I)I"⟩, 44) := ⟨⟨by decide +kernel, by decide +kernel⟩, List.mem_of_getElem? (i := 1209) (by decide +kernel), List.mem_of_getElem? (i := 1718) (by decide +kernel), List.mem_of_getElem? (i := 1719) (by decide +kernel)⟩
theorem lw_p103 : lw_okq (⟨"ShownNotModel", "smeared", "(II)I"⟩, 44) := ⟨⟨by decide +kernel, by decide +kernel⟩, List.mem_of_getElem? (i := 1209) (by decide +kernel), List.mem_of_getElem? (i := 1722) (by decide +kernel), List.mem_of_getElem? (i := 1723) (by decide +kernel)⟩
theorem lw_p104 : lw_okq (⟨"ShownNotModel", "often", "(II)I"⟩, 44) := ⟨⟨by decide +kernel, by decide +kernel⟩, List.mem_of_getElem? (i := 1209) (by decide +kernel), List.mem_of_getElem? (i := 1726) (by decide +kernel), List.mem_of_getElem? (i := 1727) (by decide +kernel)⟩
theorem lw_p105 : lw_okq (⟨"ShownNotModel", "isSign", "(I)Z"⟩, 44) := ⟨⟨by decide +kernel, by decide +kernel⟩, List.mem_of_getElem? (i := 1209) (by decide +kernel), List.mem_of_getElem? (i := 1746) (by decide +kernel), List.mem_of_getElem? (i := 1747) (by decide +kernel)⟩
theorem lw_p106 : lw_okq (⟨"ShownNotModel", "paintings", "(I)I"⟩, 44) := ⟨⟨by decide +kernel, by decide +kernel⟩, List.mem_of_getElem? (i := 1209) (by decide +kernel), List.mem_of_getElem? (i := 1754) (by decide +kernel), List.mem_of_getElem? (i := 1755) (by decide +kernel)⟩
theorem lw_p107 : lw_okq (⟨"ShownNotModel", "isYes", "(II)Z"⟩, 44) := ⟨⟨by decide +kernel, by decide +kernel⟩, List.mem_of_getElem? (i := 1209) (by decide +kernel), List.mem_of_getElem? (i := 1758) (by decide +kernel), List.mem_of_getElem? (i := 1759) (by decide +kernel)⟩
theorem lw_p108 : lw_okq (⟨"ShownNotModel", "solves", "(I)Z"⟩, 44) := ⟨⟨by decide +kernel, by decide +kernel⟩, List.mem_of_getElem? (i := 1209) (by decide +kernel), List.mem_of_getElem? (i := 1765) (by decide +kernel), List.mem_of_getElem? (i := 1766) (by decide +kernel)⟩
theorem lw_p109 : lw_okq (⟨"ShownNotModel", "other", "(IIIII)I"⟩, 44) := ⟨⟨by decide +kernel, by decide +kernel⟩, List.mem_of_getElem? (i := 1209) (by decide +kernel), List.mem_of_getElem? (i := 1773) (by decide +kernel), List.mem_of_getElem? (i := 1774) (by decide +kernel)⟩
theorem lw_p110 : lw_okq (⟨"ShownNotModel", "isMended", "(II)Z"⟩, 44) := ⟨⟨by decide +kernel, by decide +kernel⟩, List.mem_of_getElem? (i := 1209) (by decide +kernel), List.mem_of_getElem? (i := 1777) (by decide +kernel), List.mem_of_getElem? (i := 1778) (by decide +kernel)⟩
theorem lw_p111 : lw_okq (⟨"ShownNotModel", "nightsSeen", "()I"⟩, 44) := ⟨⟨by decide +kernel, by decide +kernel⟩, List.mem_of_getElem? (i := 1209) (by decide +kernel), List.mem_of_getElem? (i := 1793) (by decide +kernel), List.mem_of_getElem? (i := 1794) (by decide +kernel)⟩
def lw_privs_7 : List (MethodName × Nat) := [(⟨"ShownNotModel", "isSeenSo", "(IIII)Z"⟩, 44), (⟨"ShownNotModel", "isNight", "(II)Z"⟩, 44), (⟨"ShownNotModel", "isOneButFor", "(III)Z"⟩, 44), (⟨"ShownNotModel", "seenLands", "()I"⟩, 44), (⟨"ShownNotModel", "isPulled", "()Z"⟩, 44), (⟨"ShownNotModel", "shown", "(II)I"⟩, 44), (⟨"ShownNotModel", "doubled", "(I)I"⟩, 44), (⟨"ShownNotModel", "smeared", "(II)I"⟩, 44), (⟨"ShownNotModel", "often", "(II)I"⟩, 44), (⟨"ShownNotModel", "isSign", "(I)Z"⟩, 44), (⟨"ShownNotModel", "paintings", "(I)I"⟩, 44), (⟨"ShownNotModel", "isYes", "(II)Z"⟩, 44), (⟨"ShownNotModel", "solves", "(I)Z"⟩, 44), (⟨"ShownNotModel", "other", "(IIIII)I"⟩, 44), (⟨"ShownNotModel", "isMended", "(II)Z"⟩, 44), (⟨"ShownNotModel", "nightsSeen", "()I"⟩, 44)]
theorem lw_r7 : ∀ q ∈ lw_privs_7, lw_okq q := List.forall_mem_cons.mpr ⟨lw_p96, List.forall_mem_cons.mpr ⟨lw_p97, List.forall_mem_cons.mpr ⟨lw_p98, List.forall_mem_cons.mpr ⟨lw_p99, List.forall_mem_cons.mpr ⟨lw_p100, List.forall_mem_cons.mpr ⟨lw_p101, List.forall_mem_cons.mpr ⟨lw_p102, List.forall_mem_cons.mpr ⟨lw_p103, List.forall_mem_cons.mpr ⟨lw_p104, List.forall_mem_cons.mpr ⟨lw_p105, List.forall_mem_cons.mpr ⟨lw_p106, List.forall_mem_cons.mpr ⟨lw_p107, List.forall_mem_cons.mpr ⟨lw_p108, List.forall_mem_cons.mpr ⟨lw_p109, List.forall_mem_cons.mpr ⟨lw_p110, List.forall_mem_cons.mpr ⟨lw_p111, fun _ h => absurd h List.not_mem_nil⟩⟩⟩⟩⟩⟩⟩⟩⟩⟩⟩⟩⟩⟩⟩⟩
def lw_privs : List (MethodName × Nat) := lw_privs_1 ++ (lw_privs_2 ++ (lw_privs_3 ++ (lw_privs_4 ++ (lw_privs_5 ++ (lw_privs_6 ++ (lw_privs_7))))))
def lw_tbl : List Cond := k2_sels lw_privs ++ tables_1
theorem lw_privs_ok : ∀ q ∈ lw_privs, lw_okq q := by
  show ∀ q ∈ lw_privs_1 ++ (lw_privs_2 ++ (lw_privs_3 ++ (lw_privs_4 ++ (lw_privs_5 ++ (lw_privs_6 ++ (lw_privs_7)))))), lw_okq q
  exact List.forall_mem_append.mpr ⟨lw_r1, List.forall_mem_append.mpr ⟨lw_r2, List.forall_mem_append.mpr ⟨lw_r3, List.forall_mem_append.mpr ⟨lw_r4, List.forall_mem_append.mpr ⟨lw_r5, List.forall_mem_append.mpr ⟨lw_r6, lw_r7⟩⟩⟩⟩⟩⟩

def RX0 : String := "ShownNot$Boxes"
def TX0 : u_T := fun k => match k with
  | 0 => ("ShownNot$Boxes", "map", "I", false)
  | 1 => ("ShownNot$Boxes", "pack", "I", false)
  | _ => ("ShownNot$Boxes", "seen", "I", false)
def tyX0 : Nat → FieldType := fun k => match k with
  | 0 => .int
  | 1 => .int
  | _ => .int
theorem nmX0 : ∀ a, a < 3 → ∀ b, b < 3 → a ≠ b → (TX0 a).2.1 ≠ (TX0 b).2.1 := by decide +kernel
theorem tyX0_ok : ∀ k, k < 3 → parseFieldDescriptor (TX0 k).2.2.1 = some (tyX0 k) := by decide +kernel
theorem inX0 : ∀ w ∈ u_ws RX0 TX0 3, w ∈ lw_tbl := by decide +kernel
def RX1 : String := "ShownNot$Chart"
def TX1 : u_T := fun k => match k with
  | 0 => ("ShownNot$Chart", "ones", "[I", true)
  | 1 => ("ShownNot$Chart", "others", "[I", true)
  | 2 => ("ShownNot$Chart", "near", "[I", true)
  | 3 => ("ShownNot$Chart", "turned", "[I", true)
  | 4 => ("ShownNot$Chart", "lands", "I", false)
  | 5 => ("ShownNot$Chart", "borders", "I", false)
  | 6 => ("ShownNot$Chart", "answerRows", "[I", false)
  | 7 => ("ShownNot$Chart", "answerPacks", "[I", false)
  | 8 => ("ShownNot$Chart", "answers", "I", false)
  | _ => ("ShownNot$Chart", "answersStand", "Z", false)
def tyX1 : Nat → FieldType := fun k => match k with
  | 0 => (.array .int)
  | 1 => (.array .int)
  | 2 => (.array .int)
  | 3 => (.array .int)
  | 4 => .int
  | 5 => .int
  | 6 => (.array .int)
  | 7 => (.array .int)
  | 8 => .int
  | _ => .boolean
theorem nmX1 : ∀ a, a < 10 → ∀ b, b < 10 → a ≠ b → (TX1 a).2.1 ≠ (TX1 b).2.1 := by decide +kernel
theorem tyX1_ok : ∀ k, k < 10 → parseFieldDescriptor (TX1 k).2.2.1 = some (tyX1 k) := by decide +kernel
theorem inX1 : ∀ w ∈ u_ws RX1 TX1 10, w ∈ lw_tbl := by decide +kernel
def RX2 : String := "ShownNot$JudgeCode"
def TX2 : u_T := fun k => match k with
  | 0 => ("ShownNot$JudgeCode", "steps", "[I", true)
  | 1 => ("ShownNot$JudgeCode", "numbers", "[I", true)
  | 2 => ("ShownNot$JudgeCode", "stack", "[J", true)
  | 3 => ("ShownNot$JudgeCode", "size", "I", false)
  | 4 => ("ShownNot$JudgeCode", "a", "I", false)
  | 5 => ("ShownNot$JudgeCode", "b", "I", false)
  | 6 => ("ShownNot$JudgeCode", "x", "I", false)
  | _ => ("ShownNot$JudgeCode", "y", "I", false)
def tyX2 : Nat → FieldType := fun k => match k with
  | 0 => (.array .int)
  | 1 => (.array .int)
  | 2 => (.array .long)
  | 3 => .int
  | 4 => .int
  | 5 => .int
  | 6 => .int
  | _ => .int
theorem nmX2 : ∀ a, a < 8 → ∀ b, b < 8 → a ≠ b → (TX2 a).2.1 ≠ (TX2 b).2.1 := by decide +kernel
theorem tyX2_ok : ∀ k, k < 8 → parseFieldDescriptor (TX2 k).2.2.1 = some (tyX2 k) := by decide +kernel
theorem inX2 : ∀ w ∈ u_ws RX2 TX2 8, w ∈ lw_tbl := by decide +kernel
def RX3 : String := "ShownNot$Lock"
def TX3 : u_T := fun k => match k with
  | 0 => ("ShownNot$Lock", "a", "I", false)
  | 1 => ("ShownNot$Lock", "b", "I", false)
  | 2 => ("ShownNot$Lock", "c", "I", false)
  | 3 => ("ShownNot$Lock", "numbers", "I", false)
  | _ => ("ShownNot$Lock", "draws", "I", false)
def tyX3 : Nat → FieldType := fun k => match k with
  | 0 => .int
  | 1 => .int
  | 2 => .int
  | 3 => .int
  | _ => .int
theorem nmX3 : ∀ a, a < 5 → ∀ b, b < 5 → a ≠ b → (TX3 a).2.1 ≠ (TX3 b).2.1 := by decide +kernel
theorem tyX3_ok : ∀ k, k < 5 → parseFieldDescriptor (TX3 k).2.2.1 = some (tyX3 k) := by decide +kernel
theorem inX3 : ∀ w ∈ u_ws RX3 TX3 5, w ∈ lw_tbl := by decide +kernel
def RX4 : String := "ShownNot$Play"
def TX4 : u_T := fun k => match k with
  | 0 => ("ShownNot$Play", "xs", "[I", true)
  | 1 => ("ShownNot$Play", "ys", "[I", true)
  | 2 => ("ShownNot$Play", "judged", "[I", true)
  | 3 => ("ShownNot$Play", "lowest", "[I", true)
  | 4 => ("ShownNot$Play", "refusing", "[I", true)
  | 5 => ("ShownNot$Play", "chart", "LShownNot$Chart;", false)
  | 6 => ("ShownNot$Play", "drawn", "I", false)
  | 7 => ("ShownNot$Play", "once", "Z", false)
  | 8 => ("ShownNot$Play", "askings", "I", false)
  | 9 => ("ShownNot$Play", "cheatCount", "I", false)
  | 10 => ("ShownNot$Play", "allAlike", "Z", false)
  | 11 => ("ShownNot$Play", "foundRow", "I", false)
  | 12 => ("ShownNot$Play", "foundAnswer", "I", false)
  | 13 => ("ShownNot$Play", "foundAsking", "I", false)
  | 14 => ("ShownNot$Play", "foundSecond", "I", false)
  | 15 => ("ShownNot$Play", "foundSwap", "I", false)
  | _ => ("ShownNot$Play", "foundTry", "I", false)
def tyX4 : Nat → FieldType := fun k => match k with
  | 0 => (.array .int)
  | 1 => (.array .int)
  | 2 => (.array .int)
  | 3 => (.array .int)
  | 4 => (.array .int)
  | 5 => (.object "ShownNot$Chart")
  | 6 => .int
  | 7 => .boolean
  | 8 => .int
  | 9 => .int
  | 10 => .boolean
  | 11 => .int
  | 12 => .int
  | 13 => .int
  | 14 => .int
  | 15 => .int
  | _ => .int
theorem nmX4 : ∀ a, a < 17 → ∀ b, b < 17 → a ≠ b → (TX4 a).2.1 ≠ (TX4 b).2.1 := by decide +kernel
theorem tyX4_ok : ∀ k, k < 17 → parseFieldDescriptor (TX4 k).2.2.1 = some (tyX4 k) := by decide +kernel
theorem inX4 : ∀ w ∈ u_ws RX4 TX4 17, w ∈ lw_tbl := by decide +kernel
def RX5 : String := "ShownNot$Power"
def TX5 : u_T := fun k => match k with
  | 0 => ("ShownNot$Power", "places", "[I", true)
  | _ => ("ShownNot$Power", "size", "I", false)
def tyX5 : Nat → FieldType := fun k => match k with
  | 0 => (.array .int)
  | _ => .int
theorem nmX5 : ∀ a, a < 2 → ∀ b, b < 2 → a ≠ b → (TX5 a).2.1 ≠ (TX5 b).2.1 := by decide +kernel
theorem tyX5_ok : ∀ k, k < 2 → parseFieldDescriptor (TX5 k).2.2.1 = some (tyX5 k) := by decide +kernel
theorem inX5 : ∀ w ∈ u_ws RX5 TX5 2, w ∈ lw_tbl := by decide +kernel
def RX6 : String := "ShownNot$Reader"
def TX6 : u_T := fun k => match k with
  | 0 => ("ShownNot$Reader", "tape", "[I", true)
  | 1 => ("ShownNot$Reader", "tokens", "[I", true)
  | 2 => ("ShownNot$Reader", "starts", "[I", true)
  | 3 => ("ShownNot$Reader", "numbers", "[I", true)
  | 4 => ("ShownNot$Reader", "code", "LShownNot$JudgeCode;", true)
  | 5 => ("ShownNot$Reader", "length", "I", false)
  | 6 => ("ShownNot$Reader", "faultKind", "I", false)
  | 7 => ("ShownNot$Reader", "faultPlace", "I", false)
  | 8 => ("ShownNot$Reader", "tokenCount", "I", false)
  | 9 => ("ShownNot$Reader", "at", "I", false)
  | 10 => ("ShownNot$Reader", "clausesRead", "I", false)
  | 11 => ("ShownNot$Reader", "swap", "I", false)
  | 12 => ("ShownNot$Reader", "asks", "I", false)
  | _ => ("ShownNot$Reader", "once", "Z", false)
def tyX6 : Nat → FieldType := fun k => match k with
  | 0 => (.array .int)
  | 1 => (.array .int)
  | 2 => (.array .int)
  | 3 => (.array .int)
  | 4 => (.object "ShownNot$JudgeCode")
  | 5 => .int
  | 6 => .int
  | 7 => .int
  | 8 => .int
  | 9 => .int
  | 10 => .int
  | 11 => .int
  | 12 => .int
  | _ => .boolean
theorem nmX6 : ∀ a, a < 14 → ∀ b, b < 14 → a ≠ b → (TX6 a).2.1 ≠ (TX6 b).2.1 := by decide +kernel
theorem tyX6_ok : ∀ k, k < 14 → parseFieldDescriptor (TX6 k).2.2.1 = some (tyX6 k) := by decide +kernel
theorem inX6 : ∀ w ∈ u_ws RX6 TX6 14, w ∈ lw_tbl := by decide +kernel
def RX7 : String := "ShownNot$Riddle"
def TX7 : u_T := fun k => match k with
  | 0 => ("ShownNot$Riddle", "signs", "[I", true)
  | 1 => ("ShownNot$Riddle", "letterCount", "I", false)
  | _ => ("ShownNot$Riddle", "rows", "I", false)
def tyX7 : Nat → FieldType := fun k => match k with
  | 0 => (.array .int)
  | 1 => .int
  | _ => .int
theorem nmX7 : ∀ a, a < 3 → ∀ b, b < 3 → a ≠ b → (TX7 a).2.1 ≠ (TX7 b).2.1 := by decide +kernel
theorem tyX7_ok : ∀ k, k < 3 → parseFieldDescriptor (TX7 k).2.2.1 = some (tyX7 k) := by decide +kernel
theorem inX7 : ∀ w ∈ u_ws RX7 TX7 3, w ∈ lw_tbl := by decide +kernel
def RX8 : String := "ShownNot$Showing"
def TX8 : u_T := fun k => match k with
  | 0 => ("ShownNot$Showing", "judge", "[I", true)
  | 1 => ("ShownNot$Showing", "swap", "I", false)
  | 2 => ("ShownNot$Showing", "asks", "I", false)
  | _ => ("ShownNot$Showing", "once", "Z", false)
def tyX8 : Nat → FieldType := fun k => match k with
  | 0 => (.array .int)
  | 1 => .int
  | 2 => .int
  | _ => .boolean
theorem nmX8 : ∀ a, a < 4 → ∀ b, b < 4 → a ≠ b → (TX8 a).2.1 ≠ (TX8 b).2.1 := by decide +kernel
theorem tyX8_ok : ∀ k, k < 4 → parseFieldDescriptor (TX8 k).2.2.1 = some (tyX8 k) := by decide +kernel
theorem inX8 : ∀ w ∈ u_ws RX8 TX8 4, w ∈ lw_tbl := by decide +kernel
def RX9 : String := "ShownNot$Sightings"
def TX9 : u_T := fun k => match k with
  | 0 => ("ShownNot$Sightings", "seen", "[I", true)
  | _ => ("ShownNot$Sightings", "paints", "[I", true)
def tyX9 : Nat → FieldType := fun k => match k with
  | 0 => (.array .int)
  | _ => (.array .int)
theorem nmX9 : ∀ a, a < 2 → ∀ b, b < 2 → a ≠ b → (TX9 a).2.1 ≠ (TX9 b).2.1 := by decide +kernel
theorem tyX9_ok : ∀ k, k < 2 → parseFieldDescriptor (TX9 k).2.2.1 = some (tyX9 k) := by decide +kernel
theorem inX9 : ∀ w ∈ u_ws RX9 TX9 2, w ∈ lw_tbl := by decide +kernel
def RX10 : String := "ShownNot$State"
def TX10 : u_T := fun k => match k with
  | 0 => ("ShownNot$State", "maps", "[LShownNot$Chart;", true)
  | 1 => ("ShownNot$State", "showings", "[LShownNot$Showing;", true)
  | 2 => ("ShownNot$State", "sightings", "LShownNot$Sightings;", true)
  | 3 => ("ShownNot$State", "boxes", "LShownNot$Boxes;", true)
  | 4 => ("ShownNot$State", "lock", "LShownNot$Lock;", true)
  | 5 => ("ShownNot$State", "riddle", "LShownNot$Riddle;", true)
  | 6 => ("ShownNot$State", "mapCount", "I", false)
  | _ => ("ShownNot$State", "showingCount", "I", false)
def tyX10 : Nat → FieldType := fun k => match k with
  | 0 => (.array (.object "ShownNot$Chart"))
  | 1 => (.array (.object "ShownNot$Showing"))
  | 2 => (.object "ShownNot$Sightings")
  | 3 => (.object "ShownNot$Boxes")
  | 4 => (.object "ShownNot$Lock")
  | 5 => (.object "ShownNot$Riddle")
  | 6 => .int
  | _ => .int
theorem nmX10 : ∀ a, a < 8 → ∀ b, b < 8 → a ≠ b → (TX10 a).2.1 ≠ (TX10 b).2.1 := by decide +kernel
theorem tyX10_ok : ∀ k, k < 8 → parseFieldDescriptor (TX10 k).2.2.1 = some (tyX10 k) := by decide +kernel
theorem inX10 : ∀ w ∈ u_ws RX10 TX10 8, w ∈ lw_tbl := by decide +kernel
def RX11 : String := "ShownNot"
def TX11 : u_T := fun k => match k with
  | 0 => ("ShownNot", "now", "LShownNot$State;", true)
  | 1 => ("ShownNot", "kept", "LShownNot$State;", true)
  | 2 => ("ShownNot", "reader", "LShownNot$Reader;", true)
  | 3 => ("ShownNot", "play", "LShownNot$Play;", true)
  | 4 => ("ShownNot", "judgeUnlike", "[I", true)
  | 5 => ("ShownNot", "odds", "LShownNot$Power;", true)
  | _ => ("ShownNot", "whole", "LShownNot$Power;", true)
def tyX11 : Nat → FieldType := fun k => match k with
  | 0 => (.object "ShownNot$State")
  | 1 => (.object "ShownNot$State")
  | 2 => (.object "ShownNot$Reader")
  | 3 => (.object "ShownNot$Play")
  | 4 => (.array .int)
  | 5 => (.object "ShownNot$Power")
  | _ => (.object "ShownNot$Power")
theorem nmX11 : ∀ a, a < 7 → ∀ b, b < 7 → a ≠ b → (TX11 a).2.1 ≠ (TX11 b).2.1 := by decide +kernel
theorem tyX11_ok : ∀ k, k < 7 → parseFieldDescriptor (TX11 k).2.2.1 = some (tyX11 k) := by decide +kernel
theorem inX11 : ∀ w ∈ u_ws RX11 TX11 7, w ∈ lw_tbl := by decide +kernel
def RX12 : String := "ShownNotModel"
def TX12 : u_T := fun k => match k with
  | 0 => ("ShownNotModel", "a", "[I", true)
  | 1 => ("ShownNotModel", "image", "[I", true)
  | 2 => ("ShownNotModel", "texts", "[I", true)
  | 3 => ("ShownNotModel", "swaps", "[I", true)
  | 4 => ("ShownNotModel", "powers", "[I", true)
  | 5 => ("ShownNotModel", "answers", "[I", true)
  | 6 => ("ShownNotModel", "found", "I", false)
  | 7 => ("ShownNotModel", "order", "[I", true)
  | 8 => ("ShownNotModel", "tape", "[I", true)
  | 9 => ("ShownNotModel", "taped", "I", false)
  | 10 => ("ShownNotModel", "fault", "I", false)
  | 11 => ("ShownNotModel", "faultPlace", "I", false)
  | 12 => ("ShownNotModel", "at", "I", false)
  | 13 => ("ShownNotModel", "place", "I", false)
  | 14 => ("ShownNotModel", "token", "I", false)
  | 15 => ("ShownNotModel", "number", "I", false)
  | 16 => ("ShownNotModel", "word", "J", false)
  | 17 => ("ShownNotModel", "text0", "I", false)
  | 18 => ("ShownNotModel", "clauses", "I", false)
  | 19 => ("ShownNotModel", "written", "I", false)
  | 20 => ("ShownNotModel", "came", "I", false)
  | 21 => ("ShownNotModel", "pile", "[I", true)
  | 22 => ("ShownNotModel", "piled", "I", false)
  | 23 => ("ShownNotModel", "opens", "I", false)
  | 24 => ("ShownNotModel", "isWhole", "Z", false)
  | 25 => ("ShownNotModel", "drawn", "I", false)
  | 26 => ("ShownNotModel", "ask", "I", false)
  | 27 => ("ShownNotModel", "judging", "I", false)
  | 28 => ("ShownNotModel", "once", "Z", false)
  | 29 => ("ShownNotModel", "named", "[I", true)
  | 30 => ("ShownNotModel", "values", "[J", true)
  | 31 => ("ShownNotModel", "truth", "[Z", true)
  | 32 => ("ShownNotModel", "badAnswer", "I", false)
  | 33 => ("ShownNotModel", "badAsking", "I", false)
  | 34 => ("ShownNotModel", "badSwap", "I", false)
  | 35 => ("ShownNotModel", "cheatRow", "I", false)
  | 36 => ("ShownNotModel", "cheatMany", "I", false)
  | 37 => ("ShownNotModel", "few", "[I", true)
  | 38 => ("ShownNotModel", "all", "[I", true)
  | 39 => ("ShownNotModel", "mine", "[I", true)
  | 40 => ("ShownNotModel", "others", "[I", true)
  | 41 => ("ShownNotModel", "toldOne", "I", false)
  | 42 => ("ShownNotModel", "toldTwo", "I", false)
  | _ => ("ShownNotModel", "toldAnswer", "I", false)
def tyX12 : Nat → FieldType := fun k => match k with
  | 0 => (.array .int)
  | 1 => (.array .int)
  | 2 => (.array .int)
  | 3 => (.array .int)
  | 4 => (.array .int)
  | 5 => (.array .int)
  | 6 => .int
  | 7 => (.array .int)
  | 8 => (.array .int)
  | 9 => .int
  | 10 => .int
  | 11 => .int
  | 12 => .int
  | 13 => .int
  | 14 => .int
  | 15 => .int
  | 16 => .long
  | 17 => .int
  | 18 => .int
  | 19 => .int
  | 20 => .int
  | 21 => (.array .int)
  | 22 => .int
  | 23 => .int
  | 24 => .boolean
  | 25 => .int
  | 26 => .int
  | 27 => .int
  | 28 => .boolean
  | 29 => (.array .int)
  | 30 => (.array .long)
  | 31 => (.array .boolean)
  | 32 => .int
  | 33 => .int
  | 34 => .int
  | 35 => .int
  | 36 => .int
  | 37 => (.array .int)
  | 38 => (.array .int)
  | 39 => (.array .int)
  | 40 => (.array .int)
  | 41 => .int
  | 42 => .int
  | _ => .int
theorem nmX12 : ∀ a, a < 44 → ∀ b, b < 44 → a ≠ b → (TX12 a).2.1 ≠ (TX12 b).2.1 := by decide +kernel
theorem tyX12_ok : ∀ k, k < 44 → parseFieldDescriptor (TX12 k).2.2.1 = some (tyX12 k) := by decide +kernel
theorem inX12 : ∀ w ∈ u_ws RX12 TX12 44, w ∈ lw_tbl := by decide +kernel
abbrev vwCl : List vw_C := [(RX0, TX0, 3), (RX1, TX1, 10), (RX2, TX2, 8), (RX3, TX3, 5), (RX4, TX4, 17), (RX5, TX5, 2), (RX6, TX6, 14), (RX7, TX7, 3), (RX8, TX8, 4), (RX9, TX9, 2), (RX10, TX10, 8), (RX11, TX11, 7), (RX12, TX12, 44)]
def R_law : String := "ShownNotLaw"
end
section
/-! A machine of whole numbers: the bytecode of all methods as tables of six-tuples (op, a, b, c, x, z); the heap as a shape (tag and length of each cell) and what lies in each cell as a whole number. A reference is the number of its cell, none is -1. -/
abbrev AV : Type := Int ⊕ Int ⊕ Int
abbrev vI (z : Int) : AV := Sum.inl z
abbrev vL (z : Int) : AV := Sum.inr (Sum.inl z)
abbrev vA (z : Int) : AV := Sum.inr (Sum.inr z)
abbrev HP : Type := List (Nat × Nat) × (Nat → Nat → Int)
abbrev RT : Type := List AV × HP
abbrev RI : Type := Nat × Nat × Nat × Nat × Nat × Int
abbrev LVs : Type := List (Option AV)
abbrev KT : Type := Nat → LVs → List AV → HP → Option RT
def w32 (z : Int) : Int := (Int32.ofInt z).toInt
def w64 (z : Int) : Int := (Int64.ofInt z).toInt
def iand (x y : Int) : Int := (Int32.ofInt x &&& Int32.ofInt y).toInt
def ior (x y : Int) : Int := (Int32.ofInt x ||| Int32.ofInt y).toInt
def ixor (x y : Int) : Int := (Int32.ofInt x ^^^ Int32.ofInt y).toInt
def ishl (x y : Int) : Int := (Int32.ofInt x <<< (Int32.ofInt y &&& 31)).toInt
def ishr (x y : Int) : Int := (Int32.ofInt x >>> (Int32.ofInt y &&& 31)).toInt
def iushr (x y : Int) : Int := (((Int32.ofInt x).toUInt32 >>> ((Int32.ofInt y).toUInt32 &&& Int32.toUInt32 31)).toInt32).toInt
def idiv (x y : Int) : Int := (Int32.ofInt x / Int32.ofInt y).toInt
def irem (x y : Int) : Int := (Int32.ofInt x % Int32.ofInt y).toInt
def lland (x y : Int) : Int := (Int64.ofInt x &&& Int64.ofInt y).toInt
def llor (x y : Int) : Int := (Int64.ofInt x ||| Int64.ofInt y).toInt
def llshl (x y : Int) : Int := (Int64.ofInt x <<< ((Int32.ofInt y).toInt64 &&& 63)).toInt
def lldiv (x y : Int) : Int := (Int64.ofInt x / Int64.ofInt y).toInt
def llrem (x y : Int) : Int := (Int64.ofInt x % Int64.ofInt y).toInt
def i2c (x : Int) : Int := (((Int32.ofInt x).toUInt32 % 65536).toInt32).toInt
def i2b (x : Int) : Int := ((Int32.ofInt x).toInt8.toInt32).toInt
def lcmp (x y : Int) : Int := if y < x then 1 else if x = y then 0 else -1
/-- the heap -/
def u2 (c : Nat → Nat → Int) (i k : Nat) (v : Int) : Nat → Nat → Int := fun i' k' => if i' = i ∧ k' = k then v else c i' k'
def gS (hp : HP) (o : Int) : Option (Nat × Nat) := if o < 0 then none else hp.1[o.toNat]?
def gF (hp : HP) (tg k : Nat) (o : Int) : Option Int := (gS hp o).bind fun q => if q.1 = tg ∧ k < q.2 then some (hp.2 o.toNat k) else none
def pF (hp : HP) (tg k : Nat) (o v : Int) : Option HP := (gS hp o).bind fun q => if q.1 = tg ∧ k < q.2 then some (hp.1, u2 hp.2 o.toNat k v) else none
def gA (hp : HP) (a : Nat) (o i : Int) : Option Int := (gS hp o).bind fun q => if (q.1 = 100 + a ∨ q.1 = 110 + a) ∧ 0 ≤ i ∧ i < q.2 then some (hp.2 o.toNat i.toNat) else none
def pA (hp : HP) (a : Nat) (o i v : Int) : Option HP := (gS hp o).bind fun q => if q.1 = 100 + a ∧ 0 ≤ i ∧ i < q.2 then some (hp.1, u2 hp.2 o.toNat i.toNat v) else none
def gR (hp : HP) (o i : Int) : Option Int := (gS hp o).bind fun q => if (q.1 = 103 ∨ q.1 = 104) ∧ 0 ≤ i ∧ i < q.2 then some (hp.2 o.toNat i.toNat) else none
/-- a reference of a class laid into an array of that class (tag 103: class 1; tag 104: class 8) -/
def pR (hp : HP) (o i v : Int) : Option HP := (gS hp o).bind fun q => (gS hp v).bind fun q2 => if ((q.1 = 103 ∧ q2.1 = 1) ∨ (q.1 = 104 ∧ q2.1 = 8)) ∧ 0 ≤ i ∧ i < q.2 then some (hp.1, u2 hp.2 o.toNat i.toNat v) else none
def gL (hp : HP) (o : Int) : Option Int := (gS hp o).bind fun q => if 100 ≤ q.1 then some (q.2 : Int) else none
/-- which fields are references: the default is none -/
def knds : List (List Nat) := [[0, 0, 0], [2, 2, 2, 2, 0, 0, 2, 2, 0, 3], [2, 2, 2, 0, 0, 0, 0, 0], [0, 0, 0, 0, 0], [2, 2, 2, 2, 2, 2, 0, 3, 0, 0, 3, 0, 0, 0, 0, 0, 0], [2, 0], [2, 2, 2, 2, 2, 0, 0, 0, 0, 0, 0, 0, 0, 3], [2, 0, 0], [2, 0, 0, 3], [2, 2], [2, 2, 2, 2, 2, 2, 0, 0], [2, 2, 2, 2, 2, 2, 2], [2, 2, 2, 2, 2, 2, 0, 2, 2, 0, 0, 0, 0, 0, 0, 0, 1, 0, 0, 0, 0, 2, 0, 0, 3, 0, 0, 0, 3, 2, 2, 2, 0, 0, 0, 0, 0, 2, 2, 2, 2, 0, 0, 0]]
def kd (t k : Nat) : Nat := if t = 103 ∨ t = 104 then 2 else ((knds[t]?).getD []).getD k 0
def dfl (t k : Nat) : Int := if kd t k = 2 then -1 else 0
def mk (hp : HP) (t n : Nat) : HP := (hp.1 ++ [(t, n)], fun i k => if i = hp.1.length then dfl t k else hp.2 i k)
def cpy (c : Nat → Nat → Int) (so : Nat) (sp : Nat) (d : Nat) (dp n : Nat) : Nat → Nat → Int := fun i k => if i = d ∧ dp ≤ k ∧ k < dp + n then c so (sp + (k - dp)) else c i k
def acp (hp : HP) (so sp d dp n : Int) : Option HP := (gS hp so).bind fun q1 => (gS hp d).bind fun q2 => if q1.1 = 100 ∧ q2.1 = 100 ∧ 0 ≤ sp ∧ 0 ≤ dp ∧ 0 ≤ n ∧ sp + n ≤ q1.2 ∧ dp + n ≤ q2.2 then some (hp.1, cpy hp.2 so.toNat sp.toNat d.toNat dp.toNat n.toNat) else none
/-- what is taken off the stack -/
def e1I (st : List AV) (f : Int → List AV → Option RT) : Option RT := match st with | .inl x :: r => f x r | _ => none
def e1L (st : List AV) (f : Int → List AV → Option RT) : Option RT := match st with | .inr (.inl x) :: r => f x r | _ => none
def e1A (st : List AV) (f : Int → List AV → Option RT) : Option RT := match st with | .inr (.inr x) :: r => f x r | _ => none
def e2I (st : List AV) (f : Int → Int → List AV → Option RT) : Option RT := match st with | .inl y :: .inl x :: r => f x y r | _ => none
def e2L (st : List AV) (f : Int → Int → List AV → Option RT) : Option RT := match st with | .inr (.inl y) :: .inr (.inl x) :: r => f x y r | _ => none
def eLI (st : List AV) (f : Int → Int → List AV → Option RT) : Option RT := match st with | .inl y :: .inr (.inl x) :: r => f x y r | _ => none
def eIA (st : List AV) (f : Int → Int → List AV → Option RT) : Option RT := match st with | .inl y :: .inr (.inr x) :: r => f x y r | _ => none
def eLA (st : List AV) (f : Int → Int → List AV → Option RT) : Option RT := match st with | .inr (.inl y) :: .inr (.inr x) :: r => f x y r | _ => none
def eAA (st : List AV) (f : Int → Int → List AV → Option RT) : Option RT := match st with | .inr (.inr y) :: .inr (.inr x) :: r => f x y r | _ => none
def eIIA (st : List AV) (f : Int → Int → Int → List AV → Option RT) : Option RT := match st with | .inl v :: .inl i :: .inr (.inr o) :: r => f o i v r | _ => none
def eLIA (st : List AV) (f : Int → Int → Int → List AV → Option RT) : Option RT := match st with | .inr (.inl v) :: .inl i :: .inr (.inr o) :: r => f o i v r | _ => none
def eAIA (st : List AV) (f : Int → Int → Int → List AV → Option RT) : Option RT := match st with | .inr (.inr v) :: .inl i :: .inr (.inr o) :: r => f o i v r | _ => none
def eCP (st : List AV) (f : Int → Int → Int → Int → Int → List AV → Option RT) : Option RT := match st with | .inl n :: .inl dp :: .inr (.inr d) :: .inl sp :: .inr (.inr so) :: r => f so sp d dp n r | _ => none
def gl (ls : LVs) (a : Nat) : Option AV := (ls[a]?).getD none
def lI (ls : LVs) (a : Nat) (f : Int → Option RT) : Option RT := match gl ls a with | some (.inl x) => f x | _ => none
def lL (ls : LVs) (a : Nat) (f : Int → Option RT) : Option RT := match gl ls a with | some (.inr (.inl x)) => f x | _ => none
def lA (ls : LVs) (a : Nat) (f : Int → Option RT) : Option RT := match gl ls a with | some (.inr (.inr x)) => f x | _ => none
def isL (v : Option AV) : Bool := match v with | some (.inr (.inl _)) => true | _ => false
/-- a long that lies just ahead is broken -/
def brk (ls : LVs) (a : Nat) : LVs := match a with | 0 => ls | b + 1 => if isL (gl ls b) then ls.set b none else ls
def s1 (ls : LVs) (a : Nat) (v : AV) (f : LVs → Option RT) : Option RT := if a < ls.length then f ((brk ls a).set a (some v)) else none
def s2 (ls : LVs) (a : Nat) (v : AV) (f : LVs → Option RT) : Option RT := if a + 1 < ls.length then f (((brk ls a).set a (some v)).set (a + 1) none) else none
def toI (r : RT) : Option (Int × HP) := match r.1 with | [.inl x] => some (x, r.2) | _ => none
def toL (r : RT) : Option (Int × HP) := match r.1 with | [.inr (.inl x)] => some (x, r.2) | _ => none
def toA (r : RT) : Option (Int × HP) := match r.1 with | [.inr (.inr x)] => some (x, r.2) | _ => none
def toV (r : RT) : Option HP := match r.1 with | [] => some r.2 | _ => none
def swi (x : Int) : List (Int × Nat) → Nat → (Nat → Option RT) → Option RT
  | [], d, k => k d
  | q :: r, d, k => if x = q.1 then k q.2 else swi x r d k
/-- the width of what lies on the stack below a call -/
def wid (st : List AV) : Nat := match st with | [] => 0 | .inr (.inl _) :: r => 2 + wid r | _ :: r => 1 + wid r
def swT : List (List (Int × Nat) × Nat × Int × Int) := [([(97, 2), (98, 6), (120, 10), (121, 14)], 18, 0, 0), ([(4, 27), (5, 47), (8, 77), (35, 67), (42, 12), (43, 2), (45, 7), (60, 17), (61, 57), (62, 37)], 81, 0, 0), ([(0, 2), (1, 4), (2, 6)], 8, 0, 2), ([(10, 39), (11, 51), (12, 43), (13, 47)], 51, 10, 13), ([(0, 18), (1, 20), (2, 24)], 28, 0, 2), ([(0, 21), (1, 25)], 29, 0, 0), ([(0, 25), (1, 28), (2, 32)], 36, 0, 2), ([(0, 21), (1, 23)], 34, 0, 0), ([(0, 2), (1, 14), (2, 33), (3, 33), (4, 33), (5, 33), (6, 41), (7, 48), (8, 55)], 62, 0, 8), ([(0, 30), (1, 34)], 38, 0, 0), ([(0, 2), (1, 7), (2, 12), (3, 17)], 22, 0, 3), ([(0, 2), (1, 6), (2, 10), (3, 15), (4, 20), (5, 24)], 29, 0, 5), ([(3, 11), (4, 14), (5, 18)], 21, 3, 5), ([(0, 27), (1, 57), (2, 59), (3, 61)], 63, 0, 3), ([(2, 2), (3, 4), (4, 8), (5, 8), (6, 6)], 8, 2, 6), ([(0, 79), (1, 84), (2, 89), (3, 94), (4, 99), (5, 102)], 105, 0, 5), ([(0, 22), (1, 39), (2, 76), (3, 103), (4, 140), (5, 157), (6, 194), (7, 251), (8, 268), (9, 275), (10, 292), (11, 349), (12, 386), (13, 423), (14, 460), (15, 507), (16, 544), (17, 582), (18, 619), (19, 656), (20, 673), (21, 690), (22, 747), (23, 774), (24, 791), (25, 848), (26, 905), (27, 922), (28, 959), (29, 976), (30, 1023), (31, 1030), (32, 1037)], 1054, 0, 32)]
def swP (n : Nat) : List (Int × Nat) := ((swT[n]?).getD ([], 0, 0, 0)).1
def swD (n : Nat) : Nat := ((swT[n]?).getD ([], 0, 0, 0)).2.1
def stK (cf : Nat → List AV → HP → Option RT) (ri : RI) (pc : Nat) (ls : LVs) (st : List AV) (hp : HP) (k : KT) : Option RT :=
  match ri with
  | (0, _, _, _, _, z) => k (pc + 1) ls (vI z :: st) hp
  | (1, _, _, _, _, z) => k (pc + 1) ls (vI z :: st) hp
  | (2, _, _, _, _, z) => k (pc + 1) ls (vI z :: st) hp
  | (3, _, _, _, _, z) => k (pc + 1) ls (vI z :: st) hp
  | (4, _, _, _, _, z) => k (pc + 1) ls (vI z :: st) hp
  | (5, a, _, _, _, _) => lI ls a fun x => k (pc + 1) ls (vI x :: st) hp
  | (6, a, _, _, _, _) => lL ls a fun x => k (pc + 1) ls (vL x :: st) hp
  | (7, a, _, _, _, _) => lA ls a fun x => k (pc + 1) ls (vA x :: st) hp
  | (8, a, _, _, _, _) => e1I st fun x r => s1 ls a (vI x) fun l => k (pc + 1) l r hp
  | (9, a, _, _, _, _) => e1L st fun x r => s2 ls a (vL x) fun l => k (pc + 1) l r hp
  | (10, a, _, _, _, _) => e1A st fun x r => s1 ls a (vA x) fun l => k (pc + 1) l r hp
  | (11, a, _, _, _, z) => lI ls a fun x => s1 ls a (vI (w32 (x + z))) fun l => k (pc + 1) l st hp
  | (12, a, b, 1, _, _) => e1A st fun o r => (gF hp a b o).bind fun x => k (pc + 1) ls (vL x :: r) hp
  | (12, a, b, 2, _, _) => e1A st fun o r => (gF hp a b o).bind fun x => k (pc + 1) ls (vA x :: r) hp
  | (12, a, b, _, _, _) => e1A st fun o r => (gF hp a b o).bind fun x => k (pc + 1) ls (vI x :: r) hp
  | (13, a, b, 0, _, _) => eIA st fun o v r => (pF hp a b o v).bind fun h => k (pc + 1) ls r h
  | (13, a, b, 1, _, _) => eLA st fun o v r => (pF hp a b o v).bind fun h => k (pc + 1) ls r h
  | (13, a, b, 2, _, _) => eAA st fun o v r => (pF hp a b o v).bind fun h => k (pc + 1) ls r h
  | (13, a, b, _, _, _) => eIA st fun o v r => if v = 0 ∨ v = 1 then (pF hp a b o v).bind fun h => k (pc + 1) ls r h else none
  | (14, _, _, _, _, _) => eIA st fun o i r => (gA hp 0 o i).bind fun x => k (pc + 1) ls (vI x :: r) hp
  | (15, _, _, _, _, _) => eIA st fun o i r => (gA hp 1 o i).bind fun x => k (pc + 1) ls (vL x :: r) hp
  | (16, _, _, _, _, _) => eIA st fun o i r => (gA hp 2 o i).bind fun x => k (pc + 1) ls (vI x :: r) hp
  | (17, _, _, _, _, _) => eIA st fun o i r => (gR hp o i).bind fun x => k (pc + 1) ls (vA x :: r) hp
  | (18, _, _, _, _, _) => eIIA st fun o i v r => (pA hp 0 o i v).bind fun h => k (pc + 1) ls r h
  | (19, _, _, _, _, _) => eLIA st fun o i v r => (pA hp 1 o i v).bind fun h => k (pc + 1) ls r h
  | (20, _, _, _, _, _) => eIIA st fun o i v r => if v = 0 ∨ v = 1 then (pA hp 2 o i v).bind fun h => k (pc + 1) ls r h else none
  | (21, _, _, _, _, _) => eAIA st fun o i v r => (pR hp o i v).bind fun h => k (pc + 1) ls r h
  | (22, _, _, _, _, _) => e1A st fun o r => (gL hp o).bind fun x => k (pc + 1) ls (vI x :: r) hp
  | (23, _, _, _, _, _) => e2I st fun x y r => k (pc + 1) ls (vI (w32 (x + y)) :: r) hp
  | (24, _, _, _, _, _) => e2I st fun x y r => k (pc + 1) ls (vI (w32 (x - y)) :: r) hp
  | (25, _, _, _, _, _) => e2I st fun x y r => k (pc + 1) ls (vI (w32 (x * y)) :: r) hp
  | (26, _, _, _, _, _) => e2I st fun x y r => k (pc + 1) ls (vI (iand x y) :: r) hp
  | (27, _, _, _, _, _) => e2I st fun x y r => k (pc + 1) ls (vI (ior x y) :: r) hp
  | (28, _, _, _, _, _) => e2I st fun x y r => k (pc + 1) ls (vI (ixor x y) :: r) hp
  | (29, _, _, _, _, _) => e2I st fun x y r => k (pc + 1) ls (vI (ishl x y) :: r) hp
  | (30, _, _, _, _, _) => e2I st fun x y r => k (pc + 1) ls (vI (ishr x y) :: r) hp
  | (31, _, _, _, _, _) => e2I st fun x y r => k (pc + 1) ls (vI (iushr x y) :: r) hp
  | (32, _, _, _, _, _) => e2I st fun x y r => if y = 0 then none else k (pc + 1) ls (vI (idiv x y) :: r) hp
  | (33, _, _, _, _, _) => e2I st fun x y r => if y = 0 then none else k (pc + 1) ls (vI (irem x y) :: r) hp
  | (34, _, _, _, _, _) => e1I st fun x r => k (pc + 1) ls (vI (w32 (-x)) :: r) hp
  | (35, _, _, _, _, _) => e2L st fun x y r => k (pc + 1) ls (vL (w64 (x + y)) :: r) hp
  | (36, _, _, _, _, _) => e2L st fun x y r => k (pc + 1) ls (vL (w64 (x - y)) :: r) hp
  | (37, _, _, _, _, _) => e2L st fun x y r => k (pc + 1) ls (vL (w64 (x * y)) :: r) hp
  | (38, _, _, _, _, _) => e2L st fun x y r => k (pc + 1) ls (vL (lland x y) :: r) hp
  | (39, _, _, _, _, _) => e2L st fun x y r => k (pc + 1) ls (vL (llor x y) :: r) hp
  | (40, _, _, _, _, _) => e2L st fun x y r => if y = 0 then none else k (pc + 1) ls (vL (lldiv x y) :: r) hp
  | (41, _, _, _, _, _) => e2L st fun x y r => if y = 0 then none else k (pc + 1) ls (vL (llrem x y) :: r) hp
  | (42, _, _, _, _, _) => e1L st fun x r => k (pc + 1) ls (vL (w64 (-x)) :: r) hp
  | (43, _, _, _, _, _) => e1I st fun x r => k (pc + 1) ls (vL x :: r) hp
  | (44, _, _, _, _, _) => e1L st fun x r => k (pc + 1) ls (vI (w32 x) :: r) hp
  | (45, _, _, _, _, _) => e2L st fun x y r => k (pc + 1) ls (vI (lcmp x y) :: r) hp
  | (46, _, _, _, _, _) => eLI st fun x y r => k (pc + 1) ls (vL (llshl x y) :: r) hp
  | (47, _, _, _, _, z) => k (pc + 1) ls (vL z :: st) hp
  | (48, _, _, _, _, z) => k (pc + 1) ls (vL z :: st) hp
  | (49, _, _, _, _, _) => e1I st fun x r => k (pc + 1) ls (vI (i2c x) :: r) hp
  | (50, _, _, _, _, _) => match st with
    | .inl x :: r => k (pc + 1) ls (vI x :: vI x :: r) hp
    | .inr (.inr x) :: r => k (pc + 1) ls (vA x :: vA x :: r) hp
    | _ => none
  | (51, _, _, _, _, _) => eIA st fun o i r => k (pc + 1) ls (vI i :: vA o :: vI i :: vA o :: r) hp
  | (52, _, _, _, _, _) => match st with
    | .inl _ :: r => k (pc + 1) ls r hp
    | .inr (.inr _) :: r => k (pc + 1) ls r hp
    | _ => none
  | (53, 0, b, _, _, _) => e1I st fun x r => if x = 0 then k b ls r hp else k (pc + 1) ls r hp
  | (53, 1, b, _, _, _) => e1I st fun x r => if x = 0 then k (pc + 1) ls r hp else k b ls r hp
  | (53, 2, b, _, _, _) => e1I st fun x r => if x < 0 then k b ls r hp else k (pc + 1) ls r hp
  | (53, 3, b, _, _, _) => e1I st fun x r => if x < 0 then k (pc + 1) ls r hp else k b ls r hp
  | (53, 4, b, _, _, _) => e1I st fun x r => if 0 < x then k b ls r hp else k (pc + 1) ls r hp
  | (53, _, b, _, _, _) => e1I st fun x r => if 0 < x then k (pc + 1) ls r hp else k b ls r hp
  | (54, 0, b, _, _, _) => e2I st fun x y r => if x = y then k b ls r hp else k (pc + 1) ls r hp
  | (54, 1, b, _, _, _) => e2I st fun x y r => if x = y then k (pc + 1) ls r hp else k b ls r hp
  | (54, 2, b, _, _, _) => e2I st fun x y r => if x < y then k b ls r hp else k (pc + 1) ls r hp
  | (54, 3, b, _, _, _) => e2I st fun x y r => if x < y then k (pc + 1) ls r hp else k b ls r hp
  | (54, 4, b, _, _, _) => e2I st fun x y r => if y < x then k b ls r hp else k (pc + 1) ls r hp
  | (54, _, b, _, _, _) => e2I st fun x y r => if y < x then k (pc + 1) ls r hp else k b ls r hp
  | (55, _, b, _, _, _) => e1A st fun x r => if x = 0 then none else if x < 0 then k b ls r hp else k (pc + 1) ls r hp
  | (56, _, b, _, _, _) => e1A st fun x r => if x = 0 then none else if x < 0 then k (pc + 1) ls r hp else k b ls r hp
  | (57, _, b, _, _, _) => k b ls st hp
  | (58, a, _, _, _, _) => e1I st fun x r => swi x (swP a) (swD a) fun t => k t ls r hp
  | (59, a, _, _, _, _) => e1I st fun x r => swi x (swP a) (swD a) fun t => k t ls r hp
  | (60, _, _, _, _, _) => match st with | [] => some ([], hp) | _ => none
  | (61, _, _, _, _, _) => match st with | [.inl x] => some ([vI x], hp) | _ => none
  | (62, _, _, _, _, _) => match st with | [.inl x] => if x = 0 ∨ x = 1 then some ([vI x], hp) else none | _ => none
  | (63, _, _, _, _, _) => match st with | [.inr (.inl x)] => some ([vL x], hp) | _ => none
  | (64, _, _, _, _, _) => match st with | [.inr (.inr x)] => if x = 0 then none else some ([vA x], hp) | _ => none
  | (65, _, _, _, _, _) => match st with | [.inl x] => if 0 ≤ x ∧ x < 65536 then some ([vI x], hp) else none | _ => none
  | (66, _, _, _, _, _) => match st with | [.inl x] => if -128 ≤ x ∧ x < 128 then some ([vI x], hp) else none | _ => none
  | (67, a, b, 0, _, _) => if wid (st.drop b) ≤ 8 then ((cf a (st.take b).reverse hp).bind toV).bind fun q => k (pc + 1) ls (st.drop b) q else none
  | (67, a, b, 1, _, _) => if wid (st.drop b) ≤ 8 then ((cf a (st.take b).reverse hp).bind toI).bind fun q => k (pc + 1) ls (vI q.1 :: st.drop b) q.2 else none
  | (67, a, b, 2, _, _) => if wid (st.drop b) ≤ 8 then ((cf a (st.take b).reverse hp).bind toL).bind fun q => k (pc + 1) ls (vL q.1 :: st.drop b) q.2 else none
  | (67, a, b, _, _, _) => if wid (st.drop b) ≤ 8 then ((cf a (st.take b).reverse hp).bind toA).bind fun q => k (pc + 1) ls (vA q.1 :: st.drop b) q.2 else none
  | (68, a, b, _, _, _) => k (pc + 1) ls (vA hp.1.length :: st) (mk hp a b)
  | (69, a, _, _, _, _) => e1I st fun n r => if 0 ≤ n ∧ n ≤ 100000 then k (pc + 1) ls (vA hp.1.length :: r) (mk hp a n.toNat) else none
  | (70, a, _, _, _, _) => e1I st fun n r => if 0 ≤ n ∧ n ≤ 100000 then k (pc + 1) ls (vA hp.1.length :: r) (mk hp a n.toNat) else none
  | (71, _, _, 0, _, z) => k (pc + 1) ls (vI z :: st) hp
  | (71, _, _, _, _, z) => k (pc + 1) ls (vA z :: st) hp
  | (72, _, _, _, _, _) => k (pc + 1) ls (vA (-1) :: st) hp
  | (73, _, _, _, _, z) => k (pc + 1) ls (vA z :: st) hp
  | (74, _, _, _, _, _) => eCP st fun so sp d dp n r => if wid r ≤ 8 then (acp hp so sp d dp n).bind fun h => k (pc + 1) ls r h else none
  | (75, _, _, _, _, _) => e1A st fun x r => if 0 < x ∧ wid r ≤ 8 then k (pc + 1) ls r hp else none
  | (76, _, _, _, _, _) => e1I st fun x r => k (pc + 1) ls (vI (i2b x) :: r) hp
  | _ => none
end
section
def kc_0 : List RI := [(7, 0, 0, 0, 0, 0), (75, 0, 0, 0, 3, 0), (7, 0, 0, 0, 0, 0), (0, 0, 0, 0, 0, -1), (13, 0, 0, 0, 9, 0), (60, 0, 0, 0, 0, 0)]
def ko_0 : List Nat := [0, 1, 4, 5, 6, 9, 10]
def kc_1 : List RI := [(7, 0, 0, 0, 0, 0), (5, 1, 0, 0, 0, 0), (13, 0, 0, 0, 9, 0), (7, 0, 0, 0, 0, 0), (5, 2, 0, 0, 0, 0), (13, 0, 1, 0, 15, 0), (7, 0, 0, 0, 0, 0), (0, 0, 0, 0, 0, 0), (13, 0, 2, 0, 18, 0), (60, 0, 0, 0, 0, 0)]
def ko_1 : List Nat := [0, 1, 2, 5, 6, 7, 10, 11, 12, 15, 16]
def kc_2 : List RI := [(7, 0, 0, 0, 0, 0), (7, 1, 0, 0, 0, 0), (12, 0, 0, 0, 9, 0), (13, 0, 0, 0, 9, 0), (7, 0, 0, 0, 0, 0), (7, 1, 0, 0, 0, 0), (12, 0, 1, 0, 15, 0), (13, 0, 1, 0, 15, 0), (7, 0, 0, 0, 0, 0), (7, 1, 0, 0, 0, 0), (12, 0, 2, 0, 18, 0), (13, 0, 2, 0, 18, 0), (60, 0, 0, 0, 0, 0)]
def ko_2 : List Nat := [0, 1, 2, 5, 8, 9, 10, 13, 16, 17, 18, 21, 24, 25]
def kc_3 : List RI := [(7, 0, 0, 0, 0, 0), (50, 0, 0, 0, 0, 0), (12, 0, 2, 0, 18, 0), (0, 0, 0, 0, 0, 1), (5, 1, 0, 0, 0, 0), (29, 0, 0, 0, 0, 0), (0, 0, 0, 0, 0, 1), (5, 2, 0, 0, 0, 0), (29, 0, 0, 0, 0, 0), (27, 0, 0, 0, 0, 0), (27, 0, 0, 0, 0, 0), (13, 0, 2, 0, 18, 0), (7, 0, 0, 0, 0, 0), (12, 0, 2, 0, 18, 0), (67, 284, 1, 1, 21, 1), (61, 0, 0, 0, 0, 0)]
def ko_3 : List Nat := [0, 1, 2, 5, 6, 7, 8, 9, 10, 11, 12, 13, 16, 17, 20, 23, 24]
def kc_4 : List RI := [(7, 0, 0, 0, 0, 0), (12, 0, 2, 0, 18, 0), (0, 0, 0, 0, 0, 1), (5, 1, 0, 0, 0, 0), (29, 0, 0, 0, 0, 0), (0, 0, 0, 0, 0, 1), (24, 0, 0, 0, 0, 0), (54, 1, 10, 0, 0, 0), (0, 0, 0, 0, 0, 1), (57, 0, 11, 0, 0, 0), (0, 0, 0, 0, 0, 0), (62, 0, 0, 0, 0, 0)]
def ko_4 : List Nat := [0, 1, 4, 5, 6, 7, 8, 9, 12, 13, 16, 17, 18]
def kc_5 : List RI := [(7, 0, 0, 0, 0, 0), (12, 0, 2, 0, 18, 0), (5, 1, 0, 0, 0, 0), (67, 169, 2, 1, 27, 4), (53, 0, 10, 0, 0, 0), (7, 0, 0, 0, 0, 0), (12, 0, 1, 0, 15, 0), (5, 1, 0, 0, 0, 0), (67, 165, 2, 1, 31, 4), (57, 0, 11, 0, 0, 0), (0, 0, 0, 0, 0, -1), (61, 0, 0, 0, 0, 0)]
def ko_5 : List Nat := [0, 1, 4, 5, 8, 11, 12, 15, 16, 19, 22, 23, 24]
def kc_6 : List RI := [(7, 0, 0, 0, 0, 0), (75, 0, 0, 0, 3, 0), (7, 0, 0, 0, 0, 0), (1, 0, 0, 0, 0, 15), (69, 100, 0, 0, 0, 0), (13, 1, 0, 2, 9, 1), (7, 0, 0, 0, 0, 0), (1, 0, 0, 0, 0, 15), (69, 100, 0, 0, 0, 0), (13, 1, 1, 2, 15, 1), (7, 0, 0, 0, 0, 0), (1, 0, 0, 0, 0, 7), (69, 100, 0, 0, 0, 0), (13, 1, 2, 2, 18, 1), (7, 0, 0, 0, 0, 0), (1, 0, 0, 0, 0, 7), (69, 100, 0, 0, 0, 0), (13, 1, 3, 2, 21, 1), (60, 0, 0, 0, 0, 0)]
def ko_6 : List Nat := [0, 1, 4, 5, 7, 9, 12, 13, 15, 17, 20, 21, 23, 25, 28, 29, 31, 33, 36, 37]
def kc_7 : List RI := [(7, 0, 0, 0, 0, 0), (5, 1, 0, 0, 0, 0), (13, 1, 4, 0, 24, 0), (7, 0, 0, 0, 0, 0), (0, 0, 0, 0, 0, 0), (13, 1, 5, 0, 28, 0), (7, 0, 0, 0, 0, 0), (0, 0, 0, 0, 0, 0), (13, 1, 9, 3, 31, 0), (0, 0, 0, 0, 0, 0), (8, 2, 0, 0, 0, 0), (5, 2, 0, 0, 0, 0), (1, 0, 0, 0, 0, 7), (54, 3, 21, 0, 0, 0), (7, 0, 0, 0, 0, 0), (12, 1, 2, 2, 18, 0), (5, 2, 0, 0, 0, 0), (0, 0, 0, 0, 0, 0), (18, 0, 0, 0, 0, 0), (11, 2, 0, 0, 0, 1), (57, 0, 11, 0, 0, 0), (60, 0, 0, 0, 0, 0)]
def ko_7 : List Nat := [0, 1, 2, 5, 6, 7, 10, 11, 12, 15, 16, 17, 18, 20, 23, 24, 27, 28, 29, 30, 33, 36, 37]
def kc_8 : List RI := [(7, 0, 0, 0, 0, 0), (7, 1, 0, 0, 0, 0), (12, 1, 4, 0, 24, 0), (13, 1, 4, 0, 24, 0), (7, 0, 0, 0, 0, 0), (7, 1, 0, 0, 0, 0), (12, 1, 5, 0, 28, 0), (13, 1, 5, 0, 28, 0), (7, 0, 0, 0, 0, 0), (0, 0, 0, 0, 0, 0), (13, 1, 9, 3, 31, 0), (7, 1, 0, 0, 0, 0), (12, 1, 0, 2, 9, 0), (0, 0, 0, 0, 0, 0), (7, 0, 0, 0, 0, 0), (12, 1, 0, 2, 9, 0), (0, 0, 0, 0, 0, 0), (1, 0, 0, 0, 0, 15), (74, 0, 0, 0, 35, 0), (7, 1, 0, 0, 0, 0), (12, 1, 1, 2, 15, 0), (0, 0, 0, 0, 0, 0), (7, 0, 0, 0, 0, 0), (12, 1, 1, 2, 15, 0), (0, 0, 0, 0, 0, 0), (1, 0, 0, 0, 0, 15), (74, 0, 0, 0, 35, 0), (7, 1, 0, 0, 0, 0), (12, 1, 2, 2, 18, 0), (0, 0, 0, 0, 0, 0), (7, 0, 0, 0, 0, 0), (12, 1, 2, 2, 18, 0), (0, 0, 0, 0, 0, 0), (1, 0, 0, 0, 0, 7), (74, 0, 0, 0, 35, 0), (60, 0, 0, 0, 0, 0)]
def ko_8 : List Nat := [0, 1, 2, 5, 8, 9, 10, 13, 16, 17, 18, 21, 22, 25, 26, 27, 30, 31, 33, 36, 37, 40, 41, 42, 45, 46, 48, 51, 52, 55, 56, 57, 60, 61, 63, 66, 67]
def kc_9 : List RI := [(5, 1, 0, 0, 0, 0), (53, 2, 15, 0, 0, 0), (5, 1, 0, 0, 0, 0), (7, 0, 0, 0, 0, 0), (12, 1, 4, 0, 24, 0), (54, 3, 15, 0, 0, 0), (5, 2, 0, 0, 0, 0), (53, 2, 15, 0, 0, 0), (5, 2, 0, 0, 0, 0), (7, 0, 0, 0, 0, 0), (12, 1, 4, 0, 24, 0), (54, 3, 15, 0, 0, 0), (5, 1, 0, 0, 0, 0), (5, 2, 0, 0, 0, 0), (54, 1, 17, 0, 0, 0), (0, 0, 0, 0, 0, 0), (62, 0, 0, 0, 0, 0), (7, 0, 0, 0, 0, 0), (12, 1, 5, 0, 28, 0), (1, 0, 0, 0, 0, 15), (54, 3, 30, 0, 0, 0), (7, 0, 0, 0, 0, 0), (12, 1, 2, 2, 18, 0), (5, 1, 0, 0, 0, 0), (14, 0, 0, 0, 0, 0), (5, 2, 0, 0, 0, 0), (67, 169, 2, 1, 41, 4), (53, 1, 30, 0, 0, 0), (0, 0, 0, 0, 0, 1), (57, 0, 31, 0, 0, 0), (0, 0, 0, 0, 0, 0), (62, 0, 0, 0, 0, 0)]
def ko_9 : List Nat := [0, 1, 4, 5, 6, 9, 12, 13, 16, 17, 18, 21, 24, 25, 26, 29, 30, 31, 32, 35, 37, 40, 41, 44, 45, 46, 47, 50, 53, 54, 57, 58, 59]
def kc_10 : List RI := [(7, 0, 0, 0, 0, 0), (12, 1, 0, 2, 9, 0), (7, 0, 0, 0, 0, 0), (12, 1, 5, 0, 28, 0), (5, 1, 0, 0, 0, 0), (18, 0, 0, 0, 0, 0), (7, 0, 0, 0, 0, 0), (12, 1, 1, 2, 15, 0), (7, 0, 0, 0, 0, 0), (12, 1, 5, 0, 28, 0), (5, 2, 0, 0, 0, 0), (18, 0, 0, 0, 0, 0), (7, 0, 0, 0, 0, 0), (12, 1, 2, 2, 18, 0), (5, 1, 0, 0, 0, 0), (51, 0, 0, 0, 0, 0), (14, 0, 0, 0, 0, 0), (0, 0, 0, 0, 0, 1), (5, 2, 0, 0, 0, 0), (29, 0, 0, 0, 0, 0), (27, 0, 0, 0, 0, 0), (18, 0, 0, 0, 0, 0), (7, 0, 0, 0, 0, 0), (12, 1, 2, 2, 18, 0), (5, 2, 0, 0, 0, 0), (51, 0, 0, 0, 0, 0), (14, 0, 0, 0, 0, 0), (0, 0, 0, 0, 0, 1), (5, 1, 0, 0, 0, 0), (29, 0, 0, 0, 0, 0), (27, 0, 0, 0, 0, 0), (18, 0, 0, 0, 0, 0), (7, 0, 0, 0, 0, 0), (50, 0, 0, 0, 0, 0), (12, 1, 5, 0, 28, 0), (0, 0, 0, 0, 0, 1), (23, 0, 0, 0, 0, 0), (13, 1, 5, 0, 28, 0), (7, 0, 0, 0, 0, 0), (0, 0, 0, 0, 0, 0), (13, 1, 9, 3, 31, 0), (60, 0, 0, 0, 0, 0)]
def ko_10 : List Nat := [0, 1, 4, 5, 8, 9, 10, 11, 14, 15, 18, 19, 20, 21, 24, 25, 26, 27, 28, 29, 30, 31, 32, 33, 36, 37, 38, 39, 40, 41, 42, 43, 44, 45, 46, 49, 50, 51, 54, 55, 56, 59, 60]
def kc_11 : List RI := [(5, 1, 0, 0, 0, 0), (53, 2, 9, 0, 0, 0), (5, 1, 0, 0, 0, 0), (7, 0, 0, 0, 0, 0), (12, 1, 4, 0, 24, 0), (67, 163, 1, 1, 45, 4), (54, 3, 9, 0, 0, 0), (0, 0, 0, 0, 0, 1), (57, 0, 10, 0, 0, 0), (0, 0, 0, 0, 0, 0), (62, 0, 0, 0, 0, 0)]
def ko_11 : List Nat := [0, 1, 4, 5, 6, 9, 12, 15, 16, 19, 20, 21]
def kc_12 : List RI := [(0, 0, 0, 0, 0, 0), (8, 2, 0, 0, 0, 0), (5, 2, 0, 0, 0, 0), (7, 0, 0, 0, 0, 0), (12, 1, 5, 0, 28, 0), (54, 3, 23, 0, 0, 0), (5, 1, 0, 0, 0, 0), (7, 0, 0, 0, 0, 0), (12, 1, 0, 2, 9, 0), (5, 2, 0, 0, 0, 0), (14, 0, 0, 0, 0, 0), (67, 165, 2, 1, 49, 4), (5, 1, 0, 0, 0, 0), (7, 0, 0, 0, 0, 0), (12, 1, 1, 2, 15, 0), (5, 2, 0, 0, 0, 0), (14, 0, 0, 0, 0, 0), (67, 165, 2, 1, 49, 4), (54, 1, 21, 0, 0, 0), (0, 0, 0, 0, 0, 0), (62, 0, 0, 0, 0, 0), (11, 2, 0, 0, 0, 1), (57, 0, 2, 0, 0, 0), (0, 0, 0, 0, 0, 1), (62, 0, 0, 0, 0, 0)]
def ko_12 : List Nat := [0, 1, 2, 3, 4, 7, 10, 11, 12, 15, 16, 17, 20, 21, 22, 25, 26, 27, 30, 33, 34, 35, 38, 41, 42, 43]
def kc_13 : List RI := [(7, 0, 0, 0, 0, 0), (12, 1, 9, 3, 31, 0), (53, 0, 4, 0, 0, 0), (60, 0, 0, 0, 0, 0), (7, 0, 0, 0, 0, 0), (12, 1, 6, 2, 53, 0), (55, 0, 10, 0, 0, 0), (7, 0, 0, 0, 0, 0), (12, 1, 7, 2, 56, 0), (56, 0, 18, 0, 0, 0), (7, 0, 0, 0, 0, 0), (2, 0, 0, 0, 0, 2187), (69, 100, 0, 0, 0, 0), (13, 1, 6, 2, 53, 0), (7, 0, 0, 0, 0, 0), (2, 0, 0, 0, 0, 2187), (69, 100, 0, 0, 0, 0), (13, 1, 7, 2, 56, 0), (7, 0, 0, 0, 0, 0), (0, 0, 0, 0, 0, 0), (13, 1, 8, 0, 59, 0), (7, 0, 0, 0, 0, 0), (12, 1, 4, 0, 24, 0), (67, 163, 1, 1, 45, 4), (2, 0, 0, 0, 0, 2187), (67, 288, 2, 1, 62, 1), (8, 1, 0, 0, 0, 0), (0, 0, 0, 0, 0, 0), (8, 2, 0, 0, 0, 0), (5, 2, 0, 0, 0, 0), (5, 1, 0, 0, 0, 0), (54, 3, 61, 0, 0, 0), (5, 2, 0, 0, 0, 0), (7, 0, 0, 0, 0, 0), (12, 1, 4, 0, 24, 0), (67, 164, 2, 1, 67, 4), (8, 3, 0, 0, 0, 0), (7, 0, 0, 0, 0, 0), (5, 3, 0, 0, 0, 0), (67, 12, 2, 1, 70, 0), (53, 0, 59, 0, 0, 0), (7, 0, 0, 0, 0, 0), (12, 1, 6, 2, 53, 0), (7, 0, 0, 0, 0, 0), (12, 1, 8, 0, 59, 0), (5, 2, 0, 0, 0, 0), (18, 0, 0, 0, 0, 0), (7, 0, 0, 0, 0, 0), (12, 1, 7, 2, 56, 0), (7, 0, 0, 0, 0, 0), (12, 1, 8, 0, 59, 0), (5, 3, 0, 0, 0, 0), (18, 0, 0, 0, 0, 0), (7, 0, 0, 0, 0, 0), (50, 0, 0, 0, 0, 0), (12, 1, 8, 0, 59, 0), (0, 0, 0, 0, 0, 1), (23, 0, 0, 0, 0, 0), (13, 1, 8, 0, 59, 0), (11, 2, 0, 0, 0, 1), (57, 0, 29, 0, 0, 0), (7, 0, 0, 0, 0, 0), (0, 0, 0, 0, 0, 1), (13, 1, 9, 3, 31, 0), (60, 0, 0, 0, 0, 0)]
def ko_13 : List Nat := [0, 1, 4, 7, 8, 9, 12, 15, 16, 19, 22, 23, 26, 28, 31, 32, 35, 37, 40, 41, 42, 45, 46, 49, 52, 55, 58, 59, 60, 61, 62, 63, 66, 67, 68, 71, 74, 75, 76, 77, 80, 83, 84, 87, 88, 91, 92, 93, 94, 97, 98, 101, 102, 103, 104, 105, 108, 109, 110, 113, 116, 119, 120, 121, 124, 125]
def kc_14 : List RI := [(7, 0, 0, 0, 0, 0), (12, 1, 9, 3, 31, 0), (53, 0, 14, 0, 0, 0), (5, 1, 0, 0, 0, 0), (53, 2, 14, 0, 0, 0), (5, 1, 0, 0, 0, 0), (7, 0, 0, 0, 0, 0), (12, 1, 8, 0, 59, 0), (54, 3, 14, 0, 0, 0), (7, 0, 0, 0, 0, 0), (12, 1, 6, 2, 53, 0), (5, 1, 0, 0, 0, 0), (14, 0, 0, 0, 0, 0), (57, 0, 15, 0, 0, 0), (0, 0, 0, 0, 0, -1), (61, 0, 0, 0, 0, 0)]
def ko_14 : List Nat := [0, 1, 4, 7, 8, 11, 12, 13, 16, 19, 20, 23, 24, 25, 28, 29, 30]
def kc_15 : List RI := [(7, 0, 0, 0, 0, 0), (12, 1, 9, 3, 31, 0), (53, 0, 14, 0, 0, 0), (5, 1, 0, 0, 0, 0), (53, 2, 14, 0, 0, 0), (5, 1, 0, 0, 0, 0), (7, 0, 0, 0, 0, 0), (12, 1, 8, 0, 59, 0), (54, 3, 14, 0, 0, 0), (7, 0, 0, 0, 0, 0), (12, 1, 7, 2, 56, 0), (5, 1, 0, 0, 0, 0), (14, 0, 0, 0, 0, 0), (57, 0, 15, 0, 0, 0), (0, 0, 0, 0, 0, -1), (61, 0, 0, 0, 0, 0)]
def ko_15 : List Nat := [0, 1, 4, 7, 8, 11, 12, 13, 16, 19, 20, 23, 24, 25, 28, 29, 30]
def kc_16 : List RI := [(5, 2, 0, 0, 0, 0), (7, 0, 0, 0, 0, 0), (12, 1, 0, 2, 9, 0), (5, 1, 0, 0, 0, 0), (14, 0, 0, 0, 0, 0), (7, 0, 0, 0, 0, 0), (12, 1, 1, 2, 15, 0), (5, 1, 0, 0, 0, 0), (14, 0, 0, 0, 0, 0), (67, 166, 3, 1, 74, 4), (8, 4, 1, 0, 0, 0), (0, 0, 0, 0, 0, 0), (8, 5, 1, 0, 0, 0), (0, 0, 0, 0, 0, 0), (8, 6, 1, 0, 0, 0), (5, 6, 1, 0, 0, 0), (1, 0, 0, 0, 0, 6), (54, 3, 32, 0, 0, 0), (5, 3, 0, 0, 0, 0), (5, 6, 1, 0, 0, 0), (67, 169, 2, 1, 41, 4), (53, 0, 30, 0, 0, 0), (5, 5, 1, 0, 0, 0), (0, 0, 0, 0, 0, 1), (5, 4, 1, 0, 0, 0), (5, 6, 1, 0, 0, 0), (67, 168, 2, 1, 78, 4), (29, 0, 0, 0, 0, 0), (27, 0, 0, 0, 0, 0), (8, 5, 1, 0, 0, 0), (11, 6, 0, 0, 0, 1), (57, 0, 15, 0, 0, 0), (5, 5, 1, 0, 0, 0), (61, 0, 0, 0, 0, 0)]
def ko_16 : List Nat := [0, 1, 2, 5, 6, 7, 8, 11, 12, 13, 16, 18, 19, 21, 22, 24, 26, 28, 31, 32, 34, 37, 40, 42, 43, 45, 47, 50, 51, 52, 54, 57, 60, 62, 63]
def kc_17 : List RI := [(7, 0, 0, 0, 0, 0), (12, 1, 4, 0, 24, 0), (0, 0, 0, 0, 0, 3), (54, 3, 6, 0, 0, 0), (0, 0, 0, 0, 0, 0), (57, 0, 12, 0, 0, 0), (7, 0, 0, 0, 0, 0), (0, 0, 0, 0, 0, 0), (0, 0, 0, 0, 0, 1), (67, 18, 3, 1, 81, 0), (0, 0, 0, 0, 0, 2), (32, 0, 0, 0, 0, 0), (61, 0, 0, 0, 0, 0)]
def ko_17 : List Nat := [0, 1, 4, 5, 8, 9, 12, 13, 14, 15, 18, 19, 20, 21]
def kc_18 : List RI := [(5, 2, 0, 0, 0, 0), (0, 0, 0, 0, 0, 1), (7, 0, 0, 0, 0, 0), (12, 1, 4, 0, 24, 0), (29, 0, 0, 0, 0, 0), (0, 0, 0, 0, 0, 1), (24, 0, 0, 0, 0, 0), (54, 1, 15, 0, 0, 0), (7, 0, 0, 0, 0, 0), (12, 1, 2, 2, 18, 0), (5, 1, 0, 0, 0, 0), (14, 0, 0, 0, 0, 0), (0, 0, 0, 0, 0, 1), (26, 0, 0, 0, 0, 0), (61, 0, 0, 0, 0, 0), (0, 0, 0, 0, 0, 0), (8, 3, 0, 0, 0, 0), (0, 0, 0, 0, 0, 1), (8, 4, 1, 0, 0, 0), (5, 4, 1, 0, 0, 0), (7, 0, 0, 0, 0, 0), (12, 1, 4, 0, 24, 0), (54, 3, 47, 0, 0, 0), (7, 0, 0, 0, 0, 0), (12, 1, 2, 2, 18, 0), (5, 1, 0, 0, 0, 0), (14, 0, 0, 0, 0, 0), (5, 4, 1, 0, 0, 0), (67, 169, 2, 1, 41, 4), (53, 0, 45, 0, 0, 0), (5, 2, 0, 0, 0, 0), (5, 4, 1, 0, 0, 0), (67, 169, 2, 1, 41, 4), (53, 1, 45, 0, 0, 0), (5, 3, 0, 0, 0, 0), (7, 0, 0, 0, 0, 0), (5, 4, 1, 0, 0, 0), (5, 2, 0, 0, 0, 0), (0, 0, 0, 0, 0, 1), (5, 4, 1, 0, 0, 0), (29, 0, 0, 0, 0, 0), (27, 0, 0, 0, 0, 0), (67, 18, 3, 1, 81, 0), (23, 0, 0, 0, 0, 0), (8, 3, 0, 0, 0, 0), (11, 4, 0, 0, 0, 1), (57, 0, 19, 0, 0, 0), (5, 3, 0, 0, 0, 0), (61, 0, 0, 0, 0, 0)]
def ko_18 : List Nat := [0, 1, 2, 3, 6, 7, 8, 9, 12, 13, 16, 17, 18, 19, 20, 21, 22, 23, 24, 26, 28, 29, 32, 35, 36, 39, 40, 41, 43, 46, 49, 50, 52, 55, 58, 59, 60, 62, 63, 64, 66, 67, 68, 71, 72, 73, 76, 79, 80, 81]
def kc_19 : List RI := [(0, 0, 0, 0, 0, 1), (8, 1, 0, 0, 0, 0), (0, 0, 0, 0, 0, 2), (8, 2, 0, 0, 0, 0), (5, 2, 0, 0, 0, 0), (7, 0, 0, 0, 0, 0), (12, 1, 4, 0, 24, 0), (54, 4, 14, 0, 0, 0), (5, 1, 0, 0, 0, 0), (5, 2, 0, 0, 0, 0), (25, 0, 0, 0, 0, 0), (8, 1, 0, 0, 0, 0), (11, 2, 0, 0, 0, 1), (57, 0, 4, 0, 0, 0), (5, 1, 0, 0, 0, 0), (61, 0, 0, 0, 0, 0)]
def ko_19 : List Nat := [0, 1, 2, 3, 4, 5, 6, 9, 12, 13, 14, 15, 16, 19, 22, 23, 24]
def kc_20 : List RI := [(7, 0, 0, 0, 0, 0), (12, 1, 4, 0, 24, 0), (7, 1, 0, 0, 0, 0), (12, 1, 4, 0, 24, 0), (54, 1, 10, 0, 0, 0), (7, 0, 0, 0, 0, 0), (12, 1, 5, 0, 28, 0), (7, 1, 0, 0, 0, 0), (12, 1, 5, 0, 28, 0), (54, 0, 12, 0, 0, 0), (0, 0, 0, 0, 0, 0), (61, 0, 0, 0, 0, 0), (7, 0, 0, 0, 0, 0), (7, 1, 0, 0, 0, 0), (0, 0, 0, 0, 0, 0), (0, 0, 0, 0, 0, 0), (67, 21, 4, 1, 84, 0), (61, 0, 0, 0, 0, 0)]
def ko_20 : List Nat := [0, 1, 4, 5, 8, 11, 12, 15, 16, 19, 22, 23, 24, 25, 26, 27, 28, 31, 32]
def kc_21 : List RI := [(5, 2, 0, 0, 0, 0), (7, 0, 0, 0, 0, 0), (12, 1, 4, 0, 24, 0), (54, 2, 6, 0, 0, 0), (0, 0, 0, 0, 0, 1), (61, 0, 0, 0, 0, 0), (0, 0, 0, 0, 0, 0), (8, 4, 1, 0, 0, 0), (0, 0, 0, 0, 0, 0), (8, 5, 1, 0, 0, 0), (5, 5, 1, 0, 0, 0), (7, 0, 0, 0, 0, 0), (12, 1, 4, 0, 24, 0), (54, 3, 45, 0, 0, 0), (5, 3, 0, 0, 0, 0), (5, 5, 1, 0, 0, 0), (67, 169, 2, 1, 41, 4), (53, 1, 43, 0, 0, 0), (7, 0, 0, 0, 0, 0), (7, 1, 0, 0, 0, 0), (5, 2, 0, 0, 0, 0), (5, 5, 1, 0, 0, 0), (67, 22, 4, 1, 88, 0), (53, 0, 43, 0, 0, 0), (7, 0, 0, 0, 0, 0), (12, 1, 3, 2, 21, 0), (5, 2, 0, 0, 0, 0), (5, 5, 1, 0, 0, 0), (18, 0, 0, 0, 0, 0), (5, 4, 1, 0, 0, 0), (7, 0, 0, 0, 0, 0), (7, 1, 0, 0, 0, 0), (5, 2, 0, 0, 0, 0), (0, 0, 0, 0, 0, 1), (23, 0, 0, 0, 0, 0), (5, 3, 0, 0, 0, 0), (0, 0, 0, 0, 0, 1), (5, 5, 1, 0, 0, 0), (29, 0, 0, 0, 0, 0), (27, 0, 0, 0, 0, 0), (67, 21, 4, 1, 84, 0), (23, 0, 0, 0, 0, 0), (8, 4, 1, 0, 0, 0), (11, 5, 0, 0, 0, 1), (57, 0, 10, 0, 0, 0), (5, 4, 1, 0, 0, 0), (61, 0, 0, 0, 0, 0)]
def ko_21 : List Nat := [0, 1, 2, 5, 8, 9, 10, 11, 13, 14, 16, 18, 19, 22, 25, 26, 28, 31, 34, 35, 36, 37, 39, 42, 45, 46, 49, 50, 52, 53, 55, 56, 57, 58, 59, 60, 61, 62, 64, 65, 66, 69, 70, 72, 75, 78, 80, 81]
def kc_22 : List RI := [(0, 0, 0, 0, 0, 0), (8, 4, 1, 0, 0, 0), (5, 4, 1, 0, 0, 0), (5, 2, 0, 0, 0, 0), (54, 3, 25, 0, 0, 0), (7, 0, 0, 0, 0, 0), (12, 1, 2, 2, 18, 0), (5, 2, 0, 0, 0, 0), (14, 0, 0, 0, 0, 0), (5, 4, 1, 0, 0, 0), (67, 169, 2, 1, 41, 4), (7, 1, 0, 0, 0, 0), (12, 1, 2, 2, 18, 0), (5, 3, 0, 0, 0, 0), (14, 0, 0, 0, 0, 0), (7, 0, 0, 0, 0, 0), (12, 1, 3, 2, 21, 0), (5, 4, 1, 0, 0, 0), (14, 0, 0, 0, 0, 0), (67, 169, 2, 1, 41, 4), (54, 0, 23, 0, 0, 0), (0, 0, 0, 0, 0, 0), (62, 0, 0, 0, 0, 0), (11, 4, 0, 0, 0, 1), (57, 0, 2, 0, 0, 0), (0, 0, 0, 0, 0, 1), (62, 0, 0, 0, 0, 0)]
def ko_22 : List Nat := [0, 1, 3, 5, 6, 9, 10, 13, 14, 15, 17, 20, 21, 24, 25, 26, 27, 30, 32, 33, 36, 39, 40, 41, 44, 47, 48, 49]
def kc_23 : List RI := [(7, 0, 0, 0, 0, 0), (75, 0, 0, 0, 3, 0), (7, 0, 0, 0, 0, 0), (2, 0, 0, 0, 0, 300), (69, 100, 0, 0, 0, 0), (13, 2, 0, 2, 9, 1), (7, 0, 0, 0, 0, 0), (2, 0, 0, 0, 0, 300), (69, 100, 0, 0, 0, 0), (13, 2, 1, 2, 15, 1), (7, 0, 0, 0, 0, 0), (2, 0, 0, 0, 0, 300), (69, 101, 0, 0, 0, 0), (13, 2, 2, 2, 18, 1), (60, 0, 0, 0, 0, 0)]
def ko_23 : List Nat := [0, 1, 4, 5, 8, 10, 13, 14, 17, 19, 22, 23, 26, 28, 31, 32]
def kc_24 : List RI := [(5, 0, 0, 0, 0, 0), (1, 0, 0, 0, 0, 60), (54, 0, 18, 0, 0, 0), (5, 0, 0, 0, 0, 0), (0, 0, 0, 0, 0, 4), (54, 0, 18, 0, 0, 0), (5, 0, 0, 0, 0, 0), (1, 0, 0, 0, 0, 62), (54, 0, 18, 0, 0, 0), (5, 0, 0, 0, 0, 0), (0, 0, 0, 0, 0, 5), (54, 0, 18, 0, 0, 0), (5, 0, 0, 0, 0, 0), (1, 0, 0, 0, 0, 61), (54, 0, 18, 0, 0, 0), (5, 0, 0, 0, 0, 0), (1, 0, 0, 0, 0, 35), (54, 1, 20, 0, 0, 0), (0, 0, 0, 0, 0, 1), (57, 0, 21, 0, 0, 0), (0, 0, 0, 0, 0, 0), (62, 0, 0, 0, 0, 0)]
def ko_24 : List Nat := [0, 1, 3, 6, 7, 8, 11, 12, 14, 17, 18, 19, 22, 23, 25, 28, 29, 31, 34, 35, 38, 39, 40]
def kc_25 : List RI := [(7, 0, 0, 0, 0, 0), (0, 0, 0, 0, 0, 0), (13, 2, 3, 0, 22, 0), (60, 0, 0, 0, 0, 0)]
def ko_25 : List Nat := [0, 1, 2, 5, 6]
def kc_26 : List RI := [(7, 0, 0, 0, 0, 0), (12, 2, 3, 0, 22, 0), (2, 0, 0, 0, 0, 300), (54, 3, 22, 0, 0, 0), (7, 0, 0, 0, 0, 0), (12, 2, 0, 2, 9, 0), (7, 0, 0, 0, 0, 0), (12, 2, 3, 0, 22, 0), (5, 1, 0, 0, 0, 0), (18, 0, 0, 0, 0, 0), (7, 0, 0, 0, 0, 0), (12, 2, 1, 2, 15, 0), (7, 0, 0, 0, 0, 0), (12, 2, 3, 0, 22, 0), (5, 2, 0, 0, 0, 0), (18, 0, 0, 0, 0, 0), (7, 0, 0, 0, 0, 0), (50, 0, 0, 0, 0, 0), (12, 2, 3, 0, 22, 0), (0, 0, 0, 0, 0, 1), (23, 0, 0, 0, 0, 0), (13, 2, 3, 0, 22, 0), (60, 0, 0, 0, 0, 0)]
def ko_26 : List Nat := [0, 1, 4, 7, 10, 11, 14, 15, 18, 19, 20, 21, 24, 25, 28, 29, 30, 31, 32, 35, 36, 37, 40, 41]
def kc_27 : List RI := [(0, 0, 0, 0, 0, 0), (8, 2, 0, 0, 0, 0), (5, 2, 0, 0, 0, 0), (7, 1, 0, 0, 0, 0), (22, 0, 0, 0, 0, 0), (54, 3, 19, 0, 0, 0), (7, 1, 0, 0, 0, 0), (5, 2, 0, 0, 0, 0), (7, 0, 0, 0, 0, 0), (12, 2, 3, 0, 22, 0), (53, 1, 13, 0, 0, 0), (2, 0, 0, 0, 0, 511), (57, 0, 16, 0, 0, 0), (7, 0, 0, 0, 0, 0), (5, 2, 0, 0, 0, 0), (67, 28, 2, 1, 26, 0), (18, 0, 0, 0, 0, 0), (11, 2, 0, 0, 0, 1), (57, 0, 2, 0, 0, 0), (60, 0, 0, 0, 0, 0)]
def ko_27 : List Nat := [0, 1, 2, 3, 4, 5, 8, 9, 10, 11, 14, 17, 20, 23, 24, 25, 28, 29, 32, 35, 36]
def kc_28 : List RI := [(7, 0, 0, 0, 0, 0), (5, 1, 0, 0, 0, 0), (1, 0, 0, 0, 0, 7), (32, 0, 0, 0, 0, 0), (13, 2, 6, 0, 30, 0), (7, 0, 0, 0, 0, 0), (5, 1, 0, 0, 0, 0), (1, 0, 0, 0, 0, 7), (33, 0, 0, 0, 0, 0), (13, 2, 7, 0, 33, 0), (0, 0, 0, 0, 0, 0), (8, 2, 0, 0, 0, 0), (0, 0, 0, 0, 0, 0), (8, 3, 0, 0, 0, 0), (5, 3, 0, 0, 0, 0), (1, 0, 0, 0, 0, 9), (54, 3, 38, 0, 0, 0), (7, 0, 0, 0, 0, 0), (5, 3, 0, 0, 0, 0), (0, 0, 0, 0, 0, 3), (32, 0, 0, 0, 0, 0), (13, 2, 4, 0, 36, 0), (7, 0, 0, 0, 0, 0), (5, 3, 0, 0, 0, 0), (0, 0, 0, 0, 0, 3), (33, 0, 0, 0, 0, 0), (13, 2, 5, 0, 39, 0), (7, 0, 0, 0, 0, 0), (67, 29, 1, 1, 42, 0), (53, 0, 36, 0, 0, 0), (5, 2, 0, 0, 0, 0), (0, 0, 0, 0, 0, 1), (5, 3, 0, 0, 0, 0), (29, 0, 0, 0, 0, 0), (27, 0, 0, 0, 0, 0), (8, 2, 0, 0, 0, 0), (11, 3, 0, 0, 0, 1), (57, 0, 14, 0, 0, 0), (5, 2, 0, 0, 0, 0), (61, 0, 0, 0, 0, 0)]
def ko_28 : List Nat := [0, 1, 2, 4, 5, 8, 9, 10, 12, 13, 16, 17, 18, 19, 20, 21, 23, 26, 27, 28, 29, 30, 33, 34, 35, 36, 37, 40, 41, 44, 47, 48, 49, 50, 51, 52, 53, 56, 59, 60, 61]
def kc_29 : List RI := [(0, 0, 0, 0, 0, 0), (8, 1, 0, 0, 0, 0), (0, 0, 0, 0, 0, 0), (8, 2, 0, 0, 0, 0), (5, 2, 0, 0, 0, 0), (7, 0, 0, 0, 0, 0), (12, 2, 3, 0, 22, 0), (54, 3, 90, 0, 0, 0), (7, 0, 0, 0, 0, 0), (12, 2, 0, 2, 9, 0), (5, 2, 0, 0, 0, 0), (14, 0, 0, 0, 0, 0), (8, 3, 0, 0, 0, 0), (5, 3, 0, 0, 0, 0), (1, 0, 0, 0, 0, 6), (54, 0, 19, 0, 0, 0), (5, 3, 0, 0, 0, 0), (1, 0, 0, 0, 0, 7), (54, 1, 47, 0, 0, 0), (5, 1, 0, 0, 0, 0), (53, 5, 88, 0, 0, 0), (7, 0, 0, 0, 0, 0), (12, 2, 2, 2, 18, 0), (5, 1, 0, 0, 0, 0), (0, 0, 0, 0, 0, 1), (24, 0, 0, 0, 0, 0), (5, 3, 0, 0, 0, 0), (1, 0, 0, 0, 0, 6), (54, 1, 37, 0, 0, 0), (7, 0, 0, 0, 0, 0), (12, 2, 2, 2, 18, 0), (5, 1, 0, 0, 0, 0), (0, 0, 0, 0, 0, 1), (24, 0, 0, 0, 0, 0), (15, 0, 0, 0, 0, 0), (42, 0, 0, 0, 0, 0), (57, 0, 45, 0, 0, 0), (47, 0, 0, 0, 0, 1), (7, 0, 0, 0, 0, 0), (12, 2, 2, 2, 18, 0), (5, 1, 0, 0, 0, 0), (0, 0, 0, 0, 0, 1), (24, 0, 0, 0, 0, 0), (15, 0, 0, 0, 0, 0), (36, 0, 0, 0, 0, 0), (19, 0, 0, 0, 0, 0), (57, 0, 88, 0, 0, 0), (5, 3, 0, 0, 0, 0), (67, 30, 1, 1, 46, 1), (53, 0, 66, 0, 0, 0), (5, 1, 0, 0, 0, 0), (2, 0, 0, 0, 0, 300), (54, 3, 88, 0, 0, 0), (7, 0, 0, 0, 0, 0), (12, 2, 2, 2, 18, 0), (5, 1, 0, 0, 0, 0), (7, 0, 0, 0, 0, 0), (5, 3, 0, 0, 0, 0), (7, 0, 0, 0, 0, 0), (12, 2, 1, 2, 15, 0), (5, 2, 0, 0, 0, 0), (14, 0, 0, 0, 0, 0), (67, 31, 3, 2, 50, 0), (19, 0, 0, 0, 0, 0), (11, 1, 0, 0, 0, 1), (57, 0, 88, 0, 0, 0), (5, 1, 0, 0, 0, 0), (0, 0, 0, 0, 0, 1), (54, 5, 88, 0, 0, 0), (11, 1, 0, 0, 0, -1), (7, 0, 0, 0, 0, 0), (12, 2, 2, 2, 18, 0), (5, 1, 0, 0, 0, 0), (0, 0, 0, 0, 0, 1), (24, 0, 0, 0, 0, 0), (5, 3, 0, 0, 0, 0), (7, 0, 0, 0, 0, 0), (12, 2, 2, 2, 18, 0), (5, 1, 0, 0, 0, 0), (0, 0, 0, 0, 0, 1), (24, 0, 0, 0, 0, 0), (15, 0, 0, 0, 0, 0), (7, 0, 0, 0, 0, 0), (12, 2, 2, 2, 18, 0), (5, 1, 0, 0, 0, 0), (15, 0, 0, 0, 0, 0), (67, 32, 3, 2, 54, 1), (19, 0, 0, 0, 0, 0), (11, 2, 0, 0, 0, 1), (57, 0, 4, 0, 0, 0), (5, 1, 0, 0, 0, 0), (53, 5, 101, 0, 0, 0), (7, 0, 0, 0, 0, 0), (12, 2, 2, 2, 18, 0), (0, 0, 0, 0, 0, 0), (15, 0, 0, 0, 0, 0), (47, 0, 0, 0, 0, 0), (45, 0, 0, 0, 0, 0), (53, 0, 101, 0, 0, 0), (0, 0, 0, 0, 0, 1), (57, 0, 102, 0, 0, 0), (0, 0, 0, 0, 0, 0), (62, 0, 0, 0, 0, 0)]
def ko_29 : List Nat := [0, 1, 2, 3, 4, 5, 6, 9, 12, 13, 16, 17, 18, 19, 20, 22, 25, 26, 28, 31, 32, 35, 36, 39, 40, 41, 42, 43, 45, 48, 49, 52, 53, 54, 55, 56, 57, 60, 61, 62, 65, 66, 67, 68, 69, 70, 71, 74, 75, 78, 81, 82, 85, 88, 89, 92, 93, 94, 95, 96, 99, 100, 101, 104, 105, 108, 111, 112, 113, 116, 119, 120, 123, 124, 125, 126, 127, 128, 131, 132, 133, 134, 135, 136, 139, 140, 141, 144, 145, 148, 151, 152, 155, 156, 159, 160, 161, 162, 163, 166, 167, 170, 171, 172]
def kc_30 : List RI := [(5, 0, 0, 0, 0, 0), (0, 0, 0, 0, 0, 3), (54, 0, 15, 0, 0, 0), (5, 0, 0, 0, 0, 0), (1, 0, 0, 0, 0, 97), (54, 0, 15, 0, 0, 0), (5, 0, 0, 0, 0, 0), (1, 0, 0, 0, 0, 98), (54, 0, 15, 0, 0, 0), (5, 0, 0, 0, 0, 0), (1, 0, 0, 0, 0, 120), (54, 0, 15, 0, 0, 0), (5, 0, 0, 0, 0, 0), (1, 0, 0, 0, 0, 121), (54, 1, 17, 0, 0, 0), (0, 0, 0, 0, 0, 1), (57, 0, 18, 0, 0, 0), (0, 0, 0, 0, 0, 0), (62, 0, 0, 0, 0, 0)]
def ko_30 : List Nat := [0, 1, 2, 5, 6, 8, 11, 12, 14, 17, 18, 20, 23, 24, 26, 29, 30, 33, 34, 35]
def kc_31 : List RI := [(5, 1, 0, 0, 0, 0), (59, 0, 0, 43, 0, 0), (7, 0, 0, 0, 0, 0), (12, 2, 4, 0, 36, 0), (43, 0, 0, 0, 0, 0), (63, 0, 0, 0, 0, 0), (7, 0, 0, 0, 0, 0), (12, 2, 5, 0, 39, 0), (43, 0, 0, 0, 0, 0), (63, 0, 0, 0, 0, 0), (7, 0, 0, 0, 0, 0), (12, 2, 6, 0, 30, 0), (43, 0, 0, 0, 0, 0), (63, 0, 0, 0, 0, 0), (7, 0, 0, 0, 0, 0), (12, 2, 7, 0, 33, 0), (43, 0, 0, 0, 0, 0), (63, 0, 0, 0, 0, 0), (5, 2, 0, 0, 0, 0), (43, 0, 0, 0, 0, 0), (63, 0, 0, 0, 0, 0)]
def ko_31 : List Nat := [0, 1, 44, 45, 48, 49, 50, 51, 54, 55, 56, 57, 60, 61, 62, 63, 66, 67, 68, 69, 70, 71]
def kc_32 : List RI := [(5, 0, 0, 0, 0, 0), (59, 1, 0, 91, 0, 0), (6, 1, 0, 0, 0, 0), (6, 3, 0, 0, 0, 0), (35, 0, 0, 0, 0, 0), (67, 33, 1, 2, 58, 1), (63, 0, 0, 0, 0, 0), (6, 1, 0, 0, 0, 0), (6, 3, 0, 0, 0, 0), (36, 0, 0, 0, 0, 0), (67, 33, 1, 2, 58, 1), (63, 0, 0, 0, 0, 0), (6, 1, 0, 0, 0, 0), (6, 3, 0, 0, 0, 0), (37, 0, 0, 0, 0, 0), (67, 33, 1, 2, 58, 1), (63, 0, 0, 0, 0, 0), (6, 1, 0, 0, 0, 0), (6, 3, 0, 0, 0, 0), (45, 0, 0, 0, 0, 0), (53, 3, 23, 0, 0, 0), (0, 0, 0, 0, 0, 1), (57, 0, 24, 0, 0, 0), (0, 0, 0, 0, 0, 0), (67, 159, 1, 1, 62, 4), (43, 0, 0, 0, 0, 0), (63, 0, 0, 0, 0, 0), (6, 1, 0, 0, 0, 0), (6, 3, 0, 0, 0, 0), (45, 0, 0, 0, 0, 0), (53, 4, 33, 0, 0, 0), (0, 0, 0, 0, 0, 1), (57, 0, 34, 0, 0, 0), (0, 0, 0, 0, 0, 0), (67, 159, 1, 1, 62, 4), (43, 0, 0, 0, 0, 0), (63, 0, 0, 0, 0, 0), (6, 1, 0, 0, 0, 0), (6, 3, 0, 0, 0, 0), (45, 0, 0, 0, 0, 0), (53, 5, 43, 0, 0, 0), (0, 0, 0, 0, 0, 1), (57, 0, 44, 0, 0, 0), (0, 0, 0, 0, 0, 0), (67, 159, 1, 1, 62, 4), (43, 0, 0, 0, 0, 0), (63, 0, 0, 0, 0, 0), (6, 1, 0, 0, 0, 0), (6, 3, 0, 0, 0, 0), (45, 0, 0, 0, 0, 0), (53, 2, 53, 0, 0, 0), (0, 0, 0, 0, 0, 1), (57, 0, 54, 0, 0, 0), (0, 0, 0, 0, 0, 0), (67, 159, 1, 1, 62, 4), (43, 0, 0, 0, 0, 0), (63, 0, 0, 0, 0, 0), (6, 1, 0, 0, 0, 0), (6, 3, 0, 0, 0, 0), (45, 0, 0, 0, 0, 0), (53, 1, 63, 0, 0, 0), (0, 0, 0, 0, 0, 1), (57, 0, 64, 0, 0, 0), (0, 0, 0, 0, 0, 0), (67, 159, 1, 1, 62, 4), (43, 0, 0, 0, 0, 0), (63, 0, 0, 0, 0, 0), (6, 1, 0, 0, 0, 0), (6, 3, 0, 0, 0, 0), (45, 0, 0, 0, 0, 0), (53, 0, 73, 0, 0, 0), (0, 0, 0, 0, 0, 1), (57, 0, 74, 0, 0, 0), (0, 0, 0, 0, 0, 0), (67, 159, 1, 1, 62, 4), (43, 0, 0, 0, 0, 0), (63, 0, 0, 0, 0, 0), (6, 1, 0, 0, 0, 0), (6, 3, 0, 0, 0, 0), (38, 0, 0, 0, 0, 0), (63, 0, 0, 0, 0, 0), (6, 1, 0, 0, 0, 0), (6, 3, 0, 0, 0, 0), (39, 0, 0, 0, 0, 0), (63, 0, 0, 0, 0, 0)]
def ko_32 : List Nat := [0, 1, 92, 93, 94, 95, 98, 99, 100, 101, 102, 105, 106, 107, 108, 109, 112, 113, 114, 115, 116, 119, 120, 123, 124, 127, 128, 129, 130, 131, 132, 135, 136, 139, 140, 143, 144, 145, 146, 147, 148, 151, 152, 155, 156, 159, 160, 161, 162, 163, 164, 167, 168, 171, 172, 175, 176, 177, 178, 179, 180, 183, 184, 187, 188, 191, 192, 193, 194, 195, 196, 199, 200, 203, 204, 207, 208, 209, 210, 211, 212, 213, 214, 215, 216, 217]
def kc_33 : List RI := [(48, 0, 0, 0, 66, -1000000000), (48, 0, 0, 0, 68, 1000000000), (6, 0, 0, 0, 0, 0), (67, 289, 2, 2, 70, 1), (67, 287, 2, 2, 76, 1), (63, 0, 0, 0, 0, 0)]
def ko_33 : List Nat := [0, 3, 6, 7, 10, 13, 14]
def kc_34 : List RI := [(7, 0, 0, 0, 0, 0), (75, 0, 0, 0, 3, 0), (7, 0, 0, 0, 0, 0), (0, 0, 0, 0, 0, 1), (13, 3, 0, 0, 9, 0), (7, 0, 0, 0, 0, 0), (0, 0, 0, 0, 0, 3), (13, 3, 3, 0, 15, 0), (7, 0, 0, 0, 0, 0), (0, 0, 0, 0, 0, 1), (13, 3, 4, 0, 18, 0), (60, 0, 0, 0, 0, 0)]
def ko_34 : List Nat := [0, 1, 4, 5, 6, 9, 10, 11, 14, 15, 16, 19, 20]
def kc_35 : List RI := [(5, 0, 0, 0, 0, 0), (53, 2, 7, 0, 0, 0), (5, 0, 0, 0, 0, 0), (1, 0, 0, 0, 0, 63), (54, 4, 7, 0, 0, 0), (0, 0, 0, 0, 0, 1), (57, 0, 8, 0, 0, 0), (0, 0, 0, 0, 0, 0), (62, 0, 0, 0, 0, 0)]
def ko_35 : List Nat := [0, 1, 4, 5, 7, 10, 11, 14, 15, 16]
def kc_36 : List RI := [(5, 1, 0, 0, 0, 0), (67, 35, 1, 1, 21, 1), (53, 0, 9, 0, 0, 0), (5, 2, 0, 0, 0, 0), (67, 35, 1, 1, 21, 1), (53, 0, 9, 0, 0, 0), (5, 3, 0, 0, 0, 0), (67, 35, 1, 1, 21, 1), (53, 1, 11, 0, 0, 0), (0, 0, 0, 0, 0, 0), (62, 0, 0, 0, 0, 0), (5, 4, 1, 0, 0, 0), (0, 0, 0, 0, 0, 1), (54, 2, 23, 0, 0, 0), (5, 4, 1, 0, 0, 0), (1, 0, 0, 0, 0, 64), (54, 4, 23, 0, 0, 0), (5, 5, 1, 0, 0, 0), (0, 0, 0, 0, 0, 1), (54, 2, 23, 0, 0, 0), (5, 5, 1, 0, 0, 0), (1, 0, 0, 0, 0, 32), (54, 5, 25, 0, 0, 0), (0, 0, 0, 0, 0, 0), (62, 0, 0, 0, 0, 0), (7, 0, 0, 0, 0, 0), (5, 1, 0, 0, 0, 0), (13, 3, 0, 0, 9, 0), (7, 0, 0, 0, 0, 0), (5, 2, 0, 0, 0, 0), (13, 3, 1, 0, 25, 0), (7, 0, 0, 0, 0, 0), (5, 3, 0, 0, 0, 0), (13, 3, 2, 0, 28, 0), (7, 0, 0, 0, 0, 0), (5, 4, 1, 0, 0, 0), (13, 3, 3, 0, 15, 0), (7, 0, 0, 0, 0, 0), (5, 5, 1, 0, 0, 0), (13, 3, 4, 0, 18, 0), (0, 0, 0, 0, 0, 1), (62, 0, 0, 0, 0, 0)]
def ko_36 : List Nat := [0, 1, 4, 7, 8, 11, 14, 15, 18, 21, 22, 23, 25, 26, 29, 31, 33, 36, 38, 39, 42, 44, 46, 49, 50, 51, 52, 53, 56, 57, 58, 61, 62, 63, 66, 67, 69, 72, 73, 75, 78, 79, 80]
def kc_37 : List RI := [(7, 0, 0, 0, 0, 0), (7, 1, 0, 0, 0, 0), (12, 3, 0, 0, 9, 0), (13, 3, 0, 0, 9, 0), (7, 0, 0, 0, 0, 0), (7, 1, 0, 0, 0, 0), (12, 3, 1, 0, 25, 0), (13, 3, 1, 0, 25, 0), (7, 0, 0, 0, 0, 0), (7, 1, 0, 0, 0, 0), (12, 3, 2, 0, 28, 0), (13, 3, 2, 0, 28, 0), (7, 0, 0, 0, 0, 0), (7, 1, 0, 0, 0, 0), (12, 3, 3, 0, 15, 0), (13, 3, 3, 0, 15, 0), (7, 0, 0, 0, 0, 0), (7, 1, 0, 0, 0, 0), (12, 3, 4, 0, 18, 0), (13, 3, 4, 0, 18, 0), (60, 0, 0, 0, 0, 0)]
def ko_37 : List Nat := [0, 1, 2, 5, 8, 9, 10, 13, 16, 17, 18, 21, 24, 25, 26, 29, 32, 33, 34, 37, 40, 41]
def kc_38 : List RI := [(7, 0, 0, 0, 0, 0), (12, 3, 3, 0, 15, 0), (0, 0, 0, 0, 0, 1), (54, 3, 6, 0, 0, 0), (0, 0, 0, 0, 0, -1), (57, 0, 25, 0, 0, 0), (7, 0, 0, 0, 0, 0), (12, 3, 0, 0, 9, 0), (5, 1, 0, 0, 0, 0), (25, 0, 0, 0, 0, 0), (7, 0, 0, 0, 0, 0), (12, 3, 1, 0, 25, 0), (5, 2, 0, 0, 0, 0), (25, 0, 0, 0, 0, 0), (23, 0, 0, 0, 0, 0), (7, 0, 0, 0, 0, 0), (12, 3, 2, 0, 28, 0), (5, 1, 0, 0, 0, 0), (25, 0, 0, 0, 0, 0), (5, 2, 0, 0, 0, 0), (25, 0, 0, 0, 0, 0), (23, 0, 0, 0, 0, 0), (7, 0, 0, 0, 0, 0), (12, 3, 3, 0, 15, 0), (33, 0, 0, 0, 0, 0), (61, 0, 0, 0, 0, 0)]
def ko_38 : List Nat := [0, 1, 4, 5, 8, 9, 12, 13, 16, 17, 18, 19, 22, 23, 24, 25, 26, 29, 30, 31, 32, 33, 34, 35, 38, 39, 40]
def kc_39 : List RI := [(0, 0, 0, 0, 0, 0), (8, 2, 0, 0, 0, 0), (5, 2, 0, 0, 0, 0), (0, 0, 0, 0, 0, 3), (54, 3, 45, 0, 0, 0), (0, 0, 0, 0, 0, 0), (8, 3, 0, 0, 0, 0), (5, 3, 0, 0, 0, 0), (7, 0, 0, 0, 0, 0), (12, 3, 4, 0, 18, 0), (54, 3, 43, 0, 0, 0), (7, 0, 0, 0, 0, 0), (5, 2, 0, 0, 0, 0), (5, 3, 0, 0, 0, 0), (67, 38, 3, 1, 31, 0), (8, 4, 1, 0, 0, 0), (0, 0, 0, 0, 0, 0), (8, 5, 1, 0, 0, 0), (5, 5, 1, 0, 0, 0), (0, 0, 0, 0, 0, 3), (54, 3, 41, 0, 0, 0), (7, 0, 0, 0, 0, 0), (5, 5, 1, 0, 0, 0), (5, 4, 1, 0, 0, 0), (67, 41, 3, 1, 35, 0), (8, 6, 1, 0, 0, 0), (5, 5, 1, 0, 0, 0), (5, 2, 0, 0, 0, 0), (54, 0, 39, 0, 0, 0), (5, 6, 1, 0, 0, 0), (0, 0, 0, 0, 0, -1), (54, 0, 39, 0, 0, 0), (5, 1, 0, 0, 0, 0), (5, 2, 0, 0, 0, 0), (5, 3, 0, 0, 0, 0), (5, 5, 1, 0, 0, 0), (5, 6, 1, 0, 0, 0), (67, 40, 5, 1, 38, 1), (61, 0, 0, 0, 0, 0), (11, 5, 0, 0, 0, 1), (57, 0, 18, 0, 0, 0), (11, 3, 0, 0, 0, 1), (57, 0, 7, 0, 0, 0), (11, 2, 0, 0, 0, 1), (57, 0, 2, 0, 0, 0), (0, 0, 0, 0, 0, -1), (61, 0, 0, 0, 0, 0)]
def ko_39 : List Nat := [0, 1, 2, 3, 4, 7, 8, 9, 10, 11, 14, 17, 18, 19, 20, 23, 25, 26, 28, 30, 31, 34, 35, 37, 39, 42, 44, 46, 47, 50, 52, 53, 56, 57, 58, 59, 61, 63, 66, 67, 70, 73, 76, 79, 82, 85, 86, 87]
def kc_40 : List RI := [(5, 0, 0, 0, 0, 0), (58, 2, 0, 27, 0, 0), (5, 1, 0, 0, 0, 0), (61, 0, 0, 0, 0, 0), (5, 2, 0, 0, 0, 0), (61, 0, 0, 0, 0, 0), (5, 3, 0, 0, 0, 0), (61, 0, 0, 0, 0, 0), (5, 4, 1, 0, 0, 0), (61, 0, 0, 0, 0, 0)]
def ko_40 : List Nat := [0, 1, 28, 29, 30, 31, 32, 33, 34, 36, 37]
def kc_41 : List RI := [(0, 0, 0, 0, 0, 0), (8, 3, 0, 0, 0, 0), (5, 3, 0, 0, 0, 0), (7, 0, 0, 0, 0, 0), (12, 3, 4, 0, 18, 0), (54, 3, 16, 0, 0, 0), (7, 0, 0, 0, 0, 0), (5, 1, 0, 0, 0, 0), (5, 3, 0, 0, 0, 0), (67, 38, 3, 1, 31, 0), (5, 2, 0, 0, 0, 0), (54, 1, 14, 0, 0, 0), (5, 3, 0, 0, 0, 0), (61, 0, 0, 0, 0, 0), (11, 3, 0, 0, 0, 1), (57, 0, 2, 0, 0, 0), (0, 0, 0, 0, 0, -1), (61, 0, 0, 0, 0, 0)]
def ko_41 : List Nat := [0, 1, 2, 3, 4, 7, 10, 11, 12, 13, 16, 17, 20, 21, 22, 25, 28, 29, 30]
def kc_42 : List RI := [(0, 0, 0, 0, 0, 0), (8, 3, 0, 0, 0, 0), (0, 0, 0, 0, 0, 0), (8, 4, 1, 0, 0, 0), (5, 4, 1, 0, 0, 0), (7, 0, 0, 0, 0, 0), (12, 3, 3, 0, 15, 0), (54, 3, 24, 0, 0, 0), (5, 3, 0, 0, 0, 0), (0, 0, 0, 0, 0, 0), (7, 0, 0, 0, 0, 0), (5, 1, 0, 0, 0, 0), (5, 4, 1, 0, 0, 0), (67, 43, 3, 1, 42, 0), (7, 0, 0, 0, 0, 0), (5, 2, 0, 0, 0, 0), (5, 4, 1, 0, 0, 0), (67, 43, 3, 1, 42, 0), (24, 0, 0, 0, 0, 0), (67, 286, 2, 1, 45, 1), (23, 0, 0, 0, 0, 0), (8, 3, 0, 0, 0, 0), (11, 4, 0, 0, 0, 1), (57, 0, 4, 0, 0, 0), (5, 3, 0, 0, 0, 0), (61, 0, 0, 0, 0, 0)]
def ko_42 : List Nat := [0, 1, 2, 3, 5, 7, 8, 11, 14, 15, 16, 17, 18, 20, 23, 24, 25, 27, 30, 31, 34, 35, 36, 39, 42, 43, 44]
def kc_43 : List RI := [(0, 0, 0, 0, 0, 0), (8, 3, 0, 0, 0, 0), (0, 0, 0, 0, 0, 0), (8, 4, 1, 0, 0, 0), (5, 4, 1, 0, 0, 0), (7, 0, 0, 0, 0, 0), (12, 3, 4, 0, 18, 0), (54, 3, 23, 0, 0, 0), (5, 3, 0, 0, 0, 0), (7, 0, 0, 0, 0, 0), (5, 1, 0, 0, 0, 0), (5, 4, 1, 0, 0, 0), (67, 38, 3, 1, 31, 0), (5, 2, 0, 0, 0, 0), (54, 1, 17, 0, 0, 0), (0, 0, 0, 0, 0, 1), (57, 0, 18, 0, 0, 0), (0, 0, 0, 0, 0, 0), (67, 159, 1, 1, 50, 4), (23, 0, 0, 0, 0, 0), (8, 3, 0, 0, 0, 0), (11, 4, 0, 0, 0, 1), (57, 0, 4, 0, 0, 0), (5, 3, 0, 0, 0, 0), (61, 0, 0, 0, 0, 0)]
def ko_43 : List Nat := [0, 1, 2, 3, 5, 7, 8, 11, 14, 15, 16, 17, 19, 22, 23, 26, 27, 30, 31, 34, 35, 36, 39, 42, 43, 44]
def kc_44 : List RI := [(7, 0, 0, 0, 0, 0), (75, 0, 0, 0, 3, 0), (7, 0, 0, 0, 0, 0), (1, 0, 0, 0, 0, 21), (69, 100, 0, 0, 0, 0), (13, 4, 0, 2, 9, 1), (7, 0, 0, 0, 0, 0), (1, 0, 0, 0, 0, 21), (69, 100, 0, 0, 0, 0), (13, 4, 1, 2, 15, 1), (7, 0, 0, 0, 0, 0), (1, 0, 0, 0, 0, 21), (69, 100, 0, 0, 0, 0), (13, 4, 2, 2, 18, 1), (7, 0, 0, 0, 0, 0), (1, 0, 0, 0, 0, 81), (69, 100, 0, 0, 0, 0), (13, 4, 3, 2, 21, 1), (7, 0, 0, 0, 0, 0), (2, 0, 0, 0, 0, 189), (69, 100, 0, 0, 0, 0), (13, 4, 4, 2, 24, 1), (60, 0, 0, 0, 0, 0)]
def ko_44 : List Nat := [0, 1, 4, 5, 7, 9, 12, 13, 15, 17, 20, 21, 23, 25, 28, 29, 31, 33, 36, 37, 40, 42, 45, 46]
def kc_45 : List RI := [(7, 0, 0, 0, 0, 0), (7, 1, 0, 0, 0, 0), (13, 4, 5, 2, 27, 0), (7, 0, 0, 0, 0, 0), (5, 2, 0, 0, 0, 0), (67, 162, 1, 1, 31, 4), (13, 4, 6, 0, 35, 0), (7, 0, 0, 0, 0, 0), (5, 3, 0, 0, 0, 0), (13, 4, 7, 3, 39, 0), (7, 0, 0, 0, 0, 0), (0, 0, 0, 0, 0, 0), (13, 4, 8, 0, 43, 0), (0, 0, 0, 0, 0, 0), (8, 6, 1, 0, 0, 0), (5, 4, 1, 0, 0, 0), (53, 1, 34, 0, 0, 0), (5, 6, 1, 0, 0, 0), (7, 1, 0, 0, 0, 0), (12, 1, 5, 0, 46, 0), (54, 3, 34, 0, 0, 0), (7, 0, 0, 0, 0, 0), (7, 1, 0, 0, 0, 0), (12, 1, 0, 2, 51, 0), (5, 6, 1, 0, 0, 0), (14, 0, 0, 0, 0, 0), (7, 1, 0, 0, 0, 0), (12, 1, 1, 2, 54, 0), (5, 6, 1, 0, 0, 0), (14, 0, 0, 0, 0, 0), (7, 5, 1, 0, 0, 0), (67, 46, 4, 0, 57, 0), (11, 6, 0, 0, 0, 1), (57, 0, 15, 0, 0, 0), (0, 0, 0, 0, 0, 0), (8, 6, 1, 0, 0, 0), (5, 4, 1, 0, 0, 0), (0, 0, 0, 0, 0, 2), (54, 1, 50, 0, 0, 0), (5, 6, 1, 0, 0, 0), (7, 1, 0, 0, 0, 0), (12, 1, 4, 0, 61, 0), (54, 3, 50, 0, 0, 0), (7, 0, 0, 0, 0, 0), (5, 6, 1, 0, 0, 0), (5, 6, 1, 0, 0, 0), (7, 5, 1, 0, 0, 0), (67, 46, 4, 0, 57, 0), (11, 6, 0, 0, 0, 1), (57, 0, 36, 0, 0, 0), (0, 0, 0, 0, 0, 0), (8, 6, 1, 0, 0, 0), (5, 4, 1, 0, 0, 0), (0, 0, 0, 0, 0, 1), (54, 1, 76, 0, 0, 0), (5, 6, 1, 0, 0, 0), (7, 1, 0, 0, 0, 0), (12, 1, 4, 0, 61, 0), (54, 3, 76, 0, 0, 0), (5, 6, 1, 0, 0, 0), (0, 0, 0, 0, 0, 1), (23, 0, 0, 0, 0, 0), (8, 7, 1, 0, 0, 0), (5, 7, 1, 0, 0, 0), (7, 1, 0, 0, 0, 0), (12, 1, 4, 0, 61, 0), (54, 3, 74, 0, 0, 0), (7, 0, 0, 0, 0, 0), (5, 6, 1, 0, 0, 0), (5, 7, 1, 0, 0, 0), (7, 5, 1, 0, 0, 0), (67, 46, 4, 0, 57, 0), (11, 7, 0, 0, 0, 1), (57, 0, 63, 0, 0, 0), (11, 6, 0, 0, 0, 1), (57, 0, 52, 0, 0, 0), (60, 0, 0, 0, 0, 0)]
def ko_45 : List Nat := [0, 1, 2, 5, 6, 7, 10, 13, 14, 15, 18, 19, 20, 23, 24, 26, 28, 31, 33, 34, 37, 40, 41, 42, 45, 47, 48, 49, 52, 54, 55, 57, 60, 63, 66, 67, 69, 71, 72, 75, 77, 78, 81, 84, 85, 87, 89, 91, 94, 97, 100, 101, 103, 105, 106, 109, 111, 112, 115, 118, 120, 121, 122, 124, 126, 127, 130, 133, 134, 136, 138, 140, 143, 146, 149, 152, 155, 156]
def kc_46 : List RI := [(5, 1, 0, 0, 0, 0), (1, 0, 0, 0, 0, 7), (25, 0, 0, 0, 0, 0), (5, 2, 0, 0, 0, 0), (23, 0, 0, 0, 0, 0), (8, 4, 1, 0, 0, 0), (7, 0, 0, 0, 0, 0), (12, 4, 8, 0, 43, 0), (1, 0, 0, 0, 0, 21), (54, 3, 40, 0, 0, 0), (5, 4, 1, 0, 0, 0), (7, 3, 0, 0, 0, 0), (22, 0, 0, 0, 0, 0), (54, 3, 40, 0, 0, 0), (7, 0, 0, 0, 0, 0), (12, 4, 0, 2, 9, 0), (7, 0, 0, 0, 0, 0), (12, 4, 8, 0, 43, 0), (5, 1, 0, 0, 0, 0), (18, 0, 0, 0, 0, 0), (7, 0, 0, 0, 0, 0), (12, 4, 1, 2, 15, 0), (7, 0, 0, 0, 0, 0), (12, 4, 8, 0, 43, 0), (5, 2, 0, 0, 0, 0), (18, 0, 0, 0, 0, 0), (7, 0, 0, 0, 0, 0), (12, 4, 2, 2, 18, 0), (7, 0, 0, 0, 0, 0), (12, 4, 8, 0, 43, 0), (7, 3, 0, 0, 0, 0), (5, 4, 1, 0, 0, 0), (14, 0, 0, 0, 0, 0), (18, 0, 0, 0, 0, 0), (7, 0, 0, 0, 0, 0), (50, 0, 0, 0, 0, 0), (12, 4, 8, 0, 43, 0), (0, 0, 0, 0, 0, 1), (23, 0, 0, 0, 0, 0), (13, 4, 8, 0, 43, 0), (60, 0, 0, 0, 0, 0)]
def ko_46 : List Nat := [0, 1, 3, 4, 5, 6, 8, 9, 12, 14, 17, 19, 20, 21, 24, 25, 28, 29, 32, 33, 34, 35, 38, 39, 42, 43, 44, 45, 48, 49, 52, 53, 55, 56, 57, 58, 59, 62, 63, 64, 67, 68]
def kc_47 : List RI := [(7, 0, 0, 0, 0, 0), (0, 0, 0, 0, 0, -1), (13, 4, 11, 0, 64, 0), (7, 0, 0, 0, 0, 0), (0, 0, 0, 0, 0, -1), (13, 4, 12, 0, 67, 0), (7, 0, 0, 0, 0, 0), (0, 0, 0, 0, 0, -1), (13, 4, 13, 0, 70, 0), (7, 0, 0, 0, 0, 0), (0, 0, 0, 0, 0, -1), (13, 4, 14, 0, 73, 0), (7, 0, 0, 0, 0, 0), (0, 0, 0, 0, 0, -1), (13, 4, 15, 0, 76, 0), (7, 0, 0, 0, 0, 0), (0, 0, 0, 0, 0, -1), (13, 4, 16, 0, 79, 0), (60, 0, 0, 0, 0, 0)]
def ko_47 : List Nat := [0, 1, 2, 5, 6, 7, 10, 11, 12, 15, 16, 17, 20, 21, 22, 25, 26, 27, 30, 31]
def kc_48 : List RI := [(7, 0, 0, 0, 0, 0), (12, 4, 2, 2, 18, 0), (5, 1, 0, 0, 0, 0), (14, 0, 0, 0, 0, 0), (5, 2, 0, 0, 0, 0), (67, 169, 2, 1, 82, 4), (62, 0, 0, 0, 0, 0)]
def ko_48 : List Nat := [0, 1, 4, 5, 6, 7, 10, 11]
def kc_49 : List RI := [(7, 0, 0, 0, 0, 0), (67, 47, 1, 0, 86, 0), (7, 0, 0, 0, 0, 0), (67, 50, 1, 0, 89, 0), (0, 0, 0, 0, 0, 0), (8, 1, 0, 0, 0, 0), (0, 0, 0, 0, 0, 0), (8, 2, 0, 0, 0, 0), (5, 2, 0, 0, 0, 0), (7, 0, 0, 0, 0, 0), (12, 4, 5, 2, 27, 0), (12, 1, 8, 0, 92, 0), (54, 3, 65, 0, 0, 0), (7, 0, 0, 0, 0, 0), (12, 4, 5, 2, 27, 0), (5, 2, 0, 0, 0, 0), (67, 15, 2, 1, 95, 0), (8, 3, 0, 0, 0, 0), (0, 0, 0, 0, 0, 0), (8, 4, 1, 0, 0, 0), (5, 4, 1, 0, 0, 0), (7, 0, 0, 0, 0, 0), (12, 4, 8, 0, 43, 0), (54, 3, 63, 0, 0, 0), (7, 0, 0, 0, 0, 0), (12, 4, 4, 2, 24, 0), (5, 4, 1, 0, 0, 0), (1, 0, 0, 0, 0, 9), (25, 0, 0, 0, 0, 0), (5, 3, 0, 0, 0, 0), (7, 0, 0, 0, 0, 0), (12, 4, 0, 2, 9, 0), (5, 4, 1, 0, 0, 0), (14, 0, 0, 0, 0, 0), (7, 0, 0, 0, 0, 0), (12, 4, 1, 2, 15, 0), (5, 4, 1, 0, 0, 0), (14, 0, 0, 0, 0, 0), (67, 166, 3, 1, 98, 4), (23, 0, 0, 0, 0, 0), (14, 0, 0, 0, 0, 0), (8, 5, 1, 0, 0, 0), (5, 5, 1, 0, 0, 0), (53, 0, 56, 0, 0, 0), (5, 1, 0, 0, 0, 0), (53, 1, 56, 0, 0, 0), (7, 0, 0, 0, 0, 0), (5, 2, 0, 0, 0, 0), (13, 4, 12, 0, 67, 0), (7, 0, 0, 0, 0, 0), (5, 4, 1, 0, 0, 0), (13, 4, 13, 0, 70, 0), (7, 0, 0, 0, 0, 0), (5, 5, 1, 0, 0, 0), (67, 283, 1, 1, 102, 1), (13, 4, 15, 0, 76, 0), (5, 1, 0, 0, 0, 0), (5, 5, 1, 0, 0, 0), (67, 284, 1, 1, 107, 1), (23, 0, 0, 0, 0, 0), (8, 1, 0, 0, 0, 0), (11, 4, 0, 0, 0, 1), (57, 0, 20, 0, 0, 0), (11, 2, 0, 0, 0, 1), (57, 0, 8, 0, 0, 0), (5, 1, 0, 0, 0, 0), (61, 0, 0, 0, 0, 0)]
def ko_49 : List Nat := [0, 1, 4, 5, 8, 9, 10, 11, 12, 13, 14, 17, 20, 23, 24, 27, 28, 31, 32, 33, 35, 37, 38, 41, 44, 45, 48, 50, 52, 53, 54, 55, 58, 60, 61, 62, 65, 67, 68, 71, 72, 73, 75, 77, 80, 81, 84, 85, 86, 89, 90, 92, 95, 96, 98, 101, 104, 105, 107, 110, 111, 112, 115, 118, 121, 124, 125, 126]
def kc_50 : List RI := [(0, 0, 0, 0, 0, 0), (8, 1, 0, 0, 0, 0), (5, 1, 0, 0, 0, 0), (7, 0, 0, 0, 0, 0), (12, 4, 8, 0, 43, 0), (54, 3, 49, 0, 0, 0), (0, 0, 0, 0, 0, 0), (8, 2, 0, 0, 0, 0), (5, 2, 0, 0, 0, 0), (1, 0, 0, 0, 0, 9), (54, 3, 47, 0, 0, 0), (0, 0, 0, 0, 0, 0), (8, 3, 0, 0, 0, 0), (0, 0, 0, 0, 0, 0), (8, 4, 1, 0, 0, 0), (5, 4, 1, 0, 0, 0), (1, 0, 0, 0, 0, 6), (54, 3, 33, 0, 0, 0), (7, 0, 0, 0, 0, 0), (5, 1, 0, 0, 0, 0), (5, 2, 0, 0, 0, 0), (5, 4, 1, 0, 0, 0), (67, 168, 2, 1, 110, 4), (67, 48, 3, 1, 114, 0), (53, 1, 31, 0, 0, 0), (5, 3, 0, 0, 0, 0), (0, 0, 0, 0, 0, 1), (5, 4, 1, 0, 0, 0), (29, 0, 0, 0, 0, 0), (27, 0, 0, 0, 0, 0), (8, 3, 0, 0, 0, 0), (11, 4, 0, 0, 0, 1), (57, 0, 15, 0, 0, 0), (7, 0, 0, 0, 0, 0), (12, 4, 4, 2, 24, 0), (5, 1, 0, 0, 0, 0), (1, 0, 0, 0, 0, 9), (25, 0, 0, 0, 0, 0), (5, 2, 0, 0, 0, 0), (23, 0, 0, 0, 0, 0), (5, 3, 0, 0, 0, 0), (7, 0, 0, 0, 0, 0), (12, 4, 6, 0, 35, 0), (26, 0, 0, 0, 0, 0), (18, 0, 0, 0, 0, 0), (11, 2, 0, 0, 0, 1), (57, 0, 8, 0, 0, 0), (11, 1, 0, 0, 0, 1), (57, 0, 2, 0, 0, 0), (60, 0, 0, 0, 0, 0)]
def ko_50 : List Nat := [0, 1, 2, 3, 4, 7, 10, 11, 12, 13, 15, 18, 19, 20, 21, 23, 25, 27, 30, 31, 32, 33, 35, 38, 41, 44, 45, 46, 48, 49, 50, 51, 54, 57, 58, 61, 62, 64, 65, 66, 67, 68, 69, 72, 73, 74, 77, 80, 83, 86, 87]
def kc_51 : List RI := [(7, 0, 0, 0, 0, 0), (67, 47, 1, 0, 86, 0), (7, 0, 0, 0, 0, 0), (0, 0, 0, 0, 0, -1), (13, 4, 9, 0, 117, 0), (7, 0, 0, 0, 0, 0), (12, 4, 5, 2, 27, 0), (12, 1, 4, 0, 61, 0), (67, 163, 1, 1, 120, 4), (8, 1, 0, 0, 0, 0), (0, 0, 0, 0, 0, 0), (8, 2, 0, 0, 0, 0), (5, 2, 0, 0, 0, 0), (5, 1, 0, 0, 0, 0), (54, 3, 40, 0, 0, 0), (7, 0, 0, 0, 0, 0), (12, 4, 9, 0, 117, 0), (7, 0, 0, 0, 0, 0), (12, 4, 8, 0, 43, 0), (54, 3, 40, 0, 0, 0), (7, 0, 0, 0, 0, 0), (5, 2, 0, 0, 0, 0), (7, 0, 0, 0, 0, 0), (12, 4, 5, 2, 27, 0), (12, 1, 4, 0, 61, 0), (67, 164, 2, 1, 123, 4), (67, 52, 2, 1, 126, 0), (8, 3, 0, 0, 0, 0), (5, 3, 0, 0, 0, 0), (7, 0, 0, 0, 0, 0), (12, 4, 9, 0, 117, 0), (54, 5, 38, 0, 0, 0), (7, 0, 0, 0, 0, 0), (5, 3, 0, 0, 0, 0), (13, 4, 9, 0, 117, 0), (7, 0, 0, 0, 0, 0), (5, 2, 0, 0, 0, 0), (13, 4, 11, 0, 64, 0), (11, 2, 0, 0, 0, 1), (57, 0, 12, 0, 0, 0), (60, 0, 0, 0, 0, 0)]
def ko_51 : List Nat := [0, 1, 4, 5, 6, 9, 10, 13, 16, 19, 20, 21, 22, 23, 24, 27, 28, 31, 32, 35, 38, 39, 40, 41, 44, 47, 50, 53, 54, 55, 56, 59, 62, 63, 64, 67, 68, 69, 72, 75, 78, 79]
def kc_52 : List RI := [(0, 0, 0, 0, 0, 0), (8, 2, 0, 0, 0, 0), (0, 0, 0, 0, 0, 0), (8, 3, 0, 0, 0, 0), (5, 3, 0, 0, 0, 0), (7, 0, 0, 0, 0, 0), (12, 4, 8, 0, 43, 0), (54, 3, 30, 0, 0, 0), (5, 2, 0, 0, 0, 0), (7, 0, 0, 0, 0, 0), (12, 4, 2, 2, 18, 0), (5, 3, 0, 0, 0, 0), (14, 0, 0, 0, 0, 0), (5, 1, 0, 0, 0, 0), (7, 0, 0, 0, 0, 0), (12, 4, 0, 2, 9, 0), (5, 3, 0, 0, 0, 0), (14, 0, 0, 0, 0, 0), (7, 0, 0, 0, 0, 0), (12, 4, 1, 2, 15, 0), (5, 3, 0, 0, 0, 0), (14, 0, 0, 0, 0, 0), (67, 166, 3, 1, 98, 4), (30, 0, 0, 0, 0, 0), (0, 0, 0, 0, 0, 1), (26, 0, 0, 0, 0, 0), (23, 0, 0, 0, 0, 0), (8, 2, 0, 0, 0, 0), (11, 3, 0, 0, 0, 1), (57, 0, 4, 0, 0, 0), (5, 2, 0, 0, 0, 0), (61, 0, 0, 0, 0, 0)]
def ko_52 : List Nat := [0, 1, 2, 3, 4, 5, 6, 9, 12, 13, 14, 17, 18, 19, 20, 21, 24, 25, 26, 27, 30, 31, 32, 35, 36, 37, 38, 39, 40, 43, 46, 47, 48]
def kc_53 : List RI := [(7, 0, 0, 0, 0, 0), (67, 47, 1, 0, 86, 0), (7, 0, 0, 0, 0, 0), (67, 55, 1, 0, 129, 0), (5, 1, 0, 0, 0, 0), (0, 0, 0, 0, 0, 2), (54, 1, 13, 0, 0, 0), (7, 0, 0, 0, 0, 0), (12, 4, 7, 3, 39, 0), (53, 0, 13, 0, 0, 0), (7, 0, 0, 0, 0, 0), (67, 54, 1, 1, 132, 0), (62, 0, 0, 0, 0, 0), (0, 0, 0, 0, 0, 0), (8, 2, 0, 0, 0, 0), (5, 2, 0, 0, 0, 0), (7, 0, 0, 0, 0, 0), (12, 4, 8, 0, 43, 0), (54, 3, 49, 0, 0, 0), (7, 0, 0, 0, 0, 0), (7, 0, 0, 0, 0, 0), (5, 2, 0, 0, 0, 0), (5, 2, 0, 0, 0, 0), (67, 56, 3, 1, 136, 0), (13, 4, 12, 0, 67, 0), (7, 0, 0, 0, 0, 0), (12, 4, 12, 0, 67, 0), (0, 0, 0, 0, 0, -1), (54, 0, 47, 0, 0, 0), (7, 0, 0, 0, 0, 0), (5, 1, 0, 0, 0, 0), (0, 0, 0, 0, 0, 2), (54, 1, 35, 0, 0, 0), (0, 0, 0, 0, 0, 0), (57, 0, 36, 0, 0, 0), (5, 2, 0, 0, 0, 0), (13, 4, 13, 0, 70, 0), (7, 0, 0, 0, 0, 0), (5, 1, 0, 0, 0, 0), (0, 0, 0, 0, 0, 2), (54, 1, 43, 0, 0, 0), (5, 2, 0, 0, 0, 0), (57, 0, 44, 0, 0, 0), (0, 0, 0, 0, 0, -1), (13, 4, 14, 0, 73, 0), (0, 0, 0, 0, 0, 1), (62, 0, 0, 0, 0, 0), (11, 2, 0, 0, 0, 1), (57, 0, 15, 0, 0, 0), (0, 0, 0, 0, 0, 0), (62, 0, 0, 0, 0, 0)]
def ko_53 : List Nat := [0, 1, 4, 5, 8, 9, 10, 13, 14, 17, 20, 21, 24, 25, 26, 27, 28, 29, 32, 35, 36, 37, 38, 39, 42, 45, 46, 49, 50, 53, 54, 55, 56, 59, 60, 63, 64, 67, 68, 69, 70, 73, 74, 77, 78, 81, 82, 83, 86, 89, 90, 91]
def kc_54 : List RI := [(0, 0, 0, 0, 0, 0), (8, 1, 0, 0, 0, 0), (5, 1, 0, 0, 0, 0), (7, 0, 0, 0, 0, 0), (12, 4, 8, 0, 43, 0), (54, 3, 34, 0, 0, 0), (0, 0, 0, 0, 0, 0), (8, 2, 0, 0, 0, 0), (5, 2, 0, 0, 0, 0), (7, 0, 0, 0, 0, 0), (12, 4, 8, 0, 43, 0), (54, 3, 32, 0, 0, 0), (7, 0, 0, 0, 0, 0), (7, 0, 0, 0, 0, 0), (5, 1, 0, 0, 0, 0), (5, 2, 0, 0, 0, 0), (67, 56, 3, 1, 136, 0), (13, 4, 12, 0, 67, 0), (7, 0, 0, 0, 0, 0), (12, 4, 12, 0, 67, 0), (0, 0, 0, 0, 0, -1), (54, 0, 30, 0, 0, 0), (7, 0, 0, 0, 0, 0), (5, 1, 0, 0, 0, 0), (13, 4, 13, 0, 70, 0), (7, 0, 0, 0, 0, 0), (5, 2, 0, 0, 0, 0), (13, 4, 14, 0, 73, 0), (0, 0, 0, 0, 0, 1), (62, 0, 0, 0, 0, 0), (11, 2, 0, 0, 0, 1), (57, 0, 8, 0, 0, 0), (11, 1, 0, 0, 0, 1), (57, 0, 2, 0, 0, 0), (0, 0, 0, 0, 0, 0), (62, 0, 0, 0, 0, 0)]
def ko_54 : List Nat := [0, 1, 2, 3, 4, 7, 10, 11, 12, 13, 14, 17, 20, 21, 22, 23, 24, 27, 30, 31, 34, 35, 38, 39, 40, 43, 44, 45, 48, 49, 50, 53, 56, 59, 62, 63, 64]
def kc_55 : List RI := [(0, 0, 0, 0, 0, 0), (8, 1, 0, 0, 0, 0), (5, 1, 0, 0, 0, 0), (7, 0, 0, 0, 0, 0), (12, 4, 3, 2, 21, 0), (22, 0, 0, 0, 0, 0), (54, 3, 52, 0, 0, 0), (7, 0, 0, 0, 0, 0), (12, 4, 3, 2, 21, 0), (5, 1, 0, 0, 0, 0), (7, 0, 0, 0, 0, 0), (12, 4, 3, 2, 21, 0), (22, 0, 0, 0, 0, 0), (18, 0, 0, 0, 0, 0), (0, 0, 0, 0, 0, 0), (8, 2, 0, 0, 0, 0), (5, 2, 0, 0, 0, 0), (1, 0, 0, 0, 0, 6), (54, 3, 50, 0, 0, 0), (7, 0, 0, 0, 0, 0), (12, 4, 6, 0, 35, 0), (5, 2, 0, 0, 0, 0), (67, 169, 2, 1, 82, 4), (53, 0, 48, 0, 0, 0), (5, 1, 0, 0, 0, 0), (1, 0, 0, 0, 0, 9), (32, 0, 0, 0, 0, 0), (5, 2, 0, 0, 0, 0), (67, 168, 2, 1, 110, 4), (1, 0, 0, 0, 0, 9), (25, 0, 0, 0, 0, 0), (5, 1, 0, 0, 0, 0), (1, 0, 0, 0, 0, 9), (33, 0, 0, 0, 0, 0), (5, 2, 0, 0, 0, 0), (67, 168, 2, 1, 110, 4), (23, 0, 0, 0, 0, 0), (8, 3, 0, 0, 0, 0), (7, 0, 0, 0, 0, 0), (12, 4, 3, 2, 21, 0), (5, 1, 0, 0, 0, 0), (7, 0, 0, 0, 0, 0), (12, 4, 3, 2, 21, 0), (5, 1, 0, 0, 0, 0), (14, 0, 0, 0, 0, 0), (5, 3, 0, 0, 0, 0), (67, 288, 2, 1, 139, 1), (18, 0, 0, 0, 0, 0), (11, 2, 0, 0, 0, 1), (57, 0, 16, 0, 0, 0), (11, 1, 0, 0, 0, 1), (57, 0, 2, 0, 0, 0), (60, 0, 0, 0, 0, 0)]
def ko_55 : List Nat := [0, 1, 2, 3, 4, 7, 8, 11, 12, 15, 16, 17, 20, 21, 22, 23, 24, 25, 27, 30, 31, 34, 35, 38, 41, 42, 44, 45, 46, 49, 51, 52, 53, 55, 56, 57, 60, 61, 62, 63, 66, 67, 68, 71, 72, 73, 74, 77, 78, 81, 84, 87, 90, 91]
def kc_56 : List RI := [(0, 0, 0, 0, 0, -1), (8, 3, 0, 0, 0, 0), (0, 0, 0, 0, 0, 0), (8, 4, 1, 0, 0, 0), (5, 4, 1, 0, 0, 0), (7, 0, 0, 0, 0, 0), (12, 4, 5, 2, 27, 0), (12, 1, 8, 0, 92, 0), (54, 3, 55, 0, 0, 0), (7, 0, 0, 0, 0, 0), (12, 4, 5, 2, 27, 0), (5, 4, 1, 0, 0, 0), (67, 15, 2, 1, 95, 0), (8, 5, 1, 0, 0, 0), (5, 5, 1, 0, 0, 0), (7, 0, 0, 0, 0, 0), (12, 4, 0, 2, 9, 0), (5, 1, 0, 0, 0, 0), (14, 0, 0, 0, 0, 0), (7, 0, 0, 0, 0, 0), (12, 4, 1, 2, 15, 0), (5, 1, 0, 0, 0, 0), (14, 0, 0, 0, 0, 0), (67, 166, 3, 1, 98, 4), (8, 6, 1, 0, 0, 0), (7, 0, 0, 0, 0, 0), (12, 4, 3, 2, 21, 0), (5, 6, 1, 0, 0, 0), (1, 0, 0, 0, 0, 9), (25, 0, 0, 0, 0, 0), (5, 5, 1, 0, 0, 0), (7, 0, 0, 0, 0, 0), (12, 4, 0, 2, 9, 0), (5, 2, 0, 0, 0, 0), (14, 0, 0, 0, 0, 0), (7, 0, 0, 0, 0, 0), (12, 4, 1, 2, 15, 0), (5, 2, 0, 0, 0, 0), (14, 0, 0, 0, 0, 0), (67, 166, 3, 1, 98, 4), (23, 0, 0, 0, 0, 0), (14, 0, 0, 0, 0, 0), (8, 7, 1, 0, 0, 0), (5, 4, 1, 0, 0, 0), (53, 1, 48, 0, 0, 0), (5, 7, 1, 0, 0, 0), (8, 3, 0, 0, 0, 0), (57, 0, 53, 0, 0, 0), (5, 7, 1, 0, 0, 0), (5, 3, 0, 0, 0, 0), (54, 0, 53, 0, 0, 0), (5, 4, 1, 0, 0, 0), (61, 0, 0, 0, 0, 0), (11, 4, 0, 0, 0, 1), (57, 0, 4, 0, 0, 0), (0, 0, 0, 0, 0, -1), (61, 0, 0, 0, 0, 0)]
def ko_56 : List Nat := [0, 1, 2, 3, 5, 7, 8, 11, 14, 17, 18, 21, 23, 26, 28, 30, 31, 34, 35, 36, 37, 40, 41, 42, 45, 47, 48, 51, 53, 55, 56, 58, 59, 62, 63, 64, 65, 68, 69, 70, 73, 74, 75, 77, 79, 82, 84, 85, 88, 90, 91, 94, 96, 97, 100, 103, 104, 105]
def kc_57 : List RI := [(7, 1, 0, 0, 0, 0), (5, 2, 0, 0, 0, 0), (7, 0, 0, 0, 0, 0), (12, 4, 5, 2, 27, 0), (12, 1, 4, 0, 61, 0), (7, 0, 0, 0, 0, 0), (12, 4, 6, 0, 35, 0), (7, 0, 0, 0, 0, 0), (12, 4, 7, 3, 39, 0), (67, 110, 5, 2, 144, 0), (63, 0, 0, 0, 0, 0)]
def ko_57 : List Nat := [0, 1, 2, 3, 6, 9, 10, 13, 14, 17, 20, 21]
def kc_58 : List RI := [(7, 0, 0, 0, 0, 0), (67, 47, 1, 0, 86, 0), (7, 0, 0, 0, 0, 0), (0, 0, 0, 0, 0, 1), (13, 4, 10, 3, 150, 0), (0, 0, 0, 0, 0, 0), (8, 2, 0, 0, 0, 0), (0, 0, 0, 0, 0, 0), (8, 3, 0, 0, 0, 0), (5, 3, 0, 0, 0, 0), (7, 0, 0, 0, 0, 0), (12, 4, 5, 2, 27, 0), (12, 1, 8, 0, 92, 0), (54, 3, 52, 0, 0, 0), (7, 0, 0, 0, 0, 0), (7, 1, 0, 0, 0, 0), (7, 0, 0, 0, 0, 0), (12, 4, 5, 2, 27, 0), (5, 3, 0, 0, 0, 0), (67, 15, 2, 1, 95, 0), (67, 57, 3, 2, 153, 0), (47, 0, 0, 0, 0, 0), (45, 0, 0, 0, 0, 0), (53, 5, 50, 0, 0, 0), (5, 2, 0, 0, 0, 0), (53, 1, 29, 0, 0, 0), (7, 0, 0, 0, 0, 0), (5, 3, 0, 0, 0, 0), (13, 4, 12, 0, 67, 0), (7, 0, 0, 0, 0, 0), (7, 0, 0, 0, 0, 0), (12, 4, 10, 3, 150, 0), (53, 0, 47, 0, 0, 0), (7, 0, 0, 0, 0, 0), (7, 0, 0, 0, 0, 0), (12, 4, 5, 2, 27, 0), (5, 3, 0, 0, 0, 0), (67, 14, 2, 1, 157, 0), (7, 0, 0, 0, 0, 0), (12, 4, 5, 2, 27, 0), (7, 0, 0, 0, 0, 0), (12, 4, 12, 0, 67, 0), (67, 14, 2, 1, 157, 0), (67, 59, 3, 1, 160, 0), (53, 0, 47, 0, 0, 0), (0, 0, 0, 0, 0, 1), (57, 0, 48, 0, 0, 0), (0, 0, 0, 0, 0, 0), (13, 4, 10, 3, 150, 0), (11, 2, 0, 0, 0, 1), (11, 3, 0, 0, 0, 1), (57, 0, 9, 0, 0, 0), (5, 2, 0, 0, 0, 0), (61, 0, 0, 0, 0, 0)]
def ko_58 : List Nat := [0, 1, 4, 5, 6, 9, 10, 11, 12, 13, 14, 15, 18, 21, 24, 25, 26, 27, 30, 31, 34, 37, 38, 39, 42, 43, 46, 47, 48, 51, 52, 53, 56, 59, 60, 61, 64, 65, 68, 69, 72, 73, 76, 79, 82, 85, 86, 89, 90, 93, 96, 99, 102, 103, 104]
def kc_59 : List RI := [(0, 0, 0, 0, 0, 0), (8, 3, 0, 0, 0, 0), (5, 3, 0, 0, 0, 0), (1, 0, 0, 0, 0, 6), (54, 3, 17, 0, 0, 0), (5, 2, 0, 0, 0, 0), (7, 0, 0, 0, 0, 0), (12, 4, 5, 2, 27, 0), (12, 1, 4, 0, 61, 0), (5, 3, 0, 0, 0, 0), (67, 167, 3, 1, 163, 4), (5, 1, 0, 0, 0, 0), (54, 1, 15, 0, 0, 0), (0, 0, 0, 0, 0, 1), (62, 0, 0, 0, 0, 0), (11, 3, 0, 0, 0, 1), (57, 0, 2, 0, 0, 0), (0, 0, 0, 0, 0, 0), (62, 0, 0, 0, 0, 0)]
def ko_59 : List Nat := [0, 1, 2, 3, 5, 8, 9, 10, 13, 16, 17, 20, 21, 24, 25, 26, 29, 32, 33, 34]
def kc_60 : List RI := [(7, 0, 0, 0, 0, 0), (67, 47, 1, 0, 86, 0), (7, 0, 0, 0, 0, 0), (12, 4, 5, 2, 27, 0), (12, 1, 4, 0, 61, 0), (67, 163, 1, 1, 120, 4), (8, 3, 0, 0, 0, 0), (0, 0, 0, 0, 0, 0), (8, 4, 1, 0, 0, 0), (5, 4, 1, 0, 0, 0), (5, 3, 0, 0, 0, 0), (54, 3, 38, 0, 0, 0), (7, 0, 0, 0, 0, 0), (12, 4, 11, 0, 64, 0), (0, 0, 0, 0, 0, -1), (54, 1, 38, 0, 0, 0), (5, 4, 1, 0, 0, 0), (7, 0, 0, 0, 0, 0), (12, 4, 5, 2, 27, 0), (12, 1, 4, 0, 61, 0), (67, 164, 2, 1, 123, 4), (8, 5, 1, 0, 0, 0), (7, 0, 0, 0, 0, 0), (12, 4, 5, 2, 27, 0), (5, 5, 1, 0, 0, 0), (67, 12, 2, 1, 166, 0), (53, 1, 36, 0, 0, 0), (7, 0, 0, 0, 0, 0), (5, 5, 1, 0, 0, 0), (5, 1, 0, 0, 0, 0), (5, 2, 0, 0, 0, 0), (67, 61, 4, 1, 170, 0), (53, 0, 36, 0, 0, 0), (7, 0, 0, 0, 0, 0), (5, 4, 1, 0, 0, 0), (13, 4, 11, 0, 64, 0), (11, 4, 0, 0, 0, 1), (57, 0, 9, 0, 0, 0), (60, 0, 0, 0, 0, 0)]
def ko_60 : List Nat := [0, 1, 4, 5, 8, 11, 14, 15, 16, 18, 20, 21, 24, 25, 28, 29, 32, 34, 35, 38, 41, 44, 46, 47, 50, 52, 55, 58, 59, 61, 62, 63, 66, 69, 70, 72, 75, 78, 81, 82]
def kc_61 : List RI := [(7, 0, 0, 0, 0, 0), (12, 4, 8, 0, 43, 0), (53, 1, 5, 0, 0, 0), (0, 0, 0, 0, 0, 0), (62, 0, 0, 0, 0, 0), (0, 0, 0, 0, 0, 0), (8, 4, 1, 0, 0, 0), (0, 0, 0, 0, 0, 0), (8, 5, 1, 0, 0, 0), (5, 5, 1, 0, 0, 0), (7, 0, 0, 0, 0, 0), (12, 4, 5, 2, 27, 0), (12, 1, 4, 0, 61, 0), (54, 3, 28, 0, 0, 0), (5, 4, 1, 0, 0, 0), (5, 5, 1, 0, 0, 0), (0, 0, 0, 0, 0, 1), (23, 0, 0, 0, 0, 0), (5, 1, 0, 0, 0, 0), (5, 5, 1, 0, 0, 0), (67, 165, 2, 1, 174, 4), (25, 0, 0, 0, 0, 0), (5, 2, 0, 0, 0, 0), (25, 0, 0, 0, 0, 0), (23, 0, 0, 0, 0, 0), (8, 4, 1, 0, 0, 0), (11, 5, 0, 0, 0, 1), (57, 0, 9, 0, 0, 0), (5, 3, 0, 0, 0, 0), (7, 0, 0, 0, 0, 0), (12, 4, 8, 0, 43, 0), (67, 288, 2, 1, 139, 1), (8, 5, 1, 0, 0, 0), (0, 0, 0, 0, 0, 0), (8, 6, 1, 0, 0, 0), (5, 6, 1, 0, 0, 0), (5, 5, 1, 0, 0, 0), (54, 3, 69, 0, 0, 0), (5, 4, 1, 0, 0, 0), (5, 6, 1, 0, 0, 0), (23, 0, 0, 0, 0, 0), (7, 0, 0, 0, 0, 0), (12, 4, 8, 0, 43, 0), (33, 0, 0, 0, 0, 0), (8, 7, 1, 0, 0, 0), (7, 0, 0, 0, 0, 0), (5, 7, 1, 0, 0, 0), (5, 1, 0, 0, 0, 0), (7, 0, 0, 0, 0, 0), (12, 4, 0, 2, 9, 0), (5, 7, 1, 0, 0, 0), (14, 0, 0, 0, 0, 0), (7, 0, 0, 0, 0, 0), (12, 4, 1, 2, 15, 0), (5, 7, 1, 0, 0, 0), (14, 0, 0, 0, 0, 0), (67, 166, 3, 1, 98, 4), (67, 48, 3, 1, 114, 0), (53, 0, 67, 0, 0, 0), (7, 0, 0, 0, 0, 0), (5, 6, 1, 0, 0, 0), (13, 4, 16, 0, 79, 0), (7, 0, 0, 0, 0, 0), (5, 7, 1, 0, 0, 0), (13, 4, 13, 0, 70, 0), (0, 0, 0, 0, 0, 1), (62, 0, 0, 0, 0, 0), (11, 6, 0, 0, 0, 1), (57, 0, 35, 0, 0, 0), (0, 0, 0, 0, 0, 0), (62, 0, 0, 0, 0, 0)]
def ko_61 : List Nat := [0, 1, 4, 7, 8, 9, 10, 12, 13, 15, 17, 18, 21, 24, 27, 29, 31, 32, 33, 34, 36, 39, 40, 41, 42, 43, 45, 48, 51, 52, 53, 56, 59, 61, 62, 64, 66, 68, 71, 73, 75, 76, 77, 80, 81, 83, 84, 86, 87, 88, 91, 93, 94, 95, 98, 100, 101, 104, 107, 110, 111, 113, 116, 117, 119, 122, 123, 124, 127, 130, 131, 132]
def kc_62 : List RI := [(7, 0, 0, 0, 0, 0), (75, 0, 0, 0, 1, 0), (7, 0, 0, 0, 0, 0), (1, 0, 0, 0, 0, 120), (69, 100, 0, 0, 0, 0), (13, 5, 0, 2, 9, 1), (60, 0, 0, 0, 0, 0)]
def ko_62 : List Nat := [0, 1, 4, 5, 7, 9, 12, 13]
def kc_63 : List RI := [(7, 0, 0, 0, 0, 0), (0, 0, 0, 0, 0, 0), (13, 5, 1, 0, 13, 0), (5, 1, 0, 0, 0, 0), (8, 2, 0, 0, 0, 0), (5, 2, 0, 0, 0, 0), (53, 5, 30, 0, 0, 0), (7, 0, 0, 0, 0, 0), (12, 5, 1, 0, 13, 0), (1, 0, 0, 0, 0, 120), (54, 3, 30, 0, 0, 0), (7, 0, 0, 0, 0, 0), (12, 5, 0, 2, 9, 0), (7, 0, 0, 0, 0, 0), (12, 5, 1, 0, 13, 0), (5, 2, 0, 0, 0, 0), (3, 0, 0, 0, 17, 1000000), (33, 0, 0, 0, 0, 0), (18, 0, 0, 0, 0, 0), (5, 2, 0, 0, 0, 0), (3, 0, 0, 0, 17, 1000000), (32, 0, 0, 0, 0, 0), (8, 2, 0, 0, 0, 0), (7, 0, 0, 0, 0, 0), (50, 0, 0, 0, 0, 0), (12, 5, 1, 0, 13, 0), (0, 0, 0, 0, 0, 1), (23, 0, 0, 0, 0, 0), (13, 5, 1, 0, 13, 0), (57, 0, 5, 0, 0, 0), (60, 0, 0, 0, 0, 0)]
def ko_63 : List Nat := [0, 1, 2, 5, 6, 7, 8, 11, 12, 15, 17, 20, 21, 24, 25, 28, 29, 31, 32, 33, 34, 36, 37, 38, 39, 40, 43, 44, 45, 48, 51, 52]
def kc_64 : List RI := [(0, 0, 0, 0, 0, 0), (8, 2, 0, 0, 0, 0), (0, 0, 0, 0, 0, 0), (8, 3, 0, 0, 0, 0), (5, 3, 0, 0, 0, 0), (7, 0, 0, 0, 0, 0), (12, 5, 1, 0, 13, 0), (54, 3, 30, 0, 0, 0), (7, 0, 0, 0, 0, 0), (12, 5, 0, 2, 9, 0), (5, 3, 0, 0, 0, 0), (14, 0, 0, 0, 0, 0), (5, 1, 0, 0, 0, 0), (25, 0, 0, 0, 0, 0), (5, 2, 0, 0, 0, 0), (23, 0, 0, 0, 0, 0), (8, 4, 1, 0, 0, 0), (7, 0, 0, 0, 0, 0), (12, 5, 0, 2, 9, 0), (5, 3, 0, 0, 0, 0), (5, 4, 1, 0, 0, 0), (3, 0, 0, 0, 17, 1000000), (33, 0, 0, 0, 0, 0), (18, 0, 0, 0, 0, 0), (5, 4, 1, 0, 0, 0), (3, 0, 0, 0, 17, 1000000), (32, 0, 0, 0, 0, 0), (8, 2, 0, 0, 0, 0), (11, 3, 0, 0, 0, 1), (57, 0, 4, 0, 0, 0), (5, 2, 0, 0, 0, 0), (53, 5, 48, 0, 0, 0), (7, 0, 0, 0, 0, 0), (12, 5, 1, 0, 13, 0), (1, 0, 0, 0, 0, 120), (54, 3, 48, 0, 0, 0), (7, 0, 0, 0, 0, 0), (12, 5, 0, 2, 9, 0), (7, 0, 0, 0, 0, 0), (12, 5, 1, 0, 13, 0), (5, 2, 0, 0, 0, 0), (18, 0, 0, 0, 0, 0), (7, 0, 0, 0, 0, 0), (50, 0, 0, 0, 0, 0), (12, 5, 1, 0, 13, 0), (0, 0, 0, 0, 0, 1), (23, 0, 0, 0, 0, 0), (13, 5, 1, 0, 13, 0), (7, 0, 0, 0, 0, 0), (12, 5, 1, 0, 13, 0), (53, 5, 66, 0, 0, 0), (7, 0, 0, 0, 0, 0), (12, 5, 0, 2, 9, 0), (7, 0, 0, 0, 0, 0), (12, 5, 1, 0, 13, 0), (0, 0, 0, 0, 0, 1), (24, 0, 0, 0, 0, 0), (14, 0, 0, 0, 0, 0), (53, 1, 66, 0, 0, 0), (7, 0, 0, 0, 0, 0), (50, 0, 0, 0, 0, 0), (12, 5, 1, 0, 13, 0), (0, 0, 0, 0, 0, 1), (24, 0, 0, 0, 0, 0), (13, 5, 1, 0, 13, 0), (57, 0, 48, 0, 0, 0), (60, 0, 0, 0, 0, 0)]
def ko_64 : List Nat := [0, 1, 2, 3, 4, 5, 6, 9, 12, 13, 16, 17, 18, 19, 20, 21, 22, 24, 25, 28, 29, 31, 33, 34, 35, 37, 39, 40, 41, 44, 47, 48, 51, 52, 55, 57, 60, 61, 64, 65, 68, 69, 70, 71, 72, 75, 76, 77, 80, 81, 84, 87, 88, 91, 92, 95, 96, 97, 98, 101, 102, 103, 106, 107, 108, 111, 114, 115]
def kc_65 : List RI := [(7, 0, 0, 0, 0, 0), (12, 5, 1, 0, 13, 0), (7, 1, 0, 0, 0, 0), (12, 5, 1, 0, 13, 0), (54, 0, 14, 0, 0, 0), (7, 0, 0, 0, 0, 0), (12, 5, 1, 0, 13, 0), (7, 1, 0, 0, 0, 0), (12, 5, 1, 0, 13, 0), (54, 5, 12, 0, 0, 0), (0, 0, 0, 0, 0, 1), (57, 0, 13, 0, 0, 0), (0, 0, 0, 0, 0, 0), (62, 0, 0, 0, 0, 0), (7, 0, 0, 0, 0, 0), (12, 5, 1, 0, 13, 0), (0, 0, 0, 0, 0, 1), (24, 0, 0, 0, 0, 0), (8, 2, 0, 0, 0, 0), (5, 2, 0, 0, 0, 0), (53, 2, 45, 0, 0, 0), (7, 0, 0, 0, 0, 0), (12, 5, 0, 2, 9, 0), (5, 2, 0, 0, 0, 0), (14, 0, 0, 0, 0, 0), (7, 1, 0, 0, 0, 0), (12, 5, 0, 2, 9, 0), (5, 2, 0, 0, 0, 0), (14, 0, 0, 0, 0, 0), (54, 0, 43, 0, 0, 0), (7, 0, 0, 0, 0, 0), (12, 5, 0, 2, 9, 0), (5, 2, 0, 0, 0, 0), (14, 0, 0, 0, 0, 0), (7, 1, 0, 0, 0, 0), (12, 5, 0, 2, 9, 0), (5, 2, 0, 0, 0, 0), (14, 0, 0, 0, 0, 0), (54, 5, 41, 0, 0, 0), (0, 0, 0, 0, 0, 1), (57, 0, 42, 0, 0, 0), (0, 0, 0, 0, 0, 0), (62, 0, 0, 0, 0, 0), (11, 2, 0, 0, 0, -1), (57, 0, 19, 0, 0, 0), (0, 0, 0, 0, 0, 0), (62, 0, 0, 0, 0, 0)]
def ko_65 : List Nat := [0, 1, 4, 5, 8, 11, 12, 15, 16, 19, 22, 23, 26, 27, 28, 29, 32, 33, 34, 35, 36, 39, 40, 43, 44, 45, 46, 49, 50, 51, 54, 55, 58, 59, 60, 61, 64, 65, 66, 69, 70, 73, 74, 75, 78, 81, 82, 83]
def kc_66 : List RI := [(7, 0, 0, 0, 0, 0), (75, 0, 0, 0, 3, 0), (7, 0, 0, 0, 0, 0), (2, 0, 0, 0, 0, 300), (69, 100, 0, 0, 0, 0), (13, 6, 0, 2, 9, 1), (7, 0, 0, 0, 0, 0), (2, 0, 0, 0, 0, 301), (69, 100, 0, 0, 0, 0), (13, 6, 1, 2, 15, 1), (7, 0, 0, 0, 0, 0), (2, 0, 0, 0, 0, 301), (69, 100, 0, 0, 0, 0), (13, 6, 2, 2, 18, 1), (7, 0, 0, 0, 0, 0), (2, 0, 0, 0, 0, 301), (69, 100, 0, 0, 0, 0), (13, 6, 3, 2, 21, 1), (7, 0, 0, 0, 0, 0), (68, 2, 8, 0, 24, 0), (50, 0, 0, 0, 0, 0), (67, 23, 1, 0, 26, 5), (13, 6, 4, 2, 27, 1), (7, 0, 0, 0, 0, 0), (0, 0, 0, 0, 0, -1), (13, 6, 6, 0, 31, 0), (7, 0, 0, 0, 0, 0), (0, 0, 0, 0, 0, -1), (13, 6, 7, 0, 35, 0), (60, 0, 0, 0, 0, 0)]
def ko_66 : List Nat := [0, 1, 4, 5, 8, 10, 13, 14, 17, 19, 22, 23, 26, 28, 31, 32, 35, 37, 40, 41, 44, 45, 48, 51, 52, 53, 56, 57, 58, 61, 62]
def kc_67 : List RI := [(1, 0, 0, 0, 0, 24), (8, 2, 0, 0, 0, 0), (5, 2, 0, 0, 0, 0), (53, 2, 26, 0, 0, 0), (7, 0, 0, 0, 0, 0), (12, 6, 5, 0, 38, 0), (2, 0, 0, 0, 0, 300), (54, 3, 24, 0, 0, 0), (7, 0, 0, 0, 0, 0), (12, 6, 0, 2, 9, 0), (7, 0, 0, 0, 0, 0), (12, 6, 5, 0, 38, 0), (5, 1, 0, 0, 0, 0), (5, 2, 0, 0, 0, 0), (30, 0, 0, 0, 0, 0), (2, 0, 0, 0, 0, 255), (26, 0, 0, 0, 0, 0), (18, 0, 0, 0, 0, 0), (7, 0, 0, 0, 0, 0), (50, 0, 0, 0, 0, 0), (12, 6, 5, 0, 38, 0), (0, 0, 0, 0, 0, 1), (23, 0, 0, 0, 0, 0), (13, 6, 5, 0, 38, 0), (11, 2, 0, 0, 0, -8), (57, 0, 2, 0, 0, 0), (60, 0, 0, 0, 0, 0)]
def ko_67 : List Nat := [0, 2, 3, 4, 7, 8, 11, 14, 17, 18, 21, 22, 25, 26, 27, 28, 31, 32, 33, 34, 35, 38, 39, 40, 43, 46, 49, 50]
def kc_68 : List RI := [(7, 1, 0, 0, 0, 0), (7, 0, 0, 0, 0, 0), (12, 6, 11, 0, 41, 0), (13, 8, 1, 0, 44, 0), (7, 1, 0, 0, 0, 0), (7, 0, 0, 0, 0, 0), (12, 6, 13, 3, 47, 0), (13, 8, 3, 3, 51, 0), (7, 1, 0, 0, 0, 0), (7, 0, 0, 0, 0, 0), (12, 6, 12, 0, 52, 0), (13, 8, 2, 0, 55, 0), (7, 0, 0, 0, 0, 0), (12, 6, 4, 2, 27, 0), (7, 1, 0, 0, 0, 0), (12, 8, 0, 2, 56, 0), (67, 27, 2, 0, 59, 0), (60, 0, 0, 0, 0, 0)]
def ko_68 : List Nat := [0, 1, 2, 5, 8, 9, 10, 13, 16, 17, 18, 21, 24, 25, 28, 29, 32, 35, 36]
def kc_69 : List RI := [(7, 0, 0, 0, 0, 0), (0, 0, 0, 0, 0, 0), (13, 6, 6, 0, 31, 0), (7, 0, 0, 0, 0, 0), (0, 0, 0, 0, 0, -1), (13, 6, 7, 0, 35, 0), (7, 0, 0, 0, 0, 0), (0, 0, 0, 0, 0, 0), (13, 6, 10, 0, 63, 0), (7, 0, 0, 0, 0, 0), (0, 0, 0, 0, 0, 1), (13, 6, 11, 0, 41, 0), (7, 0, 0, 0, 0, 0), (0, 0, 0, 0, 0, 0), (13, 6, 13, 3, 47, 0), (7, 0, 0, 0, 0, 0), (0, 0, 0, 0, 0, 0), (13, 6, 12, 0, 52, 0), (7, 0, 0, 0, 0, 0), (12, 6, 4, 2, 27, 0), (67, 25, 1, 0, 66, 0), (7, 0, 0, 0, 0, 0), (67, 82, 1, 0, 69, 0), (0, 0, 0, 0, 0, 0), (8, 1, 0, 0, 0, 0), (5, 1, 0, 0, 0, 0), (2, 0, 0, 0, 0, 300), (54, 3, 41, 0, 0, 0), (7, 0, 0, 0, 0, 0), (12, 6, 1, 2, 15, 0), (7, 0, 0, 0, 0, 0), (12, 6, 9, 0, 72, 0), (14, 0, 0, 0, 0, 0), (53, 0, 41, 0, 0, 0), (7, 0, 0, 0, 0, 0), (67, 72, 1, 1, 75, 0), (53, 1, 39, 0, 0, 0), (0, 0, 0, 0, 0, 0), (62, 0, 0, 0, 0, 0), (11, 1, 0, 0, 0, 1), (57, 0, 25, 0, 0, 0), (0, 0, 0, 0, 0, 1), (62, 0, 0, 0, 0, 0)]
def ko_69 : List Nat := [0, 1, 2, 5, 6, 7, 10, 11, 12, 15, 16, 17, 20, 21, 22, 25, 26, 27, 30, 31, 34, 37, 38, 41, 42, 43, 44, 47, 50, 51, 54, 55, 58, 59, 62, 63, 66, 69, 70, 71, 74, 77, 78, 79]
def kc_70 : List RI := [(7, 0, 0, 0, 0, 0), (5, 1, 0, 0, 0, 0), (13, 6, 6, 0, 31, 0), (7, 0, 0, 0, 0, 0), (7, 0, 0, 0, 0, 0), (12, 6, 2, 2, 18, 0), (7, 0, 0, 0, 0, 0), (12, 6, 9, 0, 72, 0), (14, 0, 0, 0, 0, 0), (13, 6, 7, 0, 35, 0), (0, 0, 0, 0, 0, 0), (62, 0, 0, 0, 0, 0)]
def ko_70 : List Nat := [0, 1, 2, 5, 6, 7, 10, 11, 14, 15, 18, 19, 20]
def kc_71 : List RI := [(7, 0, 0, 0, 0, 0), (12, 6, 9, 0, 72, 0), (7, 0, 0, 0, 0, 0), (12, 6, 8, 0, 79, 0), (54, 3, 11, 0, 0, 0), (7, 0, 0, 0, 0, 0), (50, 0, 0, 0, 0, 0), (12, 6, 9, 0, 72, 0), (0, 0, 0, 0, 0, 1), (23, 0, 0, 0, 0, 0), (13, 6, 9, 0, 72, 0), (60, 0, 0, 0, 0, 0)]
def ko_71 : List Nat := [0, 1, 4, 5, 8, 11, 12, 13, 16, 17, 18, 21, 22]
def kc_72 : List RI := [(7, 0, 0, 0, 0, 0), (12, 6, 1, 2, 15, 0), (7, 0, 0, 0, 0, 0), (12, 6, 9, 0, 72, 0), (14, 0, 0, 0, 0, 0), (8, 1, 0, 0, 0, 0), (5, 1, 0, 0, 0, 0), (1, 0, 0, 0, 0, 10), (54, 2, 12, 0, 0, 0), (5, 1, 0, 0, 0, 0), (1, 0, 0, 0, 0, 13), (54, 5, 16, 0, 0, 0), (7, 0, 0, 0, 0, 0), (0, 0, 0, 0, 0, 1), (67, 70, 2, 1, 82, 0), (62, 0, 0, 0, 0, 0), (7, 0, 0, 0, 0, 0), (12, 6, 10, 0, 63, 0), (5, 1, 0, 0, 0, 0), (67, 169, 2, 1, 86, 4), (53, 0, 25, 0, 0, 0), (7, 0, 0, 0, 0, 0), (0, 0, 0, 0, 0, 4), (67, 70, 2, 1, 82, 0), (62, 0, 0, 0, 0, 0), (7, 0, 0, 0, 0, 0), (50, 0, 0, 0, 0, 0), (12, 6, 10, 0, 63, 0), (0, 0, 0, 0, 0, 1), (5, 1, 0, 0, 0, 0), (29, 0, 0, 0, 0, 0), (27, 0, 0, 0, 0, 0), (13, 6, 10, 0, 63, 0), (7, 0, 0, 0, 0, 0), (67, 71, 1, 0, 90, 0), (0, 0, 0, 0, 0, 1), (8, 2, 0, 0, 0, 0), (5, 1, 0, 0, 0, 0), (58, 3, 0, 32, 0, 0), (7, 0, 0, 0, 0, 0), (67, 73, 1, 1, 93, 0), (8, 2, 0, 0, 0, 0), (57, 0, 54, 0, 0, 0), (7, 0, 0, 0, 0, 0), (67, 74, 1, 1, 96, 0), (8, 2, 0, 0, 0, 0), (57, 0, 54, 0, 0, 0), (7, 0, 0, 0, 0, 0), (67, 75, 1, 1, 99, 0), (8, 2, 0, 0, 0, 0), (57, 0, 54, 0, 0, 0), (7, 0, 0, 0, 0, 0), (0, 0, 0, 0, 0, 1), (13, 6, 13, 3, 47, 0), (5, 2, 0, 0, 0, 0), (53, 1, 58, 0, 0, 0), (0, 0, 0, 0, 0, 0), (62, 0, 0, 0, 0, 0), (7, 0, 0, 0, 0, 0), (12, 6, 1, 2, 15, 0), (7, 0, 0, 0, 0, 0), (12, 6, 9, 0, 72, 0), (14, 0, 0, 0, 0, 0), (1, 0, 0, 0, 0, 59), (54, 0, 69, 0, 0, 0), (7, 0, 0, 0, 0, 0), (0, 0, 0, 0, 0, 1), (67, 70, 2, 1, 82, 0), (62, 0, 0, 0, 0, 0), (7, 0, 0, 0, 0, 0), (67, 71, 1, 0, 90, 0), (0, 0, 0, 0, 0, 1), (62, 0, 0, 0, 0, 0)]
def ko_72 : List Nat := [0, 1, 4, 5, 8, 9, 10, 11, 13, 16, 17, 19, 22, 23, 24, 27, 28, 29, 32, 33, 36, 39, 40, 41, 44, 45, 46, 47, 50, 51, 52, 53, 54, 57, 58, 61, 62, 63, 64, 96, 97, 100, 101, 104, 105, 108, 109, 112, 113, 116, 117, 120, 121, 122, 125, 126, 129, 130, 131, 132, 135, 136, 139, 140, 142, 145, 146, 147, 150, 151, 152, 155, 156, 157]
def kc_73 : List RI := [(7, 0, 0, 0, 0, 0), (12, 6, 1, 2, 15, 0), (7, 0, 0, 0, 0, 0), (12, 6, 9, 0, 72, 0), (14, 0, 0, 0, 0, 0), (0, 0, 0, 0, 0, 3), (54, 0, 11, 0, 0, 0), (7, 0, 0, 0, 0, 0), (0, 0, 0, 0, 0, 1), (67, 70, 2, 1, 82, 0), (62, 0, 0, 0, 0, 0), (7, 0, 0, 0, 0, 0), (12, 6, 3, 2, 21, 0), (7, 0, 0, 0, 0, 0), (12, 6, 9, 0, 72, 0), (14, 0, 0, 0, 0, 0), (8, 1, 0, 0, 0, 0), (5, 1, 0, 0, 0, 0), (0, 0, 0, 0, 0, 1), (54, 0, 33, 0, 0, 0), (5, 1, 0, 0, 0, 0), (0, 0, 0, 0, 0, 2), (54, 0, 33, 0, 0, 0), (5, 1, 0, 0, 0, 0), (0, 0, 0, 0, 0, 3), (54, 0, 33, 0, 0, 0), (5, 1, 0, 0, 0, 0), (1, 0, 0, 0, 0, 6), (54, 0, 33, 0, 0, 0), (7, 0, 0, 0, 0, 0), (0, 0, 0, 0, 0, 2), (67, 70, 2, 1, 82, 0), (62, 0, 0, 0, 0, 0), (7, 0, 0, 0, 0, 0), (5, 1, 0, 0, 0, 0), (13, 6, 11, 0, 41, 0), (7, 0, 0, 0, 0, 0), (67, 71, 1, 0, 90, 0), (0, 0, 0, 0, 0, 1), (62, 0, 0, 0, 0, 0)]
def ko_73 : List Nat := [0, 1, 4, 5, 8, 9, 10, 13, 14, 15, 18, 19, 20, 23, 24, 27, 28, 29, 30, 31, 34, 35, 36, 39, 40, 41, 44, 45, 47, 50, 51, 52, 55, 56, 57, 58, 61, 62, 65, 66, 67]
def kc_74 : List RI := [(7, 0, 0, 0, 0, 0), (12, 6, 1, 2, 15, 0), (7, 0, 0, 0, 0, 0), (12, 6, 9, 0, 72, 0), (14, 0, 0, 0, 0, 0), (8, 1, 0, 0, 0, 0), (5, 1, 0, 0, 0, 0), (1, 0, 0, 0, 0, 14), (54, 2, 12, 0, 0, 0), (5, 1, 0, 0, 0, 0), (1, 0, 0, 0, 0, 16), (54, 5, 16, 0, 0, 0), (7, 0, 0, 0, 0, 0), (0, 0, 0, 0, 0, 1), (67, 70, 2, 1, 82, 0), (62, 0, 0, 0, 0, 0), (7, 0, 0, 0, 0, 0), (5, 1, 0, 0, 0, 0), (1, 0, 0, 0, 0, 14), (24, 0, 0, 0, 0, 0), (13, 6, 12, 0, 52, 0), (7, 0, 0, 0, 0, 0), (67, 71, 1, 0, 90, 0), (0, 0, 0, 0, 0, 1), (62, 0, 0, 0, 0, 0)]
def ko_74 : List Nat := [0, 1, 4, 5, 8, 9, 10, 11, 13, 16, 17, 19, 22, 23, 24, 27, 28, 29, 30, 32, 33, 36, 37, 40, 41, 42]
def kc_75 : List RI := [(7, 0, 0, 0, 0, 0), (67, 76, 1, 1, 102, 0), (53, 1, 5, 0, 0, 0), (0, 0, 0, 0, 0, 0), (62, 0, 0, 0, 0, 0), (0, 0, 0, 0, 0, 0), (8, 1, 0, 0, 0, 0), (5, 1, 0, 0, 0, 0), (2, 0, 0, 0, 0, 300), (54, 3, 31, 0, 0, 0), (7, 0, 0, 0, 0, 0), (12, 6, 1, 2, 15, 0), (7, 0, 0, 0, 0, 0), (12, 6, 9, 0, 72, 0), (14, 0, 0, 0, 0, 0), (1, 0, 0, 0, 0, 9), (54, 1, 31, 0, 0, 0), (7, 0, 0, 0, 0, 0), (67, 71, 1, 0, 90, 0), (7, 0, 0, 0, 0, 0), (67, 76, 1, 1, 102, 0), (53, 1, 24, 0, 0, 0), (0, 0, 0, 0, 0, 0), (62, 0, 0, 0, 0, 0), (7, 0, 0, 0, 0, 0), (12, 6, 4, 2, 27, 0), (1, 0, 0, 0, 0, 9), (0, 0, 0, 0, 0, 0), (67, 26, 3, 0, 105, 0), (11, 1, 0, 0, 0, 1), (57, 0, 7, 0, 0, 0), (0, 0, 0, 0, 0, 1), (62, 0, 0, 0, 0, 0)]
def ko_75 : List Nat := [0, 1, 4, 7, 8, 9, 10, 11, 12, 15, 18, 19, 22, 23, 26, 27, 29, 32, 33, 36, 37, 40, 43, 44, 45, 46, 49, 51, 52, 55, 58, 61, 62, 63]
def kc_76 : List RI := [(7, 0, 0, 0, 0, 0), (0, 0, 0, 0, 0, 0), (67, 77, 2, 1, 109, 0), (53, 1, 6, 0, 0, 0), (0, 0, 0, 0, 0, 0), (62, 0, 0, 0, 0, 0), (0, 0, 0, 0, 0, 0), (8, 1, 0, 0, 0, 0), (5, 1, 0, 0, 0, 0), (2, 0, 0, 0, 0, 300), (54, 3, 33, 0, 0, 0), (7, 0, 0, 0, 0, 0), (12, 6, 1, 2, 15, 0), (7, 0, 0, 0, 0, 0), (12, 6, 9, 0, 72, 0), (14, 0, 0, 0, 0, 0), (1, 0, 0, 0, 0, 8), (54, 1, 33, 0, 0, 0), (7, 0, 0, 0, 0, 0), (67, 71, 1, 0, 90, 0), (7, 0, 0, 0, 0, 0), (0, 0, 0, 0, 0, 0), (67, 77, 2, 1, 109, 0), (53, 1, 26, 0, 0, 0), (0, 0, 0, 0, 0, 0), (62, 0, 0, 0, 0, 0), (7, 0, 0, 0, 0, 0), (12, 6, 4, 2, 27, 0), (1, 0, 0, 0, 0, 8), (0, 0, 0, 0, 0, 0), (67, 26, 3, 0, 105, 0), (11, 1, 0, 0, 0, 1), (57, 0, 8, 0, 0, 0), (0, 0, 0, 0, 0, 1), (62, 0, 0, 0, 0, 0)]
def ko_76 : List Nat := [0, 1, 2, 5, 8, 9, 10, 11, 12, 13, 16, 19, 20, 23, 24, 27, 28, 30, 33, 34, 37, 38, 39, 42, 45, 46, 47, 48, 51, 53, 54, 57, 60, 63, 64, 65]
def kc_77 : List RI := [(7, 0, 0, 0, 0, 0), (12, 6, 1, 2, 15, 0), (7, 0, 0, 0, 0, 0), (12, 6, 9, 0, 72, 0), (14, 0, 0, 0, 0, 0), (1, 0, 0, 0, 0, 7), (54, 1, 31, 0, 0, 0), (5, 1, 0, 0, 0, 0), (1, 0, 0, 0, 0, 8), (54, 2, 14, 0, 0, 0), (7, 0, 0, 0, 0, 0), (0, 0, 0, 0, 0, 3), (67, 70, 2, 1, 82, 0), (62, 0, 0, 0, 0, 0), (7, 0, 0, 0, 0, 0), (67, 71, 1, 0, 90, 0), (7, 0, 0, 0, 0, 0), (5, 1, 0, 0, 0, 0), (0, 0, 0, 0, 0, 1), (23, 0, 0, 0, 0, 0), (67, 77, 2, 1, 109, 0), (53, 1, 24, 0, 0, 0), (0, 0, 0, 0, 0, 0), (62, 0, 0, 0, 0, 0), (7, 0, 0, 0, 0, 0), (12, 6, 4, 2, 27, 0), (1, 0, 0, 0, 0, 7), (0, 0, 0, 0, 0, 0), (67, 26, 3, 0, 105, 0), (0, 0, 0, 0, 0, 1), (62, 0, 0, 0, 0, 0), (7, 0, 0, 0, 0, 0), (5, 1, 0, 0, 0, 0), (67, 78, 2, 1, 112, 0), (53, 1, 37, 0, 0, 0), (0, 0, 0, 0, 0, 0), (62, 0, 0, 0, 0, 0), (7, 0, 0, 0, 0, 0), (12, 6, 1, 2, 15, 0), (7, 0, 0, 0, 0, 0), (12, 6, 9, 0, 72, 0), (14, 0, 0, 0, 0, 0), (8, 2, 0, 0, 0, 0), (5, 2, 0, 0, 0, 0), (67, 24, 1, 1, 115, 1), (53, 1, 50, 0, 0, 0), (7, 0, 0, 0, 0, 0), (0, 0, 0, 0, 0, 1), (67, 70, 2, 1, 82, 0), (62, 0, 0, 0, 0, 0), (7, 0, 0, 0, 0, 0), (67, 71, 1, 0, 90, 0), (7, 0, 0, 0, 0, 0), (5, 1, 0, 0, 0, 0), (67, 78, 2, 1, 112, 0), (53, 1, 58, 0, 0, 0), (0, 0, 0, 0, 0, 0), (62, 0, 0, 0, 0, 0), (7, 0, 0, 0, 0, 0), (12, 6, 4, 2, 27, 0), (5, 2, 0, 0, 0, 0), (0, 0, 0, 0, 0, 0), (67, 26, 3, 0, 105, 0), (0, 0, 0, 0, 0, 1), (62, 0, 0, 0, 0, 0)]
def ko_77 : List Nat := [0, 1, 4, 5, 8, 9, 11, 14, 15, 17, 20, 21, 22, 25, 26, 27, 30, 31, 32, 33, 34, 37, 40, 41, 42, 43, 46, 48, 49, 52, 53, 54, 55, 56, 59, 62, 63, 64, 65, 68, 69, 72, 73, 74, 75, 78, 81, 82, 83, 86, 87, 88, 91, 92, 93, 96, 99, 100, 101, 102, 105, 106, 107, 110, 111, 112]
def kc_78 : List RI := [(7, 0, 0, 0, 0, 0), (5, 1, 0, 0, 0, 0), (67, 79, 2, 1, 118, 0), (53, 1, 6, 0, 0, 0), (0, 0, 0, 0, 0, 0), (62, 0, 0, 0, 0, 0), (0, 0, 0, 0, 0, 0), (8, 2, 0, 0, 0, 0), (5, 2, 0, 0, 0, 0), (2, 0, 0, 0, 0, 300), (54, 3, 46, 0, 0, 0), (7, 0, 0, 0, 0, 0), (12, 6, 1, 2, 15, 0), (7, 0, 0, 0, 0, 0), (12, 6, 9, 0, 72, 0), (14, 0, 0, 0, 0, 0), (1, 0, 0, 0, 0, 43), (54, 0, 25, 0, 0, 0), (7, 0, 0, 0, 0, 0), (12, 6, 1, 2, 15, 0), (7, 0, 0, 0, 0, 0), (12, 6, 9, 0, 72, 0), (14, 0, 0, 0, 0, 0), (1, 0, 0, 0, 0, 45), (54, 1, 46, 0, 0, 0), (7, 0, 0, 0, 0, 0), (12, 6, 1, 2, 15, 0), (7, 0, 0, 0, 0, 0), (12, 6, 9, 0, 72, 0), (14, 0, 0, 0, 0, 0), (8, 3, 0, 0, 0, 0), (7, 0, 0, 0, 0, 0), (67, 71, 1, 0, 90, 0), (7, 0, 0, 0, 0, 0), (5, 1, 0, 0, 0, 0), (67, 79, 2, 1, 118, 0), (53, 1, 39, 0, 0, 0), (0, 0, 0, 0, 0, 0), (62, 0, 0, 0, 0, 0), (7, 0, 0, 0, 0, 0), (12, 6, 4, 2, 27, 0), (5, 3, 0, 0, 0, 0), (0, 0, 0, 0, 0, 0), (67, 26, 3, 0, 105, 0), (11, 2, 0, 0, 0, 1), (57, 0, 8, 0, 0, 0), (0, 0, 0, 0, 0, 1), (62, 0, 0, 0, 0, 0)]
def ko_78 : List Nat := [0, 1, 2, 5, 8, 9, 10, 11, 12, 13, 16, 19, 20, 23, 24, 27, 28, 30, 33, 34, 37, 38, 41, 42, 44, 47, 48, 51, 52, 55, 56, 57, 58, 61, 62, 63, 66, 69, 70, 71, 72, 75, 76, 77, 80, 83, 86, 87, 88]
def kc_79 : List RI := [(7, 0, 0, 0, 0, 0), (5, 1, 0, 0, 0, 0), (67, 80, 2, 1, 121, 0), (53, 1, 6, 0, 0, 0), (0, 0, 0, 0, 0, 0), (62, 0, 0, 0, 0, 0), (0, 0, 0, 0, 0, 0), (8, 2, 0, 0, 0, 0), (5, 2, 0, 0, 0, 0), (2, 0, 0, 0, 0, 300), (54, 3, 33, 0, 0, 0), (7, 0, 0, 0, 0, 0), (12, 6, 1, 2, 15, 0), (7, 0, 0, 0, 0, 0), (12, 6, 9, 0, 72, 0), (14, 0, 0, 0, 0, 0), (1, 0, 0, 0, 0, 42), (54, 1, 33, 0, 0, 0), (7, 0, 0, 0, 0, 0), (67, 71, 1, 0, 90, 0), (7, 0, 0, 0, 0, 0), (5, 1, 0, 0, 0, 0), (67, 80, 2, 1, 121, 0), (53, 1, 26, 0, 0, 0), (0, 0, 0, 0, 0, 0), (62, 0, 0, 0, 0, 0), (7, 0, 0, 0, 0, 0), (12, 6, 4, 2, 27, 0), (1, 0, 0, 0, 0, 42), (0, 0, 0, 0, 0, 0), (67, 26, 3, 0, 105, 0), (11, 2, 0, 0, 0, 1), (57, 0, 8, 0, 0, 0), (0, 0, 0, 0, 0, 1), (62, 0, 0, 0, 0, 0)]
def ko_79 : List Nat := [0, 1, 2, 5, 8, 9, 10, 11, 12, 13, 16, 19, 20, 23, 24, 27, 28, 30, 33, 34, 37, 38, 39, 42, 45, 46, 47, 48, 51, 53, 54, 57, 60, 63, 64, 65]
def kc_80 : List RI := [(7, 0, 0, 0, 0, 0), (12, 6, 1, 2, 15, 0), (7, 0, 0, 0, 0, 0), (12, 6, 9, 0, 72, 0), (14, 0, 0, 0, 0, 0), (8, 2, 0, 0, 0, 0), (5, 2, 0, 0, 0, 0), (1, 0, 0, 0, 0, 40), (54, 0, 12, 0, 0, 0), (5, 2, 0, 0, 0, 0), (1, 0, 0, 0, 0, 45), (54, 1, 16, 0, 0, 0), (7, 0, 0, 0, 0, 0), (5, 1, 0, 0, 0, 0), (67, 81, 2, 1, 124, 0), (62, 0, 0, 0, 0, 0), (5, 2, 0, 0, 0, 0), (67, 30, 1, 1, 127, 1), (53, 1, 23, 0, 0, 0), (7, 0, 0, 0, 0, 0), (0, 0, 0, 0, 0, 1), (67, 70, 2, 1, 82, 0), (62, 0, 0, 0, 0, 0), (5, 2, 0, 0, 0, 0), (0, 0, 0, 0, 0, 3), (54, 1, 37, 0, 0, 0), (7, 0, 0, 0, 0, 0), (12, 6, 3, 2, 21, 0), (7, 0, 0, 0, 0, 0), (12, 6, 9, 0, 72, 0), (14, 0, 0, 0, 0, 0), (2, 0, 0, 0, 0, 9999), (54, 5, 37, 0, 0, 0), (7, 0, 0, 0, 0, 0), (0, 0, 0, 0, 0, 2), (67, 70, 2, 1, 82, 0), (62, 0, 0, 0, 0, 0), (7, 0, 0, 0, 0, 0), (12, 6, 4, 2, 27, 0), (5, 2, 0, 0, 0, 0), (7, 0, 0, 0, 0, 0), (12, 6, 3, 2, 21, 0), (7, 0, 0, 0, 0, 0), (12, 6, 9, 0, 72, 0), (14, 0, 0, 0, 0, 0), (67, 26, 3, 0, 105, 0), (7, 0, 0, 0, 0, 0), (67, 71, 1, 0, 90, 0), (0, 0, 0, 0, 0, 1), (62, 0, 0, 0, 0, 0)]
def ko_80 : List Nat := [0, 1, 4, 5, 8, 9, 10, 11, 13, 16, 17, 19, 22, 23, 24, 27, 28, 29, 32, 35, 36, 37, 40, 41, 42, 43, 46, 47, 50, 51, 54, 55, 58, 61, 62, 63, 66, 67, 68, 71, 72, 73, 76, 77, 80, 81, 84, 85, 88, 89, 90]
def kc_81 : List RI := [(5, 1, 0, 0, 0, 0), (1, 0, 0, 0, 0, 8), (54, 2, 7, 0, 0, 0), (7, 0, 0, 0, 0, 0), (0, 0, 0, 0, 0, 3), (67, 70, 2, 1, 82, 0), (62, 0, 0, 0, 0, 0), (7, 0, 0, 0, 0, 0), (12, 6, 1, 2, 15, 0), (7, 0, 0, 0, 0, 0), (12, 6, 9, 0, 72, 0), (14, 0, 0, 0, 0, 0), (1, 0, 0, 0, 0, 45), (54, 1, 16, 0, 0, 0), (0, 0, 0, 0, 0, 1), (57, 0, 17, 0, 0, 0), (0, 0, 0, 0, 0, 0), (8, 2, 0, 0, 0, 0), (7, 0, 0, 0, 0, 0), (67, 71, 1, 0, 90, 0), (5, 2, 0, 0, 0, 0), (53, 0, 37, 0, 0, 0), (7, 0, 0, 0, 0, 0), (5, 1, 0, 0, 0, 0), (0, 0, 0, 0, 0, 1), (23, 0, 0, 0, 0, 0), (67, 80, 2, 1, 121, 0), (53, 1, 30, 0, 0, 0), (0, 0, 0, 0, 0, 0), (62, 0, 0, 0, 0, 0), (7, 0, 0, 0, 0, 0), (12, 6, 4, 2, 27, 0), (1, 0, 0, 0, 0, 6), (0, 0, 0, 0, 0, 0), (67, 26, 3, 0, 105, 0), (0, 0, 0, 0, 0, 1), (62, 0, 0, 0, 0, 0), (7, 0, 0, 0, 0, 0), (5, 1, 0, 0, 0, 0), (0, 0, 0, 0, 0, 1), (23, 0, 0, 0, 0, 0), (67, 78, 2, 1, 112, 0), (53, 1, 45, 0, 0, 0), (0, 0, 0, 0, 0, 0), (62, 0, 0, 0, 0, 0), (7, 0, 0, 0, 0, 0), (12, 6, 1, 2, 15, 0), (7, 0, 0, 0, 0, 0), (12, 6, 9, 0, 72, 0), (14, 0, 0, 0, 0, 0), (1, 0, 0, 0, 0, 41), (54, 0, 56, 0, 0, 0), (7, 0, 0, 0, 0, 0), (0, 0, 0, 0, 0, 1), (67, 70, 2, 1, 82, 0), (62, 0, 0, 0, 0, 0), (7, 0, 0, 0, 0, 0), (67, 71, 1, 0, 90, 0), (0, 0, 0, 0, 0, 1), (62, 0, 0, 0, 0, 0)]
def ko_81 : List Nat := [0, 1, 3, 6, 7, 8, 11, 12, 13, 16, 17, 20, 21, 23, 26, 27, 30, 31, 32, 33, 36, 37, 40, 41, 42, 43, 44, 47, 50, 51, 52, 53, 56, 58, 59, 62, 63, 64, 65, 66, 67, 68, 71, 74, 75, 76, 77, 80, 81, 84, 85, 87, 90, 91, 92, 95, 96, 97, 100, 101, 102]
def kc_82 : List RI := [(7, 0, 0, 0, 0, 0), (0, 0, 0, 0, 0, 0), (13, 6, 8, 0, 79, 0), (7, 0, 0, 0, 0, 0), (0, 0, 0, 0, 0, 0), (13, 6, 9, 0, 72, 0), (0, 0, 0, 0, 0, 0), (8, 1, 0, 0, 0, 0), (0, 0, 0, 0, 0, 0), (8, 2, 0, 0, 0, 0), (5, 2, 0, 0, 0, 0), (2, 0, 0, 0, 0, 300), (54, 3, 55, 0, 0, 0), (5, 1, 0, 0, 0, 0), (7, 0, 0, 0, 0, 0), (12, 6, 5, 0, 38, 0), (54, 3, 55, 0, 0, 0), (7, 0, 0, 0, 0, 0), (12, 6, 0, 2, 9, 0), (5, 1, 0, 0, 0, 0), (14, 0, 0, 0, 0, 0), (1, 0, 0, 0, 0, 32), (54, 0, 29, 0, 0, 0), (7, 0, 0, 0, 0, 0), (12, 6, 0, 2, 9, 0), (5, 1, 0, 0, 0, 0), (14, 0, 0, 0, 0, 0), (1, 0, 0, 0, 0, 10), (54, 1, 31, 0, 0, 0), (11, 1, 0, 0, 0, 1), (57, 0, 53, 0, 0, 0), (7, 0, 0, 0, 0, 0), (12, 6, 2, 2, 18, 0), (7, 0, 0, 0, 0, 0), (12, 6, 8, 0, 79, 0), (5, 1, 0, 0, 0, 0), (18, 0, 0, 0, 0, 0), (7, 0, 0, 0, 0, 0), (12, 6, 3, 2, 21, 0), (7, 0, 0, 0, 0, 0), (12, 6, 8, 0, 79, 0), (0, 0, 0, 0, 0, 0), (18, 0, 0, 0, 0, 0), (7, 0, 0, 0, 0, 0), (5, 1, 0, 0, 0, 0), (67, 83, 2, 1, 130, 0), (8, 1, 0, 0, 0, 0), (7, 0, 0, 0, 0, 0), (50, 0, 0, 0, 0, 0), (12, 6, 8, 0, 79, 0), (0, 0, 0, 0, 0, 1), (23, 0, 0, 0, 0, 0), (13, 6, 8, 0, 79, 0), (11, 2, 0, 0, 0, 1), (57, 0, 10, 0, 0, 0), (7, 0, 0, 0, 0, 0), (12, 6, 1, 2, 15, 0), (7, 0, 0, 0, 0, 0), (12, 6, 8, 0, 79, 0), (0, 0, 0, 0, 0, 0), (18, 0, 0, 0, 0, 0), (7, 0, 0, 0, 0, 0), (12, 6, 2, 2, 18, 0), (7, 0, 0, 0, 0, 0), (12, 6, 8, 0, 79, 0), (7, 0, 0, 0, 0, 0), (12, 6, 5, 0, 38, 0), (18, 0, 0, 0, 0, 0), (60, 0, 0, 0, 0, 0)]
def ko_82 : List Nat := [0, 1, 2, 5, 6, 7, 10, 11, 12, 13, 14, 15, 18, 21, 22, 23, 26, 29, 30, 33, 34, 35, 37, 40, 41, 44, 45, 46, 48, 51, 54, 57, 58, 61, 62, 65, 66, 67, 68, 71, 72, 75, 76, 77, 78, 79, 82, 83, 84, 85, 88, 89, 90, 93, 96, 99, 100, 103, 104, 107, 108, 109, 110, 113, 114, 117, 118, 121, 122, 123]
def kc_83 : List RI := [(7, 0, 0, 0, 0, 0), (12, 6, 0, 2, 9, 0), (5, 1, 0, 0, 0, 0), (14, 0, 0, 0, 0, 0), (67, 88, 1, 1, 134, 1), (53, 0, 10, 0, 0, 0), (7, 0, 0, 0, 0, 0), (5, 1, 0, 0, 0, 0), (67, 84, 2, 1, 137, 0), (61, 0, 0, 0, 0, 0), (7, 0, 0, 0, 0, 0), (12, 6, 0, 2, 9, 0), (5, 1, 0, 0, 0, 0), (14, 0, 0, 0, 0, 0), (67, 89, 1, 1, 140, 1), (53, 0, 20, 0, 0, 0), (7, 0, 0, 0, 0, 0), (5, 1, 0, 0, 0, 0), (67, 85, 2, 1, 143, 0), (61, 0, 0, 0, 0, 0), (7, 0, 0, 0, 0, 0), (12, 6, 0, 2, 9, 0), (5, 1, 0, 0, 0, 0), (14, 0, 0, 0, 0, 0), (8, 2, 0, 0, 0, 0), (5, 2, 0, 0, 0, 0), (1, 0, 0, 0, 0, 60), (54, 0, 31, 0, 0, 0), (5, 2, 0, 0, 0, 0), (1, 0, 0, 0, 0, 62), (54, 1, 60, 0, 0, 0), (5, 1, 0, 0, 0, 0), (0, 0, 0, 0, 0, 1), (23, 0, 0, 0, 0, 0), (7, 0, 0, 0, 0, 0), (12, 6, 5, 0, 38, 0), (54, 3, 60, 0, 0, 0), (7, 0, 0, 0, 0, 0), (12, 6, 0, 2, 9, 0), (5, 1, 0, 0, 0, 0), (0, 0, 0, 0, 0, 1), (23, 0, 0, 0, 0, 0), (14, 0, 0, 0, 0, 0), (1, 0, 0, 0, 0, 61), (54, 1, 60, 0, 0, 0), (7, 0, 0, 0, 0, 0), (12, 6, 1, 2, 15, 0), (7, 0, 0, 0, 0, 0), (12, 6, 8, 0, 79, 0), (5, 2, 0, 0, 0, 0), (1, 0, 0, 0, 0, 60), (54, 1, 54, 0, 0, 0), (0, 0, 0, 0, 0, 4), (57, 0, 55, 0, 0, 0), (0, 0, 0, 0, 0, 5), (18, 0, 0, 0, 0, 0), (5, 1, 0, 0, 0, 0), (0, 0, 0, 0, 0, 2), (23, 0, 0, 0, 0, 0), (61, 0, 0, 0, 0, 0), (7, 0, 0, 0, 0, 0), (12, 6, 1, 2, 15, 0), (7, 0, 0, 0, 0, 0), (12, 6, 8, 0, 79, 0), (73, 11, 0, 0, 146, 27), (5, 2, 0, 0, 0, 0), (49, 0, 0, 0, 0, 0), (67, 292, 2, 1, 148, 0), (53, 2, 71, 0, 0, 0), (5, 2, 0, 0, 0, 0), (57, 0, 72, 0, 0, 0), (0, 0, 0, 0, 0, 1), (18, 0, 0, 0, 0, 0), (5, 1, 0, 0, 0, 0), (0, 0, 0, 0, 0, 1), (23, 0, 0, 0, 0, 0), (61, 0, 0, 0, 0, 0)]
def ko_83 : List Nat := [0, 1, 4, 5, 6, 9, 12, 13, 14, 17, 18, 19, 22, 23, 24, 27, 30, 31, 32, 35, 36, 37, 40, 41, 42, 43, 44, 46, 49, 50, 52, 55, 56, 57, 58, 59, 62, 65, 66, 69, 70, 71, 72, 73, 75, 78, 79, 82, 83, 86, 87, 89, 92, 93, 96, 97, 98, 99, 100, 101, 102, 103, 106, 107, 110, 112, 113, 114, 117, 120, 121, 124, 125, 126, 127, 128, 129, 130]
def kc_84 : List RI := [(5, 1, 0, 0, 0, 0), (8, 2, 0, 0, 0, 0), (5, 2, 0, 0, 0, 0), (7, 0, 0, 0, 0, 0), (12, 6, 5, 0, 38, 0), (54, 3, 14, 0, 0, 0), (7, 0, 0, 0, 0, 0), (12, 6, 0, 2, 9, 0), (5, 2, 0, 0, 0, 0), (14, 0, 0, 0, 0, 0), (67, 88, 1, 1, 134, 1), (53, 0, 14, 0, 0, 0), (11, 2, 0, 0, 0, 1), (57, 0, 2, 0, 0, 0), (7, 0, 0, 0, 0, 0), (12, 6, 1, 2, 15, 0), (7, 0, 0, 0, 0, 0), (12, 6, 8, 0, 79, 0), (7, 0, 0, 0, 0, 0), (5, 1, 0, 0, 0, 0), (5, 2, 0, 0, 0, 0), (67, 86, 3, 1, 153, 0), (18, 0, 0, 0, 0, 0), (5, 2, 0, 0, 0, 0), (61, 0, 0, 0, 0, 0)]
def ko_84 : List Nat := [0, 1, 2, 3, 4, 7, 10, 11, 14, 15, 16, 19, 22, 25, 28, 29, 32, 33, 36, 37, 38, 39, 42, 43, 44, 45]
def kc_85 : List RI := [(5, 1, 0, 0, 0, 0), (8, 2, 0, 0, 0, 0), (0, 0, 0, 0, 0, 0), (8, 3, 0, 0, 0, 0), (5, 2, 0, 0, 0, 0), (7, 0, 0, 0, 0, 0), (12, 6, 5, 0, 38, 0), (54, 3, 29, 0, 0, 0), (7, 0, 0, 0, 0, 0), (12, 6, 0, 2, 9, 0), (5, 2, 0, 0, 0, 0), (14, 0, 0, 0, 0, 0), (67, 89, 1, 1, 140, 1), (53, 0, 29, 0, 0, 0), (5, 3, 0, 0, 0, 0), (1, 0, 0, 0, 0, 10), (25, 0, 0, 0, 0, 0), (7, 0, 0, 0, 0, 0), (12, 6, 0, 2, 9, 0), (5, 2, 0, 0, 0, 0), (14, 0, 0, 0, 0, 0), (23, 0, 0, 0, 0, 0), (1, 0, 0, 0, 0, 48), (24, 0, 0, 0, 0, 0), (2, 0, 0, 0, 0, 10000), (67, 288, 2, 1, 157, 1), (8, 3, 0, 0, 0, 0), (11, 2, 0, 0, 0, 1), (57, 0, 4, 0, 0, 0), (7, 0, 0, 0, 0, 0), (12, 6, 1, 2, 15, 0), (7, 0, 0, 0, 0, 0), (12, 6, 8, 0, 79, 0), (0, 0, 0, 0, 0, 3), (18, 0, 0, 0, 0, 0), (7, 0, 0, 0, 0, 0), (12, 6, 3, 2, 21, 0), (7, 0, 0, 0, 0, 0), (12, 6, 8, 0, 79, 0), (5, 3, 0, 0, 0, 0), (18, 0, 0, 0, 0, 0), (5, 2, 0, 0, 0, 0), (61, 0, 0, 0, 0, 0)]
def ko_85 : List Nat := [0, 1, 2, 3, 4, 5, 6, 9, 12, 13, 16, 17, 18, 21, 24, 25, 27, 28, 29, 32, 33, 34, 35, 37, 38, 41, 44, 45, 48, 51, 52, 55, 56, 59, 60, 61, 62, 65, 66, 69, 70, 71, 72, 73]
def kc_86 : List RI := [(5, 2, 0, 0, 0, 0), (5, 1, 0, 0, 0, 0), (24, 0, 0, 0, 0, 0), (0, 0, 0, 0, 0, 1), (54, 1, 20, 0, 0, 0), (73, 0, 0, 0, 162, 5), (7, 0, 0, 0, 0, 0), (12, 6, 0, 2, 9, 0), (5, 1, 0, 0, 0, 0), (14, 0, 0, 0, 0, 0), (49, 0, 0, 0, 0, 0), (67, 292, 2, 1, 148, 0), (53, 2, 18, 0, 0, 0), (7, 0, 0, 0, 0, 0), (12, 6, 0, 2, 9, 0), (5, 1, 0, 0, 0, 0), (14, 0, 0, 0, 0, 0), (57, 0, 19, 0, 0, 0), (0, 0, 0, 0, 0, 1), (61, 0, 0, 0, 0, 0), (7, 0, 0, 0, 0, 0), (5, 1, 0, 0, 0, 0), (5, 2, 0, 0, 0, 0), (73, 1, 0, 0, 164, 7), (67, 87, 4, 1, 166, 0), (53, 0, 28, 0, 0, 0), (1, 0, 0, 0, 0, 9), (61, 0, 0, 0, 0, 0), (7, 0, 0, 0, 0, 0), (5, 1, 0, 0, 0, 0), (5, 2, 0, 0, 0, 0), (73, 2, 0, 0, 170, 9), (67, 87, 4, 1, 166, 0), (53, 0, 36, 0, 0, 0), (1, 0, 0, 0, 0, 8), (61, 0, 0, 0, 0, 0), (7, 0, 0, 0, 0, 0), (5, 1, 0, 0, 0, 0), (5, 2, 0, 0, 0, 0), (73, 3, 0, 0, 172, 11), (67, 87, 4, 1, 166, 0), (53, 0, 44, 0, 0, 0), (1, 0, 0, 0, 0, 7), (61, 0, 0, 0, 0, 0), (7, 0, 0, 0, 0, 0), (5, 1, 0, 0, 0, 0), (5, 2, 0, 0, 0, 0), (73, 4, 0, 0, 174, 13), (67, 87, 4, 1, 166, 0), (53, 0, 52, 0, 0, 0), (1, 0, 0, 0, 0, 10), (61, 0, 0, 0, 0, 0), (7, 0, 0, 0, 0, 0), (5, 1, 0, 0, 0, 0), (5, 2, 0, 0, 0, 0), (73, 5, 0, 0, 175, 15), (67, 87, 4, 1, 166, 0), (53, 0, 60, 0, 0, 0), (1, 0, 0, 0, 0, 11), (61, 0, 0, 0, 0, 0), (7, 0, 0, 0, 0, 0), (5, 1, 0, 0, 0, 0), (5, 2, 0, 0, 0, 0), (73, 6, 0, 0, 176, 17), (67, 87, 4, 1, 166, 0), (53, 0, 68, 0, 0, 0), (1, 0, 0, 0, 0, 12), (61, 0, 0, 0, 0, 0), (7, 0, 0, 0, 0, 0), (5, 1, 0, 0, 0, 0), (5, 2, 0, 0, 0, 0), (73, 7, 0, 0, 178, 19), (67, 87, 4, 1, 166, 0), (53, 0, 76, 0, 0, 0), (1, 0, 0, 0, 0, 13), (61, 0, 0, 0, 0, 0), (7, 0, 0, 0, 0, 0), (5, 1, 0, 0, 0, 0), (5, 2, 0, 0, 0, 0), (73, 8, 0, 0, 179, 21), (67, 87, 4, 1, 166, 0), (53, 0, 84, 0, 0, 0), (1, 0, 0, 0, 0, 14), (61, 0, 0, 0, 0, 0), (7, 0, 0, 0, 0, 0), (5, 1, 0, 0, 0, 0), (5, 2, 0, 0, 0, 0), (73, 9, 0, 0, 181, 23), (67, 87, 4, 1, 166, 0), (53, 0, 92, 0, 0, 0), (1, 0, 0, 0, 0, 15), (61, 0, 0, 0, 0, 0), (7, 0, 0, 0, 0, 0), (5, 1, 0, 0, 0, 0), (5, 2, 0, 0, 0, 0), (73, 10, 0, 0, 183, 25), (67, 87, 4, 1, 166, 0), (53, 0, 100, 0, 0, 0), (1, 0, 0, 0, 0, 16), (57, 0, 101, 0, 0, 0), (0, 0, 0, 0, 0, 1), (61, 0, 0, 0, 0, 0)]
def ko_86 : List Nat := [0, 1, 2, 3, 4, 7, 9, 10, 13, 14, 15, 16, 19, 22, 23, 26, 27, 28, 31, 32, 33, 34, 35, 36, 38, 41, 44, 46, 47, 48, 49, 50, 52, 55, 58, 60, 61, 62, 63, 64, 66, 69, 72, 74, 75, 76, 77, 78, 80, 83, 86, 88, 89, 90, 91, 92, 94, 97, 100, 102, 103, 104, 105, 106, 108, 111, 114, 116, 117, 118, 119, 120, 122, 125, 128, 130, 131, 132, 133, 134, 136, 139, 142, 144, 145, 146, 147, 148, 150, 153, 156, 158, 159, 160, 161, 162, 164, 167, 170, 172, 175, 176, 177]
def kc_87 : List RI := [(5, 2, 0, 0, 0, 0), (5, 1, 0, 0, 0, 0), (24, 0, 0, 0, 0, 0), (7, 3, 0, 0, 0, 0), (67, 290, 1, 1, 185, 0), (54, 0, 8, 0, 0, 0), (0, 0, 0, 0, 0, 0), (62, 0, 0, 0, 0, 0), (0, 0, 0, 0, 0, 0), (8, 4, 1, 0, 0, 0), (5, 4, 1, 0, 0, 0), (7, 3, 0, 0, 0, 0), (67, 290, 1, 1, 185, 0), (54, 3, 28, 0, 0, 0), (7, 0, 0, 0, 0, 0), (12, 6, 0, 2, 9, 0), (5, 1, 0, 0, 0, 0), (5, 4, 1, 0, 0, 0), (23, 0, 0, 0, 0, 0), (14, 0, 0, 0, 0, 0), (7, 3, 0, 0, 0, 0), (5, 4, 1, 0, 0, 0), (67, 291, 2, 1, 188, 0), (54, 0, 26, 0, 0, 0), (0, 0, 0, 0, 0, 0), (62, 0, 0, 0, 0, 0), (11, 4, 0, 0, 0, 1), (57, 0, 10, 0, 0, 0), (0, 0, 0, 0, 0, 1), (62, 0, 0, 0, 0, 0)]
def ko_87 : List Nat := [0, 1, 2, 3, 4, 7, 10, 11, 12, 13, 15, 17, 18, 21, 24, 25, 28, 29, 31, 32, 33, 34, 36, 39, 42, 43, 44, 47, 50, 51, 52]
def kc_88 : List RI := [(5, 0, 0, 0, 0, 0), (1, 0, 0, 0, 0, 97), (54, 2, 6, 0, 0, 0), (5, 0, 0, 0, 0, 0), (1, 0, 0, 0, 0, 122), (54, 5, 12, 0, 0, 0), (5, 0, 0, 0, 0, 0), (1, 0, 0, 0, 0, 65), (54, 2, 14, 0, 0, 0), (5, 0, 0, 0, 0, 0), (1, 0, 0, 0, 0, 90), (54, 4, 14, 0, 0, 0), (0, 0, 0, 0, 0, 1), (57, 0, 15, 0, 0, 0), (0, 0, 0, 0, 0, 0), (62, 0, 0, 0, 0, 0)]
def ko_88 : List Nat := [0, 1, 3, 6, 7, 9, 12, 13, 15, 18, 19, 21, 24, 25, 28, 29, 30]
def kc_89 : List RI := [(5, 0, 0, 0, 0, 0), (1, 0, 0, 0, 0, 48), (54, 2, 8, 0, 0, 0), (5, 0, 0, 0, 0, 0), (1, 0, 0, 0, 0, 57), (54, 4, 8, 0, 0, 0), (0, 0, 0, 0, 0, 1), (57, 0, 9, 0, 0, 0), (0, 0, 0, 0, 0, 0), (62, 0, 0, 0, 0, 0)]
def ko_89 : List Nat := [0, 1, 3, 6, 7, 9, 12, 13, 16, 17, 18]
def kc_90 : List RI := [(7, 0, 0, 0, 0, 0), (75, 0, 0, 0, 3, 0), (7, 0, 0, 0, 0, 0), (1, 0, 0, 0, 0, 9), (69, 100, 0, 0, 0, 0), (13, 7, 0, 2, 9, 1), (7, 0, 0, 0, 0, 0), (0, 0, 0, 0, 0, 1), (13, 7, 1, 0, 15, 0), (60, 0, 0, 0, 0, 0)]
def ko_90 : List Nat := [0, 1, 4, 5, 7, 9, 12, 13, 14, 17, 18]
def kc_91 : List RI := [(7, 0, 0, 0, 0, 0), (5, 1, 0, 0, 0, 0), (13, 7, 1, 0, 15, 0), (7, 0, 0, 0, 0, 0), (0, 0, 0, 0, 0, 0), (13, 7, 2, 0, 19, 0), (60, 0, 0, 0, 0, 0)]
def ko_91 : List Nat := [0, 1, 2, 5, 6, 7, 10, 11]
def kc_92 : List RI := [(7, 1, 0, 0, 0, 0), (12, 7, 0, 2, 9, 0), (0, 0, 0, 0, 0, 0), (7, 0, 0, 0, 0, 0), (12, 7, 0, 2, 9, 0), (0, 0, 0, 0, 0, 0), (7, 0, 0, 0, 0, 0), (12, 7, 0, 2, 9, 0), (22, 0, 0, 0, 0, 0), (74, 0, 0, 0, 22, 0), (7, 0, 0, 0, 0, 0), (7, 1, 0, 0, 0, 0), (12, 7, 1, 0, 15, 0), (13, 7, 1, 0, 15, 0), (7, 0, 0, 0, 0, 0), (7, 1, 0, 0, 0, 0), (12, 7, 2, 0, 19, 0), (13, 7, 2, 0, 19, 0), (60, 0, 0, 0, 0, 0)]
def ko_92 : List Nat := [0, 1, 4, 5, 6, 9, 10, 11, 14, 15, 18, 19, 20, 23, 26, 27, 28, 31, 34, 35]
def kc_93 : List RI := [(5, 1, 0, 0, 0, 0), (53, 0, 13, 0, 0, 0), (5, 1, 0, 0, 0, 0), (7, 0, 0, 0, 0, 0), (12, 7, 1, 0, 15, 0), (34, 0, 0, 0, 0, 0), (54, 2, 13, 0, 0, 0), (5, 1, 0, 0, 0, 0), (7, 0, 0, 0, 0, 0), (12, 7, 1, 0, 15, 0), (54, 4, 13, 0, 0, 0), (0, 0, 0, 0, 0, 1), (57, 0, 14, 0, 0, 0), (0, 0, 0, 0, 0, 0), (62, 0, 0, 0, 0, 0)]
def ko_93 : List Nat := [0, 1, 4, 5, 6, 9, 10, 13, 14, 15, 18, 21, 22, 25, 26, 27]
def kc_94 : List RI := [(7, 0, 0, 0, 0, 0), (12, 7, 2, 0, 19, 0), (0, 0, 0, 0, 0, 3), (54, 3, 16, 0, 0, 0), (7, 0, 0, 0, 0, 0), (5, 1, 0, 0, 0, 0), (67, 93, 2, 1, 28, 0), (53, 0, 16, 0, 0, 0), (7, 0, 0, 0, 0, 0), (5, 2, 0, 0, 0, 0), (67, 93, 2, 1, 28, 0), (53, 0, 16, 0, 0, 0), (7, 0, 0, 0, 0, 0), (5, 3, 0, 0, 0, 0), (67, 93, 2, 1, 28, 0), (53, 1, 18, 0, 0, 0), (0, 0, 0, 0, 0, -1), (61, 0, 0, 0, 0, 0), (7, 0, 0, 0, 0, 0), (12, 7, 0, 2, 9, 0), (7, 0, 0, 0, 0, 0), (12, 7, 2, 0, 19, 0), (0, 0, 0, 0, 0, 3), (25, 0, 0, 0, 0, 0), (5, 1, 0, 0, 0, 0), (18, 0, 0, 0, 0, 0), (7, 0, 0, 0, 0, 0), (12, 7, 0, 2, 9, 0), (7, 0, 0, 0, 0, 0), (12, 7, 2, 0, 19, 0), (0, 0, 0, 0, 0, 3), (25, 0, 0, 0, 0, 0), (0, 0, 0, 0, 0, 1), (23, 0, 0, 0, 0, 0), (5, 2, 0, 0, 0, 0), (18, 0, 0, 0, 0, 0), (7, 0, 0, 0, 0, 0), (12, 7, 0, 2, 9, 0), (7, 0, 0, 0, 0, 0), (12, 7, 2, 0, 19, 0), (0, 0, 0, 0, 0, 3), (25, 0, 0, 0, 0, 0), (0, 0, 0, 0, 0, 2), (23, 0, 0, 0, 0, 0), (5, 3, 0, 0, 0, 0), (18, 0, 0, 0, 0, 0), (7, 0, 0, 0, 0, 0), (50, 0, 0, 0, 0, 0), (12, 7, 2, 0, 19, 0), (0, 0, 0, 0, 0, 1), (23, 0, 0, 0, 0, 0), (13, 7, 2, 0, 19, 0), (7, 0, 0, 0, 0, 0), (12, 7, 2, 0, 19, 0), (0, 0, 0, 0, 0, 1), (24, 0, 0, 0, 0, 0), (61, 0, 0, 0, 0, 0)]
def ko_94 : List Nat := [0, 1, 4, 5, 8, 9, 10, 13, 16, 17, 18, 21, 24, 25, 26, 29, 32, 33, 34, 35, 38, 39, 42, 43, 44, 45, 46, 47, 50, 51, 54, 55, 56, 57, 58, 59, 60, 61, 64, 65, 68, 69, 70, 71, 72, 73, 74, 75, 76, 79, 80, 81, 84, 85, 88, 89, 90, 91]
def kc_95 : List RI := [(0, 0, 0, 0, 0, 1), (7, 0, 0, 0, 0, 0), (12, 7, 1, 0, 15, 0), (29, 0, 0, 0, 0, 0), (61, 0, 0, 0, 0, 0)]
def ko_95 : List Nat := [0, 1, 2, 5, 6, 7]
def kc_96 : List RI := [(0, 0, 0, 0, 0, 3), (0, 0, 0, 0, 0, 2), (7, 0, 0, 0, 0, 0), (12, 7, 1, 0, 15, 0), (25, 0, 0, 0, 0, 0), (23, 0, 0, 0, 0, 0), (1, 0, 0, 0, 0, 6), (7, 0, 0, 0, 0, 0), (12, 7, 2, 0, 19, 0), (25, 0, 0, 0, 0, 0), (23, 0, 0, 0, 0, 0), (61, 0, 0, 0, 0, 0)]
def ko_96 : List Nat := [0, 1, 2, 3, 6, 7, 8, 10, 11, 14, 15, 16, 17]
def kc_97 : List RI := [(0, 0, 0, 0, 0, 3), (0, 0, 0, 0, 0, 3), (7, 0, 0, 0, 0, 0), (12, 7, 1, 0, 15, 0), (25, 0, 0, 0, 0, 0), (23, 0, 0, 0, 0, 0), (1, 0, 0, 0, 0, 12), (7, 0, 0, 0, 0, 0), (12, 7, 2, 0, 19, 0), (25, 0, 0, 0, 0, 0), (23, 0, 0, 0, 0, 0), (61, 0, 0, 0, 0, 0)]
def ko_97 : List Nat := [0, 1, 2, 3, 6, 7, 8, 10, 11, 14, 15, 16, 17]
def kc_98 : List RI := [(0, 0, 0, 0, 0, 0), (8, 1, 0, 0, 0, 0), (0, 0, 0, 0, 0, 0), (8, 2, 0, 0, 0, 0), (5, 2, 0, 0, 0, 0), (7, 0, 0, 0, 0, 0), (67, 95, 1, 1, 32, 0), (54, 3, 17, 0, 0, 0), (5, 1, 0, 0, 0, 0), (7, 0, 0, 0, 0, 0), (5, 2, 0, 0, 0, 0), (67, 99, 2, 1, 36, 0), (67, 159, 1, 1, 39, 4), (23, 0, 0, 0, 0, 0), (8, 1, 0, 0, 0, 0), (11, 2, 0, 0, 0, 1), (57, 0, 4, 0, 0, 0), (5, 1, 0, 0, 0, 0), (61, 0, 0, 0, 0, 0)]
def ko_98 : List Nat := [0, 1, 2, 3, 4, 5, 6, 9, 12, 13, 14, 15, 18, 21, 22, 23, 26, 29, 30, 31]
def kc_99 : List RI := [(0, 0, 0, 0, 0, 0), (8, 2, 0, 0, 0, 0), (5, 2, 0, 0, 0, 0), (7, 0, 0, 0, 0, 0), (12, 7, 2, 0, 19, 0), (54, 3, 28, 0, 0, 0), (7, 0, 0, 0, 0, 0), (5, 2, 0, 0, 0, 0), (0, 0, 0, 0, 0, 0), (5, 1, 0, 0, 0, 0), (67, 100, 4, 1, 43, 0), (7, 0, 0, 0, 0, 0), (5, 2, 0, 0, 0, 0), (0, 0, 0, 0, 0, 1), (5, 1, 0, 0, 0, 0), (67, 100, 4, 1, 43, 0), (25, 0, 0, 0, 0, 0), (7, 0, 0, 0, 0, 0), (5, 2, 0, 0, 0, 0), (0, 0, 0, 0, 0, 2), (5, 1, 0, 0, 0, 0), (67, 100, 4, 1, 43, 0), (25, 0, 0, 0, 0, 0), (53, 0, 26, 0, 0, 0), (0, 0, 0, 0, 0, 0), (62, 0, 0, 0, 0, 0), (11, 2, 0, 0, 0, 1), (57, 0, 2, 0, 0, 0), (0, 0, 0, 0, 0, 1), (62, 0, 0, 0, 0, 0)]
def ko_99 : List Nat := [0, 1, 2, 3, 4, 7, 10, 11, 12, 13, 14, 17, 18, 19, 20, 21, 24, 25, 26, 27, 28, 29, 32, 33, 36, 37, 38, 41, 44, 45, 46]
def kc_100 : List RI := [(7, 0, 0, 0, 0, 0), (12, 7, 0, 2, 9, 0), (5, 1, 0, 0, 0, 0), (0, 0, 0, 0, 0, 3), (25, 0, 0, 0, 0, 0), (5, 2, 0, 0, 0, 0), (23, 0, 0, 0, 0, 0), (14, 0, 0, 0, 0, 0), (8, 4, 1, 0, 0, 0), (5, 3, 0, 0, 0, 0), (5, 4, 1, 0, 0, 0), (67, 285, 1, 1, 47, 1), (0, 0, 0, 0, 0, 1), (24, 0, 0, 0, 0, 0), (67, 169, 2, 1, 53, 4), (8, 5, 1, 0, 0, 0), (5, 5, 1, 0, 0, 0), (5, 4, 1, 0, 0, 0), (53, 5, 21, 0, 0, 0), (0, 0, 0, 0, 0, 1), (57, 0, 22, 0, 0, 0), (0, 0, 0, 0, 0, 0), (54, 0, 25, 0, 0, 0), (0, 0, 0, 0, 0, 1), (57, 0, 26, 0, 0, 0), (0, 0, 0, 0, 0, 0), (67, 159, 1, 1, 39, 4), (61, 0, 0, 0, 0, 0)]
def ko_100 : List Nat := [0, 1, 4, 5, 6, 7, 8, 9, 10, 12, 13, 15, 18, 19, 20, 23, 25, 27, 29, 32, 33, 36, 37, 40, 41, 44, 45, 48, 49]
def kc_101 : List RI := [(0, 0, 0, 0, 0, 0), (8, 1, 0, 0, 0, 0), (0, 0, 0, 0, 0, 0), (8, 2, 0, 0, 0, 0), (5, 2, 0, 0, 0, 0), (7, 0, 0, 0, 0, 0), (67, 95, 1, 1, 32, 0), (54, 3, 16, 0, 0, 0), (5, 1, 0, 0, 0, 0), (7, 0, 0, 0, 0, 0), (5, 2, 0, 0, 0, 0), (67, 102, 2, 1, 57, 0), (23, 0, 0, 0, 0, 0), (8, 1, 0, 0, 0, 0), (11, 2, 0, 0, 0, 1), (57, 0, 4, 0, 0, 0), (5, 1, 0, 0, 0, 0), (61, 0, 0, 0, 0, 0)]
def ko_101 : List Nat := [0, 1, 2, 3, 4, 5, 6, 9, 12, 13, 14, 15, 18, 19, 20, 23, 26, 27, 28]
def kc_102 : List RI := [(0, 0, 0, 0, 0, 1), (8, 2, 0, 0, 0, 0), (0, 0, 0, 0, 0, 0), (8, 3, 0, 0, 0, 0), (5, 3, 0, 0, 0, 0), (7, 0, 0, 0, 0, 0), (12, 7, 2, 0, 19, 0), (54, 3, 29, 0, 0, 0), (5, 2, 0, 0, 0, 0), (7, 0, 0, 0, 0, 0), (5, 3, 0, 0, 0, 0), (0, 0, 0, 0, 0, 0), (5, 1, 0, 0, 0, 0), (67, 100, 4, 1, 43, 0), (7, 0, 0, 0, 0, 0), (5, 3, 0, 0, 0, 0), (0, 0, 0, 0, 0, 1), (5, 1, 0, 0, 0, 0), (67, 100, 4, 1, 43, 0), (7, 0, 0, 0, 0, 0), (5, 3, 0, 0, 0, 0), (0, 0, 0, 0, 0, 2), (5, 1, 0, 0, 0, 0), (67, 100, 4, 1, 43, 0), (67, 103, 3, 1, 60, 1), (25, 0, 0, 0, 0, 0), (8, 2, 0, 0, 0, 0), (11, 3, 0, 0, 0, 1), (57, 0, 4, 0, 0, 0), (5, 2, 0, 0, 0, 0), (61, 0, 0, 0, 0, 0)]
def ko_102 : List Nat := [0, 1, 2, 3, 4, 5, 6, 9, 12, 13, 14, 15, 16, 17, 20, 21, 22, 23, 24, 27, 28, 29, 30, 31, 34, 37, 38, 39, 42, 45, 46, 47]
def kc_103 : List RI := [(0, 0, 0, 0, 0, 0), (8, 3, 0, 0, 0, 0), (0, 0, 0, 0, 0, 0), (8, 4, 1, 0, 0, 0), (5, 4, 1, 0, 0, 0), (1, 0, 0, 0, 0, 18), (54, 3, 75, 0, 0, 0), (71, 0, 1, 1, 63, 2), (5, 4, 1, 0, 0, 0), (14, 0, 0, 0, 0, 0), (5, 0, 0, 0, 0, 0), (54, 0, 21, 0, 0, 0), (71, 0, 1, 1, 63, 2), (5, 4, 1, 0, 0, 0), (0, 0, 0, 0, 0, 1), (23, 0, 0, 0, 0, 0), (14, 0, 0, 0, 0, 0), (5, 1, 0, 0, 0, 0), (54, 0, 21, 0, 0, 0), (0, 0, 0, 0, 0, 1), (57, 0, 22, 0, 0, 0), (0, 0, 0, 0, 0, 0), (8, 5, 1, 0, 0, 0), (0, 0, 0, 0, 0, 0), (8, 6, 1, 0, 0, 0), (5, 6, 1, 0, 0, 0), (1, 0, 0, 0, 0, 18), (54, 3, 73, 0, 0, 0), (71, 0, 1, 1, 63, 2), (5, 6, 1, 0, 0, 0), (0, 0, 0, 0, 0, 1), (23, 0, 0, 0, 0, 0), (14, 0, 0, 0, 0, 0), (5, 2, 0, 0, 0, 0), (54, 0, 43, 0, 0, 0), (71, 0, 1, 1, 63, 2), (5, 6, 1, 0, 0, 0), (0, 0, 0, 0, 0, 2), (23, 0, 0, 0, 0, 0), (14, 0, 0, 0, 0, 0), (53, 1, 43, 0, 0, 0), (0, 0, 0, 0, 0, 1), (57, 0, 44, 0, 0, 0), (0, 0, 0, 0, 0, 0), (8, 7, 1, 0, 0, 0), (71, 0, 1, 1, 63, 2), (5, 4, 1, 0, 0, 0), (0, 0, 0, 0, 0, 2), (23, 0, 0, 0, 0, 0), (14, 0, 0, 0, 0, 0), (71, 0, 1, 1, 63, 2), (5, 6, 1, 0, 0, 0), (14, 0, 0, 0, 0, 0), (54, 0, 56, 0, 0, 0), (0, 0, 0, 0, 0, 1), (57, 0, 57, 0, 0, 0), (0, 0, 0, 0, 0, 0), (8, 8, 1, 0, 0, 0), (5, 3, 0, 0, 0, 0), (5, 5, 1, 0, 0, 0), (53, 0, 67, 0, 0, 0), (5, 7, 1, 0, 0, 0), (53, 0, 67, 0, 0, 0), (5, 8, 1, 0, 0, 0), (53, 0, 67, 0, 0, 0), (0, 0, 0, 0, 0, 1), (57, 0, 68, 0, 0, 0), (0, 0, 0, 0, 0, 0), (67, 159, 1, 1, 39, 4), (23, 0, 0, 0, 0, 0), (8, 3, 0, 0, 0, 0), (11, 6, 0, 0, 0, 3), (57, 0, 25, 0, 0, 0), (11, 4, 0, 0, 0, 3), (57, 0, 4, 0, 0, 0), (5, 3, 0, 0, 0, 0), (61, 0, 0, 0, 0, 0)]
def ko_103 : List Nat := [0, 1, 2, 3, 5, 7, 9, 12, 15, 17, 18, 19, 22, 25, 27, 28, 29, 30, 31, 34, 35, 38, 39, 41, 42, 44, 46, 48, 51, 54, 56, 57, 58, 59, 60, 63, 66, 68, 69, 70, 71, 74, 75, 78, 79, 81, 84, 86, 87, 88, 89, 92, 94, 95, 98, 99, 102, 103, 105, 106, 108, 111, 113, 116, 118, 121, 122, 125, 126, 129, 130, 131, 134, 137, 140, 143, 144, 145]
def kc_104 : List RI := [(7, 0, 0, 0, 0, 0), (75, 0, 0, 0, 3, 0), (7, 0, 0, 0, 0, 0), (1, 0, 0, 0, 0, 49), (69, 100, 0, 0, 0, 0), (13, 8, 0, 2, 9, 1), (60, 0, 0, 0, 0, 0)]
def ko_104 : List Nat := [0, 1, 4, 5, 7, 9, 12, 13]
def kc_105 : List RI := [(7, 1, 0, 0, 0, 0), (12, 8, 0, 2, 9, 0), (0, 0, 0, 0, 0, 0), (7, 0, 0, 0, 0, 0), (12, 8, 0, 2, 9, 0), (0, 0, 0, 0, 0, 0), (7, 0, 0, 0, 0, 0), (12, 8, 0, 2, 9, 0), (22, 0, 0, 0, 0, 0), (74, 0, 0, 0, 15, 0), (7, 0, 0, 0, 0, 0), (7, 1, 0, 0, 0, 0), (12, 8, 1, 0, 21, 0), (13, 8, 1, 0, 21, 0), (7, 0, 0, 0, 0, 0), (7, 1, 0, 0, 0, 0), (12, 8, 2, 0, 25, 0), (13, 8, 2, 0, 25, 0), (7, 0, 0, 0, 0, 0), (7, 1, 0, 0, 0, 0), (12, 8, 3, 3, 28, 0), (13, 8, 3, 3, 28, 0), (60, 0, 0, 0, 0, 0)]
def ko_105 : List Nat := [0, 1, 4, 5, 6, 9, 10, 11, 14, 15, 18, 19, 20, 23, 26, 27, 28, 31, 34, 35, 36, 39, 42, 43]
def kc_106 : List RI := [(7, 0, 0, 0, 0, 0), (75, 0, 0, 0, 3, 0), (7, 0, 0, 0, 0, 0), (1, 0, 0, 0, 0, 20), (69, 100, 0, 0, 0, 0), (13, 9, 0, 2, 9, 1), (7, 0, 0, 0, 0, 0), (2, 0, 0, 0, 0, 140), (69, 100, 0, 0, 0, 0), (13, 9, 1, 2, 15, 1), (60, 0, 0, 0, 0, 0)]
def ko_106 : List Nat := [0, 1, 4, 5, 7, 9, 12, 13, 16, 18, 21, 22]
def kc_107 : List RI := [(5, 3, 0, 0, 0, 0), (0, 0, 0, 0, 0, -1), (54, 1, 16, 0, 0, 0), (7, 0, 0, 0, 0, 0), (12, 9, 0, 2, 9, 0), (5, 1, 0, 0, 0, 0), (51, 0, 0, 0, 0, 0), (14, 0, 0, 0, 0, 0), (0, 0, 0, 0, 0, 1), (5, 2, 0, 0, 0, 0), (29, 0, 0, 0, 0, 0), (0, 0, 0, 0, 0, -1), (28, 0, 0, 0, 0, 0), (26, 0, 0, 0, 0, 0), (18, 0, 0, 0, 0, 0), (57, 0, 35, 0, 0, 0), (7, 0, 0, 0, 0, 0), (12, 9, 0, 2, 9, 0), (5, 1, 0, 0, 0, 0), (51, 0, 0, 0, 0, 0), (14, 0, 0, 0, 0, 0), (0, 0, 0, 0, 0, 1), (5, 2, 0, 0, 0, 0), (29, 0, 0, 0, 0, 0), (27, 0, 0, 0, 0, 0), (18, 0, 0, 0, 0, 0), (7, 0, 0, 0, 0, 0), (12, 9, 1, 2, 15, 0), (5, 1, 0, 0, 0, 0), (1, 0, 0, 0, 0, 7), (25, 0, 0, 0, 0, 0), (5, 2, 0, 0, 0, 0), (23, 0, 0, 0, 0, 0), (5, 3, 0, 0, 0, 0), (18, 0, 0, 0, 0, 0), (60, 0, 0, 0, 0, 0)]
def ko_107 : List Nat := [0, 1, 2, 5, 6, 9, 10, 11, 12, 13, 14, 15, 16, 17, 18, 19, 22, 23, 26, 27, 28, 29, 30, 31, 32, 33, 34, 35, 38, 39, 41, 42, 43, 44, 45, 46, 47]
def kc_108 : List RI := [(7, 1, 0, 0, 0, 0), (12, 9, 0, 2, 9, 0), (0, 0, 0, 0, 0, 0), (7, 0, 0, 0, 0, 0), (12, 9, 0, 2, 9, 0), (0, 0, 0, 0, 0, 0), (7, 0, 0, 0, 0, 0), (12, 9, 0, 2, 9, 0), (22, 0, 0, 0, 0, 0), (74, 0, 0, 0, 18, 0), (7, 1, 0, 0, 0, 0), (12, 9, 1, 2, 15, 0), (0, 0, 0, 0, 0, 0), (7, 0, 0, 0, 0, 0), (12, 9, 1, 2, 15, 0), (0, 0, 0, 0, 0, 0), (7, 0, 0, 0, 0, 0), (12, 9, 1, 2, 15, 0), (22, 0, 0, 0, 0, 0), (74, 0, 0, 0, 18, 0), (60, 0, 0, 0, 0, 0)]
def ko_108 : List Nat := [0, 1, 4, 5, 6, 9, 10, 11, 14, 15, 18, 19, 22, 23, 24, 27, 28, 29, 32, 33, 36, 37]
def kc_109 : List RI := [(0, 0, 0, 0, 0, 0), (8, 1, 0, 0, 0, 0), (0, 0, 0, 0, 0, 0), (8, 2, 0, 0, 0, 0), (5, 2, 0, 0, 0, 0), (1, 0, 0, 0, 0, 20), (54, 3, 21, 0, 0, 0), (5, 1, 0, 0, 0, 0), (7, 0, 0, 0, 0, 0), (12, 9, 0, 2, 9, 0), (5, 2, 0, 0, 0, 0), (14, 0, 0, 0, 0, 0), (53, 0, 15, 0, 0, 0), (0, 0, 0, 0, 0, 1), (57, 0, 16, 0, 0, 0), (0, 0, 0, 0, 0, 0), (67, 159, 1, 1, 24, 4), (23, 0, 0, 0, 0, 0), (8, 1, 0, 0, 0, 0), (11, 2, 0, 0, 0, 1), (57, 0, 4, 0, 0, 0), (5, 1, 0, 0, 0, 0), (61, 0, 0, 0, 0, 0)]
def ko_109 : List Nat := [0, 1, 2, 3, 4, 5, 7, 10, 11, 12, 15, 16, 17, 20, 21, 24, 25, 28, 29, 30, 33, 36, 37, 38]
def kc_110 : List RI := [(47, 0, 0, 0, 0, 1), (9, 5, 1, 0, 0, 0), (5, 3, 0, 0, 0, 0), (8, 7, 1, 0, 0, 0), (0, 0, 0, 0, 0, 1), (5, 2, 0, 0, 0, 0), (29, 0, 0, 0, 0, 0), (0, 0, 0, 0, 0, 1), (24, 0, 0, 0, 0, 0), (8, 8, 1, 0, 0, 0), (0, 0, 0, 0, 0, 0), (8, 9, 1, 0, 0, 0), (5, 9, 1, 0, 0, 0), (1, 0, 0, 0, 0, 20), (54, 3, 45, 0, 0, 0), (6, 5, 1, 0, 0, 0), (47, 0, 0, 0, 0, 0), (45, 0, 0, 0, 0, 0), (53, 5, 45, 0, 0, 0), (7, 0, 0, 0, 0, 0), (12, 9, 0, 2, 9, 0), (5, 9, 1, 0, 0, 0), (14, 0, 0, 0, 0, 0), (5, 8, 1, 0, 0, 0), (26, 0, 0, 0, 0, 0), (53, 0, 43, 0, 0, 0), (7, 0, 0, 0, 0, 0), (5, 9, 1, 0, 0, 0), (5, 1, 0, 0, 0, 0), (5, 2, 0, 0, 0, 0), (5, 3, 0, 0, 0, 0), (67, 111, 5, 1, 28, 0), (8, 10, 1, 0, 0, 0), (6, 5, 1, 0, 0, 0), (5, 10, 1, 0, 0, 0), (67, 284, 1, 1, 32, 1), (43, 0, 0, 0, 0, 0), (37, 0, 0, 0, 0, 0), (9, 5, 1, 0, 0, 0), (5, 7, 1, 0, 0, 0), (5, 10, 1, 0, 0, 0), (26, 0, 0, 0, 0, 0), (8, 7, 1, 0, 0, 0), (11, 9, 0, 0, 0, 1), (57, 0, 12, 0, 0, 0), (5, 4, 1, 0, 0, 0), (53, 0, 51, 0, 0, 0), (5, 7, 1, 0, 0, 0), (67, 284, 1, 1, 32, 1), (43, 0, 0, 0, 0, 0), (57, 0, 52, 0, 0, 0), (6, 5, 1, 0, 0, 0), (63, 0, 0, 0, 0, 0)]
def ko_110 : List Nat := [0, 1, 3, 4, 6, 7, 8, 9, 10, 11, 13, 14, 16, 18, 20, 23, 25, 26, 27, 30, 31, 34, 36, 37, 39, 40, 43, 44, 46, 47, 48, 49, 52, 54, 56, 58, 61, 62, 63, 65, 67, 69, 70, 72, 75, 78, 80, 83, 85, 88, 89, 92, 94, 95]
def kc_111 : List RI := [(5, 4, 1, 0, 0, 0), (8, 5, 1, 0, 0, 0), (0, 0, 0, 0, 0, 0), (8, 6, 1, 0, 0, 0), (5, 6, 1, 0, 0, 0), (5, 3, 0, 0, 0, 0), (54, 3, 35, 0, 0, 0), (7, 0, 0, 0, 0, 0), (12, 9, 0, 2, 9, 0), (5, 1, 0, 0, 0, 0), (14, 0, 0, 0, 0, 0), (5, 6, 1, 0, 0, 0), (67, 169, 2, 1, 38, 4), (53, 0, 33, 0, 0, 0), (5, 5, 1, 0, 0, 0), (71, 1, 1, 1, 42, 3), (5, 2, 0, 0, 0, 0), (5, 6, 1, 0, 0, 0), (67, 165, 2, 1, 45, 4), (0, 0, 0, 0, 0, 3), (25, 0, 0, 0, 0, 0), (7, 0, 0, 0, 0, 0), (12, 9, 1, 2, 15, 0), (5, 1, 0, 0, 0, 0), (1, 0, 0, 0, 0, 7), (25, 0, 0, 0, 0, 0), (5, 6, 1, 0, 0, 0), (23, 0, 0, 0, 0, 0), (14, 0, 0, 0, 0, 0), (23, 0, 0, 0, 0, 0), (14, 0, 0, 0, 0, 0), (26, 0, 0, 0, 0, 0), (8, 5, 1, 0, 0, 0), (11, 6, 0, 0, 0, 1), (57, 0, 4, 0, 0, 0), (5, 5, 1, 0, 0, 0), (61, 0, 0, 0, 0, 0)]
def ko_111 : List Nat := [0, 2, 4, 5, 7, 9, 10, 13, 14, 17, 18, 19, 21, 24, 27, 29, 32, 33, 35, 38, 39, 40, 41, 44, 45, 47, 48, 50, 51, 52, 53, 54, 55, 57, 60, 63, 65, 66]
def kc_112 : List RI := [(7, 0, 0, 0, 0, 0), (75, 0, 0, 0, 3, 0), (7, 0, 0, 0, 0, 0), (0, 0, 0, 0, 0, 4), (70, 103, 0, 0, 9, 0), (13, 10, 0, 2, 11, 1), (7, 0, 0, 0, 0, 0), (1, 0, 0, 0, 0, 8), (70, 104, 0, 0, 17, 0), (13, 10, 1, 2, 19, 1), (7, 0, 0, 0, 0, 0), (68, 9, 2, 0, 23, 0), (50, 0, 0, 0, 0, 0), (67, 106, 1, 0, 25, 5), (13, 10, 2, 2, 26, 1), (7, 0, 0, 0, 0, 0), (68, 0, 3, 0, 30, 0), (50, 0, 0, 0, 0, 0), (67, 0, 1, 0, 32, 5), (13, 10, 3, 2, 33, 1), (7, 0, 0, 0, 0, 0), (68, 3, 5, 0, 37, 0), (50, 0, 0, 0, 0, 0), (67, 34, 1, 0, 39, 5), (13, 10, 4, 2, 40, 1), (7, 0, 0, 0, 0, 0), (68, 7, 3, 0, 44, 0), (50, 0, 0, 0, 0, 0), (67, 90, 1, 0, 46, 5), (13, 10, 5, 2, 47, 1), (0, 0, 0, 0, 0, 0), (8, 1, 0, 0, 0, 0), (5, 1, 0, 0, 0, 0), (7, 0, 0, 0, 0, 0), (12, 10, 0, 2, 11, 0), (22, 0, 0, 0, 0, 0), (54, 3, 46, 0, 0, 0), (7, 0, 0, 0, 0, 0), (12, 10, 0, 2, 11, 0), (5, 1, 0, 0, 0, 0), (68, 1, 10, 0, 9, 0), (50, 0, 0, 0, 0, 0), (67, 6, 1, 0, 51, 5), (21, 0, 0, 0, 0, 0), (11, 1, 0, 0, 0, 1), (57, 0, 32, 0, 0, 0), (0, 0, 0, 0, 0, 0), (8, 1, 0, 0, 0, 0), (5, 1, 0, 0, 0, 0), (7, 0, 0, 0, 0, 0), (12, 10, 1, 2, 19, 0), (22, 0, 0, 0, 0, 0), (54, 3, 62, 0, 0, 0), (7, 0, 0, 0, 0, 0), (12, 10, 1, 2, 19, 0), (5, 1, 0, 0, 0, 0), (68, 8, 4, 0, 17, 0), (50, 0, 0, 0, 0, 0), (67, 104, 1, 0, 52, 5), (21, 0, 0, 0, 0, 0), (11, 1, 0, 0, 0, 1), (57, 0, 48, 0, 0, 0), (60, 0, 0, 0, 0, 0)]
def ko_112 : List Nat := [0, 1, 4, 5, 6, 9, 12, 13, 15, 18, 21, 22, 25, 26, 29, 32, 33, 36, 37, 40, 43, 44, 47, 48, 51, 54, 55, 58, 59, 62, 65, 66, 67, 68, 69, 72, 73, 76, 77, 80, 81, 84, 85, 88, 89, 92, 95, 96, 97, 98, 99, 102, 103, 106, 107, 110, 111, 114, 115, 118, 119, 122, 125, 126]
def kc_113 : List RI := [(5, 1, 0, 0, 0, 0), (53, 2, 11, 0, 0, 0), (5, 1, 0, 0, 0, 0), (7, 0, 0, 0, 0, 0), (12, 10, 6, 0, 53, 0), (54, 3, 11, 0, 0, 0), (7, 0, 0, 0, 0, 0), (12, 10, 0, 2, 11, 0), (5, 1, 0, 0, 0, 0), (17, 0, 0, 0, 0, 0), (57, 0, 12, 0, 0, 0), (72, 0, 0, 0, 0, 0), (64, 0, 0, 0, 0, 0)]
def ko_113 : List Nat := [0, 1, 4, 5, 6, 9, 12, 13, 16, 17, 18, 21, 22, 23]
def kc_114 : List RI := [(5, 1, 0, 0, 0, 0), (53, 2, 11, 0, 0, 0), (5, 1, 0, 0, 0, 0), (7, 0, 0, 0, 0, 0), (12, 10, 7, 0, 57, 0), (54, 3, 11, 0, 0, 0), (7, 0, 0, 0, 0, 0), (12, 10, 1, 2, 19, 0), (5, 1, 0, 0, 0, 0), (17, 0, 0, 0, 0, 0), (57, 0, 12, 0, 0, 0), (72, 0, 0, 0, 0, 0), (64, 0, 0, 0, 0, 0)]
def ko_114 : List Nat := [0, 1, 4, 5, 6, 9, 12, 13, 16, 17, 18, 21, 22, 23]
def kc_115 : List RI := [(7, 0, 0, 0, 0, 0), (7, 1, 0, 0, 0, 0), (12, 10, 6, 0, 53, 0), (13, 10, 6, 0, 53, 0), (0, 0, 0, 0, 0, 0), (8, 2, 0, 0, 0, 0), (5, 2, 0, 0, 0, 0), (7, 0, 0, 0, 0, 0), (12, 10, 6, 0, 53, 0), (54, 3, 21, 0, 0, 0), (7, 0, 0, 0, 0, 0), (12, 10, 0, 2, 11, 0), (5, 2, 0, 0, 0, 0), (17, 0, 0, 0, 0, 0), (7, 1, 0, 0, 0, 0), (12, 10, 0, 2, 11, 0), (5, 2, 0, 0, 0, 0), (17, 0, 0, 0, 0, 0), (67, 8, 2, 0, 60, 0), (11, 2, 0, 0, 0, 1), (57, 0, 6, 0, 0, 0), (7, 0, 0, 0, 0, 0), (7, 1, 0, 0, 0, 0), (12, 10, 7, 0, 57, 0), (13, 10, 7, 0, 57, 0), (0, 0, 0, 0, 0, 0), (8, 2, 0, 0, 0, 0), (5, 2, 0, 0, 0, 0), (7, 0, 0, 0, 0, 0), (12, 10, 7, 0, 57, 0), (54, 3, 42, 0, 0, 0), (7, 0, 0, 0, 0, 0), (12, 10, 1, 2, 19, 0), (5, 2, 0, 0, 0, 0), (17, 0, 0, 0, 0, 0), (7, 1, 0, 0, 0, 0), (12, 10, 1, 2, 19, 0), (5, 2, 0, 0, 0, 0), (17, 0, 0, 0, 0, 0), (67, 105, 2, 0, 64, 0), (11, 2, 0, 0, 0, 1), (57, 0, 27, 0, 0, 0), (7, 0, 0, 0, 0, 0), (12, 10, 2, 2, 26, 0), (7, 1, 0, 0, 0, 0), (12, 10, 2, 2, 26, 0), (67, 108, 2, 0, 67, 0), (7, 0, 0, 0, 0, 0), (12, 10, 3, 2, 33, 0), (7, 1, 0, 0, 0, 0), (12, 10, 3, 2, 33, 0), (67, 2, 2, 0, 70, 0), (7, 0, 0, 0, 0, 0), (12, 10, 4, 2, 40, 0), (7, 1, 0, 0, 0, 0), (12, 10, 4, 2, 40, 0), (67, 37, 2, 0, 73, 0), (7, 0, 0, 0, 0, 0), (12, 10, 5, 2, 47, 0), (7, 1, 0, 0, 0, 0), (12, 10, 5, 2, 47, 0), (67, 92, 2, 0, 76, 0), (60, 0, 0, 0, 0, 0)]
def ko_115 : List Nat := [0, 1, 2, 5, 8, 9, 10, 11, 12, 15, 18, 19, 22, 23, 24, 25, 28, 29, 30, 33, 36, 39, 40, 41, 44, 47, 48, 49, 50, 51, 54, 57, 58, 61, 62, 63, 64, 67, 68, 69, 72, 75, 78, 79, 82, 83, 86, 89, 90, 93, 94, 97, 100, 101, 104, 105, 108, 111, 112, 115, 116, 119, 122, 123]
def kc_116 : List RI := [(7, 0, 0, 0, 0, 0), (75, 0, 0, 0, 1, 0), (7, 0, 0, 0, 0, 0), (68, 10, 8, 0, 7, 0), (50, 0, 0, 0, 0, 0), (67, 112, 1, 0, 9, 2), (13, 11, 0, 2, 10, 1), (7, 0, 0, 0, 0, 0), (68, 10, 8, 0, 7, 0), (50, 0, 0, 0, 0, 0), (67, 112, 1, 0, 9, 2), (13, 11, 1, 2, 16, 1), (7, 0, 0, 0, 0, 0), (68, 6, 14, 0, 19, 0), (50, 0, 0, 0, 0, 0), (67, 66, 1, 0, 21, 5), (13, 11, 2, 2, 22, 1), (7, 0, 0, 0, 0, 0), (68, 4, 17, 0, 26, 0), (50, 0, 0, 0, 0, 0), (67, 44, 1, 0, 28, 5), (13, 11, 3, 2, 29, 1), (7, 0, 0, 0, 0, 0), (1, 0, 0, 0, 0, 49), (69, 100, 0, 0, 0, 0), (13, 11, 4, 2, 33, 1), (0, 0, 0, 0, 0, 0), (8, 1, 0, 0, 0, 0), (5, 1, 0, 0, 0, 0), (7, 0, 0, 0, 0, 0), (12, 11, 4, 2, 33, 0), (22, 0, 0, 0, 0, 0), (54, 3, 40, 0, 0, 0), (7, 0, 0, 0, 0, 0), (12, 11, 4, 2, 33, 0), (5, 1, 0, 0, 0, 0), (2, 0, 0, 0, 0, 238), (18, 0, 0, 0, 0, 0), (11, 1, 0, 0, 0, 1), (57, 0, 28, 0, 0, 0), (7, 0, 0, 0, 0, 0), (68, 5, 2, 0, 37, 0), (50, 0, 0, 0, 0, 0), (67, 62, 1, 0, 39, 5), (13, 11, 5, 2, 40, 1), (7, 0, 0, 0, 0, 0), (68, 5, 2, 0, 37, 0), (50, 0, 0, 0, 0, 0), (67, 62, 1, 0, 39, 5), (13, 11, 6, 2, 44, 1), (60, 0, 0, 0, 0, 0)]
def ko_116 : List Nat := [0, 1, 4, 5, 8, 9, 12, 15, 16, 19, 20, 23, 26, 27, 30, 31, 34, 37, 38, 41, 42, 45, 48, 49, 51, 53, 56, 57, 58, 59, 60, 63, 64, 67, 68, 71, 72, 75, 76, 79, 82, 83, 86, 87, 90, 93, 94, 97, 98, 101, 104, 105]
def kc_117 : List RI := [(5, 1, 0, 0, 0, 0), (0, 0, 0, 0, 0, 2), (54, 2, 11, 0, 0, 0), (5, 1, 0, 0, 0, 0), (1, 0, 0, 0, 0, 7), (54, 4, 11, 0, 0, 0), (7, 0, 0, 0, 0, 0), (12, 11, 0, 2, 10, 0), (12, 10, 6, 0, 47, 0), (0, 0, 0, 0, 0, 4), (54, 2, 13, 0, 0, 0), (0, 0, 0, 0, 0, -1), (61, 0, 0, 0, 0, 0), (7, 0, 0, 0, 0, 0), (12, 11, 0, 2, 10, 0), (12, 10, 0, 2, 51, 0), (7, 0, 0, 0, 0, 0), (12, 11, 0, 2, 10, 0), (12, 10, 6, 0, 47, 0), (17, 0, 0, 0, 0, 0), (5, 1, 0, 0, 0, 0), (67, 7, 2, 0, 55, 0), (7, 0, 0, 0, 0, 0), (12, 11, 0, 2, 10, 0), (50, 0, 0, 0, 0, 0), (12, 10, 6, 0, 47, 0), (0, 0, 0, 0, 0, 1), (23, 0, 0, 0, 0, 0), (13, 10, 6, 0, 47, 0), (7, 0, 0, 0, 0, 0), (12, 11, 0, 2, 10, 0), (12, 10, 6, 0, 47, 0), (0, 0, 0, 0, 0, 1), (24, 0, 0, 0, 0, 0), (61, 0, 0, 0, 0, 0)]
def ko_117 : List Nat := [0, 1, 2, 5, 6, 8, 11, 12, 15, 18, 19, 22, 23, 24, 25, 28, 31, 32, 35, 38, 39, 40, 43, 44, 47, 48, 51, 52, 53, 56, 57, 60, 63, 64, 65, 66]
def kc_118 : List RI := [(7, 0, 0, 0, 0, 0), (12, 11, 0, 2, 10, 0), (5, 1, 0, 0, 0, 0), (67, 113, 2, 3, 61, 0), (10, 4, 1, 0, 0, 0), (7, 4, 1, 0, 0, 0), (55, 0, 12, 0, 0, 0), (7, 4, 1, 0, 0, 0), (5, 2, 0, 0, 0, 0), (5, 3, 0, 0, 0, 0), (67, 9, 3, 1, 65, 0), (53, 1, 14, 0, 0, 0), (0, 0, 0, 0, 0, -1), (61, 0, 0, 0, 0, 0), (7, 4, 1, 0, 0, 0), (5, 2, 0, 0, 0, 0), (5, 3, 0, 0, 0, 0), (67, 10, 3, 0, 69, 0), (7, 4, 1, 0, 0, 0), (12, 1, 5, 0, 73, 0), (0, 0, 0, 0, 0, 1), (24, 0, 0, 0, 0, 0), (61, 0, 0, 0, 0, 0)]
def ko_118 : List Nat := [0, 1, 4, 5, 8, 10, 12, 15, 17, 18, 19, 22, 25, 26, 27, 29, 30, 31, 34, 36, 39, 40, 41, 42]
def kc_119 : List RI := [(7, 0, 0, 0, 0, 0), (12, 11, 0, 2, 10, 0), (5, 1, 0, 0, 0, 0), (67, 113, 2, 3, 61, 0), (10, 3, 0, 0, 0, 0), (7, 3, 0, 0, 0, 0), (56, 0, 9, 0, 0, 0), (0, 0, 0, 0, 0, -1), (61, 0, 0, 0, 0, 0), (7, 3, 0, 0, 0, 0), (67, 13, 1, 0, 76, 0), (5, 2, 0, 0, 0, 0), (0, 0, 0, 0, 0, -1), (54, 1, 17, 0, 0, 0), (7, 3, 0, 0, 0, 0), (12, 1, 8, 0, 79, 0), (57, 0, 20, 0, 0, 0), (7, 3, 0, 0, 0, 0), (5, 2, 0, 0, 0, 0), (67, 14, 2, 1, 82, 0), (61, 0, 0, 0, 0, 0)]
def ko_119 : List Nat := [0, 1, 4, 5, 8, 9, 10, 13, 14, 15, 16, 19, 20, 21, 24, 25, 28, 31, 32, 33, 36, 37]
def kc_120 : List RI := [(7, 0, 0, 0, 0, 0), (12, 11, 0, 2, 10, 0), (5, 1, 0, 0, 0, 0), (67, 113, 2, 3, 61, 0), (10, 4, 1, 0, 0, 0), (7, 4, 1, 0, 0, 0), (55, 0, 14, 0, 0, 0), (7, 4, 1, 0, 0, 0), (5, 2, 0, 0, 0, 0), (67, 11, 2, 1, 86, 0), (53, 0, 14, 0, 0, 0), (5, 3, 0, 0, 0, 0), (67, 161, 1, 1, 90, 1), (53, 1, 16, 0, 0, 0), (0, 0, 0, 0, 0, -1), (61, 0, 0, 0, 0, 0), (5, 2, 0, 0, 0, 0), (7, 4, 1, 0, 0, 0), (12, 1, 4, 0, 93, 0), (5, 3, 0, 0, 0, 0), (67, 167, 3, 1, 96, 1), (61, 0, 0, 0, 0, 0)]
def ko_120 : List Nat := [0, 1, 4, 5, 8, 10, 12, 15, 17, 18, 21, 24, 25, 28, 31, 32, 33, 34, 36, 39, 40, 43, 44]
def kc_121 : List RI := [(7, 0, 0, 0, 0, 0), (12, 11, 0, 2, 10, 0), (5, 1, 0, 0, 0, 0), (67, 113, 2, 3, 61, 0), (10, 2, 0, 0, 0, 0), (7, 2, 0, 0, 0, 0), (56, 0, 9, 0, 0, 0), (0, 0, 0, 0, 0, -1), (57, 0, 11, 0, 0, 0), (7, 2, 0, 0, 0, 0), (67, 17, 1, 1, 100, 0), (61, 0, 0, 0, 0, 0)]
def ko_121 : List Nat := [0, 1, 4, 5, 8, 9, 10, 13, 14, 17, 18, 21, 22]
def kc_122 : List RI := [(7, 0, 0, 0, 0, 0), (12, 11, 0, 2, 10, 0), (5, 1, 0, 0, 0, 0), (67, 113, 2, 3, 61, 0), (10, 4, 1, 0, 0, 0), (7, 0, 0, 0, 0, 0), (12, 11, 0, 2, 10, 0), (5, 2, 0, 0, 0, 0), (67, 113, 2, 3, 61, 0), (10, 5, 1, 0, 0, 0), (7, 4, 1, 0, 0, 0), (55, 0, 19, 0, 0, 0), (7, 5, 1, 0, 0, 0), (55, 0, 19, 0, 0, 0), (5, 3, 0, 0, 0, 0), (53, 2, 19, 0, 0, 0), (5, 3, 0, 0, 0, 0), (0, 0, 0, 0, 0, 1), (54, 5, 21, 0, 0, 0), (0, 0, 0, 0, 0, -1), (61, 0, 0, 0, 0, 0), (5, 3, 0, 0, 0, 0), (53, 1, 27, 0, 0, 0), (7, 4, 1, 0, 0, 0), (7, 5, 1, 0, 0, 0), (67, 20, 2, 1, 104, 0), (61, 0, 0, 0, 0, 0), (7, 4, 1, 0, 0, 0), (7, 4, 1, 0, 0, 0), (67, 20, 2, 1, 104, 0), (8, 6, 1, 0, 0, 0), (5, 6, 1, 0, 0, 0), (53, 1, 35, 0, 0, 0), (0, 0, 0, 0, 0, -1), (57, 0, 39, 0, 0, 0), (7, 4, 1, 0, 0, 0), (67, 19, 1, 1, 108, 0), (5, 6, 1, 0, 0, 0), (32, 0, 0, 0, 0, 0), (61, 0, 0, 0, 0, 0)]
def ko_122 : List Nat := [0, 1, 4, 5, 8, 10, 11, 14, 15, 18, 20, 22, 25, 27, 30, 31, 34, 35, 36, 39, 40, 41, 42, 45, 47, 49, 52, 53, 55, 57, 60, 62, 64, 67, 68, 71, 73, 76, 78, 79, 80]
def kc_123 : List RI := [(7, 0, 0, 0, 0, 0), (12, 11, 2, 2, 22, 0), (12, 6, 5, 0, 111, 0), (1, 0, 0, 0, 0, 20), (23, 0, 0, 0, 0, 0), (2, 0, 0, 0, 0, 300), (54, 5, 9, 0, 0, 0), (0, 0, 0, 0, 0, -1), (61, 0, 0, 0, 0, 0), (7, 0, 0, 0, 0, 0), (12, 11, 2, 2, 22, 0), (5, 1, 0, 0, 0, 0), (67, 67, 2, 0, 114, 0), (7, 0, 0, 0, 0, 0), (12, 11, 2, 2, 22, 0), (5, 2, 0, 0, 0, 0), (67, 67, 2, 0, 114, 0), (7, 0, 0, 0, 0, 0), (12, 11, 2, 2, 22, 0), (5, 3, 0, 0, 0, 0), (67, 67, 2, 0, 114, 0), (7, 0, 0, 0, 0, 0), (12, 11, 2, 2, 22, 0), (5, 4, 1, 0, 0, 0), (67, 67, 2, 0, 114, 0), (7, 0, 0, 0, 0, 0), (12, 11, 2, 2, 22, 0), (5, 5, 1, 0, 0, 0), (67, 67, 2, 0, 114, 0), (7, 0, 0, 0, 0, 0), (12, 11, 2, 2, 22, 0), (12, 6, 5, 0, 111, 0), (61, 0, 0, 0, 0, 0)]
def ko_123 : List Nat := [0, 1, 4, 7, 9, 10, 13, 16, 17, 18, 19, 22, 23, 26, 27, 30, 31, 34, 35, 38, 39, 42, 43, 46, 48, 51, 52, 55, 57, 60, 61, 64, 67, 68]
def kc_124 : List RI := [(5, 1, 0, 0, 0, 0), (53, 2, 7, 0, 0, 0), (5, 1, 0, 0, 0, 0), (7, 0, 0, 0, 0, 0), (12, 11, 2, 2, 22, 0), (12, 6, 5, 0, 111, 0), (54, 5, 9, 0, 0, 0), (0, 0, 0, 0, 0, -1), (61, 0, 0, 0, 0, 0), (7, 0, 0, 0, 0, 0), (12, 11, 2, 2, 22, 0), (5, 1, 0, 0, 0, 0), (13, 6, 5, 0, 111, 0), (5, 1, 0, 0, 0, 0), (61, 0, 0, 0, 0, 0)]
def ko_124 : List Nat := [0, 1, 4, 5, 6, 9, 12, 15, 16, 17, 18, 21, 22, 25, 26, 27]
def kc_125 : List RI := [(7, 0, 0, 0, 0, 0), (12, 11, 0, 2, 10, 0), (12, 10, 7, 0, 117, 0), (1, 0, 0, 0, 0, 8), (54, 2, 7, 0, 0, 0), (0, 0, 0, 0, 0, -1), (61, 0, 0, 0, 0, 0), (7, 0, 0, 0, 0, 0), (12, 11, 2, 2, 22, 0), (67, 69, 1, 1, 120, 0), (8, 1, 0, 0, 0, 0), (7, 0, 0, 0, 0, 0), (12, 11, 2, 2, 22, 0), (0, 0, 0, 0, 0, 0), (13, 6, 5, 0, 111, 0), (5, 1, 0, 0, 0, 0), (53, 1, 19, 0, 0, 0), (0, 0, 0, 0, 0, -1), (61, 0, 0, 0, 0, 0), (7, 0, 0, 0, 0, 0), (12, 11, 2, 2, 22, 0), (7, 0, 0, 0, 0, 0), (12, 11, 0, 2, 10, 0), (12, 10, 1, 2, 124, 0), (7, 0, 0, 0, 0, 0), (12, 11, 0, 2, 10, 0), (12, 10, 7, 0, 117, 0), (17, 0, 0, 0, 0, 0), (67, 68, 2, 0, 128, 0), (7, 0, 0, 0, 0, 0), (12, 11, 0, 2, 10, 0), (50, 0, 0, 0, 0, 0), (12, 10, 7, 0, 117, 0), (0, 0, 0, 0, 0, 1), (23, 0, 0, 0, 0, 0), (13, 10, 7, 0, 117, 0), (7, 0, 0, 0, 0, 0), (12, 11, 0, 2, 10, 0), (12, 10, 7, 0, 117, 0), (0, 0, 0, 0, 0, 1), (24, 0, 0, 0, 0, 0), (61, 0, 0, 0, 0, 0)]
def ko_125 : List Nat := [0, 1, 4, 7, 9, 12, 13, 14, 15, 18, 21, 22, 23, 26, 27, 30, 31, 34, 35, 36, 37, 40, 41, 44, 47, 48, 51, 54, 55, 58, 59, 62, 63, 66, 67, 68, 71, 72, 75, 78, 79, 80, 81]
def kc_126 : List RI := [(5, 1, 0, 0, 0, 0), (53, 1, 6, 0, 0, 0), (7, 0, 0, 0, 0, 0), (12, 11, 2, 2, 22, 0), (12, 6, 6, 0, 132, 0), (61, 0, 0, 0, 0, 0), (5, 1, 0, 0, 0, 0), (0, 0, 0, 0, 0, 1), (54, 1, 13, 0, 0, 0), (7, 0, 0, 0, 0, 0), (12, 11, 2, 2, 22, 0), (12, 6, 7, 0, 135, 0), (57, 0, 14, 0, 0, 0), (0, 0, 0, 0, 0, -1), (61, 0, 0, 0, 0, 0)]
def ko_126 : List Nat := [0, 1, 4, 5, 8, 11, 12, 13, 14, 17, 18, 21, 24, 27, 28, 29]
def kc_127 : List RI := [(7, 0, 0, 0, 0, 0), (5, 1, 0, 0, 0, 0), (5, 2, 0, 0, 0, 0), (67, 152, 3, 1, 138, 0), (53, 1, 7, 0, 0, 0), (0, 0, 0, 0, 0, -1), (61, 0, 0, 0, 0, 0), (5, 3, 0, 0, 0, 0), (0, 0, 0, 0, 0, -1), (54, 1, 14, 0, 0, 0), (7, 0, 0, 0, 0, 0), (12, 11, 3, 2, 29, 0), (12, 4, 8, 0, 141, 0), (61, 0, 0, 0, 0, 0), (5, 3, 0, 0, 0, 0), (53, 2, 27, 0, 0, 0), (5, 3, 0, 0, 0, 0), (7, 0, 0, 0, 0, 0), (12, 11, 3, 2, 29, 0), (12, 4, 8, 0, 141, 0), (54, 3, 27, 0, 0, 0), (5, 4, 1, 0, 0, 0), (67, 160, 1, 1, 144, 1), (53, 0, 27, 0, 0, 0), (5, 5, 1, 0, 0, 0), (67, 160, 1, 1, 144, 1), (53, 1, 29, 0, 0, 0), (0, 0, 0, 0, 0, -1), (61, 0, 0, 0, 0, 0), (7, 0, 0, 0, 0, 0), (12, 11, 3, 2, 29, 0), (5, 3, 0, 0, 0, 0), (5, 4, 1, 0, 0, 0), (0, 0, 0, 0, 0, 3), (25, 0, 0, 0, 0, 0), (5, 5, 1, 0, 0, 0), (23, 0, 0, 0, 0, 0), (67, 48, 3, 1, 147, 0), (67, 159, 1, 1, 150, 1), (61, 0, 0, 0, 0, 0)]
def ko_127 : List Nat := [0, 1, 2, 3, 6, 9, 10, 11, 12, 13, 16, 17, 20, 23, 24, 25, 28, 29, 30, 33, 36, 39, 41, 44, 47, 49, 52, 55, 56, 57, 58, 61, 62, 64, 65, 66, 68, 69, 72, 75, 76]
def kc_128 : List RI := [(5, 3, 0, 0, 0, 0), (53, 2, 10, 0, 0, 0), (5, 3, 0, 0, 0, 0), (0, 0, 0, 0, 0, 3), (54, 4, 10, 0, 0, 0), (7, 0, 0, 0, 0, 0), (5, 1, 0, 0, 0, 0), (5, 2, 0, 0, 0, 0), (67, 152, 3, 1, 138, 0), (53, 1, 12, 0, 0, 0), (0, 0, 0, 0, 0, -1), (61, 0, 0, 0, 0, 0), (7, 0, 0, 0, 0, 0), (12, 11, 3, 2, 29, 0), (67, 49, 1, 1, 154, 0), (8, 4, 1, 0, 0, 0), (5, 3, 0, 0, 0, 0), (58, 4, 0, 26, 0, 0), (5, 4, 1, 0, 0, 0), (61, 0, 0, 0, 0, 0), (7, 0, 0, 0, 0, 0), (12, 11, 3, 2, 29, 0), (12, 4, 12, 0, 157, 0), (61, 0, 0, 0, 0, 0), (7, 0, 0, 0, 0, 0), (12, 11, 3, 2, 29, 0), (12, 4, 13, 0, 160, 0), (61, 0, 0, 0, 0, 0), (7, 0, 0, 0, 0, 0), (12, 11, 3, 2, 29, 0), (12, 4, 15, 0, 163, 0), (61, 0, 0, 0, 0, 0)]
def ko_128 : List Nat := [0, 1, 4, 5, 6, 9, 10, 11, 12, 15, 18, 19, 20, 21, 24, 27, 29, 30, 56, 58, 59, 60, 63, 66, 67, 68, 71, 74, 75, 76, 79, 82, 83]
def kc_129 : List RI := [(5, 3, 0, 0, 0, 0), (53, 2, 14, 0, 0, 0), (5, 3, 0, 0, 0, 0), (0, 0, 0, 0, 0, 2), (54, 4, 14, 0, 0, 0), (7, 0, 0, 0, 0, 0), (5, 1, 0, 0, 0, 0), (5, 2, 0, 0, 0, 0), (67, 152, 3, 1, 138, 0), (53, 0, 14, 0, 0, 0), (7, 0, 0, 0, 0, 0), (12, 11, 3, 2, 29, 0), (12, 4, 8, 0, 141, 0), (53, 1, 16, 0, 0, 0), (0, 0, 0, 0, 0, -1), (61, 0, 0, 0, 0, 0), (7, 0, 0, 0, 0, 0), (12, 11, 3, 2, 29, 0), (67, 51, 1, 0, 166, 0), (5, 3, 0, 0, 0, 0), (59, 5, 0, 26, 0, 0), (7, 0, 0, 0, 0, 0), (12, 11, 3, 2, 29, 0), (12, 4, 9, 0, 169, 0), (61, 0, 0, 0, 0, 0), (7, 0, 0, 0, 0, 0), (12, 11, 3, 2, 29, 0), (12, 4, 8, 0, 141, 0), (61, 0, 0, 0, 0, 0), (7, 0, 0, 0, 0, 0), (12, 11, 3, 2, 29, 0), (12, 4, 11, 0, 172, 0), (61, 0, 0, 0, 0, 0)]
def ko_129 : List Nat := [0, 1, 4, 5, 6, 9, 10, 11, 12, 15, 18, 19, 22, 25, 28, 29, 30, 31, 34, 37, 38, 64, 65, 68, 71, 72, 73, 76, 79, 80, 81, 84, 87, 88]
def kc_130 : List RI := [(5, 3, 0, 0, 0, 0), (0, 0, 0, 0, 0, 2), (54, 2, 15, 0, 0, 0), (5, 3, 0, 0, 0, 0), (3, 0, 0, 0, 175, 1000000000), (54, 4, 15, 0, 0, 0), (7, 0, 0, 0, 0, 0), (5, 1, 0, 0, 0, 0), (5, 2, 0, 0, 0, 0), (67, 152, 3, 1, 138, 0), (53, 0, 15, 0, 0, 0), (7, 0, 0, 0, 0, 0), (12, 11, 3, 2, 29, 0), (12, 4, 8, 0, 141, 0), (53, 1, 17, 0, 0, 0), (0, 0, 0, 0, 0, -1), (61, 0, 0, 0, 0, 0), (7, 0, 0, 0, 0, 0), (12, 11, 3, 2, 29, 0), (67, 51, 1, 0, 166, 0), (7, 0, 0, 0, 0, 0), (12, 11, 3, 2, 29, 0), (12, 4, 9, 0, 169, 0), (7, 0, 0, 0, 0, 0), (12, 11, 3, 2, 29, 0), (12, 4, 8, 0, 141, 0), (54, 2, 29, 0, 0, 0), (0, 0, 0, 0, 0, -1), (57, 0, 32, 0, 0, 0), (7, 0, 0, 0, 0, 0), (5, 3, 0, 0, 0, 0), (67, 153, 2, 1, 176, 0), (61, 0, 0, 0, 0, 0)]
def ko_130 : List Nat := [0, 1, 2, 5, 6, 8, 11, 12, 13, 14, 17, 20, 21, 24, 27, 30, 31, 32, 33, 36, 39, 40, 43, 46, 47, 50, 53, 56, 57, 60, 61, 62, 65, 66]
def kc_131 : List RI := [(5, 3, 0, 0, 0, 0), (0, 0, 0, 0, 0, 1), (54, 2, 16, 0, 0, 0), (5, 3, 0, 0, 0, 0), (0, 0, 0, 0, 0, 2), (54, 4, 16, 0, 0, 0), (5, 4, 1, 0, 0, 0), (53, 2, 16, 0, 0, 0), (5, 4, 1, 0, 0, 0), (0, 0, 0, 0, 0, 3), (54, 4, 16, 0, 0, 0), (7, 0, 0, 0, 0, 0), (5, 1, 0, 0, 0, 0), (5, 2, 0, 0, 0, 0), (67, 152, 3, 1, 138, 0), (53, 1, 18, 0, 0, 0), (0, 0, 0, 0, 0, -1), (61, 0, 0, 0, 0, 0), (7, 0, 0, 0, 0, 0), (12, 11, 3, 2, 29, 0), (5, 3, 0, 0, 0, 0), (67, 53, 2, 1, 179, 0), (8, 5, 1, 0, 0, 0), (5, 4, 1, 0, 0, 0), (58, 6, 0, 28, 0, 0), (5, 5, 1, 0, 0, 0), (67, 159, 1, 1, 150, 1), (61, 0, 0, 0, 0, 0), (7, 0, 0, 0, 0, 0), (12, 11, 3, 2, 29, 0), (12, 4, 13, 0, 160, 0), (61, 0, 0, 0, 0, 0), (7, 0, 0, 0, 0, 0), (12, 11, 3, 2, 29, 0), (12, 4, 14, 0, 182, 0), (61, 0, 0, 0, 0, 0), (7, 0, 0, 0, 0, 0), (12, 11, 3, 2, 29, 0), (12, 4, 12, 0, 157, 0), (61, 0, 0, 0, 0, 0)]
def ko_131 : List Nat := [0, 1, 2, 5, 6, 7, 10, 12, 15, 17, 18, 21, 22, 23, 24, 27, 30, 31, 32, 33, 36, 37, 40, 42, 44, 72, 74, 77, 78, 79, 82, 85, 86, 87, 90, 93, 94, 95, 98, 101, 102]
def kc_132 : List RI := [(5, 1, 0, 0, 0, 0), (53, 2, 10, 0, 0, 0), (5, 1, 0, 0, 0, 0), (1, 0, 0, 0, 0, 20), (54, 3, 10, 0, 0, 0), (5, 2, 0, 0, 0, 0), (53, 2, 10, 0, 0, 0), (5, 2, 0, 0, 0, 0), (1, 0, 0, 0, 0, 7), (54, 2, 12, 0, 0, 0), (0, 0, 0, 0, 0, 0), (62, 0, 0, 0, 0, 0), (5, 3, 0, 0, 0, 0), (0, 0, 0, 0, 0, -1), (54, 0, 20, 0, 0, 0), (5, 3, 0, 0, 0, 0), (67, 160, 1, 1, 144, 1), (53, 1, 20, 0, 0, 0), (0, 0, 0, 0, 0, 0), (62, 0, 0, 0, 0, 0), (7, 0, 0, 0, 0, 0), (12, 11, 0, 2, 10, 0), (12, 10, 2, 2, 185, 0), (5, 1, 0, 0, 0, 0), (5, 2, 0, 0, 0, 0), (5, 3, 0, 0, 0, 0), (67, 107, 4, 0, 189, 0), (0, 0, 0, 0, 0, 1), (62, 0, 0, 0, 0, 0)]
def ko_132 : List Nat := [0, 1, 4, 5, 7, 10, 11, 14, 15, 17, 20, 21, 22, 23, 24, 27, 28, 31, 34, 35, 36, 37, 40, 43, 44, 45, 46, 49, 50, 51]
def kc_133 : List RI := [(7, 0, 0, 0, 0, 0), (5, 1, 0, 0, 0, 0), (5, 2, 0, 0, 0, 0), (67, 152, 3, 1, 138, 0), (53, 1, 7, 0, 0, 0), (48, 0, 0, 0, 195, -1), (63, 0, 0, 0, 0, 0), (7, 0, 0, 0, 0, 0), (12, 11, 3, 2, 29, 0), (12, 4, 5, 2, 197, 0), (5, 3, 0, 0, 0, 0), (67, 15, 2, 1, 201, 0), (8, 4, 1, 0, 0, 0), (5, 4, 1, 0, 0, 0), (0, 0, 0, 0, 0, -1), (54, 1, 18, 0, 0, 0), (48, 0, 0, 0, 195, -1), (57, 0, 25, 0, 0, 0), (7, 0, 0, 0, 0, 0), (12, 11, 3, 2, 29, 0), (7, 0, 0, 0, 0, 0), (12, 11, 0, 2, 10, 0), (12, 10, 2, 2, 185, 0), (5, 4, 1, 0, 0, 0), (67, 57, 3, 2, 204, 0), (63, 0, 0, 0, 0, 0)]
def ko_133 : List Nat := [0, 1, 2, 3, 6, 9, 12, 13, 14, 17, 20, 21, 24, 26, 28, 29, 32, 35, 38, 39, 42, 43, 46, 49, 51, 54, 55]
def kc_134 : List RI := [(5, 3, 0, 0, 0, 0), (53, 2, 10, 0, 0, 0), (5, 3, 0, 0, 0, 0), (0, 0, 0, 0, 0, 2), (54, 4, 10, 0, 0, 0), (7, 0, 0, 0, 0, 0), (5, 1, 0, 0, 0, 0), (5, 2, 0, 0, 0, 0), (67, 152, 3, 1, 138, 0), (53, 1, 12, 0, 0, 0), (0, 0, 0, 0, 0, -1), (61, 0, 0, 0, 0, 0), (7, 0, 0, 0, 0, 0), (12, 11, 3, 2, 29, 0), (7, 0, 0, 0, 0, 0), (12, 11, 0, 2, 10, 0), (12, 10, 2, 2, 185, 0), (67, 58, 2, 1, 208, 0), (8, 4, 1, 0, 0, 0), (5, 3, 0, 0, 0, 0), (59, 7, 0, 27, 0, 0), (5, 4, 1, 0, 0, 0), (61, 0, 0, 0, 0, 0), (5, 4, 1, 0, 0, 0), (53, 5, 31, 0, 0, 0), (7, 0, 0, 0, 0, 0), (12, 11, 3, 2, 29, 0), (12, 4, 10, 3, 212, 0), (53, 0, 31, 0, 0, 0), (0, 0, 0, 0, 0, 1), (57, 0, 32, 0, 0, 0), (0, 0, 0, 0, 0, 0), (67, 159, 1, 1, 150, 1), (61, 0, 0, 0, 0, 0), (7, 0, 0, 0, 0, 0), (12, 11, 3, 2, 29, 0), (12, 4, 12, 0, 157, 0), (61, 0, 0, 0, 0, 0)]
def ko_134 : List Nat := [0, 1, 4, 5, 6, 9, 10, 11, 12, 15, 18, 19, 20, 21, 24, 25, 28, 31, 34, 36, 37, 64, 66, 67, 69, 72, 73, 76, 79, 82, 83, 86, 87, 90, 91, 92, 95, 98, 99]
def kc_135 : List RI := [(7, 0, 0, 0, 0, 0), (12, 11, 0, 2, 10, 0), (5, 1, 0, 0, 0, 0), (67, 113, 2, 3, 61, 0), (10, 4, 1, 0, 0, 0), (7, 4, 1, 0, 0, 0), (55, 0, 14, 0, 0, 0), (7, 4, 1, 0, 0, 0), (5, 2, 0, 0, 0, 0), (67, 11, 2, 1, 86, 0), (53, 0, 14, 0, 0, 0), (5, 3, 0, 0, 0, 0), (67, 161, 1, 1, 90, 1), (53, 1, 16, 0, 0, 0), (0, 0, 0, 0, 0, 0), (62, 0, 0, 0, 0, 0), (7, 0, 0, 0, 0, 0), (12, 11, 0, 2, 10, 0), (12, 10, 3, 2, 216, 0), (5, 1, 0, 0, 0, 0), (5, 2, 0, 0, 0, 0), (7, 4, 1, 0, 0, 0), (12, 1, 4, 0, 93, 0), (5, 3, 0, 0, 0, 0), (67, 167, 3, 1, 96, 1), (7, 4, 1, 0, 0, 0), (12, 1, 4, 0, 93, 0), (67, 164, 2, 1, 220, 1), (67, 1, 3, 0, 224, 0), (0, 0, 0, 0, 0, 1), (62, 0, 0, 0, 0, 0)]
def ko_135 : List Nat := [0, 1, 4, 5, 8, 10, 12, 15, 17, 18, 21, 24, 25, 28, 31, 32, 33, 34, 37, 40, 41, 42, 44, 47, 48, 51, 53, 56, 59, 62, 63, 64]
def kc_136 : List RI := [(7, 0, 0, 0, 0, 0), (12, 11, 0, 2, 10, 0), (7, 0, 0, 0, 0, 0), (12, 11, 0, 2, 10, 0), (12, 10, 3, 2, 216, 0), (12, 0, 0, 0, 229, 0), (67, 113, 2, 3, 61, 0), (10, 2, 0, 0, 0, 0), (7, 2, 0, 0, 0, 0), (55, 0, 16, 0, 0, 0), (5, 1, 0, 0, 0, 0), (53, 2, 16, 0, 0, 0), (5, 1, 0, 0, 0, 0), (7, 2, 0, 0, 0, 0), (12, 1, 5, 0, 73, 0), (54, 2, 18, 0, 0, 0), (0, 0, 0, 0, 0, -1), (61, 0, 0, 0, 0, 0), (7, 0, 0, 0, 0, 0), (12, 11, 0, 2, 10, 0), (12, 10, 3, 2, 216, 0), (7, 2, 0, 0, 0, 0), (12, 1, 0, 2, 232, 0), (5, 1, 0, 0, 0, 0), (14, 0, 0, 0, 0, 0), (7, 2, 0, 0, 0, 0), (12, 1, 1, 2, 235, 0), (5, 1, 0, 0, 0, 0), (14, 0, 0, 0, 0, 0), (67, 3, 3, 1, 238, 0), (61, 0, 0, 0, 0, 0)]
def ko_136 : List Nat := [0, 1, 4, 5, 8, 11, 14, 17, 18, 19, 22, 23, 26, 27, 28, 31, 34, 35, 36, 37, 40, 43, 44, 47, 48, 49, 50, 53, 54, 55, 58, 59]
def kc_137 : List RI := [(7, 0, 0, 0, 0, 0), (12, 11, 0, 2, 10, 0), (7, 0, 0, 0, 0, 0), (12, 11, 0, 2, 10, 0), (12, 10, 3, 2, 216, 0), (12, 0, 0, 0, 229, 0), (67, 113, 2, 3, 61, 0), (10, 2, 0, 0, 0, 0), (5, 1, 0, 0, 0, 0), (0, 0, 0, 0, 0, -1), (54, 1, 32, 0, 0, 0), (7, 2, 0, 0, 0, 0), (55, 0, 29, 0, 0, 0), (7, 0, 0, 0, 0, 0), (12, 11, 0, 2, 10, 0), (12, 10, 3, 2, 216, 0), (7, 2, 0, 0, 0, 0), (12, 1, 4, 0, 93, 0), (67, 4, 2, 1, 241, 0), (53, 0, 29, 0, 0, 0), (7, 2, 0, 0, 0, 0), (7, 0, 0, 0, 0, 0), (12, 11, 0, 2, 10, 0), (12, 10, 3, 2, 216, 0), (12, 0, 1, 0, 244, 0), (67, 12, 2, 1, 247, 0), (53, 0, 29, 0, 0, 0), (0, 0, 0, 0, 0, 1), (57, 0, 30, 0, 0, 0), (0, 0, 0, 0, 0, 0), (67, 159, 1, 1, 150, 1), (61, 0, 0, 0, 0, 0), (7, 2, 0, 0, 0, 0), (55, 0, 40, 0, 0, 0), (5, 1, 0, 0, 0, 0), (53, 2, 40, 0, 0, 0), (5, 1, 0, 0, 0, 0), (7, 2, 0, 0, 0, 0), (12, 1, 4, 0, 93, 0), (54, 2, 42, 0, 0, 0), (0, 0, 0, 0, 0, -1), (61, 0, 0, 0, 0, 0), (7, 0, 0, 0, 0, 0), (12, 11, 0, 2, 10, 0), (12, 10, 3, 2, 216, 0), (5, 1, 0, 0, 0, 0), (67, 5, 2, 1, 250, 0), (61, 0, 0, 0, 0, 0)]
def ko_137 : List Nat := [0, 1, 4, 5, 8, 11, 14, 17, 18, 19, 20, 23, 24, 27, 28, 31, 34, 35, 38, 41, 44, 45, 46, 49, 52, 55, 58, 61, 62, 65, 66, 69, 70, 71, 74, 75, 78, 79, 80, 83, 86, 87, 88, 89, 92, 95, 96, 99, 100]
def kc_138 : List RI := [(7, 0, 0, 0, 0, 0), (12, 11, 0, 2, 10, 0), (12, 10, 4, 2, 253, 0), (5, 1, 0, 0, 0, 0), (5, 2, 0, 0, 0, 0), (5, 3, 0, 0, 0, 0), (5, 4, 1, 0, 0, 0), (5, 5, 1, 0, 0, 0), (67, 36, 6, 1, 257, 0), (62, 0, 0, 0, 0, 0)]
def ko_138 : List Nat := [0, 1, 4, 7, 8, 9, 10, 12, 14, 17, 18]
def kc_139 : List RI := [(5, 1, 0, 0, 0, 0), (67, 160, 1, 1, 144, 1), (53, 0, 11, 0, 0, 0), (5, 2, 0, 0, 0, 0), (53, 2, 11, 0, 0, 0), (5, 2, 0, 0, 0, 0), (7, 0, 0, 0, 0, 0), (12, 11, 0, 2, 10, 0), (12, 10, 4, 2, 253, 0), (12, 3, 4, 0, 263, 0), (54, 2, 13, 0, 0, 0), (0, 0, 0, 0, 0, -1), (61, 0, 0, 0, 0, 0), (7, 0, 0, 0, 0, 0), (12, 11, 0, 2, 10, 0), (12, 10, 4, 2, 253, 0), (5, 1, 0, 0, 0, 0), (5, 2, 0, 0, 0, 0), (67, 38, 3, 1, 266, 0), (61, 0, 0, 0, 0, 0)]
def ko_139 : List Nat := [0, 1, 4, 7, 8, 11, 12, 13, 16, 19, 22, 25, 26, 27, 28, 31, 34, 35, 36, 39, 40]
def kc_140 : List RI := [(5, 1, 0, 0, 0, 0), (58, 8, 0, 51, 0, 0), (7, 0, 0, 0, 0, 0), (12, 11, 0, 2, 10, 0), (12, 10, 4, 2, 253, 0), (0, 0, 0, 0, 0, 0), (67, 39, 2, 1, 269, 0), (0, 0, 0, 0, 0, -1), (54, 1, 11, 0, 0, 0), (0, 0, 0, 0, 0, 1), (57, 0, 12, 0, 0, 0), (0, 0, 0, 0, 0, 0), (67, 159, 1, 1, 150, 1), (61, 0, 0, 0, 0, 0), (7, 0, 0, 0, 0, 0), (12, 11, 0, 2, 10, 0), (12, 10, 4, 2, 253, 0), (0, 0, 0, 0, 0, 0), (0, 0, 0, 0, 0, 1), (67, 42, 3, 1, 272, 0), (53, 1, 30, 0, 0, 0), (7, 0, 0, 0, 0, 0), (12, 11, 0, 2, 10, 0), (12, 10, 4, 2, 253, 0), (0, 0, 0, 0, 0, 0), (0, 0, 0, 0, 0, 2), (67, 42, 3, 1, 272, 0), (53, 1, 30, 0, 0, 0), (0, 0, 0, 0, 0, 1), (57, 0, 31, 0, 0, 0), (0, 0, 0, 0, 0, 0), (67, 159, 1, 1, 150, 1), (61, 0, 0, 0, 0, 0), (7, 0, 0, 0, 0, 0), (12, 11, 0, 2, 10, 0), (12, 10, 4, 2, 253, 0), (5, 1, 0, 0, 0, 0), (0, 0, 0, 0, 0, 2), (24, 0, 0, 0, 0, 0), (67, 39, 2, 1, 269, 0), (61, 0, 0, 0, 0, 0), (7, 0, 0, 0, 0, 0), (12, 11, 0, 2, 10, 0), (12, 10, 4, 2, 253, 0), (0, 0, 0, 0, 0, 0), (0, 0, 0, 0, 0, 1), (67, 42, 3, 1, 272, 0), (61, 0, 0, 0, 0, 0), (7, 0, 0, 0, 0, 0), (12, 11, 0, 2, 10, 0), (12, 10, 4, 2, 253, 0), (0, 0, 0, 0, 0, 0), (0, 0, 0, 0, 0, 2), (67, 42, 3, 1, 272, 0), (61, 0, 0, 0, 0, 0), (7, 0, 0, 0, 0, 0), (12, 11, 0, 2, 10, 0), (12, 10, 4, 2, 253, 0), (0, 0, 0, 0, 0, 1), (0, 0, 0, 0, 0, 2), (67, 42, 3, 1, 272, 0), (61, 0, 0, 0, 0, 0), (0, 0, 0, 0, 0, -1), (61, 0, 0, 0, 0, 0)]
def ko_140 : List Nat := [0, 1, 52, 53, 56, 59, 60, 63, 64, 67, 68, 71, 72, 75, 76, 77, 80, 83, 84, 85, 88, 91, 92, 95, 98, 99, 100, 103, 106, 107, 110, 111, 114, 115, 116, 119, 122, 123, 124, 125, 128, 129, 130, 133, 136, 137, 138, 141, 142, 143, 146, 149, 150, 151, 154, 155, 156, 159, 162, 163, 164, 167, 168, 169, 170]
def kc_141 : List RI := [(5, 3, 0, 0, 0, 0), (53, 2, 21, 0, 0, 0), (5, 3, 0, 0, 0, 0), (1, 0, 0, 0, 0, 99), (54, 4, 21, 0, 0, 0), (5, 4, 1, 0, 0, 0), (0, 0, 0, 0, 0, 1), (54, 2, 21, 0, 0, 0), (5, 4, 1, 0, 0, 0), (1, 0, 0, 0, 0, 100), (54, 4, 21, 0, 0, 0), (5, 5, 1, 0, 0, 0), (53, 2, 21, 0, 0, 0), (5, 5, 1, 0, 0, 0), (0, 0, 0, 0, 0, 2), (54, 4, 21, 0, 0, 0), (7, 0, 0, 0, 0, 0), (5, 1, 0, 0, 0, 0), (5, 2, 0, 0, 0, 0), (67, 152, 3, 1, 138, 0), (53, 1, 23, 0, 0, 0), (0, 0, 0, 0, 0, -1), (61, 0, 0, 0, 0, 0), (7, 0, 0, 0, 0, 0), (12, 11, 3, 2, 29, 0), (5, 3, 0, 0, 0, 0), (5, 4, 1, 0, 0, 0), (67, 60, 3, 0, 275, 0), (5, 5, 1, 0, 0, 0), (59, 9, 0, 27, 0, 0), (7, 0, 0, 0, 0, 0), (12, 11, 3, 2, 29, 0), (12, 4, 11, 0, 172, 0), (61, 0, 0, 0, 0, 0), (7, 0, 0, 0, 0, 0), (12, 11, 3, 2, 29, 0), (12, 4, 16, 0, 278, 0), (61, 0, 0, 0, 0, 0), (7, 0, 0, 0, 0, 0), (12, 11, 3, 2, 29, 0), (12, 4, 13, 0, 160, 0), (61, 0, 0, 0, 0, 0)]
def ko_141 : List Nat := [0, 1, 4, 5, 7, 10, 12, 13, 16, 18, 20, 23, 25, 28, 30, 31, 34, 35, 36, 37, 40, 43, 44, 45, 46, 49, 50, 52, 55, 57, 84, 85, 88, 91, 92, 93, 96, 99, 100, 101, 104, 107, 108]
def kc_142 : List RI := [(7, 0, 0, 0, 0, 0), (12, 11, 0, 2, 10, 0), (5, 1, 0, 0, 0, 0), (67, 114, 2, 3, 281, 0), (10, 6, 1, 0, 0, 0), (7, 0, 0, 0, 0, 0), (12, 11, 0, 2, 10, 0), (5, 2, 0, 0, 0, 0), (67, 113, 2, 3, 61, 0), (10, 7, 1, 0, 0, 0), (7, 0, 0, 0, 0, 0), (12, 11, 0, 2, 10, 0), (5, 4, 1, 0, 0, 0), (67, 113, 2, 3, 61, 0), (10, 8, 1, 0, 0, 0), (7, 6, 1, 0, 0, 0), (55, 0, 21, 0, 0, 0), (7, 7, 1, 0, 0, 0), (55, 0, 21, 0, 0, 0), (7, 8, 1, 0, 0, 0), (56, 0, 23, 0, 0, 0), (0, 0, 0, 0, 0, -1), (61, 0, 0, 0, 0, 0), (7, 7, 1, 0, 0, 0), (12, 1, 5, 0, 73, 0), (7, 8, 1, 0, 0, 0), (12, 1, 5, 0, 73, 0), (54, 1, 31, 0, 0, 0), (7, 7, 1, 0, 0, 0), (12, 1, 5, 0, 73, 0), (53, 1, 33, 0, 0, 0), (0, 0, 0, 0, 0, -1), (61, 0, 0, 0, 0, 0), (7, 7, 1, 0, 0, 0), (67, 13, 1, 0, 76, 0), (7, 8, 1, 0, 0, 0), (67, 13, 1, 0, 76, 0), (7, 7, 1, 0, 0, 0), (5, 3, 0, 0, 0, 0), (67, 15, 2, 1, 201, 0), (8, 9, 1, 0, 0, 0), (7, 8, 1, 0, 0, 0), (5, 5, 1, 0, 0, 0), (67, 15, 2, 1, 201, 0), (8, 10, 1, 0, 0, 0), (5, 9, 1, 0, 0, 0), (0, 0, 0, 0, 0, -1), (54, 0, 51, 0, 0, 0), (5, 10, 1, 0, 0, 0), (0, 0, 0, 0, 0, -1), (54, 1, 53, 0, 0, 0), (0, 0, 0, 0, 0, -1), (61, 0, 0, 0, 0, 0), (7, 7, 1, 0, 0, 0), (5, 9, 1, 0, 0, 0), (7, 8, 1, 0, 0, 0), (5, 10, 1, 0, 0, 0), (7, 6, 1, 0, 0, 0), (12, 8, 1, 0, 285, 0), (67, 162, 1, 1, 290, 1), (67, 154, 5, 1, 293, 1), (61, 0, 0, 0, 0, 0)]
def ko_142 : List Nat := [0, 1, 4, 5, 8, 10, 11, 14, 15, 18, 20, 21, 24, 26, 29, 31, 33, 36, 38, 41, 43, 46, 47, 48, 50, 53, 55, 58, 61, 63, 66, 69, 70, 71, 73, 76, 78, 81, 83, 84, 87, 89, 91, 93, 96, 98, 100, 101, 104, 106, 107, 110, 111, 112, 114, 116, 118, 120, 122, 125, 128, 131, 132]
def kc_143 : List RI := [(5, 1, 0, 0, 0, 0), (0, 0, 0, 0, 0, 1), (54, 2, 6, 0, 0, 0), (5, 1, 0, 0, 0, 0), (0, 0, 0, 0, 0, 3), (54, 5, 8, 0, 0, 0), (0, 0, 0, 0, 0, 0), (62, 0, 0, 0, 0, 0), (7, 0, 0, 0, 0, 0), (12, 11, 0, 2, 10, 0), (12, 10, 5, 2, 297, 0), (5, 1, 0, 0, 0, 0), (67, 91, 2, 0, 301, 0), (0, 0, 0, 0, 0, 1), (62, 0, 0, 0, 0, 0)]
def ko_143 : List Nat := [0, 1, 2, 5, 6, 7, 10, 11, 12, 13, 16, 19, 20, 23, 24, 25]
def kc_144 : List RI := [(7, 0, 0, 0, 0, 0), (12, 11, 0, 2, 10, 0), (12, 10, 5, 2, 297, 0), (5, 1, 0, 0, 0, 0), (5, 2, 0, 0, 0, 0), (5, 3, 0, 0, 0, 0), (67, 94, 4, 1, 304, 0), (61, 0, 0, 0, 0, 0)]
def ko_144 : List Nat := [0, 1, 4, 7, 8, 9, 10, 13, 14]
def kc_145 : List RI := [(5, 1, 0, 0, 0, 0), (58, 10, 0, 31, 0, 0), (7, 0, 0, 0, 0, 0), (12, 11, 0, 2, 10, 0), (12, 10, 5, 2, 297, 0), (67, 98, 1, 1, 307, 0), (61, 0, 0, 0, 0, 0), (7, 0, 0, 0, 0, 0), (12, 11, 0, 2, 10, 0), (12, 10, 5, 2, 297, 0), (67, 96, 1, 1, 310, 0), (61, 0, 0, 0, 0, 0), (7, 0, 0, 0, 0, 0), (12, 11, 0, 2, 10, 0), (12, 10, 5, 2, 297, 0), (67, 97, 1, 1, 313, 0), (61, 0, 0, 0, 0, 0), (7, 0, 0, 0, 0, 0), (12, 11, 0, 2, 10, 0), (12, 10, 5, 2, 297, 0), (67, 101, 1, 1, 316, 0), (61, 0, 0, 0, 0, 0), (5, 1, 0, 0, 0, 0), (2, 0, 0, 0, 0, 1000), (54, 2, 33, 0, 0, 0), (5, 1, 0, 0, 0, 0), (2, 0, 0, 0, 0, 1000), (7, 0, 0, 0, 0, 0), (12, 11, 0, 2, 10, 0), (12, 10, 5, 2, 297, 0), (67, 95, 1, 1, 319, 0), (23, 0, 0, 0, 0, 0), (54, 2, 35, 0, 0, 0), (0, 0, 0, 0, 0, -1), (61, 0, 0, 0, 0, 0), (7, 0, 0, 0, 0, 0), (12, 11, 0, 2, 10, 0), (12, 10, 5, 2, 297, 0), (5, 1, 0, 0, 0, 0), (2, 0, 0, 0, 0, 1000), (24, 0, 0, 0, 0, 0), (67, 102, 2, 1, 322, 0), (61, 0, 0, 0, 0, 0)]
def ko_145 : List Nat := [0, 1, 32, 33, 36, 39, 42, 43, 44, 47, 50, 53, 54, 55, 58, 61, 64, 65, 66, 69, 72, 75, 76, 77, 80, 83, 84, 87, 88, 91, 94, 97, 98, 101, 102, 103, 104, 107, 110, 111, 114, 115, 118, 119]
def kc_146 : List RI := [(7, 0, 0, 0, 0, 0), (12, 11, 0, 2, 10, 0), (5, 1, 0, 0, 0, 0), (67, 114, 2, 3, 281, 0), (10, 5, 1, 0, 0, 0), (7, 0, 0, 0, 0, 0), (12, 11, 0, 2, 10, 0), (5, 2, 0, 0, 0, 0), (67, 113, 2, 3, 61, 0), (10, 6, 1, 0, 0, 0), (7, 0, 0, 0, 0, 0), (12, 11, 0, 2, 10, 0), (5, 3, 0, 0, 0, 0), (67, 113, 2, 3, 61, 0), (10, 7, 1, 0, 0, 0), (7, 5, 1, 0, 0, 0), (55, 0, 26, 0, 0, 0), (7, 6, 1, 0, 0, 0), (55, 0, 26, 0, 0, 0), (7, 7, 1, 0, 0, 0), (55, 0, 26, 0, 0, 0), (5, 4, 1, 0, 0, 0), (53, 2, 26, 0, 0, 0), (5, 4, 1, 0, 0, 0), (0, 0, 0, 0, 0, 4), (54, 5, 28, 0, 0, 0), (0, 0, 0, 0, 0, -1), (61, 0, 0, 0, 0, 0), (7, 6, 1, 0, 0, 0), (67, 13, 1, 0, 76, 0), (7, 7, 1, 0, 0, 0), (67, 13, 1, 0, 76, 0), (7, 6, 1, 0, 0, 0), (12, 1, 8, 0, 79, 0), (53, 0, 38, 0, 0, 0), (7, 7, 1, 0, 0, 0), (12, 1, 8, 0, 79, 0), (53, 5, 40, 0, 0, 0), (0, 0, 0, 0, 0, -1), (61, 0, 0, 0, 0, 0), (7, 0, 0, 0, 0, 0), (7, 5, 1, 0, 0, 0), (7, 6, 1, 0, 0, 0), (7, 7, 1, 0, 0, 0), (67, 156, 4, 1, 325, 0), (8, 8, 1, 0, 0, 0), (5, 8, 1, 0, 0, 0), (0, 0, 0, 0, 0, -1), (54, 1, 51, 0, 0, 0), (0, 0, 0, 0, 0, -1), (57, 0, 55, 0, 0, 0), (7, 5, 1, 0, 0, 0), (5, 8, 1, 0, 0, 0), (5, 4, 1, 0, 0, 0), (67, 157, 3, 1, 329, 1), (61, 0, 0, 0, 0, 0)]
def ko_146 : List Nat := [0, 1, 4, 5, 8, 10, 11, 14, 15, 18, 20, 21, 24, 25, 28, 30, 32, 35, 37, 40, 42, 45, 47, 50, 52, 53, 56, 57, 58, 60, 63, 65, 68, 70, 73, 76, 78, 81, 84, 85, 86, 87, 89, 91, 93, 96, 98, 100, 101, 104, 105, 108, 110, 112, 114, 117, 118]
def kc_147 : List RI := [(7, 0, 0, 0, 0, 0), (12, 11, 1, 2, 16, 0), (7, 0, 0, 0, 0, 0), (12, 11, 0, 2, 10, 0), (67, 115, 2, 0, 333, 0), (7, 0, 0, 0, 0, 0), (12, 11, 0, 2, 10, 0), (12, 10, 7, 0, 117, 0), (61, 0, 0, 0, 0, 0)]
def ko_147 : List Nat := [0, 1, 4, 5, 8, 11, 12, 15, 18, 19]
def kc_148 : List RI := [(7, 0, 0, 0, 0, 0), (12, 11, 0, 2, 10, 0), (7, 0, 0, 0, 0, 0), (12, 11, 1, 2, 16, 0), (67, 115, 2, 0, 333, 0), (7, 0, 0, 0, 0, 0), (12, 11, 0, 2, 10, 0), (12, 10, 7, 0, 117, 0), (61, 0, 0, 0, 0, 0)]
def ko_148 : List Nat := [0, 1, 4, 5, 8, 11, 12, 15, 18, 19]
def kc_149 : List RI := [(5, 1, 0, 0, 0, 0), (58, 11, 0, 39, 0, 0), (7, 0, 0, 0, 0, 0), (12, 11, 0, 2, 10, 0), (12, 10, 6, 0, 47, 0), (61, 0, 0, 0, 0, 0), (7, 0, 0, 0, 0, 0), (12, 11, 0, 2, 10, 0), (12, 10, 7, 0, 117, 0), (61, 0, 0, 0, 0, 0), (7, 0, 0, 0, 0, 0), (12, 11, 0, 2, 10, 0), (12, 10, 5, 2, 297, 0), (12, 7, 2, 0, 337, 0), (61, 0, 0, 0, 0, 0), (7, 0, 0, 0, 0, 0), (12, 11, 0, 2, 10, 0), (12, 10, 5, 2, 297, 0), (12, 7, 1, 0, 340, 0), (61, 0, 0, 0, 0, 0), (7, 0, 0, 0, 0, 0), (12, 11, 2, 2, 22, 0), (12, 6, 5, 0, 111, 0), (61, 0, 0, 0, 0, 0), (7, 0, 0, 0, 0, 0), (12, 11, 0, 2, 10, 0), (12, 10, 2, 2, 185, 0), (67, 109, 1, 1, 343, 0), (61, 0, 0, 0, 0, 0), (5, 1, 0, 0, 0, 0), (1, 0, 0, 0, 0, 10), (54, 2, 35, 0, 0, 0), (5, 1, 0, 0, 0, 0), (1, 0, 0, 0, 0, 59), (54, 5, 37, 0, 0, 0), (0, 0, 0, 0, 0, -1), (61, 0, 0, 0, 0, 0), (5, 1, 0, 0, 0, 0), (1, 0, 0, 0, 0, 30), (54, 3, 49, 0, 0, 0), (7, 0, 0, 0, 0, 0), (5, 1, 0, 0, 0, 0), (1, 0, 0, 0, 0, 10), (32, 0, 0, 0, 0, 0), (5, 1, 0, 0, 0, 0), (1, 0, 0, 0, 0, 10), (33, 0, 0, 0, 0, 0), (67, 150, 3, 1, 346, 0), (57, 0, 57, 0, 0, 0), (7, 0, 0, 0, 0, 0), (5, 1, 0, 0, 0, 0), (1, 0, 0, 0, 0, 10), (32, 0, 0, 0, 0, 0), (5, 1, 0, 0, 0, 0), (1, 0, 0, 0, 0, 10), (33, 0, 0, 0, 0, 0), (67, 151, 3, 1, 349, 0), (61, 0, 0, 0, 0, 0)]
def ko_149 : List Nat := [0, 1, 40, 41, 44, 47, 48, 49, 52, 55, 56, 57, 60, 63, 66, 67, 68, 71, 74, 77, 78, 79, 82, 85, 86, 87, 90, 93, 96, 97, 98, 100, 103, 104, 106, 109, 110, 111, 112, 114, 117, 118, 119, 121, 122, 123, 125, 126, 129, 132, 133, 134, 136, 137, 138, 140, 141, 144, 145]
def kc_150 : List RI := [(7, 0, 0, 0, 0, 0), (12, 11, 0, 2, 10, 0), (5, 2, 0, 0, 0, 0), (67, 113, 2, 3, 61, 0), (10, 3, 0, 0, 0, 0), (7, 3, 0, 0, 0, 0), (56, 0, 9, 0, 0, 0), (0, 0, 0, 0, 0, -1), (61, 0, 0, 0, 0, 0), (5, 1, 0, 0, 0, 0), (0, 0, 0, 0, 0, 1), (54, 1, 15, 0, 0, 0), (7, 3, 0, 0, 0, 0), (12, 1, 4, 0, 93, 0), (57, 0, 17, 0, 0, 0), (7, 3, 0, 0, 0, 0), (12, 1, 5, 0, 73, 0), (61, 0, 0, 0, 0, 0)]
def ko_150 : List Nat := [0, 1, 4, 5, 8, 9, 10, 13, 14, 15, 16, 17, 20, 21, 24, 27, 28, 31, 32]
def kc_151 : List RI := [(7, 0, 0, 0, 0, 0), (12, 11, 0, 2, 10, 0), (5, 2, 0, 0, 0, 0), (67, 114, 2, 3, 281, 0), (10, 3, 0, 0, 0, 0), (7, 3, 0, 0, 0, 0), (56, 0, 9, 0, 0, 0), (0, 0, 0, 0, 0, -1), (61, 0, 0, 0, 0, 0), (5, 1, 0, 0, 0, 0), (58, 12, 0, 28, 0, 0), (7, 3, 0, 0, 0, 0), (12, 8, 1, 0, 285, 0), (61, 0, 0, 0, 0, 0), (7, 3, 0, 0, 0, 0), (12, 8, 3, 3, 352, 0), (67, 159, 1, 1, 150, 1), (61, 0, 0, 0, 0, 0), (7, 3, 0, 0, 0, 0), (12, 8, 2, 0, 355, 0), (61, 0, 0, 0, 0, 0), (0, 0, 0, 0, 0, -1), (61, 0, 0, 0, 0, 0)]
def ko_151 : List Nat := [0, 1, 4, 5, 8, 9, 10, 13, 14, 15, 16, 44, 45, 48, 49, 50, 53, 56, 57, 58, 61, 62, 63, 64]
def kc_152 : List RI := [(7, 0, 0, 0, 0, 0), (12, 11, 0, 2, 10, 0), (5, 1, 0, 0, 0, 0), (67, 114, 2, 3, 281, 0), (10, 3, 0, 0, 0, 0), (7, 0, 0, 0, 0, 0), (12, 11, 0, 2, 10, 0), (5, 2, 0, 0, 0, 0), (67, 113, 2, 3, 61, 0), (10, 4, 1, 0, 0, 0), (7, 3, 0, 0, 0, 0), (55, 0, 14, 0, 0, 0), (7, 4, 1, 0, 0, 0), (56, 0, 16, 0, 0, 0), (0, 0, 0, 0, 0, 0), (62, 0, 0, 0, 0, 0), (7, 4, 1, 0, 0, 0), (67, 13, 1, 0, 76, 0), (7, 0, 0, 0, 0, 0), (12, 11, 3, 2, 29, 0), (7, 4, 1, 0, 0, 0), (7, 3, 0, 0, 0, 0), (12, 8, 1, 0, 285, 0), (7, 3, 0, 0, 0, 0), (12, 8, 3, 3, 352, 0), (7, 3, 0, 0, 0, 0), (12, 8, 2, 0, 355, 0), (7, 3, 0, 0, 0, 0), (12, 8, 0, 2, 358, 0), (67, 45, 6, 0, 361, 0), (0, 0, 0, 0, 0, 1), (62, 0, 0, 0, 0, 0)]
def ko_152 : List Nat := [0, 1, 4, 5, 8, 9, 10, 13, 14, 17, 19, 20, 23, 25, 28, 29, 30, 32, 35, 36, 39, 41, 42, 45, 46, 49, 50, 53, 54, 57, 60, 61, 62]
def kc_153 : List RI := [(7, 0, 0, 0, 0, 0), (12, 11, 5, 2, 40, 0), (5, 1, 0, 0, 0, 0), (67, 63, 2, 0, 364, 0), (7, 0, 0, 0, 0, 0), (12, 11, 6, 2, 44, 0), (0, 0, 0, 0, 0, 1), (67, 63, 2, 0, 364, 0), (0, 0, 0, 0, 0, 1), (8, 2, 0, 0, 0, 0), (5, 2, 0, 0, 0, 0), (2, 0, 0, 0, 0, 500), (54, 3, 35, 0, 0, 0), (7, 0, 0, 0, 0, 0), (12, 11, 5, 2, 40, 0), (7, 0, 0, 0, 0, 0), (12, 11, 3, 2, 29, 0), (12, 4, 9, 0, 169, 0), (67, 64, 2, 0, 365, 0), (7, 0, 0, 0, 0, 0), (12, 11, 6, 2, 44, 0), (7, 0, 0, 0, 0, 0), (12, 11, 3, 2, 29, 0), (12, 4, 8, 0, 141, 0), (67, 64, 2, 0, 365, 0), (7, 0, 0, 0, 0, 0), (12, 11, 5, 2, 40, 0), (7, 0, 0, 0, 0, 0), (12, 11, 6, 2, 44, 0), (67, 65, 2, 1, 368, 0), (53, 1, 33, 0, 0, 0), (5, 2, 0, 0, 0, 0), (61, 0, 0, 0, 0, 0), (11, 2, 0, 0, 0, 1), (57, 0, 10, 0, 0, 0), (0, 0, 0, 0, 0, -1), (61, 0, 0, 0, 0, 0)]
def ko_153 : List Nat := [0, 1, 4, 5, 8, 9, 12, 13, 16, 17, 18, 19, 22, 25, 26, 29, 30, 33, 36, 39, 40, 43, 44, 47, 50, 53, 54, 57, 58, 61, 64, 67, 68, 69, 72, 75, 76, 77]
def kc_154 : List RI := [(0, 0, 0, 0, 0, 0), (8, 5, 1, 0, 0, 0), (0, 0, 0, 0, 0, 0), (8, 6, 1, 0, 0, 0), (5, 6, 1, 0, 0, 0), (7, 0, 0, 0, 0, 0), (12, 1, 5, 0, 73, 0), (54, 3, 36, 0, 0, 0), (7, 0, 0, 0, 0, 0), (5, 6, 1, 0, 0, 0), (5, 1, 0, 0, 0, 0), (5, 4, 1, 0, 0, 0), (67, 16, 4, 1, 372, 0), (8, 7, 1, 0, 0, 0), (0, 0, 0, 0, 0, 0), (8, 8, 1, 0, 0, 0), (5, 8, 1, 0, 0, 0), (7, 2, 0, 0, 0, 0), (12, 1, 5, 0, 73, 0), (54, 3, 34, 0, 0, 0), (7, 2, 0, 0, 0, 0), (5, 8, 1, 0, 0, 0), (5, 3, 0, 0, 0, 0), (5, 4, 1, 0, 0, 0), (67, 16, 4, 1, 372, 0), (8, 9, 1, 0, 0, 0), (5, 5, 1, 0, 0, 0), (5, 7, 1, 0, 0, 0), (5, 9, 1, 0, 0, 0), (67, 155, 2, 1, 375, 1), (23, 0, 0, 0, 0, 0), (8, 5, 1, 0, 0, 0), (11, 8, 0, 0, 0, 1), (57, 0, 16, 0, 0, 0), (11, 6, 0, 0, 0, 1), (57, 0, 4, 0, 0, 0), (5, 5, 1, 0, 0, 0), (61, 0, 0, 0, 0, 0)]
def ko_154 : List Nat := [0, 1, 3, 4, 6, 8, 9, 12, 15, 16, 18, 19, 21, 24, 26, 27, 29, 31, 32, 35, 38, 39, 41, 42, 44, 47, 49, 51, 53, 55, 58, 59, 61, 64, 67, 70, 73, 75, 76]
def kc_155 : List RI := [(5, 0, 0, 0, 0, 0), (67, 284, 1, 1, 378, 1), (8, 2, 0, 0, 0, 0), (5, 1, 0, 0, 0, 0), (67, 284, 1, 1, 378, 1), (8, 3, 0, 0, 0, 0), (5, 2, 0, 0, 0, 0), (1, 0, 0, 0, 0, 6), (5, 3, 0, 0, 0, 0), (24, 0, 0, 0, 0, 0), (25, 0, 0, 0, 0, 0), (1, 0, 0, 0, 0, 6), (5, 2, 0, 0, 0, 0), (24, 0, 0, 0, 0, 0), (5, 3, 0, 0, 0, 0), (25, 0, 0, 0, 0, 0), (23, 0, 0, 0, 0, 0), (61, 0, 0, 0, 0, 0)]
def ko_155 : List Nat := [0, 1, 4, 5, 6, 9, 10, 11, 13, 14, 15, 16, 18, 19, 20, 21, 22, 23, 24]
def kc_156 : List RI := [(0, 0, 0, 0, 0, 0), (8, 4, 1, 0, 0, 0), (5, 4, 1, 0, 0, 0), (0, 0, 0, 0, 0, 4), (54, 4, 29, 0, 0, 0), (0, 0, 0, 0, 0, 0), (8, 5, 1, 0, 0, 0), (5, 5, 1, 0, 0, 0), (1, 0, 0, 0, 0, 48), (54, 3, 27, 0, 0, 0), (7, 1, 0, 0, 0, 0), (5, 5, 1, 0, 0, 0), (0, 0, 0, 0, 0, 0), (67, 157, 3, 1, 329, 1), (5, 4, 1, 0, 0, 0), (54, 1, 25, 0, 0, 0), (7, 0, 0, 0, 0, 0), (7, 1, 0, 0, 0, 0), (7, 2, 0, 0, 0, 0), (7, 3, 0, 0, 0, 0), (5, 5, 1, 0, 0, 0), (67, 158, 5, 1, 383, 0), (53, 0, 25, 0, 0, 0), (5, 5, 1, 0, 0, 0), (61, 0, 0, 0, 0, 0), (11, 5, 0, 0, 0, 1), (57, 0, 7, 0, 0, 0), (11, 4, 0, 0, 0, 1), (57, 0, 2, 0, 0, 0), (0, 0, 0, 0, 0, -1), (61, 0, 0, 0, 0, 0)]
def ko_156 : List Nat := [0, 1, 3, 5, 6, 9, 10, 12, 14, 16, 19, 20, 22, 23, 26, 28, 31, 32, 33, 34, 35, 37, 40, 43, 45, 46, 49, 52, 55, 58, 59, 60]
def kc_157 : List RI := [(71, 2, 0, 1, 387, 4), (5, 1, 0, 0, 0, 0), (1, 0, 0, 0, 0, 12), (32, 0, 0, 0, 0, 0), (71, 2, 0, 1, 387, 4), (22, 0, 0, 0, 0, 0), (33, 0, 0, 0, 0, 0), (14, 0, 0, 0, 0, 0), (8, 3, 0, 0, 0, 0), (5, 1, 0, 0, 0, 0), (1, 0, 0, 0, 0, 6), (32, 0, 0, 0, 0, 0), (0, 0, 0, 0, 0, 2), (33, 0, 0, 0, 0, 0), (8, 4, 1, 0, 0, 0), (5, 1, 0, 0, 0, 0), (0, 0, 0, 0, 0, 2), (32, 0, 0, 0, 0, 0), (0, 0, 0, 0, 0, 3), (33, 0, 0, 0, 0, 0), (8, 5, 1, 0, 0, 0), (5, 1, 0, 0, 0, 0), (0, 0, 0, 0, 0, 2), (33, 0, 0, 0, 0, 0), (8, 6, 1, 0, 0, 0), (5, 2, 0, 0, 0, 0), (58, 13, 0, 29, 0, 0), (5, 3, 0, 0, 0, 0), (7, 0, 0, 0, 0, 0), (12, 8, 1, 0, 285, 0), (54, 0, 33, 0, 0, 0), (0, 0, 0, 0, 0, 1), (57, 0, 34, 0, 0, 0), (0, 0, 0, 0, 0, 0), (67, 159, 1, 1, 150, 1), (5, 4, 1, 0, 0, 0), (7, 0, 0, 0, 0, 0), (12, 8, 3, 3, 352, 0), (67, 159, 1, 1, 150, 1), (54, 0, 42, 0, 0, 0), (0, 0, 0, 0, 0, 1), (57, 0, 43, 0, 0, 0), (0, 0, 0, 0, 0, 0), (67, 159, 1, 1, 150, 1), (23, 0, 0, 0, 0, 0), (5, 5, 1, 0, 0, 0), (7, 0, 0, 0, 0, 0), (12, 8, 2, 0, 355, 0), (54, 0, 51, 0, 0, 0), (0, 0, 0, 0, 0, 1), (57, 0, 52, 0, 0, 0), (0, 0, 0, 0, 0, 0), (67, 159, 1, 1, 150, 1), (23, 0, 0, 0, 0, 0), (5, 6, 1, 0, 0, 0), (23, 0, 0, 0, 0, 0), (61, 0, 0, 0, 0, 0), (5, 3, 0, 0, 0, 0), (61, 0, 0, 0, 0, 0), (5, 4, 1, 0, 0, 0), (61, 0, 0, 0, 0, 0), (5, 5, 1, 0, 0, 0), (61, 0, 0, 0, 0, 0), (5, 6, 1, 0, 0, 0), (61, 0, 0, 0, 0, 0)]
def ko_157 : List Nat := [0, 3, 4, 6, 7, 10, 11, 12, 13, 14, 15, 17, 18, 19, 20, 22, 23, 24, 25, 26, 27, 29, 30, 31, 32, 34, 35, 64, 65, 66, 69, 72, 73, 76, 77, 80, 82, 83, 86, 89, 92, 93, 96, 97, 100, 101, 103, 104, 107, 110, 111, 114, 115, 118, 119, 121, 122, 123, 124, 125, 127, 128, 130, 131, 133, 134]
def kc_158 : List RI := [(7, 1, 0, 0, 0, 0), (5, 4, 1, 0, 0, 0), (0, 0, 0, 0, 0, 1), (67, 157, 3, 1, 329, 1), (8, 5, 1, 0, 0, 0), (7, 1, 0, 0, 0, 0), (5, 4, 1, 0, 0, 0), (0, 0, 0, 0, 0, 2), (67, 157, 3, 1, 329, 1), (0, 0, 0, 0, 0, 1), (54, 1, 13, 0, 0, 0), (0, 0, 0, 0, 0, 1), (57, 0, 14, 0, 0, 0), (0, 0, 0, 0, 0, 0), (8, 6, 1, 0, 0, 0), (7, 1, 0, 0, 0, 0), (5, 4, 1, 0, 0, 0), (0, 0, 0, 0, 0, 3), (67, 157, 3, 1, 329, 1), (8, 7, 1, 0, 0, 0), (7, 1, 0, 0, 0, 0), (5, 4, 1, 0, 0, 0), (0, 0, 0, 0, 0, 4), (67, 157, 3, 1, 329, 1), (0, 0, 0, 0, 0, 1), (54, 1, 29, 0, 0, 0), (7, 0, 0, 0, 0, 0), (12, 11, 4, 2, 33, 0), (57, 0, 31, 0, 0, 0), (7, 1, 0, 0, 0, 0), (12, 8, 0, 2, 358, 0), (10, 8, 1, 0, 0, 0), (7, 0, 0, 0, 0, 0), (12, 11, 3, 2, 29, 0), (7, 2, 0, 0, 0, 0), (5, 5, 1, 0, 0, 0), (5, 6, 1, 0, 0, 0), (5, 7, 1, 0, 0, 0), (7, 8, 1, 0, 0, 0), (67, 45, 6, 0, 361, 0), (7, 0, 0, 0, 0, 0), (12, 11, 3, 2, 29, 0), (0, 0, 0, 0, 0, 2), (67, 53, 2, 1, 179, 0), (53, 1, 49, 0, 0, 0), (7, 0, 0, 0, 0, 0), (12, 11, 3, 2, 29, 0), (67, 49, 1, 1, 154, 0), (53, 0, 51, 0, 0, 0), (0, 0, 0, 0, 0, 0), (62, 0, 0, 0, 0, 0), (7, 0, 0, 0, 0, 0), (12, 11, 3, 2, 29, 0), (7, 3, 0, 0, 0, 0), (5, 5, 1, 0, 0, 0), (5, 6, 1, 0, 0, 0), (5, 7, 1, 0, 0, 0), (7, 8, 1, 0, 0, 0), (67, 45, 6, 0, 361, 0), (7, 0, 0, 0, 0, 0), (12, 11, 3, 2, 29, 0), (67, 51, 1, 0, 166, 0), (7, 0, 0, 0, 0, 0), (12, 11, 3, 2, 29, 0), (12, 4, 9, 0, 169, 0), (7, 0, 0, 0, 0, 0), (12, 11, 3, 2, 29, 0), (12, 4, 8, 0, 141, 0), (54, 3, 71, 0, 0, 0), (0, 0, 0, 0, 0, 1), (57, 0, 72, 0, 0, 0), (0, 0, 0, 0, 0, 0), (62, 0, 0, 0, 0, 0)]
def ko_158 : List Nat := [0, 1, 3, 4, 7, 9, 10, 12, 13, 16, 17, 20, 21, 24, 25, 27, 28, 30, 31, 34, 36, 37, 39, 40, 43, 44, 47, 48, 51, 54, 55, 58, 60, 61, 64, 65, 67, 69, 71, 73, 76, 77, 80, 81, 84, 87, 88, 91, 94, 97, 98, 99, 100, 103, 104, 106, 108, 110, 112, 115, 116, 119, 122, 123, 126, 129, 130, 133, 136, 139, 140, 143, 144, 145]
def kc_159 : List RI := [(5, 0, 0, 0, 0, 0), (53, 0, 4, 0, 0, 0), (0, 0, 0, 0, 0, 1), (57, 0, 5, 0, 0, 0), (0, 0, 0, 0, 0, 0), (61, 0, 0, 0, 0, 0)]
def ko_159 : List Nat := [0, 1, 4, 5, 8, 9, 10]
def kc_160 : List RI := [(5, 0, 0, 0, 0, 0), (53, 2, 7, 0, 0, 0), (5, 0, 0, 0, 0, 0), (0, 0, 0, 0, 0, 3), (54, 3, 7, 0, 0, 0), (0, 0, 0, 0, 0, 1), (57, 0, 8, 0, 0, 0), (0, 0, 0, 0, 0, 0), (62, 0, 0, 0, 0, 0)]
def ko_160 : List Nat := [0, 1, 4, 5, 6, 9, 10, 13, 14, 15]
def kc_161 : List RI := [(5, 0, 0, 0, 0, 0), (53, 2, 7, 0, 0, 0), (5, 0, 0, 0, 0, 0), (1, 0, 0, 0, 0, 6), (54, 3, 7, 0, 0, 0), (0, 0, 0, 0, 0, 1), (57, 0, 8, 0, 0, 0), (0, 0, 0, 0, 0, 0), (62, 0, 0, 0, 0, 0)]
def ko_161 : List Nat := [0, 1, 4, 5, 7, 10, 11, 14, 15, 16]
def kc_162 : List RI := [(5, 0, 0, 0, 0, 0), (58, 14, 0, 35, 0, 0), (0, 0, 0, 0, 0, 3), (61, 0, 0, 0, 0, 0), (1, 0, 0, 0, 0, 13), (61, 0, 0, 0, 0, 0), (1, 0, 0, 0, 0, 63), (61, 0, 0, 0, 0, 0), (0, 0, 0, 0, 0, 1), (61, 0, 0, 0, 0, 0)]
def ko_162 : List Nat := [0, 1, 36, 37, 38, 40, 41, 43, 44, 45, 46]
def kc_163 : List RI := [(0, 0, 0, 0, 0, 1), (8, 1, 0, 0, 0, 0), (0, 0, 0, 0, 0, 0), (8, 2, 0, 0, 0, 0), (5, 2, 0, 0, 0, 0), (5, 0, 0, 0, 0, 0), (54, 3, 13, 0, 0, 0), (5, 1, 0, 0, 0, 0), (0, 0, 0, 0, 0, 3), (25, 0, 0, 0, 0, 0), (8, 1, 0, 0, 0, 0), (11, 2, 0, 0, 0, 1), (57, 0, 4, 0, 0, 0), (5, 1, 0, 0, 0, 0), (61, 0, 0, 0, 0, 0)]
def ko_163 : List Nat := [0, 1, 2, 3, 4, 5, 6, 9, 10, 11, 12, 13, 16, 19, 20, 21]
def kc_164 : List RI := [(0, 0, 0, 0, 0, 0), (8, 2, 0, 0, 0, 0), (5, 0, 0, 0, 0, 0), (8, 3, 0, 0, 0, 0), (5, 1, 0, 0, 0, 0), (0, 0, 0, 0, 0, 1), (24, 0, 0, 0, 0, 0), (8, 4, 1, 0, 0, 0), (5, 4, 1, 0, 0, 0), (53, 2, 26, 0, 0, 0), (5, 2, 0, 0, 0, 0), (5, 3, 0, 0, 0, 0), (0, 0, 0, 0, 0, 3), (33, 0, 0, 0, 0, 0), (0, 0, 0, 0, 0, 2), (5, 4, 1, 0, 0, 0), (25, 0, 0, 0, 0, 0), (29, 0, 0, 0, 0, 0), (27, 0, 0, 0, 0, 0), (8, 2, 0, 0, 0, 0), (5, 3, 0, 0, 0, 0), (0, 0, 0, 0, 0, 3), (32, 0, 0, 0, 0, 0), (8, 3, 0, 0, 0, 0), (11, 4, 0, 0, 0, -1), (57, 0, 8, 0, 0, 0), (5, 2, 0, 0, 0, 0), (61, 0, 0, 0, 0, 0)]
def ko_164 : List Nat := [0, 1, 2, 3, 4, 5, 6, 7, 9, 11, 14, 15, 16, 17, 18, 19, 21, 22, 23, 24, 25, 26, 27, 28, 29, 32, 35, 36, 37]
def kc_165 : List RI := [(5, 0, 0, 0, 0, 0), (0, 0, 0, 0, 0, 2), (5, 1, 0, 0, 0, 0), (25, 0, 0, 0, 0, 0), (30, 0, 0, 0, 0, 0), (0, 0, 0, 0, 0, 3), (26, 0, 0, 0, 0, 0), (61, 0, 0, 0, 0, 0)]
def ko_165 : List Nat := [0, 1, 2, 3, 4, 5, 6, 7, 8]
def kc_166 : List RI := [(5, 0, 0, 0, 0, 0), (5, 1, 0, 0, 0, 0), (67, 165, 2, 1, 390, 1), (0, 0, 0, 0, 0, 3), (25, 0, 0, 0, 0, 0), (5, 0, 0, 0, 0, 0), (5, 2, 0, 0, 0, 0), (67, 165, 2, 1, 390, 1), (23, 0, 0, 0, 0, 0), (61, 0, 0, 0, 0, 0)]
def ko_166 : List Nat := [0, 1, 2, 5, 6, 7, 8, 9, 12, 13, 14]
def kc_167 : List RI := [(0, 0, 0, 0, 0, 0), (8, 3, 0, 0, 0, 0), (0, 0, 0, 0, 0, 1), (8, 4, 1, 0, 0, 0), (5, 0, 0, 0, 0, 0), (8, 5, 1, 0, 0, 0), (0, 0, 0, 0, 0, 0), (8, 6, 1, 0, 0, 0), (5, 6, 1, 0, 0, 0), (5, 1, 0, 0, 0, 0), (54, 3, 35, 0, 0, 0), (5, 3, 0, 0, 0, 0), (71, 0, 0, 1, 393, 2), (5, 2, 0, 0, 0, 0), (0, 0, 0, 0, 0, 3), (25, 0, 0, 0, 0, 0), (5, 5, 1, 0, 0, 0), (0, 0, 0, 0, 0, 3), (33, 0, 0, 0, 0, 0), (23, 0, 0, 0, 0, 0), (14, 0, 0, 0, 0, 0), (5, 4, 1, 0, 0, 0), (25, 0, 0, 0, 0, 0), (23, 0, 0, 0, 0, 0), (8, 3, 0, 0, 0, 0), (5, 5, 1, 0, 0, 0), (0, 0, 0, 0, 0, 3), (32, 0, 0, 0, 0, 0), (8, 5, 1, 0, 0, 0), (5, 4, 1, 0, 0, 0), (0, 0, 0, 0, 0, 3), (25, 0, 0, 0, 0, 0), (8, 4, 1, 0, 0, 0), (11, 6, 0, 0, 0, 1), (57, 0, 8, 0, 0, 0), (5, 3, 0, 0, 0, 0), (61, 0, 0, 0, 0, 0)]
def ko_167 : List Nat := [0, 1, 2, 3, 5, 6, 8, 9, 11, 13, 14, 17, 18, 21, 22, 23, 24, 26, 27, 28, 29, 30, 32, 33, 34, 35, 37, 38, 39, 41, 43, 44, 45, 47, 50, 53, 54, 55]
def kc_168 : List RI := [(71, 0, 0, 1, 393, 2), (5, 1, 0, 0, 0, 0), (0, 0, 0, 0, 0, 3), (25, 0, 0, 0, 0, 0), (5, 0, 0, 0, 0, 0), (0, 0, 0, 0, 0, 3), (32, 0, 0, 0, 0, 0), (23, 0, 0, 0, 0, 0), (14, 0, 0, 0, 0, 0), (8, 2, 0, 0, 0, 0), (5, 2, 0, 0, 0, 0), (0, 0, 0, 0, 0, 3), (25, 0, 0, 0, 0, 0), (71, 0, 0, 1, 393, 2), (5, 1, 0, 0, 0, 0), (0, 0, 0, 0, 0, 3), (25, 0, 0, 0, 0, 0), (5, 0, 0, 0, 0, 0), (0, 0, 0, 0, 0, 3), (33, 0, 0, 0, 0, 0), (23, 0, 0, 0, 0, 0), (14, 0, 0, 0, 0, 0), (23, 0, 0, 0, 0, 0), (61, 0, 0, 0, 0, 0)]
def ko_168 : List Nat := [0, 3, 4, 5, 6, 7, 8, 9, 10, 11, 12, 13, 14, 15, 18, 19, 20, 21, 22, 23, 24, 25, 26, 27, 28]
def kc_169 : List RI := [(5, 0, 0, 0, 0, 0), (5, 1, 0, 0, 0, 0), (30, 0, 0, 0, 0, 0), (0, 0, 0, 0, 0, 1), (26, 0, 0, 0, 0, 0), (0, 0, 0, 0, 0, 1), (54, 1, 9, 0, 0, 0), (0, 0, 0, 0, 0, 1), (57, 0, 10, 0, 0, 0), (0, 0, 0, 0, 0, 0), (62, 0, 0, 0, 0, 0)]
def ko_169 : List Nat := [0, 1, 2, 3, 4, 5, 6, 9, 10, 13, 14, 15]
def kc_170 : List RI := [(7, 0, 0, 0, 0, 0), (75, 0, 0, 0, 1, 0), (7, 0, 0, 0, 0, 0), (2, 0, 0, 0, 0, 340), (69, 100, 0, 0, 0, 0), (13, 12, 0, 2, 7, 1), (7, 0, 0, 0, 0, 0), (2, 0, 0, 0, 0, 340), (69, 100, 0, 0, 0, 0), (13, 12, 1, 2, 13, 1), (7, 0, 0, 0, 0, 0), (2, 0, 0, 0, 0, 6400), (69, 100, 0, 0, 0, 0), (13, 12, 2, 2, 16, 1), (7, 0, 0, 0, 0, 0), (1, 0, 0, 0, 0, 18), (69, 100, 0, 0, 0, 0), (50, 0, 0, 0, 0, 0), (0, 0, 0, 0, 0, 0), (0, 0, 0, 0, 0, 0), (18, 0, 0, 0, 0, 0), (50, 0, 0, 0, 0, 0), (0, 0, 0, 0, 0, 1), (0, 0, 0, 0, 0, 1), (18, 0, 0, 0, 0, 0), (50, 0, 0, 0, 0, 0), (0, 0, 0, 0, 0, 2), (0, 0, 0, 0, 0, 2), (18, 0, 0, 0, 0, 0), (50, 0, 0, 0, 0, 0), (0, 0, 0, 0, 0, 3), (0, 0, 0, 0, 0, 1), (18, 0, 0, 0, 0, 0), (50, 0, 0, 0, 0, 0), (0, 0, 0, 0, 0, 4), (0, 0, 0, 0, 0, 0), (18, 0, 0, 0, 0, 0), (50, 0, 0, 0, 0, 0), (0, 0, 0, 0, 0, 5), (0, 0, 0, 0, 0, 2), (18, 0, 0, 0, 0, 0), (50, 0, 0, 0, 0, 0), (1, 0, 0, 0, 0, 6), (0, 0, 0, 0, 0, 1), (18, 0, 0, 0, 0, 0), (50, 0, 0, 0, 0, 0), (1, 0, 0, 0, 0, 7), (0, 0, 0, 0, 0, 2), (18, 0, 0, 0, 0, 0), (50, 0, 0, 0, 0, 0), (1, 0, 0, 0, 0, 8), (0, 0, 0, 0, 0, 0), (18, 0, 0, 0, 0, 0), (50, 0, 0, 0, 0, 0), (1, 0, 0, 0, 0, 9), (0, 0, 0, 0, 0, 2), (18, 0, 0, 0, 0, 0), (50, 0, 0, 0, 0, 0), (1, 0, 0, 0, 0, 10), (0, 0, 0, 0, 0, 0), (18, 0, 0, 0, 0, 0), (50, 0, 0, 0, 0, 0), (1, 0, 0, 0, 0, 11), (0, 0, 0, 0, 0, 1), (18, 0, 0, 0, 0, 0), (50, 0, 0, 0, 0, 0), (1, 0, 0, 0, 0, 12), (0, 0, 0, 0, 0, 0), (18, 0, 0, 0, 0, 0), (50, 0, 0, 0, 0, 0), (1, 0, 0, 0, 0, 13), (0, 0, 0, 0, 0, 2), (18, 0, 0, 0, 0, 0), (50, 0, 0, 0, 0, 0), (1, 0, 0, 0, 0, 14), (0, 0, 0, 0, 0, 1), (18, 0, 0, 0, 0, 0), (50, 0, 0, 0, 0, 0), (1, 0, 0, 0, 0, 15), (0, 0, 0, 0, 0, 2), (18, 0, 0, 0, 0, 0), (50, 0, 0, 0, 0, 0), (1, 0, 0, 0, 0, 16), (0, 0, 0, 0, 0, 1), (18, 0, 0, 0, 0, 0), (50, 0, 0, 0, 0, 0), (1, 0, 0, 0, 0, 17), (0, 0, 0, 0, 0, 0), (18, 0, 0, 0, 0, 0), (13, 12, 3, 2, 19, 1), (7, 0, 0, 0, 0, 0), (1, 0, 0, 0, 0, 8), (69, 100, 0, 0, 0, 0), (50, 0, 0, 0, 0, 0), (0, 0, 0, 0, 0, 0), (0, 0, 0, 0, 0, 1), (18, 0, 0, 0, 0, 0), (50, 0, 0, 0, 0, 0), (0, 0, 0, 0, 0, 1), (0, 0, 0, 0, 0, 3), (18, 0, 0, 0, 0, 0), (50, 0, 0, 0, 0, 0), (0, 0, 0, 0, 0, 2), (1, 0, 0, 0, 0, 9), (18, 0, 0, 0, 0, 0), (50, 0, 0, 0, 0, 0), (0, 0, 0, 0, 0, 3), (1, 0, 0, 0, 0, 27), (18, 0, 0, 0, 0, 0), (50, 0, 0, 0, 0, 0), (0, 0, 0, 0, 0, 4), (1, 0, 0, 0, 0, 81), (18, 0, 0, 0, 0, 0), (50, 0, 0, 0, 0, 0), (0, 0, 0, 0, 0, 5), (2, 0, 0, 0, 0, 243), (18, 0, 0, 0, 0, 0), (50, 0, 0, 0, 0, 0), (1, 0, 0, 0, 0, 6), (2, 0, 0, 0, 0, 729), (18, 0, 0, 0, 0, 0), (50, 0, 0, 0, 0, 0), (1, 0, 0, 0, 0, 7), (2, 0, 0, 0, 0, 2187), (18, 0, 0, 0, 0, 0), (13, 12, 4, 2, 22, 1), (7, 0, 0, 0, 0, 0), (2, 0, 0, 0, 0, 2187), (69, 100, 0, 0, 0, 0), (13, 12, 5, 2, 25, 1), (7, 0, 0, 0, 0, 0), (1, 0, 0, 0, 0, 7), (69, 100, 0, 0, 0, 0), (13, 12, 7, 2, 28, 1), (7, 0, 0, 0, 0, 0), (2, 0, 0, 0, 0, 300), (69, 100, 0, 0, 0, 0), (13, 12, 8, 2, 31, 1), (7, 0, 0, 0, 0, 0), (0, 0, 0, 0, 0, -1), (13, 12, 10, 0, 34, 0), (7, 0, 0, 0, 0, 0), (0, 0, 0, 0, 0, -1), (13, 12, 11, 0, 38, 0), (7, 0, 0, 0, 0, 0), (2, 0, 0, 0, 0, 160), (69, 100, 0, 0, 0, 0), (13, 12, 21, 2, 41, 1), (7, 0, 0, 0, 0, 0), (0, 0, 0, 0, 0, 4), (69, 100, 0, 0, 0, 0), (13, 12, 29, 2, 44, 1), (7, 0, 0, 0, 0, 0), (2, 0, 0, 0, 0, 330), (69, 101, 0, 0, 0, 0), (13, 12, 30, 2, 47, 1), (7, 0, 0, 0, 0, 0), (2, 0, 0, 0, 0, 330), (69, 102, 0, 0, 0, 0), (13, 12, 31, 2, 51, 1), (7, 0, 0, 0, 0, 0), (2, 0, 0, 0, 0, 200), (69, 100, 0, 0, 0, 0), (13, 12, 37, 2, 55, 1), (7, 0, 0, 0, 0, 0), (2, 0, 0, 0, 0, 200), (69, 100, 0, 0, 0, 0), (13, 12, 38, 2, 58, 1), (7, 0, 0, 0, 0, 0), (1, 0, 0, 0, 0, 81), (69, 100, 0, 0, 0, 0), (13, 12, 39, 2, 61, 1), (7, 0, 0, 0, 0, 0), (1, 0, 0, 0, 0, 81), (69, 100, 0, 0, 0, 0), (13, 12, 40, 2, 64, 1), (0, 0, 0, 0, 0, 0), (8, 1, 0, 0, 0, 0), (5, 1, 0, 0, 0, 0), (2, 0, 0, 0, 0, 140), (54, 3, 190, 0, 0, 0), (7, 0, 0, 0, 0, 0), (12, 12, 0, 2, 7, 0), (2, 0, 0, 0, 0, 150), (5, 1, 0, 0, 0, 0), (23, 0, 0, 0, 0, 0), (0, 0, 0, 0, 0, -1), (18, 0, 0, 0, 0, 0), (11, 1, 0, 0, 0, 1), (57, 0, 178, 0, 0, 0), (7, 0, 0, 0, 0, 0), (12, 12, 0, 2, 7, 0), (1, 0, 0, 0, 0, 10), (0, 0, 0, 0, 0, 1), (18, 0, 0, 0, 0, 0), (7, 0, 0, 0, 0, 0), (12, 12, 0, 2, 7, 0), (1, 0, 0, 0, 0, 13), (0, 0, 0, 0, 0, 3), (18, 0, 0, 0, 0, 0), (7, 0, 0, 0, 0, 0), (12, 12, 0, 2, 7, 0), (1, 0, 0, 0, 0, 14), (0, 0, 0, 0, 0, 1), (18, 0, 0, 0, 0, 0), (7, 0, 0, 0, 0, 0), (12, 12, 0, 2, 7, 0), (0, 0, 0, 0, 0, 3), (0, 0, 0, 0, 0, 1), (18, 0, 0, 0, 0, 0), (7, 0, 0, 0, 0, 0), (12, 12, 0, 2, 7, 0), (7, 0, 0, 0, 0, 0), (12, 12, 1, 2, 13, 0), (67, 171, 2, 0, 67, 1), (60, 0, 0, 0, 0, 0)]
def ko_170 : List Nat := [0, 1, 4, 5, 8, 10, 13, 14, 17, 19, 22, 23, 26, 28, 31, 32, 34, 36, 37, 38, 39, 40, 41, 42, 43, 44, 45, 46, 47, 48, 49, 50, 51, 52, 53, 54, 55, 56, 57, 58, 59, 60, 61, 63, 64, 65, 66, 68, 69, 70, 71, 73, 74, 75, 76, 78, 79, 80, 81, 83, 84, 85, 86, 88, 89, 90, 91, 93, 94, 95, 96, 98, 99, 100, 101, 103, 104, 105, 106, 108, 109, 110, 111, 113, 114, 115, 116, 118, 119, 120, 123, 124, 126, 128, 129, 130, 131, 132, 133, 134, 135, 136, 137, 138, 140, 141, 142, 143, 145, 146, 147, 148, 150, 151, 152, 153, 156, 157, 158, 160, 163, 164, 165, 167, 170, 171, 174, 175, 178, 180, 183, 184, 186, 188, 191, 192, 195, 197, 200, 201, 202, 205, 206, 207, 210, 211, 214, 216, 219, 220, 221, 223, 226, 227, 230, 232, 235, 236, 239, 241, 244, 245, 248, 250, 253, 254, 257, 259, 262, 263, 265, 267, 270, 271, 273, 275, 278, 279, 280, 281, 284, 287, 288, 291, 294, 295, 296, 297, 298, 301, 304, 305, 308, 310, 311, 312, 313, 316, 318, 319, 320, 321, 324, 326, 327, 328, 329, 332, 333, 334, 335, 336, 339, 340, 343, 346, 347]
def kc_171 : List RI := [(0, 0, 0, 0, 0, 0), (8, 2, 0, 0, 0, 0), (5, 2, 0, 0, 0, 0), (2, 0, 0, 0, 0, 340), (54, 3, 13, 0, 0, 0), (7, 1, 0, 0, 0, 0), (5, 2, 0, 0, 0, 0), (7, 0, 0, 0, 0, 0), (5, 2, 0, 0, 0, 0), (14, 0, 0, 0, 0, 0), (18, 0, 0, 0, 0, 0), (11, 2, 0, 0, 0, 1), (57, 0, 2, 0, 0, 0), (60, 0, 0, 0, 0, 0)]
def ko_171 : List Nat := [0, 1, 2, 3, 6, 9, 10, 11, 12, 13, 14, 15, 18, 21, 22]
def kc_172 : List RI := [(5, 0, 0, 0, 0, 0), (5, 1, 0, 0, 0, 0), (54, 2, 8, 0, 0, 0), (5, 0, 0, 0, 0, 0), (5, 2, 0, 0, 0, 0), (54, 4, 8, 0, 0, 0), (0, 0, 0, 0, 0, 1), (57, 0, 9, 0, 0, 0), (0, 0, 0, 0, 0, 0), (62, 0, 0, 0, 0, 0)]
def ko_172 : List Nat := [0, 1, 2, 5, 6, 7, 10, 11, 14, 15, 16]
def kc_173 : List RI := [(5, 1, 0, 0, 0, 0), (0, 0, 0, 0, 0, 0), (7, 0, 0, 0, 0, 0), (12, 12, 0, 2, 7, 0), (0, 0, 0, 0, 0, 0), (14, 0, 0, 0, 0, 0), (0, 0, 0, 0, 0, 1), (24, 0, 0, 0, 0, 0), (67, 172, 3, 1, 71, 1), (62, 0, 0, 0, 0, 0)]
def ko_173 : List Nat := [0, 1, 2, 3, 6, 7, 8, 9, 10, 13, 14]
def kc_174 : List RI := [(7, 0, 0, 0, 0, 0), (12, 12, 3, 2, 19, 0), (0, 0, 0, 0, 0, 3), (5, 1, 0, 0, 0, 0), (25, 0, 0, 0, 0, 0), (5, 2, 0, 0, 0, 0), (23, 0, 0, 0, 0, 0), (14, 0, 0, 0, 0, 0), (61, 0, 0, 0, 0, 0)]
def ko_174 : List Nat := [0, 1, 4, 5, 6, 7, 8, 9, 10, 11]
def kc_175 : List RI := [(5, 1, 0, 0, 0, 0), (0, 0, 0, 0, 0, 2), (1, 0, 0, 0, 0, 7), (67, 172, 3, 1, 71, 1), (53, 0, 11, 0, 0, 0), (7, 0, 0, 0, 0, 0), (12, 12, 0, 2, 7, 0), (0, 0, 0, 0, 0, 0), (14, 0, 0, 0, 0, 0), (0, 0, 0, 0, 0, 4), (54, 1, 13, 0, 0, 0), (0, 0, 0, 0, 0, -1), (61, 0, 0, 0, 0, 0), (7, 0, 0, 0, 0, 0), (12, 12, 0, 2, 7, 0), (1, 0, 0, 0, 0, 20), (7, 0, 0, 0, 0, 0), (12, 12, 0, 2, 7, 0), (0, 0, 0, 0, 0, 0), (14, 0, 0, 0, 0, 0), (23, 0, 0, 0, 0, 0), (5, 1, 0, 0, 0, 0), (18, 0, 0, 0, 0, 0), (7, 0, 0, 0, 0, 0), (12, 12, 0, 2, 7, 0), (0, 0, 0, 0, 0, 0), (51, 0, 0, 0, 0, 0), (14, 0, 0, 0, 0, 0), (0, 0, 0, 0, 0, 1), (23, 0, 0, 0, 0, 0), (18, 0, 0, 0, 0, 0), (7, 0, 0, 0, 0, 0), (12, 12, 0, 2, 7, 0), (0, 0, 0, 0, 0, 0), (14, 0, 0, 0, 0, 0), (0, 0, 0, 0, 0, 1), (24, 0, 0, 0, 0, 0), (61, 0, 0, 0, 0, 0)]
def ko_175 : List Nat := [0, 1, 2, 4, 7, 10, 11, 14, 15, 16, 17, 20, 21, 22, 23, 26, 28, 29, 32, 33, 34, 35, 36, 37, 38, 41, 42, 43, 44, 45, 46, 47, 48, 51, 52, 53, 54, 55, 56]
def kc_176 : List RI := [(7, 0, 0, 0, 0, 0), (12, 12, 0, 2, 7, 0), (1, 0, 0, 0, 0, 30), (1, 0, 0, 0, 0, 30), (5, 1, 0, 0, 0, 0), (25, 0, 0, 0, 0, 0), (23, 0, 0, 0, 0, 0), (0, 0, 0, 0, 0, 2), (5, 2, 0, 0, 0, 0), (25, 0, 0, 0, 0, 0), (23, 0, 0, 0, 0, 0), (14, 0, 0, 0, 0, 0), (61, 0, 0, 0, 0, 0)]
def ko_176 : List Nat := [0, 1, 4, 6, 8, 9, 10, 11, 12, 13, 14, 15, 16, 17]
def kc_177 : List RI := [(7, 0, 0, 0, 0, 0), (12, 12, 0, 2, 7, 0), (1, 0, 0, 0, 0, 30), (1, 0, 0, 0, 0, 30), (5, 1, 0, 0, 0, 0), (25, 0, 0, 0, 0, 0), (23, 0, 0, 0, 0, 0), (0, 0, 0, 0, 0, 2), (5, 2, 0, 0, 0, 0), (25, 0, 0, 0, 0, 0), (23, 0, 0, 0, 0, 0), (0, 0, 0, 0, 0, 1), (23, 0, 0, 0, 0, 0), (14, 0, 0, 0, 0, 0), (61, 0, 0, 0, 0, 0)]
def ko_177 : List Nat := [0, 1, 4, 6, 8, 9, 10, 11, 12, 13, 14, 15, 16, 17, 18, 19]
def kc_178 : List RI := [(0, 0, 0, 0, 0, 0), (8, 4, 1, 0, 0, 0), (5, 4, 1, 0, 0, 0), (7, 0, 0, 0, 0, 0), (12, 12, 0, 2, 7, 0), (1, 0, 0, 0, 0, 24), (5, 1, 0, 0, 0, 0), (23, 0, 0, 0, 0, 0), (14, 0, 0, 0, 0, 0), (54, 3, 38, 0, 0, 0), (7, 0, 0, 0, 0, 0), (5, 1, 0, 0, 0, 0), (5, 4, 1, 0, 0, 0), (67, 176, 3, 1, 75, 0), (5, 2, 0, 0, 0, 0), (54, 1, 22, 0, 0, 0), (7, 0, 0, 0, 0, 0), (5, 1, 0, 0, 0, 0), (5, 4, 1, 0, 0, 0), (67, 177, 3, 1, 79, 0), (5, 3, 0, 0, 0, 0), (54, 0, 34, 0, 0, 0), (7, 0, 0, 0, 0, 0), (5, 1, 0, 0, 0, 0), (5, 4, 1, 0, 0, 0), (67, 176, 3, 1, 75, 0), (5, 3, 0, 0, 0, 0), (54, 1, 36, 0, 0, 0), (7, 0, 0, 0, 0, 0), (5, 1, 0, 0, 0, 0), (5, 4, 1, 0, 0, 0), (67, 177, 3, 1, 79, 0), (5, 2, 0, 0, 0, 0), (54, 1, 36, 0, 0, 0), (0, 0, 0, 0, 0, 1), (62, 0, 0, 0, 0, 0), (11, 4, 0, 0, 0, 1), (57, 0, 2, 0, 0, 0), (0, 0, 0, 0, 0, 0), (62, 0, 0, 0, 0, 0)]
def ko_178 : List Nat := [0, 1, 3, 5, 6, 9, 11, 12, 13, 14, 17, 18, 19, 21, 24, 25, 28, 29, 30, 32, 35, 36, 39, 40, 41, 43, 46, 47, 50, 51, 52, 54, 57, 58, 61, 62, 63, 66, 69, 70, 71]
def kc_179 : List RI := [(7, 0, 0, 0, 0, 0), (5, 1, 0, 0, 0, 0), (67, 173, 2, 1, 82, 0), (53, 0, 45, 0, 0, 0), (5, 2, 0, 0, 0, 0), (0, 0, 0, 0, 0, 0), (7, 0, 0, 0, 0, 0), (12, 12, 0, 2, 7, 0), (1, 0, 0, 0, 0, 20), (5, 1, 0, 0, 0, 0), (23, 0, 0, 0, 0, 0), (14, 0, 0, 0, 0, 0), (0, 0, 0, 0, 0, 1), (24, 0, 0, 0, 0, 0), (67, 172, 3, 1, 71, 1), (53, 0, 45, 0, 0, 0), (5, 3, 0, 0, 0, 0), (0, 0, 0, 0, 0, 0), (7, 0, 0, 0, 0, 0), (12, 12, 0, 2, 7, 0), (1, 0, 0, 0, 0, 20), (5, 1, 0, 0, 0, 0), (23, 0, 0, 0, 0, 0), (14, 0, 0, 0, 0, 0), (0, 0, 0, 0, 0, 1), (24, 0, 0, 0, 0, 0), (67, 172, 3, 1, 71, 1), (53, 0, 45, 0, 0, 0), (5, 2, 0, 0, 0, 0), (5, 3, 0, 0, 0, 0), (54, 0, 45, 0, 0, 0), (7, 0, 0, 0, 0, 0), (5, 1, 0, 0, 0, 0), (5, 2, 0, 0, 0, 0), (5, 3, 0, 0, 0, 0), (67, 178, 4, 1, 86, 0), (53, 1, 45, 0, 0, 0), (7, 0, 0, 0, 0, 0), (12, 12, 0, 2, 7, 0), (1, 0, 0, 0, 0, 24), (5, 1, 0, 0, 0, 0), (23, 0, 0, 0, 0, 0), (14, 0, 0, 0, 0, 0), (1, 0, 0, 0, 0, 15), (54, 1, 47, 0, 0, 0), (0, 0, 0, 0, 0, -1), (61, 0, 0, 0, 0, 0), (1, 0, 0, 0, 0, 30), (1, 0, 0, 0, 0, 30), (5, 1, 0, 0, 0, 0), (25, 0, 0, 0, 0, 0), (23, 0, 0, 0, 0, 0), (0, 0, 0, 0, 0, 2), (7, 0, 0, 0, 0, 0), (12, 12, 0, 2, 7, 0), (1, 0, 0, 0, 0, 24), (5, 1, 0, 0, 0, 0), (23, 0, 0, 0, 0, 0), (14, 0, 0, 0, 0, 0), (25, 0, 0, 0, 0, 0), (23, 0, 0, 0, 0, 0), (8, 4, 1, 0, 0, 0), (7, 0, 0, 0, 0, 0), (12, 12, 0, 2, 7, 0), (5, 4, 1, 0, 0, 0), (5, 2, 0, 0, 0, 0), (18, 0, 0, 0, 0, 0), (7, 0, 0, 0, 0, 0), (12, 12, 0, 2, 7, 0), (5, 4, 1, 0, 0, 0), (0, 0, 0, 0, 0, 1), (23, 0, 0, 0, 0, 0), (5, 3, 0, 0, 0, 0), (18, 0, 0, 0, 0, 0), (7, 0, 0, 0, 0, 0), (12, 12, 0, 2, 7, 0), (1, 0, 0, 0, 0, 24), (5, 1, 0, 0, 0, 0), (23, 0, 0, 0, 0, 0), (51, 0, 0, 0, 0, 0), (14, 0, 0, 0, 0, 0), (0, 0, 0, 0, 0, 1), (23, 0, 0, 0, 0, 0), (18, 0, 0, 0, 0, 0), (7, 0, 0, 0, 0, 0), (12, 12, 0, 2, 7, 0), (1, 0, 0, 0, 0, 24), (5, 1, 0, 0, 0, 0), (23, 0, 0, 0, 0, 0), (14, 0, 0, 0, 0, 0), (0, 0, 0, 0, 0, 1), (24, 0, 0, 0, 0, 0), (61, 0, 0, 0, 0, 0)]
def ko_179 : List Nat := [0, 1, 2, 5, 8, 9, 10, 11, 14, 16, 17, 18, 19, 20, 21, 24, 27, 28, 29, 30, 33, 35, 36, 37, 38, 39, 40, 43, 46, 47, 48, 51, 52, 53, 54, 55, 58, 61, 62, 65, 67, 68, 69, 70, 72, 75, 76, 77, 79, 81, 82, 83, 84, 85, 86, 89, 91, 92, 93, 94, 95, 96, 98, 99, 102, 104, 105, 106, 107, 110, 112, 113, 114, 115, 116, 117, 120, 122, 123, 124, 125, 126, 127, 128, 129, 130, 133, 135, 136, 137, 138, 139, 140, 141]
def kc_180 : List RI := [(7, 0, 0, 0, 0, 0), (12, 12, 4, 2, 22, 0), (7, 0, 0, 0, 0, 0), (12, 12, 0, 2, 7, 0), (1, 0, 0, 0, 0, 20), (5, 1, 0, 0, 0, 0), (23, 0, 0, 0, 0, 0), (14, 0, 0, 0, 0, 0), (14, 0, 0, 0, 0, 0), (61, 0, 0, 0, 0, 0)]
def ko_180 : List Nat := [0, 1, 4, 5, 8, 10, 11, 12, 13, 14, 15]
def kc_181 : List RI := [(5, 2, 0, 0, 0, 0), (7, 0, 0, 0, 0, 0), (12, 12, 4, 2, 22, 0), (7, 0, 0, 0, 0, 0), (12, 12, 0, 2, 7, 0), (1, 0, 0, 0, 0, 20), (5, 1, 0, 0, 0, 0), (23, 0, 0, 0, 0, 0), (14, 0, 0, 0, 0, 0), (0, 0, 0, 0, 0, 1), (24, 0, 0, 0, 0, 0), (5, 3, 0, 0, 0, 0), (24, 0, 0, 0, 0, 0), (14, 0, 0, 0, 0, 0), (32, 0, 0, 0, 0, 0), (0, 0, 0, 0, 0, 3), (33, 0, 0, 0, 0, 0), (61, 0, 0, 0, 0, 0)]
def ko_181 : List Nat := [0, 1, 2, 5, 6, 9, 11, 12, 13, 14, 15, 16, 17, 18, 19, 20, 21, 22, 23]
def kc_182 : List RI := [(0, 0, 0, 0, 0, 0), (8, 3, 0, 0, 0, 0), (5, 3, 0, 0, 0, 0), (7, 0, 0, 0, 0, 0), (12, 12, 0, 2, 7, 0), (1, 0, 0, 0, 0, 24), (5, 1, 0, 0, 0, 0), (23, 0, 0, 0, 0, 0), (14, 0, 0, 0, 0, 0), (54, 3, 31, 0, 0, 0), (7, 0, 0, 0, 0, 0), (5, 1, 0, 0, 0, 0), (5, 2, 0, 0, 0, 0), (7, 0, 0, 0, 0, 0), (5, 1, 0, 0, 0, 0), (5, 3, 0, 0, 0, 0), (67, 176, 3, 1, 75, 0), (67, 181, 4, 1, 89, 0), (7, 0, 0, 0, 0, 0), (5, 1, 0, 0, 0, 0), (5, 2, 0, 0, 0, 0), (7, 0, 0, 0, 0, 0), (5, 1, 0, 0, 0, 0), (5, 3, 0, 0, 0, 0), (67, 177, 3, 1, 79, 0), (67, 181, 4, 1, 89, 0), (54, 1, 29, 0, 0, 0), (0, 0, 0, 0, 0, 0), (62, 0, 0, 0, 0, 0), (11, 3, 0, 0, 0, 1), (57, 0, 2, 0, 0, 0), (0, 0, 0, 0, 0, 1), (62, 0, 0, 0, 0, 0)]
def ko_182 : List Nat := [0, 1, 2, 3, 4, 7, 9, 10, 11, 12, 15, 16, 17, 18, 19, 20, 21, 24, 27, 28, 29, 30, 31, 32, 33, 36, 39, 42, 43, 44, 47, 50, 51, 52]
def kc_183 : List RI := [(7, 0, 0, 0, 0, 0), (0, 0, 0, 0, 0, 0), (13, 12, 6, 0, 93, 0), (0, 0, 0, 0, 0, 0), (8, 2, 0, 0, 0, 0), (5, 2, 0, 0, 0, 0), (7, 0, 0, 0, 0, 0), (5, 1, 0, 0, 0, 0), (67, 180, 2, 1, 96, 0), (54, 3, 30, 0, 0, 0), (7, 0, 0, 0, 0, 0), (5, 1, 0, 0, 0, 0), (5, 2, 0, 0, 0, 0), (67, 182, 3, 1, 100, 0), (53, 1, 16, 0, 0, 0), (57, 0, 28, 0, 0, 0), (7, 0, 0, 0, 0, 0), (12, 12, 5, 2, 25, 0), (7, 0, 0, 0, 0, 0), (12, 12, 6, 0, 93, 0), (5, 2, 0, 0, 0, 0), (18, 0, 0, 0, 0, 0), (7, 0, 0, 0, 0, 0), (50, 0, 0, 0, 0, 0), (12, 12, 6, 0, 93, 0), (0, 0, 0, 0, 0, 1), (23, 0, 0, 0, 0, 0), (13, 12, 6, 0, 93, 0), (11, 2, 0, 0, 0, 1), (57, 0, 5, 0, 0, 0), (60, 0, 0, 0, 0, 0)]
def ko_183 : List Nat := [0, 1, 2, 5, 6, 7, 8, 9, 10, 13, 16, 17, 18, 19, 22, 25, 28, 29, 32, 33, 36, 37, 38, 39, 40, 43, 44, 45, 48, 51, 54, 55]
def kc_184 : List RI := [(7, 0, 0, 0, 0, 0), (5, 1, 0, 0, 0, 0), (67, 173, 2, 1, 82, 0), (53, 0, 7, 0, 0, 0), (5, 2, 0, 0, 0, 0), (0, 0, 0, 0, 0, -1), (54, 3, 9, 0, 0, 0), (0, 0, 0, 0, 0, -1), (61, 0, 0, 0, 0, 0), (7, 0, 0, 0, 0, 0), (5, 1, 0, 0, 0, 0), (67, 183, 2, 0, 104, 0), (5, 2, 0, 0, 0, 0), (0, 0, 0, 0, 0, -1), (54, 1, 18, 0, 0, 0), (7, 0, 0, 0, 0, 0), (12, 12, 6, 0, 93, 0), (57, 0, 28, 0, 0, 0), (5, 2, 0, 0, 0, 0), (7, 0, 0, 0, 0, 0), (12, 12, 6, 0, 93, 0), (54, 3, 27, 0, 0, 0), (7, 0, 0, 0, 0, 0), (12, 12, 5, 2, 25, 0), (5, 2, 0, 0, 0, 0), (14, 0, 0, 0, 0, 0), (57, 0, 28, 0, 0, 0), (0, 0, 0, 0, 0, -1), (61, 0, 0, 0, 0, 0)]
def ko_184 : List Nat := [0, 1, 2, 5, 8, 9, 10, 13, 14, 15, 16, 17, 20, 21, 22, 25, 26, 29, 32, 33, 34, 37, 40, 41, 44, 45, 46, 49, 50, 51]
def kc_185 : List RI := [(0, 0, 0, 0, 0, 0), (8, 4, 1, 0, 0, 0), (0, 0, 0, 0, 0, 0), (8, 5, 1, 0, 0, 0), (5, 5, 1, 0, 0, 0), (7, 0, 0, 0, 0, 0), (12, 12, 0, 2, 7, 0), (1, 0, 0, 0, 0, 20), (5, 1, 0, 0, 0, 0), (23, 0, 0, 0, 0, 0), (14, 0, 0, 0, 0, 0), (54, 3, 27, 0, 0, 0), (0, 0, 0, 0, 0, 3), (5, 4, 1, 0, 0, 0), (25, 0, 0, 0, 0, 0), (7, 0, 0, 0, 0, 0), (5, 3, 0, 0, 0, 0), (7, 0, 0, 0, 0, 0), (5, 1, 0, 0, 0, 0), (5, 2, 0, 0, 0, 0), (5, 5, 1, 0, 0, 0), (67, 181, 4, 1, 89, 0), (67, 174, 3, 1, 108, 0), (23, 0, 0, 0, 0, 0), (8, 4, 1, 0, 0, 0), (11, 5, 0, 0, 0, 1), (57, 0, 4, 0, 0, 0), (5, 4, 1, 0, 0, 0), (61, 0, 0, 0, 0, 0)]
def ko_185 : List Nat := [0, 1, 3, 4, 6, 8, 9, 12, 14, 15, 16, 17, 20, 21, 23, 24, 25, 26, 27, 28, 29, 31, 34, 37, 38, 40, 43, 46, 48, 49]
def kc_186 : List RI := [(7, 0, 0, 0, 0, 0), (5, 1, 0, 0, 0, 0), (67, 173, 2, 1, 82, 0), (53, 0, 18, 0, 0, 0), (5, 2, 0, 0, 0, 0), (0, 0, 0, 0, 0, 0), (7, 0, 0, 0, 0, 0), (5, 1, 0, 0, 0, 0), (67, 180, 2, 1, 96, 0), (0, 0, 0, 0, 0, 1), (24, 0, 0, 0, 0, 0), (67, 172, 3, 1, 71, 1), (53, 0, 18, 0, 0, 0), (5, 3, 0, 0, 0, 0), (0, 0, 0, 0, 0, 0), (0, 0, 0, 0, 0, 5), (67, 172, 3, 1, 71, 1), (53, 1, 20, 0, 0, 0), (0, 0, 0, 0, 0, -1), (61, 0, 0, 0, 0, 0), (7, 0, 0, 0, 0, 0), (5, 1, 0, 0, 0, 0), (5, 2, 0, 0, 0, 0), (5, 3, 0, 0, 0, 0), (67, 185, 4, 1, 111, 0), (61, 0, 0, 0, 0, 0)]
def ko_186 : List Nat := [0, 1, 2, 5, 8, 9, 10, 11, 12, 15, 16, 17, 20, 23, 24, 25, 26, 29, 32, 33, 34, 35, 36, 37, 38, 41, 42]
def kc_187 : List RI := [(5, 1, 0, 0, 0, 0), (0, 0, 0, 0, 0, 2), (24, 0, 0, 0, 0, 0), (8, 2, 0, 0, 0, 0), (5, 2, 0, 0, 0, 0), (53, 2, 19, 0, 0, 0), (7, 0, 0, 0, 0, 0), (12, 12, 7, 2, 28, 0), (5, 2, 0, 0, 0, 0), (14, 0, 0, 0, 0, 0), (7, 0, 0, 0, 0, 0), (12, 12, 7, 2, 28, 0), (5, 2, 0, 0, 0, 0), (0, 0, 0, 0, 0, 1), (23, 0, 0, 0, 0, 0), (14, 0, 0, 0, 0, 0), (54, 5, 19, 0, 0, 0), (11, 2, 0, 0, 0, -1), (57, 0, 4, 0, 0, 0), (5, 2, 0, 0, 0, 0), (53, 3, 23, 0, 0, 0), (0, 0, 0, 0, 0, 0), (62, 0, 0, 0, 0, 0), (5, 1, 0, 0, 0, 0), (0, 0, 0, 0, 0, 1), (24, 0, 0, 0, 0, 0), (8, 3, 0, 0, 0, 0), (7, 0, 0, 0, 0, 0), (12, 12, 7, 2, 28, 0), (5, 3, 0, 0, 0, 0), (14, 0, 0, 0, 0, 0), (7, 0, 0, 0, 0, 0), (12, 12, 7, 2, 28, 0), (5, 2, 0, 0, 0, 0), (14, 0, 0, 0, 0, 0), (54, 3, 38, 0, 0, 0), (11, 3, 0, 0, 0, -1), (57, 0, 27, 0, 0, 0), (7, 0, 0, 0, 0, 0), (12, 12, 7, 2, 28, 0), (5, 2, 0, 0, 0, 0), (14, 0, 0, 0, 0, 0), (8, 4, 1, 0, 0, 0), (7, 0, 0, 0, 0, 0), (12, 12, 7, 2, 28, 0), (5, 2, 0, 0, 0, 0), (7, 0, 0, 0, 0, 0), (12, 12, 7, 2, 28, 0), (5, 3, 0, 0, 0, 0), (14, 0, 0, 0, 0, 0), (18, 0, 0, 0, 0, 0), (7, 0, 0, 0, 0, 0), (12, 12, 7, 2, 28, 0), (5, 3, 0, 0, 0, 0), (5, 4, 1, 0, 0, 0), (18, 0, 0, 0, 0, 0), (5, 2, 0, 0, 0, 0), (0, 0, 0, 0, 0, 1), (23, 0, 0, 0, 0, 0), (8, 5, 1, 0, 0, 0), (5, 1, 0, 0, 0, 0), (0, 0, 0, 0, 0, 1), (24, 0, 0, 0, 0, 0), (8, 6, 1, 0, 0, 0), (5, 5, 1, 0, 0, 0), (5, 6, 1, 0, 0, 0), (54, 3, 88, 0, 0, 0), (7, 0, 0, 0, 0, 0), (12, 12, 7, 2, 28, 0), (5, 5, 1, 0, 0, 0), (14, 0, 0, 0, 0, 0), (8, 4, 1, 0, 0, 0), (7, 0, 0, 0, 0, 0), (12, 12, 7, 2, 28, 0), (5, 5, 1, 0, 0, 0), (7, 0, 0, 0, 0, 0), (12, 12, 7, 2, 28, 0), (5, 6, 1, 0, 0, 0), (14, 0, 0, 0, 0, 0), (18, 0, 0, 0, 0, 0), (7, 0, 0, 0, 0, 0), (12, 12, 7, 2, 28, 0), (5, 6, 1, 0, 0, 0), (5, 4, 1, 0, 0, 0), (18, 0, 0, 0, 0, 0), (11, 5, 0, 0, 0, 1), (11, 6, 0, 0, 0, -1), (57, 0, 64, 0, 0, 0), (0, 0, 0, 0, 0, 1), (62, 0, 0, 0, 0, 0)]
def ko_187 : List Nat := [0, 1, 2, 3, 4, 5, 8, 9, 12, 13, 14, 15, 18, 19, 20, 21, 22, 25, 28, 31, 32, 35, 36, 37, 38, 39, 40, 41, 42, 45, 46, 47, 48, 51, 52, 53, 56, 59, 62, 63, 66, 67, 68, 70, 71, 74, 75, 76, 79, 80, 81, 82, 83, 86, 87, 89, 90, 91, 92, 93, 95, 96, 97, 98, 100, 102, 104, 107, 108, 111, 113, 114, 116, 117, 120, 122, 123, 126, 128, 129, 130, 131, 134, 136, 138, 139, 142, 145, 148, 149, 150]
def kc_188 : List RI := [(0, 0, 0, 0, 0, 0), (8, 2, 0, 0, 0, 0), (5, 2, 0, 0, 0, 0), (5, 1, 0, 0, 0, 0), (54, 3, 12, 0, 0, 0), (7, 0, 0, 0, 0, 0), (12, 12, 7, 2, 28, 0), (5, 2, 0, 0, 0, 0), (5, 2, 0, 0, 0, 0), (18, 0, 0, 0, 0, 0), (11, 2, 0, 0, 0, 1), (57, 0, 2, 0, 0, 0), (60, 0, 0, 0, 0, 0)]
def ko_188 : List Nat := [0, 1, 2, 3, 4, 7, 8, 11, 12, 13, 14, 17, 20, 21]
def kc_189 : List RI := [(7, 0, 0, 0, 0, 0), (5, 1, 0, 0, 0, 0), (67, 173, 2, 1, 82, 0), (53, 1, 6, 0, 0, 0), (0, 0, 0, 0, 0, -1), (61, 0, 0, 0, 0, 0), (7, 0, 0, 0, 0, 0), (12, 12, 0, 2, 7, 0), (1, 0, 0, 0, 0, 20), (5, 1, 0, 0, 0, 0), (23, 0, 0, 0, 0, 0), (14, 0, 0, 0, 0, 0), (8, 2, 0, 0, 0, 0), (5, 2, 0, 0, 0, 0), (0, 0, 0, 0, 0, 3), (54, 3, 18, 0, 0, 0), (0, 0, 0, 0, 0, 0), (61, 0, 0, 0, 0, 0), (7, 0, 0, 0, 0, 0), (5, 2, 0, 0, 0, 0), (67, 188, 2, 0, 114, 0), (0, 0, 0, 0, 0, 0), (8, 3, 0, 0, 0, 0), (0, 0, 0, 0, 0, 1), (8, 4, 1, 0, 0, 0), (5, 4, 1, 0, 0, 0), (53, 0, 89, 0, 0, 0), (7, 0, 0, 0, 0, 0), (12, 12, 7, 2, 28, 0), (0, 0, 0, 0, 0, 0), (14, 0, 0, 0, 0, 0), (53, 1, 89, 0, 0, 0), (7, 0, 0, 0, 0, 0), (12, 12, 7, 2, 28, 0), (0, 0, 0, 0, 0, 1), (14, 0, 0, 0, 0, 0), (7, 0, 0, 0, 0, 0), (12, 12, 7, 2, 28, 0), (5, 2, 0, 0, 0, 0), (0, 0, 0, 0, 0, 1), (24, 0, 0, 0, 0, 0), (14, 0, 0, 0, 0, 0), (54, 3, 45, 0, 0, 0), (0, 0, 0, 0, 0, 1), (57, 0, 46, 0, 0, 0), (0, 0, 0, 0, 0, 0), (8, 5, 1, 0, 0, 0), (0, 0, 0, 0, 0, 0), (8, 6, 1, 0, 0, 0), (5, 6, 1, 0, 0, 0), (5, 2, 0, 0, 0, 0), (54, 3, 76, 0, 0, 0), (5, 5, 1, 0, 0, 0), (53, 0, 72, 0, 0, 0), (7, 0, 0, 0, 0, 0), (5, 1, 0, 0, 0, 0), (7, 0, 0, 0, 0, 0), (12, 12, 7, 2, 28, 0), (5, 6, 1, 0, 0, 0), (14, 0, 0, 0, 0, 0), (7, 0, 0, 0, 0, 0), (12, 12, 7, 2, 28, 0), (5, 6, 1, 0, 0, 0), (0, 0, 0, 0, 0, 1), (23, 0, 0, 0, 0, 0), (5, 2, 0, 0, 0, 0), (33, 0, 0, 0, 0, 0), (14, 0, 0, 0, 0, 0), (67, 178, 4, 1, 86, 0), (53, 0, 72, 0, 0, 0), (0, 0, 0, 0, 0, 1), (57, 0, 73, 0, 0, 0), (0, 0, 0, 0, 0, 0), (8, 5, 1, 0, 0, 0), (11, 6, 0, 0, 0, 1), (57, 0, 49, 0, 0, 0), (5, 3, 0, 0, 0, 0), (5, 5, 1, 0, 0, 0), (53, 0, 81, 0, 0, 0), (0, 0, 0, 0, 0, 1), (57, 0, 82, 0, 0, 0), (0, 0, 0, 0, 0, 0), (23, 0, 0, 0, 0, 0), (8, 3, 0, 0, 0, 0), (7, 0, 0, 0, 0, 0), (5, 2, 0, 0, 0, 0), (67, 187, 2, 1, 117, 0), (8, 4, 1, 0, 0, 0), (57, 0, 25, 0, 0, 0), (5, 3, 0, 0, 0, 0), (61, 0, 0, 0, 0, 0)]
def ko_189 : List Nat := [0, 1, 2, 5, 8, 9, 10, 11, 14, 16, 17, 18, 19, 20, 21, 22, 25, 26, 27, 28, 29, 32, 33, 34, 35, 37, 39, 42, 43, 46, 47, 48, 51, 52, 55, 56, 57, 58, 61, 62, 63, 64, 65, 68, 69, 72, 73, 75, 76, 78, 80, 81, 84, 86, 89, 90, 91, 92, 95, 97, 98, 99, 102, 104, 105, 106, 107, 108, 109, 112, 115, 116, 119, 120, 122, 125, 128, 129, 131, 134, 135, 138, 139, 140, 141, 142, 143, 146, 148, 151, 152, 153]
def kc_190 : List RI := [(7, 0, 0, 0, 0, 0), (12, 12, 0, 2, 7, 0), (1, 0, 0, 0, 0, 20), (5, 1, 0, 0, 0, 0), (23, 0, 0, 0, 0, 0), (14, 0, 0, 0, 0, 0), (8, 3, 0, 0, 0, 0), (5, 3, 0, 0, 0, 0), (7, 0, 0, 0, 0, 0), (12, 12, 0, 2, 7, 0), (1, 0, 0, 0, 0, 20), (5, 2, 0, 0, 0, 0), (23, 0, 0, 0, 0, 0), (14, 0, 0, 0, 0, 0), (54, 1, 28, 0, 0, 0), (7, 0, 0, 0, 0, 0), (12, 12, 0, 2, 7, 0), (1, 0, 0, 0, 0, 24), (5, 1, 0, 0, 0, 0), (23, 0, 0, 0, 0, 0), (14, 0, 0, 0, 0, 0), (7, 0, 0, 0, 0, 0), (12, 12, 0, 2, 7, 0), (1, 0, 0, 0, 0, 24), (5, 2, 0, 0, 0, 0), (23, 0, 0, 0, 0, 0), (14, 0, 0, 0, 0, 0), (54, 0, 30, 0, 0, 0), (0, 0, 0, 0, 0, 0), (61, 0, 0, 0, 0, 0), (7, 0, 0, 0, 0, 0), (5, 3, 0, 0, 0, 0), (67, 188, 2, 0, 114, 0), (0, 0, 0, 0, 0, 0), (8, 4, 1, 0, 0, 0), (0, 0, 0, 0, 0, 1), (8, 5, 1, 0, 0, 0), (5, 5, 1, 0, 0, 0), (53, 0, 90, 0, 0, 0), (0, 0, 0, 0, 0, 1), (8, 6, 1, 0, 0, 0), (0, 0, 0, 0, 0, 0), (8, 7, 1, 0, 0, 0), (5, 7, 1, 0, 0, 0), (7, 0, 0, 0, 0, 0), (12, 12, 0, 2, 7, 0), (1, 0, 0, 0, 0, 24), (5, 1, 0, 0, 0, 0), (23, 0, 0, 0, 0, 0), (14, 0, 0, 0, 0, 0), (54, 3, 77, 0, 0, 0), (5, 6, 1, 0, 0, 0), (53, 0, 73, 0, 0, 0), (7, 0, 0, 0, 0, 0), (5, 2, 0, 0, 0, 0), (7, 0, 0, 0, 0, 0), (12, 12, 7, 2, 28, 0), (7, 0, 0, 0, 0, 0), (5, 1, 0, 0, 0, 0), (5, 7, 1, 0, 0, 0), (67, 176, 3, 1, 75, 0), (14, 0, 0, 0, 0, 0), (7, 0, 0, 0, 0, 0), (12, 12, 7, 2, 28, 0), (7, 0, 0, 0, 0, 0), (5, 1, 0, 0, 0, 0), (5, 7, 1, 0, 0, 0), (67, 177, 3, 1, 79, 0), (14, 0, 0, 0, 0, 0), (67, 178, 4, 1, 86, 0), (53, 0, 73, 0, 0, 0), (0, 0, 0, 0, 0, 1), (57, 0, 74, 0, 0, 0), (0, 0, 0, 0, 0, 0), (8, 6, 1, 0, 0, 0), (11, 7, 0, 0, 0, 1), (57, 0, 43, 0, 0, 0), (5, 4, 1, 0, 0, 0), (5, 6, 1, 0, 0, 0), (53, 0, 82, 0, 0, 0), (0, 0, 0, 0, 0, 1), (57, 0, 83, 0, 0, 0), (0, 0, 0, 0, 0, 0), (23, 0, 0, 0, 0, 0), (8, 4, 1, 0, 0, 0), (7, 0, 0, 0, 0, 0), (5, 3, 0, 0, 0, 0), (67, 187, 2, 1, 117, 0), (8, 5, 1, 0, 0, 0), (57, 0, 37, 0, 0, 0), (5, 4, 1, 0, 0, 0), (61, 0, 0, 0, 0, 0)]
def ko_190 : List Nat := [0, 1, 4, 6, 7, 8, 9, 10, 11, 12, 15, 17, 18, 19, 20, 23, 24, 27, 29, 30, 31, 32, 33, 36, 38, 39, 40, 41, 44, 45, 46, 47, 48, 51, 52, 54, 55, 57, 59, 62, 63, 65, 66, 68, 70, 71, 74, 76, 77, 78, 79, 82, 84, 87, 88, 89, 90, 93, 94, 95, 97, 100, 101, 102, 105, 106, 107, 109, 112, 113, 116, 119, 120, 123, 124, 126, 129, 132, 134, 136, 139, 140, 143, 144, 145, 147, 148, 149, 152, 154, 157, 159, 160]
def kc_191 : List RI := [(7, 0, 0, 0, 0, 0), (5, 1, 0, 0, 0, 0), (67, 173, 2, 1, 82, 0), (53, 0, 13, 0, 0, 0), (7, 0, 0, 0, 0, 0), (5, 2, 0, 0, 0, 0), (67, 173, 2, 1, 82, 0), (53, 0, 13, 0, 0, 0), (5, 3, 0, 0, 0, 0), (0, 0, 0, 0, 0, 0), (0, 0, 0, 0, 0, 1), (67, 172, 3, 1, 71, 1), (53, 1, 15, 0, 0, 0), (0, 0, 0, 0, 0, -1), (61, 0, 0, 0, 0, 0), (5, 3, 0, 0, 0, 0), (53, 1, 22, 0, 0, 0), (7, 0, 0, 0, 0, 0), (5, 1, 0, 0, 0, 0), (5, 2, 0, 0, 0, 0), (67, 190, 3, 1, 120, 0), (61, 0, 0, 0, 0, 0), (0, 0, 0, 0, 0, 1), (8, 4, 1, 0, 0, 0), (0, 0, 0, 0, 0, 2), (8, 5, 1, 0, 0, 0), (5, 5, 1, 0, 0, 0), (7, 0, 0, 0, 0, 0), (12, 12, 0, 2, 7, 0), (1, 0, 0, 0, 0, 20), (5, 1, 0, 0, 0, 0), (23, 0, 0, 0, 0, 0), (14, 0, 0, 0, 0, 0), (54, 4, 40, 0, 0, 0), (5, 4, 1, 0, 0, 0), (5, 5, 1, 0, 0, 0), (25, 0, 0, 0, 0, 0), (8, 4, 1, 0, 0, 0), (11, 5, 0, 0, 0, 1), (57, 0, 26, 0, 0, 0), (5, 4, 1, 0, 0, 0), (7, 0, 0, 0, 0, 0), (5, 1, 0, 0, 0, 0), (5, 1, 0, 0, 0, 0), (67, 190, 3, 1, 120, 0), (32, 0, 0, 0, 0, 0), (61, 0, 0, 0, 0, 0)]
def ko_191 : List Nat := [0, 1, 2, 5, 8, 9, 10, 13, 16, 17, 18, 19, 22, 25, 26, 27, 28, 31, 32, 33, 34, 37, 38, 39, 41, 42, 44, 46, 47, 50, 52, 53, 54, 55, 58, 60, 62, 63, 65, 68, 71, 73, 74, 75, 76, 79, 80, 81]
def kc_192 : List RI := [(1, 0, 0, 0, 0, 24), (8, 2, 0, 0, 0, 0), (5, 2, 0, 0, 0, 0), (53, 2, 22, 0, 0, 0), (7, 0, 0, 0, 0, 0), (12, 12, 8, 2, 31, 0), (7, 0, 0, 0, 0, 0), (12, 12, 9, 0, 123, 0), (5, 1, 0, 0, 0, 0), (5, 2, 0, 0, 0, 0), (30, 0, 0, 0, 0, 0), (2, 0, 0, 0, 0, 255), (26, 0, 0, 0, 0, 0), (18, 0, 0, 0, 0, 0), (7, 0, 0, 0, 0, 0), (50, 0, 0, 0, 0, 0), (12, 12, 9, 0, 123, 0), (0, 0, 0, 0, 0, 1), (23, 0, 0, 0, 0, 0), (13, 12, 9, 0, 123, 0), (11, 2, 0, 0, 0, -8), (57, 0, 2, 0, 0, 0), (60, 0, 0, 0, 0, 0)]
def ko_192 : List Nat := [0, 2, 3, 4, 7, 8, 11, 12, 15, 16, 17, 18, 21, 22, 23, 24, 25, 28, 29, 30, 33, 36, 39, 40]
def kc_193 : List RI := [(7, 0, 0, 0, 0, 0), (12, 12, 9, 0, 123, 0), (1, 0, 0, 0, 0, 20), (23, 0, 0, 0, 0, 0), (2, 0, 0, 0, 0, 300), (54, 5, 8, 0, 0, 0), (0, 0, 0, 0, 0, -1), (61, 0, 0, 0, 0, 0), (7, 0, 0, 0, 0, 0), (5, 1, 0, 0, 0, 0), (67, 192, 2, 0, 126, 0), (7, 0, 0, 0, 0, 0), (5, 2, 0, 0, 0, 0), (67, 192, 2, 0, 126, 0), (7, 0, 0, 0, 0, 0), (5, 3, 0, 0, 0, 0), (67, 192, 2, 0, 126, 0), (7, 0, 0, 0, 0, 0), (5, 4, 1, 0, 0, 0), (67, 192, 2, 0, 126, 0), (7, 0, 0, 0, 0, 0), (5, 5, 1, 0, 0, 0), (67, 192, 2, 0, 126, 0), (7, 0, 0, 0, 0, 0), (12, 12, 9, 0, 123, 0), (61, 0, 0, 0, 0, 0)]
def ko_193 : List Nat := [0, 1, 4, 6, 7, 10, 13, 14, 15, 16, 17, 20, 21, 22, 25, 26, 27, 30, 31, 33, 36, 37, 39, 42, 43, 46, 47]
def kc_194 : List RI := [(5, 1, 0, 0, 0, 0), (0, 0, 0, 0, 0, 0), (7, 0, 0, 0, 0, 0), (12, 12, 9, 0, 123, 0), (67, 172, 3, 1, 71, 1), (53, 1, 8, 0, 0, 0), (0, 0, 0, 0, 0, -1), (61, 0, 0, 0, 0, 0), (7, 0, 0, 0, 0, 0), (5, 1, 0, 0, 0, 0), (13, 12, 9, 0, 123, 0), (5, 1, 0, 0, 0, 0), (61, 0, 0, 0, 0, 0)]
def ko_194 : List Nat := [0, 1, 2, 3, 6, 9, 12, 13, 14, 15, 16, 19, 20, 21]
def kc_195 : List RI := [(5, 1, 0, 0, 0, 0), (7, 0, 0, 0, 0, 0), (12, 12, 9, 0, 123, 0), (54, 3, 9, 0, 0, 0), (7, 0, 0, 0, 0, 0), (12, 12, 8, 2, 31, 0), (5, 1, 0, 0, 0, 0), (14, 0, 0, 0, 0, 0), (57, 0, 10, 0, 0, 0), (0, 0, 0, 0, 0, -1), (61, 0, 0, 0, 0, 0)]
def ko_195 : List Nat := [0, 1, 2, 5, 8, 9, 12, 13, 14, 17, 18, 19]
def kc_196 : List RI := [(5, 0, 0, 0, 0, 0), (1, 0, 0, 0, 0, 97), (1, 0, 0, 0, 0, 122), (67, 172, 3, 1, 71, 1), (53, 1, 10, 0, 0, 0), (5, 0, 0, 0, 0, 0), (1, 0, 0, 0, 0, 65), (1, 0, 0, 0, 0, 90), (67, 172, 3, 1, 71, 1), (53, 0, 12, 0, 0, 0), (0, 0, 0, 0, 0, 1), (57, 0, 13, 0, 0, 0), (0, 0, 0, 0, 0, 0), (62, 0, 0, 0, 0, 0)]
def ko_196 : List Nat := [0, 1, 3, 5, 8, 11, 12, 14, 16, 19, 22, 23, 26, 27, 28]
def kc_197 : List RI := [(5, 0, 0, 0, 0, 0), (1, 0, 0, 0, 0, 48), (1, 0, 0, 0, 0, 57), (67, 172, 3, 1, 71, 1), (62, 0, 0, 0, 0, 0)]
def ko_197 : List Nat := [0, 1, 3, 5, 8, 9]
def kc_198 : List RI := [(7, 0, 0, 0, 0, 0), (7, 0, 0, 0, 0, 0), (12, 12, 12, 0, 129, 0), (67, 195, 2, 1, 132, 0), (1, 0, 0, 0, 0, 32), (54, 0, 12, 0, 0, 0), (7, 0, 0, 0, 0, 0), (7, 0, 0, 0, 0, 0), (12, 12, 12, 0, 129, 0), (67, 195, 2, 1, 132, 0), (1, 0, 0, 0, 0, 10), (54, 1, 19, 0, 0, 0), (7, 0, 0, 0, 0, 0), (50, 0, 0, 0, 0, 0), (12, 12, 12, 0, 129, 0), (0, 0, 0, 0, 0, 1), (23, 0, 0, 0, 0, 0), (13, 12, 12, 0, 129, 0), (57, 0, 0, 0, 0, 0), (7, 0, 0, 0, 0, 0), (7, 0, 0, 0, 0, 0), (12, 12, 12, 0, 129, 0), (13, 12, 13, 0, 135, 0), (7, 0, 0, 0, 0, 0), (7, 0, 0, 0, 0, 0), (12, 12, 12, 0, 129, 0), (67, 195, 2, 1, 132, 0), (8, 1, 0, 0, 0, 0), (5, 1, 0, 0, 0, 0), (53, 3, 34, 0, 0, 0), (7, 0, 0, 0, 0, 0), (0, 0, 0, 0, 0, 0), (13, 12, 14, 0, 138, 0), (57, 0, 198, 0, 0, 0), (5, 1, 0, 0, 0, 0), (67, 197, 1, 1, 141, 1), (53, 0, 73, 0, 0, 0), (7, 0, 0, 0, 0, 0), (0, 0, 0, 0, 0, 1), (13, 12, 14, 0, 138, 0), (7, 0, 0, 0, 0, 0), (0, 0, 0, 0, 0, 0), (13, 12, 15, 0, 144, 0), (7, 0, 0, 0, 0, 0), (7, 0, 0, 0, 0, 0), (12, 12, 12, 0, 129, 0), (67, 195, 2, 1, 132, 0), (67, 197, 1, 1, 141, 1), (53, 0, 198, 0, 0, 0), (7, 0, 0, 0, 0, 0), (12, 12, 15, 0, 144, 0), (3, 0, 0, 0, 147, 100000), (54, 3, 66, 0, 0, 0), (7, 0, 0, 0, 0, 0), (1, 0, 0, 0, 0, 10), (7, 0, 0, 0, 0, 0), (12, 12, 15, 0, 144, 0), (25, 0, 0, 0, 0, 0), (7, 0, 0, 0, 0, 0), (7, 0, 0, 0, 0, 0), (12, 12, 12, 0, 129, 0), (67, 195, 2, 1, 132, 0), (23, 0, 0, 0, 0, 0), (1, 0, 0, 0, 0, 48), (24, 0, 0, 0, 0, 0), (13, 12, 15, 0, 144, 0), (7, 0, 0, 0, 0, 0), (50, 0, 0, 0, 0, 0), (12, 12, 12, 0, 129, 0), (0, 0, 0, 0, 0, 1), (23, 0, 0, 0, 0, 0), (13, 12, 12, 0, 129, 0), (57, 0, 43, 0, 0, 0), (5, 1, 0, 0, 0, 0), (67, 196, 1, 1, 148, 1), (53, 0, 125, 0, 0, 0), (7, 0, 0, 0, 0, 0), (0, 0, 0, 0, 0, 2), (13, 12, 14, 0, 138, 0), (7, 0, 0, 0, 0, 0), (47, 0, 0, 0, 0, 0), (13, 12, 16, 1, 151, 0), (7, 0, 0, 0, 0, 0), (7, 0, 0, 0, 0, 0), (12, 12, 12, 0, 129, 0), (67, 195, 2, 1, 132, 0), (67, 196, 1, 1, 148, 1), (53, 0, 114, 0, 0, 0), (7, 0, 0, 0, 0, 0), (12, 12, 12, 0, 129, 0), (7, 0, 0, 0, 0, 0), (12, 12, 13, 0, 135, 0), (24, 0, 0, 0, 0, 0), (1, 0, 0, 0, 0, 7), (54, 3, 107, 0, 0, 0), (7, 0, 0, 0, 0, 0), (7, 0, 0, 0, 0, 0), (12, 12, 16, 1, 151, 0), (1, 0, 0, 0, 0, 8), (46, 0, 0, 0, 0, 0), (7, 0, 0, 0, 0, 0), (7, 0, 0, 0, 0, 0), (12, 12, 12, 0, 129, 0), (67, 195, 2, 1, 132, 0), (43, 0, 0, 0, 0, 0), (39, 0, 0, 0, 0, 0), (13, 12, 16, 1, 151, 0), (7, 0, 0, 0, 0, 0), (50, 0, 0, 0, 0, 0), (12, 12, 12, 0, 129, 0), (0, 0, 0, 0, 0, 1), (23, 0, 0, 0, 0, 0), (13, 12, 12, 0, 129, 0), (57, 0, 82, 0, 0, 0), (7, 0, 0, 0, 0, 0), (12, 12, 12, 0, 129, 0), (7, 0, 0, 0, 0, 0), (12, 12, 13, 0, 135, 0), (24, 0, 0, 0, 0, 0), (1, 0, 0, 0, 0, 7), (54, 5, 198, 0, 0, 0), (7, 0, 0, 0, 0, 0), (47, 0, 0, 0, 0, 0), (13, 12, 16, 1, 151, 0), (57, 0, 198, 0, 0, 0), (7, 0, 0, 0, 0, 0), (50, 0, 0, 0, 0, 0), (12, 12, 12, 0, 129, 0), (0, 0, 0, 0, 0, 1), (23, 0, 0, 0, 0, 0), (13, 12, 12, 0, 129, 0), (5, 1, 0, 0, 0, 0), (1, 0, 0, 0, 0, 60), (54, 0, 161, 0, 0, 0), (5, 1, 0, 0, 0, 0), (1, 0, 0, 0, 0, 62), (54, 0, 161, 0, 0, 0), (5, 1, 0, 0, 0, 0), (1, 0, 0, 0, 0, 61), (54, 0, 161, 0, 0, 0), (5, 1, 0, 0, 0, 0), (1, 0, 0, 0, 0, 35), (54, 0, 161, 0, 0, 0), (5, 1, 0, 0, 0, 0), (1, 0, 0, 0, 0, 43), (54, 0, 161, 0, 0, 0), (5, 1, 0, 0, 0, 0), (1, 0, 0, 0, 0, 45), (54, 0, 161, 0, 0, 0), (5, 1, 0, 0, 0, 0), (1, 0, 0, 0, 0, 42), (54, 0, 161, 0, 0, 0), (5, 1, 0, 0, 0, 0), (1, 0, 0, 0, 0, 40), (54, 0, 161, 0, 0, 0), (5, 1, 0, 0, 0, 0), (1, 0, 0, 0, 0, 41), (54, 0, 161, 0, 0, 0), (5, 1, 0, 0, 0, 0), (1, 0, 0, 0, 0, 59), (54, 1, 163, 0, 0, 0), (0, 0, 0, 0, 0, 1), (57, 0, 164, 0, 0, 0), (0, 0, 0, 0, 0, 0), (8, 2, 0, 0, 0, 0), (7, 0, 0, 0, 0, 0), (5, 2, 0, 0, 0, 0), (53, 0, 170, 0, 0, 0), (5, 1, 0, 0, 0, 0), (57, 0, 171, 0, 0, 0), (0, 0, 0, 0, 0, 3), (13, 12, 14, 0, 138, 0), (5, 1, 0, 0, 0, 0), (1, 0, 0, 0, 0, 60), (54, 0, 178, 0, 0, 0), (5, 1, 0, 0, 0, 0), (1, 0, 0, 0, 0, 62), (54, 1, 198, 0, 0, 0), (7, 0, 0, 0, 0, 0), (7, 0, 0, 0, 0, 0), (12, 12, 12, 0, 129, 0), (67, 195, 2, 1, 132, 0), (1, 0, 0, 0, 0, 61), (54, 1, 198, 0, 0, 0), (7, 0, 0, 0, 0, 0), (50, 0, 0, 0, 0, 0), (12, 12, 12, 0, 129, 0), (0, 0, 0, 0, 0, 1), (23, 0, 0, 0, 0, 0), (13, 12, 12, 0, 129, 0), (7, 0, 0, 0, 0, 0), (5, 1, 0, 0, 0, 0), (1, 0, 0, 0, 0, 60), (54, 1, 196, 0, 0, 0), (0, 0, 0, 0, 0, 4), (57, 0, 197, 0, 0, 0), (0, 0, 0, 0, 0, 5), (13, 12, 14, 0, 138, 0), (60, 0, 0, 0, 0, 0)]
def ko_198 : List Nat := [0, 1, 2, 5, 8, 10, 13, 14, 15, 18, 21, 23, 26, 27, 28, 31, 32, 33, 36, 39, 40, 41, 44, 47, 48, 49, 52, 55, 56, 57, 60, 61, 62, 65, 68, 69, 72, 75, 76, 77, 80, 81, 82, 85, 86, 87, 90, 93, 96, 99, 100, 103, 105, 108, 109, 111, 112, 115, 116, 117, 118, 121, 124, 125, 127, 128, 131, 132, 133, 136, 137, 138, 141, 144, 145, 148, 151, 152, 153, 156, 157, 158, 161, 162, 163, 166, 169, 172, 175, 176, 179, 180, 183, 184, 186, 189, 190, 191, 194, 196, 197, 198, 199, 202, 205, 206, 207, 210, 211, 212, 215, 216, 217, 220, 223, 224, 227, 228, 231, 232, 234, 237, 238, 239, 242, 245, 246, 247, 250, 251, 252, 255, 256, 258, 261, 262, 264, 267, 268, 270, 273, 274, 276, 279, 280, 282, 285, 286, 288, 291, 292, 294, 297, 298, 300, 303, 304, 306, 309, 310, 312, 315, 316, 319, 320, 321, 322, 323, 326, 327, 330, 331, 334, 335, 337, 340, 341, 343, 346, 347, 348, 351, 354, 356, 359, 360, 361, 364, 365, 366, 369, 370, 371, 373, 376, 377, 380, 381, 384, 385]
def kc_199 : List RI := [(5, 0, 0, 0, 0, 0), (43, 0, 0, 0, 0, 0), (1, 0, 0, 0, 0, 8), (46, 0, 0, 0, 0, 0), (5, 1, 0, 0, 0, 0), (43, 0, 0, 0, 0, 0), (39, 0, 0, 0, 0, 0), (1, 0, 0, 0, 0, 8), (46, 0, 0, 0, 0, 0), (5, 2, 0, 0, 0, 0), (43, 0, 0, 0, 0, 0), (39, 0, 0, 0, 0, 0), (63, 0, 0, 0, 0, 0)]
def ko_199 : List Nat := [0, 1, 2, 4, 5, 6, 7, 8, 10, 11, 12, 13, 14, 15]
def kc_200 : List RI := [(5, 0, 0, 0, 0, 0), (5, 1, 0, 0, 0, 0), (5, 2, 0, 0, 0, 0), (67, 199, 3, 2, 155, 1), (1, 0, 0, 0, 0, 8), (46, 0, 0, 0, 0, 0), (5, 3, 0, 0, 0, 0), (43, 0, 0, 0, 0, 0), (39, 0, 0, 0, 0, 0), (1, 0, 0, 0, 0, 8), (46, 0, 0, 0, 0, 0), (5, 4, 1, 0, 0, 0), (43, 0, 0, 0, 0, 0), (39, 0, 0, 0, 0, 0), (63, 0, 0, 0, 0, 0)]
def ko_200 : List Nat := [0, 1, 2, 3, 6, 8, 9, 10, 11, 12, 14, 15, 17, 18, 19, 20]
def kc_201 : List RI := [(5, 0, 0, 0, 0, 0), (5, 1, 0, 0, 0, 0), (5, 2, 0, 0, 0, 0), (67, 199, 3, 2, 155, 1), (1, 0, 0, 0, 0, 8), (46, 0, 0, 0, 0, 0), (5, 3, 0, 0, 0, 0), (43, 0, 0, 0, 0, 0), (39, 0, 0, 0, 0, 0), (63, 0, 0, 0, 0, 0)]
def ko_201 : List Nat := [0, 1, 2, 3, 6, 8, 9, 10, 11, 12, 13]
def kc_202 : List RI := [(7, 0, 0, 0, 0, 0), (12, 12, 14, 0, 138, 0), (0, 0, 0, 0, 0, 2), (54, 1, 11, 0, 0, 0), (7, 0, 0, 0, 0, 0), (12, 12, 16, 1, 151, 0), (6, 1, 0, 0, 0, 0), (45, 0, 0, 0, 0, 0), (53, 1, 11, 0, 0, 0), (0, 0, 0, 0, 0, 1), (57, 0, 12, 0, 0, 0), (0, 0, 0, 0, 0, 0), (62, 0, 0, 0, 0, 0)]
def ko_202 : List Nat := [0, 1, 4, 5, 8, 9, 12, 13, 14, 17, 18, 21, 22, 23]
def kc_203 : List RI := [(7, 0, 0, 0, 0, 0), (12, 12, 2, 2, 16, 0), (7, 0, 0, 0, 0, 0), (12, 12, 17, 0, 159, 0), (1, 0, 0, 0, 0, 10), (23, 0, 0, 0, 0, 0), (0, 0, 0, 0, 0, 2), (7, 0, 0, 0, 0, 0), (12, 12, 19, 0, 162, 0), (25, 0, 0, 0, 0, 0), (23, 0, 0, 0, 0, 0), (5, 1, 0, 0, 0, 0), (18, 0, 0, 0, 0, 0), (7, 0, 0, 0, 0, 0), (12, 12, 2, 2, 16, 0), (7, 0, 0, 0, 0, 0), (12, 12, 17, 0, 159, 0), (1, 0, 0, 0, 0, 10), (23, 0, 0, 0, 0, 0), (0, 0, 0, 0, 0, 2), (7, 0, 0, 0, 0, 0), (12, 12, 19, 0, 162, 0), (25, 0, 0, 0, 0, 0), (23, 0, 0, 0, 0, 0), (0, 0, 0, 0, 0, 1), (23, 0, 0, 0, 0, 0), (5, 2, 0, 0, 0, 0), (18, 0, 0, 0, 0, 0), (7, 0, 0, 0, 0, 0), (50, 0, 0, 0, 0, 0), (12, 12, 19, 0, 162, 0), (0, 0, 0, 0, 0, 1), (23, 0, 0, 0, 0, 0), (13, 12, 19, 0, 162, 0), (60, 0, 0, 0, 0, 0)]
def ko_203 : List Nat := [0, 1, 4, 5, 8, 10, 11, 12, 13, 16, 17, 18, 19, 20, 21, 24, 25, 28, 30, 31, 32, 33, 36, 37, 38, 39, 40, 41, 42, 43, 44, 47, 48, 49, 52, 53]
def kc_204 : List RI := [(7, 0, 0, 0, 0, 0), (12, 12, 21, 2, 41, 0), (7, 0, 0, 0, 0, 0), (12, 12, 22, 0, 165, 0), (5, 1, 0, 0, 0, 0), (18, 0, 0, 0, 0, 0), (7, 0, 0, 0, 0, 0), (50, 0, 0, 0, 0, 0), (12, 12, 22, 0, 165, 0), (0, 0, 0, 0, 0, 1), (23, 0, 0, 0, 0, 0), (13, 12, 22, 0, 165, 0), (60, 0, 0, 0, 0, 0)]
def ko_204 : List Nat := [0, 1, 4, 5, 8, 9, 10, 11, 12, 15, 16, 17, 20, 21]
def kc_205 : List RI := [(7, 0, 0, 0, 0, 0), (0, 0, 0, 0, 0, 1), (13, 12, 24, 3, 168, 0), (7, 0, 0, 0, 0, 0), (12, 12, 22, 0, 165, 0), (53, 5, 32, 0, 0, 0), (7, 0, 0, 0, 0, 0), (12, 12, 21, 2, 41, 0), (7, 0, 0, 0, 0, 0), (12, 12, 22, 0, 165, 0), (0, 0, 0, 0, 0, 1), (24, 0, 0, 0, 0, 0), (14, 0, 0, 0, 0, 0), (0, 0, 0, 0, 0, 2), (54, 1, 32, 0, 0, 0), (7, 0, 0, 0, 0, 0), (50, 0, 0, 0, 0, 0), (12, 12, 22, 0, 165, 0), (0, 0, 0, 0, 0, 1), (24, 0, 0, 0, 0, 0), (13, 12, 22, 0, 165, 0), (7, 0, 0, 0, 0, 0), (50, 0, 0, 0, 0, 0), (12, 12, 23, 0, 172, 0), (0, 0, 0, 0, 0, 1), (24, 0, 0, 0, 0, 0), (13, 12, 23, 0, 172, 0), (7, 0, 0, 0, 0, 0), (0, 0, 0, 0, 0, 2), (0, 0, 0, 0, 0, 0), (67, 203, 3, 0, 175, 0), (57, 0, 3, 0, 0, 0), (60, 0, 0, 0, 0, 0)]
def ko_205 : List Nat := [0, 1, 2, 5, 6, 9, 12, 13, 16, 17, 20, 21, 22, 23, 24, 27, 28, 29, 32, 33, 34, 37, 38, 39, 42, 43, 44, 47, 48, 49, 50, 53, 56, 57]
def kc_206 : List RI := [(7, 0, 0, 0, 0, 0), (12, 12, 22, 0, 165, 0), (53, 5, 36, 0, 0, 0), (7, 0, 0, 0, 0, 0), (12, 12, 21, 2, 41, 0), (7, 0, 0, 0, 0, 0), (12, 12, 22, 0, 165, 0), (0, 0, 0, 0, 0, 1), (24, 0, 0, 0, 0, 0), (14, 0, 0, 0, 0, 0), (1, 0, 0, 0, 0, 40), (54, 3, 36, 0, 0, 0), (7, 0, 0, 0, 0, 0), (12, 12, 21, 2, 41, 0), (7, 0, 0, 0, 0, 0), (12, 12, 22, 0, 165, 0), (0, 0, 0, 0, 0, 1), (24, 0, 0, 0, 0, 0), (14, 0, 0, 0, 0, 0), (5, 1, 0, 0, 0, 0), (54, 2, 36, 0, 0, 0), (7, 0, 0, 0, 0, 0), (50, 0, 0, 0, 0, 0), (12, 12, 22, 0, 165, 0), (0, 0, 0, 0, 0, 1), (24, 0, 0, 0, 0, 0), (13, 12, 22, 0, 165, 0), (7, 0, 0, 0, 0, 0), (7, 0, 0, 0, 0, 0), (12, 12, 21, 2, 41, 0), (7, 0, 0, 0, 0, 0), (12, 12, 22, 0, 165, 0), (14, 0, 0, 0, 0, 0), (0, 0, 0, 0, 0, 0), (67, 203, 3, 0, 175, 0), (57, 0, 0, 0, 0, 0), (60, 0, 0, 0, 0, 0)]
def ko_206 : List Nat := [0, 1, 4, 7, 8, 11, 12, 15, 16, 17, 18, 20, 23, 24, 27, 28, 31, 32, 33, 34, 35, 38, 39, 40, 43, 44, 45, 48, 49, 50, 53, 54, 57, 58, 59, 62, 65, 66]
def kc_207 : List RI := [(7, 0, 0, 0, 0, 0), (12, 12, 14, 0, 138, 0), (0, 0, 0, 0, 0, 2), (54, 0, 6, 0, 0, 0), (0, 0, 0, 0, 0, -1), (61, 0, 0, 0, 0, 0), (7, 0, 0, 0, 0, 0), (12, 12, 16, 1, 151, 0), (48, 0, 0, 0, 179, 97), (45, 0, 0, 0, 0, 0), (53, 1, 13, 0, 0, 0), (0, 0, 0, 0, 0, 0), (57, 0, 35, 0, 0, 0), (7, 0, 0, 0, 0, 0), (12, 12, 16, 1, 151, 0), (48, 0, 0, 0, 181, 98), (45, 0, 0, 0, 0, 0), (53, 1, 20, 0, 0, 0), (0, 0, 0, 0, 0, 1), (57, 0, 35, 0, 0, 0), (7, 0, 0, 0, 0, 0), (12, 12, 16, 1, 151, 0), (48, 0, 0, 0, 183, 120), (45, 0, 0, 0, 0, 0), (53, 1, 27, 0, 0, 0), (0, 0, 0, 0, 0, 2), (57, 0, 35, 0, 0, 0), (7, 0, 0, 0, 0, 0), (12, 12, 16, 1, 151, 0), (48, 0, 0, 0, 185, 121), (45, 0, 0, 0, 0, 0), (53, 1, 34, 0, 0, 0), (0, 0, 0, 0, 0, 3), (57, 0, 35, 0, 0, 0), (0, 0, 0, 0, 0, -1), (61, 0, 0, 0, 0, 0)]
def ko_207 : List Nat := [0, 1, 4, 5, 8, 9, 10, 11, 14, 17, 18, 21, 22, 25, 26, 29, 32, 33, 36, 37, 40, 41, 44, 47, 48, 51, 52, 55, 56, 59, 62, 63, 66, 67, 70, 71, 72]
def kc_208 : List RI := [(7, 0, 0, 0, 0, 0), (12, 12, 14, 0, 138, 0), (0, 0, 0, 0, 0, 1), (54, 1, 21, 0, 0, 0), (7, 0, 0, 0, 0, 0), (12, 12, 15, 0, 144, 0), (2, 0, 0, 0, 0, 9999), (54, 5, 10, 0, 0, 0), (0, 0, 0, 0, 0, 2), (61, 0, 0, 0, 0, 0), (7, 0, 0, 0, 0, 0), (0, 0, 0, 0, 0, 0), (7, 0, 0, 0, 0, 0), (12, 12, 15, 0, 144, 0), (67, 203, 3, 0, 175, 0), (7, 0, 0, 0, 0, 0), (67, 198, 1, 0, 187, 0), (7, 0, 0, 0, 0, 0), (67, 205, 1, 0, 190, 0), (0, 0, 0, 0, 0, 0), (61, 0, 0, 0, 0, 0), (7, 0, 0, 0, 0, 0), (67, 207, 1, 1, 193, 0), (53, 2, 35, 0, 0, 0), (7, 0, 0, 0, 0, 0), (0, 0, 0, 0, 0, 1), (7, 0, 0, 0, 0, 0), (67, 207, 1, 1, 193, 0), (67, 203, 3, 0, 175, 0), (7, 0, 0, 0, 0, 0), (67, 198, 1, 0, 187, 0), (7, 0, 0, 0, 0, 0), (67, 205, 1, 0, 190, 0), (0, 0, 0, 0, 0, 0), (61, 0, 0, 0, 0, 0), (7, 0, 0, 0, 0, 0), (12, 12, 14, 0, 138, 0), (1, 0, 0, 0, 0, 40), (54, 1, 41, 0, 0, 0), (1, 0, 0, 0, 0, 40), (57, 0, 48, 0, 0, 0), (7, 0, 0, 0, 0, 0), (12, 12, 14, 0, 138, 0), (1, 0, 0, 0, 0, 45), (54, 1, 47, 0, 0, 0), (0, 0, 0, 0, 0, 2), (57, 0, 48, 0, 0, 0), (0, 0, 0, 0, 0, 0), (8, 1, 0, 0, 0, 0), (5, 1, 0, 0, 0, 0), (53, 1, 53, 0, 0, 0), (0, 0, 0, 0, 0, 1), (61, 0, 0, 0, 0, 0), (7, 0, 0, 0, 0, 0), (12, 12, 23, 0, 172, 0), (1, 0, 0, 0, 0, 8), (54, 1, 59, 0, 0, 0), (0, 0, 0, 0, 0, 3), (61, 0, 0, 0, 0, 0), (7, 0, 0, 0, 0, 0), (50, 0, 0, 0, 0, 0), (12, 12, 23, 0, 172, 0), (0, 0, 0, 0, 0, 1), (23, 0, 0, 0, 0, 0), (13, 12, 23, 0, 172, 0), (7, 0, 0, 0, 0, 0), (5, 1, 0, 0, 0, 0), (67, 204, 2, 0, 197, 0), (7, 0, 0, 0, 0, 0), (67, 198, 1, 0, 187, 0), (0, 0, 0, 0, 0, 0), (61, 0, 0, 0, 0, 0)]
def ko_208 : List Nat := [0, 1, 4, 5, 8, 9, 12, 15, 18, 19, 20, 21, 22, 23, 26, 29, 30, 33, 34, 37, 38, 39, 40, 43, 46, 47, 48, 49, 52, 55, 56, 59, 60, 63, 64, 65, 66, 69, 71, 74, 76, 79, 80, 83, 85, 88, 89, 92, 93, 94, 95, 98, 99, 100, 101, 104, 106, 109, 110, 111, 112, 113, 116, 117, 118, 121, 122, 123, 126, 127, 130, 131, 132]
def kc_209 : List RI := [(0, 0, 0, 0, 0, 0), (8, 1, 0, 0, 0, 0), (5, 1, 0, 0, 0, 0), (7, 0, 0, 0, 0, 0), (12, 12, 22, 0, 165, 0), (54, 3, 16, 0, 0, 0), (7, 0, 0, 0, 0, 0), (12, 12, 21, 2, 41, 0), (5, 1, 0, 0, 0, 0), (14, 0, 0, 0, 0, 0), (1, 0, 0, 0, 0, 40), (54, 1, 14, 0, 0, 0), (0, 0, 0, 0, 0, 1), (62, 0, 0, 0, 0, 0), (11, 1, 0, 0, 0, 1), (57, 0, 2, 0, 0, 0), (0, 0, 0, 0, 0, 0), (62, 0, 0, 0, 0, 0)]
def ko_209 : List Nat := [0, 1, 2, 3, 4, 7, 10, 11, 14, 15, 16, 18, 21, 22, 23, 26, 29, 30, 31]
def kc_210 : List RI := [(7, 0, 0, 0, 0, 0), (12, 12, 14, 0, 138, 0), (1, 0, 0, 0, 0, 43), (54, 0, 19, 0, 0, 0), (7, 0, 0, 0, 0, 0), (12, 12, 14, 0, 138, 0), (1, 0, 0, 0, 0, 45), (54, 0, 19, 0, 0, 0), (7, 0, 0, 0, 0, 0), (12, 12, 14, 0, 138, 0), (1, 0, 0, 0, 0, 42), (54, 0, 19, 0, 0, 0), (7, 0, 0, 0, 0, 0), (12, 12, 14, 0, 138, 0), (1, 0, 0, 0, 0, 41), (54, 1, 21, 0, 0, 0), (7, 0, 0, 0, 0, 0), (67, 209, 1, 1, 200, 0), (53, 0, 21, 0, 0, 0), (0, 0, 0, 0, 0, 1), (57, 0, 22, 0, 0, 0), (0, 0, 0, 0, 0, 0), (62, 0, 0, 0, 0, 0)]
def ko_210 : List Nat := [0, 1, 4, 6, 9, 10, 13, 15, 18, 19, 22, 24, 27, 28, 31, 33, 36, 37, 40, 43, 44, 47, 48, 49]
def kc_211 : List RI := [(7, 0, 0, 0, 0, 0), (12, 12, 14, 0, 138, 0), (8, 1, 0, 0, 0, 0), (5, 1, 0, 0, 0, 0), (1, 0, 0, 0, 0, 43), (54, 0, 9, 0, 0, 0), (5, 1, 0, 0, 0, 0), (1, 0, 0, 0, 0, 45), (54, 1, 24, 0, 0, 0), (7, 0, 0, 0, 0, 0), (0, 0, 0, 0, 0, 3), (67, 206, 2, 0, 204, 0), (7, 0, 0, 0, 0, 0), (5, 1, 0, 0, 0, 0), (1, 0, 0, 0, 0, 43), (54, 1, 18, 0, 0, 0), (0, 0, 0, 0, 0, 3), (57, 0, 19, 0, 0, 0), (0, 0, 0, 0, 0, 4), (67, 204, 2, 0, 197, 0), (7, 0, 0, 0, 0, 0), (0, 0, 0, 0, 0, 0), (13, 12, 24, 3, 168, 0), (57, 0, 54, 0, 0, 0), (5, 1, 0, 0, 0, 0), (1, 0, 0, 0, 0, 42), (54, 1, 37, 0, 0, 0), (7, 0, 0, 0, 0, 0), (0, 0, 0, 0, 0, 5), (67, 206, 2, 0, 204, 0), (7, 0, 0, 0, 0, 0), (0, 0, 0, 0, 0, 5), (67, 204, 2, 0, 197, 0), (7, 0, 0, 0, 0, 0), (0, 0, 0, 0, 0, 0), (13, 12, 24, 3, 168, 0), (57, 0, 54, 0, 0, 0), (7, 0, 0, 0, 0, 0), (0, 0, 0, 0, 0, 3), (67, 206, 2, 0, 204, 0), (7, 0, 0, 0, 0, 0), (50, 0, 0, 0, 0, 0), (12, 12, 22, 0, 165, 0), (0, 0, 0, 0, 0, 1), (24, 0, 0, 0, 0, 0), (13, 12, 22, 0, 165, 0), (7, 0, 0, 0, 0, 0), (50, 0, 0, 0, 0, 0), (12, 12, 23, 0, 172, 0), (0, 0, 0, 0, 0, 1), (24, 0, 0, 0, 0, 0), (13, 12, 23, 0, 172, 0), (7, 0, 0, 0, 0, 0), (67, 205, 1, 0, 190, 0), (7, 0, 0, 0, 0, 0), (67, 198, 1, 0, 187, 0), (0, 0, 0, 0, 0, 0), (61, 0, 0, 0, 0, 0)]
def ko_211 : List Nat := [0, 1, 4, 5, 6, 8, 11, 12, 14, 17, 18, 19, 22, 23, 24, 26, 29, 30, 33, 34, 37, 38, 39, 42, 45, 46, 48, 51, 52, 53, 56, 57, 58, 61, 62, 63, 66, 69, 70, 71, 74, 75, 76, 79, 80, 81, 84, 85, 86, 89, 90, 91, 94, 95, 98, 99, 102, 103, 104]
def kc_212 : List RI := [(7, 0, 0, 0, 0, 0), (0, 0, 0, 0, 0, 0), (13, 12, 22, 0, 165, 0), (7, 0, 0, 0, 0, 0), (0, 0, 0, 0, 0, 0), (13, 12, 24, 3, 168, 0), (7, 0, 0, 0, 0, 0), (12, 12, 24, 3, 168, 0), (53, 0, 12, 0, 0, 0), (7, 0, 0, 0, 0, 0), (67, 210, 1, 1, 207, 0), (53, 0, 26, 0, 0, 0), (7, 0, 0, 0, 0, 0), (12, 12, 24, 3, 168, 0), (53, 0, 18, 0, 0, 0), (7, 0, 0, 0, 0, 0), (67, 211, 1, 1, 210, 0), (57, 0, 20, 0, 0, 0), (7, 0, 0, 0, 0, 0), (67, 208, 1, 1, 213, 0), (8, 1, 0, 0, 0, 0), (5, 1, 0, 0, 0, 0), (53, 0, 25, 0, 0, 0), (5, 1, 0, 0, 0, 0), (61, 0, 0, 0, 0, 0), (57, 0, 6, 0, 0, 0), (7, 0, 0, 0, 0, 0), (0, 0, 0, 0, 0, 3), (67, 206, 2, 0, 204, 0), (7, 0, 0, 0, 0, 0), (12, 12, 22, 0, 165, 0), (53, 5, 34, 0, 0, 0), (0, 0, 0, 0, 0, 1), (57, 0, 35, 0, 0, 0), (0, 0, 0, 0, 0, 0), (61, 0, 0, 0, 0, 0)]
def ko_212 : List Nat := [0, 1, 2, 5, 6, 7, 10, 11, 14, 17, 18, 21, 24, 25, 28, 31, 32, 35, 38, 39, 42, 43, 44, 47, 48, 49, 52, 53, 54, 57, 58, 61, 64, 65, 68, 69, 70]
def kc_213 : List RI := [(7, 0, 0, 0, 0, 0), (12, 12, 14, 0, 138, 0), (1, 0, 0, 0, 0, 60), (54, 1, 6, 0, 0, 0), (1, 0, 0, 0, 0, 10), (57, 0, 37, 0, 0, 0), (7, 0, 0, 0, 0, 0), (12, 12, 14, 0, 138, 0), (0, 0, 0, 0, 0, 4), (54, 1, 12, 0, 0, 0), (1, 0, 0, 0, 0, 11), (57, 0, 37, 0, 0, 0), (7, 0, 0, 0, 0, 0), (12, 12, 14, 0, 138, 0), (1, 0, 0, 0, 0, 62), (54, 1, 18, 0, 0, 0), (1, 0, 0, 0, 0, 12), (57, 0, 37, 0, 0, 0), (7, 0, 0, 0, 0, 0), (12, 12, 14, 0, 138, 0), (0, 0, 0, 0, 0, 5), (54, 1, 24, 0, 0, 0), (1, 0, 0, 0, 0, 13), (57, 0, 37, 0, 0, 0), (7, 0, 0, 0, 0, 0), (12, 12, 14, 0, 138, 0), (1, 0, 0, 0, 0, 61), (54, 1, 30, 0, 0, 0), (1, 0, 0, 0, 0, 14), (57, 0, 37, 0, 0, 0), (7, 0, 0, 0, 0, 0), (12, 12, 14, 0, 138, 0), (1, 0, 0, 0, 0, 35), (54, 1, 36, 0, 0, 0), (1, 0, 0, 0, 0, 15), (57, 0, 37, 0, 0, 0), (0, 0, 0, 0, 0, -1), (61, 0, 0, 0, 0, 0)]
def ko_213 : List Nat := [0, 1, 4, 6, 9, 11, 14, 15, 18, 19, 22, 24, 27, 28, 31, 33, 36, 38, 41, 42, 45, 46, 49, 51, 54, 55, 58, 60, 63, 65, 68, 69, 72, 74, 77, 79, 82, 83, 84]
def kc_214 : List RI := [(0, 0, 0, 0, 0, 0), (8, 1, 0, 0, 0, 0), (7, 0, 0, 0, 0, 0), (1, 0, 0, 0, 0, 110), (1, 0, 0, 0, 0, 111), (1, 0, 0, 0, 0, 116), (67, 199, 3, 2, 155, 1), (67, 202, 2, 1, 216, 0), (53, 0, 25, 0, 0, 0), (7, 0, 0, 0, 0, 0), (12, 12, 23, 0, 172, 0), (1, 0, 0, 0, 0, 8), (54, 1, 15, 0, 0, 0), (0, 0, 0, 0, 0, 3), (61, 0, 0, 0, 0, 0), (7, 0, 0, 0, 0, 0), (50, 0, 0, 0, 0, 0), (12, 12, 23, 0, 172, 0), (0, 0, 0, 0, 0, 1), (23, 0, 0, 0, 0, 0), (13, 12, 23, 0, 172, 0), (11, 1, 0, 0, 0, 1), (7, 0, 0, 0, 0, 0), (67, 198, 1, 0, 187, 0), (57, 0, 2, 0, 0, 0), (7, 0, 0, 0, 0, 0), (67, 212, 1, 1, 220, 0), (8, 2, 0, 0, 0, 0), (5, 2, 0, 0, 0, 0), (53, 0, 32, 0, 0, 0), (5, 2, 0, 0, 0, 0), (61, 0, 0, 0, 0, 0), (7, 0, 0, 0, 0, 0), (67, 213, 1, 1, 223, 0), (8, 3, 0, 0, 0, 0), (5, 3, 0, 0, 0, 0), (53, 3, 39, 0, 0, 0), (0, 0, 0, 0, 0, 1), (61, 0, 0, 0, 0, 0), (7, 0, 0, 0, 0, 0), (67, 198, 1, 0, 187, 0), (7, 0, 0, 0, 0, 0), (67, 212, 1, 1, 220, 0), (8, 2, 0, 0, 0, 0), (5, 2, 0, 0, 0, 0), (53, 0, 48, 0, 0, 0), (5, 2, 0, 0, 0, 0), (61, 0, 0, 0, 0, 0), (7, 0, 0, 0, 0, 0), (5, 3, 0, 0, 0, 0), (0, 0, 0, 0, 0, 0), (67, 203, 3, 0, 175, 0), (7, 0, 0, 0, 0, 0), (50, 0, 0, 0, 0, 0), (12, 12, 23, 0, 172, 0), (5, 1, 0, 0, 0, 0), (24, 0, 0, 0, 0, 0), (13, 12, 23, 0, 172, 0), (0, 0, 0, 0, 0, 0), (8, 4, 1, 0, 0, 0), (5, 4, 1, 0, 0, 0), (5, 1, 0, 0, 0, 0), (54, 3, 69, 0, 0, 0), (7, 0, 0, 0, 0, 0), (1, 0, 0, 0, 0, 20), (0, 0, 0, 0, 0, 0), (67, 203, 3, 0, 175, 0), (11, 4, 0, 0, 0, 1), (57, 0, 60, 0, 0, 0), (0, 0, 0, 0, 0, 0), (61, 0, 0, 0, 0, 0)]
def ko_214 : List Nat := [0, 1, 2, 3, 5, 7, 9, 12, 15, 18, 19, 22, 24, 27, 28, 29, 30, 31, 34, 35, 36, 39, 42, 43, 46, 49, 50, 53, 54, 55, 58, 59, 60, 61, 64, 65, 66, 69, 70, 71, 72, 75, 76, 79, 80, 81, 84, 85, 86, 87, 88, 89, 92, 93, 94, 97, 98, 99, 102, 103, 105, 107, 108, 111, 112, 114, 115, 118, 121, 124, 125, 126]
def kc_215 : List RI := [(0, 0, 0, 0, 0, 0), (8, 1, 0, 0, 0, 0), (0, 0, 0, 0, 0, 0), (8, 2, 0, 0, 0, 0), (0, 0, 0, 0, 0, 1), (8, 3, 0, 0, 0, 0), (5, 3, 0, 0, 0, 0), (53, 0, 64, 0, 0, 0), (7, 0, 0, 0, 0, 0), (67, 214, 1, 1, 226, 0), (8, 4, 1, 0, 0, 0), (5, 4, 1, 0, 0, 0), (53, 0, 15, 0, 0, 0), (5, 4, 1, 0, 0, 0), (61, 0, 0, 0, 0, 0), (5, 1, 0, 0, 0, 0), (53, 0, 21, 0, 0, 0), (7, 0, 0, 0, 0, 0), (1, 0, 0, 0, 0, 21), (0, 0, 0, 0, 0, 0), (67, 203, 3, 0, 175, 0), (7, 0, 0, 0, 0, 0), (1, 0, 0, 0, 0, 97), (1, 0, 0, 0, 0, 110), (1, 0, 0, 0, 0, 100), (67, 199, 3, 2, 155, 1), (67, 202, 2, 1, 216, 0), (8, 1, 0, 0, 0, 0), (7, 0, 0, 0, 0, 0), (12, 12, 14, 0, 138, 0), (0, 0, 0, 0, 0, 2), (54, 1, 39, 0, 0, 0), (7, 0, 0, 0, 0, 0), (12, 12, 16, 1, 151, 0), (48, 0, 0, 0, 229, 28530), (45, 0, 0, 0, 0, 0), (53, 1, 39, 0, 0, 0), (0, 0, 0, 0, 0, 1), (57, 0, 40, 0, 0, 0), (0, 0, 0, 0, 0, 0), (8, 5, 1, 0, 0, 0), (5, 1, 0, 0, 0, 0), (53, 1, 51, 0, 0, 0), (5, 2, 0, 0, 0, 0), (53, 0, 49, 0, 0, 0), (7, 0, 0, 0, 0, 0), (1, 0, 0, 0, 0, 22), (0, 0, 0, 0, 0, 0), (67, 203, 3, 0, 175, 0), (5, 5, 1, 0, 0, 0), (8, 2, 0, 0, 0, 0), (5, 1, 0, 0, 0, 0), (53, 1, 55, 0, 0, 0), (5, 5, 1, 0, 0, 0), (53, 0, 57, 0, 0, 0), (0, 0, 0, 0, 0, 1), (57, 0, 58, 0, 0, 0), (0, 0, 0, 0, 0, 0), (8, 3, 0, 0, 0, 0), (5, 3, 0, 0, 0, 0), (53, 0, 63, 0, 0, 0), (7, 0, 0, 0, 0, 0), (67, 198, 1, 0, 187, 0), (57, 0, 6, 0, 0, 0), (0, 0, 0, 0, 0, 0), (61, 0, 0, 0, 0, 0)]
def ko_215 : List Nat := [0, 1, 2, 3, 4, 5, 6, 7, 10, 11, 14, 16, 18, 21, 23, 24, 25, 28, 29, 31, 32, 35, 36, 38, 40, 42, 45, 48, 49, 50, 53, 54, 57, 58, 61, 64, 65, 68, 69, 72, 73, 75, 76, 79, 80, 83, 84, 86, 87, 90, 92, 93, 94, 97, 99, 102, 103, 106, 107, 108, 109, 112, 113, 116, 119, 120, 121]
def kc_216 : List RI := [(7, 0, 0, 0, 0, 0), (1, 0, 0, 0, 0, 115), (1, 0, 0, 0, 0, 119), (1, 0, 0, 0, 0, 97), (1, 0, 0, 0, 0, 112), (67, 201, 4, 2, 231, 1), (67, 202, 2, 1, 216, 0), (53, 0, 10, 0, 0, 0), (0, 0, 0, 0, 0, 1), (61, 0, 0, 0, 0, 0), (7, 0, 0, 0, 0, 0), (1, 0, 0, 0, 0, 111), (1, 0, 0, 0, 0, 110), (1, 0, 0, 0, 0, 99), (1, 0, 0, 0, 0, 101), (67, 201, 4, 2, 231, 1), (67, 202, 2, 1, 216, 0), (53, 0, 20, 0, 0, 0), (0, 0, 0, 0, 0, 2), (61, 0, 0, 0, 0, 0), (7, 0, 0, 0, 0, 0), (1, 0, 0, 0, 0, 97), (1, 0, 0, 0, 0, 115), (1, 0, 0, 0, 0, 107), (67, 199, 3, 2, 155, 1), (67, 202, 2, 1, 216, 0), (53, 0, 29, 0, 0, 0), (0, 0, 0, 0, 0, 3), (57, 0, 41, 0, 0, 0), (7, 0, 0, 0, 0, 0), (1, 0, 0, 0, 0, 106), (1, 0, 0, 0, 0, 117), (1, 0, 0, 0, 0, 100), (1, 0, 0, 0, 0, 103), (1, 0, 0, 0, 0, 101), (67, 200, 5, 2, 235, 1), (67, 202, 2, 1, 216, 0), (53, 0, 40, 0, 0, 0), (0, 0, 0, 0, 0, 4), (57, 0, 41, 0, 0, 0), (0, 0, 0, 0, 0, 0), (61, 0, 0, 0, 0, 0)]
def ko_216 : List Nat := [0, 1, 3, 5, 7, 9, 12, 15, 18, 19, 20, 21, 23, 25, 27, 29, 32, 35, 38, 39, 40, 41, 43, 45, 47, 50, 53, 56, 57, 60, 61, 63, 65, 67, 69, 71, 74, 77, 80, 81, 84, 85, 86]
def kc_217 : List RI := [(7, 0, 0, 0, 0, 0), (67, 216, 1, 1, 239, 0), (8, 1, 0, 0, 0, 0), (5, 1, 0, 0, 0, 0), (53, 1, 7, 0, 0, 0), (0, 0, 0, 0, 0, 1), (61, 0, 0, 0, 0, 0), (7, 0, 0, 0, 0, 0), (12, 12, 20, 0, 242, 0), (5, 1, 0, 0, 0, 0), (30, 0, 0, 0, 0, 0), (0, 0, 0, 0, 0, 1), (26, 0, 0, 0, 0, 0), (0, 0, 0, 0, 0, 1), (54, 1, 17, 0, 0, 0), (0, 0, 0, 0, 0, 4), (61, 0, 0, 0, 0, 0), (7, 0, 0, 0, 0, 0), (50, 0, 0, 0, 0, 0), (12, 12, 20, 0, 242, 0), (0, 0, 0, 0, 0, 1), (5, 1, 0, 0, 0, 0), (29, 0, 0, 0, 0, 0), (27, 0, 0, 0, 0, 0), (13, 12, 20, 0, 242, 0), (7, 0, 0, 0, 0, 0), (67, 198, 1, 0, 187, 0), (5, 1, 0, 0, 0, 0), (0, 0, 0, 0, 0, 1), (54, 1, 65, 0, 0, 0), (7, 0, 0, 0, 0, 0), (12, 12, 14, 0, 138, 0), (0, 0, 0, 0, 0, 1), (54, 0, 36, 0, 0, 0), (0, 0, 0, 0, 0, 1), (61, 0, 0, 0, 0, 0), (7, 0, 0, 0, 0, 0), (12, 12, 15, 0, 144, 0), (0, 0, 0, 0, 0, 1), (54, 0, 54, 0, 0, 0), (7, 0, 0, 0, 0, 0), (12, 12, 15, 0, 144, 0), (0, 0, 0, 0, 0, 2), (54, 0, 54, 0, 0, 0), (7, 0, 0, 0, 0, 0), (12, 12, 15, 0, 144, 0), (0, 0, 0, 0, 0, 3), (54, 0, 54, 0, 0, 0), (7, 0, 0, 0, 0, 0), (12, 12, 15, 0, 144, 0), (1, 0, 0, 0, 0, 6), (54, 0, 54, 0, 0, 0), (0, 0, 0, 0, 0, 2), (61, 0, 0, 0, 0, 0), (7, 0, 0, 0, 0, 0), (12, 12, 2, 2, 16, 0), (7, 0, 0, 0, 0, 0), (12, 12, 17, 0, 159, 0), (0, 0, 0, 0, 0, 1), (23, 0, 0, 0, 0, 0), (7, 0, 0, 0, 0, 0), (12, 12, 15, 0, 144, 0), (18, 0, 0, 0, 0, 0), (7, 0, 0, 0, 0, 0), (67, 198, 1, 0, 187, 0), (5, 1, 0, 0, 0, 0), (0, 0, 0, 0, 0, 2), (54, 1, 76, 0, 0, 0), (7, 0, 0, 0, 0, 0), (12, 12, 2, 2, 16, 0), (7, 0, 0, 0, 0, 0), (12, 12, 17, 0, 159, 0), (0, 0, 0, 0, 0, 2), (23, 0, 0, 0, 0, 0), (0, 0, 0, 0, 0, 1), (18, 0, 0, 0, 0, 0), (5, 1, 0, 0, 0, 0), (0, 0, 0, 0, 0, 3), (54, 1, 136, 0, 0, 0), (7, 0, 0, 0, 0, 0), (1, 0, 0, 0, 0, 112), (1, 0, 0, 0, 0, 97), (1, 0, 0, 0, 0, 105), (1, 0, 0, 0, 0, 114), (1, 0, 0, 0, 0, 115), (67, 200, 5, 2, 235, 1), (67, 202, 2, 1, 216, 0), (8, 2, 0, 0, 0, 0), (7, 0, 0, 0, 0, 0), (1, 0, 0, 0, 0, 108), (1, 0, 0, 0, 0, 97), (1, 0, 0, 0, 0, 110), (1, 0, 0, 0, 0, 100), (1, 0, 0, 0, 0, 115), (67, 200, 5, 2, 235, 1), (67, 202, 2, 1, 216, 0), (8, 3, 0, 0, 0, 0), (5, 2, 0, 0, 0, 0), (53, 1, 118, 0, 0, 0), (5, 3, 0, 0, 0, 0), (53, 1, 118, 0, 0, 0), (7, 0, 0, 0, 0, 0), (1, 0, 0, 0, 0, 98), (1, 0, 0, 0, 0, 111), (1, 0, 0, 0, 0, 114), (1, 0, 0, 0, 0, 100), (1, 0, 0, 0, 0, 101), (67, 200, 5, 2, 235, 1), (1, 0, 0, 0, 0, 16), (46, 0, 0, 0, 0, 0), (48, 0, 0, 0, 245, 29184), (39, 0, 0, 0, 0, 0), (48, 0, 0, 0, 247, 115), (39, 0, 0, 0, 0, 0), (67, 202, 2, 1, 216, 0), (53, 1, 118, 0, 0, 0), (0, 0, 0, 0, 0, 1), (61, 0, 0, 0, 0, 0), (7, 0, 0, 0, 0, 0), (12, 12, 2, 2, 16, 0), (7, 0, 0, 0, 0, 0), (12, 12, 17, 0, 159, 0), (0, 0, 0, 0, 0, 3), (23, 0, 0, 0, 0, 0), (5, 2, 0, 0, 0, 0), (53, 0, 128, 0, 0, 0), (0, 0, 0, 0, 0, 1), (57, 0, 133, 0, 0, 0), (5, 3, 0, 0, 0, 0), (53, 0, 132, 0, 0, 0), (0, 0, 0, 0, 0, 2), (57, 0, 133, 0, 0, 0), (0, 0, 0, 0, 0, 0), (18, 0, 0, 0, 0, 0), (7, 0, 0, 0, 0, 0), (67, 198, 1, 0, 187, 0), (5, 1, 0, 0, 0, 0), (0, 0, 0, 0, 0, 4), (54, 1, 152, 0, 0, 0), (7, 0, 0, 0, 0, 0), (67, 215, 1, 1, 249, 0), (8, 2, 0, 0, 0, 0), (5, 2, 0, 0, 0, 0), (53, 0, 146, 0, 0, 0), (5, 2, 0, 0, 0, 0), (61, 0, 0, 0, 0, 0), (7, 0, 0, 0, 0, 0), (12, 12, 2, 2, 16, 0), (7, 0, 0, 0, 0, 0), (12, 12, 17, 0, 159, 0), (0, 0, 0, 0, 0, 1), (18, 0, 0, 0, 0, 0), (7, 0, 0, 0, 0, 0), (12, 12, 14, 0, 138, 0), (1, 0, 0, 0, 0, 59), (54, 0, 158, 0, 0, 0), (0, 0, 0, 0, 0, 1), (61, 0, 0, 0, 0, 0), (7, 0, 0, 0, 0, 0), (67, 198, 1, 0, 187, 0), (0, 0, 0, 0, 0, 0), (61, 0, 0, 0, 0, 0)]
def ko_217 : List Nat := [0, 1, 4, 5, 6, 9, 10, 11, 12, 15, 16, 17, 18, 19, 20, 23, 24, 25, 26, 27, 30, 31, 32, 33, 34, 37, 38, 41, 42, 43, 46, 47, 50, 51, 54, 55, 56, 57, 60, 61, 64, 65, 68, 69, 72, 73, 76, 77, 80, 81, 84, 86, 89, 90, 91, 92, 95, 96, 99, 100, 101, 102, 105, 106, 107, 110, 111, 112, 115, 116, 119, 120, 123, 124, 125, 126, 127, 128, 129, 132, 133, 135, 137, 139, 141, 143, 146, 149, 150, 151, 153, 155, 157, 159, 161, 164, 167, 168, 169, 172, 173, 176, 177, 179, 181, 183, 185, 187, 190, 192, 193, 196, 197, 200, 201, 204, 207, 208, 209, 210, 213, 214, 217, 218, 219, 220, 223, 224, 227, 228, 231, 232, 235, 236, 237, 238, 241, 242, 243, 246, 247, 250, 251, 252, 255, 256, 257, 258, 261, 262, 265, 266, 267, 268, 271, 273, 276, 277, 278, 279, 282, 283, 284]
def kc_218 : List RI := [(7, 0, 0, 0, 0, 0), (2, 0, 0, 0, 0, 800), (7, 0, 0, 0, 0, 0), (12, 12, 0, 2, 7, 0), (0, 0, 0, 0, 0, 1), (14, 0, 0, 0, 0, 0), (25, 0, 0, 0, 0, 0), (13, 12, 17, 0, 159, 0), (7, 0, 0, 0, 0, 0), (12, 12, 2, 2, 16, 0), (7, 0, 0, 0, 0, 0), (12, 12, 17, 0, 159, 0), (0, 0, 0, 0, 0, 0), (18, 0, 0, 0, 0, 0), (7, 0, 0, 0, 0, 0), (12, 12, 2, 2, 16, 0), (7, 0, 0, 0, 0, 0), (12, 12, 17, 0, 159, 0), (0, 0, 0, 0, 0, 1), (23, 0, 0, 0, 0, 0), (0, 0, 0, 0, 0, 1), (18, 0, 0, 0, 0, 0), (7, 0, 0, 0, 0, 0), (12, 12, 2, 2, 16, 0), (7, 0, 0, 0, 0, 0), (12, 12, 17, 0, 159, 0), (0, 0, 0, 0, 0, 2), (23, 0, 0, 0, 0, 0), (0, 0, 0, 0, 0, 0), (18, 0, 0, 0, 0, 0), (7, 0, 0, 0, 0, 0), (12, 12, 2, 2, 16, 0), (7, 0, 0, 0, 0, 0), (12, 12, 17, 0, 159, 0), (0, 0, 0, 0, 0, 3), (23, 0, 0, 0, 0, 0), (0, 0, 0, 0, 0, 0), (18, 0, 0, 0, 0, 0), (7, 0, 0, 0, 0, 0), (0, 0, 0, 0, 0, 0), (13, 12, 19, 0, 162, 0), (7, 0, 0, 0, 0, 0), (0, 0, 0, 0, 0, 0), (13, 12, 23, 0, 172, 0), (7, 0, 0, 0, 0, 0), (0, 0, 0, 0, 0, 0), (13, 12, 20, 0, 242, 0), (7, 0, 0, 0, 0, 0), (0, 0, 0, 0, 0, 0), (13, 12, 12, 0, 129, 0), (7, 0, 0, 0, 0, 0), (67, 198, 1, 0, 187, 0), (7, 0, 0, 0, 0, 0), (12, 12, 14, 0, 138, 0), (53, 0, 63, 0, 0, 0), (7, 0, 0, 0, 0, 0), (67, 217, 1, 1, 252, 0), (8, 1, 0, 0, 0, 0), (5, 1, 0, 0, 0, 0), (53, 0, 62, 0, 0, 0), (5, 1, 0, 0, 0, 0), (61, 0, 0, 0, 0, 0), (57, 0, 52, 0, 0, 0), (0, 0, 0, 0, 0, 0), (61, 0, 0, 0, 0, 0)]
def ko_218 : List Nat := [0, 1, 4, 5, 8, 9, 10, 11, 14, 15, 18, 19, 22, 23, 24, 25, 28, 29, 32, 33, 34, 35, 36, 37, 40, 41, 44, 45, 46, 47, 48, 49, 52, 53, 56, 57, 58, 59, 60, 61, 62, 65, 66, 67, 70, 71, 72, 75, 76, 77, 80, 81, 84, 85, 88, 91, 92, 95, 96, 97, 100, 101, 102, 105, 106, 107]
def kc_219 : List RI := [(7, 0, 0, 0, 0, 0), (12, 12, 0, 2, 7, 0), (0, 0, 0, 0, 0, 1), (14, 0, 0, 0, 0, 0), (1, 0, 0, 0, 0, 8), (54, 1, 8, 0, 0, 0), (0, 0, 0, 0, 0, -1), (61, 0, 0, 0, 0, 0), (7, 0, 0, 0, 0, 0), (7, 0, 0, 0, 0, 0), (67, 218, 1, 1, 255, 0), (13, 12, 10, 0, 34, 0), (7, 0, 0, 0, 0, 0), (7, 0, 0, 0, 0, 0), (12, 12, 10, 0, 34, 0), (53, 1, 18, 0, 0, 0), (0, 0, 0, 0, 0, -1), (57, 0, 20, 0, 0, 0), (7, 0, 0, 0, 0, 0), (12, 12, 13, 0, 135, 0), (13, 12, 11, 0, 38, 0), (7, 0, 0, 0, 0, 0), (0, 0, 0, 0, 0, 0), (13, 12, 9, 0, 123, 0), (7, 0, 0, 0, 0, 0), (12, 12, 10, 0, 34, 0), (53, 0, 29, 0, 0, 0), (0, 0, 0, 0, 0, -1), (61, 0, 0, 0, 0, 0), (7, 0, 0, 0, 0, 0), (12, 12, 2, 2, 16, 0), (7, 0, 0, 0, 0, 0), (12, 12, 17, 0, 159, 0), (0, 0, 0, 0, 0, 4), (23, 0, 0, 0, 0, 0), (7, 0, 0, 0, 0, 0), (12, 12, 19, 0, 162, 0), (18, 0, 0, 0, 0, 0), (7, 0, 0, 0, 0, 0), (12, 12, 0, 2, 7, 0), (0, 0, 0, 0, 0, 1), (51, 0, 0, 0, 0, 0), (14, 0, 0, 0, 0, 0), (0, 0, 0, 0, 0, 1), (23, 0, 0, 0, 0, 0), (18, 0, 0, 0, 0, 0), (7, 0, 0, 0, 0, 0), (12, 12, 0, 2, 7, 0), (0, 0, 0, 0, 0, 1), (14, 0, 0, 0, 0, 0), (0, 0, 0, 0, 0, 1), (24, 0, 0, 0, 0, 0), (61, 0, 0, 0, 0, 0)]
def ko_219 : List Nat := [0, 1, 4, 5, 6, 8, 11, 12, 13, 14, 15, 18, 21, 22, 23, 26, 29, 30, 33, 34, 37, 40, 41, 42, 45, 46, 49, 52, 53, 54, 55, 58, 59, 62, 63, 64, 65, 68, 69, 70, 73, 74, 75, 76, 77, 78, 79, 80, 83, 84, 85, 86, 87, 88]
def kc_220 : List RI := [(5, 1, 0, 0, 0, 0), (53, 1, 5, 0, 0, 0), (7, 0, 0, 0, 0, 0), (12, 12, 10, 0, 34, 0), (57, 0, 12, 0, 0, 0), (5, 1, 0, 0, 0, 0), (0, 0, 0, 0, 0, 1), (54, 1, 11, 0, 0, 0), (7, 0, 0, 0, 0, 0), (12, 12, 11, 0, 38, 0), (57, 0, 12, 0, 0, 0), (0, 0, 0, 0, 0, -1), (61, 0, 0, 0, 0, 0)]
def ko_220 : List Nat := [0, 1, 4, 5, 8, 11, 12, 13, 16, 17, 20, 23, 24, 25]
def kc_221 : List RI := [(5, 1, 0, 0, 0, 0), (0, 0, 0, 0, 0, 0), (7, 0, 0, 0, 0, 0), (12, 12, 0, 2, 7, 0), (0, 0, 0, 0, 0, 1), (14, 0, 0, 0, 0, 0), (0, 0, 0, 0, 0, 1), (24, 0, 0, 0, 0, 0), (67, 172, 3, 1, 71, 1), (62, 0, 0, 0, 0, 0)]
def ko_221 : List Nat := [0, 1, 2, 3, 6, 7, 8, 9, 10, 13, 14]
def kc_222 : List RI := [(2, 0, 0, 0, 0, 800), (5, 1, 0, 0, 0, 0), (25, 0, 0, 0, 0, 0), (8, 2, 0, 0, 0, 0), (7, 0, 0, 0, 0, 0), (7, 0, 0, 0, 0, 0), (12, 12, 2, 2, 16, 0), (5, 2, 0, 0, 0, 0), (0, 0, 0, 0, 0, 1), (23, 0, 0, 0, 0, 0), (14, 0, 0, 0, 0, 0), (13, 12, 25, 0, 258, 0), (7, 0, 0, 0, 0, 0), (7, 0, 0, 0, 0, 0), (12, 12, 2, 2, 16, 0), (5, 2, 0, 0, 0, 0), (0, 0, 0, 0, 0, 2), (23, 0, 0, 0, 0, 0), (14, 0, 0, 0, 0, 0), (0, 0, 0, 0, 0, 1), (54, 1, 23, 0, 0, 0), (0, 0, 0, 0, 0, 1), (57, 0, 24, 0, 0, 0), (0, 0, 0, 0, 0, 0), (13, 12, 28, 3, 261, 0), (7, 0, 0, 0, 0, 0), (7, 0, 0, 0, 0, 0), (12, 12, 2, 2, 16, 0), (5, 2, 0, 0, 0, 0), (0, 0, 0, 0, 0, 3), (23, 0, 0, 0, 0, 0), (14, 0, 0, 0, 0, 0), (13, 12, 26, 0, 264, 0), (7, 0, 0, 0, 0, 0), (5, 1, 0, 0, 0, 0), (13, 12, 27, 0, 267, 0), (60, 0, 0, 0, 0, 0)]
def ko_222 : List Nat := [0, 3, 4, 5, 6, 7, 8, 11, 12, 13, 14, 15, 18, 19, 20, 23, 24, 25, 26, 27, 28, 31, 32, 35, 36, 39, 40, 41, 44, 45, 46, 47, 48, 51, 52, 53, 56, 57]
def kc_223 : List RI := [(7, 0, 0, 0, 0, 0), (12, 12, 25, 0, 258, 0), (0, 0, 0, 0, 0, 3), (54, 1, 10, 0, 0, 0), (5, 1, 0, 0, 0, 0), (53, 5, 10, 0, 0, 0), (5, 1, 0, 0, 0, 0), (0, 0, 0, 0, 0, 1), (23, 0, 0, 0, 0, 0), (57, 0, 11, 0, 0, 0), (5, 1, 0, 0, 0, 0), (61, 0, 0, 0, 0, 0)]
def ko_223 : List Nat := [0, 1, 4, 5, 8, 9, 12, 13, 14, 15, 18, 19, 20]
def kc_224 : List RI := [(7, 0, 0, 0, 0, 0), (12, 12, 0, 2, 7, 0), (1, 0, 0, 0, 0, 20), (5, 1, 0, 0, 0, 0), (23, 0, 0, 0, 0, 0), (14, 0, 0, 0, 0, 0), (8, 2, 0, 0, 0, 0), (7, 0, 0, 0, 0, 0), (12, 12, 26, 0, 264, 0), (53, 1, 17, 0, 0, 0), (7, 0, 0, 0, 0, 0), (12, 12, 0, 2, 7, 0), (1, 0, 0, 0, 0, 24), (5, 1, 0, 0, 0, 0), (23, 0, 0, 0, 0, 0), (14, 0, 0, 0, 0, 0), (57, 0, 30, 0, 0, 0), (7, 0, 0, 0, 0, 0), (12, 12, 26, 0, 264, 0), (0, 0, 0, 0, 0, 1), (54, 1, 29, 0, 0, 0), (5, 2, 0, 0, 0, 0), (5, 2, 0, 0, 0, 0), (0, 0, 0, 0, 0, 1), (24, 0, 0, 0, 0, 0), (25, 0, 0, 0, 0, 0), (0, 0, 0, 0, 0, 2), (32, 0, 0, 0, 0, 0), (57, 0, 30, 0, 0, 0), (5, 2, 0, 0, 0, 0), (61, 0, 0, 0, 0, 0)]
def ko_224 : List Nat := [0, 1, 4, 6, 7, 8, 9, 10, 11, 14, 17, 18, 21, 23, 24, 25, 26, 29, 30, 33, 34, 37, 38, 39, 40, 41, 42, 43, 44, 47, 48, 49]
def kc_225 : List RI := [(7, 0, 0, 0, 0, 0), (12, 12, 26, 0, 264, 0), (53, 1, 8, 0, 0, 0), (7, 0, 0, 0, 0, 0), (5, 1, 0, 0, 0, 0), (5, 2, 0, 0, 0, 0), (67, 176, 3, 1, 75, 0), (61, 0, 0, 0, 0, 0), (7, 0, 0, 0, 0, 0), (12, 12, 26, 0, 264, 0), (0, 0, 0, 0, 0, 2), (54, 1, 14, 0, 0, 0), (5, 2, 0, 0, 0, 0), (61, 0, 0, 0, 0, 0), (5, 2, 0, 0, 0, 0), (8, 3, 0, 0, 0, 0), (0, 0, 0, 0, 0, 0), (8, 4, 1, 0, 0, 0), (5, 3, 0, 0, 0, 0), (7, 0, 0, 0, 0, 0), (12, 12, 0, 2, 7, 0), (1, 0, 0, 0, 0, 20), (5, 1, 0, 0, 0, 0), (23, 0, 0, 0, 0, 0), (14, 0, 0, 0, 0, 0), (0, 0, 0, 0, 0, 1), (24, 0, 0, 0, 0, 0), (5, 4, 1, 0, 0, 0), (24, 0, 0, 0, 0, 0), (54, 2, 45, 0, 0, 0), (5, 3, 0, 0, 0, 0), (7, 0, 0, 0, 0, 0), (12, 12, 0, 2, 7, 0), (1, 0, 0, 0, 0, 20), (5, 1, 0, 0, 0, 0), (23, 0, 0, 0, 0, 0), (14, 0, 0, 0, 0, 0), (0, 0, 0, 0, 0, 1), (24, 0, 0, 0, 0, 0), (5, 4, 1, 0, 0, 0), (24, 0, 0, 0, 0, 0), (24, 0, 0, 0, 0, 0), (8, 3, 0, 0, 0, 0), (11, 4, 0, 0, 0, 1), (57, 0, 18, 0, 0, 0), (5, 4, 1, 0, 0, 0), (61, 0, 0, 0, 0, 0)]
def ko_225 : List Nat := [0, 1, 4, 7, 8, 9, 10, 13, 14, 15, 18, 19, 22, 23, 24, 25, 26, 27, 29, 30, 31, 34, 36, 37, 38, 39, 40, 41, 43, 44, 47, 48, 49, 52, 54, 55, 56, 57, 58, 59, 61, 62, 63, 64, 67, 70, 72, 73]
def kc_226 : List RI := [(7, 0, 0, 0, 0, 0), (12, 12, 26, 0, 264, 0), (53, 1, 8, 0, 0, 0), (7, 0, 0, 0, 0, 0), (5, 1, 0, 0, 0, 0), (5, 2, 0, 0, 0, 0), (67, 177, 3, 1, 79, 0), (61, 0, 0, 0, 0, 0), (7, 0, 0, 0, 0, 0), (12, 12, 26, 0, 264, 0), (0, 0, 0, 0, 0, 2), (54, 1, 14, 0, 0, 0), (5, 2, 0, 0, 0, 0), (61, 0, 0, 0, 0, 0), (0, 0, 0, 0, 0, 0), (8, 3, 0, 0, 0, 0), (0, 0, 0, 0, 0, 0), (8, 4, 1, 0, 0, 0), (5, 4, 1, 0, 0, 0), (7, 0, 0, 0, 0, 0), (5, 1, 0, 0, 0, 0), (5, 2, 0, 0, 0, 0), (67, 225, 3, 1, 270, 0), (54, 3, 39, 0, 0, 0), (5, 3, 0, 0, 0, 0), (7, 0, 0, 0, 0, 0), (12, 12, 0, 2, 7, 0), (1, 0, 0, 0, 0, 20), (5, 1, 0, 0, 0, 0), (23, 0, 0, 0, 0, 0), (14, 0, 0, 0, 0, 0), (0, 0, 0, 0, 0, 1), (24, 0, 0, 0, 0, 0), (5, 4, 1, 0, 0, 0), (24, 0, 0, 0, 0, 0), (23, 0, 0, 0, 0, 0), (8, 3, 0, 0, 0, 0), (11, 4, 0, 0, 0, 1), (57, 0, 18, 0, 0, 0), (7, 0, 0, 0, 0, 0), (5, 1, 0, 0, 0, 0), (5, 2, 0, 0, 0, 0), (67, 225, 3, 1, 270, 0), (0, 0, 0, 0, 0, 1), (23, 0, 0, 0, 0, 0), (5, 2, 0, 0, 0, 0), (23, 0, 0, 0, 0, 0), (5, 3, 0, 0, 0, 0), (24, 0, 0, 0, 0, 0), (61, 0, 0, 0, 0, 0)]
def ko_226 : List Nat := [0, 1, 4, 7, 8, 9, 10, 13, 14, 15, 18, 19, 22, 23, 24, 25, 26, 27, 29, 31, 32, 33, 34, 37, 40, 41, 42, 45, 47, 48, 49, 50, 51, 52, 54, 55, 56, 57, 60, 63, 64, 65, 66, 69, 70, 71, 72, 73, 74, 75, 76]
def kc_227 : List RI := [(6, 0, 0, 0, 0, 0), (48, 0, 0, 0, 273, 1000000000), (45, 0, 0, 0, 0, 0), (53, 5, 6, 0, 0, 0), (48, 0, 0, 0, 273, 1000000000), (57, 0, 13, 0, 0, 0), (6, 0, 0, 0, 0, 0), (48, 0, 0, 0, 275, -1000000000), (45, 0, 0, 0, 0, 0), (53, 3, 12, 0, 0, 0), (48, 0, 0, 0, 275, -1000000000), (57, 0, 13, 0, 0, 0), (6, 0, 0, 0, 0, 0), (63, 0, 0, 0, 0, 0)]
def ko_227 : List Nat := [0, 1, 4, 5, 8, 11, 14, 15, 18, 19, 22, 25, 28, 29, 30]
def kc_228 : List RI := [(5, 0, 0, 0, 0, 0), (0, 0, 0, 0, 0, 3), (54, 1, 7, 0, 0, 0), (6, 1, 0, 0, 0, 0), (6, 3, 0, 0, 0, 0), (35, 0, 0, 0, 0, 0), (57, 0, 17, 0, 0, 0), (5, 0, 0, 0, 0, 0), (0, 0, 0, 0, 0, 4), (54, 1, 14, 0, 0, 0), (6, 1, 0, 0, 0, 0), (6, 3, 0, 0, 0, 0), (36, 0, 0, 0, 0, 0), (57, 0, 17, 0, 0, 0), (6, 1, 0, 0, 0, 0), (6, 3, 0, 0, 0, 0), (37, 0, 0, 0, 0, 0), (67, 227, 1, 2, 277, 1), (63, 0, 0, 0, 0, 0)]
def ko_228 : List Nat := [0, 1, 2, 5, 6, 7, 8, 11, 12, 13, 16, 17, 18, 19, 22, 23, 24, 25, 28, 29]
def kc_229 : List RI := [(5, 0, 0, 0, 0, 0), (1, 0, 0, 0, 0, 10), (54, 1, 11, 0, 0, 0), (6, 1, 0, 0, 0, 0), (6, 3, 0, 0, 0, 0), (45, 0, 0, 0, 0, 0), (53, 3, 9, 0, 0, 0), (0, 0, 0, 0, 0, 1), (57, 0, 62, 0, 0, 0), (0, 0, 0, 0, 0, 0), (57, 0, 62, 0, 0, 0), (5, 0, 0, 0, 0, 0), (1, 0, 0, 0, 0, 11), (54, 1, 22, 0, 0, 0), (6, 1, 0, 0, 0, 0), (6, 3, 0, 0, 0, 0), (45, 0, 0, 0, 0, 0), (53, 4, 20, 0, 0, 0), (0, 0, 0, 0, 0, 1), (57, 0, 62, 0, 0, 0), (0, 0, 0, 0, 0, 0), (57, 0, 62, 0, 0, 0), (5, 0, 0, 0, 0, 0), (1, 0, 0, 0, 0, 12), (54, 1, 33, 0, 0, 0), (6, 1, 0, 0, 0, 0), (6, 3, 0, 0, 0, 0), (45, 0, 0, 0, 0, 0), (53, 5, 31, 0, 0, 0), (0, 0, 0, 0, 0, 1), (57, 0, 62, 0, 0, 0), (0, 0, 0, 0, 0, 0), (57, 0, 62, 0, 0, 0), (5, 0, 0, 0, 0, 0), (1, 0, 0, 0, 0, 13), (54, 1, 44, 0, 0, 0), (6, 1, 0, 0, 0, 0), (6, 3, 0, 0, 0, 0), (45, 0, 0, 0, 0, 0), (53, 2, 42, 0, 0, 0), (0, 0, 0, 0, 0, 1), (57, 0, 62, 0, 0, 0), (0, 0, 0, 0, 0, 0), (57, 0, 62, 0, 0, 0), (5, 0, 0, 0, 0, 0), (1, 0, 0, 0, 0, 14), (54, 1, 55, 0, 0, 0), (6, 1, 0, 0, 0, 0), (6, 3, 0, 0, 0, 0), (45, 0, 0, 0, 0, 0), (53, 1, 53, 0, 0, 0), (0, 0, 0, 0, 0, 1), (57, 0, 62, 0, 0, 0), (0, 0, 0, 0, 0, 0), (57, 0, 62, 0, 0, 0), (6, 1, 0, 0, 0, 0), (6, 3, 0, 0, 0, 0), (45, 0, 0, 0, 0, 0), (53, 0, 61, 0, 0, 0), (0, 0, 0, 0, 0, 1), (57, 0, 62, 0, 0, 0), (0, 0, 0, 0, 0, 0), (62, 0, 0, 0, 0, 0)]
def ko_229 : List Nat := [0, 1, 3, 6, 7, 8, 9, 12, 13, 16, 17, 20, 21, 23, 26, 27, 28, 29, 32, 33, 36, 37, 40, 41, 43, 46, 47, 48, 49, 52, 53, 56, 57, 60, 61, 63, 66, 67, 68, 69, 72, 73, 76, 77, 80, 81, 83, 86, 87, 88, 89, 92, 93, 96, 97, 100, 101, 102, 103, 106, 107, 110, 111, 112]
def kc_230 : List RI := [(0, 0, 0, 0, 0, 0), (8, 2, 0, 0, 0, 0), (0, 0, 0, 0, 0, 0), (8, 3, 0, 0, 0, 0), (2, 0, 0, 0, 0, 800), (5, 1, 0, 0, 0, 0), (25, 0, 0, 0, 0, 0), (1, 0, 0, 0, 0, 10), (23, 0, 0, 0, 0, 0), (8, 4, 1, 0, 0, 0), (0, 0, 0, 0, 0, 0), (8, 5, 1, 0, 0, 0), (5, 5, 1, 0, 0, 0), (7, 0, 0, 0, 0, 0), (12, 12, 2, 2, 16, 0), (2, 0, 0, 0, 0, 800), (5, 1, 0, 0, 0, 0), (25, 0, 0, 0, 0, 0), (0, 0, 0, 0, 0, 4), (23, 0, 0, 0, 0, 0), (14, 0, 0, 0, 0, 0), (54, 3, 186, 0, 0, 0), (7, 0, 0, 0, 0, 0), (12, 12, 2, 2, 16, 0), (5, 4, 1, 0, 0, 0), (0, 0, 0, 0, 0, 2), (5, 5, 1, 0, 0, 0), (25, 0, 0, 0, 0, 0), (23, 0, 0, 0, 0, 0), (14, 0, 0, 0, 0, 0), (8, 6, 1, 0, 0, 0), (7, 0, 0, 0, 0, 0), (12, 12, 2, 2, 16, 0), (5, 4, 1, 0, 0, 0), (0, 0, 0, 0, 0, 2), (5, 5, 1, 0, 0, 0), (25, 0, 0, 0, 0, 0), (23, 0, 0, 0, 0, 0), (0, 0, 0, 0, 0, 1), (23, 0, 0, 0, 0, 0), (14, 0, 0, 0, 0, 0), (8, 7, 1, 0, 0, 0), (5, 6, 1, 0, 0, 0), (0, 0, 0, 0, 0, 1), (54, 4, 61, 0, 0, 0), (7, 0, 0, 0, 0, 0), (12, 12, 30, 2, 47, 0), (5, 2, 0, 0, 0, 0), (5, 6, 1, 0, 0, 0), (53, 1, 53, 0, 0, 0), (5, 7, 1, 0, 0, 0), (43, 0, 0, 0, 0, 0), (57, 0, 58, 0, 0, 0), (7, 0, 0, 0, 0, 0), (12, 12, 29, 2, 44, 0), (5, 7, 1, 0, 0, 0), (14, 0, 0, 0, 0, 0), (43, 0, 0, 0, 0, 0), (19, 0, 0, 0, 0, 0), (11, 2, 0, 0, 0, 1), (57, 0, 184, 0, 0, 0), (5, 6, 1, 0, 0, 0), (0, 0, 0, 0, 0, 2), (54, 1, 78, 0, 0, 0), (7, 0, 0, 0, 0, 0), (12, 12, 30, 2, 47, 0), (5, 2, 0, 0, 0, 0), (0, 0, 0, 0, 0, 1), (24, 0, 0, 0, 0, 0), (7, 0, 0, 0, 0, 0), (12, 12, 30, 2, 47, 0), (5, 2, 0, 0, 0, 0), (0, 0, 0, 0, 0, 1), (24, 0, 0, 0, 0, 0), (15, 0, 0, 0, 0, 0), (42, 0, 0, 0, 0, 0), (19, 0, 0, 0, 0, 0), (57, 0, 184, 0, 0, 0), (5, 6, 1, 0, 0, 0), (1, 0, 0, 0, 0, 10), (54, 3, 101, 0, 0, 0), (11, 2, 0, 0, 0, -1), (7, 0, 0, 0, 0, 0), (12, 12, 30, 2, 47, 0), (5, 2, 0, 0, 0, 0), (0, 0, 0, 0, 0, 1), (24, 0, 0, 0, 0, 0), (5, 6, 1, 0, 0, 0), (7, 0, 0, 0, 0, 0), (12, 12, 30, 2, 47, 0), (5, 2, 0, 0, 0, 0), (0, 0, 0, 0, 0, 1), (24, 0, 0, 0, 0, 0), (15, 0, 0, 0, 0, 0), (7, 0, 0, 0, 0, 0), (12, 12, 30, 2, 47, 0), (5, 2, 0, 0, 0, 0), (15, 0, 0, 0, 0, 0), (67, 228, 3, 2, 281, 1), (19, 0, 0, 0, 0, 0), (57, 0, 184, 0, 0, 0), (5, 6, 1, 0, 0, 0), (1, 0, 0, 0, 0, 20), (54, 3, 123, 0, 0, 0), (11, 2, 0, 0, 0, -2), (7, 0, 0, 0, 0, 0), (12, 12, 31, 2, 51, 0), (5, 3, 0, 0, 0, 0), (5, 6, 1, 0, 0, 0), (7, 0, 0, 0, 0, 0), (12, 12, 30, 2, 47, 0), (5, 2, 0, 0, 0, 0), (15, 0, 0, 0, 0, 0), (7, 0, 0, 0, 0, 0), (12, 12, 30, 2, 47, 0), (5, 2, 0, 0, 0, 0), (0, 0, 0, 0, 0, 1), (23, 0, 0, 0, 0, 0), (15, 0, 0, 0, 0, 0), (67, 229, 3, 1, 285, 1), (20, 0, 0, 0, 0, 0), (11, 3, 0, 0, 0, 1), (57, 0, 184, 0, 0, 0), (5, 6, 1, 0, 0, 0), (1, 0, 0, 0, 0, 20), (54, 1, 143, 0, 0, 0), (7, 0, 0, 0, 0, 0), (12, 12, 31, 2, 51, 0), (5, 3, 0, 0, 0, 0), (0, 0, 0, 0, 0, 1), (24, 0, 0, 0, 0, 0), (7, 0, 0, 0, 0, 0), (12, 12, 31, 2, 51, 0), (5, 3, 0, 0, 0, 0), (0, 0, 0, 0, 0, 1), (24, 0, 0, 0, 0, 0), (16, 0, 0, 0, 0, 0), (53, 1, 140, 0, 0, 0), (0, 0, 0, 0, 0, 1), (57, 0, 141, 0, 0, 0), (0, 0, 0, 0, 0, 0), (20, 0, 0, 0, 0, 0), (57, 0, 184, 0, 0, 0), (11, 3, 0, 0, 0, -1), (7, 0, 0, 0, 0, 0), (12, 12, 31, 2, 51, 0), (5, 3, 0, 0, 0, 0), (0, 0, 0, 0, 0, 1), (24, 0, 0, 0, 0, 0), (5, 6, 1, 0, 0, 0), (1, 0, 0, 0, 0, 21), (54, 1, 168, 0, 0, 0), (7, 0, 0, 0, 0, 0), (12, 12, 31, 2, 51, 0), (5, 3, 0, 0, 0, 0), (0, 0, 0, 0, 0, 1), (24, 0, 0, 0, 0, 0), (16, 0, 0, 0, 0, 0), (53, 0, 166, 0, 0, 0), (7, 0, 0, 0, 0, 0), (12, 12, 31, 2, 51, 0), (5, 3, 0, 0, 0, 0), (16, 0, 0, 0, 0, 0), (53, 0, 166, 0, 0, 0), (0, 0, 0, 0, 0, 1), (57, 0, 183, 0, 0, 0), (0, 0, 0, 0, 0, 0), (57, 0, 183, 0, 0, 0), (7, 0, 0, 0, 0, 0), (12, 12, 31, 2, 51, 0), (5, 3, 0, 0, 0, 0), (0, 0, 0, 0, 0, 1), (24, 0, 0, 0, 0, 0), (16, 0, 0, 0, 0, 0), (53, 1, 180, 0, 0, 0), (7, 0, 0, 0, 0, 0), (12, 12, 31, 2, 51, 0), (5, 3, 0, 0, 0, 0), (16, 0, 0, 0, 0, 0), (53, 0, 182, 0, 0, 0), (0, 0, 0, 0, 0, 1), (57, 0, 183, 0, 0, 0), (0, 0, 0, 0, 0, 0), (20, 0, 0, 0, 0, 0), (11, 5, 0, 0, 0, 1), (57, 0, 12, 0, 0, 0), (7, 0, 0, 0, 0, 0), (12, 12, 31, 2, 51, 0), (0, 0, 0, 0, 0, 0), (16, 0, 0, 0, 0, 0), (62, 0, 0, 0, 0, 0)]
def ko_230 : List Nat := [0, 1, 2, 3, 4, 7, 8, 9, 11, 12, 14, 15, 17, 19, 20, 23, 26, 27, 28, 29, 30, 31, 34, 35, 38, 40, 41, 43, 44, 45, 46, 48, 49, 52, 54, 55, 57, 58, 59, 60, 61, 62, 64, 66, 67, 70, 71, 74, 75, 77, 80, 82, 83, 86, 87, 90, 92, 93, 94, 95, 98, 101, 103, 104, 107, 108, 111, 112, 113, 114, 115, 118, 119, 120, 121, 122, 123, 124, 127, 129, 131, 134, 137, 138, 141, 142, 143, 144, 146, 147, 150, 151, 152, 153, 154, 155, 158, 159, 160, 163, 164, 167, 169, 171, 174, 177, 178, 181, 182, 184, 185, 188, 189, 190, 191, 194, 195, 196, 197, 198, 201, 202, 205, 208, 210, 212, 215, 216, 219, 220, 221, 222, 223, 226, 227, 228, 229, 230, 233, 234, 237, 238, 239, 242, 245, 246, 249, 250, 251, 252, 254, 256, 259, 260, 263, 264, 265, 266, 267, 270, 271, 274, 275, 276, 279, 280, 283, 284, 287, 288, 291, 292, 293, 294, 295, 298, 299, 302, 303, 304, 307, 308, 311, 312, 313, 316, 319, 320, 323, 324, 325, 326]
def kc_231 : List RI := [(7, 0, 0, 0, 0, 0), (12, 12, 27, 0, 267, 0), (0, 0, 0, 0, 0, -1), (54, 1, 11, 0, 0, 0), (5, 3, 0, 0, 0, 0), (5, 4, 1, 0, 0, 0), (54, 0, 9, 0, 0, 0), (0, 0, 0, 0, 0, 1), (57, 0, 10, 0, 0, 0), (0, 0, 0, 0, 0, 0), (62, 0, 0, 0, 0, 0), (7, 0, 0, 0, 0, 0), (12, 12, 2, 2, 16, 0), (2, 0, 0, 0, 0, 800), (7, 0, 0, 0, 0, 0), (12, 12, 27, 0, 267, 0), (25, 0, 0, 0, 0, 0), (14, 0, 0, 0, 0, 0), (53, 1, 21, 0, 0, 0), (0, 0, 0, 0, 0, 1), (62, 0, 0, 0, 0, 0), (7, 0, 0, 0, 0, 0), (12, 12, 29, 2, 44, 0), (0, 0, 0, 0, 0, 0), (5, 3, 0, 0, 0, 0), (18, 0, 0, 0, 0, 0), (7, 0, 0, 0, 0, 0), (12, 12, 29, 2, 44, 0), (0, 0, 0, 0, 0, 1), (5, 4, 1, 0, 0, 0), (18, 0, 0, 0, 0, 0), (7, 0, 0, 0, 0, 0), (12, 12, 29, 2, 44, 0), (0, 0, 0, 0, 0, 2), (7, 0, 0, 0, 0, 0), (5, 1, 0, 0, 0, 0), (5, 2, 0, 0, 0, 0), (67, 225, 3, 1, 270, 0), (18, 0, 0, 0, 0, 0), (7, 0, 0, 0, 0, 0), (12, 12, 29, 2, 44, 0), (0, 0, 0, 0, 0, 3), (7, 0, 0, 0, 0, 0), (5, 1, 0, 0, 0, 0), (5, 2, 0, 0, 0, 0), (67, 226, 3, 1, 289, 0), (18, 0, 0, 0, 0, 0), (7, 0, 0, 0, 0, 0), (7, 0, 0, 0, 0, 0), (12, 12, 27, 0, 267, 0), (67, 230, 2, 1, 292, 0), (62, 0, 0, 0, 0, 0)]
def ko_231 : List Nat := [0, 1, 4, 5, 8, 9, 11, 14, 15, 18, 19, 20, 21, 24, 27, 28, 31, 32, 33, 36, 37, 38, 39, 42, 43, 44, 45, 46, 49, 50, 52, 53, 54, 57, 58, 59, 60, 61, 64, 65, 66, 69, 70, 71, 72, 73, 76, 77, 78, 79, 82, 85, 86]
def kc_232 : List RI := [(7, 0, 0, 0, 0, 0), (5, 1, 0, 0, 0, 0), (5, 2, 0, 0, 0, 0), (7, 0, 0, 0, 0, 0), (5, 4, 1, 0, 0, 0), (7, 0, 0, 0, 0, 0), (5, 1, 0, 0, 0, 0), (5, 3, 0, 0, 0, 0), (7, 0, 0, 0, 0, 0), (5, 1, 0, 0, 0, 0), (5, 2, 0, 0, 0, 0), (67, 225, 3, 1, 270, 0), (67, 181, 4, 1, 89, 0), (67, 174, 3, 1, 108, 0), (7, 0, 0, 0, 0, 0), (5, 4, 1, 0, 0, 0), (7, 0, 0, 0, 0, 0), (5, 1, 0, 0, 0, 0), (5, 3, 0, 0, 0, 0), (7, 0, 0, 0, 0, 0), (5, 1, 0, 0, 0, 0), (5, 2, 0, 0, 0, 0), (67, 226, 3, 1, 289, 0), (67, 181, 4, 1, 89, 0), (67, 174, 3, 1, 108, 0), (67, 231, 5, 1, 295, 0), (62, 0, 0, 0, 0, 0)]
def ko_232 : List Nat := [0, 1, 2, 3, 4, 6, 7, 8, 9, 10, 11, 12, 15, 18, 21, 22, 24, 25, 26, 27, 28, 29, 30, 33, 36, 39, 42, 43]
def kc_233 : List RI := [(7, 0, 0, 0, 0, 0), (5, 1, 0, 0, 0, 0), (67, 221, 2, 1, 299, 0), (53, 0, 8, 0, 0, 0), (7, 0, 0, 0, 0, 0), (5, 2, 0, 0, 0, 0), (67, 173, 2, 1, 82, 0), (53, 1, 10, 0, 0, 0), (0, 0, 0, 0, 0, -1), (61, 0, 0, 0, 0, 0), (7, 0, 0, 0, 0, 0), (5, 1, 0, 0, 0, 0), (67, 222, 2, 0, 302, 0), (5, 3, 0, 0, 0, 0), (0, 0, 0, 0, 0, -1), (54, 1, 20, 0, 0, 0), (7, 0, 0, 0, 0, 0), (5, 2, 0, 0, 0, 0), (67, 224, 2, 1, 305, 0), (61, 0, 0, 0, 0, 0), (5, 3, 0, 0, 0, 0), (0, 0, 0, 0, 0, 0), (7, 0, 0, 0, 0, 0), (5, 2, 0, 0, 0, 0), (67, 224, 2, 1, 305, 0), (0, 0, 0, 0, 0, 1), (24, 0, 0, 0, 0, 0), (67, 172, 3, 1, 71, 1), (53, 0, 39, 0, 0, 0), (5, 4, 1, 0, 0, 0), (0, 0, 0, 0, 0, 0), (0, 0, 0, 0, 0, 2), (67, 172, 3, 1, 71, 1), (53, 0, 39, 0, 0, 0), (5, 5, 1, 0, 0, 0), (0, 0, 0, 0, 0, 0), (0, 0, 0, 0, 0, 2), (67, 172, 3, 1, 71, 1), (53, 1, 41, 0, 0, 0), (0, 0, 0, 0, 0, -1), (61, 0, 0, 0, 0, 0), (7, 0, 0, 0, 0, 0), (5, 2, 0, 0, 0, 0), (5, 3, 0, 0, 0, 0), (5, 4, 1, 0, 0, 0), (5, 5, 1, 0, 0, 0), (67, 231, 5, 1, 295, 0), (53, 0, 50, 0, 0, 0), (0, 0, 0, 0, 0, 1), (57, 0, 51, 0, 0, 0), (0, 0, 0, 0, 0, 0), (61, 0, 0, 0, 0, 0)]
def ko_233 : List Nat := [0, 1, 2, 5, 8, 9, 10, 13, 16, 17, 18, 19, 20, 23, 24, 25, 28, 29, 30, 33, 34, 35, 36, 37, 38, 41, 42, 43, 46, 49, 51, 52, 53, 56, 59, 61, 62, 63, 66, 69, 70, 71, 72, 73, 74, 76, 78, 81, 84, 85, 88, 89, 90]
def kc_234 : List RI := [(7, 0, 0, 0, 0, 0), (5, 1, 0, 0, 0, 0), (67, 183, 2, 0, 104, 0), (7, 0, 0, 0, 0, 0), (0, 0, 0, 0, 0, -1), (13, 12, 32, 0, 308, 0), (7, 0, 0, 0, 0, 0), (0, 0, 0, 0, 0, -1), (13, 12, 33, 0, 311, 0), (7, 0, 0, 0, 0, 0), (0, 0, 0, 0, 0, -1), (13, 12, 34, 0, 314, 0), (0, 0, 0, 0, 0, 0), (8, 2, 0, 0, 0, 0), (0, 0, 0, 0, 0, 0), (8, 3, 0, 0, 0, 0), (5, 3, 0, 0, 0, 0), (7, 0, 0, 0, 0, 0), (12, 12, 6, 0, 93, 0), (54, 3, 68, 0, 0, 0), (0, 0, 0, 0, 0, 0), (8, 4, 1, 0, 0, 0), (5, 4, 1, 0, 0, 0), (7, 0, 0, 0, 0, 0), (5, 1, 0, 0, 0, 0), (67, 224, 2, 1, 305, 0), (54, 3, 66, 0, 0, 0), (0, 0, 0, 0, 0, 0), (8, 5, 1, 0, 0, 0), (5, 5, 1, 0, 0, 0), (7, 0, 0, 0, 0, 0), (12, 12, 25, 0, 258, 0), (54, 3, 64, 0, 0, 0), (7, 0, 0, 0, 0, 0), (5, 1, 0, 0, 0, 0), (5, 4, 1, 0, 0, 0), (7, 0, 0, 0, 0, 0), (12, 12, 5, 2, 25, 0), (5, 3, 0, 0, 0, 0), (14, 0, 0, 0, 0, 0), (7, 0, 0, 0, 0, 0), (5, 5, 1, 0, 0, 0), (67, 223, 2, 1, 317, 0), (67, 232, 5, 1, 320, 0), (53, 0, 46, 0, 0, 0), (57, 0, 62, 0, 0, 0), (11, 2, 0, 0, 0, 1), (5, 2, 0, 0, 0, 0), (0, 0, 0, 0, 0, 1), (54, 5, 51, 0, 0, 0), (57, 0, 62, 0, 0, 0), (7, 0, 0, 0, 0, 0), (5, 3, 0, 0, 0, 0), (13, 12, 32, 0, 308, 0), (7, 0, 0, 0, 0, 0), (5, 4, 1, 0, 0, 0), (13, 12, 33, 0, 311, 0), (7, 0, 0, 0, 0, 0), (7, 0, 0, 0, 0, 0), (5, 5, 1, 0, 0, 0), (67, 223, 2, 1, 317, 0), (13, 12, 34, 0, 314, 0), (11, 5, 0, 0, 0, 1), (57, 0, 29, 0, 0, 0), (11, 4, 0, 0, 0, 1), (57, 0, 22, 0, 0, 0), (11, 3, 0, 0, 0, 1), (57, 0, 16, 0, 0, 0), (5, 2, 0, 0, 0, 0), (61, 0, 0, 0, 0, 0)]
def ko_234 : List Nat := [0, 1, 2, 5, 6, 7, 10, 11, 12, 15, 16, 17, 20, 21, 22, 23, 24, 25, 26, 29, 32, 33, 35, 37, 38, 39, 42, 45, 46, 48, 50, 51, 54, 57, 58, 59, 61, 62, 65, 66, 67, 68, 70, 73, 76, 79, 82, 85, 86, 87, 90, 93, 94, 95, 98, 99, 101, 104, 105, 106, 108, 111, 114, 117, 120, 123, 126, 129, 132, 133, 134]
def kc_235 : List RI := [(7, 0, 0, 0, 0, 0), (5, 1, 0, 0, 0, 0), (67, 221, 2, 1, 299, 0), (53, 0, 13, 0, 0, 0), (7, 0, 0, 0, 0, 0), (5, 2, 0, 0, 0, 0), (67, 173, 2, 1, 82, 0), (53, 0, 13, 0, 0, 0), (5, 3, 0, 0, 0, 0), (0, 0, 0, 0, 0, 0), (0, 0, 0, 0, 0, 3), (67, 172, 3, 1, 71, 1), (53, 1, 15, 0, 0, 0), (0, 0, 0, 0, 0, -1), (61, 0, 0, 0, 0, 0), (7, 0, 0, 0, 0, 0), (5, 1, 0, 0, 0, 0), (67, 222, 2, 0, 302, 0), (7, 0, 0, 0, 0, 0), (5, 2, 0, 0, 0, 0), (67, 234, 2, 1, 323, 0), (8, 4, 1, 0, 0, 0), (5, 3, 0, 0, 0, 0), (53, 1, 26, 0, 0, 0), (5, 4, 1, 0, 0, 0), (57, 0, 40, 0, 0, 0), (5, 3, 0, 0, 0, 0), (0, 0, 0, 0, 0, 1), (54, 1, 32, 0, 0, 0), (7, 0, 0, 0, 0, 0), (12, 12, 32, 0, 308, 0), (57, 0, 40, 0, 0, 0), (5, 3, 0, 0, 0, 0), (0, 0, 0, 0, 0, 2), (54, 1, 38, 0, 0, 0), (7, 0, 0, 0, 0, 0), (12, 12, 33, 0, 311, 0), (57, 0, 40, 0, 0, 0), (7, 0, 0, 0, 0, 0), (12, 12, 34, 0, 314, 0), (61, 0, 0, 0, 0, 0)]
def ko_235 : List Nat := [0, 1, 2, 5, 8, 9, 10, 13, 16, 17, 18, 19, 22, 25, 26, 27, 28, 29, 32, 33, 34, 37, 39, 40, 43, 45, 48, 49, 50, 53, 54, 57, 60, 61, 62, 65, 66, 69, 72, 73, 76, 77]
def kc_236 : List RI := [(7, 0, 0, 0, 0, 0), (0, 0, 0, 0, 0, -1), (13, 12, 36, 0, 326, 0), (0, 0, 0, 0, 0, 0), (8, 2, 0, 0, 0, 0), (5, 2, 0, 0, 0, 0), (7, 0, 0, 0, 0, 0), (5, 1, 0, 0, 0, 0), (67, 180, 2, 1, 96, 0), (54, 3, 47, 0, 0, 0), (0, 0, 0, 0, 0, 0), (8, 3, 0, 0, 0, 0), (0, 0, 0, 0, 0, 0), (8, 4, 1, 0, 0, 0), (5, 4, 1, 0, 0, 0), (7, 0, 0, 0, 0, 0), (5, 1, 0, 0, 0, 0), (67, 224, 2, 1, 305, 0), (54, 3, 34, 0, 0, 0), (5, 3, 0, 0, 0, 0), (7, 0, 0, 0, 0, 0), (5, 1, 0, 0, 0, 0), (5, 4, 1, 0, 0, 0), (5, 2, 0, 0, 0, 0), (0, 0, 0, 0, 0, 0), (67, 232, 5, 1, 320, 0), (53, 0, 29, 0, 0, 0), (0, 0, 0, 0, 0, 1), (57, 0, 30, 0, 0, 0), (0, 0, 0, 0, 0, 0), (23, 0, 0, 0, 0, 0), (8, 3, 0, 0, 0, 0), (11, 4, 0, 0, 0, 1), (57, 0, 14, 0, 0, 0), (5, 3, 0, 0, 0, 0), (7, 0, 0, 0, 0, 0), (12, 12, 36, 0, 326, 0), (54, 4, 39, 0, 0, 0), (57, 0, 45, 0, 0, 0), (7, 0, 0, 0, 0, 0), (5, 3, 0, 0, 0, 0), (13, 12, 36, 0, 326, 0), (7, 0, 0, 0, 0, 0), (5, 2, 0, 0, 0, 0), (13, 12, 35, 0, 329, 0), (11, 2, 0, 0, 0, 1), (57, 0, 5, 0, 0, 0), (60, 0, 0, 0, 0, 0)]
def ko_236 : List Nat := [0, 1, 2, 5, 6, 7, 8, 9, 10, 13, 16, 17, 18, 19, 21, 23, 24, 25, 28, 31, 32, 33, 34, 36, 37, 38, 41, 44, 45, 48, 49, 50, 51, 54, 57, 58, 59, 62, 65, 68, 69, 70, 73, 74, 75, 78, 81, 84, 85]
def kc_237 : List RI := [(7, 0, 0, 0, 0, 0), (5, 1, 0, 0, 0, 0), (67, 221, 2, 1, 299, 0), (53, 0, 13, 0, 0, 0), (7, 0, 0, 0, 0, 0), (5, 2, 0, 0, 0, 0), (67, 173, 2, 1, 82, 0), (53, 0, 13, 0, 0, 0), (5, 3, 0, 0, 0, 0), (0, 0, 0, 0, 0, 0), (0, 0, 0, 0, 0, 2), (67, 172, 3, 1, 71, 1), (53, 1, 15, 0, 0, 0), (0, 0, 0, 0, 0, -1), (61, 0, 0, 0, 0, 0), (7, 0, 0, 0, 0, 0), (5, 1, 0, 0, 0, 0), (67, 222, 2, 0, 302, 0), (7, 0, 0, 0, 0, 0), (5, 2, 0, 0, 0, 0), (67, 224, 2, 1, 305, 0), (53, 1, 24, 0, 0, 0), (0, 0, 0, 0, 0, -1), (61, 0, 0, 0, 0, 0), (7, 0, 0, 0, 0, 0), (5, 2, 0, 0, 0, 0), (67, 236, 2, 0, 332, 0), (5, 3, 0, 0, 0, 0), (53, 1, 32, 0, 0, 0), (7, 0, 0, 0, 0, 0), (12, 12, 36, 0, 326, 0), (57, 0, 41, 0, 0, 0), (5, 3, 0, 0, 0, 0), (0, 0, 0, 0, 0, 1), (54, 1, 39, 0, 0, 0), (7, 0, 0, 0, 0, 0), (5, 2, 0, 0, 0, 0), (67, 224, 2, 1, 305, 0), (57, 0, 41, 0, 0, 0), (7, 0, 0, 0, 0, 0), (12, 12, 35, 0, 329, 0), (61, 0, 0, 0, 0, 0)]
def ko_237 : List Nat := [0, 1, 2, 5, 8, 9, 10, 13, 16, 17, 18, 19, 22, 25, 26, 27, 28, 29, 32, 33, 34, 37, 40, 41, 42, 43, 44, 47, 48, 51, 52, 55, 58, 59, 60, 63, 64, 65, 68, 71, 72, 75, 76]
def kc_238 : List RI := [(47, 0, 0, 0, 0, 0), (9, 2, 0, 0, 0, 0), (0, 0, 0, 0, 0, 0), (8, 4, 1, 0, 0, 0), (5, 4, 1, 0, 0, 0), (2, 0, 0, 0, 0, 200), (54, 3, 30, 0, 0, 0), (7, 0, 0, 0, 0, 0), (5, 4, 1, 0, 0, 0), (14, 0, 0, 0, 0, 0), (43, 0, 0, 0, 0, 0), (5, 1, 0, 0, 0, 0), (43, 0, 0, 0, 0, 0), (37, 0, 0, 0, 0, 0), (6, 2, 0, 0, 0, 0), (35, 0, 0, 0, 0, 0), (9, 5, 1, 0, 0, 0), (7, 0, 0, 0, 0, 0), (5, 4, 1, 0, 0, 0), (6, 5, 1, 0, 0, 0), (48, 0, 0, 0, 335, 10000), (41, 0, 0, 0, 0, 0), (44, 0, 0, 0, 0, 0), (18, 0, 0, 0, 0, 0), (6, 5, 1, 0, 0, 0), (48, 0, 0, 0, 335, 10000), (40, 0, 0, 0, 0, 0), (9, 2, 0, 0, 0, 0), (11, 4, 0, 0, 0, 1), (57, 0, 4, 0, 0, 0), (60, 0, 0, 0, 0, 0)]
def ko_238 : List Nat := [0, 1, 2, 3, 5, 7, 10, 13, 14, 16, 17, 18, 19, 20, 21, 22, 23, 25, 26, 28, 30, 33, 34, 35, 36, 38, 41, 42, 43, 46, 49, 50]
def kc_239 : List RI := [(2, 0, 0, 0, 0, 199), (8, 1, 0, 0, 0, 0), (5, 1, 0, 0, 0, 0), (53, 2, 28, 0, 0, 0), (7, 0, 0, 0, 0, 0), (12, 12, 37, 2, 55, 0), (5, 1, 0, 0, 0, 0), (14, 0, 0, 0, 0, 0), (7, 0, 0, 0, 0, 0), (12, 12, 38, 2, 58, 0), (5, 1, 0, 0, 0, 0), (14, 0, 0, 0, 0, 0), (54, 0, 26, 0, 0, 0), (7, 0, 0, 0, 0, 0), (12, 12, 37, 2, 55, 0), (5, 1, 0, 0, 0, 0), (14, 0, 0, 0, 0, 0), (7, 0, 0, 0, 0, 0), (12, 12, 38, 2, 58, 0), (5, 1, 0, 0, 0, 0), (14, 0, 0, 0, 0, 0), (54, 5, 24, 0, 0, 0), (0, 0, 0, 0, 0, 1), (57, 0, 25, 0, 0, 0), (0, 0, 0, 0, 0, 0), (62, 0, 0, 0, 0, 0), (11, 1, 0, 0, 0, -1), (57, 0, 2, 0, 0, 0), (0, 0, 0, 0, 0, 0), (62, 0, 0, 0, 0, 0)]
def ko_239 : List Nat := [0, 3, 4, 5, 8, 9, 12, 13, 14, 15, 18, 19, 20, 23, 24, 27, 28, 29, 30, 33, 34, 35, 38, 39, 42, 43, 44, 47, 50, 51, 52]
def kc_240 : List RI := [(7, 0, 0, 0, 0, 0), (5, 1, 0, 0, 0, 0), (67, 221, 2, 1, 299, 0), (53, 0, 13, 0, 0, 0), (7, 0, 0, 0, 0, 0), (5, 2, 0, 0, 0, 0), (67, 173, 2, 1, 82, 0), (53, 0, 13, 0, 0, 0), (5, 3, 0, 0, 0, 0), (0, 0, 0, 0, 0, 2), (4, 0, 0, 0, 337, 1000000000), (67, 172, 3, 1, 71, 1), (53, 1, 15, 0, 0, 0), (0, 0, 0, 0, 0, -1), (61, 0, 0, 0, 0, 0), (7, 0, 0, 0, 0, 0), (5, 1, 0, 0, 0, 0), (67, 222, 2, 0, 302, 0), (7, 0, 0, 0, 0, 0), (5, 2, 0, 0, 0, 0), (67, 224, 2, 1, 305, 0), (53, 1, 24, 0, 0, 0), (0, 0, 0, 0, 0, -1), (61, 0, 0, 0, 0, 0), (7, 0, 0, 0, 0, 0), (5, 2, 0, 0, 0, 0), (67, 236, 2, 0, 332, 0), (7, 0, 0, 0, 0, 0), (12, 12, 36, 0, 326, 0), (7, 0, 0, 0, 0, 0), (5, 2, 0, 0, 0, 0), (67, 224, 2, 1, 305, 0), (54, 1, 35, 0, 0, 0), (0, 0, 0, 0, 0, -1), (61, 0, 0, 0, 0, 0), (0, 0, 0, 0, 0, 0), (8, 4, 1, 0, 0, 0), (5, 4, 1, 0, 0, 0), (2, 0, 0, 0, 0, 200), (54, 3, 60, 0, 0, 0), (7, 0, 0, 0, 0, 0), (12, 12, 37, 2, 55, 0), (5, 4, 1, 0, 0, 0), (5, 4, 1, 0, 0, 0), (53, 1, 47, 0, 0, 0), (0, 0, 0, 0, 0, 1), (57, 0, 48, 0, 0, 0), (0, 0, 0, 0, 0, 0), (18, 0, 0, 0, 0, 0), (7, 0, 0, 0, 0, 0), (12, 12, 38, 2, 58, 0), (5, 4, 1, 0, 0, 0), (5, 4, 1, 0, 0, 0), (53, 1, 56, 0, 0, 0), (0, 0, 0, 0, 0, 1), (57, 0, 57, 0, 0, 0), (0, 0, 0, 0, 0, 0), (18, 0, 0, 0, 0, 0), (11, 4, 0, 0, 0, 1), (57, 0, 37, 0, 0, 0), (7, 0, 0, 0, 0, 0), (12, 12, 37, 2, 55, 0), (5, 3, 0, 0, 0, 0), (67, 238, 2, 0, 338, 1), (0, 0, 0, 0, 0, 0), (8, 4, 1, 0, 0, 0), (7, 0, 0, 0, 0, 0), (67, 239, 1, 1, 342, 0), (53, 0, 82, 0, 0, 0), (7, 0, 0, 0, 0, 0), (12, 12, 37, 2, 55, 0), (7, 0, 0, 0, 0, 0), (12, 12, 36, 0, 326, 0), (67, 238, 2, 0, 338, 1), (7, 0, 0, 0, 0, 0), (12, 12, 38, 2, 58, 0), (7, 0, 0, 0, 0, 0), (5, 2, 0, 0, 0, 0), (67, 224, 2, 1, 305, 0), (67, 238, 2, 0, 338, 1), (11, 4, 0, 0, 0, 1), (57, 0, 66, 0, 0, 0), (5, 4, 1, 0, 0, 0), (61, 0, 0, 0, 0, 0)]
def ko_240 : List Nat := [0, 1, 2, 5, 8, 9, 10, 13, 16, 17, 18, 21, 24, 27, 28, 29, 30, 31, 34, 35, 36, 39, 42, 43, 44, 45, 46, 49, 50, 53, 54, 55, 58, 61, 62, 63, 64, 66, 68, 71, 74, 75, 78, 80, 82, 85, 86, 89, 90, 91, 92, 95, 97, 99, 102, 103, 106, 107, 108, 111, 114, 115, 118, 119, 122, 123, 125, 126, 129, 132, 133, 136, 137, 140, 143, 144, 147, 148, 149, 152, 155, 158, 161, 163, 164]
def kc_241 : List RI := [(0, 0, 0, 0, 0, 3), (7, 0, 0, 0, 0, 0), (5, 4, 1, 0, 0, 0), (7, 0, 0, 0, 0, 0), (5, 1, 0, 0, 0, 0), (5, 3, 0, 0, 0, 0), (7, 0, 0, 0, 0, 0), (5, 1, 0, 0, 0, 0), (5, 2, 0, 0, 0, 0), (67, 225, 3, 1, 270, 0), (67, 181, 4, 1, 89, 0), (67, 174, 3, 1, 108, 0), (25, 0, 0, 0, 0, 0), (7, 0, 0, 0, 0, 0), (5, 4, 1, 0, 0, 0), (7, 0, 0, 0, 0, 0), (5, 1, 0, 0, 0, 0), (5, 3, 0, 0, 0, 0), (7, 0, 0, 0, 0, 0), (5, 1, 0, 0, 0, 0), (5, 2, 0, 0, 0, 0), (67, 226, 3, 1, 289, 0), (67, 181, 4, 1, 89, 0), (67, 174, 3, 1, 108, 0), (23, 0, 0, 0, 0, 0), (61, 0, 0, 0, 0, 0)]
def ko_241 : List Nat := [0, 1, 2, 4, 5, 6, 7, 8, 9, 10, 13, 16, 19, 20, 21, 23, 24, 25, 26, 27, 28, 29, 32, 35, 38, 39, 40]
def kc_242 : List RI := [(0, 0, 0, 0, 0, 0), (8, 6, 1, 0, 0, 0), (5, 6, 1, 0, 0, 0), (1, 0, 0, 0, 0, 81), (54, 3, 11, 0, 0, 0), (7, 5, 1, 0, 0, 0), (5, 6, 1, 0, 0, 0), (0, 0, 0, 0, 0, 0), (18, 0, 0, 0, 0, 0), (11, 6, 0, 0, 0, 1), (57, 0, 2, 0, 0, 0), (0, 0, 0, 0, 0, 0), (8, 6, 1, 0, 0, 0), (5, 6, 1, 0, 0, 0), (7, 0, 0, 0, 0, 0), (12, 12, 25, 0, 258, 0), (54, 3, 73, 0, 0, 0), (7, 0, 0, 0, 0, 0), (5, 1, 0, 0, 0, 0), (5, 2, 0, 0, 0, 0), (5, 4, 1, 0, 0, 0), (7, 0, 0, 0, 0, 0), (5, 6, 1, 0, 0, 0), (67, 223, 2, 1, 317, 0), (67, 241, 5, 1, 345, 0), (8, 7, 1, 0, 0, 0), (5, 3, 0, 0, 0, 0), (0, 0, 0, 0, 0, -1), (54, 1, 36, 0, 0, 0), (7, 5, 1, 0, 0, 0), (5, 7, 1, 0, 0, 0), (51, 0, 0, 0, 0, 0), (14, 0, 0, 0, 0, 0), (0, 0, 0, 0, 0, 1), (23, 0, 0, 0, 0, 0), (18, 0, 0, 0, 0, 0), (0, 0, 0, 0, 0, 0), (8, 8, 1, 0, 0, 0), (5, 8, 1, 0, 0, 0), (7, 0, 0, 0, 0, 0), (12, 12, 25, 0, 258, 0), (54, 3, 71, 0, 0, 0), (5, 3, 0, 0, 0, 0), (0, 0, 0, 0, 0, -1), (54, 0, 71, 0, 0, 0), (7, 0, 0, 0, 0, 0), (12, 12, 28, 3, 261, 0), (53, 0, 51, 0, 0, 0), (5, 8, 1, 0, 0, 0), (5, 6, 1, 0, 0, 0), (54, 1, 69, 0, 0, 0), (7, 5, 1, 0, 0, 0), (1, 0, 0, 0, 0, 9), (5, 7, 1, 0, 0, 0), (25, 0, 0, 0, 0, 0), (7, 0, 0, 0, 0, 0), (5, 1, 0, 0, 0, 0), (5, 3, 0, 0, 0, 0), (5, 4, 1, 0, 0, 0), (7, 0, 0, 0, 0, 0), (5, 8, 1, 0, 0, 0), (67, 223, 2, 1, 317, 0), (67, 241, 5, 1, 345, 0), (23, 0, 0, 0, 0, 0), (51, 0, 0, 0, 0, 0), (14, 0, 0, 0, 0, 0), (0, 0, 0, 0, 0, 1), (23, 0, 0, 0, 0, 0), (18, 0, 0, 0, 0, 0), (11, 8, 0, 0, 0, 1), (57, 0, 38, 0, 0, 0), (11, 6, 0, 0, 0, 1), (57, 0, 13, 0, 0, 0), (60, 0, 0, 0, 0, 0)]
def ko_242 : List Nat := [0, 1, 3, 5, 7, 10, 12, 14, 15, 16, 19, 22, 23, 25, 27, 28, 31, 34, 35, 36, 37, 39, 40, 42, 45, 48, 50, 51, 52, 55, 57, 59, 60, 61, 62, 63, 64, 65, 67, 69, 70, 73, 76, 77, 78, 81, 82, 85, 88, 90, 92, 95, 97, 99, 101, 102, 103, 104, 105, 107, 108, 110, 113, 116, 117, 118, 119, 120, 121, 122, 125, 128, 131, 134, 135]
def kc_243 : List RI := [(7, 0, 0, 0, 0, 0), (5, 1, 0, 0, 0, 0), (5, 2, 0, 0, 0, 0), (5, 3, 0, 0, 0, 0), (7, 0, 0, 0, 0, 0), (12, 12, 5, 2, 25, 0), (5, 4, 1, 0, 0, 0), (14, 0, 0, 0, 0, 0), (7, 0, 0, 0, 0, 0), (12, 12, 40, 2, 64, 0), (67, 242, 6, 0, 349, 0), (0, 0, 0, 0, 0, 0), (8, 5, 1, 0, 0, 0), (5, 5, 1, 0, 0, 0), (1, 0, 0, 0, 0, 81), (54, 3, 29, 0, 0, 0), (7, 0, 0, 0, 0, 0), (12, 12, 39, 2, 61, 0), (5, 5, 1, 0, 0, 0), (14, 0, 0, 0, 0, 0), (7, 0, 0, 0, 0, 0), (12, 12, 40, 2, 64, 0), (5, 5, 1, 0, 0, 0), (14, 0, 0, 0, 0, 0), (54, 0, 27, 0, 0, 0), (0, 0, 0, 0, 0, 1), (62, 0, 0, 0, 0, 0), (11, 5, 0, 0, 0, 1), (57, 0, 13, 0, 0, 0), (0, 0, 0, 0, 0, 0), (62, 0, 0, 0, 0, 0)]
def ko_243 : List Nat := [0, 1, 2, 3, 4, 5, 8, 10, 11, 12, 15, 18, 19, 21, 23, 25, 28, 29, 32, 34, 35, 36, 39, 41, 42, 45, 46, 47, 50, 53, 54, 55]
def kc_244 : List RI := [(7, 0, 0, 0, 0, 0), (12, 12, 6, 0, 93, 0), (53, 5, 14, 0, 0, 0), (7, 0, 0, 0, 0, 0), (5, 1, 0, 0, 0, 0), (5, 2, 0, 0, 0, 0), (5, 3, 0, 0, 0, 0), (7, 0, 0, 0, 0, 0), (12, 12, 5, 2, 25, 0), (0, 0, 0, 0, 0, 0), (14, 0, 0, 0, 0, 0), (7, 0, 0, 0, 0, 0), (12, 12, 39, 2, 61, 0), (67, 242, 6, 0, 349, 0), (0, 0, 0, 0, 0, 1), (8, 4, 1, 0, 0, 0), (5, 4, 1, 0, 0, 0), (7, 0, 0, 0, 0, 0), (12, 12, 6, 0, 93, 0), (54, 3, 41, 0, 0, 0), (7, 0, 0, 0, 0, 0), (5, 1, 0, 0, 0, 0), (5, 2, 0, 0, 0, 0), (5, 3, 0, 0, 0, 0), (5, 4, 1, 0, 0, 0), (67, 243, 5, 1, 353, 0), (53, 1, 28, 0, 0, 0), (57, 0, 39, 0, 0, 0), (7, 0, 0, 0, 0, 0), (5, 2, 0, 0, 0, 0), (13, 12, 41, 0, 356, 0), (7, 0, 0, 0, 0, 0), (5, 3, 0, 0, 0, 0), (13, 12, 42, 0, 359, 0), (7, 0, 0, 0, 0, 0), (5, 4, 1, 0, 0, 0), (13, 12, 43, 0, 362, 0), (0, 0, 0, 0, 0, 1), (62, 0, 0, 0, 0, 0), (11, 4, 0, 0, 0, 1), (57, 0, 16, 0, 0, 0), (0, 0, 0, 0, 0, 0), (62, 0, 0, 0, 0, 0)]
def ko_244 : List Nat := [0, 1, 4, 7, 8, 9, 10, 11, 12, 15, 16, 17, 18, 21, 24, 25, 27, 29, 30, 33, 36, 37, 38, 39, 40, 42, 45, 48, 51, 52, 53, 56, 57, 58, 61, 62, 64, 67, 68, 69, 72, 75, 76, 77]
def kc_245 : List RI := [(7, 0, 0, 0, 0, 0), (0, 0, 0, 0, 0, -1), (13, 12, 41, 0, 356, 0), (7, 0, 0, 0, 0, 0), (0, 0, 0, 0, 0, -1), (13, 12, 42, 0, 359, 0), (7, 0, 0, 0, 0, 0), (0, 0, 0, 0, 0, -1), (13, 12, 43, 0, 362, 0), (7, 0, 0, 0, 0, 0), (5, 1, 0, 0, 0, 0), (67, 224, 2, 1, 305, 0), (8, 3, 0, 0, 0, 0), (0, 0, 0, 0, 0, 0), (8, 4, 1, 0, 0, 0), (5, 4, 1, 0, 0, 0), (5, 3, 0, 0, 0, 0), (54, 3, 49, 0, 0, 0), (5, 2, 0, 0, 0, 0), (0, 0, 0, 0, 0, 1), (54, 1, 29, 0, 0, 0), (7, 0, 0, 0, 0, 0), (5, 1, 0, 0, 0, 0), (5, 4, 1, 0, 0, 0), (0, 0, 0, 0, 0, -1), (67, 244, 4, 1, 365, 0), (53, 0, 29, 0, 0, 0), (0, 0, 0, 0, 0, 1), (62, 0, 0, 0, 0, 0), (0, 0, 0, 0, 0, 0), (8, 5, 1, 0, 0, 0), (5, 5, 1, 0, 0, 0), (5, 3, 0, 0, 0, 0), (54, 3, 47, 0, 0, 0), (5, 2, 0, 0, 0, 0), (0, 0, 0, 0, 0, 2), (54, 1, 47, 0, 0, 0), (7, 0, 0, 0, 0, 0), (5, 1, 0, 0, 0, 0), (5, 4, 1, 0, 0, 0), (5, 5, 1, 0, 0, 0), (67, 244, 4, 1, 365, 0), (53, 0, 45, 0, 0, 0), (0, 0, 0, 0, 0, 1), (62, 0, 0, 0, 0, 0), (11, 5, 0, 0, 0, 1), (57, 0, 31, 0, 0, 0), (11, 4, 0, 0, 0, 1), (57, 0, 15, 0, 0, 0), (0, 0, 0, 0, 0, 0), (62, 0, 0, 0, 0, 0)]
def ko_245 : List Nat := [0, 1, 2, 5, 6, 7, 10, 11, 12, 15, 16, 17, 20, 21, 22, 24, 26, 27, 30, 31, 32, 35, 36, 37, 39, 40, 43, 46, 47, 48, 49, 51, 53, 54, 57, 58, 59, 62, 63, 64, 66, 68, 71, 74, 75, 76, 79, 82, 85, 88, 89, 90]
def kc_246 : List RI := [(7, 0, 0, 0, 0, 0), (5, 1, 0, 0, 0, 0), (67, 221, 2, 1, 299, 0), (53, 0, 18, 0, 0, 0), (7, 0, 0, 0, 0, 0), (5, 2, 0, 0, 0, 0), (67, 173, 2, 1, 82, 0), (53, 0, 18, 0, 0, 0), (5, 3, 0, 0, 0, 0), (0, 0, 0, 0, 0, 1), (0, 0, 0, 0, 0, 2), (67, 172, 3, 1, 71, 1), (53, 0, 18, 0, 0, 0), (5, 4, 1, 0, 0, 0), (0, 0, 0, 0, 0, 0), (0, 0, 0, 0, 0, 3), (67, 172, 3, 1, 71, 1), (53, 1, 20, 0, 0, 0), (0, 0, 0, 0, 0, -1), (61, 0, 0, 0, 0, 0), (7, 0, 0, 0, 0, 0), (5, 1, 0, 0, 0, 0), (67, 222, 2, 0, 302, 0), (7, 0, 0, 0, 0, 0), (5, 2, 0, 0, 0, 0), (67, 183, 2, 0, 104, 0), (7, 0, 0, 0, 0, 0), (5, 2, 0, 0, 0, 0), (5, 3, 0, 0, 0, 0), (67, 245, 3, 1, 368, 0), (8, 5, 1, 0, 0, 0), (5, 4, 1, 0, 0, 0), (53, 1, 39, 0, 0, 0), (5, 5, 1, 0, 0, 0), (53, 0, 37, 0, 0, 0), (0, 0, 0, 0, 0, 1), (57, 0, 53, 0, 0, 0), (0, 0, 0, 0, 0, 0), (57, 0, 53, 0, 0, 0), (5, 4, 1, 0, 0, 0), (0, 0, 0, 0, 0, 1), (54, 1, 45, 0, 0, 0), (7, 0, 0, 0, 0, 0), (12, 12, 41, 0, 356, 0), (57, 0, 53, 0, 0, 0), (5, 4, 1, 0, 0, 0), (0, 0, 0, 0, 0, 2), (54, 1, 51, 0, 0, 0), (7, 0, 0, 0, 0, 0), (12, 12, 42, 0, 359, 0), (57, 0, 53, 0, 0, 0), (7, 0, 0, 0, 0, 0), (12, 12, 43, 0, 362, 0), (61, 0, 0, 0, 0, 0)]
def ko_246 : List Nat := [0, 1, 2, 5, 8, 9, 10, 13, 16, 17, 18, 19, 22, 25, 27, 28, 29, 32, 35, 36, 37, 38, 39, 42, 43, 44, 47, 48, 49, 50, 53, 55, 57, 60, 62, 65, 66, 69, 70, 73, 75, 76, 79, 80, 83, 86, 88, 89, 92, 93, 96, 99, 100, 103, 104]
def kc_247 : List RI := [(5, 1, 0, 0, 0, 0), (0, 0, 0, 0, 0, 0), (1, 0, 0, 0, 0, 19), (67, 172, 3, 1, 71, 1), (53, 0, 15, 0, 0, 0), (5, 2, 0, 0, 0, 0), (0, 0, 0, 0, 0, 0), (1, 0, 0, 0, 0, 6), (67, 172, 3, 1, 71, 1), (53, 0, 15, 0, 0, 0), (5, 3, 0, 0, 0, 0), (0, 0, 0, 0, 0, -1), (0, 0, 0, 0, 0, 2), (67, 172, 3, 1, 71, 1), (53, 1, 17, 0, 0, 0), (0, 0, 0, 0, 0, 0), (62, 0, 0, 0, 0, 0), (7, 0, 0, 0, 0, 0), (12, 12, 0, 2, 7, 0), (2, 0, 0, 0, 0, 150), (1, 0, 0, 0, 0, 7), (5, 1, 0, 0, 0, 0), (25, 0, 0, 0, 0, 0), (23, 0, 0, 0, 0, 0), (5, 2, 0, 0, 0, 0), (23, 0, 0, 0, 0, 0), (5, 3, 0, 0, 0, 0), (18, 0, 0, 0, 0, 0), (0, 0, 0, 0, 0, 1), (62, 0, 0, 0, 0, 0)]
def ko_247 : List Nat := [0, 1, 2, 4, 7, 10, 11, 12, 14, 17, 20, 21, 22, 23, 26, 29, 30, 31, 32, 35, 38, 40, 41, 42, 43, 44, 45, 46, 47, 48, 49]
def kc_248 : List RI := [(0, 0, 0, 0, 0, 0), (8, 3, 0, 0, 0, 0), (5, 3, 0, 0, 0, 0), (5, 2, 0, 0, 0, 0), (54, 3, 20, 0, 0, 0), (7, 0, 0, 0, 0, 0), (12, 12, 0, 2, 7, 0), (2, 0, 0, 0, 0, 150), (1, 0, 0, 0, 0, 7), (5, 1, 0, 0, 0, 0), (25, 0, 0, 0, 0, 0), (23, 0, 0, 0, 0, 0), (5, 3, 0, 0, 0, 0), (23, 0, 0, 0, 0, 0), (14, 0, 0, 0, 0, 0), (53, 2, 18, 0, 0, 0), (0, 0, 0, 0, 0, 1), (62, 0, 0, 0, 0, 0), (11, 3, 0, 0, 0, 1), (57, 0, 2, 0, 0, 0), (0, 0, 0, 0, 0, 0), (62, 0, 0, 0, 0, 0)]
def ko_248 : List Nat := [0, 1, 2, 3, 4, 7, 8, 11, 14, 16, 17, 18, 19, 20, 21, 22, 25, 26, 27, 30, 33, 34, 35]
def kc_249 : List RI := [(0, 0, 0, 0, 0, 0), (8, 5, 1, 0, 0, 0), (5, 5, 1, 0, 0, 0), (7, 0, 0, 0, 0, 0), (12, 12, 0, 2, 7, 0), (1, 0, 0, 0, 0, 20), (5, 1, 0, 0, 0, 0), (23, 0, 0, 0, 0, 0), (14, 0, 0, 0, 0, 0), (54, 3, 37, 0, 0, 0), (7, 0, 0, 0, 0, 0), (12, 12, 0, 2, 7, 0), (2, 0, 0, 0, 0, 150), (1, 0, 0, 0, 0, 7), (5, 3, 0, 0, 0, 0), (25, 0, 0, 0, 0, 0), (23, 0, 0, 0, 0, 0), (5, 5, 1, 0, 0, 0), (23, 0, 0, 0, 0, 0), (14, 0, 0, 0, 0, 0), (8, 6, 1, 0, 0, 0), (5, 6, 1, 0, 0, 0), (53, 2, 35, 0, 0, 0), (7, 0, 0, 0, 0, 0), (5, 4, 1, 0, 0, 0), (7, 0, 0, 0, 0, 0), (5, 1, 0, 0, 0, 0), (5, 2, 0, 0, 0, 0), (5, 5, 1, 0, 0, 0), (67, 181, 4, 1, 89, 0), (67, 174, 3, 1, 108, 0), (5, 6, 1, 0, 0, 0), (54, 0, 35, 0, 0, 0), (0, 0, 0, 0, 0, 0), (62, 0, 0, 0, 0, 0), (11, 5, 0, 0, 0, 1), (57, 0, 2, 0, 0, 0), (0, 0, 0, 0, 0, 1), (62, 0, 0, 0, 0, 0)]
def ko_249 : List Nat := [0, 1, 3, 5, 6, 9, 11, 12, 13, 14, 17, 18, 21, 24, 26, 27, 28, 29, 31, 32, 33, 35, 37, 40, 41, 43, 44, 45, 46, 48, 51, 54, 56, 59, 60, 61, 64, 67, 68, 69]
def kc_250 : List RI := [(7, 0, 0, 0, 0, 0), (12, 12, 28, 3, 261, 0), (53, 0, 5, 0, 0, 0), (47, 0, 0, 0, 0, 0), (57, 0, 6, 0, 0, 0), (47, 0, 0, 0, 0, 1), (9, 3, 0, 0, 0, 0), (0, 0, 0, 0, 0, 0), (8, 5, 1, 0, 0, 0), (5, 5, 1, 0, 0, 0), (7, 0, 0, 0, 0, 0), (12, 12, 25, 0, 258, 0), (54, 3, 50, 0, 0, 0), (7, 0, 0, 0, 0, 0), (12, 12, 28, 3, 261, 0), (53, 0, 50, 0, 0, 0), (0, 0, 0, 0, 0, 1), (8, 6, 1, 0, 0, 0), (0, 0, 0, 0, 0, 0), (8, 7, 1, 0, 0, 0), (5, 7, 1, 0, 0, 0), (1, 0, 0, 0, 0, 20), (54, 3, 40, 0, 0, 0), (5, 6, 1, 0, 0, 0), (53, 0, 36, 0, 0, 0), (7, 0, 0, 0, 0, 0), (5, 1, 0, 0, 0, 0), (5, 2, 0, 0, 0, 0), (5, 7, 1, 0, 0, 0), (7, 0, 0, 0, 0, 0), (5, 5, 1, 0, 0, 0), (67, 223, 2, 1, 317, 0), (67, 249, 5, 1, 371, 0), (53, 0, 36, 0, 0, 0), (0, 0, 0, 0, 0, 1), (57, 0, 37, 0, 0, 0), (0, 0, 0, 0, 0, 0), (8, 6, 1, 0, 0, 0), (11, 7, 0, 0, 0, 1), (57, 0, 20, 0, 0, 0), (6, 3, 0, 0, 0, 0), (5, 6, 1, 0, 0, 0), (53, 0, 45, 0, 0, 0), (47, 0, 0, 0, 0, 1), (57, 0, 46, 0, 0, 0), (47, 0, 0, 0, 0, 0), (35, 0, 0, 0, 0, 0), (9, 3, 0, 0, 0, 0), (11, 5, 0, 0, 0, 1), (57, 0, 9, 0, 0, 0), (0, 0, 0, 0, 0, 0), (8, 5, 1, 0, 0, 0), (5, 5, 1, 0, 0, 0), (1, 0, 0, 0, 0, 20), (54, 3, 101, 0, 0, 0), (7, 0, 0, 0, 0, 0), (12, 12, 28, 3, 261, 0), (53, 1, 101, 0, 0, 0), (7, 0, 0, 0, 0, 0), (5, 5, 1, 0, 0, 0), (7, 0, 0, 0, 0, 0), (12, 12, 0, 2, 7, 0), (1, 0, 0, 0, 0, 20), (5, 1, 0, 0, 0, 0), (23, 0, 0, 0, 0, 0), (14, 0, 0, 0, 0, 0), (67, 248, 3, 1, 374, 0), (53, 1, 69, 0, 0, 0), (57, 0, 99, 0, 0, 0), (0, 0, 0, 0, 0, 0), (8, 6, 1, 0, 0, 0), (0, 0, 0, 0, 0, 0), (8, 7, 1, 0, 0, 0), (5, 7, 1, 0, 0, 0), (7, 0, 0, 0, 0, 0), (12, 12, 25, 0, 258, 0), (54, 3, 94, 0, 0, 0), (5, 6, 1, 0, 0, 0), (7, 0, 0, 0, 0, 0), (5, 1, 0, 0, 0, 0), (5, 2, 0, 0, 0, 0), (5, 5, 1, 0, 0, 0), (7, 0, 0, 0, 0, 0), (5, 7, 1, 0, 0, 0), (67, 223, 2, 1, 317, 0), (67, 249, 5, 1, 371, 0), (53, 0, 89, 0, 0, 0), (0, 0, 0, 0, 0, 1), (57, 0, 90, 0, 0, 0), (0, 0, 0, 0, 0, 0), (23, 0, 0, 0, 0, 0), (8, 6, 1, 0, 0, 0), (11, 7, 0, 0, 0, 1), (57, 0, 73, 0, 0, 0), (6, 3, 0, 0, 0, 0), (5, 6, 1, 0, 0, 0), (43, 0, 0, 0, 0, 0), (37, 0, 0, 0, 0, 0), (9, 3, 0, 0, 0, 0), (11, 5, 0, 0, 0, 1), (57, 0, 52, 0, 0, 0), (6, 3, 0, 0, 0, 0), (63, 0, 0, 0, 0, 0)]
def ko_250 : List Nat := [0, 1, 4, 7, 8, 11, 12, 13, 14, 16, 18, 19, 22, 25, 26, 29, 32, 33, 35, 36, 38, 40, 42, 45, 47, 50, 51, 52, 53, 55, 56, 58, 61, 64, 67, 68, 71, 72, 74, 77, 80, 81, 83, 86, 87, 90, 91, 92, 93, 96, 99, 100, 102, 104, 106, 109, 110, 113, 116, 117, 119, 120, 123, 125, 126, 127, 128, 131, 134, 137, 138, 140, 141, 143, 145, 146, 149, 152, 154, 155, 156, 157, 159, 160, 162, 165, 168, 171, 172, 175, 176, 177, 179, 182, 185, 186, 188, 189, 190, 191, 194, 197, 198, 199]
def kc_251 : List RI := [(7, 0, 0, 0, 0, 0), (5, 1, 0, 0, 0, 0), (67, 221, 2, 1, 299, 0), (53, 0, 8, 0, 0, 0), (7, 0, 0, 0, 0, 0), (5, 2, 0, 0, 0, 0), (67, 173, 2, 1, 82, 0), (53, 1, 10, 0, 0, 0), (48, 0, 0, 0, 377, -1), (63, 0, 0, 0, 0, 0), (7, 0, 0, 0, 0, 0), (5, 1, 0, 0, 0, 0), (67, 222, 2, 0, 302, 0), (7, 0, 0, 0, 0, 0), (5, 2, 0, 0, 0, 0), (67, 183, 2, 0, 104, 0), (5, 3, 0, 0, 0, 0), (0, 0, 0, 0, 0, 0), (7, 0, 0, 0, 0, 0), (12, 12, 6, 0, 93, 0), (0, 0, 0, 0, 0, 1), (24, 0, 0, 0, 0, 0), (67, 172, 3, 1, 71, 1), (53, 0, 32, 0, 0, 0), (7, 0, 0, 0, 0, 0), (5, 2, 0, 0, 0, 0), (7, 0, 0, 0, 0, 0), (12, 12, 5, 2, 25, 0), (5, 3, 0, 0, 0, 0), (14, 0, 0, 0, 0, 0), (67, 250, 3, 2, 379, 0), (57, 0, 33, 0, 0, 0), (48, 0, 0, 0, 377, -1), (63, 0, 0, 0, 0, 0)]
def ko_251 : List Nat := [0, 1, 2, 5, 8, 9, 10, 13, 16, 19, 20, 21, 22, 25, 26, 27, 30, 31, 32, 33, 36, 37, 38, 41, 44, 45, 46, 47, 50, 51, 52, 55, 58, 61, 62]
def kc_252 : List RI := [(0, 0, 0, 0, 0, 0), (8, 4, 1, 0, 0, 0), (5, 4, 1, 0, 0, 0), (1, 0, 0, 0, 0, 6), (54, 3, 16, 0, 0, 0), (7, 0, 0, 0, 0, 0), (5, 1, 0, 0, 0, 0), (5, 2, 0, 0, 0, 0), (5, 4, 1, 0, 0, 0), (67, 185, 4, 1, 111, 0), (5, 3, 0, 0, 0, 0), (54, 1, 14, 0, 0, 0), (0, 0, 0, 0, 0, 1), (62, 0, 0, 0, 0, 0), (11, 4, 0, 0, 0, 1), (57, 0, 2, 0, 0, 0), (0, 0, 0, 0, 0, 0), (62, 0, 0, 0, 0, 0)]
def ko_252 : List Nat := [0, 1, 3, 5, 7, 10, 11, 12, 13, 15, 18, 19, 22, 23, 24, 27, 30, 31, 32]
def kc_253 : List RI := [(7, 0, 0, 0, 0, 0), (5, 1, 0, 0, 0, 0), (67, 221, 2, 1, 299, 0), (53, 0, 13, 0, 0, 0), (7, 0, 0, 0, 0, 0), (5, 2, 0, 0, 0, 0), (67, 173, 2, 1, 82, 0), (53, 0, 13, 0, 0, 0), (5, 3, 0, 0, 0, 0), (0, 0, 0, 0, 0, 0), (0, 0, 0, 0, 0, 2), (67, 172, 3, 1, 71, 1), (53, 1, 15, 0, 0, 0), (0, 0, 0, 0, 0, -1), (61, 0, 0, 0, 0, 0), (7, 0, 0, 0, 0, 0), (5, 1, 0, 0, 0, 0), (67, 222, 2, 0, 302, 0), (7, 0, 0, 0, 0, 0), (5, 2, 0, 0, 0, 0), (67, 183, 2, 0, 104, 0), (0, 0, 0, 0, 0, 0), (8, 4, 1, 0, 0, 0), (0, 0, 0, 0, 0, -1), (8, 5, 1, 0, 0, 0), (0, 0, 0, 0, 0, 1), (8, 6, 1, 0, 0, 0), (0, 0, 0, 0, 0, 0), (8, 7, 1, 0, 0, 0), (5, 7, 1, 0, 0, 0), (7, 0, 0, 0, 0, 0), (12, 12, 6, 0, 93, 0), (54, 3, 69, 0, 0, 0), (7, 0, 0, 0, 0, 0), (5, 2, 0, 0, 0, 0), (7, 0, 0, 0, 0, 0), (12, 12, 5, 2, 25, 0), (5, 7, 1, 0, 0, 0), (14, 0, 0, 0, 0, 0), (67, 250, 3, 2, 379, 0), (47, 0, 0, 0, 0, 0), (45, 0, 0, 0, 0, 0), (53, 1, 44, 0, 0, 0), (57, 0, 67, 0, 0, 0), (5, 5, 1, 0, 0, 0), (53, 3, 48, 0, 0, 0), (5, 7, 1, 0, 0, 0), (8, 5, 1, 0, 0, 0), (11, 4, 0, 0, 0, 1), (5, 6, 1, 0, 0, 0), (53, 0, 65, 0, 0, 0), (7, 0, 0, 0, 0, 0), (5, 2, 0, 0, 0, 0), (7, 0, 0, 0, 0, 0), (12, 12, 5, 2, 25, 0), (5, 5, 1, 0, 0, 0), (14, 0, 0, 0, 0, 0), (7, 0, 0, 0, 0, 0), (12, 12, 5, 2, 25, 0), (5, 7, 1, 0, 0, 0), (14, 0, 0, 0, 0, 0), (67, 252, 4, 1, 383, 0), (53, 0, 65, 0, 0, 0), (0, 0, 0, 0, 0, 1), (57, 0, 66, 0, 0, 0), (0, 0, 0, 0, 0, 0), (8, 6, 1, 0, 0, 0), (11, 7, 0, 0, 0, 1), (57, 0, 29, 0, 0, 0), (5, 3, 0, 0, 0, 0), (53, 1, 73, 0, 0, 0), (5, 4, 1, 0, 0, 0), (57, 0, 85, 0, 0, 0), (5, 3, 0, 0, 0, 0), (0, 0, 0, 0, 0, 1), (54, 1, 84, 0, 0, 0), (5, 6, 1, 0, 0, 0), (53, 0, 82, 0, 0, 0), (5, 4, 1, 0, 0, 0), (53, 5, 82, 0, 0, 0), (0, 0, 0, 0, 0, 1), (57, 0, 85, 0, 0, 0), (0, 0, 0, 0, 0, 0), (57, 0, 85, 0, 0, 0), (5, 5, 1, 0, 0, 0), (61, 0, 0, 0, 0, 0)]
def ko_253 : List Nat := [0, 1, 2, 5, 8, 9, 10, 13, 16, 17, 18, 19, 22, 25, 26, 27, 28, 29, 32, 33, 34, 37, 38, 40, 41, 43, 44, 46, 47, 49, 51, 52, 55, 58, 59, 60, 61, 64, 66, 67, 70, 71, 72, 75, 78, 80, 83, 85, 87, 90, 92, 95, 96, 97, 98, 101, 103, 104, 105, 108, 110, 111, 114, 117, 118, 121, 122, 124, 127, 130, 131, 134, 136, 139, 140, 141, 144, 146, 149, 151, 154, 155, 158, 159, 162, 164, 165]
def kc_254 : List RI := [(7, 0, 0, 0, 0, 0), (5, 1, 0, 0, 0, 0), (67, 173, 2, 1, 82, 0), (53, 0, 18, 0, 0, 0), (5, 2, 0, 0, 0, 0), (0, 0, 0, 0, 0, 0), (7, 0, 0, 0, 0, 0), (5, 1, 0, 0, 0, 0), (67, 180, 2, 1, 96, 0), (0, 0, 0, 0, 0, 1), (24, 0, 0, 0, 0, 0), (67, 172, 3, 1, 71, 1), (53, 0, 18, 0, 0, 0), (5, 3, 0, 0, 0, 0), (0, 0, 0, 0, 0, 0), (0, 0, 0, 0, 0, 5), (67, 172, 3, 1, 71, 1), (53, 1, 20, 0, 0, 0), (0, 0, 0, 0, 0, 0), (62, 0, 0, 0, 0, 0), (7, 0, 0, 0, 0, 0), (12, 12, 0, 2, 7, 0), (0, 0, 0, 0, 0, 4), (0, 0, 0, 0, 0, 1), (18, 0, 0, 0, 0, 0), (7, 0, 0, 0, 0, 0), (12, 12, 0, 2, 7, 0), (0, 0, 0, 0, 0, 5), (5, 1, 0, 0, 0, 0), (18, 0, 0, 0, 0, 0), (0, 0, 0, 0, 0, 0), (8, 4, 1, 0, 0, 0), (5, 4, 1, 0, 0, 0), (1, 0, 0, 0, 0, 7), (54, 3, 68, 0, 0, 0), (7, 0, 0, 0, 0, 0), (12, 12, 0, 2, 7, 0), (2, 0, 0, 0, 0, 300), (5, 4, 1, 0, 0, 0), (23, 0, 0, 0, 0, 0), (5, 4, 1, 0, 0, 0), (7, 0, 0, 0, 0, 0), (12, 12, 0, 2, 7, 0), (1, 0, 0, 0, 0, 20), (5, 1, 0, 0, 0, 0), (23, 0, 0, 0, 0, 0), (14, 0, 0, 0, 0, 0), (54, 3, 57, 0, 0, 0), (7, 0, 0, 0, 0, 0), (5, 3, 0, 0, 0, 0), (7, 0, 0, 0, 0, 0), (5, 1, 0, 0, 0, 0), (5, 2, 0, 0, 0, 0), (5, 4, 1, 0, 0, 0), (67, 181, 4, 1, 89, 0), (67, 174, 3, 1, 108, 0), (57, 0, 58, 0, 0, 0), (0, 0, 0, 0, 0, 0), (18, 0, 0, 0, 0, 0), (7, 0, 0, 0, 0, 0), (12, 12, 0, 2, 7, 0), (2, 0, 0, 0, 0, 310), (5, 4, 1, 0, 0, 0), (23, 0, 0, 0, 0, 0), (0, 0, 0, 0, 0, 0), (18, 0, 0, 0, 0, 0), (11, 4, 0, 0, 0, 1), (57, 0, 32, 0, 0, 0), (0, 0, 0, 0, 0, 1), (62, 0, 0, 0, 0, 0)]
def ko_254 : List Nat := [0, 1, 2, 5, 8, 9, 10, 11, 12, 15, 16, 17, 20, 23, 24, 25, 26, 29, 32, 33, 34, 35, 38, 39, 40, 41, 42, 45, 46, 47, 48, 49, 51, 53, 55, 58, 59, 62, 65, 67, 68, 70, 71, 74, 76, 77, 78, 79, 82, 83, 84, 85, 86, 87, 89, 92, 95, 98, 99, 100, 101, 104, 107, 109, 110, 111, 112, 115, 118, 119, 120]
def kc_255 : List RI := [(0, 0, 0, 0, 0, 0), (8, 1, 0, 0, 0, 0), (0, 0, 0, 0, 0, 0), (8, 2, 0, 0, 0, 0), (5, 2, 0, 0, 0, 0), (1, 0, 0, 0, 0, 7), (54, 3, 18, 0, 0, 0), (5, 1, 0, 0, 0, 0), (7, 0, 0, 0, 0, 0), (12, 12, 0, 2, 7, 0), (2, 0, 0, 0, 0, 310), (5, 2, 0, 0, 0, 0), (23, 0, 0, 0, 0, 0), (14, 0, 0, 0, 0, 0), (23, 0, 0, 0, 0, 0), (8, 1, 0, 0, 0, 0), (11, 2, 0, 0, 0, 1), (57, 0, 4, 0, 0, 0), (5, 1, 0, 0, 0, 0), (61, 0, 0, 0, 0, 0)]
def ko_255 : List Nat := [0, 1, 2, 3, 4, 5, 7, 10, 11, 12, 15, 18, 19, 20, 21, 22, 23, 26, 29, 30, 31]
def kc_256 : List RI := [(7, 0, 0, 0, 0, 0), (12, 12, 0, 2, 7, 0), (0, 0, 0, 0, 0, 4), (14, 0, 0, 0, 0, 0), (53, 0, 20, 0, 0, 0), (5, 1, 0, 0, 0, 0), (0, 0, 0, 0, 0, 0), (7, 0, 0, 0, 0, 0), (12, 12, 0, 2, 7, 0), (1, 0, 0, 0, 0, 24), (7, 0, 0, 0, 0, 0), (12, 12, 0, 2, 7, 0), (0, 0, 0, 0, 0, 5), (14, 0, 0, 0, 0, 0), (23, 0, 0, 0, 0, 0), (14, 0, 0, 0, 0, 0), (0, 0, 0, 0, 0, 1), (24, 0, 0, 0, 0, 0), (67, 172, 3, 1, 71, 1), (53, 1, 22, 0, 0, 0), (0, 0, 0, 0, 0, -1), (61, 0, 0, 0, 0, 0), (7, 0, 0, 0, 0, 0), (12, 12, 0, 2, 7, 0), (2, 0, 0, 0, 0, 310), (7, 0, 0, 0, 0, 0), (7, 0, 0, 0, 0, 0), (12, 12, 0, 2, 7, 0), (0, 0, 0, 0, 0, 5), (14, 0, 0, 0, 0, 0), (5, 1, 0, 0, 0, 0), (67, 176, 3, 1, 75, 0), (23, 0, 0, 0, 0, 0), (0, 0, 0, 0, 0, 1), (18, 0, 0, 0, 0, 0), (7, 0, 0, 0, 0, 0), (12, 12, 0, 2, 7, 0), (2, 0, 0, 0, 0, 310), (7, 0, 0, 0, 0, 0), (7, 0, 0, 0, 0, 0), (12, 12, 0, 2, 7, 0), (0, 0, 0, 0, 0, 5), (14, 0, 0, 0, 0, 0), (5, 1, 0, 0, 0, 0), (67, 177, 3, 1, 79, 0), (23, 0, 0, 0, 0, 0), (0, 0, 0, 0, 0, 1), (18, 0, 0, 0, 0, 0), (7, 0, 0, 0, 0, 0), (67, 255, 1, 1, 386, 0), (61, 0, 0, 0, 0, 0)]
def ko_256 : List Nat := [0, 1, 4, 5, 6, 9, 10, 11, 12, 15, 17, 18, 21, 22, 23, 24, 25, 26, 27, 30, 33, 34, 35, 36, 39, 42, 43, 44, 47, 48, 49, 50, 53, 54, 55, 56, 57, 60, 63, 64, 65, 68, 69, 70, 71, 74, 75, 76, 77, 78, 81, 82]
def kc_257 : List RI := [(7, 0, 0, 0, 0, 0), (12, 12, 0, 2, 7, 0), (0, 0, 0, 0, 0, 5), (14, 0, 0, 0, 0, 0), (8, 1, 0, 0, 0, 0), (7, 0, 0, 0, 0, 0), (12, 12, 0, 2, 7, 0), (0, 0, 0, 0, 0, 4), (14, 0, 0, 0, 0, 0), (53, 0, 19, 0, 0, 0), (7, 0, 0, 0, 0, 0), (67, 255, 1, 1, 386, 0), (7, 0, 0, 0, 0, 0), (12, 12, 0, 2, 7, 0), (1, 0, 0, 0, 0, 20), (5, 1, 0, 0, 0, 0), (23, 0, 0, 0, 0, 0), (14, 0, 0, 0, 0, 0), (54, 3, 21, 0, 0, 0), (0, 0, 0, 0, 0, 0), (62, 0, 0, 0, 0, 0), (0, 0, 0, 0, 0, 0), (8, 2, 0, 0, 0, 0), (5, 2, 0, 0, 0, 0), (7, 0, 0, 0, 0, 0), (12, 12, 0, 2, 7, 0), (1, 0, 0, 0, 0, 24), (5, 1, 0, 0, 0, 0), (23, 0, 0, 0, 0, 0), (14, 0, 0, 0, 0, 0), (54, 3, 54, 0, 0, 0), (7, 0, 0, 0, 0, 0), (12, 12, 0, 2, 7, 0), (2, 0, 0, 0, 0, 300), (7, 0, 0, 0, 0, 0), (5, 1, 0, 0, 0, 0), (5, 2, 0, 0, 0, 0), (67, 176, 3, 1, 75, 0), (23, 0, 0, 0, 0, 0), (14, 0, 0, 0, 0, 0), (7, 0, 0, 0, 0, 0), (12, 12, 0, 2, 7, 0), (2, 0, 0, 0, 0, 300), (7, 0, 0, 0, 0, 0), (5, 1, 0, 0, 0, 0), (5, 2, 0, 0, 0, 0), (67, 177, 3, 1, 79, 0), (23, 0, 0, 0, 0, 0), (14, 0, 0, 0, 0, 0), (54, 1, 52, 0, 0, 0), (0, 0, 0, 0, 0, 0), (62, 0, 0, 0, 0, 0), (11, 2, 0, 0, 0, 1), (57, 0, 23, 0, 0, 0), (0, 0, 0, 0, 0, 1), (62, 0, 0, 0, 0, 0)]
def ko_257 : List Nat := [0, 1, 4, 5, 6, 7, 8, 11, 12, 13, 16, 17, 20, 21, 24, 26, 27, 28, 29, 32, 33, 34, 35, 36, 37, 38, 41, 43, 44, 45, 46, 49, 50, 53, 56, 57, 58, 59, 62, 63, 64, 65, 68, 71, 72, 73, 74, 77, 78, 79, 82, 83, 84, 87, 90, 91, 92]
def kc_258 : List RI := [(5, 1, 0, 0, 0, 0), (0, 0, 0, 0, 0, -1), (54, 1, 10, 0, 0, 0), (7, 0, 0, 0, 0, 0), (67, 257, 1, 1, 389, 0), (53, 0, 8, 0, 0, 0), (0, 0, 0, 0, 0, 1), (57, 0, 9, 0, 0, 0), (0, 0, 0, 0, 0, 0), (61, 0, 0, 0, 0, 0), (7, 0, 0, 0, 0, 0), (12, 12, 0, 2, 7, 0), (0, 0, 0, 0, 0, 4), (14, 0, 0, 0, 0, 0), (0, 0, 0, 0, 0, 1), (54, 1, 36, 0, 0, 0), (5, 1, 0, 0, 0, 0), (0, 0, 0, 0, 0, 0), (1, 0, 0, 0, 0, 6), (67, 172, 3, 1, 71, 1), (53, 0, 36, 0, 0, 0), (7, 0, 0, 0, 0, 0), (12, 12, 0, 2, 7, 0), (2, 0, 0, 0, 0, 310), (5, 1, 0, 0, 0, 0), (23, 0, 0, 0, 0, 0), (14, 0, 0, 0, 0, 0), (0, 0, 0, 0, 0, 1), (54, 1, 36, 0, 0, 0), (7, 0, 0, 0, 0, 0), (12, 12, 0, 2, 7, 0), (2, 0, 0, 0, 0, 300), (5, 1, 0, 0, 0, 0), (23, 0, 0, 0, 0, 0), (14, 0, 0, 0, 0, 0), (57, 0, 37, 0, 0, 0), (0, 0, 0, 0, 0, -1), (61, 0, 0, 0, 0, 0)]
def ko_258 : List Nat := [0, 1, 2, 5, 6, 9, 12, 13, 16, 17, 18, 19, 22, 23, 24, 25, 28, 29, 30, 32, 35, 38, 39, 42, 45, 46, 47, 48, 49, 52, 53, 56, 59, 60, 61, 62, 65, 66, 67]
def kc_259 : List RI := [(5, 1, 0, 0, 0, 0), (0, 0, 0, 0, 0, 0), (1, 0, 0, 0, 0, 63), (67, 172, 3, 1, 71, 1), (53, 0, 25, 0, 0, 0), (5, 2, 0, 0, 0, 0), (0, 0, 0, 0, 0, 0), (1, 0, 0, 0, 0, 63), (67, 172, 3, 1, 71, 1), (53, 0, 25, 0, 0, 0), (5, 3, 0, 0, 0, 0), (0, 0, 0, 0, 0, 0), (1, 0, 0, 0, 0, 63), (67, 172, 3, 1, 71, 1), (53, 0, 25, 0, 0, 0), (5, 4, 1, 0, 0, 0), (0, 0, 0, 0, 0, 1), (1, 0, 0, 0, 0, 64), (67, 172, 3, 1, 71, 1), (53, 0, 25, 0, 0, 0), (5, 5, 1, 0, 0, 0), (0, 0, 0, 0, 0, 1), (1, 0, 0, 0, 0, 32), (67, 172, 3, 1, 71, 1), (53, 1, 27, 0, 0, 0), (0, 0, 0, 0, 0, 0), (62, 0, 0, 0, 0, 0), (7, 0, 0, 0, 0, 0), (12, 12, 0, 2, 7, 0), (1, 0, 0, 0, 0, 10), (5, 1, 0, 0, 0, 0), (18, 0, 0, 0, 0, 0), (7, 0, 0, 0, 0, 0), (12, 12, 0, 2, 7, 0), (1, 0, 0, 0, 0, 11), (5, 2, 0, 0, 0, 0), (18, 0, 0, 0, 0, 0), (7, 0, 0, 0, 0, 0), (12, 12, 0, 2, 7, 0), (1, 0, 0, 0, 0, 12), (5, 3, 0, 0, 0, 0), (18, 0, 0, 0, 0, 0), (7, 0, 0, 0, 0, 0), (12, 12, 0, 2, 7, 0), (1, 0, 0, 0, 0, 13), (5, 4, 1, 0, 0, 0), (18, 0, 0, 0, 0, 0), (7, 0, 0, 0, 0, 0), (12, 12, 0, 2, 7, 0), (1, 0, 0, 0, 0, 14), (5, 5, 1, 0, 0, 0), (18, 0, 0, 0, 0, 0), (0, 0, 0, 0, 0, 1), (62, 0, 0, 0, 0, 0)]
def ko_259 : List Nat := [0, 1, 2, 4, 7, 10, 11, 12, 14, 17, 20, 21, 22, 24, 27, 30, 32, 33, 35, 38, 41, 43, 44, 46, 49, 52, 53, 54, 55, 58, 60, 61, 62, 63, 66, 68, 69, 70, 71, 74, 76, 77, 78, 79, 82, 84, 86, 87, 88, 91, 93, 95, 96, 97, 98]
def kc_260 : List RI := [(7, 0, 0, 0, 0, 0), (12, 12, 0, 2, 7, 0), (1, 0, 0, 0, 0, 10), (14, 0, 0, 0, 0, 0), (5, 1, 0, 0, 0, 0), (25, 0, 0, 0, 0, 0), (7, 0, 0, 0, 0, 0), (12, 12, 0, 2, 7, 0), (1, 0, 0, 0, 0, 11), (14, 0, 0, 0, 0, 0), (5, 2, 0, 0, 0, 0), (25, 0, 0, 0, 0, 0), (23, 0, 0, 0, 0, 0), (7, 0, 0, 0, 0, 0), (12, 12, 0, 2, 7, 0), (1, 0, 0, 0, 0, 12), (14, 0, 0, 0, 0, 0), (5, 1, 0, 0, 0, 0), (25, 0, 0, 0, 0, 0), (5, 2, 0, 0, 0, 0), (25, 0, 0, 0, 0, 0), (23, 0, 0, 0, 0, 0), (7, 0, 0, 0, 0, 0), (12, 12, 0, 2, 7, 0), (1, 0, 0, 0, 0, 13), (14, 0, 0, 0, 0, 0), (33, 0, 0, 0, 0, 0), (61, 0, 0, 0, 0, 0)]
def ko_260 : List Nat := [0, 1, 4, 6, 7, 8, 9, 10, 13, 15, 16, 17, 18, 19, 20, 23, 25, 26, 27, 28, 29, 30, 31, 32, 35, 37, 38, 39, 40]
def kc_261 : List RI := [(5, 1, 0, 0, 0, 0), (0, 0, 0, 0, 0, 0), (0, 0, 0, 0, 0, 2), (67, 172, 3, 1, 71, 1), (53, 0, 20, 0, 0, 0), (5, 2, 0, 0, 0, 0), (0, 0, 0, 0, 0, 0), (7, 0, 0, 0, 0, 0), (12, 12, 0, 2, 7, 0), (1, 0, 0, 0, 0, 14), (14, 0, 0, 0, 0, 0), (0, 0, 0, 0, 0, 1), (24, 0, 0, 0, 0, 0), (67, 172, 3, 1, 71, 1), (53, 0, 20, 0, 0, 0), (7, 0, 0, 0, 0, 0), (5, 1, 0, 0, 0, 0), (5, 2, 0, 0, 0, 0), (67, 260, 3, 1, 392, 0), (57, 0, 21, 0, 0, 0), (0, 0, 0, 0, 0, -1), (61, 0, 0, 0, 0, 0)]
def ko_261 : List Nat := [0, 1, 2, 3, 6, 9, 10, 11, 12, 15, 17, 18, 19, 20, 23, 26, 27, 28, 29, 32, 35, 36, 37]
def kc_262 : List RI := [(0, 0, 0, 0, 0, 0), (8, 3, 0, 0, 0, 0), (0, 0, 0, 0, 0, 0), (8, 4, 1, 0, 0, 0), (5, 4, 1, 0, 0, 0), (7, 0, 0, 0, 0, 0), (12, 12, 0, 2, 7, 0), (1, 0, 0, 0, 0, 14), (14, 0, 0, 0, 0, 0), (54, 3, 24, 0, 0, 0), (5, 3, 0, 0, 0, 0), (7, 0, 0, 0, 0, 0), (5, 1, 0, 0, 0, 0), (5, 4, 1, 0, 0, 0), (67, 260, 3, 1, 392, 0), (5, 2, 0, 0, 0, 0), (54, 1, 19, 0, 0, 0), (0, 0, 0, 0, 0, 1), (57, 0, 20, 0, 0, 0), (0, 0, 0, 0, 0, 0), (23, 0, 0, 0, 0, 0), (8, 3, 0, 0, 0, 0), (11, 4, 0, 0, 0, 1), (57, 0, 4, 0, 0, 0), (5, 3, 0, 0, 0, 0), (61, 0, 0, 0, 0, 0)]
def ko_262 : List Nat := [0, 1, 2, 3, 5, 7, 8, 11, 13, 14, 17, 18, 19, 20, 22, 25, 26, 29, 30, 33, 34, 35, 36, 39, 42, 43, 44]
def kc_263 : List RI := [(7, 0, 0, 0, 0, 0), (12, 12, 0, 2, 7, 0), (1, 0, 0, 0, 0, 14), (14, 0, 0, 0, 0, 0), (8, 2, 0, 0, 0, 0), (0, 0, 0, 0, 0, 0), (8, 3, 0, 0, 0, 0), (5, 3, 0, 0, 0, 0), (0, 0, 0, 0, 0, 3), (5, 2, 0, 0, 0, 0), (25, 0, 0, 0, 0, 0), (54, 3, 73, 0, 0, 0), (0, 0, 0, 0, 0, 0), (8, 4, 1, 0, 0, 0), (5, 4, 1, 0, 0, 0), (0, 0, 0, 0, 0, 3), (5, 2, 0, 0, 0, 0), (25, 0, 0, 0, 0, 0), (54, 3, 71, 0, 0, 0), (5, 3, 0, 0, 0, 0), (5, 2, 0, 0, 0, 0), (32, 0, 0, 0, 0, 0), (5, 4, 1, 0, 0, 0), (5, 2, 0, 0, 0, 0), (32, 0, 0, 0, 0, 0), (54, 0, 69, 0, 0, 0), (7, 0, 0, 0, 0, 0), (5, 3, 0, 0, 0, 0), (5, 2, 0, 0, 0, 0), (32, 0, 0, 0, 0, 0), (5, 3, 0, 0, 0, 0), (5, 2, 0, 0, 0, 0), (33, 0, 0, 0, 0, 0), (67, 260, 3, 1, 392, 0), (7, 0, 0, 0, 0, 0), (5, 4, 1, 0, 0, 0), (5, 2, 0, 0, 0, 0), (32, 0, 0, 0, 0, 0), (5, 4, 1, 0, 0, 0), (5, 2, 0, 0, 0, 0), (33, 0, 0, 0, 0, 0), (67, 260, 3, 1, 392, 0), (54, 0, 44, 0, 0, 0), (57, 0, 69, 0, 0, 0), (5, 1, 0, 0, 0, 0), (0, 0, 0, 0, 0, 2), (54, 1, 51, 0, 0, 0), (5, 3, 0, 0, 0, 0), (5, 2, 0, 0, 0, 0), (32, 0, 0, 0, 0, 0), (57, 0, 68, 0, 0, 0), (5, 1, 0, 0, 0, 0), (0, 0, 0, 0, 0, 3), (54, 1, 58, 0, 0, 0), (5, 3, 0, 0, 0, 0), (5, 2, 0, 0, 0, 0), (33, 0, 0, 0, 0, 0), (57, 0, 68, 0, 0, 0), (5, 1, 0, 0, 0, 0), (0, 0, 0, 0, 0, 4), (54, 1, 65, 0, 0, 0), (5, 4, 1, 0, 0, 0), (5, 2, 0, 0, 0, 0), (32, 0, 0, 0, 0, 0), (57, 0, 68, 0, 0, 0), (5, 4, 1, 0, 0, 0), (5, 2, 0, 0, 0, 0), (33, 0, 0, 0, 0, 0), (61, 0, 0, 0, 0, 0), (11, 4, 0, 0, 0, 1), (57, 0, 14, 0, 0, 0), (11, 3, 0, 0, 0, 1), (57, 0, 7, 0, 0, 0), (0, 0, 0, 0, 0, -1), (61, 0, 0, 0, 0, 0)]
def ko_263 : List Nat := [0, 1, 4, 6, 7, 8, 9, 10, 11, 12, 13, 14, 17, 18, 20, 22, 23, 24, 25, 28, 29, 30, 31, 33, 34, 35, 38, 39, 40, 41, 42, 43, 44, 45, 48, 49, 51, 52, 53, 55, 56, 57, 60, 63, 66, 67, 68, 71, 72, 73, 74, 77, 78, 79, 82, 83, 84, 85, 88, 89, 90, 93, 95, 96, 97, 100, 102, 103, 104, 105, 108, 111, 114, 117, 118, 119]
def kc_264 : List RI := [(0, 0, 0, 0, 0, 0), (8, 3, 0, 0, 0, 0), (0, 0, 0, 0, 0, 0), (8, 4, 1, 0, 0, 0), (5, 4, 1, 0, 0, 0), (7, 0, 0, 0, 0, 0), (12, 12, 0, 2, 7, 0), (1, 0, 0, 0, 0, 13), (14, 0, 0, 0, 0, 0), (54, 3, 35, 0, 0, 0), (5, 3, 0, 0, 0, 0), (7, 0, 0, 0, 0, 0), (5, 1, 0, 0, 0, 0), (5, 4, 1, 0, 0, 0), (67, 262, 3, 1, 395, 0), (7, 0, 0, 0, 0, 0), (5, 2, 0, 0, 0, 0), (5, 4, 1, 0, 0, 0), (67, 262, 3, 1, 395, 0), (54, 5, 30, 0, 0, 0), (7, 0, 0, 0, 0, 0), (5, 1, 0, 0, 0, 0), (5, 4, 1, 0, 0, 0), (67, 262, 3, 1, 395, 0), (7, 0, 0, 0, 0, 0), (5, 2, 0, 0, 0, 0), (5, 4, 1, 0, 0, 0), (67, 262, 3, 1, 395, 0), (24, 0, 0, 0, 0, 0), (57, 0, 31, 0, 0, 0), (0, 0, 0, 0, 0, 0), (23, 0, 0, 0, 0, 0), (8, 3, 0, 0, 0, 0), (11, 4, 0, 0, 0, 1), (57, 0, 4, 0, 0, 0), (5, 3, 0, 0, 0, 0), (61, 0, 0, 0, 0, 0)]
def ko_264 : List Nat := [0, 1, 2, 3, 5, 7, 8, 11, 13, 14, 17, 18, 19, 20, 22, 25, 26, 27, 29, 32, 35, 36, 37, 39, 42, 43, 44, 46, 49, 50, 53, 54, 55, 56, 59, 62, 63, 64]
def kc_265 : List RI := [(5, 1, 0, 0, 0, 0), (0, 0, 0, 0, 0, 0), (1, 0, 0, 0, 0, 8), (67, 172, 3, 1, 71, 1), (53, 1, 7, 0, 0, 0), (0, 0, 0, 0, 0, -1), (61, 0, 0, 0, 0, 0), (5, 1, 0, 0, 0, 0), (53, 1, 17, 0, 0, 0), (7, 0, 0, 0, 0, 0), (0, 0, 0, 0, 0, 2), (67, 263, 2, 1, 398, 0), (53, 3, 15, 0, 0, 0), (0, 0, 0, 0, 0, 1), (57, 0, 16, 0, 0, 0), (0, 0, 0, 0, 0, 0), (61, 0, 0, 0, 0, 0), (5, 1, 0, 0, 0, 0), (0, 0, 0, 0, 0, 1), (54, 1, 39, 0, 0, 0), (7, 0, 0, 0, 0, 0), (0, 0, 0, 0, 0, 0), (0, 0, 0, 0, 0, 1), (67, 264, 3, 1, 401, 0), (7, 0, 0, 0, 0, 0), (0, 0, 0, 0, 0, 0), (0, 0, 0, 0, 0, 2), (67, 264, 3, 1, 401, 0), (23, 0, 0, 0, 0, 0), (7, 0, 0, 0, 0, 0), (0, 0, 0, 0, 0, 1), (0, 0, 0, 0, 0, 2), (67, 264, 3, 1, 401, 0), (23, 0, 0, 0, 0, 0), (53, 1, 37, 0, 0, 0), (0, 0, 0, 0, 0, 1), (57, 0, 38, 0, 0, 0), (0, 0, 0, 0, 0, 0), (61, 0, 0, 0, 0, 0), (5, 1, 0, 0, 0, 0), (1, 0, 0, 0, 0, 6), (54, 3, 46, 0, 0, 0), (7, 0, 0, 0, 0, 0), (5, 1, 0, 0, 0, 0), (67, 263, 2, 1, 398, 0), (57, 0, 60, 0, 0, 0), (5, 1, 0, 0, 0, 0), (1, 0, 0, 0, 0, 6), (54, 1, 54, 0, 0, 0), (7, 0, 0, 0, 0, 0), (0, 0, 0, 0, 0, 0), (0, 0, 0, 0, 0, 1), (67, 264, 3, 1, 401, 0), (57, 0, 60, 0, 0, 0), (7, 0, 0, 0, 0, 0), (5, 1, 0, 0, 0, 0), (1, 0, 0, 0, 0, 7), (24, 0, 0, 0, 0, 0), (0, 0, 0, 0, 0, 2), (67, 264, 3, 1, 401, 0), (61, 0, 0, 0, 0, 0)]
def ko_265 : List Nat := [0, 1, 2, 4, 7, 10, 11, 12, 13, 16, 17, 18, 21, 24, 25, 28, 29, 30, 31, 32, 35, 36, 37, 38, 41, 42, 43, 44, 47, 48, 49, 50, 51, 54, 55, 58, 59, 62, 63, 64, 65, 67, 70, 71, 72, 75, 78, 79, 81, 84, 85, 86, 87, 90, 93, 94, 95, 97, 98, 99, 102, 103]
def kc_266 : List RI := [(7, 0, 0, 0, 0, 0), (5, 1, 0, 0, 0, 0), (67, 221, 2, 1, 299, 0), (53, 0, 23, 0, 0, 0), (7, 0, 0, 0, 0, 0), (5, 2, 0, 0, 0, 0), (67, 173, 2, 1, 82, 0), (53, 0, 23, 0, 0, 0), (5, 3, 0, 0, 0, 0), (0, 0, 0, 0, 0, 0), (1, 0, 0, 0, 0, 99), (67, 172, 3, 1, 71, 1), (53, 0, 23, 0, 0, 0), (5, 4, 1, 0, 0, 0), (0, 0, 0, 0, 0, 1), (1, 0, 0, 0, 0, 100), (67, 172, 3, 1, 71, 1), (53, 0, 23, 0, 0, 0), (5, 5, 1, 0, 0, 0), (0, 0, 0, 0, 0, 0), (0, 0, 0, 0, 0, 2), (67, 172, 3, 1, 71, 1), (53, 1, 25, 0, 0, 0), (0, 0, 0, 0, 0, -1), (61, 0, 0, 0, 0, 0), (7, 0, 0, 0, 0, 0), (5, 1, 0, 0, 0, 0), (67, 222, 2, 0, 302, 0), (7, 0, 0, 0, 0, 0), (5, 2, 0, 0, 0, 0), (67, 224, 2, 1, 305, 0), (8, 6, 1, 0, 0, 0), (0, 0, 0, 0, 0, 0), (8, 7, 1, 0, 0, 0), (5, 7, 1, 0, 0, 0), (7, 0, 0, 0, 0, 0), (5, 2, 0, 0, 0, 0), (67, 180, 2, 1, 96, 0), (54, 3, 108, 0, 0, 0), (5, 6, 1, 0, 0, 0), (53, 5, 108, 0, 0, 0), (7, 0, 0, 0, 0, 0), (5, 2, 0, 0, 0, 0), (5, 7, 1, 0, 0, 0), (67, 182, 3, 1, 100, 0), (53, 0, 47, 0, 0, 0), (57, 0, 106, 0, 0, 0), (0, 0, 0, 0, 0, 0), (8, 8, 1, 0, 0, 0), (0, 0, 0, 0, 0, 0), (8, 9, 1, 0, 0, 0), (5, 9, 1, 0, 0, 0), (7, 0, 0, 0, 0, 0), (12, 12, 0, 2, 7, 0), (1, 0, 0, 0, 0, 20), (5, 2, 0, 0, 0, 0), (23, 0, 0, 0, 0, 0), (14, 0, 0, 0, 0, 0), (54, 3, 73, 0, 0, 0), (5, 8, 1, 0, 0, 0), (5, 9, 1, 0, 0, 0), (0, 0, 0, 0, 0, 1), (23, 0, 0, 0, 0, 0), (7, 0, 0, 0, 0, 0), (5, 2, 0, 0, 0, 0), (5, 7, 1, 0, 0, 0), (5, 9, 1, 0, 0, 0), (67, 181, 4, 1, 89, 0), (25, 0, 0, 0, 0, 0), (23, 0, 0, 0, 0, 0), (8, 8, 1, 0, 0, 0), (11, 9, 0, 0, 0, 1), (57, 0, 51, 0, 0, 0), (0, 0, 0, 0, 0, 0), (8, 9, 1, 0, 0, 0), (5, 9, 1, 0, 0, 0), (5, 4, 1, 0, 0, 0), (54, 3, 106, 0, 0, 0), (5, 3, 0, 0, 0, 0), (5, 8, 1, 0, 0, 0), (25, 0, 0, 0, 0, 0), (5, 9, 1, 0, 0, 0), (23, 0, 0, 0, 0, 0), (5, 6, 1, 0, 0, 0), (33, 0, 0, 0, 0, 0), (8, 10, 1, 0, 0, 0), (7, 0, 0, 0, 0, 0), (5, 2, 0, 0, 0, 0), (5, 10, 1, 0, 0, 0), (5, 7, 1, 0, 0, 0), (0, 0, 0, 0, 0, 0), (67, 232, 5, 1, 320, 0), (53, 0, 104, 0, 0, 0), (5, 5, 1, 0, 0, 0), (53, 1, 97, 0, 0, 0), (5, 7, 1, 0, 0, 0), (57, 0, 103, 0, 0, 0), (5, 5, 1, 0, 0, 0), (0, 0, 0, 0, 0, 1), (54, 1, 102, 0, 0, 0), (5, 9, 1, 0, 0, 0), (57, 0, 103, 0, 0, 0), (5, 10, 1, 0, 0, 0), (61, 0, 0, 0, 0, 0), (11, 9, 0, 0, 0, 1), (57, 0, 75, 0, 0, 0), (11, 7, 0, 0, 0, 1), (57, 0, 34, 0, 0, 0), (0, 0, 0, 0, 0, -1), (61, 0, 0, 0, 0, 0)]
def ko_266 : List Nat := [0, 1, 2, 5, 8, 9, 10, 13, 16, 17, 18, 20, 23, 26, 28, 29, 31, 34, 37, 39, 40, 41, 44, 47, 48, 49, 50, 51, 54, 55, 56, 59, 61, 62, 64, 66, 67, 68, 71, 74, 76, 79, 80, 81, 83, 86, 89, 92, 93, 95, 96, 98, 100, 101, 104, 106, 107, 108, 109, 112, 114, 116, 117, 118, 119, 120, 122, 124, 127, 128, 129, 131, 134, 137, 138, 140, 142, 144, 147, 148, 150, 151, 153, 154, 156, 157, 159, 160, 161, 163, 165, 166, 169, 172, 174, 177, 179, 182, 184, 185, 188, 190, 193, 195, 196, 199, 202, 205, 208, 209, 210]
def kc_267 : List RI := [(7, 0, 0, 0, 0, 0), (5, 1, 0, 0, 0, 0), (67, 221, 2, 1, 299, 0), (53, 0, 32, 0, 0, 0), (7, 0, 0, 0, 0, 0), (5, 2, 0, 0, 0, 0), (67, 173, 2, 1, 82, 0), (53, 0, 32, 0, 0, 0), (7, 0, 0, 0, 0, 0), (5, 4, 1, 0, 0, 0), (67, 173, 2, 1, 82, 0), (53, 0, 32, 0, 0, 0), (7, 0, 0, 0, 0, 0), (12, 12, 0, 2, 7, 0), (1, 0, 0, 0, 0, 24), (5, 2, 0, 0, 0, 0), (23, 0, 0, 0, 0, 0), (14, 0, 0, 0, 0, 0), (7, 0, 0, 0, 0, 0), (12, 12, 0, 2, 7, 0), (1, 0, 0, 0, 0, 24), (5, 4, 1, 0, 0, 0), (23, 0, 0, 0, 0, 0), (14, 0, 0, 0, 0, 0), (54, 1, 32, 0, 0, 0), (7, 0, 0, 0, 0, 0), (12, 12, 0, 2, 7, 0), (1, 0, 0, 0, 0, 24), (5, 2, 0, 0, 0, 0), (23, 0, 0, 0, 0, 0), (14, 0, 0, 0, 0, 0), (53, 1, 34, 0, 0, 0), (0, 0, 0, 0, 0, -1), (61, 0, 0, 0, 0, 0), (7, 0, 0, 0, 0, 0), (5, 2, 0, 0, 0, 0), (67, 183, 2, 0, 104, 0), (5, 3, 0, 0, 0, 0), (0, 0, 0, 0, 0, 0), (7, 0, 0, 0, 0, 0), (12, 12, 6, 0, 93, 0), (0, 0, 0, 0, 0, 1), (24, 0, 0, 0, 0, 0), (67, 172, 3, 1, 71, 1), (53, 1, 47, 0, 0, 0), (0, 0, 0, 0, 0, -1), (61, 0, 0, 0, 0, 0), (7, 0, 0, 0, 0, 0), (12, 12, 5, 2, 25, 0), (5, 3, 0, 0, 0, 0), (14, 0, 0, 0, 0, 0), (8, 6, 1, 0, 0, 0), (7, 0, 0, 0, 0, 0), (5, 4, 1, 0, 0, 0), (67, 183, 2, 0, 104, 0), (5, 5, 1, 0, 0, 0), (0, 0, 0, 0, 0, 0), (7, 0, 0, 0, 0, 0), (12, 12, 6, 0, 93, 0), (0, 0, 0, 0, 0, 1), (24, 0, 0, 0, 0, 0), (67, 172, 3, 1, 71, 1), (53, 1, 65, 0, 0, 0), (0, 0, 0, 0, 0, -1), (61, 0, 0, 0, 0, 0), (7, 0, 0, 0, 0, 0), (12, 12, 5, 2, 25, 0), (5, 5, 1, 0, 0, 0), (14, 0, 0, 0, 0, 0), (8, 7, 1, 0, 0, 0), (7, 0, 0, 0, 0, 0), (5, 1, 0, 0, 0, 0), (67, 222, 2, 0, 302, 0), (7, 0, 0, 0, 0, 0), (0, 0, 0, 0, 0, 0), (13, 12, 26, 0, 264, 0), (7, 0, 0, 0, 0, 0), (12, 12, 0, 2, 7, 0), (1, 0, 0, 0, 0, 24), (5, 2, 0, 0, 0, 0), (23, 0, 0, 0, 0, 0), (14, 0, 0, 0, 0, 0), (8, 8, 1, 0, 0, 0), (0, 0, 0, 0, 0, 0), (8, 9, 1, 0, 0, 0), (0, 0, 0, 0, 0, 0), (8, 10, 1, 0, 0, 0), (5, 10, 1, 0, 0, 0), (5, 8, 1, 0, 0, 0), (54, 3, 173, 0, 0, 0), (0, 0, 0, 0, 0, 0), (8, 11, 1, 0, 0, 0), (5, 11, 1, 0, 0, 0), (5, 8, 1, 0, 0, 0), (54, 3, 171, 0, 0, 0), (7, 0, 0, 0, 0, 0), (5, 2, 0, 0, 0, 0), (5, 11, 1, 0, 0, 0), (0, 0, 0, 0, 0, -1), (5, 6, 1, 0, 0, 0), (7, 0, 0, 0, 0, 0), (12, 12, 39, 2, 61, 0), (67, 242, 6, 0, 349, 0), (7, 0, 0, 0, 0, 0), (5, 4, 1, 0, 0, 0), (5, 10, 1, 0, 0, 0), (5, 11, 1, 0, 0, 0), (24, 0, 0, 0, 0, 0), (5, 8, 1, 0, 0, 0), (23, 0, 0, 0, 0, 0), (5, 8, 1, 0, 0, 0), (33, 0, 0, 0, 0, 0), (0, 0, 0, 0, 0, -1), (5, 7, 1, 0, 0, 0), (7, 0, 0, 0, 0, 0), (12, 12, 40, 2, 64, 0), (67, 242, 6, 0, 349, 0), (0, 0, 0, 0, 0, 0), (8, 12, 1, 0, 0, 0), (5, 12, 1, 0, 0, 0), (1, 0, 0, 0, 0, 81), (54, 3, 169, 0, 0, 0), (5, 12, 1, 0, 0, 0), (1, 0, 0, 0, 0, 9), (32, 0, 0, 0, 0, 0), (8, 13, 1, 0, 0, 0), (5, 12, 1, 0, 0, 0), (1, 0, 0, 0, 0, 9), (33, 0, 0, 0, 0, 0), (8, 14, 1, 0, 0, 0), (5, 14, 1, 0, 0, 0), (0, 0, 0, 0, 0, 3), (32, 0, 0, 0, 0, 0), (5, 14, 1, 0, 0, 0), (0, 0, 0, 0, 0, 3), (33, 0, 0, 0, 0, 0), (54, 1, 139, 0, 0, 0), (0, 0, 0, 0, 0, 0), (57, 0, 143, 0, 0, 0), (7, 0, 0, 0, 0, 0), (12, 12, 39, 2, 61, 0), (5, 13, 1, 0, 0, 0), (14, 0, 0, 0, 0, 0), (8, 15, 1, 0, 0, 0), (5, 13, 1, 0, 0, 0), (0, 0, 0, 0, 0, 3), (32, 0, 0, 0, 0, 0), (5, 13, 1, 0, 0, 0), (0, 0, 0, 0, 0, 3), (33, 0, 0, 0, 0, 0), (54, 1, 153, 0, 0, 0), (0, 0, 0, 0, 0, 0), (57, 0, 157, 0, 0, 0), (7, 0, 0, 0, 0, 0), (12, 12, 40, 2, 64, 0), (5, 14, 1, 0, 0, 0), (14, 0, 0, 0, 0, 0), (8, 16, 1, 0, 0, 0), (5, 9, 1, 0, 0, 0), (5, 15, 1, 0, 0, 0), (5, 16, 1, 0, 0, 0), (54, 0, 164, 0, 0, 0), (0, 0, 0, 0, 0, 1), (57, 0, 165, 0, 0, 0), (0, 0, 0, 0, 0, 0), (23, 0, 0, 0, 0, 0), (8, 9, 1, 0, 0, 0), (11, 12, 0, 0, 0, 1), (57, 0, 119, 0, 0, 0), (11, 11, 0, 0, 0, 1), (57, 0, 92, 0, 0, 0), (11, 10, 0, 0, 0, 1), (57, 0, 87, 0, 0, 0), (5, 9, 1, 0, 0, 0), (61, 0, 0, 0, 0, 0)]
def ko_267 : List Nat := [0, 1, 2, 5, 8, 9, 10, 13, 16, 17, 19, 22, 25, 26, 29, 31, 32, 33, 34, 35, 38, 40, 42, 43, 44, 47, 48, 51, 53, 54, 55, 56, 59, 60, 61, 62, 63, 66, 67, 68, 69, 72, 73, 74, 77, 80, 81, 82, 83, 86, 87, 88, 90, 91, 93, 96, 98, 99, 100, 103, 104, 105, 108, 111, 112, 113, 114, 117, 119, 120, 122, 123, 124, 127, 128, 129, 132, 133, 136, 138, 139, 140, 141, 143, 144, 146, 147, 149, 151, 153, 156, 157, 159, 161, 163, 166, 167, 168, 170, 171, 173, 174, 177, 180, 181, 183, 185, 187, 188, 190, 191, 193, 194, 195, 197, 198, 201, 204, 205, 207, 209, 211, 214, 216, 218, 219, 221, 223, 225, 226, 228, 230, 231, 232, 234, 235, 236, 239, 240, 243, 244, 247, 249, 250, 252, 254, 255, 256, 258, 259, 260, 263, 264, 267, 268, 271, 273, 274, 276, 278, 280, 282, 285, 286, 289, 290, 291, 293, 296, 299, 302, 305, 308, 311, 313, 314]
def kc_268 : List RI := [(5, 1, 0, 0, 0, 0), (0, 0, 0, 0, 0, 1), (0, 0, 0, 0, 0, 3), (67, 172, 3, 1, 71, 1), (53, 1, 7, 0, 0, 0), (0, 0, 0, 0, 0, 0), (62, 0, 0, 0, 0, 0), (7, 0, 0, 0, 0, 0), (12, 12, 0, 2, 7, 0), (0, 0, 0, 0, 0, 3), (5, 1, 0, 0, 0, 0), (18, 0, 0, 0, 0, 0), (7, 0, 0, 0, 0, 0), (12, 12, 0, 2, 7, 0), (0, 0, 0, 0, 0, 2), (0, 0, 0, 0, 0, 0), (18, 0, 0, 0, 0, 0), (0, 0, 0, 0, 0, 1), (62, 0, 0, 0, 0, 0)]
def ko_268 : List Nat := [0, 1, 2, 3, 6, 9, 10, 11, 12, 15, 16, 17, 18, 19, 22, 23, 24, 25, 26, 27]
def kc_269 : List RI := [(5, 1, 0, 0, 0, 0), (53, 0, 16, 0, 0, 0), (5, 1, 0, 0, 0, 0), (7, 0, 0, 0, 0, 0), (12, 12, 0, 2, 7, 0), (0, 0, 0, 0, 0, 3), (14, 0, 0, 0, 0, 0), (34, 0, 0, 0, 0, 0), (7, 0, 0, 0, 0, 0), (12, 12, 0, 2, 7, 0), (0, 0, 0, 0, 0, 3), (14, 0, 0, 0, 0, 0), (67, 172, 3, 1, 71, 1), (53, 0, 16, 0, 0, 0), (0, 0, 0, 0, 0, 1), (57, 0, 17, 0, 0, 0), (0, 0, 0, 0, 0, 0), (62, 0, 0, 0, 0, 0)]
def ko_269 : List Nat := [0, 1, 4, 5, 6, 9, 10, 11, 12, 13, 16, 17, 18, 21, 24, 25, 28, 29, 30]
def kc_270 : List RI := [(7, 0, 0, 0, 0, 0), (5, 1, 0, 0, 0, 0), (67, 269, 2, 1, 404, 0), (53, 0, 18, 0, 0, 0), (7, 0, 0, 0, 0, 0), (5, 2, 0, 0, 0, 0), (67, 269, 2, 1, 404, 0), (53, 0, 18, 0, 0, 0), (7, 0, 0, 0, 0, 0), (5, 3, 0, 0, 0, 0), (67, 269, 2, 1, 404, 0), (53, 0, 18, 0, 0, 0), (7, 0, 0, 0, 0, 0), (12, 12, 0, 2, 7, 0), (0, 0, 0, 0, 0, 2), (14, 0, 0, 0, 0, 0), (0, 0, 0, 0, 0, 3), (54, 1, 20, 0, 0, 0), (0, 0, 0, 0, 0, -1), (61, 0, 0, 0, 0, 0), (2, 0, 0, 0, 0, 320), (0, 0, 0, 0, 0, 3), (7, 0, 0, 0, 0, 0), (12, 12, 0, 2, 7, 0), (0, 0, 0, 0, 0, 2), (14, 0, 0, 0, 0, 0), (25, 0, 0, 0, 0, 0), (23, 0, 0, 0, 0, 0), (8, 4, 1, 0, 0, 0), (7, 0, 0, 0, 0, 0), (12, 12, 0, 2, 7, 0), (5, 4, 1, 0, 0, 0), (5, 1, 0, 0, 0, 0), (18, 0, 0, 0, 0, 0), (7, 0, 0, 0, 0, 0), (12, 12, 0, 2, 7, 0), (5, 4, 1, 0, 0, 0), (0, 0, 0, 0, 0, 1), (23, 0, 0, 0, 0, 0), (5, 2, 0, 0, 0, 0), (18, 0, 0, 0, 0, 0), (7, 0, 0, 0, 0, 0), (12, 12, 0, 2, 7, 0), (5, 4, 1, 0, 0, 0), (0, 0, 0, 0, 0, 2), (23, 0, 0, 0, 0, 0), (5, 3, 0, 0, 0, 0), (18, 0, 0, 0, 0, 0), (7, 0, 0, 0, 0, 0), (12, 12, 0, 2, 7, 0), (0, 0, 0, 0, 0, 2), (51, 0, 0, 0, 0, 0), (14, 0, 0, 0, 0, 0), (0, 0, 0, 0, 0, 1), (23, 0, 0, 0, 0, 0), (18, 0, 0, 0, 0, 0), (7, 0, 0, 0, 0, 0), (12, 12, 0, 2, 7, 0), (0, 0, 0, 0, 0, 2), (14, 0, 0, 0, 0, 0), (0, 0, 0, 0, 0, 1), (24, 0, 0, 0, 0, 0), (61, 0, 0, 0, 0, 0)]
def ko_270 : List Nat := [0, 1, 2, 5, 8, 9, 10, 13, 16, 17, 18, 21, 24, 25, 28, 29, 30, 31, 34, 35, 36, 39, 40, 41, 44, 45, 46, 47, 48, 50, 51, 54, 56, 57, 58, 59, 62, 64, 65, 66, 67, 68, 69, 72, 74, 75, 76, 77, 78, 79, 82, 83, 84, 85, 86, 87, 88, 89, 92, 93, 94, 95, 96, 97]
def kc_271 : List RI := [(5, 1, 0, 0, 0, 0), (53, 5, 15, 0, 0, 0), (5, 2, 0, 0, 0, 0), (5, 1, 0, 0, 0, 0), (0, 0, 0, 0, 0, 1), (24, 0, 0, 0, 0, 0), (30, 0, 0, 0, 0, 0), (0, 0, 0, 0, 0, 1), (26, 0, 0, 0, 0, 0), (0, 0, 0, 0, 0, 1), (54, 1, 13, 0, 0, 0), (0, 0, 0, 0, 0, 1), (57, 0, 27, 0, 0, 0), (0, 0, 0, 0, 0, 0), (57, 0, 27, 0, 0, 0), (5, 2, 0, 0, 0, 0), (5, 1, 0, 0, 0, 0), (34, 0, 0, 0, 0, 0), (0, 0, 0, 0, 0, 1), (24, 0, 0, 0, 0, 0), (30, 0, 0, 0, 0, 0), (0, 0, 0, 0, 0, 1), (26, 0, 0, 0, 0, 0), (53, 1, 26, 0, 0, 0), (0, 0, 0, 0, 0, 1), (57, 0, 27, 0, 0, 0), (0, 0, 0, 0, 0, 0), (62, 0, 0, 0, 0, 0)]
def ko_271 : List Nat := [0, 1, 4, 5, 6, 7, 8, 9, 10, 11, 12, 15, 16, 19, 20, 23, 24, 25, 26, 27, 28, 29, 30, 31, 34, 35, 38, 39, 40]
def kc_272 : List RI := [(0, 0, 0, 0, 0, 0), (8, 3, 0, 0, 0, 0), (0, 0, 0, 0, 0, 0), (8, 4, 1, 0, 0, 0), (5, 4, 1, 0, 0, 0), (2, 0, 0, 0, 0, 729), (54, 3, 89, 0, 0, 0), (5, 4, 1, 0, 0, 0), (0, 0, 0, 0, 0, 3), (33, 0, 0, 0, 0, 0), (8, 5, 1, 0, 0, 0), (5, 4, 1, 0, 0, 0), (0, 0, 0, 0, 0, 3), (32, 0, 0, 0, 0, 0), (0, 0, 0, 0, 0, 3), (33, 0, 0, 0, 0, 0), (8, 6, 1, 0, 0, 0), (5, 4, 1, 0, 0, 0), (1, 0, 0, 0, 0, 9), (32, 0, 0, 0, 0, 0), (0, 0, 0, 0, 0, 3), (33, 0, 0, 0, 0, 0), (8, 7, 1, 0, 0, 0), (5, 4, 1, 0, 0, 0), (1, 0, 0, 0, 0, 27), (32, 0, 0, 0, 0, 0), (0, 0, 0, 0, 0, 3), (33, 0, 0, 0, 0, 0), (8, 8, 1, 0, 0, 0), (5, 4, 1, 0, 0, 0), (1, 0, 0, 0, 0, 81), (32, 0, 0, 0, 0, 0), (0, 0, 0, 0, 0, 3), (33, 0, 0, 0, 0, 0), (8, 9, 1, 0, 0, 0), (5, 4, 1, 0, 0, 0), (2, 0, 0, 0, 0, 243), (32, 0, 0, 0, 0, 0), (8, 10, 1, 0, 0, 0), (5, 0, 0, 0, 0, 0), (5, 5, 1, 0, 0, 0), (54, 0, 59, 0, 0, 0), (5, 1, 0, 0, 0, 0), (5, 6, 1, 0, 0, 0), (54, 0, 59, 0, 0, 0), (5, 5, 1, 0, 0, 0), (5, 6, 1, 0, 0, 0), (54, 0, 59, 0, 0, 0), (5, 5, 1, 0, 0, 0), (5, 7, 1, 0, 0, 0), (54, 0, 59, 0, 0, 0), (5, 6, 1, 0, 0, 0), (5, 7, 1, 0, 0, 0), (54, 0, 59, 0, 0, 0), (5, 7, 1, 0, 0, 0), (5, 8, 1, 0, 0, 0), (54, 0, 59, 0, 0, 0), (0, 0, 0, 0, 0, 1), (57, 0, 60, 0, 0, 0), (0, 0, 0, 0, 0, 0), (8, 11, 1, 0, 0, 0), (5, 3, 0, 0, 0, 0), (5, 11, 1, 0, 0, 0), (53, 0, 84, 0, 0, 0), (5, 2, 0, 0, 0, 0), (5, 9, 1, 0, 0, 0), (54, 0, 84, 0, 0, 0), (5, 8, 1, 0, 0, 0), (5, 9, 1, 0, 0, 0), (54, 0, 84, 0, 0, 0), (5, 8, 1, 0, 0, 0), (5, 10, 1, 0, 0, 0), (54, 0, 84, 0, 0, 0), (5, 9, 1, 0, 0, 0), (5, 10, 1, 0, 0, 0), (54, 0, 84, 0, 0, 0), (5, 10, 1, 0, 0, 0), (0, 0, 0, 0, 0, 1), (54, 0, 84, 0, 0, 0), (5, 10, 1, 0, 0, 0), (0, 0, 0, 0, 0, 2), (54, 0, 84, 0, 0, 0), (0, 0, 0, 0, 0, 1), (57, 0, 85, 0, 0, 0), (0, 0, 0, 0, 0, 0), (23, 0, 0, 0, 0, 0), (8, 3, 0, 0, 0, 0), (11, 4, 0, 0, 0, 1), (57, 0, 4, 0, 0, 0), (5, 3, 0, 0, 0, 0), (61, 0, 0, 0, 0, 0)]
def ko_272 : List Nat := [0, 1, 2, 3, 5, 7, 10, 13, 15, 16, 17, 19, 21, 22, 23, 24, 25, 27, 29, 31, 32, 33, 34, 36, 38, 40, 41, 42, 43, 45, 47, 49, 50, 51, 52, 54, 56, 59, 60, 62, 63, 65, 68, 69, 71, 74, 76, 78, 81, 83, 85, 88, 90, 92, 95, 97, 99, 102, 103, 106, 107, 109, 110, 112, 115, 116, 118, 121, 123, 125, 128, 130, 132, 135, 137, 139, 142, 144, 145, 148, 150, 151, 154, 155, 158, 159, 160, 161, 164, 167, 168, 169]
def kc_273 : List RI := [(0, 0, 0, 0, 0, 1), (8, 2, 0, 0, 0, 0), (0, 0, 0, 0, 0, 0), (8, 3, 0, 0, 0, 0), (5, 3, 0, 0, 0, 0), (7, 0, 0, 0, 0, 0), (12, 12, 0, 2, 7, 0), (0, 0, 0, 0, 0, 2), (14, 0, 0, 0, 0, 0), (54, 3, 59, 0, 0, 0), (2, 0, 0, 0, 0, 320), (0, 0, 0, 0, 0, 3), (5, 3, 0, 0, 0, 0), (25, 0, 0, 0, 0, 0), (23, 0, 0, 0, 0, 0), (8, 4, 1, 0, 0, 0), (5, 2, 0, 0, 0, 0), (7, 0, 0, 0, 0, 0), (7, 0, 0, 0, 0, 0), (12, 12, 0, 2, 7, 0), (5, 4, 1, 0, 0, 0), (14, 0, 0, 0, 0, 0), (5, 1, 0, 0, 0, 0), (67, 271, 3, 1, 407, 0), (53, 0, 27, 0, 0, 0), (0, 0, 0, 0, 0, 0), (57, 0, 28, 0, 0, 0), (0, 0, 0, 0, 0, 1), (7, 0, 0, 0, 0, 0), (7, 0, 0, 0, 0, 0), (12, 12, 0, 2, 7, 0), (5, 4, 1, 0, 0, 0), (0, 0, 0, 0, 0, 1), (23, 0, 0, 0, 0, 0), (14, 0, 0, 0, 0, 0), (5, 1, 0, 0, 0, 0), (67, 271, 3, 1, 407, 0), (53, 0, 40, 0, 0, 0), (0, 0, 0, 0, 0, 0), (57, 0, 41, 0, 0, 0), (0, 0, 0, 0, 0, 1), (7, 0, 0, 0, 0, 0), (7, 0, 0, 0, 0, 0), (12, 12, 0, 2, 7, 0), (5, 4, 1, 0, 0, 0), (0, 0, 0, 0, 0, 2), (23, 0, 0, 0, 0, 0), (14, 0, 0, 0, 0, 0), (5, 1, 0, 0, 0, 0), (67, 271, 3, 1, 407, 0), (53, 0, 53, 0, 0, 0), (0, 0, 0, 0, 0, 0), (57, 0, 54, 0, 0, 0), (0, 0, 0, 0, 0, 1), (67, 272, 3, 1, 410, 1), (25, 0, 0, 0, 0, 0), (8, 2, 0, 0, 0, 0), (11, 3, 0, 0, 0, 1), (57, 0, 4, 0, 0, 0), (5, 2, 0, 0, 0, 0), (61, 0, 0, 0, 0, 0)]
def ko_273 : List Nat := [0, 1, 2, 3, 4, 5, 6, 9, 10, 11, 14, 17, 18, 19, 20, 21, 23, 24, 25, 26, 29, 31, 32, 33, 36, 39, 40, 43, 44, 45, 46, 49, 51, 52, 53, 54, 55, 58, 61, 62, 65, 66, 67, 68, 71, 73, 74, 75, 76, 77, 80, 83, 84, 87, 88, 91, 92, 93, 96, 99, 100, 101]
def kc_274 : List RI := [(0, 0, 0, 0, 0, 0), (8, 2, 0, 0, 0, 0), (5, 2, 0, 0, 0, 0), (7, 0, 0, 0, 0, 0), (12, 12, 0, 2, 7, 0), (0, 0, 0, 0, 0, 2), (14, 0, 0, 0, 0, 0), (54, 3, 46, 0, 0, 0), (2, 0, 0, 0, 0, 320), (0, 0, 0, 0, 0, 3), (5, 2, 0, 0, 0, 0), (25, 0, 0, 0, 0, 0), (23, 0, 0, 0, 0, 0), (8, 3, 0, 0, 0, 0), (7, 0, 0, 0, 0, 0), (7, 0, 0, 0, 0, 0), (12, 12, 0, 2, 7, 0), (5, 3, 0, 0, 0, 0), (14, 0, 0, 0, 0, 0), (5, 1, 0, 0, 0, 0), (67, 271, 3, 1, 407, 0), (53, 1, 44, 0, 0, 0), (7, 0, 0, 0, 0, 0), (7, 0, 0, 0, 0, 0), (12, 12, 0, 2, 7, 0), (5, 3, 0, 0, 0, 0), (0, 0, 0, 0, 0, 1), (23, 0, 0, 0, 0, 0), (14, 0, 0, 0, 0, 0), (5, 1, 0, 0, 0, 0), (67, 271, 3, 1, 407, 0), (53, 1, 44, 0, 0, 0), (7, 0, 0, 0, 0, 0), (7, 0, 0, 0, 0, 0), (12, 12, 0, 2, 7, 0), (5, 3, 0, 0, 0, 0), (0, 0, 0, 0, 0, 2), (23, 0, 0, 0, 0, 0), (14, 0, 0, 0, 0, 0), (5, 1, 0, 0, 0, 0), (67, 271, 3, 1, 407, 0), (53, 1, 44, 0, 0, 0), (0, 0, 0, 0, 0, 0), (62, 0, 0, 0, 0, 0), (11, 2, 0, 0, 0, 1), (57, 0, 2, 0, 0, 0), (0, 0, 0, 0, 0, 1), (62, 0, 0, 0, 0, 0)]
def ko_274 : List Nat := [0, 1, 2, 3, 4, 7, 8, 9, 12, 15, 16, 17, 18, 19, 20, 21, 22, 25, 26, 27, 28, 31, 34, 35, 36, 39, 40, 41, 42, 43, 44, 47, 50, 51, 52, 55, 56, 57, 58, 59, 60, 63, 66, 67, 68, 71, 74, 75, 76]
def kc_275 : List RI := [(0, 0, 0, 0, 0, 1), (7, 0, 0, 0, 0, 0), (12, 12, 0, 2, 7, 0), (0, 0, 0, 0, 0, 3), (14, 0, 0, 0, 0, 0), (29, 0, 0, 0, 0, 0), (8, 2, 0, 0, 0, 0), (5, 1, 0, 0, 0, 0), (0, 0, 0, 0, 0, 1), (54, 1, 26, 0, 0, 0), (0, 0, 0, 0, 0, 3), (0, 0, 0, 0, 0, 2), (7, 0, 0, 0, 0, 0), (12, 12, 0, 2, 7, 0), (0, 0, 0, 0, 0, 3), (14, 0, 0, 0, 0, 0), (25, 0, 0, 0, 0, 0), (23, 0, 0, 0, 0, 0), (1, 0, 0, 0, 0, 6), (7, 0, 0, 0, 0, 0), (12, 12, 0, 2, 7, 0), (0, 0, 0, 0, 0, 2), (14, 0, 0, 0, 0, 0), (25, 0, 0, 0, 0, 0), (23, 0, 0, 0, 0, 0), (61, 0, 0, 0, 0, 0), (5, 1, 0, 0, 0, 0), (0, 0, 0, 0, 0, 2), (54, 1, 45, 0, 0, 0), (0, 0, 0, 0, 0, 3), (0, 0, 0, 0, 0, 3), (7, 0, 0, 0, 0, 0), (12, 12, 0, 2, 7, 0), (0, 0, 0, 0, 0, 3), (14, 0, 0, 0, 0, 0), (25, 0, 0, 0, 0, 0), (23, 0, 0, 0, 0, 0), (1, 0, 0, 0, 0, 12), (7, 0, 0, 0, 0, 0), (12, 12, 0, 2, 7, 0), (0, 0, 0, 0, 0, 2), (14, 0, 0, 0, 0, 0), (25, 0, 0, 0, 0, 0), (23, 0, 0, 0, 0, 0), (61, 0, 0, 0, 0, 0), (5, 1, 0, 0, 0, 0), (2, 0, 0, 0, 0, 1000), (2, 0, 0, 0, 0, 999), (5, 2, 0, 0, 0, 0), (23, 0, 0, 0, 0, 0), (67, 172, 3, 1, 71, 1), (53, 0, 58, 0, 0, 0), (7, 0, 0, 0, 0, 0), (5, 1, 0, 0, 0, 0), (2, 0, 0, 0, 0, 1000), (24, 0, 0, 0, 0, 0), (67, 273, 2, 1, 413, 0), (61, 0, 0, 0, 0, 0), (5, 1, 0, 0, 0, 0), (53, 0, 65, 0, 0, 0), (5, 1, 0, 0, 0, 0), (0, 0, 0, 0, 0, 3), (54, 0, 65, 0, 0, 0), (0, 0, 0, 0, 0, -1), (61, 0, 0, 0, 0, 0), (0, 0, 0, 0, 0, 0), (8, 3, 0, 0, 0, 0), (0, 0, 0, 0, 0, 0), (8, 4, 1, 0, 0, 0), (5, 4, 1, 0, 0, 0), (5, 2, 0, 0, 0, 0), (54, 3, 91, 0, 0, 0), (5, 3, 0, 0, 0, 0), (5, 1, 0, 0, 0, 0), (0, 0, 0, 0, 0, 3), (54, 1, 80, 0, 0, 0), (7, 0, 0, 0, 0, 0), (5, 4, 1, 0, 0, 0), (67, 273, 2, 1, 413, 0), (57, 0, 87, 0, 0, 0), (7, 0, 0, 0, 0, 0), (5, 4, 1, 0, 0, 0), (67, 274, 2, 1, 416, 0), (53, 0, 86, 0, 0, 0), (0, 0, 0, 0, 0, 1), (57, 0, 87, 0, 0, 0), (0, 0, 0, 0, 0, 0), (23, 0, 0, 0, 0, 0), (8, 3, 0, 0, 0, 0), (11, 4, 0, 0, 0, 1), (57, 0, 69, 0, 0, 0), (5, 3, 0, 0, 0, 0), (61, 0, 0, 0, 0, 0)]
def ko_275 : List Nat := [0, 1, 2, 5, 6, 7, 8, 9, 10, 11, 14, 15, 16, 17, 20, 21, 22, 23, 24, 26, 27, 30, 31, 32, 33, 34, 35, 36, 37, 40, 41, 42, 43, 46, 47, 48, 49, 50, 52, 53, 56, 57, 58, 59, 60, 61, 62, 65, 68, 69, 70, 73, 76, 77, 78, 81, 82, 85, 86, 87, 90, 91, 92, 95, 96, 97, 98, 99, 100, 102, 104, 105, 108, 109, 110, 111, 114, 115, 117, 120, 123, 124, 126, 129, 132, 133, 136, 137, 138, 139, 142, 145, 146, 147]
def kc_276 : List RI := [(2, 0, 0, 0, 0, 800), (5, 1, 0, 0, 0, 0), (25, 0, 0, 0, 0, 0), (8, 6, 1, 0, 0, 0), (7, 0, 0, 0, 0, 0), (12, 12, 2, 2, 16, 0), (5, 6, 1, 0, 0, 0), (0, 0, 0, 0, 0, 1), (23, 0, 0, 0, 0, 0), (14, 0, 0, 0, 0, 0), (5, 2, 0, 0, 0, 0), (54, 0, 14, 0, 0, 0), (0, 0, 0, 0, 0, 1), (57, 0, 15, 0, 0, 0), (0, 0, 0, 0, 0, 0), (7, 0, 0, 0, 0, 0), (12, 12, 2, 2, 16, 0), (5, 6, 1, 0, 0, 0), (0, 0, 0, 0, 0, 2), (23, 0, 0, 0, 0, 0), (14, 0, 0, 0, 0, 0), (5, 3, 0, 0, 0, 0), (54, 0, 25, 0, 0, 0), (0, 0, 0, 0, 0, 1), (57, 0, 26, 0, 0, 0), (0, 0, 0, 0, 0, 0), (23, 0, 0, 0, 0, 0), (7, 0, 0, 0, 0, 0), (12, 12, 2, 2, 16, 0), (5, 6, 1, 0, 0, 0), (0, 0, 0, 0, 0, 3), (23, 0, 0, 0, 0, 0), (14, 0, 0, 0, 0, 0), (5, 4, 1, 0, 0, 0), (54, 0, 37, 0, 0, 0), (0, 0, 0, 0, 0, 1), (57, 0, 38, 0, 0, 0), (0, 0, 0, 0, 0, 0), (23, 0, 0, 0, 0, 0), (5, 5, 1, 0, 0, 0), (23, 0, 0, 0, 0, 0), (61, 0, 0, 0, 0, 0)]
def ko_276 : List Nat := [0, 3, 4, 5, 7, 8, 11, 13, 14, 15, 16, 17, 20, 21, 24, 25, 26, 29, 31, 32, 33, 34, 35, 38, 39, 42, 43, 44, 45, 48, 50, 51, 52, 53, 55, 58, 59, 62, 63, 64, 66, 67, 68]
def kc_277 : List RI := [(7, 0, 0, 0, 0, 0), (5, 1, 0, 0, 0, 0), (67, 234, 2, 1, 323, 0), (53, 5, 6, 0, 0, 0), (0, 0, 0, 0, 0, 0), (62, 0, 0, 0, 0, 0), (7, 0, 0, 0, 0, 0), (5, 1, 0, 0, 0, 0), (0, 0, 0, 0, 0, 1), (67, 245, 3, 1, 368, 0), (53, 0, 13, 0, 0, 0), (0, 0, 0, 0, 0, 0), (62, 0, 0, 0, 0, 0), (7, 0, 0, 0, 0, 0), (12, 12, 28, 3, 261, 0), (53, 0, 23, 0, 0, 0), (7, 0, 0, 0, 0, 0), (5, 1, 0, 0, 0, 0), (0, 0, 0, 0, 0, 2), (67, 245, 3, 1, 368, 0), (53, 0, 23, 0, 0, 0), (0, 0, 0, 0, 0, 0), (62, 0, 0, 0, 0, 0), (7, 0, 0, 0, 0, 0), (5, 2, 0, 0, 0, 0), (67, 236, 2, 0, 332, 0), (7, 0, 0, 0, 0, 0), (12, 12, 36, 0, 326, 0), (7, 0, 0, 0, 0, 0), (5, 2, 0, 0, 0, 0), (67, 224, 2, 1, 305, 0), (54, 3, 34, 0, 0, 0), (0, 0, 0, 0, 0, 1), (57, 0, 35, 0, 0, 0), (0, 0, 0, 0, 0, 0), (62, 0, 0, 0, 0, 0)]
def ko_277 : List Nat := [0, 1, 2, 5, 8, 9, 10, 11, 12, 13, 16, 19, 20, 21, 22, 25, 28, 29, 30, 31, 34, 37, 38, 39, 40, 41, 44, 45, 48, 49, 50, 53, 56, 57, 60, 61, 62]
def kc_278 : List RI := [(7, 0, 0, 0, 0, 0), (5, 1, 0, 0, 0, 0), (67, 221, 2, 1, 299, 0), (53, 0, 17, 0, 0, 0), (7, 0, 0, 0, 0, 0), (5, 2, 0, 0, 0, 0), (67, 173, 2, 1, 82, 0), (53, 0, 17, 0, 0, 0), (7, 0, 0, 0, 0, 0), (5, 3, 0, 0, 0, 0), (67, 173, 2, 1, 82, 0), (53, 0, 17, 0, 0, 0), (5, 4, 1, 0, 0, 0), (0, 0, 0, 0, 0, 0), (0, 0, 0, 0, 0, 4), (67, 172, 3, 1, 71, 1), (53, 1, 19, 0, 0, 0), (0, 0, 0, 0, 0, -1), (61, 0, 0, 0, 0, 0), (7, 0, 0, 0, 0, 0), (5, 3, 0, 0, 0, 0), (67, 183, 2, 0, 104, 0), (7, 0, 0, 0, 0, 0), (12, 12, 6, 0, 93, 0), (53, 5, 27, 0, 0, 0), (0, 0, 0, 0, 0, -1), (61, 0, 0, 0, 0, 0), (7, 0, 0, 0, 0, 0), (5, 2, 0, 0, 0, 0), (67, 183, 2, 0, 104, 0), (7, 0, 0, 0, 0, 0), (12, 12, 6, 0, 93, 0), (53, 1, 35, 0, 0, 0), (0, 0, 0, 0, 0, -1), (61, 0, 0, 0, 0, 0), (0, 0, 0, 0, 0, -1), (8, 5, 1, 0, 0, 0), (0, 0, 0, 0, 0, 5), (8, 6, 1, 0, 0, 0), (0, 0, 0, 0, 0, 0), (8, 7, 1, 0, 0, 0), (5, 7, 1, 0, 0, 0), (1, 0, 0, 0, 0, 48), (54, 3, 124, 0, 0, 0), (5, 7, 1, 0, 0, 0), (1, 0, 0, 0, 0, 12), (32, 0, 0, 0, 0, 0), (0, 0, 0, 0, 0, 3), (54, 1, 51, 0, 0, 0), (1, 0, 0, 0, 0, 6), (57, 0, 56, 0, 0, 0), (5, 7, 1, 0, 0, 0), (1, 0, 0, 0, 0, 12), (32, 0, 0, 0, 0, 0), (0, 0, 0, 0, 0, 1), (23, 0, 0, 0, 0, 0), (8, 8, 1, 0, 0, 0), (7, 0, 0, 0, 0, 0), (5, 1, 0, 0, 0, 0), (5, 8, 1, 0, 0, 0), (5, 7, 1, 0, 0, 0), (1, 0, 0, 0, 0, 6), (32, 0, 0, 0, 0, 0), (0, 0, 0, 0, 0, 2), (33, 0, 0, 0, 0, 0), (5, 7, 1, 0, 0, 0), (0, 0, 0, 0, 0, 2), (32, 0, 0, 0, 0, 0), (0, 0, 0, 0, 0, 3), (33, 0, 0, 0, 0, 0), (5, 7, 1, 0, 0, 0), (0, 0, 0, 0, 0, 2), (33, 0, 0, 0, 0, 0), (67, 276, 6, 1, 419, 0), (8, 9, 1, 0, 0, 0), (5, 9, 1, 0, 0, 0), (5, 6, 1, 0, 0, 0), (54, 2, 79, 0, 0, 0), (57, 0, 122, 0, 0, 0), (7, 0, 0, 0, 0, 0), (5, 1, 0, 0, 0, 0), (67, 222, 2, 0, 302, 0), (7, 0, 0, 0, 0, 0), (5, 8, 1, 0, 0, 0), (13, 12, 25, 0, 258, 0), (7, 0, 0, 0, 0, 0), (5, 7, 1, 0, 0, 0), (1, 0, 0, 0, 0, 6), (32, 0, 0, 0, 0, 0), (0, 0, 0, 0, 0, 2), (33, 0, 0, 0, 0, 0), (0, 0, 0, 0, 0, 1), (54, 1, 95, 0, 0, 0), (0, 0, 0, 0, 0, 1), (57, 0, 96, 0, 0, 0), (0, 0, 0, 0, 0, 0), (13, 12, 28, 3, 261, 0), (7, 0, 0, 0, 0, 0), (5, 7, 1, 0, 0, 0), (0, 0, 0, 0, 0, 2), (32, 0, 0, 0, 0, 0), (0, 0, 0, 0, 0, 3), (33, 0, 0, 0, 0, 0), (13, 12, 26, 0, 264, 0), (5, 7, 1, 0, 0, 0), (0, 0, 0, 0, 0, 2), (33, 0, 0, 0, 0, 0), (0, 0, 0, 0, 0, 1), (54, 1, 112, 0, 0, 0), (7, 0, 0, 0, 0, 0), (0, 0, 0, 0, 0, -1), (13, 12, 27, 0, 267, 0), (7, 0, 0, 0, 0, 0), (5, 2, 0, 0, 0, 0), (5, 3, 0, 0, 0, 0), (67, 277, 3, 1, 423, 0), (53, 1, 118, 0, 0, 0), (57, 0, 122, 0, 0, 0), (5, 7, 1, 0, 0, 0), (8, 5, 1, 0, 0, 0), (5, 9, 1, 0, 0, 0), (8, 6, 1, 0, 0, 0), (11, 7, 0, 0, 0, 1), (57, 0, 41, 0, 0, 0), (5, 5, 1, 0, 0, 0), (53, 3, 128, 0, 0, 0), (0, 0, 0, 0, 0, -1), (61, 0, 0, 0, 0, 0), (5, 4, 1, 0, 0, 0), (53, 1, 132, 0, 0, 0), (5, 6, 1, 0, 0, 0), (57, 0, 169, 0, 0, 0), (5, 4, 1, 0, 0, 0), (0, 0, 0, 0, 0, 1), (54, 1, 148, 0, 0, 0), (5, 5, 1, 0, 0, 0), (1, 0, 0, 0, 0, 12), (32, 0, 0, 0, 0, 0), (0, 0, 0, 0, 0, 3), (54, 1, 142, 0, 0, 0), (1, 0, 0, 0, 0, 6), (57, 0, 169, 0, 0, 0), (5, 5, 1, 0, 0, 0), (1, 0, 0, 0, 0, 12), (32, 0, 0, 0, 0, 0), (0, 0, 0, 0, 0, 1), (23, 0, 0, 0, 0, 0), (57, 0, 169, 0, 0, 0), (5, 4, 1, 0, 0, 0), (0, 0, 0, 0, 0, 2), (54, 1, 157, 0, 0, 0), (5, 5, 1, 0, 0, 0), (1, 0, 0, 0, 0, 6), (32, 0, 0, 0, 0, 0), (0, 0, 0, 0, 0, 2), (33, 0, 0, 0, 0, 0), (57, 0, 169, 0, 0, 0), (5, 4, 1, 0, 0, 0), (0, 0, 0, 0, 0, 3), (54, 1, 166, 0, 0, 0), (5, 5, 1, 0, 0, 0), (0, 0, 0, 0, 0, 2), (32, 0, 0, 0, 0, 0), (0, 0, 0, 0, 0, 3), (33, 0, 0, 0, 0, 0), (57, 0, 169, 0, 0, 0), (5, 5, 1, 0, 0, 0), (0, 0, 0, 0, 0, 2), (33, 0, 0, 0, 0, 0), (61, 0, 0, 0, 0, 0)]
def ko_278 : List Nat := [0, 1, 2, 5, 8, 9, 10, 13, 16, 17, 18, 21, 24, 26, 27, 28, 31, 34, 35, 36, 37, 38, 41, 42, 45, 48, 49, 50, 51, 52, 55, 56, 59, 62, 63, 64, 65, 67, 68, 70, 71, 73, 75, 77, 80, 82, 84, 85, 86, 89, 91, 94, 96, 98, 99, 100, 101, 103, 104, 105, 107, 109, 111, 112, 113, 114, 116, 117, 118, 119, 120, 122, 123, 124, 127, 129, 131, 133, 136, 139, 140, 141, 144, 145, 147, 150, 151, 153, 155, 156, 157, 158, 159, 162, 163, 166, 167, 170, 171, 173, 174, 175, 176, 177, 180, 182, 183, 184, 185, 188, 189, 190, 193, 194, 195, 196, 199, 202, 205, 207, 209, 211, 213, 216, 219, 221, 224, 225, 226, 228, 231, 233, 236, 238, 239, 242, 244, 246, 247, 248, 251, 253, 256, 258, 260, 261, 262, 263, 266, 268, 269, 272, 274, 276, 277, 278, 279, 282, 284, 285, 288, 290, 291, 292, 293, 294, 297, 299, 300, 301, 302]
def kc_279 : List RI := [(7, 0, 0, 0, 0, 0), (12, 12, 0, 2, 7, 0), (7, 0, 0, 0, 0, 0), (12, 12, 1, 2, 13, 0), (67, 171, 2, 0, 67, 1), (7, 0, 0, 0, 0, 0), (12, 12, 0, 2, 7, 0), (0, 0, 0, 0, 0, 1), (14, 0, 0, 0, 0, 0), (61, 0, 0, 0, 0, 0)]
def ko_279 : List Nat := [0, 1, 4, 5, 8, 11, 12, 15, 16, 17, 18]
def kc_280 : List RI := [(7, 0, 0, 0, 0, 0), (12, 12, 1, 2, 13, 0), (7, 0, 0, 0, 0, 0), (12, 12, 0, 2, 7, 0), (67, 171, 2, 0, 67, 1), (7, 0, 0, 0, 0, 0), (12, 12, 0, 2, 7, 0), (0, 0, 0, 0, 0, 1), (14, 0, 0, 0, 0, 0), (61, 0, 0, 0, 0, 0)]
def ko_280 : List Nat := [0, 1, 4, 5, 8, 11, 12, 15, 16, 17, 18]
def kc_281 : List RI := [(0, 0, 0, 0, 0, 0), (8, 1, 0, 0, 0, 0), (0, 0, 0, 0, 0, 0), (8, 2, 0, 0, 0, 0), (5, 2, 0, 0, 0, 0), (1, 0, 0, 0, 0, 20), (54, 3, 20, 0, 0, 0), (5, 1, 0, 0, 0, 0), (7, 0, 0, 0, 0, 0), (5, 2, 0, 0, 0, 0), (1, 0, 0, 0, 0, 7), (67, 248, 3, 1, 374, 0), (53, 0, 15, 0, 0, 0), (0, 0, 0, 0, 0, 1), (57, 0, 16, 0, 0, 0), (0, 0, 0, 0, 0, 0), (23, 0, 0, 0, 0, 0), (8, 1, 0, 0, 0, 0), (11, 2, 0, 0, 0, 1), (57, 0, 4, 0, 0, 0), (5, 1, 0, 0, 0, 0), (61, 0, 0, 0, 0, 0)]
def ko_281 : List Nat := [0, 1, 2, 3, 4, 5, 7, 10, 11, 12, 13, 15, 18, 21, 22, 25, 26, 27, 28, 31, 34, 35, 36]
def kc_282 : List RI := [(5, 1, 0, 0, 0, 0), (1, 0, 0, 0, 0, 10), (1, 0, 0, 0, 0, 13), (67, 172, 3, 1, 71, 1), (53, 0, 22, 0, 0, 0), (7, 0, 0, 0, 0, 0), (5, 1, 0, 0, 0, 0), (1, 0, 0, 0, 0, 10), (24, 0, 0, 0, 0, 0), (67, 173, 2, 1, 82, 0), (53, 0, 20, 0, 0, 0), (7, 0, 0, 0, 0, 0), (12, 12, 0, 2, 7, 0), (1, 0, 0, 0, 0, 20), (5, 1, 0, 0, 0, 0), (23, 0, 0, 0, 0, 0), (1, 0, 0, 0, 0, 10), (24, 0, 0, 0, 0, 0), (14, 0, 0, 0, 0, 0), (57, 0, 21, 0, 0, 0), (0, 0, 0, 0, 0, -1), (61, 0, 0, 0, 0, 0), (5, 1, 0, 0, 0, 0), (1, 0, 0, 0, 0, 20), (1, 0, 0, 0, 0, 23), (67, 172, 3, 1, 71, 1), (53, 0, 44, 0, 0, 0), (7, 0, 0, 0, 0, 0), (5, 1, 0, 0, 0, 0), (1, 0, 0, 0, 0, 20), (24, 0, 0, 0, 0, 0), (67, 173, 2, 1, 82, 0), (53, 0, 42, 0, 0, 0), (7, 0, 0, 0, 0, 0), (12, 12, 0, 2, 7, 0), (1, 0, 0, 0, 0, 24), (5, 1, 0, 0, 0, 0), (23, 0, 0, 0, 0, 0), (1, 0, 0, 0, 0, 20), (24, 0, 0, 0, 0, 0), (14, 0, 0, 0, 0, 0), (57, 0, 43, 0, 0, 0), (0, 0, 0, 0, 0, -1), (61, 0, 0, 0, 0, 0), (5, 1, 0, 0, 0, 0), (1, 0, 0, 0, 0, 30), (1, 0, 0, 0, 0, 57), (67, 172, 3, 1, 71, 1), (53, 0, 77, 0, 0, 0), (5, 1, 0, 0, 0, 0), (1, 0, 0, 0, 0, 10), (33, 0, 0, 0, 0, 0), (1, 0, 0, 0, 0, 8), (54, 3, 75, 0, 0, 0), (7, 0, 0, 0, 0, 0), (5, 1, 0, 0, 0, 0), (1, 0, 0, 0, 0, 10), (33, 0, 0, 0, 0, 0), (67, 221, 2, 1, 299, 0), (53, 0, 75, 0, 0, 0), (7, 0, 0, 0, 0, 0), (12, 12, 2, 2, 16, 0), (2, 0, 0, 0, 0, 800), (5, 1, 0, 0, 0, 0), (1, 0, 0, 0, 0, 10), (33, 0, 0, 0, 0, 0), (25, 0, 0, 0, 0, 0), (5, 1, 0, 0, 0, 0), (1, 0, 0, 0, 0, 10), (32, 0, 0, 0, 0, 0), (23, 0, 0, 0, 0, 0), (0, 0, 0, 0, 0, 2), (24, 0, 0, 0, 0, 0), (14, 0, 0, 0, 0, 0), (57, 0, 76, 0, 0, 0), (0, 0, 0, 0, 0, -1), (61, 0, 0, 0, 0, 0), (5, 1, 0, 0, 0, 0), (58, 15, 0, 37, 0, 0), (7, 0, 0, 0, 0, 0), (12, 12, 0, 2, 7, 0), (0, 0, 0, 0, 0, 0), (14, 0, 0, 0, 0, 0), (61, 0, 0, 0, 0, 0), (7, 0, 0, 0, 0, 0), (12, 12, 0, 2, 7, 0), (0, 0, 0, 0, 0, 1), (14, 0, 0, 0, 0, 0), (61, 0, 0, 0, 0, 0), (7, 0, 0, 0, 0, 0), (12, 12, 0, 2, 7, 0), (0, 0, 0, 0, 0, 2), (14, 0, 0, 0, 0, 0), (61, 0, 0, 0, 0, 0), (7, 0, 0, 0, 0, 0), (12, 12, 0, 2, 7, 0), (0, 0, 0, 0, 0, 3), (14, 0, 0, 0, 0, 0), (61, 0, 0, 0, 0, 0), (7, 0, 0, 0, 0, 0), (12, 12, 9, 0, 123, 0), (61, 0, 0, 0, 0, 0), (7, 0, 0, 0, 0, 0), (67, 281, 1, 1, 426, 0), (61, 0, 0, 0, 0, 0), (0, 0, 0, 0, 0, -1), (61, 0, 0, 0, 0, 0)]
def ko_282 : List Nat := [0, 1, 3, 5, 8, 11, 12, 13, 15, 16, 19, 22, 23, 26, 28, 29, 30, 32, 33, 34, 37, 38, 39, 40, 42, 44, 47, 50, 51, 52, 54, 55, 58, 61, 62, 65, 67, 68, 69, 71, 72, 73, 76, 77, 78, 79, 81, 83, 86, 89, 90, 92, 93, 95, 98, 99, 100, 102, 103, 106, 109, 110, 113, 116, 117, 119, 120, 121, 122, 124, 125, 126, 127, 128, 129, 132, 133, 134, 135, 172, 173, 176, 177, 178, 179, 180, 183, 184, 185, 186, 187, 190, 191, 192, 193, 194, 197, 198, 199, 200, 201, 204, 205, 206, 209, 210, 211, 212]
def kc_283 : List RI := [(5, 0, 0, 0, 0, 0), (0, 0, 0, 0, 0, -1), (28, 0, 0, 0, 0, 0), (5, 0, 0, 0, 0, 0), (0, 0, 0, 0, 0, 1), (24, 0, 0, 0, 0, 0), (26, 0, 0, 0, 0, 0), (8, 0, 0, 0, 0, 0), (5, 0, 0, 0, 0, 0), (53, 4, 14, 0, 0, 0), (5, 0, 0, 0, 0, 0), (1, 0, 0, 0, 0, 32), (26, 0, 0, 0, 0, 0), (61, 0, 0, 0, 0, 0), (0, 0, 0, 0, 0, 1), (8, 1, 0, 0, 0, 0), (5, 0, 0, 0, 0, 0), (4, 0, 0, 0, 264, 65536), (54, 5, 24, 0, 0, 0), (11, 1, 0, 0, 0, 16), (5, 0, 0, 0, 0, 0), (1, 0, 0, 0, 0, 16), (31, 0, 0, 0, 0, 0), (8, 0, 0, 0, 0, 0), (5, 0, 0, 0, 0, 0), (2, 0, 0, 0, 0, 256), (54, 5, 32, 0, 0, 0), (11, 1, 0, 0, 0, 8), (5, 0, 0, 0, 0, 0), (1, 0, 0, 0, 0, 8), (31, 0, 0, 0, 0, 0), (8, 0, 0, 0, 0, 0), (5, 0, 0, 0, 0, 0), (1, 0, 0, 0, 0, 16), (54, 5, 40, 0, 0, 0), (11, 1, 0, 0, 0, 4), (5, 0, 0, 0, 0, 0), (0, 0, 0, 0, 0, 4), (31, 0, 0, 0, 0, 0), (8, 0, 0, 0, 0, 0), (5, 0, 0, 0, 0, 0), (0, 0, 0, 0, 0, 4), (54, 5, 48, 0, 0, 0), (11, 1, 0, 0, 0, 2), (5, 0, 0, 0, 0, 0), (0, 0, 0, 0, 0, 2), (31, 0, 0, 0, 0, 0), (8, 0, 0, 0, 0, 0), (5, 1, 0, 0, 0, 0), (5, 0, 0, 0, 0, 0), (0, 0, 0, 0, 0, 1), (31, 0, 0, 0, 0, 0), (23, 0, 0, 0, 0, 0), (61, 0, 0, 0, 0, 0)]
def ko_283 : List Nat := [0, 1, 2, 3, 4, 5, 6, 7, 8, 9, 12, 13, 15, 16, 17, 18, 19, 20, 23, 26, 29, 30, 32, 33, 34, 35, 38, 41, 44, 45, 47, 48, 49, 50, 52, 55, 58, 59, 60, 61, 62, 63, 64, 67, 70, 71, 72, 73, 74, 75, 76, 77, 78, 79, 80]
def kc_284 : List RI := [(5, 0, 0, 0, 0, 0), (5, 0, 0, 0, 0, 0), (0, 0, 0, 0, 0, 1), (31, 0, 0, 0, 0, 0), (4, 0, 0, 0, 265, 1431655765), (26, 0, 0, 0, 0, 0), (24, 0, 0, 0, 0, 0), (8, 0, 0, 0, 0, 0), (5, 0, 0, 0, 0, 0), (4, 0, 0, 0, 266, 858993459), (26, 0, 0, 0, 0, 0), (5, 0, 0, 0, 0, 0), (0, 0, 0, 0, 0, 2), (31, 0, 0, 0, 0, 0), (4, 0, 0, 0, 266, 858993459), (26, 0, 0, 0, 0, 0), (23, 0, 0, 0, 0, 0), (8, 0, 0, 0, 0, 0), (5, 0, 0, 0, 0, 0), (5, 0, 0, 0, 0, 0), (0, 0, 0, 0, 0, 4), (31, 0, 0, 0, 0, 0), (23, 0, 0, 0, 0, 0), (4, 0, 0, 0, 267, 252645135), (26, 0, 0, 0, 0, 0), (8, 0, 0, 0, 0, 0), (5, 0, 0, 0, 0, 0), (5, 0, 0, 0, 0, 0), (1, 0, 0, 0, 0, 8), (31, 0, 0, 0, 0, 0), (23, 0, 0, 0, 0, 0), (8, 0, 0, 0, 0, 0), (5, 0, 0, 0, 0, 0), (5, 0, 0, 0, 0, 0), (1, 0, 0, 0, 0, 16), (31, 0, 0, 0, 0, 0), (23, 0, 0, 0, 0, 0), (8, 0, 0, 0, 0, 0), (5, 0, 0, 0, 0, 0), (1, 0, 0, 0, 0, 63), (26, 0, 0, 0, 0, 0), (61, 0, 0, 0, 0, 0)]
def ko_284 : List Nat := [0, 1, 2, 3, 4, 7, 8, 9, 10, 11, 14, 15, 16, 17, 18, 21, 22, 23, 24, 25, 26, 27, 28, 29, 32, 33, 34, 35, 36, 38, 39, 40, 41, 42, 43, 45, 46, 47, 48, 49, 51, 52, 53]
def kc_285 : List RI := [(5, 0, 0, 0, 0, 0), (53, 3, 5, 0, 0, 0), (5, 0, 0, 0, 0, 0), (34, 0, 0, 0, 0, 0), (57, 0, 6, 0, 0, 0), (5, 0, 0, 0, 0, 0), (61, 0, 0, 0, 0, 0)]
def ko_285 : List Nat := [0, 1, 4, 5, 6, 9, 10, 11]
def kc_286 : List RI := [(5, 0, 0, 0, 0, 0), (5, 1, 0, 0, 0, 0), (54, 2, 5, 0, 0, 0), (5, 0, 0, 0, 0, 0), (57, 0, 6, 0, 0, 0), (5, 1, 0, 0, 0, 0), (61, 0, 0, 0, 0, 0)]
def ko_286 : List Nat := [0, 1, 2, 5, 6, 9, 10, 11]
def kc_287 : List RI := [(6, 0, 0, 0, 0, 0), (6, 2, 0, 0, 0, 0), (45, 0, 0, 0, 0, 0), (53, 2, 6, 0, 0, 0), (6, 0, 0, 0, 0, 0), (57, 0, 7, 0, 0, 0), (6, 2, 0, 0, 0, 0), (63, 0, 0, 0, 0, 0)]
def ko_287 : List Nat := [0, 1, 2, 3, 6, 7, 10, 11, 12]
def kc_288 : List RI := [(5, 0, 0, 0, 0, 0), (5, 1, 0, 0, 0, 0), (54, 4, 5, 0, 0, 0), (5, 0, 0, 0, 0, 0), (57, 0, 6, 0, 0, 0), (5, 1, 0, 0, 0, 0), (61, 0, 0, 0, 0, 0)]
def ko_288 : List Nat := [0, 1, 2, 5, 6, 9, 10, 11]
def kc_289 : List RI := [(6, 0, 0, 0, 0, 0), (6, 2, 0, 0, 0, 0), (45, 0, 0, 0, 0, 0), (53, 4, 6, 0, 0, 0), (6, 0, 0, 0, 0, 0), (57, 0, 7, 0, 0, 0), (6, 2, 0, 0, 0, 0), (63, 0, 0, 0, 0, 0)]
def ko_289 : List Nat := [0, 1, 2, 3, 6, 7, 10, 11, 12]
def kc_290 : List RI := [(7, 0, 0, 0, 0, 0), (12, 50, 0, 2, 9, 0), (22, 0, 0, 0, 0, 0), (7, 0, 0, 0, 0, 0), (67, 294, 1, 1, 335, 0), (30, 0, 0, 0, 0, 0), (61, 0, 0, 0, 0, 0)]
def ko_290 : List Nat := [0, 1, 4, 5, 6, 9, 10, 11]
def kc_291 : List RI := [(7, 0, 0, 0, 0, 0), (67, 295, 1, 1, 492, 0), (53, 0, 8, 0, 0, 0), (7, 0, 0, 0, 0, 0), (12, 50, 0, 2, 9, 0), (5, 1, 0, 0, 0, 0), (67, 297, 2, 1, 495, 1), (65, 0, 0, 0, 0, 0), (7, 0, 0, 0, 0, 0), (12, 50, 0, 2, 9, 0), (5, 1, 0, 0, 0, 0), (99, 3, 0, 0, 0, 0), (65, 0, 0, 0, 0, 0)]
def ko_291 : List Nat := [0, 1, 4, 7, 8, 11, 12, 15, 16, 17, 20, 21, 24, 25]
def kc_292 : List RI := [(7, 0, 0, 0, 0, 0), (5, 1, 0, 0, 0, 0), (0, 0, 0, 0, 0, 0), (67, 293, 3, 1, 633, 0), (61, 0, 0, 0, 0, 0)]
def ko_292 : List Nat := [0, 1, 2, 3, 6, 7]
def kc_293 : List RI := [(7, 0, 0, 0, 0, 0), (67, 295, 1, 1, 492, 0), (53, 0, 11, 0, 0, 0), (7, 0, 0, 0, 0, 0), (12, 50, 0, 2, 9, 0), (5, 1, 0, 0, 0, 0), (5, 2, 0, 0, 0, 0), (7, 0, 0, 0, 0, 0), (67, 290, 1, 1, 505, 0), (67, 299, 4, 1, 637, 1), (57, 0, 18, 0, 0, 0), (7, 0, 0, 0, 0, 0), (12, 50, 0, 2, 9, 0), (5, 1, 0, 0, 0, 0), (5, 2, 0, 0, 0, 0), (7, 0, 0, 0, 0, 0), (67, 290, 1, 1, 505, 0), (99, 3, 0, 0, 0, 0), (61, 0, 0, 0, 0, 0)]
def ko_293 : List Nat := [0, 1, 4, 7, 8, 11, 12, 13, 14, 17, 20, 23, 24, 27, 28, 29, 30, 33, 36, 37]
def kc_294 : List RI := [(71, 0, 0, 0, 38, 1), (53, 0, 5, 0, 0, 0), (7, 0, 0, 0, 0, 0), (12, 50, 1, 0, 15, 0), (57, 0, 6, 0, 0, 0), (0, 0, 0, 0, 0, 1), (66, 0, 0, 0, 0, 0)]
def ko_294 : List Nat := [0, 3, 6, 7, 10, 13, 14, 15]
def kc_295 : List RI := [(71, 0, 0, 0, 38, 1), (53, 0, 7, 0, 0, 0), (7, 0, 0, 0, 0, 0), (12, 50, 1, 0, 15, 0), (53, 1, 7, 0, 0, 0), (0, 0, 0, 0, 0, 1), (57, 0, 8, 0, 0, 0), (0, 0, 0, 0, 0, 0), (62, 0, 0, 0, 0, 0)]
def ko_295 : List Nat := [0, 3, 6, 7, 10, 13, 14, 17, 18, 19]
def kc_296 : List RI := [(5, 0, 0, 0, 0, 0), (5, 1, 0, 0, 0, 0), (71, 0, 0, 2, 1053, 0), (67, 301, 3, 1, 1059, 1), (52, 0, 0, 0, 0, 0), (60, 0, 0, 0, 0, 0)]
def ko_296 : List Nat := [0, 1, 2, 5, 8, 9, 10]
def kc_297 : List RI := [(5, 1, 0, 0, 0, 0), (7, 0, 0, 0, 0, 0), (22, 0, 0, 0, 0, 0), (67, 296, 2, 0, 9, 1), (7, 0, 0, 0, 0, 0), (5, 1, 0, 0, 0, 0), (16, 0, 0, 0, 0, 0), (2, 0, 0, 0, 0, 255), (26, 0, 0, 0, 0, 0), (49, 0, 0, 0, 0, 0), (65, 0, 0, 0, 0, 0)]
def ko_297 : List Nat := [0, 1, 2, 3, 6, 7, 8, 9, 12, 13, 14, 15]
def kc_298 : List RI := [(5, 0, 0, 0, 0, 0), (53, 2, 7, 0, 0, 0), (5, 0, 0, 0, 0, 0), (2, 0, 0, 0, 0, 255), (54, 4, 7, 0, 0, 0), (0, 0, 0, 0, 0, 1), (57, 0, 8, 0, 0, 0), (0, 0, 0, 0, 0, 0), (62, 0, 0, 0, 0, 0)]
def ko_298 : List Nat := [0, 1, 4, 5, 8, 11, 12, 15, 16, 17]
def kc_299 : List RI := [(5, 1, 0, 0, 0, 0), (67, 298, 1, 1, 88, 1), (53, 1, 5, 0, 0, 0), (0, 0, 0, 0, 0, -1), (61, 0, 0, 0, 0, 0), (5, 2, 0, 0, 0, 0), (0, 0, 0, 0, 0, 0), (67, 286, 2, 1, 92, 1), (8, 2, 0, 0, 0, 0), (5, 3, 0, 0, 0, 0), (7, 0, 0, 0, 0, 0), (22, 0, 0, 0, 0, 0), (67, 288, 2, 1, 38, 1), (8, 3, 0, 0, 0, 0), (5, 2, 0, 0, 0, 0), (5, 3, 0, 0, 0, 0), (54, 2, 19, 0, 0, 0), (0, 0, 0, 0, 0, -1), (61, 0, 0, 0, 0, 0), (7, 0, 0, 0, 0, 0), (5, 1, 0, 0, 0, 0), (5, 2, 0, 0, 0, 0), (5, 3, 0, 0, 0, 0), (67, 300, 4, 1, 95, 1), (61, 0, 0, 0, 0, 0)]
def ko_299 : List Nat := [0, 1, 4, 7, 8, 9, 10, 11, 14, 15, 16, 17, 18, 21, 22, 23, 24, 27, 28, 29, 30, 31, 32, 33, 36, 37]
def kc_300 : List RI := [(5, 1, 0, 0, 0, 0), (76, 0, 0, 0, 0, 0), (8, 4, 1, 0, 0, 0), (5, 2, 0, 0, 0, 0), (8, 5, 1, 0, 0, 0), (5, 5, 1, 0, 0, 0), (5, 3, 0, 0, 0, 0), (54, 3, 17, 0, 0, 0), (7, 0, 0, 0, 0, 0), (5, 5, 1, 0, 0, 0), (16, 0, 0, 0, 0, 0), (5, 4, 1, 0, 0, 0), (54, 1, 15, 0, 0, 0), (5, 5, 1, 0, 0, 0), (61, 0, 0, 0, 0, 0), (11, 5, 0, 0, 0, 1), (57, 0, 5, 0, 0, 0), (0, 0, 0, 0, 0, -1), (61, 0, 0, 0, 0, 0)]
def ko_300 : List Nat := [0, 1, 2, 4, 5, 7, 9, 10, 13, 14, 16, 17, 19, 22, 24, 25, 28, 31, 32, 33]
def kc_301 : List RI := [(5, 0, 0, 0, 0, 0), (53, 2, 5, 0, 0, 0), (5, 0, 0, 0, 0, 0), (5, 1, 0, 0, 0, 0), (54, 2, 10, 0, 0, 0), (7, 2, 0, 0, 0, 0), (5, 0, 0, 0, 0, 0), (5, 1, 0, 0, 0, 0), (99, 3, 0, 0, 0, 0), (99, 1, 0, 0, 0, 0), (5, 0, 0, 0, 0, 0), (61, 0, 0, 0, 0, 0)]
def ko_301 : List Nat := [0, 1, 4, 5, 6, 9, 10, 11, 12, 15, 16, 17, 18]
def kc_302_0 : List RI := [(68, 11, 7, 0, 7, 0), (50, 0, 0, 0, 0, 0), (67, 116, 1, 0, 9, 2), (10, 1, 0, 0, 0, 0), (68, 12, 44, 0, 10, 0), (50, 0, 0, 0, 0, 0), (67, 170, 1, 0, 12, 2), (10, 2, 0, 0, 0, 0), (0, 0, 0, 0, 0, 0), (8, 3, 0, 0, 0, 0), (5, 3, 0, 0, 0, 0), (7, 0, 0, 0, 0, 0), (22, 0, 0, 0, 0, 0), (1, 0, 0, 0, 0, 6), (24, 0, 0, 0, 0, 0), (54, 4, 1056, 0, 0, 0), (7, 0, 0, 0, 0, 0), (5, 3, 0, 0, 0, 0), (14, 0, 0, 0, 0, 0), (1, 0, 0, 0, 0, 63), (26, 0, 0, 0, 0, 0), (58, 16, 0, 147, 0, 0), (7, 1, 0, 0, 0, 0), (7, 0, 0, 0, 0, 0), (5, 3, 0, 0, 0, 0), (0, 0, 0, 0, 0, 1), (23, 0, 0, 0, 0, 0), (14, 0, 0, 0, 0, 0), (67, 117, 2, 1, 13, 0), (7, 2, 0, 0, 0, 0), (7, 0, 0, 0, 0, 0), (5, 3, 0, 0, 0, 0), (0, 0, 0, 0, 0, 1), (23, 0, 0, 0, 0, 0), (14, 0, 0, 0, 0, 0), (67, 175, 2, 1, 17, 0), (54, 0, 1054, 0, 0, 0), (0, 0, 0, 0, 0, 0), (62, 0, 0, 0, 0, 0), (7, 1, 0, 0, 0, 0), (7, 0, 0, 0, 0, 0), (5, 3, 0, 0, 0, 0), (0, 0, 0, 0, 0, 1), (23, 0, 0, 0, 0, 0), (14, 0, 0, 0, 0, 0), (7, 0, 0, 0, 0, 0), (5, 3, 0, 0, 0, 0), (0, 0, 0, 0, 0, 2), (23, 0, 0, 0, 0, 0), (14, 0, 0, 0, 0, 0), (7, 0, 0, 0, 0, 0), (5, 3, 0, 0, 0, 0), (0, 0, 0, 0, 0, 3), (23, 0, 0, 0, 0, 0), (14, 0, 0, 0, 0, 0), (67, 118, 4, 1, 18, 0), (7, 2, 0, 0, 0, 0), (7, 0, 0, 0, 0, 0), (5, 3, 0, 0, 0, 0), (0, 0, 0, 0, 0, 1), (23, 0, 0, 0, 0, 0), (14, 0, 0, 0, 0, 0), (7, 0, 0, 0, 0, 0), (5, 3, 0, 0, 0, 0), (0, 0, 0, 0, 0, 2), (23, 0, 0, 0, 0, 0), (14, 0, 0, 0, 0, 0), (7, 0, 0, 0, 0, 0), (5, 3, 0, 0, 0, 0), (0, 0, 0, 0, 0, 3), (23, 0, 0, 0, 0, 0), (14, 0, 0, 0, 0, 0), (67, 179, 4, 1, 22, 0), (54, 0, 1054, 0, 0, 0), (0, 0, 0, 0, 0, 0), (62, 0, 0, 0, 0, 0), (7, 1, 0, 0, 0, 0), (7, 0, 0, 0, 0, 0), (5, 3, 0, 0, 0, 0), (0, 0, 0, 0, 0, 1), (23, 0, 0, 0, 0, 0), (14, 0, 0, 0, 0, 0), (7, 0, 0, 0, 0, 0), (5, 3, 0, 0, 0, 0), (0, 0, 0, 0, 0, 2), (23, 0, 0, 0, 0, 0), (14, 0, 0, 0, 0, 0), (67, 119, 3, 1, 23, 0), (7, 2, 0, 0, 0, 0), (7, 0, 0, 0, 0, 0), (5, 3, 0, 0, 0, 0), (0, 0, 0, 0, 0, 1), (23, 0, 0, 0, 0, 0), (14, 0, 0, 0, 0, 0), (7, 0, 0, 0, 0, 0), (5, 3, 0, 0, 0, 0), (0, 0, 0, 0, 0, 2), (23, 0, 0, 0, 0, 0), (14, 0, 0, 0, 0, 0), (67, 184, 3, 1, 27, 0), (54, 0, 1054, 0, 0, 0), (0, 0, 0, 0, 0, 0), (62, 0, 0, 0, 0, 0), (7, 1, 0, 0, 0, 0), (7, 0, 0, 0, 0, 0), (5, 3, 0, 0, 0, 0), (0, 0, 0, 0, 0, 1), (23, 0, 0, 0, 0, 0), (14, 0, 0, 0, 0, 0), (7, 0, 0, 0, 0, 0), (5, 3, 0, 0, 0, 0), (0, 0, 0, 0, 0, 2), (23, 0, 0, 0, 0, 0), (14, 0, 0, 0, 0, 0), (7, 0, 0, 0, 0, 0), (5, 3, 0, 0, 0, 0), (0, 0, 0, 0, 0, 3), (23, 0, 0, 0, 0, 0), (14, 0, 0, 0, 0, 0), (67, 120, 4, 1, 28, 0), (7, 2, 0, 0, 0, 0), (7, 0, 0, 0, 0, 0), (5, 3, 0, 0, 0, 0), (0, 0, 0, 0, 0, 1), (23, 0, 0, 0, 0, 0), (14, 0, 0, 0, 0, 0), (7, 0, 0, 0, 0, 0), (5, 3, 0, 0, 0, 0), (0, 0, 0, 0, 0, 2), (23, 0, 0, 0, 0, 0), (14, 0, 0, 0, 0, 0), (7, 0, 0, 0, 0, 0), (5, 3, 0, 0, 0, 0), (0, 0, 0, 0, 0, 3), (23, 0, 0, 0, 0, 0), (14, 0, 0, 0, 0, 0), (67, 186, 4, 1, 31, 0), (54, 0, 1054, 0, 0, 0), (0, 0, 0, 0, 0, 0), (62, 0, 0, 0, 0, 0), (7, 1, 0, 0, 0, 0), (7, 0, 0, 0, 0, 0), (5, 3, 0, 0, 0, 0), (0, 0, 0, 0, 0, 1), (23, 0, 0, 0, 0, 0), (14, 0, 0, 0, 0, 0), (67, 121, 2, 1, 32, 0), (7, 2, 0, 0, 0, 0), (7, 0, 0, 0, 0, 0), (5, 3, 0, 0, 0, 0)]
def kc_302_1 : List RI := [(0, 0, 0, 0, 0, 1), (23, 0, 0, 0, 0, 0), (14, 0, 0, 0, 0, 0), (67, 189, 2, 1, 35, 0), (54, 0, 1054, 0, 0, 0), (0, 0, 0, 0, 0, 0), (62, 0, 0, 0, 0, 0), (7, 1, 0, 0, 0, 0), (7, 0, 0, 0, 0, 0), (5, 3, 0, 0, 0, 0), (0, 0, 0, 0, 0, 1), (23, 0, 0, 0, 0, 0), (14, 0, 0, 0, 0, 0), (7, 0, 0, 0, 0, 0), (5, 3, 0, 0, 0, 0), (0, 0, 0, 0, 0, 2), (23, 0, 0, 0, 0, 0), (14, 0, 0, 0, 0, 0), (7, 0, 0, 0, 0, 0), (5, 3, 0, 0, 0, 0), (0, 0, 0, 0, 0, 3), (23, 0, 0, 0, 0, 0), (14, 0, 0, 0, 0, 0), (67, 122, 4, 1, 36, 0), (7, 2, 0, 0, 0, 0), (7, 0, 0, 0, 0, 0), (5, 3, 0, 0, 0, 0), (0, 0, 0, 0, 0, 1), (23, 0, 0, 0, 0, 0), (14, 0, 0, 0, 0, 0), (7, 0, 0, 0, 0, 0), (5, 3, 0, 0, 0, 0), (0, 0, 0, 0, 0, 2), (23, 0, 0, 0, 0, 0), (14, 0, 0, 0, 0, 0), (7, 0, 0, 0, 0, 0), (5, 3, 0, 0, 0, 0), (0, 0, 0, 0, 0, 3), (23, 0, 0, 0, 0, 0), (14, 0, 0, 0, 0, 0), (67, 191, 4, 1, 39, 0), (54, 0, 1054, 0, 0, 0), (0, 0, 0, 0, 0, 0), (62, 0, 0, 0, 0, 0), (7, 1, 0, 0, 0, 0), (7, 0, 0, 0, 0, 0), (5, 3, 0, 0, 0, 0), (0, 0, 0, 0, 0, 1), (23, 0, 0, 0, 0, 0), (14, 0, 0, 0, 0, 0), (7, 0, 0, 0, 0, 0), (5, 3, 0, 0, 0, 0), (0, 0, 0, 0, 0, 2), (23, 0, 0, 0, 0, 0), (14, 0, 0, 0, 0, 0), (7, 0, 0, 0, 0, 0), (5, 3, 0, 0, 0, 0), (0, 0, 0, 0, 0, 3), (23, 0, 0, 0, 0, 0), (14, 0, 0, 0, 0, 0), (7, 0, 0, 0, 0, 0), (5, 3, 0, 0, 0, 0), (0, 0, 0, 0, 0, 4), (23, 0, 0, 0, 0, 0), (14, 0, 0, 0, 0, 0), (7, 0, 0, 0, 0, 0), (5, 3, 0, 0, 0, 0), (0, 0, 0, 0, 0, 5), (23, 0, 0, 0, 0, 0), (14, 0, 0, 0, 0, 0), (67, 123, 6, 1, 40, 0), (7, 2, 0, 0, 0, 0), (7, 0, 0, 0, 0, 0), (5, 3, 0, 0, 0, 0), (0, 0, 0, 0, 0, 1), (23, 0, 0, 0, 0, 0), (14, 0, 0, 0, 0, 0), (7, 0, 0, 0, 0, 0), (5, 3, 0, 0, 0, 0), (0, 0, 0, 0, 0, 2), (23, 0, 0, 0, 0, 0), (14, 0, 0, 0, 0, 0), (7, 0, 0, 0, 0, 0), (5, 3, 0, 0, 0, 0), (0, 0, 0, 0, 0, 3), (23, 0, 0, 0, 0, 0), (14, 0, 0, 0, 0, 0), (7, 0, 0, 0, 0, 0), (5, 3, 0, 0, 0, 0), (0, 0, 0, 0, 0, 4), (23, 0, 0, 0, 0, 0), (14, 0, 0, 0, 0, 0), (7, 0, 0, 0, 0, 0), (5, 3, 0, 0, 0, 0), (0, 0, 0, 0, 0, 5), (23, 0, 0, 0, 0, 0), (14, 0, 0, 0, 0, 0), (67, 193, 6, 1, 44, 0), (54, 0, 1054, 0, 0, 0), (0, 0, 0, 0, 0, 0), (62, 0, 0, 0, 0, 0), (7, 1, 0, 0, 0, 0), (7, 0, 0, 0, 0, 0), (5, 3, 0, 0, 0, 0), (0, 0, 0, 0, 0, 1), (23, 0, 0, 0, 0, 0), (14, 0, 0, 0, 0, 0), (67, 124, 2, 1, 45, 0), (7, 2, 0, 0, 0, 0), (7, 0, 0, 0, 0, 0), (5, 3, 0, 0, 0, 0), (0, 0, 0, 0, 0, 1), (23, 0, 0, 0, 0, 0), (14, 0, 0, 0, 0, 0), (67, 194, 2, 1, 48, 0), (54, 0, 1054, 0, 0, 0), (0, 0, 0, 0, 0, 0), (62, 0, 0, 0, 0, 0), (7, 1, 0, 0, 0, 0), (67, 125, 1, 1, 49, 0), (7, 2, 0, 0, 0, 0), (67, 219, 1, 1, 53, 0), (54, 0, 1054, 0, 0, 0), (0, 0, 0, 0, 0, 0), (62, 0, 0, 0, 0, 0), (7, 1, 0, 0, 0, 0), (7, 0, 0, 0, 0, 0), (5, 3, 0, 0, 0, 0), (0, 0, 0, 0, 0, 1), (23, 0, 0, 0, 0, 0), (14, 0, 0, 0, 0, 0), (67, 126, 2, 1, 54, 0), (7, 2, 0, 0, 0, 0), (7, 0, 0, 0, 0, 0), (5, 3, 0, 0, 0, 0), (0, 0, 0, 0, 0, 1), (23, 0, 0, 0, 0, 0), (14, 0, 0, 0, 0, 0), (67, 220, 2, 1, 57, 0), (54, 0, 1054, 0, 0, 0), (0, 0, 0, 0, 0, 0), (62, 0, 0, 0, 0, 0), (7, 1, 0, 0, 0, 0), (7, 0, 0, 0, 0, 0), (5, 3, 0, 0, 0, 0), (0, 0, 0, 0, 0, 1), (23, 0, 0, 0, 0, 0), (14, 0, 0, 0, 0, 0), (7, 0, 0, 0, 0, 0), (5, 3, 0, 0, 0, 0)]
def kc_302_2 : List RI := [(0, 0, 0, 0, 0, 2), (23, 0, 0, 0, 0, 0), (14, 0, 0, 0, 0, 0), (7, 0, 0, 0, 0, 0), (5, 3, 0, 0, 0, 0), (0, 0, 0, 0, 0, 3), (23, 0, 0, 0, 0, 0), (14, 0, 0, 0, 0, 0), (7, 0, 0, 0, 0, 0), (5, 3, 0, 0, 0, 0), (0, 0, 0, 0, 0, 4), (23, 0, 0, 0, 0, 0), (14, 0, 0, 0, 0, 0), (7, 0, 0, 0, 0, 0), (5, 3, 0, 0, 0, 0), (0, 0, 0, 0, 0, 5), (23, 0, 0, 0, 0, 0), (14, 0, 0, 0, 0, 0), (67, 127, 6, 1, 58, 0), (7, 2, 0, 0, 0, 0), (7, 0, 0, 0, 0, 0), (5, 3, 0, 0, 0, 0), (0, 0, 0, 0, 0, 1), (23, 0, 0, 0, 0, 0), (14, 0, 0, 0, 0, 0), (7, 0, 0, 0, 0, 0), (5, 3, 0, 0, 0, 0), (0, 0, 0, 0, 0, 2), (23, 0, 0, 0, 0, 0), (14, 0, 0, 0, 0, 0), (7, 0, 0, 0, 0, 0), (5, 3, 0, 0, 0, 0), (0, 0, 0, 0, 0, 3), (23, 0, 0, 0, 0, 0), (14, 0, 0, 0, 0, 0), (7, 0, 0, 0, 0, 0), (5, 3, 0, 0, 0, 0), (0, 0, 0, 0, 0, 4), (23, 0, 0, 0, 0, 0), (14, 0, 0, 0, 0, 0), (7, 0, 0, 0, 0, 0), (5, 3, 0, 0, 0, 0), (0, 0, 0, 0, 0, 5), (23, 0, 0, 0, 0, 0), (14, 0, 0, 0, 0, 0), (67, 233, 6, 1, 61, 0), (54, 0, 1054, 0, 0, 0), (0, 0, 0, 0, 0, 0), (62, 0, 0, 0, 0, 0), (7, 1, 0, 0, 0, 0), (7, 0, 0, 0, 0, 0), (5, 3, 0, 0, 0, 0), (0, 0, 0, 0, 0, 1), (23, 0, 0, 0, 0, 0), (14, 0, 0, 0, 0, 0), (7, 0, 0, 0, 0, 0), (5, 3, 0, 0, 0, 0), (0, 0, 0, 0, 0, 2), (23, 0, 0, 0, 0, 0), (14, 0, 0, 0, 0, 0), (7, 0, 0, 0, 0, 0), (5, 3, 0, 0, 0, 0), (0, 0, 0, 0, 0, 3), (23, 0, 0, 0, 0, 0), (14, 0, 0, 0, 0, 0), (67, 128, 4, 1, 62, 0), (7, 2, 0, 0, 0, 0), (7, 0, 0, 0, 0, 0), (5, 3, 0, 0, 0, 0), (0, 0, 0, 0, 0, 1), (23, 0, 0, 0, 0, 0), (14, 0, 0, 0, 0, 0), (7, 0, 0, 0, 0, 0), (5, 3, 0, 0, 0, 0), (0, 0, 0, 0, 0, 2), (23, 0, 0, 0, 0, 0), (14, 0, 0, 0, 0, 0), (7, 0, 0, 0, 0, 0), (5, 3, 0, 0, 0, 0), (0, 0, 0, 0, 0, 3), (23, 0, 0, 0, 0, 0), (14, 0, 0, 0, 0, 0), (67, 235, 4, 1, 65, 0), (54, 0, 1054, 0, 0, 0), (0, 0, 0, 0, 0, 0), (62, 0, 0, 0, 0, 0), (7, 1, 0, 0, 0, 0), (7, 0, 0, 0, 0, 0), (5, 3, 0, 0, 0, 0), (0, 0, 0, 0, 0, 1), (23, 0, 0, 0, 0, 0), (14, 0, 0, 0, 0, 0), (7, 0, 0, 0, 0, 0), (5, 3, 0, 0, 0, 0), (0, 0, 0, 0, 0, 2), (23, 0, 0, 0, 0, 0), (14, 0, 0, 0, 0, 0), (7, 0, 0, 0, 0, 0), (5, 3, 0, 0, 0, 0), (0, 0, 0, 0, 0, 3), (23, 0, 0, 0, 0, 0), (14, 0, 0, 0, 0, 0), (67, 129, 4, 1, 66, 0), (7, 2, 0, 0, 0, 0), (7, 0, 0, 0, 0, 0), (5, 3, 0, 0, 0, 0), (0, 0, 0, 0, 0, 1), (23, 0, 0, 0, 0, 0), (14, 0, 0, 0, 0, 0), (7, 0, 0, 0, 0, 0), (5, 3, 0, 0, 0, 0), (0, 0, 0, 0, 0, 2), (23, 0, 0, 0, 0, 0), (14, 0, 0, 0, 0, 0), (7, 0, 0, 0, 0, 0), (5, 3, 0, 0, 0, 0), (0, 0, 0, 0, 0, 3), (23, 0, 0, 0, 0, 0), (14, 0, 0, 0, 0, 0), (67, 237, 4, 1, 69, 0), (54, 0, 1054, 0, 0, 0), (0, 0, 0, 0, 0, 0), (62, 0, 0, 0, 0, 0), (7, 1, 0, 0, 0, 0), (7, 0, 0, 0, 0, 0), (5, 3, 0, 0, 0, 0), (0, 0, 0, 0, 0, 1), (23, 0, 0, 0, 0, 0), (14, 0, 0, 0, 0, 0), (7, 0, 0, 0, 0, 0), (5, 3, 0, 0, 0, 0), (0, 0, 0, 0, 0, 2), (23, 0, 0, 0, 0, 0), (14, 0, 0, 0, 0, 0), (7, 0, 0, 0, 0, 0), (5, 3, 0, 0, 0, 0), (0, 0, 0, 0, 0, 3), (23, 0, 0, 0, 0, 0), (14, 0, 0, 0, 0, 0), (67, 130, 4, 1, 70, 0), (7, 2, 0, 0, 0, 0), (7, 0, 0, 0, 0, 0), (5, 3, 0, 0, 0, 0), (0, 0, 0, 0, 0, 1), (23, 0, 0, 0, 0, 0), (14, 0, 0, 0, 0, 0), (7, 0, 0, 0, 0, 0), (5, 3, 0, 0, 0, 0), (0, 0, 0, 0, 0, 2), (23, 0, 0, 0, 0, 0)]
def kc_302_3 : List RI := [(14, 0, 0, 0, 0, 0), (7, 0, 0, 0, 0, 0), (5, 3, 0, 0, 0, 0), (0, 0, 0, 0, 0, 3), (23, 0, 0, 0, 0, 0), (14, 0, 0, 0, 0, 0), (67, 240, 4, 1, 73, 0), (54, 0, 1054, 0, 0, 0), (0, 0, 0, 0, 0, 0), (62, 0, 0, 0, 0, 0), (7, 1, 0, 0, 0, 0), (7, 0, 0, 0, 0, 0), (5, 3, 0, 0, 0, 0), (0, 0, 0, 0, 0, 1), (23, 0, 0, 0, 0, 0), (14, 0, 0, 0, 0, 0), (7, 0, 0, 0, 0, 0), (5, 3, 0, 0, 0, 0), (0, 0, 0, 0, 0, 2), (23, 0, 0, 0, 0, 0), (14, 0, 0, 0, 0, 0), (7, 0, 0, 0, 0, 0), (5, 3, 0, 0, 0, 0), (0, 0, 0, 0, 0, 3), (23, 0, 0, 0, 0, 0), (14, 0, 0, 0, 0, 0), (7, 0, 0, 0, 0, 0), (5, 3, 0, 0, 0, 0), (0, 0, 0, 0, 0, 4), (23, 0, 0, 0, 0, 0), (14, 0, 0, 0, 0, 0), (67, 131, 5, 1, 74, 0), (7, 2, 0, 0, 0, 0), (7, 0, 0, 0, 0, 0), (5, 3, 0, 0, 0, 0), (0, 0, 0, 0, 0, 1), (23, 0, 0, 0, 0, 0), (14, 0, 0, 0, 0, 0), (7, 0, 0, 0, 0, 0), (5, 3, 0, 0, 0, 0), (0, 0, 0, 0, 0, 2), (23, 0, 0, 0, 0, 0), (14, 0, 0, 0, 0, 0), (7, 0, 0, 0, 0, 0), (5, 3, 0, 0, 0, 0), (0, 0, 0, 0, 0, 3), (23, 0, 0, 0, 0, 0), (14, 0, 0, 0, 0, 0), (7, 0, 0, 0, 0, 0), (5, 3, 0, 0, 0, 0), (0, 0, 0, 0, 0, 4), (23, 0, 0, 0, 0, 0), (14, 0, 0, 0, 0, 0), (67, 246, 5, 1, 78, 0), (54, 0, 1054, 0, 0, 0), (0, 0, 0, 0, 0, 0), (62, 0, 0, 0, 0, 0), (7, 1, 0, 0, 0, 0), (7, 0, 0, 0, 0, 0), (5, 3, 0, 0, 0, 0), (0, 0, 0, 0, 0, 1), (23, 0, 0, 0, 0, 0), (14, 0, 0, 0, 0, 0), (7, 0, 0, 0, 0, 0), (5, 3, 0, 0, 0, 0), (0, 0, 0, 0, 0, 2), (23, 0, 0, 0, 0, 0), (14, 0, 0, 0, 0, 0), (7, 0, 0, 0, 0, 0), (5, 3, 0, 0, 0, 0), (0, 0, 0, 0, 0, 3), (23, 0, 0, 0, 0, 0), (14, 0, 0, 0, 0, 0), (67, 132, 4, 1, 79, 0), (7, 2, 0, 0, 0, 0), (7, 0, 0, 0, 0, 0), (5, 3, 0, 0, 0, 0), (0, 0, 0, 0, 0, 1), (23, 0, 0, 0, 0, 0), (14, 0, 0, 0, 0, 0), (7, 0, 0, 0, 0, 0), (5, 3, 0, 0, 0, 0), (0, 0, 0, 0, 0, 2), (23, 0, 0, 0, 0, 0), (14, 0, 0, 0, 0, 0), (7, 0, 0, 0, 0, 0), (5, 3, 0, 0, 0, 0), (0, 0, 0, 0, 0, 3), (23, 0, 0, 0, 0, 0), (14, 0, 0, 0, 0, 0), (67, 247, 4, 1, 83, 0), (54, 0, 1054, 0, 0, 0), (0, 0, 0, 0, 0, 0), (62, 0, 0, 0, 0, 0), (7, 1, 0, 0, 0, 0), (7, 0, 0, 0, 0, 0), (5, 3, 0, 0, 0, 0), (0, 0, 0, 0, 0, 1), (23, 0, 0, 0, 0, 0), (14, 0, 0, 0, 0, 0), (7, 0, 0, 0, 0, 0), (5, 3, 0, 0, 0, 0), (0, 0, 0, 0, 0, 2), (23, 0, 0, 0, 0, 0), (14, 0, 0, 0, 0, 0), (7, 0, 0, 0, 0, 0), (5, 3, 0, 0, 0, 0), (0, 0, 0, 0, 0, 3), (23, 0, 0, 0, 0, 0), (14, 0, 0, 0, 0, 0), (67, 133, 4, 2, 84, 0), (7, 2, 0, 0, 0, 0), (7, 0, 0, 0, 0, 0), (5, 3, 0, 0, 0, 0), (0, 0, 0, 0, 0, 1), (23, 0, 0, 0, 0, 0), (14, 0, 0, 0, 0, 0), (7, 0, 0, 0, 0, 0), (5, 3, 0, 0, 0, 0), (0, 0, 0, 0, 0, 2), (23, 0, 0, 0, 0, 0), (14, 0, 0, 0, 0, 0), (7, 0, 0, 0, 0, 0), (5, 3, 0, 0, 0, 0), (0, 0, 0, 0, 0, 3), (23, 0, 0, 0, 0, 0), (14, 0, 0, 0, 0, 0), (67, 251, 4, 2, 88, 0), (45, 0, 0, 0, 0, 0), (53, 0, 1054, 0, 0, 0), (0, 0, 0, 0, 0, 0), (62, 0, 0, 0, 0, 0), (7, 1, 0, 0, 0, 0), (7, 0, 0, 0, 0, 0), (5, 3, 0, 0, 0, 0), (0, 0, 0, 0, 0, 1), (23, 0, 0, 0, 0, 0), (14, 0, 0, 0, 0, 0), (7, 0, 0, 0, 0, 0), (5, 3, 0, 0, 0, 0), (0, 0, 0, 0, 0, 2), (23, 0, 0, 0, 0, 0), (14, 0, 0, 0, 0, 0), (7, 0, 0, 0, 0, 0), (5, 3, 0, 0, 0, 0), (0, 0, 0, 0, 0, 3), (23, 0, 0, 0, 0, 0), (14, 0, 0, 0, 0, 0), (67, 134, 4, 1, 89, 0), (7, 2, 0, 0, 0, 0)]
def kc_302_4 : List RI := [(7, 0, 0, 0, 0, 0), (5, 3, 0, 0, 0, 0), (0, 0, 0, 0, 0, 1), (23, 0, 0, 0, 0, 0), (14, 0, 0, 0, 0, 0), (7, 0, 0, 0, 0, 0), (5, 3, 0, 0, 0, 0), (0, 0, 0, 0, 0, 2), (23, 0, 0, 0, 0, 0), (14, 0, 0, 0, 0, 0), (7, 0, 0, 0, 0, 0), (5, 3, 0, 0, 0, 0), (0, 0, 0, 0, 0, 3), (23, 0, 0, 0, 0, 0), (14, 0, 0, 0, 0, 0), (67, 253, 4, 1, 92, 0), (54, 0, 1054, 0, 0, 0), (0, 0, 0, 0, 0, 0), (62, 0, 0, 0, 0, 0), (7, 1, 0, 0, 0, 0), (7, 0, 0, 0, 0, 0), (5, 3, 0, 0, 0, 0), (0, 0, 0, 0, 0, 1), (23, 0, 0, 0, 0, 0), (14, 0, 0, 0, 0, 0), (7, 0, 0, 0, 0, 0), (5, 3, 0, 0, 0, 0), (0, 0, 0, 0, 0, 2), (23, 0, 0, 0, 0, 0), (14, 0, 0, 0, 0, 0), (7, 0, 0, 0, 0, 0), (5, 3, 0, 0, 0, 0), (0, 0, 0, 0, 0, 3), (23, 0, 0, 0, 0, 0), (14, 0, 0, 0, 0, 0), (67, 135, 4, 1, 93, 0), (7, 2, 0, 0, 0, 0), (7, 0, 0, 0, 0, 0), (5, 3, 0, 0, 0, 0), (0, 0, 0, 0, 0, 1), (23, 0, 0, 0, 0, 0), (14, 0, 0, 0, 0, 0), (7, 0, 0, 0, 0, 0), (5, 3, 0, 0, 0, 0), (0, 0, 0, 0, 0, 2), (23, 0, 0, 0, 0, 0), (14, 0, 0, 0, 0, 0), (7, 0, 0, 0, 0, 0), (5, 3, 0, 0, 0, 0), (0, 0, 0, 0, 0, 3), (23, 0, 0, 0, 0, 0), (14, 0, 0, 0, 0, 0), (67, 254, 4, 1, 96, 0), (54, 0, 1054, 0, 0, 0), (0, 0, 0, 0, 0, 0), (62, 0, 0, 0, 0, 0), (7, 1, 0, 0, 0, 0), (7, 0, 0, 0, 0, 0), (5, 3, 0, 0, 0, 0), (0, 0, 0, 0, 0, 1), (23, 0, 0, 0, 0, 0), (14, 0, 0, 0, 0, 0), (67, 136, 2, 1, 97, 0), (7, 2, 0, 0, 0, 0), (7, 0, 0, 0, 0, 0), (5, 3, 0, 0, 0, 0), (0, 0, 0, 0, 0, 1), (23, 0, 0, 0, 0, 0), (14, 0, 0, 0, 0, 0), (67, 256, 2, 1, 100, 0), (54, 0, 1054, 0, 0, 0), (0, 0, 0, 0, 0, 0), (62, 0, 0, 0, 0, 0), (7, 1, 0, 0, 0, 0), (7, 0, 0, 0, 0, 0), (5, 3, 0, 0, 0, 0), (0, 0, 0, 0, 0, 1), (23, 0, 0, 0, 0, 0), (14, 0, 0, 0, 0, 0), (67, 137, 2, 1, 101, 0), (7, 2, 0, 0, 0, 0), (7, 0, 0, 0, 0, 0), (5, 3, 0, 0, 0, 0), (0, 0, 0, 0, 0, 1), (23, 0, 0, 0, 0, 0), (14, 0, 0, 0, 0, 0), (67, 258, 2, 1, 104, 0), (54, 0, 1054, 0, 0, 0), (0, 0, 0, 0, 0, 0), (62, 0, 0, 0, 0, 0), (7, 1, 0, 0, 0, 0), (7, 0, 0, 0, 0, 0), (5, 3, 0, 0, 0, 0), (0, 0, 0, 0, 0, 1), (23, 0, 0, 0, 0, 0), (14, 0, 0, 0, 0, 0), (7, 0, 0, 0, 0, 0), (5, 3, 0, 0, 0, 0), (0, 0, 0, 0, 0, 2), (23, 0, 0, 0, 0, 0), (14, 0, 0, 0, 0, 0), (7, 0, 0, 0, 0, 0), (5, 3, 0, 0, 0, 0), (0, 0, 0, 0, 0, 3), (23, 0, 0, 0, 0, 0), (14, 0, 0, 0, 0, 0), (7, 0, 0, 0, 0, 0), (5, 3, 0, 0, 0, 0), (0, 0, 0, 0, 0, 4), (23, 0, 0, 0, 0, 0), (14, 0, 0, 0, 0, 0), (7, 0, 0, 0, 0, 0), (5, 3, 0, 0, 0, 0), (0, 0, 0, 0, 0, 5), (23, 0, 0, 0, 0, 0), (14, 0, 0, 0, 0, 0), (67, 138, 6, 1, 105, 0), (7, 2, 0, 0, 0, 0), (7, 0, 0, 0, 0, 0), (5, 3, 0, 0, 0, 0), (0, 0, 0, 0, 0, 1), (23, 0, 0, 0, 0, 0), (14, 0, 0, 0, 0, 0), (7, 0, 0, 0, 0, 0), (5, 3, 0, 0, 0, 0), (0, 0, 0, 0, 0, 2), (23, 0, 0, 0, 0, 0), (14, 0, 0, 0, 0, 0), (7, 0, 0, 0, 0, 0), (5, 3, 0, 0, 0, 0), (0, 0, 0, 0, 0, 3), (23, 0, 0, 0, 0, 0), (14, 0, 0, 0, 0, 0), (7, 0, 0, 0, 0, 0), (5, 3, 0, 0, 0, 0), (0, 0, 0, 0, 0, 4), (23, 0, 0, 0, 0, 0), (14, 0, 0, 0, 0, 0), (7, 0, 0, 0, 0, 0), (5, 3, 0, 0, 0, 0), (0, 0, 0, 0, 0, 5), (23, 0, 0, 0, 0, 0), (14, 0, 0, 0, 0, 0), (67, 259, 6, 1, 109, 0), (54, 0, 1054, 0, 0, 0), (0, 0, 0, 0, 0, 0), (62, 0, 0, 0, 0, 0), (7, 1, 0, 0, 0, 0), (7, 0, 0, 0, 0, 0), (5, 3, 0, 0, 0, 0)]
def kc_302_5 : List RI := [(0, 0, 0, 0, 0, 1), (23, 0, 0, 0, 0, 0), (14, 0, 0, 0, 0, 0), (7, 0, 0, 0, 0, 0), (5, 3, 0, 0, 0, 0), (0, 0, 0, 0, 0, 2), (23, 0, 0, 0, 0, 0), (14, 0, 0, 0, 0, 0), (67, 139, 3, 1, 110, 0), (7, 2, 0, 0, 0, 0), (7, 0, 0, 0, 0, 0), (5, 3, 0, 0, 0, 0), (0, 0, 0, 0, 0, 1), (23, 0, 0, 0, 0, 0), (14, 0, 0, 0, 0, 0), (7, 0, 0, 0, 0, 0), (5, 3, 0, 0, 0, 0), (0, 0, 0, 0, 0, 2), (23, 0, 0, 0, 0, 0), (14, 0, 0, 0, 0, 0), (67, 261, 3, 1, 113, 0), (54, 0, 1054, 0, 0, 0), (0, 0, 0, 0, 0, 0), (62, 0, 0, 0, 0, 0), (7, 1, 0, 0, 0, 0), (7, 0, 0, 0, 0, 0), (5, 3, 0, 0, 0, 0), (0, 0, 0, 0, 0, 1), (23, 0, 0, 0, 0, 0), (14, 0, 0, 0, 0, 0), (67, 140, 2, 1, 114, 0), (7, 2, 0, 0, 0, 0), (7, 0, 0, 0, 0, 0), (5, 3, 0, 0, 0, 0), (0, 0, 0, 0, 0, 1), (23, 0, 0, 0, 0, 0), (14, 0, 0, 0, 0, 0), (67, 265, 2, 1, 117, 0), (54, 0, 1054, 0, 0, 0), (0, 0, 0, 0, 0, 0), (62, 0, 0, 0, 0, 0), (7, 1, 0, 0, 0, 0), (7, 0, 0, 0, 0, 0), (5, 3, 0, 0, 0, 0), (0, 0, 0, 0, 0, 1), (23, 0, 0, 0, 0, 0), (14, 0, 0, 0, 0, 0), (7, 0, 0, 0, 0, 0), (5, 3, 0, 0, 0, 0), (0, 0, 0, 0, 0, 2), (23, 0, 0, 0, 0, 0), (14, 0, 0, 0, 0, 0), (7, 0, 0, 0, 0, 0), (5, 3, 0, 0, 0, 0), (0, 0, 0, 0, 0, 3), (23, 0, 0, 0, 0, 0), (14, 0, 0, 0, 0, 0), (7, 0, 0, 0, 0, 0), (5, 3, 0, 0, 0, 0), (0, 0, 0, 0, 0, 4), (23, 0, 0, 0, 0, 0), (14, 0, 0, 0, 0, 0), (7, 0, 0, 0, 0, 0), (5, 3, 0, 0, 0, 0), (0, 0, 0, 0, 0, 5), (23, 0, 0, 0, 0, 0), (14, 0, 0, 0, 0, 0), (67, 141, 6, 1, 118, 0), (7, 2, 0, 0, 0, 0), (7, 0, 0, 0, 0, 0), (5, 3, 0, 0, 0, 0), (0, 0, 0, 0, 0, 1), (23, 0, 0, 0, 0, 0), (14, 0, 0, 0, 0, 0), (7, 0, 0, 0, 0, 0), (5, 3, 0, 0, 0, 0), (0, 0, 0, 0, 0, 2), (23, 0, 0, 0, 0, 0), (14, 0, 0, 0, 0, 0), (7, 0, 0, 0, 0, 0), (5, 3, 0, 0, 0, 0), (0, 0, 0, 0, 0, 3), (23, 0, 0, 0, 0, 0), (14, 0, 0, 0, 0, 0), (7, 0, 0, 0, 0, 0), (5, 3, 0, 0, 0, 0), (0, 0, 0, 0, 0, 4), (23, 0, 0, 0, 0, 0), (14, 0, 0, 0, 0, 0), (7, 0, 0, 0, 0, 0), (5, 3, 0, 0, 0, 0), (0, 0, 0, 0, 0, 5), (23, 0, 0, 0, 0, 0), (14, 0, 0, 0, 0, 0), (67, 266, 6, 1, 121, 0), (54, 0, 1054, 0, 0, 0), (0, 0, 0, 0, 0, 0), (62, 0, 0, 0, 0, 0), (7, 1, 0, 0, 0, 0), (7, 0, 0, 0, 0, 0), (5, 3, 0, 0, 0, 0), (0, 0, 0, 0, 0, 1), (23, 0, 0, 0, 0, 0), (14, 0, 0, 0, 0, 0), (7, 0, 0, 0, 0, 0), (5, 3, 0, 0, 0, 0), (0, 0, 0, 0, 0, 2), (23, 0, 0, 0, 0, 0), (14, 0, 0, 0, 0, 0), (7, 0, 0, 0, 0, 0), (5, 3, 0, 0, 0, 0), (0, 0, 0, 0, 0, 3), (23, 0, 0, 0, 0, 0), (14, 0, 0, 0, 0, 0), (7, 0, 0, 0, 0, 0), (5, 3, 0, 0, 0, 0), (0, 0, 0, 0, 0, 4), (23, 0, 0, 0, 0, 0), (14, 0, 0, 0, 0, 0), (7, 0, 0, 0, 0, 0), (5, 3, 0, 0, 0, 0), (0, 0, 0, 0, 0, 5), (23, 0, 0, 0, 0, 0), (14, 0, 0, 0, 0, 0), (67, 142, 6, 1, 122, 0), (7, 2, 0, 0, 0, 0), (7, 0, 0, 0, 0, 0), (5, 3, 0, 0, 0, 0), (0, 0, 0, 0, 0, 1), (23, 0, 0, 0, 0, 0), (14, 0, 0, 0, 0, 0), (7, 0, 0, 0, 0, 0), (5, 3, 0, 0, 0, 0), (0, 0, 0, 0, 0, 2), (23, 0, 0, 0, 0, 0), (14, 0, 0, 0, 0, 0), (7, 0, 0, 0, 0, 0), (5, 3, 0, 0, 0, 0), (0, 0, 0, 0, 0, 3), (23, 0, 0, 0, 0, 0), (14, 0, 0, 0, 0, 0), (7, 0, 0, 0, 0, 0), (5, 3, 0, 0, 0, 0), (0, 0, 0, 0, 0, 4), (23, 0, 0, 0, 0, 0), (14, 0, 0, 0, 0, 0), (7, 0, 0, 0, 0, 0), (5, 3, 0, 0, 0, 0), (0, 0, 0, 0, 0, 5), (23, 0, 0, 0, 0, 0)]
def kc_302_6 : List RI := [(14, 0, 0, 0, 0, 0), (67, 267, 6, 1, 125, 0), (54, 0, 1054, 0, 0, 0), (0, 0, 0, 0, 0, 0), (62, 0, 0, 0, 0, 0), (7, 1, 0, 0, 0, 0), (7, 0, 0, 0, 0, 0), (5, 3, 0, 0, 0, 0), (0, 0, 0, 0, 0, 1), (23, 0, 0, 0, 0, 0), (14, 0, 0, 0, 0, 0), (67, 143, 2, 1, 126, 0), (7, 2, 0, 0, 0, 0), (7, 0, 0, 0, 0, 0), (5, 3, 0, 0, 0, 0), (0, 0, 0, 0, 0, 1), (23, 0, 0, 0, 0, 0), (14, 0, 0, 0, 0, 0), (67, 268, 2, 1, 130, 0), (54, 0, 1054, 0, 0, 0), (0, 0, 0, 0, 0, 0), (62, 0, 0, 0, 0, 0), (7, 1, 0, 0, 0, 0), (7, 0, 0, 0, 0, 0), (5, 3, 0, 0, 0, 0), (0, 0, 0, 0, 0, 1), (23, 0, 0, 0, 0, 0), (14, 0, 0, 0, 0, 0), (7, 0, 0, 0, 0, 0), (5, 3, 0, 0, 0, 0), (0, 0, 0, 0, 0, 2), (23, 0, 0, 0, 0, 0), (14, 0, 0, 0, 0, 0), (7, 0, 0, 0, 0, 0), (5, 3, 0, 0, 0, 0), (0, 0, 0, 0, 0, 3), (23, 0, 0, 0, 0, 0), (14, 0, 0, 0, 0, 0), (67, 144, 4, 1, 131, 0), (7, 2, 0, 0, 0, 0), (7, 0, 0, 0, 0, 0), (5, 3, 0, 0, 0, 0), (0, 0, 0, 0, 0, 1), (23, 0, 0, 0, 0, 0), (14, 0, 0, 0, 0, 0), (7, 0, 0, 0, 0, 0), (5, 3, 0, 0, 0, 0), (0, 0, 0, 0, 0, 2), (23, 0, 0, 0, 0, 0), (14, 0, 0, 0, 0, 0), (7, 0, 0, 0, 0, 0), (5, 3, 0, 0, 0, 0), (0, 0, 0, 0, 0, 3), (23, 0, 0, 0, 0, 0), (14, 0, 0, 0, 0, 0), (67, 270, 4, 1, 134, 0), (54, 0, 1054, 0, 0, 0), (0, 0, 0, 0, 0, 0), (62, 0, 0, 0, 0, 0), (7, 1, 0, 0, 0, 0), (7, 0, 0, 0, 0, 0), (5, 3, 0, 0, 0, 0), (0, 0, 0, 0, 0, 1), (23, 0, 0, 0, 0, 0), (14, 0, 0, 0, 0, 0), (67, 145, 2, 1, 135, 0), (7, 2, 0, 0, 0, 0), (7, 0, 0, 0, 0, 0), (5, 3, 0, 0, 0, 0), (0, 0, 0, 0, 0, 1), (23, 0, 0, 0, 0, 0), (14, 0, 0, 0, 0, 0), (67, 275, 2, 1, 138, 0), (54, 0, 1054, 0, 0, 0), (0, 0, 0, 0, 0, 0), (62, 0, 0, 0, 0, 0), (7, 1, 0, 0, 0, 0), (7, 0, 0, 0, 0, 0), (5, 3, 0, 0, 0, 0), (0, 0, 0, 0, 0, 1), (23, 0, 0, 0, 0, 0), (14, 0, 0, 0, 0, 0), (7, 0, 0, 0, 0, 0), (5, 3, 0, 0, 0, 0), (0, 0, 0, 0, 0, 2), (23, 0, 0, 0, 0, 0), (14, 0, 0, 0, 0, 0), (7, 0, 0, 0, 0, 0), (5, 3, 0, 0, 0, 0), (0, 0, 0, 0, 0, 3), (23, 0, 0, 0, 0, 0), (14, 0, 0, 0, 0, 0), (7, 0, 0, 0, 0, 0), (5, 3, 0, 0, 0, 0), (0, 0, 0, 0, 0, 4), (23, 0, 0, 0, 0, 0), (14, 0, 0, 0, 0, 0), (67, 146, 5, 1, 139, 0), (7, 2, 0, 0, 0, 0), (7, 0, 0, 0, 0, 0), (5, 3, 0, 0, 0, 0), (0, 0, 0, 0, 0, 1), (23, 0, 0, 0, 0, 0), (14, 0, 0, 0, 0, 0), (7, 0, 0, 0, 0, 0), (5, 3, 0, 0, 0, 0), (0, 0, 0, 0, 0, 2), (23, 0, 0, 0, 0, 0), (14, 0, 0, 0, 0, 0), (7, 0, 0, 0, 0, 0), (5, 3, 0, 0, 0, 0), (0, 0, 0, 0, 0, 3), (23, 0, 0, 0, 0, 0), (14, 0, 0, 0, 0, 0), (7, 0, 0, 0, 0, 0), (5, 3, 0, 0, 0, 0), (0, 0, 0, 0, 0, 4), (23, 0, 0, 0, 0, 0), (14, 0, 0, 0, 0, 0), (67, 278, 5, 1, 142, 0), (54, 0, 1054, 0, 0, 0), (0, 0, 0, 0, 0, 0), (62, 0, 0, 0, 0, 0), (7, 1, 0, 0, 0, 0), (67, 147, 1, 1, 143, 0), (7, 2, 0, 0, 0, 0), (67, 279, 1, 1, 146, 0), (54, 0, 1054, 0, 0, 0), (0, 0, 0, 0, 0, 0), (62, 0, 0, 0, 0, 0), (7, 1, 0, 0, 0, 0), (67, 148, 1, 1, 147, 0), (7, 2, 0, 0, 0, 0), (67, 280, 1, 1, 150, 0), (54, 0, 1054, 0, 0, 0), (0, 0, 0, 0, 0, 0), (62, 0, 0, 0, 0, 0), (7, 1, 0, 0, 0, 0), (7, 0, 0, 0, 0, 0), (5, 3, 0, 0, 0, 0), (0, 0, 0, 0, 0, 1), (23, 0, 0, 0, 0, 0), (14, 0, 0, 0, 0, 0), (67, 149, 2, 1, 151, 0), (7, 2, 0, 0, 0, 0), (7, 0, 0, 0, 0, 0), (5, 3, 0, 0, 0, 0), (0, 0, 0, 0, 0, 1), (23, 0, 0, 0, 0, 0), (14, 0, 0, 0, 0, 0)]
def kc_302_7 : List RI := [(67, 282, 2, 1, 154, 0), (54, 0, 1054, 0, 0, 0), (0, 0, 0, 0, 0, 0), (62, 0, 0, 0, 0, 0), (11, 3, 0, 0, 0, 6), (57, 0, 10, 0, 0, 0), (0, 0, 0, 0, 0, 1), (62, 0, 0, 0, 0, 0)]
def kc_302 : List RI := kc_302_0 ++ (kc_302_1 ++ (kc_302_2 ++ (kc_302_3 ++ (kc_302_4 ++ (kc_302_5 ++ (kc_302_6 ++ (kc_302_7)))))))
def ko_302 : List Nat := [0, 3, 4, 7, 8, 11, 12, 15, 16, 17, 18, 19, 20, 21, 23, 24, 27, 28, 29, 30, 32, 33, 180, 181, 182, 183, 184, 185, 186, 189, 190, 191, 192, 193, 194, 195, 198, 201, 202, 203, 204, 205, 206, 207, 208, 209, 210, 211, 212, 213, 214, 215, 216, 217, 218, 219, 222, 223, 224, 225, 226, 227, 228, 229, 230, 231, 232, 233, 234, 235, 236, 237, 238, 241, 244, 245, 246, 247, 248, 249, 250, 251, 252, 253, 254, 255, 256, 257, 260, 261, 262, 263, 264, 265, 266, 267, 268, 269, 270, 271, 274, 277, 278, 279, 280, 281, 282, 283, 284, 285, 286, 287, 288, 289, 290, 291, 292, 293, 294, 295, 298, 299, 300, 301, 302, 303, 304, 305, 306, 307, 308, 309, 310, 311, 312, 313, 314, 317, 320, 321, 322, 323, 324, 325, 326, 327, 328, 331, 332, 333, 334, 335, 336, 337, 340, 343, 344, 345, 346, 347, 348, 349, 350, 351, 352, 353, 354, 355, 356, 357, 358, 359, 360, 361, 364, 365, 366, 367, 368, 369, 370, 371, 372, 373, 374, 375, 376, 377, 378, 379, 380, 383, 386, 387, 388, 389, 390, 391, 392, 393, 394, 395, 396, 397, 398, 399, 400, 401, 402, 403, 404, 405, 406, 407, 408, 409, 410, 411, 412, 413, 414, 417, 418, 419, 420, 421, 422, 423, 424, 425, 426, 427, 428, 429, 430, 431, 432, 433, 434, 435, 436, 437, 438, 439, 440, 441, 442, 443, 446, 449, 450, 451, 452, 453, 454, 455, 456, 457, 460, 461, 462, 463, 464, 465, 466, 469, 472, 473, 474, 475, 478, 479, 482, 485, 486, 487, 488, 489, 490, 491, 492, 493, 496, 497, 498, 499, 500, 501, 502, 505, 508, 509, 510, 511, 512, 513, 514, 515, 516, 517, 518, 519, 520, 521, 522, 523, 524, 525, 526, 527, 528, 529, 530, 531, 532, 533, 534, 535, 536, 539, 540, 541, 542, 543, 544, 545, 546, 547, 548, 549, 550, 551, 552, 553, 554, 555, 556, 557, 558, 559, 560, 561, 562, 563, 564, 565, 568, 571, 572, 573, 574, 575, 576, 577, 578, 579, 580, 581, 582, 583, 584, 585, 586, 587, 588, 589, 592, 593, 594, 595, 596, 597, 598, 599, 600, 601, 602, 603, 604, 605, 606, 607, 608, 611, 614, 615, 616, 617, 618, 619, 620, 621, 622, 623, 624, 625, 626, 627, 628, 629, 630, 631, 632, 635, 636, 637, 638, 639, 640, 641, 642, 643, 644, 645, 646, 647, 648, 649, 650, 651, 654, 657, 658, 659, 660, 661, 662, 663, 664, 665, 666, 667, 668, 669, 670, 671, 672, 673, 674, 675, 678, 679, 680, 681, 682, 683, 684, 685, 686, 687, 688, 689, 690, 691, 692, 693, 694, 697, 700, 701, 702, 703, 704, 705, 706, 707, 708, 709, 710, 711, 712, 713, 714, 715, 716, 717, 718, 719, 720, 721, 722, 723, 726, 727, 728, 729, 730, 731, 732, 733, 734, 735, 736, 737, 738, 739, 740, 741, 742, 743, 744, 745, 746, 747, 750, 753, 754, 755, 756, 757, 758, 759, 760, 761, 762, 763, 764, 765, 766, 767, 768, 769, 770, 771, 774, 775, 776, 777, 778, 779, 780, 781, 782, 783, 784, 785, 786, 787, 788, 789, 790, 793, 796, 797, 798, 799, 800, 801, 802, 803, 804, 805, 806, 807, 808, 809, 810, 811, 812, 813, 814, 817, 818, 819, 820, 821, 822, 823, 824, 825, 826, 827, 828, 829, 830, 831, 832, 833, 836, 837, 840, 841, 842, 843, 844, 845, 846, 847, 848, 849, 850, 851, 852, 853, 854, 855, 856, 857, 858, 861, 862, 863, 864, 865, 866, 867, 868, 869, 870, 871, 872, 873, 874, 875, 876, 877, 880, 883, 884, 885, 886, 887, 888, 889, 890, 891, 892, 893, 894, 895, 896, 897, 898, 899, 900, 901, 904, 905, 906, 907, 908, 909, 910, 911, 912, 913, 914, 915, 916, 917, 918, 919, 920, 923, 926, 927, 928, 929, 930, 931, 932, 933, 934, 937, 938, 939, 940, 941, 942, 943, 946, 949, 950, 951, 952, 953, 954, 955, 956, 957, 960, 961, 962, 963, 964, 965, 966, 969, 972, 973, 974, 975, 976, 977, 978, 979, 980, 981, 982, 983, 984, 985, 986, 987, 988, 989, 990, 991, 992, 993, 994, 995, 996, 997, 998, 999, 1000, 1003, 1004, 1005, 1006, 1007, 1008, 1009, 1010, 1011, 1012, 1013, 1014, 1015, 1016, 1017, 1018, 1019, 1020, 1021, 1022, 1023, 1024, 1025, 1026, 1027, 1028, 1029, 1032, 1035, 1036, 1037, 1038, 1039, 1040, 1041, 1042, 1043, 1044, 1045, 1046, 1047, 1048, 1051, 1052, 1053, 1054, 1055, 1056, 1057, 1058, 1059, 1060, 1061, 1062, 1065, 1068, 1069, 1070, 1071, 1072, 1073, 1074, 1075, 1076, 1079, 1080, 1081, 1082, 1083, 1084, 1085, 1088, 1091, 1092, 1093, 1094, 1095, 1096, 1097, 1098, 1099, 1100, 1101, 1102, 1103, 1104, 1105, 1106, 1107, 1108, 1109, 1110, 1111, 1112, 1113, 1114, 1115, 1116, 1117, 1118, 1119, 1122, 1123, 1124, 1125, 1126, 1127, 1128, 1129, 1130, 1131, 1132, 1133, 1134, 1135, 1136, 1137, 1138, 1139, 1140, 1141, 1142, 1143, 1144, 1145, 1146, 1147, 1148, 1151, 1154, 1155, 1156, 1157, 1158, 1159, 1160, 1161, 1162, 1163, 1164, 1165, 1166, 1167, 1168, 1169, 1170, 1171, 1172, 1173, 1174, 1175, 1176, 1177, 1178, 1179, 1180, 1181, 1182, 1185, 1186, 1187, 1188, 1189, 1190, 1191, 1192, 1193, 1194, 1195, 1196, 1197, 1198, 1199, 1200, 1201, 1202, 1203, 1204, 1205, 1206, 1207, 1208, 1209, 1210, 1211, 1214, 1217, 1218, 1219, 1220, 1221, 1222, 1223, 1224, 1225, 1228, 1229, 1230, 1231, 1232, 1233, 1234, 1237, 1240, 1241, 1242, 1243, 1244, 1245, 1246, 1247, 1248, 1249, 1250, 1251, 1252, 1253, 1254, 1255, 1256, 1257, 1258, 1261, 1262, 1263, 1264, 1265, 1266, 1267, 1268, 1269, 1270, 1271, 1272, 1273, 1274, 1275, 1276, 1277, 1280, 1283, 1284, 1285, 1286, 1287, 1288, 1289, 1290, 1291, 1294, 1295, 1296, 1297, 1298, 1299, 1300, 1303, 1306, 1307, 1308, 1309, 1310, 1311, 1312, 1313, 1314, 1315, 1316, 1317, 1318, 1319, 1320, 1321, 1322, 1323, 1324, 1325, 1326, 1327, 1328, 1329, 1332, 1333, 1334, 1335, 1336, 1337, 1338, 1339, 1340, 1341, 1342, 1343, 1344, 1345, 1346, 1347, 1348, 1349, 1350, 1351, 1352, 1353, 1356, 1359, 1360, 1361, 1362, 1365, 1366, 1369, 1372, 1373, 1374, 1375, 1378, 1379, 1382, 1385, 1386, 1387, 1388, 1389, 1390, 1391, 1392, 1393, 1396, 1397, 1398, 1399, 1400, 1401, 1402, 1405, 1408, 1409, 1410, 1413, 1416, 1417, 1418]
def codeT : List (List RI) := [kc_0, kc_1, kc_2, kc_3, kc_4, kc_5, kc_6, kc_7, kc_8, kc_9, kc_10, kc_11, kc_12, kc_13, kc_14, kc_15, kc_16, kc_17, kc_18, kc_19, kc_20, kc_21, kc_22, kc_23, kc_24, kc_25, kc_26, kc_27, kc_28, kc_29, kc_30, kc_31, kc_32, kc_33, kc_34, kc_35, kc_36, kc_37, kc_38, kc_39, kc_40, kc_41, kc_42, kc_43, kc_44, kc_45, kc_46, kc_47, kc_48, kc_49, kc_50, kc_51, kc_52, kc_53, kc_54, kc_55, kc_56, kc_57, kc_58, kc_59, kc_60, kc_61, kc_62, kc_63, kc_64, kc_65, kc_66, kc_67, kc_68, kc_69, kc_70, kc_71, kc_72, kc_73, kc_74, kc_75, kc_76, kc_77, kc_78, kc_79, kc_80, kc_81, kc_82, kc_83, kc_84, kc_85, kc_86, kc_87, kc_88, kc_89, kc_90, kc_91, kc_92, kc_93, kc_94, kc_95, kc_96, kc_97, kc_98, kc_99, kc_100, kc_101, kc_102, kc_103, kc_104, kc_105, kc_106, kc_107, kc_108, kc_109, kc_110, kc_111, kc_112, kc_113, kc_114, kc_115, kc_116, kc_117, kc_118, kc_119, kc_120, kc_121, kc_122, kc_123, kc_124, kc_125, kc_126, kc_127, kc_128, kc_129, kc_130, kc_131, kc_132, kc_133, kc_134, kc_135, kc_136, kc_137, kc_138, kc_139, kc_140, kc_141, kc_142, kc_143, kc_144, kc_145, kc_146, kc_147, kc_148, kc_149, kc_150, kc_151, kc_152, kc_153, kc_154, kc_155, kc_156, kc_157, kc_158, kc_159, kc_160, kc_161, kc_162, kc_163, kc_164, kc_165, kc_166, kc_167, kc_168, kc_169, kc_170, kc_171, kc_172, kc_173, kc_174, kc_175, kc_176, kc_177, kc_178, kc_179, kc_180, kc_181, kc_182, kc_183, kc_184, kc_185, kc_186, kc_187, kc_188, kc_189, kc_190, kc_191, kc_192, kc_193, kc_194, kc_195, kc_196, kc_197, kc_198, kc_199, kc_200, kc_201, kc_202, kc_203, kc_204, kc_205, kc_206, kc_207, kc_208, kc_209, kc_210, kc_211, kc_212, kc_213, kc_214, kc_215, kc_216, kc_217, kc_218, kc_219, kc_220, kc_221, kc_222, kc_223, kc_224, kc_225, kc_226, kc_227, kc_228, kc_229, kc_230, kc_231, kc_232, kc_233, kc_234, kc_235, kc_236, kc_237, kc_238, kc_239, kc_240, kc_241, kc_242, kc_243, kc_244, kc_245, kc_246, kc_247, kc_248, kc_249, kc_250, kc_251, kc_252, kc_253, kc_254, kc_255, kc_256, kc_257, kc_258, kc_259, kc_260, kc_261, kc_262, kc_263, kc_264, kc_265, kc_266, kc_267, kc_268, kc_269, kc_270, kc_271, kc_272, kc_273, kc_274, kc_275, kc_276, kc_277, kc_278, kc_279, kc_280, kc_281, kc_282, kc_283, kc_284, kc_285, kc_286, kc_287, kc_288, kc_289, kc_290, kc_291, kc_292, kc_293, kc_294, kc_295, kc_296, kc_297, kc_298, kc_299, kc_300, kc_301, kc_302]
def offT : List (List Nat) := [ko_0, ko_1, ko_2, ko_3, ko_4, ko_5, ko_6, ko_7, ko_8, ko_9, ko_10, ko_11, ko_12, ko_13, ko_14, ko_15, ko_16, ko_17, ko_18, ko_19, ko_20, ko_21, ko_22, ko_23, ko_24, ko_25, ko_26, ko_27, ko_28, ko_29, ko_30, ko_31, ko_32, ko_33, ko_34, ko_35, ko_36, ko_37, ko_38, ko_39, ko_40, ko_41, ko_42, ko_43, ko_44, ko_45, ko_46, ko_47, ko_48, ko_49, ko_50, ko_51, ko_52, ko_53, ko_54, ko_55, ko_56, ko_57, ko_58, ko_59, ko_60, ko_61, ko_62, ko_63, ko_64, ko_65, ko_66, ko_67, ko_68, ko_69, ko_70, ko_71, ko_72, ko_73, ko_74, ko_75, ko_76, ko_77, ko_78, ko_79, ko_80, ko_81, ko_82, ko_83, ko_84, ko_85, ko_86, ko_87, ko_88, ko_89, ko_90, ko_91, ko_92, ko_93, ko_94, ko_95, ko_96, ko_97, ko_98, ko_99, ko_100, ko_101, ko_102, ko_103, ko_104, ko_105, ko_106, ko_107, ko_108, ko_109, ko_110, ko_111, ko_112, ko_113, ko_114, ko_115, ko_116, ko_117, ko_118, ko_119, ko_120, ko_121, ko_122, ko_123, ko_124, ko_125, ko_126, ko_127, ko_128, ko_129, ko_130, ko_131, ko_132, ko_133, ko_134, ko_135, ko_136, ko_137, ko_138, ko_139, ko_140, ko_141, ko_142, ko_143, ko_144, ko_145, ko_146, ko_147, ko_148, ko_149, ko_150, ko_151, ko_152, ko_153, ko_154, ko_155, ko_156, ko_157, ko_158, ko_159, ko_160, ko_161, ko_162, ko_163, ko_164, ko_165, ko_166, ko_167, ko_168, ko_169, ko_170, ko_171, ko_172, ko_173, ko_174, ko_175, ko_176, ko_177, ko_178, ko_179, ko_180, ko_181, ko_182, ko_183, ko_184, ko_185, ko_186, ko_187, ko_188, ko_189, ko_190, ko_191, ko_192, ko_193, ko_194, ko_195, ko_196, ko_197, ko_198, ko_199, ko_200, ko_201, ko_202, ko_203, ko_204, ko_205, ko_206, ko_207, ko_208, ko_209, ko_210, ko_211, ko_212, ko_213, ko_214, ko_215, ko_216, ko_217, ko_218, ko_219, ko_220, ko_221, ko_222, ko_223, ko_224, ko_225, ko_226, ko_227, ko_228, ko_229, ko_230, ko_231, ko_232, ko_233, ko_234, ko_235, ko_236, ko_237, ko_238, ko_239, ko_240, ko_241, ko_242, ko_243, ko_244, ko_245, ko_246, ko_247, ko_248, ko_249, ko_250, ko_251, ko_252, ko_253, ko_254, ko_255, ko_256, ko_257, ko_258, ko_259, ko_260, ko_261, ko_262, ko_263, ko_264, ko_265, ko_266, ko_267, ko_268, ko_269, ko_270, ko_271, ko_272, ko_273, ko_274, ko_275, ko_276, ko_277, ko_278, ko_279, ko_280, ko_281, ko_282, ko_283, ko_284, ko_285, ko_286, ko_287, ko_288, ko_289, ko_290, ko_291, ko_292, ko_293, ko_294, ko_295, ko_296, ko_297, ko_298, ko_299, ko_300, ko_301, ko_302]
def nameT : List MethodName := [⟨"ShownNot$Boxes", "<init>", "()V"⟩, ⟨"ShownNot$Boxes", "lay", "(II)V"⟩, ⟨"ShownNot$Boxes", "become", "(LShownNot$Boxes;)V"⟩, ⟨"ShownNot$Boxes", "open", "(II)I"⟩, ⟨"ShownNot$Boxes", "sawAll", "(I)Z"⟩, ⟨"ShownNot$Boxes", "seenOf", "(I)I"⟩, ⟨"ShownNot$Chart", "<init>", "()V"⟩, ⟨"ShownNot$Chart", "begin", "(I)V"⟩, ⟨"ShownNot$Chart", "become", "(LShownNot$Chart;)V"⟩, ⟨"ShownNot$Chart", "canJoin", "(II)Z"⟩, ⟨"ShownNot$Chart", "join", "(II)V"⟩, ⟨"ShownNot$Chart", "hasRow", "(I)Z"⟩, ⟨"ShownNot$Chart", "isPainted", "(I)Z"⟩, ⟨"ShownNot$Chart", "findAnswers", "()V"⟩, ⟨"ShownNot$Chart", "answerRow", "(I)I"⟩, ⟨"ShownNot$Chart", "answerPack", "(I)I"⟩, ⟨"ShownNot$Chart", "openingsOf", "(III)I"⟩, ⟨"ShownNot$Chart", "countRings", "()I"⟩, ⟨"ShownNot$Chart", "ringsFrom", "(II)I"⟩, ⟨"ShownNot$Chart", "countOrders", "()I"⟩, ⟨"ShownNot$Chart", "countTurns", "(LShownNot$Chart;)I"⟩, ⟨"ShownNot$Chart", "turnsFrom", "(LShownNot$Chart;II)I"⟩, ⟨"ShownNot$Chart", "fits", "(LShownNot$Chart;II)Z"⟩, ⟨"ShownNot$JudgeCode", "<init>", "()V"⟩, ⟨"ShownNot$JudgeCode", "isComparison", "(I)Z"⟩, ⟨"ShownNot$JudgeCode", "clear", "()V"⟩, ⟨"ShownNot$JudgeCode", "add", "(II)V"⟩, ⟨"ShownNot$JudgeCode", "tabulate", "([I)V"⟩, ⟨"ShownNot$JudgeCode", "openingsBelieved", "(I)I"⟩, ⟨"ShownNot$JudgeCode", "isSo", "()Z"⟩, ⟨"ShownNot$JudgeCode", "isValue", "(I)Z"⟩, ⟨"ShownNot$JudgeCode", "valueOf", "(II)J"⟩, ⟨"ShownNot$JudgeCode", "joined", "(IJJ)J"⟩, ⟨"ShownNot$JudgeCode", "bounded", "(J)J"⟩, ⟨"ShownNot$Lock", "<init>", "()V"⟩, ⟨"ShownNot$Lock", "isFactor", "(I)Z"⟩, ⟨"ShownNot$Lock", "make", "(IIIII)Z"⟩, ⟨"ShownNot$Lock", "become", "(LShownNot$Lock;)V"⟩, ⟨"ShownNot$Lock", "shown", "(II)I"⟩, ⟨"ShownNot$Lock", "doubled", "(I)I"⟩, ⟨"ShownNot$Lock", "chosen", "(IIIII)I"⟩, ⟨"ShownNot$Lock", "firstShowing", "(II)I"⟩, ⟨"ShownNot$Lock", "smeared", "(II)I"⟩, ⟨"ShownNot$Lock", "drawsShowing", "(II)I"⟩, ⟨"ShownNot$Play", "<init>", "()V"⟩, ⟨"ShownNot$Play", "begin", "(LShownNot$Chart;IZI[I)V"⟩, ⟨"ShownNot$Play", "addAsking", "(II[I)V"⟩, ⟨"ShownNot$Play", "forgetFound", "()V"⟩, ⟨"ShownNot$Play", "believes", "(II)Z"⟩, ⟨"ShownNot$Play", "countRefused", "()I"⟩, ⟨"ShownNot$Play", "fillRefusing", "()V"⟩, ⟨"ShownNot$Play", "findCheat", "()V"⟩, ⟨"ShownNot$Play", "countBelieved", "(I)I"⟩, ⟨"ShownNot$Play", "findTelling", "(I)Z"⟩, ⟨"ShownNot$Play", "findTellingPair", "()Z"⟩, ⟨"ShownNot$Play", "fillLowest", "()V"⟩, ⟨"ShownNot$Play", "firstTold", "(II)I"⟩, ⟨"ShownNot$Play", "weigh", "(LShownNot$Sightings;I)J"⟩, ⟨"ShownNot$Play", "findPossible", "(LShownNot$Sightings;)I"⟩, ⟨"ShownNot$Play", "isSwapOf", "(II)Z"⟩, ⟨"ShownNot$Play", "findFalse", "(II)V"⟩, ⟨"ShownNot$Play", "isFalseBelieved", "(III)Z"⟩, ⟨"ShownNot$Power", "<init>", "()V"⟩, ⟨"ShownNot$Power", "begin", "(I)V"⟩, ⟨"ShownNot$Power", "times", "(I)V"⟩, ⟨"ShownNot$Power", "isAbove", "(LShownNot$Power;)Z"⟩, ⟨"ShownNot$Reader", "<init>", "()V"⟩, ⟨"ShownNot$Reader", "takeFour", "(I)V"⟩, ⟨"ShownNot$Reader", "handOver", "(LShownNot$Showing;)V"⟩, ⟨"ShownNot$Reader", "readShowing", "()Z"⟩, ⟨"ShownNot$Reader", "fail", "(I)Z"⟩, ⟨"ShownNot$Reader", "step", "()V"⟩, ⟨"ShownNot$Reader", "readClause", "()Z"⟩, ⟨"ShownNot$Reader", "readSwap", "()Z"⟩, ⟨"ShownNot$Reader", "readAsk", "()Z"⟩, ⟨"ShownNot$Reader", "readEither", "()Z"⟩, ⟨"ShownNot$Reader", "readBoth", "()Z"⟩, ⟨"ShownNot$Reader", "readAsked", "(I)Z"⟩, ⟨"ShownNot$Reader", "readSum", "(I)Z"⟩, ⟨"ShownNot$Reader", "readProduct", "(I)Z"⟩, ⟨"ShownNot$Reader", "readOne", "(I)Z"⟩, ⟨"ShownNot$Reader", "readOpened", "(I)Z"⟩, ⟨"ShownNot$Reader", "splitTape", "()V"⟩, ⟨"ShownNot$Reader", "splitToken", "(I)I"⟩, ⟨"ShownNot$Reader", "splitWord", "(I)I"⟩, ⟨"ShownNot$Reader", "splitNumber", "(I)I"⟩, ⟨"ShownNot$Reader", "wordAt", "(II)I"⟩, ⟨"ShownNot$Reader", "spells", "(IILjava/lang/String;)Z"⟩, ⟨"ShownNot$Reader", "isLetter", "(I)Z"⟩, ⟨"ShownNot$Reader", "isDigit", "(I)Z"⟩, ⟨"ShownNot$Riddle", "<init>", "()V"⟩, ⟨"ShownNot$Riddle", "begin", "(I)V"⟩, ⟨"ShownNot$Riddle", "become", "(LShownNot$Riddle;)V"⟩, ⟨"ShownNot$Riddle", "isSign", "(I)Z"⟩, ⟨"ShownNot$Riddle", "addRow", "(III)I"⟩, ⟨"ShownNot$Riddle", "ways", "()I"⟩, ⟨"ShownNot$Riddle", "landsTurned", "()I"⟩, ⟨"ShownNot$Riddle", "bordersTurned", "()I"⟩, ⟨"ShownNot$Riddle", "countSolving", "()I"⟩, ⟨"ShownNot$Riddle", "isSolvedBy", "(I)Z"⟩, ⟨"ShownNot$Riddle", "signPaint", "(III)I"⟩, ⟨"ShownNot$Riddle", "countPaintings", "()I"⟩, ⟨"ShownNot$Riddle", "paintingsBy", "(I)I"⟩, ⟨"ShownNot$Riddle", "paintingsOfRow", "(III)I"⟩, ⟨"ShownNot$Showing", "<init>", "()V"⟩, ⟨"ShownNot$Showing", "become", "(LShownNot$Showing;)V"⟩, ⟨"ShownNot$Sightings", "<init>", "()V"⟩, ⟨"ShownNot$Sightings", "note", "(III)V"⟩, ⟨"ShownNot$Sightings", "become", "(LShownNot$Sightings;)V"⟩, ⟨"ShownNot$Sightings", "countNights", "()I"⟩, ⟨"ShownNot$Sightings", "waysToSee", "(IIIZ)J"⟩, ⟨"ShownNot$Sightings", "swapsMaking", "(IIII)I"⟩, ⟨"ShownNot$State", "<init>", "()V"⟩, ⟨"ShownNot$State", "chartAt", "(I)LShownNot$Chart;"⟩, ⟨"ShownNot$State", "showingAt", "(I)LShownNot$Showing;"⟩, ⟨"ShownNot$State", "become", "(LShownNot$State;)V"⟩, ⟨"ShownNot", "<init>", "()V"⟩, ⟨"ShownNot", "map", "(I)I"⟩, ⟨"ShownNot", "border", "(III)I"⟩, ⟨"ShownNot", "answer", "(II)I"⟩, ⟨"ShownNot", "swapped", "(III)I"⟩, ⟨"ShownNot", "rings", "(I)I"⟩, ⟨"ShownNot", "turnings", "(III)I"⟩, ⟨"ShownNot", "feed", "(IIIII)I"⟩, ⟨"ShownNot", "end", "(I)I"⟩, ⟨"ShownNot", "showing", "()I"⟩, ⟨"ShownNot", "fault", "(I)I"⟩, ⟨"ShownNot", "believed", "(IIIII)I"⟩, ⟨"ShownNot", "right", "(III)I"⟩, ⟨"ShownNot", "cheat", "(III)I"⟩, ⟨"ShownNot", "nights", "(III)I"⟩, ⟨"ShownNot", "tells", "(IIII)I"⟩, ⟨"ShownNot", "see", "(III)Z"⟩, ⟨"ShownNot", "weight", "(III)J"⟩, ⟨"ShownNot", "possible", "(III)I"⟩, ⟨"ShownNot", "shut", "(III)Z"⟩, ⟨"ShownNot", "ask", "(I)I"⟩, ⟨"ShownNot", "pulled", "(I)I"⟩, ⟨"ShownNot", "lock", "(IIIII)Z"⟩, ⟨"ShownNot", "shows", "(II)I"⟩, ⟨"ShownNot", "locks", "(I)I"⟩, ⟨"ShownNot", "alone", "(IIIII)I"⟩, ⟨"ShownNot", "unlike", "(IIIII)I"⟩, ⟨"ShownNot", "letters", "(I)Z"⟩, ⟨"ShownNot", "row", "(III)I"⟩, ⟨"ShownNot", "riddle", "(I)I"⟩, ⟨"ShownNot", "mended", "(IIII)I"⟩, ⟨"ShownNot", "image", "()I"⟩, ⟨"ShownNot", "back", "()I"⟩, ⟨"ShownNot", "about", "(I)I"⟩, ⟨"ShownNot", "aboutMap", "(II)I"⟩, ⟨"ShownNot", "aboutShowing", "(II)I"⟩, ⟨"ShownNot", "playFor", "(II)Z"⟩, ⟨"ShownNot", "nightsUntil", "(I)I"⟩, ⟨"ShownNot", "countUnlikeTalks", "(LShownNot$Chart;ILShownNot$Chart;II)I"⟩, ⟨"ShownNot", "unlikePairs", "(II)I"⟩, ⟨"ShownNot", "findMending", "(LShownNot$Showing;LShownNot$Chart;LShownNot$Chart;)I"⟩, ⟨"ShownNot", "partOfMending", "(LShownNot$Showing;II)I"⟩, ⟨"ShownNot", "mends", "(LShownNot$Showing;LShownNot$Chart;LShownNot$Chart;I)Z"⟩, ⟨"ShownNot", "oneIf", "(Z)I"⟩, ⟨"ShownNot", "isPaint", "(I)Z"⟩, ⟨"ShownNot", "isSwap", "(I)Z"⟩, ⟨"ShownNot", "drawnSwaps", "(I)I"⟩, ⟨"ShownNot", "rowsOf", "(I)I"⟩, ⟨"ShownNot", "packOf", "(II)I"⟩, ⟨"ShownNot", "paintIn", "(II)I"⟩, ⟨"ShownNot", "openingOf", "(III)I"⟩, ⟨"ShownNot", "swapRow", "(III)I"⟩, ⟨"ShownNot", "swapOpening", "(II)I"⟩, ⟨"ShownNot", "hasBit", "(II)Z"⟩, ⟨"ShownNotModel", "<init>", "()V"⟩, ⟨"ShownNotModel", "copy", "([I[I)V"⟩, ⟨"ShownNotModel", "isIn", "(III)Z"⟩, ⟨"ShownNotModel", "isMap", "(I)Z"⟩, ⟨"ShownNotModel", "swap", "(II)I"⟩, ⟨"ShownNotModel", "map", "(I)I"⟩, ⟨"ShownNotModel", "oneOf", "(II)I"⟩, ⟨"ShownNotModel", "otherOf", "(II)I"⟩, ⟨"ShownNotModel", "isBorder", "(III)Z"⟩, ⟨"ShownNotModel", "border", "(III)I"⟩, ⟨"ShownNotModel", "rowsOf", "(I)I"⟩, ⟨"ShownNotModel", "paintOf", "(III)I"⟩, ⟨"ShownNotModel", "isAnswer", "(II)Z"⟩, ⟨"ShownNotModel", "findAnswers", "(I)V"⟩, ⟨"ShownNotModel", "answer", "(II)I"⟩, ⟨"ShownNotModel", "swappedRow", "(III)I"⟩, ⟨"ShownNotModel", "swapped", "(III)I"⟩, ⟨"ShownNotModel", "nextOrder", "(I)Z"⟩, ⟨"ShownNotModel", "firstOrder", "(I)V"⟩, ⟨"ShownNotModel", "rings", "(I)I"⟩, ⟨"ShownNotModel", "turnsOf", "(II)I"⟩, ⟨"ShownNotModel", "turnings", "(III)I"⟩, ⟨"ShownNotModel", "four", "(I)V"⟩, ⟨"ShownNotModel", "feed", "(IIIII)I"⟩, ⟨"ShownNotModel", "end", "(I)I"⟩, ⟨"ShownNotModel", "byteAt", "(I)I"⟩, ⟨"ShownNotModel", "isLetter", "(I)Z"⟩, ⟨"ShownNotModel", "isDigit", "(I)Z"⟩, ⟨"ShownNotModel", "nextToken", "()V"⟩, ⟨"ShownNotModel", "w3", "(III)J"⟩, ⟨"ShownNotModel", "w5", "(IIIII)J"⟩, ⟨"ShownNotModel", "w4", "(IIII)J"⟩, ⟨"ShownNotModel", "isWord", "(J)Z"⟩, ⟨"ShownNotModel", "emit", "(II)V"⟩, ⟨"ShownNotModel", "push", "(I)V"⟩, ⟨"ShownNotModel", "whole", "()V"⟩, ⟨"ShownNotModel", "settle", "(I)V"⟩, ⟨"ShownNotModel", "nameOf", "()I"⟩, ⟨"ShownNotModel", "beginOne", "()I"⟩, ⟨"ShownNotModel", "hasParen", "()Z"⟩, ⟨"ShownNotModel", "goesOn", "()Z"⟩, ⟨"ShownNotModel", "behindOne", "()I"⟩, ⟨"ShownNotModel", "summed", "()I"⟩, ⟨"ShownNotModel", "compareOf", "()I"⟩, ⟨"ShownNotModel", "asked", "()I"⟩, ⟨"ShownNotModel", "either", "()I"⟩, ⟨"ShownNotModel", "sortOf", "()I"⟩, ⟨"ShownNotModel", "clause", "()I"⟩, ⟨"ShownNotModel", "readText", "()I"⟩, ⟨"ShownNotModel", "showing", "()I"⟩, ⟨"ShownNotModel", "fault", "(I)I"⟩, ⟨"ShownNotModel", "isShowing", "(I)Z"⟩, ⟨"ShownNotModel", "take", "(I)V"⟩, ⟨"ShownNotModel", "drawnSwap", "(I)I"⟩, ⟨"ShownNotModel", "askingsOf", "(I)I"⟩, ⟨"ShownNotModel", "askedOne", "(II)I"⟩, ⟨"ShownNotModel", "askedOther", "(II)I"⟩, ⟨"ShownNotModel", "far", "(J)J"⟩, ⟨"ShownNotModel", "two", "(IJJ)J"⟩, ⟨"ShownNotModel", "isSo", "(IJJ)Z"⟩, ⟨"ShownNotModel", "judged", "(I)Z"⟩, ⟨"ShownNotModel", "believes", "(IIII)Z"⟩, ⟨"ShownNotModel", "believesRow", "(IIII)Z"⟩, ⟨"ShownNotModel", "believed", "(IIIII)I"⟩, ⟨"ShownNotModel", "wrongs", "(I)I"⟩, ⟨"ShownNotModel", "right", "(III)I"⟩, ⟨"ShownNotModel", "findCheat", "(I)V"⟩, ⟨"ShownNotModel", "cheat", "(III)I"⟩, ⟨"ShownNotModel", "times", "([II)V"⟩, ⟨"ShownNotModel", "isAbove", "()Z"⟩, ⟨"ShownNotModel", "nights", "(III)I"⟩, ⟨"ShownNotModel", "opening", "(IIII)I"⟩, ⟨"ShownNotModel", "count", "(IIII[I)V"⟩, ⟨"ShownNotModel", "isTold", "(IIII)Z"⟩, ⟨"ShownNotModel", "finds", "(III)Z"⟩, ⟨"ShownNotModel", "telling", "(II)Z"⟩, ⟨"ShownNotModel", "tells", "(IIII)I"⟩, ⟨"ShownNotModel", "see", "(III)Z"⟩, ⟨"ShownNotModel", "isNight", "(II)Z"⟩, ⟨"ShownNotModel", "isSeenSo", "(IIII)Z"⟩, ⟨"ShownNotModel", "weightOf", "(II)J"⟩, ⟨"ShownNotModel", "weight", "(III)J"⟩, ⟨"ShownNotModel", "isOneButFor", "(III)Z"⟩, ⟨"ShownNotModel", "possible", "(III)I"⟩, ⟨"ShownNotModel", "shut", "(III)Z"⟩, ⟨"ShownNotModel", "seenLands", "()I"⟩, ⟨"ShownNotModel", "ask", "(I)I"⟩, ⟨"ShownNotModel", "isPulled", "()Z"⟩, ⟨"ShownNotModel", "pulled", "(I)I"⟩, ⟨"ShownNotModel", "lock", "(IIIII)Z"⟩, ⟨"ShownNotModel", "shown", "(II)I"⟩, ⟨"ShownNotModel", "shows", "(II)I"⟩, ⟨"ShownNotModel", "often", "(II)I"⟩, ⟨"ShownNotModel", "doubled", "(I)I"⟩, ⟨"ShownNotModel", "smeared", "(II)I"⟩, ⟨"ShownNotModel", "locks", "(I)I"⟩, ⟨"ShownNotModel", "alone", "(IIIII)I"⟩, ⟨"ShownNotModel", "unlike", "(IIIII)I"⟩, ⟨"ShownNotModel", "letters", "(I)Z"⟩, ⟨"ShownNotModel", "isSign", "(I)Z"⟩, ⟨"ShownNotModel", "row", "(III)I"⟩, ⟨"ShownNotModel", "isYes", "(II)Z"⟩, ⟨"ShownNotModel", "waysOf", "(III)I"⟩, ⟨"ShownNotModel", "paintings", "(I)I"⟩, ⟨"ShownNotModel", "solves", "(I)Z"⟩, ⟨"ShownNotModel", "riddle", "(I)I"⟩, ⟨"ShownNotModel", "other", "(IIIII)I"⟩, ⟨"ShownNotModel", "isMended", "(II)Z"⟩, ⟨"ShownNotModel", "mended", "(IIII)I"⟩, ⟨"ShownNotModel", "image", "()I"⟩, ⟨"ShownNotModel", "back", "()I"⟩, ⟨"ShownNotModel", "nightsSeen", "()I"⟩, ⟨"ShownNotModel", "about", "(I)I"⟩, ⟨"java/lang/Integer", "numberOfTrailingZeros", "(I)I"⟩, ⟨"java/lang/Integer", "bitCount", "(I)I"⟩, ⟨"java/lang/Math", "abs", "(I)I"⟩, ⟨"java/lang/Math", "max", "(II)I"⟩, ⟨"java/lang/Math", "max", "(JJ)J"⟩, ⟨"java/lang/Math", "min", "(II)I"⟩, ⟨"java/lang/Math", "min", "(JJ)J"⟩, ⟨"java/lang/String", "length", "()I"⟩, ⟨"java/lang/String", "charAt", "(I)C"⟩, ⟨"java/lang/String", "indexOf", "(I)I"⟩, ⟨"java/lang/String", "indexOf", "(II)I"⟩, ⟨"java/lang/String", "coder", "()B"⟩, ⟨"java/lang/String", "isLatin1", "()Z"⟩, ⟨"java/lang/String", "checkIndex", "(II)V"⟩, ⟨"java/lang/StringLatin1", "charAt", "([BI)C"⟩, ⟨"java/lang/StringLatin1", "canEncode", "(I)Z"⟩, ⟨"java/lang/StringLatin1", "indexOf", "([BIII)I"⟩, ⟨"java/lang/StringLatin1", "indexOfChar", "([BIII)I"⟩, ⟨"jdk/internal/util/Preconditions", "checkIndex", "(IILjava/util/function/BiFunction;)I"⟩, ⟨"ShownNotLaw", "law", "([I)Z"⟩]
def byteT : List ByteArray := [prog_2_method_1_code, prog_2_method_2_code, prog_2_method_3_code, prog_2_method_4_code, prog_2_method_5_code, prog_2_method_6_code, prog_3_method_1_code, prog_3_method_2_code, prog_3_method_3_code, prog_3_method_4_code, prog_3_method_5_code, prog_3_method_6_code, prog_3_method_7_code, prog_3_method_8_code, prog_3_method_9_code, prog_3_method_10_code, prog_3_method_11_code, prog_3_method_12_code, prog_3_method_13_code, prog_3_method_14_code, prog_3_method_15_code, prog_3_method_16_code, prog_3_method_17_code, prog_4_method_1_code, prog_4_method_2_code, prog_4_method_3_code, prog_4_method_4_code, prog_4_method_5_code, prog_4_method_6_code, prog_4_method_7_code, prog_4_method_8_code, prog_4_method_9_code, prog_4_method_10_code, prog_4_method_11_code, prog_5_method_1_code, prog_5_method_2_code, prog_5_method_3_code, prog_5_method_4_code, prog_5_method_5_code, prog_5_method_6_code, prog_5_method_7_code, prog_5_method_8_code, prog_5_method_9_code, prog_5_method_10_code, prog_6_method_1_code, prog_6_method_2_code, prog_6_method_3_code, prog_6_method_4_code, prog_6_method_5_code, prog_6_method_6_code, prog_6_method_7_code, prog_6_method_8_code, prog_6_method_9_code, prog_6_method_10_code, prog_6_method_11_code, prog_6_method_12_code, prog_6_method_13_code, prog_6_method_14_code, prog_6_method_15_code, prog_6_method_16_code, prog_6_method_17_code, prog_6_method_18_code, prog_7_method_1_code, prog_7_method_2_code, prog_7_method_3_code, prog_7_method_4_code, prog_8_method_1_code, prog_8_method_2_code, prog_8_method_3_code, prog_8_method_4_code, prog_8_method_5_code, prog_8_method_6_code, prog_8_method_7_code, prog_8_method_8_code, prog_8_method_9_code, prog_8_method_10_code, prog_8_method_11_code, prog_8_method_12_code, prog_8_method_13_code, prog_8_method_14_code, prog_8_method_15_code, prog_8_method_16_code, prog_8_method_17_code, prog_8_method_18_code, prog_8_method_19_code, prog_8_method_20_code, prog_8_method_21_code, prog_8_method_22_code, prog_8_method_23_code, prog_8_method_24_code, prog_9_method_1_code, prog_9_method_2_code, prog_9_method_3_code, prog_9_method_4_code, prog_9_method_5_code, prog_9_method_6_code, prog_9_method_7_code, prog_9_method_8_code, prog_9_method_9_code, prog_9_method_10_code, prog_9_method_11_code, prog_9_method_12_code, prog_9_method_13_code, prog_9_method_14_code, prog_10_method_1_code, prog_10_method_2_code, prog_11_method_1_code, prog_11_method_2_code, prog_11_method_3_code, prog_11_method_4_code, prog_11_method_5_code, prog_11_method_6_code, prog_12_method_1_code, prog_12_method_2_code, prog_12_method_3_code, prog_12_method_4_code, prog_1_method_1_code, prog_1_method_2_code, prog_1_method_3_code, prog_1_method_4_code, prog_1_method_5_code, prog_1_method_6_code, prog_1_method_7_code, prog_1_method_8_code, prog_1_method_9_code, prog_1_method_10_code, prog_1_method_11_code, prog_1_method_12_code, prog_1_method_13_code, prog_1_method_14_code, prog_1_method_15_code, prog_1_method_16_code, prog_1_method_17_code, prog_1_method_18_code, prog_1_method_19_code, prog_1_method_20_code, prog_1_method_21_code, prog_1_method_22_code, prog_1_method_23_code, prog_1_method_24_code, prog_1_method_25_code, prog_1_method_26_code, prog_1_method_27_code, prog_1_method_28_code, prog_1_method_29_code, prog_1_method_30_code, prog_1_method_31_code, prog_1_method_32_code, prog_1_method_33_code, prog_1_method_34_code, prog_1_method_35_code, prog_1_method_36_code, prog_1_method_37_code, prog_1_method_38_code, prog_1_method_39_code, prog_1_method_40_code, prog_1_method_41_code, prog_1_method_42_code, prog_1_method_43_code, prog_1_method_44_code, prog_1_method_45_code, prog_1_method_46_code, prog_1_method_47_code, prog_1_method_48_code, prog_1_method_49_code, prog_1_method_50_code, prog_1_method_51_code, prog_1_method_52_code, prog_1_method_53_code, prog_1_method_54_code, prog_14_method_1_code, prog_14_method_2_code, prog_14_method_3_code, prog_14_method_4_code, prog_14_method_5_code, prog_14_method_6_code, prog_14_method_7_code, prog_14_method_8_code, prog_14_method_9_code, prog_14_method_10_code, prog_14_method_11_code, prog_14_method_12_code, prog_14_method_13_code, prog_14_method_14_code, prog_14_method_15_code, prog_14_method_16_code, prog_14_method_17_code, prog_14_method_18_code, prog_14_method_19_code, prog_14_method_20_code, prog_14_method_21_code, prog_14_method_22_code, prog_14_method_23_code, prog_14_method_24_code, prog_14_method_25_code, prog_14_method_26_code, prog_14_method_27_code, prog_14_method_28_code, prog_14_method_29_code, prog_14_method_30_code, prog_14_method_31_code, prog_14_method_32_code, prog_14_method_33_code, prog_14_method_34_code, prog_14_method_35_code, prog_14_method_36_code, prog_14_method_37_code, prog_14_method_38_code, prog_14_method_39_code, prog_14_method_40_code, prog_14_method_41_code, prog_14_method_42_code, prog_14_method_43_code, prog_14_method_44_code, prog_14_method_45_code, prog_14_method_46_code, prog_14_method_47_code, prog_14_method_48_code, prog_14_method_49_code, prog_14_method_50_code, prog_14_method_51_code, prog_14_method_52_code, prog_14_method_53_code, prog_14_method_54_code, prog_14_method_55_code, prog_14_method_56_code, prog_14_method_57_code, prog_14_method_58_code, prog_14_method_59_code, prog_14_method_60_code, prog_14_method_61_code, prog_14_method_62_code, prog_14_method_63_code, prog_14_method_64_code, prog_14_method_65_code, prog_14_method_66_code, prog_14_method_67_code, prog_14_method_68_code, prog_14_method_69_code, prog_14_method_70_code, prog_14_method_71_code, prog_14_method_72_code, prog_14_method_73_code, prog_14_method_74_code, prog_14_method_75_code, prog_14_method_76_code, prog_14_method_77_code, prog_14_method_78_code, prog_14_method_79_code, prog_14_method_80_code, prog_14_method_81_code, prog_14_method_82_code, prog_14_method_83_code, prog_14_method_84_code, prog_14_method_85_code, prog_14_method_86_code, prog_14_method_87_code, prog_14_method_88_code, prog_14_method_89_code, prog_14_method_90_code, prog_14_method_91_code, prog_14_method_92_code, prog_14_method_93_code, prog_14_method_94_code, prog_14_method_95_code, prog_14_method_96_code, prog_14_method_97_code, prog_14_method_98_code, prog_14_method_99_code, prog_14_method_100_code, prog_14_method_101_code, prog_14_method_102_code, prog_14_method_103_code, prog_14_method_104_code, prog_14_method_105_code, prog_14_method_106_code, prog_14_method_107_code, prog_14_method_108_code, prog_14_method_109_code, prog_14_method_110_code, prog_14_method_111_code, prog_14_method_112_code, prog_14_method_113_code, prog_16_method_48_code, prog_16_method_49_code, prog_17_method_59_code, prog_17_method_65_code, prog_17_method_66_code, prog_17_method_69_code, prog_17_method_70_code, prog_18_method_54_code, prog_18_method_56_code, prog_18_method_79_code, prog_18_method_80_code, prog_18_method_152_code, prog_18_method_154_code, prog_18_method_155_code, prog_19_method_2_code, prog_19_method_4_code, prog_19_method_22_code, prog_19_method_23_code, prog_22_method_11_code, code]
def mlT : List Nat := [1, 3, 2, 3, 2, 2, 1, 3, 2, 3, 3, 2, 3, 4, 2, 2, 7, 1, 5, 3, 2, 6, 5, 1, 1, 1, 3, 3, 4, 4, 1, 3, 5, 2, 1, 1, 6, 2, 3, 7, 5, 4, 5, 5, 1, 8, 5, 1, 3, 6, 5, 4, 4, 3, 3, 4, 8, 3, 4, 4, 6, 8, 1, 3, 5, 3, 1, 3, 2, 2, 2, 1, 3, 2, 2, 2, 2, 3, 4, 3, 3, 3, 3, 3, 3, 4, 3, 5, 1, 1, 1, 2, 2, 2, 4, 1, 1, 1, 3, 3, 6, 3, 4, 9, 1, 2, 1, 4, 2, 3, 11, 7, 2, 2, 2, 3, 2, 2, 5, 4, 5, 3, 7, 6, 2, 2, 2, 6, 5, 4, 4, 6, 4, 5, 5, 5, 3, 3, 6, 3, 2, 6, 11, 2, 4, 2, 9, 1, 1, 2, 4, 4, 5, 3, 10, 4, 6, 7, 9, 1, 1, 1, 1, 3, 5, 2, 3, 7, 3, 2, 2, 3, 3, 2, 3, 2, 3, 3, 5, 5, 2, 4, 4, 3, 3, 6, 4, 7, 3, 7, 8, 6, 3, 6, 2, 2, 1, 1, 3, 3, 5, 4, 3, 3, 2, 1, 2, 1, 2, 2, 1, 2, 2, 1, 5, 6, 1, 4, 2, 1, 2, 2, 3, 2, 3, 5, 5, 2, 5, 5, 8, 5, 5, 6, 6, 5, 5, 4, 7, 2, 5, 5, 9, 6, 5, 6, 6, 4, 4, 7, 8, 4, 5, 8, 5, 3, 2, 3, 2, 6, 3, 3, 5, 5, 5, 2, 11, 17, 2, 2, 5, 3, 12, 5, 4, 5, 7, 3, 10, 1, 1, 3, 2, 2, 1, 1, 2, 4, 2, 4, 1, 2, 2, 3, 1, 1, 2, 2, 1, 4, 6, 3, 4]
def retT : List (Option FieldType) := [none, none, none, some (.int), some (.boolean), some (.int), none, none, none, some (.boolean), none, some (.boolean), some (.boolean), none, some (.int), some (.int), some (.int), some (.int), some (.int), some (.int), some (.int), some (.int), some (.boolean), none, some (.boolean), none, none, none, some (.int), some (.boolean), some (.boolean), some (.long), some (.long), some (.long), none, some (.boolean), some (.boolean), none, some (.int), some (.int), some (.int), some (.int), some (.int), some (.int), none, none, none, none, some (.boolean), some (.int), none, none, some (.int), some (.boolean), some (.boolean), none, some (.int), some (.long), some (.int), some (.boolean), none, some (.boolean), none, none, none, some (.boolean), none, none, none, some (.boolean), some (.boolean), none, some (.boolean), some (.boolean), some (.boolean), some (.boolean), some (.boolean), some (.boolean), some (.boolean), some (.boolean), some (.boolean), some (.boolean), none, some (.int), some (.int), some (.int), some (.int), some (.boolean), some (.boolean), some (.boolean), none, none, none, some (.boolean), some (.int), some (.int), some (.int), some (.int), some (.int), some (.boolean), some (.int), some (.int), some (.int), some (.int), none, none, none, none, none, some (.int), some (.long), some (.int), none, some (.object "ShownNot$Chart"), some (.object "ShownNot$Showing"), none, none, some (.int), some (.int), some (.int), some (.int), some (.int), some (.int), some (.int), some (.int), some (.int), some (.int), some (.int), some (.int), some (.int), some (.int), some (.int), some (.boolean), some (.long), some (.int), some (.boolean), some (.int), some (.int), some (.boolean), some (.int), some (.int), some (.int), some (.int), some (.boolean), some (.int), some (.int), some (.int), some (.int), some (.int), some (.int), some (.int), some (.int), some (.boolean), some (.int), some (.int), some (.int), some (.int), some (.int), some (.boolean), some (.int), some (.boolean), some (.boolean), some (.int), some (.int), some (.int), some (.int), some (.int), some (.int), some (.int), some (.boolean), none, none, some (.boolean), some (.boolean), some (.int), some (.int), some (.int), some (.int), some (.boolean), some (.int), some (.int), some (.int), some (.boolean), none, some (.int), some (.int), some (.int), some (.boolean), none, some (.int), some (.int), some (.int), none, some (.int), some (.int), some (.int), some (.boolean), some (.boolean), none, some (.long), some (.long), some (.long), some (.boolean), none, none, none, none, some (.int), some (.int), some (.boolean), some (.boolean), some (.int), some (.int), some (.int), some (.int), some (.int), some (.int), some (.int), some (.int), some (.int), some (.int), some (.boolean), none, some (.int), some (.int), some (.int), some (.int), some (.long), some (.long), some (.boolean), some (.boolean), some (.boolean), some (.boolean), some (.int), some (.int), some (.int), none, some (.int), none, some (.boolean), some (.int), some (.int), none, some (.boolean), some (.boolean), some (.boolean), some (.int), some (.boolean), some (.boolean), some (.boolean), some (.long), some (.long), some (.boolean), some (.int), some (.boolean), some (.int), some (.int), some (.boolean), some (.int), some (.boolean), some (.int), some (.int), some (.int), some (.int), some (.int), some (.int), some (.int), some (.int), some (.boolean), some (.boolean), some (.int), some (.boolean), some (.int), some (.int), some (.boolean), some (.int), some (.int), some (.boolean), some (.int), some (.int), some (.int), some (.int), some (.int), some (.int), some (.int), some (.int), some (.int), some (.long), some (.int), some (.long), some (.int), some (.char), some (.int), some (.int), some (.byte), some (.boolean), none, some (.char), some (.boolean), some (.int), some (.int), some (.int), some (.boolean)]
end
section
/-! the tables held against the bytecode: each tuple is the instruction that decode gives at its place, and what it links stands among the tables' words -/
def clsN (t : Nat) : String := match vwCl[t]? with | some q => q.1 | none => ""
def fldN (t k : Nat) : String × String := if t = 50 then (if k = 0 then ("value", "[B") else ("coder", "B")) else match vwCl[t]? with | some q => ((q.2.1 k).2.1, (q.2.1 k).2.2.1) | none => ("", "")
def ownN (t : Nat) : String := if t = 50 then "java/lang/String" else clsN t
def statA : List (String × List Int) := [("SWAP_PAINTS", [0, 1, 2, 1, 0, 2, 1, 2, 0, 2, 0, 1, 0, 2, 1, 2, 1, 0]), ("SWAPS_TAKING", [17, 6, 40, 10, 33, 20, 36, 24, 3]), ("SWAP_CHOICES", [1, 2, 3, 6])]
def statN : List (String × String × String × Int) := [("java/lang/String", "COMPACT_STRINGS", "Z", 1), ("java/lang/StringUTF16", "$assertionsDisabled", "Z", 1), ("java/lang/StringUTF16", "HI_BYTE_SHIFT", "I", 0), ("java/lang/StringUTF16", "LO_BYTE_SHIFT", "I", 8)]
def strT : List String := ["abxy", "or", "and", "not", "swap", "once", "ask", "judge", "borders", "pairs", "lands", "<>=#+-*();"]
def skT : List Nat := [2, 1, 1, 1, 1, 1, 2, 1, 1, 1, 1, 1, 1, 1, 1, 1, 1, 1, 1, 1, 1, 1, 1, 2, 0, 1, 1, 1, 1, 1, 0, 1, 0, 0, 2, 0, 1, 1, 1, 1, 0, 1, 1, 1, 2, 1, 1, 1, 1, 1, 1, 1, 1, 1, 1, 1, 1, 1, 1, 1, 1, 1, 2, 1, 1, 1, 2, 1, 1, 1, 1, 1, 1, 1, 1, 1, 1, 1, 1, 1, 1, 1, 1, 1, 1, 1, 1, 1, 0, 0, 2, 1, 1, 1, 1, 1, 1, 1, 1, 1, 1, 1, 1, 0, 2, 1, 2, 1, 1, 1, 1, 1, 2, 1, 1, 1, 2, 1, 1, 1, 1, 1, 1, 1, 1, 1, 1, 1, 1, 1, 1, 1, 1, 1, 1, 1, 1, 1, 1, 1, 1, 1, 1, 1, 1, 1, 1, 1, 1, 1, 1, 1, 1, 1, 0, 0, 1, 0, 1, 0, 0, 0, 0, 0, 0, 0, 0, 0, 0, 0, 2, 0, 0, 1, 1, 1, 1, 1, 1, 1, 1, 1, 1, 1, 1, 1, 1, 1, 1, 1, 1, 1, 1, 1, 1, 1, 0, 0, 1, 0, 0, 0, 1, 1, 1, 1, 1, 1, 1, 1, 1, 1, 1, 1, 1, 1, 1, 1, 1, 1, 1, 1, 1, 1, 1, 1, 1, 0, 0, 0, 1, 1, 1, 1, 1, 1, 1, 1, 0, 1, 1, 1, 1, 1, 1, 1, 1, 1, 1, 1, 1, 1, 1, 1, 1, 1, 1, 1, 1, 1, 1, 1, 1, 1, 1, 1, 1, 1, 1, 1, 1, 1, 0, 1, 1, 1, 1, 1, 1, 1, 1, 1, 1, 0, 0, 0, 0, 0, 0, 0, 1, 1, 1, 1, 1, 1, 0, 0, 0, 0, 0, 0, 0]
def npT : List Nat := [0, 2, 1, 2, 1, 1, 0, 1, 1, 2, 2, 1, 1, 0, 1, 1, 3, 0, 2, 0, 1, 3, 3, 0, 1, 0, 2, 1, 1, 0, 1, 2, 3, 1, 0, 1, 5, 1, 2, 1, 5, 2, 2, 2, 0, 5, 3, 0, 2, 0, 0, 0, 1, 1, 0, 0, 2, 2, 1, 2, 2, 3, 0, 1, 1, 1, 0, 1, 1, 0, 1, 0, 0, 0, 0, 0, 0, 1, 1, 1, 1, 1, 0, 1, 1, 1, 2, 3, 1, 1, 0, 1, 1, 1, 3, 0, 0, 0, 0, 1, 3, 0, 1, 3, 0, 1, 0, 3, 1, 0, 4, 4, 0, 1, 1, 1, 0, 1, 3, 2, 3, 1, 3, 5, 1, 0, 1, 5, 3, 3, 3, 4, 3, 3, 3, 3, 1, 1, 5, 2, 1, 5, 5, 1, 3, 1, 4, 0, 0, 1, 2, 2, 2, 1, 5, 2, 3, 3, 4, 1, 1, 1, 1, 1, 2, 2, 3, 3, 2, 2, 0, 2, 3, 1, 2, 1, 2, 2, 3, 3, 1, 3, 2, 1, 2, 3, 3, 1, 1, 1, 2, 3, 1, 5, 1, 1, 1, 1, 0, 3, 5, 4, 1, 2, 1, 0, 1, 0, 0, 0, 0, 0, 0, 0, 0, 0, 0, 0, 0, 0, 1, 1, 1, 1, 1, 2, 2, 1, 3, 3, 1, 4, 4, 5, 1, 3, 1, 3, 2, 0, 3, 4, 5, 4, 3, 2, 4, 3, 2, 4, 2, 3, 3, 3, 3, 0, 1, 0, 1, 5, 2, 2, 2, 1, 2, 1, 5, 5, 1, 1, 3, 2, 3, 1, 1, 1, 5, 2, 4, 0, 0, 0, 1, 1, 1, 1, 2, 2, 2, 2, 0, 1, 1, 2, 0, 0, 2, 2, 1, 4, 4, 3, 1]
def mName (z : Nat) : MethodName := (nameT[z]?).getD ⟨"", "", ""⟩
def mByt (z : Nat) : ByteArray := (byteT[z]?).getD ⟨#[]⟩
def mMl (z : Nat) : Nat := (mlT[z]?).getD 0
def mRet (z : Nat) : Option FieldType := (retT[z]?).getD none
def mOff (z i : Nat) : Nat := ((offT[z]?).getD []).getD i 0
def cdAt (y pc : Nat) : Option RI := ((codeT[y]?).getD [])[pc]?
def f4 (a : Nat) : Fin 4 := ⟨a % 4, Nat.mod_lt _ (by decide)⟩
def ifC (a : Nat) : Jvm.ClassFile.Cond := match a with | 0 => .eq | 1 => .ne | 2 => .lt | 3 => .ge | 4 => .gt | _ => .le
def toIns (os : List Nat) (pc : Nat) (ri : RI) : Instr × Nat := match ri with
  | (0, _, _, _, _, n) => (.iconst n, 1)
  | (1, _, _, _, _, n) => (.bipush n, 2)
  | (2, _, _, _, _, n) => (.sipush n, 3)
  | (3, _, _, _, x, _) => (.ldc x, 2)
  | (4, _, _, _, x, _) => (.ldc_w x, 3)
  | (5, a, 0, _, _, _) => (.iload_n (f4 a), 1)
  | (5, a, _, _, _, _) => (.iload a, 2)
  | (6, a, 0, _, _, _) => (.lload_n (f4 a), 1)
  | (6, a, _, _, _, _) => (.lload a, 2)
  | (7, a, 0, _, _, _) => (.aload_n (f4 a), 1)
  | (7, a, _, _, _, _) => (.aload a, 2)
  | (8, a, 0, _, _, _) => (.istore_n (f4 a), 1)
  | (8, a, _, _, _, _) => (.istore a, 2)
  | (9, a, 0, _, _, _) => (.lstore_n (f4 a), 1)
  | (9, a, _, _, _, _) => (.lstore a, 2)
  | (10, a, 0, _, _, _) => (.astore_n (f4 a), 1)
  | (10, a, _, _, _, _) => (.astore a, 2)
  | (11, a, _, _, _, n) => (.iinc a n, 3)
  | (12, _, _, _, x, _) => (.getfield x, 3)
  | (13, _, _, _, x, _) => (.putfield x, 3)
  | (14, _, _, _, _, _) => (.iaload, 1)
  | (15, _, _, _, _, _) => (.laload, 1)
  | (16, _, _, _, _, _) => (.baload, 1)
  | (17, _, _, _, _, _) => (.aaload, 1)
  | (18, _, _, _, _, _) => (.iastore, 1)
  | (19, _, _, _, _, _) => (.lastore, 1)
  | (20, _, _, _, _, _) => (.bastore, 1)
  | (21, _, _, _, _, _) => (.aastore, 1)
  | (22, _, _, _, _, _) => (.arraylength, 1)
  | (23, _, _, _, _, _) => (.iadd, 1)
  | (24, _, _, _, _, _) => (.isub, 1)
  | (25, _, _, _, _, _) => (.imul, 1)
  | (26, _, _, _, _, _) => (.iand, 1)
  | (27, _, _, _, _, _) => (.ior, 1)
  | (28, _, _, _, _, _) => (.ixor, 1)
  | (29, _, _, _, _, _) => (.ishl, 1)
  | (30, _, _, _, _, _) => (.ishr, 1)
  | (31, _, _, _, _, _) => (.iushr, 1)
  | (32, _, _, _, _, _) => (.idiv, 1)
  | (33, _, _, _, _, _) => (.irem, 1)
  | (34, _, _, _, _, _) => (.ineg, 1)
  | (35, _, _, _, _, _) => (.ladd, 1)
  | (36, _, _, _, _, _) => (.lsub, 1)
  | (37, _, _, _, _, _) => (.lmul, 1)
  | (38, _, _, _, _, _) => (.land, 1)
  | (39, _, _, _, _, _) => (.lor, 1)
  | (40, _, _, _, _, _) => (.ldiv, 1)
  | (41, _, _, _, _, _) => (.lrem, 1)
  | (42, _, _, _, _, _) => (.lneg, 1)
  | (43, _, _, _, _, _) => (.i2l, 1)
  | (44, _, _, _, _, _) => (.l2i, 1)
  | (45, _, _, _, _, _) => (.lcmp, 1)
  | (46, _, _, _, _, _) => (.lshl, 1)
  | (47, _, _, _, _, n) => (.lconst ⟨n.toNat % 2, Nat.mod_lt _ (by decide)⟩, 1)
  | (48, _, _, _, x, _) => (.ldc2_w x, 3)
  | (49, _, _, _, _, _) => (.i2c, 1)
  | (50, _, _, _, _, _) => (.dup, 1)
  | (51, _, _, _, _, _) => (.dup2, 1)
  | (52, _, _, _, _, _) => (.pop, 1)
  | (53, a, b, _, _, _) => (.ifCond (ifC a) ((os.getD b 0 : Int) - (os.getD pc 0 : Int)), 3)
  | (54, a, b, _, _, _) => (.if_icmp (ifC a) ((os.getD b 0 : Int) - (os.getD pc 0 : Int)), 3)
  | (55, _, b, _, _, _) => (.ifnull ((os.getD b 0 : Int) - (os.getD pc 0 : Int)), 3)
  | (56, _, b, _, _, _) => (.ifnonnull ((os.getD b 0 : Int) - (os.getD pc 0 : Int)), 3)
  | (57, _, b, _, _, _) => (.goto ((os.getD b 0 : Int) - (os.getD pc 0 : Int)), 3)
  | (58, a, _, c, _, _) => (.tableswitch ((os.getD (swD a) 0 : Int) - (os.getD pc 0 : Int)) ((swT[a]?).getD ([], 0, 0, 0)).2.2.1 ((swT[a]?).getD ([], 0, 0, 0)).2.2.2 ((swP a).map fun q => (os.getD q.2 0 : Int) - (os.getD pc 0 : Int)).toArray, c)
  | (59, a, _, c, _, _) => (.lookupswitch ((os.getD (swD a) 0 : Int) - (os.getD pc 0 : Int)) ((swP a).map fun q => (q.1, (os.getD q.2 0 : Int) - (os.getD pc 0 : Int))).toArray, c)
  | (60, _, _, _, _, _) => (.return_, 1)
  | (61, _, _, _, _, _) => (.ireturn, 1)
  | (62, _, _, _, _, _) => (.ireturn, 1)
  | (63, _, _, _, _, _) => (.lreturn, 1)
  | (64, _, _, _, _, _) => (.areturn, 1)
  | (65, _, _, _, _, _) => (.ireturn, 1)
  | (66, _, _, _, _, _) => (.ireturn, 1)
  | (67, _, _, _, x, 0) => (.invokevirtual x, 3)
  | (67, _, _, _, x, 1) => (.invokestatic x, 3)
  | (67, _, _, _, x, 2) => (.invokespecial x, 3)
  | (67, _, _, _, x, 3) => (.invokevirtual x, 3)
  | (67, _, _, _, x, 4) => (.invokestatic x, 3)
  | (67, _, _, _, x, _) => (.invokespecial x, 3)
  | (68, _, _, _, x, _) => (.new x, 3)
  | (69, 100, _, _, _, _) => (.newarray .int, 2)
  | (69, 101, _, _, _, _) => (.newarray .long, 2)
  | (69, _, _, _, _, _) => (.newarray .boolean, 2)
  | (70, _, _, _, x, _) => (.anewarray x, 3)
  | (71, _, _, _, x, _) => (.getstatic x, 3)
  | (72, _, _, _, _, _) => (.aconst_null, 1)
  | (73, _, _, _, x, _) => (.ldc x, 2)
  | (74, _, _, _, x, _) => (.invokestatic x, 3)
  | (75, _, _, _, x, _) => (.invokespecial x, 3)
  | (76, _, _, _, _, _) => (.i2b, 1)
  | (_, a, _, _, _, _) => (.nop, a)
def wordOf (own : String) (ri : RI) : Option Jvm.Cond := match ri with
  | (3, _, _, _, x, n) => some (.constant own x (Int32.ofInt n))
  | (4, _, _, _, x, n) => some (.constant own x (Int32.ofInt n))
  | (48, _, _, _, x, n) => some (.constantLong own x (Int64.ofInt n))
  | (12, a, b, _, x, _) => some (.fieldLink own x (ownN a) (fldN a b).1 (fldN a b).2)
  | (13, a, b, _, x, _) => some (.fieldLink own x (ownN a) (fldN a b).1 (fldN a b).2)
  | (67, a, _, _, x, 0) => some (.methodLink own x (mName a))
  | (67, a, _, _, x, 1) => some (.methodLink own x (mName a))
  | (67, a, _, _, x, 2) => some (.methodLink own x (mName a))
  | (67, a, _, _, x, _) => some (.methodLinkNest own x (mName a) "ShownNot")
  | (68, a, _, _, x, _) => some (.classLink own x (clsN a))
  | (70, 103, _, _, x, _) => some (.classLink own x (clsN 1))
  | (70, _, _, _, x, _) => some (.classLink own x (clsN 8))
  | (71, a, 0, 1, x, _) => some (.fieldLink own x "ShownNot" ((statA[a]?).getD ("", [])).1 "[I")
  | (71, a, _, 1, x, _) => some (.fieldLinkNest own x "ShownNot" ((statA[a]?).getD ("", [])).1 "[I" "ShownNot")
  | (71, a, _, 0, x, _) => some (.fieldLink own x ((statN[a]?).getD ("", "", "", 0)).1 ((statN[a]?).getD ("", "", "", 0)).2.1 ((statN[a]?).getD ("", "", "", 0)).2.2.1)
  | (71, _, _, _, x, _) => some (.fieldLink own x "jdk/internal/util/Preconditions" "SIOOBE_FORMATTER" "Ljava/util/function/BiFunction;")
  | (73, a, _, _, x, _) => some (.stringRef own x ((strT[a]?).getD ""))
  | (74, _, _, _, x, _) => some (.methodLink own x arraycopyName)
  | (75, _, _, _, x, _) => some (.methodLink own x objectInit)
  | _ => none
def isO (t : FieldType) : Bool := match t with | .object _ => true | .array _ => true | _ => false
/-- what a tuple must be like, beside its instruction -/
def okR (z : Nat) (ri : RI) : Bool := match ri with
  | (0, _, _, _, _, n) => decide (Int32.ofInt n = Int32.ofInt n) && decide (-2147483648 ≤ n) && decide (n < 2147483648)
  | (1, _, _, _, _, n) => decide ((Int8.ofInt n).toInt32 = Int32.ofInt n) && decide (-2147483648 ≤ n) && decide (n < 2147483648)
  | (2, _, _, _, _, n) => decide ((Int16.ofInt n).toInt32 = Int32.ofInt n) && decide (-2147483648 ≤ n) && decide (n < 2147483648)
  | (3, _, _, _, _, n) => decide (-2147483648 ≤ n) && decide (n < 2147483648)
  | (4, _, _, _, _, n) => decide (-2147483648 ≤ n) && decide (n < 2147483648)
  | (5, a, b, _, _, _) => decide (b = 0 → a < 4)
  | (6, a, b, _, _, _) => decide (b = 0 → a < 4)
  | (7, a, b, _, _, _) => decide (b = 0 → a < 4)
  | (8, a, b, _, _, _) => decide (b = 0 → a < 4)
  | (9, a, b, _, _, _) => decide (b = 0 → a < 4)
  | (10, a, b, _, _, _) => decide (b = 0 → a < 4)
  | (12, a, b, c, _, _) => decide (a < 13 ∨ a = 50) && decide (c = kd a b ∨ (a = 50 ∧ ((b = 0 ∧ c = 2) ∨ (b = 1 ∧ c = 0))))
  | (13, a, b, c, _, f) => decide (a < 13) && decide (c = kd a b) && decide (f = 0 ∨ f = 1) && (match vwCl[a]? with | some q => decide ((q.2.1 b).2.2.2 = decide (f = 1)) && decide (b < q.2.2) && (f == 0 || (decide ((mName z).name = "<init>") && decide ((mName z).cls = q.1))) | none => false)
  | (47, _, _, _, _, n) => decide (n = 0 ∨ n = 1)
  | (48, _, _, _, _, n) => decide (-9223372036854775808 ≤ n) && decide (n < 9223372036854775808)
  | (53, a, _, _, _, _) => decide (a < 6)
  | (54, a, _, _, _, _) => decide (a < 6)
  | (58, a, _, _, _, _) => (((swP a).map fun q => q.1) == (List.range (swP a).length).map fun (i : Nat) => ((swT[a]?).getD ([], 0, 0, 0)).2.2.1 + (i : Int)) && decide (((swT[a]?).getD ([], 0, 0, 0)).2.2.2 + 1 = ((swT[a]?).getD ([], 0, 0, 0)).2.2.1 + ((swP a).length : Int))
  | (59, a, _, _, _, _) => ((swP a).zip ((swP a).drop 1)).all (fun q => decide (q.1.1 < q.2.1))
  | (60, _, _, _, _, _) => decide (mRet z = none)
  | (61, _, _, _, _, _) => decide (mRet z = some .int)
  | (62, _, _, _, _, _) => decide (mRet z = some .boolean)
  | (63, _, _, _, _, _) => decide (mRet z = some .long)
  | (64, _, _, _, _, _) => match mRet z with | some t => isO t | none => false
  | (65, _, _, _, _, _) => decide (mRet z = some .char)
  | (66, _, _, _, _, _) => decide (mRet z = some .byte)
  | (67, a, b, c, _, n) => decide (a < 302) && decide (0 ≤ n ∧ n < 6) && decide (b = (npT[a]?).getD 0 + (if n = 1 ∨ n = 4 then 0 else 1)) && decide ((skT[a]?).getD 9 = (if n = 1 ∨ n = 4 then 0 else if n = 2 ∨ n = 5 then 2 else 1)) && (match c, mRet a with | 0, none => true | 1, some .int => true | 1, some .boolean => true | 1, some .char => true | 1, some .byte => true | 2, some .long => true | 3, some t => isO t | _, _ => false)
  | (68, a, b, _, _, _) => match vwCl[a]? with | some q => decide (b = q.2.2) | none => false
  | (69, a, _, _, _, _) => decide (a = 100 ∨ a = 101 ∨ a = 102)
  | (70, a, _, _, _, _) => decide (a = 103 ∨ a = 104)
  | (71, a, b, c, _, n) => (decide (c = 0) && decide (b = 0) && decide (n = ((statN[a]?).getD ("", "", "", 0)).2.2.2) && decide (a < statN.length) && decide (-2147483648 ≤ n) && decide (n < 2147483648)) || (decide (c = 1) && decide (a < statA.length) && decide (n = (2 + a : Int))) || (decide (c = 2) && decide (n = 0))
  | (73, a, _, _, _, n) => decide (a < strT.length) && decide (n = (5 + 2 * a : Int))
  | _ => true
def hasW (ri : RI) : Bool := (wordOf "" ri).isSome
def chkL (z : Nat) (bs : ByteArray) (os : List Nat) (wl : List RI) : Nat → List RI → Bool
  | _, [] => true
  | i, ri :: r => (ri.1 == 99 || (decide (decode bs (os.getD i 0) = .ok (toIns os i ri)) && okR z ri && (!hasW ri || wl.elem ri))) && (os.getD (i + 1) 0 == os.getD i 0 + (toIns os i ri).2) && chkL z bs os wl (i + 1) r
theorem chkL_app (z : Nat) (bs : ByteArray) (os : List Nat) (wl a : List RI) : ∀ (i : Nat) (b : List RI), chkL z bs os wl i a = true → chkL z bs os wl (i + a.length) b = true → chkL z bs os wl i (a ++ b) = true := by
  induction a with
  | nil => intro i b _ h; simpa using h
  | cons x r ih =>
    intro i b h1 h2
    simp only [chkL, List.cons_append, Bool.and_eq_true] at h1 ⊢
    refine ⟨h1.1, ih (i + 1) b h1.2 ?_⟩
    rw [List.length_cons] at h2
    rw [show i + 1 + r.length = i + (r.length + 1) by omega]
    exact h2
def wl_0 : List RI := [(75, 0, 0, 0, 3, 0), (13, 0, 0, 0, 9, 0), (13, 0, 1, 0, 15, 0), (13, 0, 2, 0, 18, 0), (12, 0, 0, 0, 9, 0), (12, 0, 1, 0, 15, 0), (12, 0, 2, 0, 18, 0), (67, 284, 1, 1, 21, 1), (67, 169, 2, 1, 27, 4), (67, 165, 2, 1, 31, 4)]
def wl_1 : List RI := [(75, 0, 0, 0, 3, 0), (13, 1, 0, 2, 9, 1), (13, 1, 1, 2, 15, 1), (13, 1, 2, 2, 18, 1), (13, 1, 3, 2, 21, 1), (13, 1, 4, 0, 24, 0), (13, 1, 5, 0, 28, 0), (13, 1, 9, 3, 31, 0), (12, 1, 2, 2, 18, 0), (12, 1, 4, 0, 24, 0), (12, 1, 5, 0, 28, 0), (12, 1, 0, 2, 9, 0), (74, 0, 0, 0, 35, 0), (12, 1, 1, 2, 15, 0), (67, 169, 2, 1, 41, 4), (67, 163, 1, 1, 45, 4), (67, 165, 2, 1, 49, 4), (12, 1, 9, 3, 31, 0), (12, 1, 6, 2, 53, 0), (12, 1, 7, 2, 56, 0), (13, 1, 6, 2, 53, 0), (13, 1, 7, 2, 56, 0), (13, 1, 8, 0, 59, 0), (67, 288, 2, 1, 62, 1), (67, 164, 2, 1, 67, 4), (67, 12, 2, 1, 70, 0), (12, 1, 8, 0, 59, 0), (67, 166, 3, 1, 74, 4), (67, 168, 2, 1, 78, 4), (67, 18, 3, 1, 81, 0), (67, 21, 4, 1, 84, 0), (67, 22, 4, 1, 88, 0), (12, 1, 3, 2, 21, 0)]
def wl_2 : List RI := [(75, 0, 0, 0, 3, 0), (13, 2, 0, 2, 9, 1), (13, 2, 1, 2, 15, 1), (13, 2, 2, 2, 18, 1), (13, 2, 3, 0, 22, 0), (12, 2, 3, 0, 22, 0), (12, 2, 0, 2, 9, 0), (12, 2, 1, 2, 15, 0), (67, 28, 2, 1, 26, 0), (13, 2, 6, 0, 30, 0), (13, 2, 7, 0, 33, 0), (13, 2, 4, 0, 36, 0), (13, 2, 5, 0, 39, 0), (67, 29, 1, 1, 42, 0), (12, 2, 2, 2, 18, 0), (67, 30, 1, 1, 46, 1), (67, 31, 3, 2, 50, 0), (67, 32, 3, 2, 54, 1), (12, 2, 4, 0, 36, 0), (12, 2, 5, 0, 39, 0), (12, 2, 6, 0, 30, 0), (12, 2, 7, 0, 33, 0), (67, 33, 1, 2, 58, 1), (67, 159, 1, 1, 62, 4), (48, 0, 0, 0, 66, -1000000000), (48, 0, 0, 0, 68, 1000000000), (67, 289, 2, 2, 70, 1), (67, 287, 2, 2, 76, 1)]
def wl_3 : List RI := [(75, 0, 0, 0, 3, 0), (13, 3, 0, 0, 9, 0), (13, 3, 3, 0, 15, 0), (13, 3, 4, 0, 18, 0), (67, 35, 1, 1, 21, 1), (13, 3, 1, 0, 25, 0), (13, 3, 2, 0, 28, 0), (12, 3, 0, 0, 9, 0), (12, 3, 1, 0, 25, 0), (12, 3, 2, 0, 28, 0), (12, 3, 3, 0, 15, 0), (12, 3, 4, 0, 18, 0), (67, 38, 3, 1, 31, 0), (67, 41, 3, 1, 35, 0), (67, 40, 5, 1, 38, 1), (67, 43, 3, 1, 42, 0), (67, 286, 2, 1, 45, 1), (67, 159, 1, 1, 50, 4)]
def wl_4 : List RI := [(75, 0, 0, 0, 3, 0), (13, 4, 0, 2, 9, 1), (13, 4, 1, 2, 15, 1), (13, 4, 2, 2, 18, 1), (13, 4, 3, 2, 21, 1), (13, 4, 4, 2, 24, 1), (13, 4, 5, 2, 27, 0), (67, 162, 1, 1, 31, 4), (13, 4, 6, 0, 35, 0), (13, 4, 7, 3, 39, 0), (13, 4, 8, 0, 43, 0), (12, 1, 5, 0, 46, 0), (12, 1, 0, 2, 51, 0), (12, 1, 1, 2, 54, 0), (67, 46, 4, 0, 57, 0), (12, 1, 4, 0, 61, 0), (12, 4, 8, 0, 43, 0), (12, 4, 0, 2, 9, 0), (12, 4, 1, 2, 15, 0), (12, 4, 2, 2, 18, 0), (13, 4, 11, 0, 64, 0), (13, 4, 12, 0, 67, 0), (13, 4, 13, 0, 70, 0), (13, 4, 14, 0, 73, 0), (13, 4, 15, 0, 76, 0), (13, 4, 16, 0, 79, 0), (67, 169, 2, 1, 82, 4), (67, 47, 1, 0, 86, 0), (67, 50, 1, 0, 89, 0), (12, 4, 5, 2, 27, 0), (12, 1, 8, 0, 92, 0), (67, 15, 2, 1, 95, 0), (12, 4, 4, 2, 24, 0), (67, 166, 3, 1, 98, 4), (67, 283, 1, 1, 102, 1), (67, 284, 1, 1, 107, 1), (67, 168, 2, 1, 110, 4), (67, 48, 3, 1, 114, 0), (12, 4, 6, 0, 35, 0), (13, 4, 9, 0, 117, 0), (67, 163, 1, 1, 120, 4), (12, 4, 9, 0, 117, 0), (67, 164, 2, 1, 123, 4), (67, 52, 2, 1, 126, 0), (67, 55, 1, 0, 129, 0), (12, 4, 7, 3, 39, 0), (67, 54, 1, 1, 132, 0), (67, 56, 3, 1, 136, 0), (12, 4, 12, 0, 67, 0), (12, 4, 3, 2, 21, 0), (67, 288, 2, 1, 139, 1), (67, 110, 5, 2, 144, 0), (13, 4, 10, 3, 150, 0), (67, 57, 3, 2, 153, 0), (12, 4, 10, 3, 150, 0), (67, 14, 2, 1, 157, 0), (67, 59, 3, 1, 160, 0), (67, 167, 3, 1, 163, 4), (12, 4, 11, 0, 64, 0), (67, 12, 2, 1, 166, 0), (67, 61, 4, 1, 170, 0), (67, 165, 2, 1, 174, 4)]
def wl_5 : List RI := [(75, 0, 0, 0, 1, 0), (13, 5, 0, 2, 9, 1), (13, 5, 1, 0, 13, 0), (12, 5, 1, 0, 13, 0), (12, 5, 0, 2, 9, 0), (3, 0, 0, 0, 17, 1000000)]
def wl_6 : List RI := [(75, 0, 0, 0, 3, 0), (13, 6, 0, 2, 9, 1), (13, 6, 1, 2, 15, 1), (13, 6, 2, 2, 18, 1), (13, 6, 3, 2, 21, 1), (68, 2, 8, 0, 24, 0), (67, 23, 1, 0, 26, 5), (13, 6, 4, 2, 27, 1), (13, 6, 6, 0, 31, 0), (13, 6, 7, 0, 35, 0), (12, 6, 5, 0, 38, 0), (12, 6, 0, 2, 9, 0), (13, 6, 5, 0, 38, 0), (12, 6, 11, 0, 41, 0), (13, 8, 1, 0, 44, 0), (12, 6, 13, 3, 47, 0), (13, 8, 3, 3, 51, 0), (12, 6, 12, 0, 52, 0), (13, 8, 2, 0, 55, 0), (12, 6, 4, 2, 27, 0), (12, 8, 0, 2, 56, 0), (67, 27, 2, 0, 59, 0), (13, 6, 10, 0, 63, 0), (13, 6, 11, 0, 41, 0), (13, 6, 13, 3, 47, 0), (13, 6, 12, 0, 52, 0), (67, 25, 1, 0, 66, 0), (67, 82, 1, 0, 69, 0), (12, 6, 1, 2, 15, 0), (12, 6, 9, 0, 72, 0), (67, 72, 1, 1, 75, 0), (12, 6, 2, 2, 18, 0), (12, 6, 8, 0, 79, 0), (13, 6, 9, 0, 72, 0), (67, 70, 2, 1, 82, 0), (12, 6, 10, 0, 63, 0), (67, 169, 2, 1, 86, 4), (67, 71, 1, 0, 90, 0), (67, 73, 1, 1, 93, 0), (67, 74, 1, 1, 96, 0), (67, 75, 1, 1, 99, 0), (12, 6, 3, 2, 21, 0), (67, 76, 1, 1, 102, 0), (67, 26, 3, 0, 105, 0), (67, 77, 2, 1, 109, 0), (67, 78, 2, 1, 112, 0), (67, 24, 1, 1, 115, 1), (67, 79, 2, 1, 118, 0), (67, 80, 2, 1, 121, 0), (67, 81, 2, 1, 124, 0), (67, 30, 1, 1, 127, 1), (13, 6, 8, 0, 79, 0), (67, 83, 2, 1, 130, 0), (67, 88, 1, 1, 134, 1), (67, 84, 2, 1, 137, 0), (67, 89, 1, 1, 140, 1), (67, 85, 2, 1, 143, 0), (73, 11, 0, 0, 146, 27), (67, 292, 2, 1, 148, 0), (67, 86, 3, 1, 153, 0), (67, 288, 2, 1, 157, 1), (73, 0, 0, 0, 162, 5), (73, 1, 0, 0, 164, 7), (67, 87, 4, 1, 166, 0), (73, 2, 0, 0, 170, 9), (73, 3, 0, 0, 172, 11), (73, 4, 0, 0, 174, 13), (73, 5, 0, 0, 175, 15), (73, 6, 0, 0, 176, 17), (73, 7, 0, 0, 178, 19), (73, 8, 0, 0, 179, 21), (73, 9, 0, 0, 181, 23), (73, 10, 0, 0, 183, 25), (67, 290, 1, 1, 185, 0), (67, 291, 2, 1, 188, 0)]
def wl_7 : List RI := [(75, 0, 0, 0, 3, 0), (13, 7, 0, 2, 9, 1), (13, 7, 1, 0, 15, 0), (13, 7, 2, 0, 19, 0), (12, 7, 0, 2, 9, 0), (74, 0, 0, 0, 22, 0), (12, 7, 1, 0, 15, 0), (12, 7, 2, 0, 19, 0), (67, 93, 2, 1, 28, 0), (67, 95, 1, 1, 32, 0), (67, 99, 2, 1, 36, 0), (67, 159, 1, 1, 39, 4), (67, 100, 4, 1, 43, 0), (67, 285, 1, 1, 47, 1), (67, 169, 2, 1, 53, 4), (67, 102, 2, 1, 57, 0), (67, 103, 3, 1, 60, 1), (71, 0, 1, 1, 63, 2)]
def wl_8 : List RI := [(75, 0, 0, 0, 3, 0), (13, 8, 0, 2, 9, 1), (12, 8, 0, 2, 9, 0), (74, 0, 0, 0, 15, 0), (12, 8, 1, 0, 21, 0), (13, 8, 1, 0, 21, 0), (12, 8, 2, 0, 25, 0), (13, 8, 2, 0, 25, 0), (12, 8, 3, 3, 28, 0), (13, 8, 3, 3, 28, 0)]
def wl_9 : List RI := [(75, 0, 0, 0, 3, 0), (13, 9, 0, 2, 9, 1), (13, 9, 1, 2, 15, 1), (12, 9, 0, 2, 9, 0), (12, 9, 1, 2, 15, 0), (74, 0, 0, 0, 18, 0), (67, 159, 1, 1, 24, 4), (67, 111, 5, 1, 28, 0), (67, 284, 1, 1, 32, 1), (67, 169, 2, 1, 38, 4), (71, 1, 1, 1, 42, 3), (67, 165, 2, 1, 45, 4)]
def wl_10 : List RI := [(75, 0, 0, 0, 3, 0), (70, 103, 0, 0, 9, 0), (13, 10, 0, 2, 11, 1), (70, 104, 0, 0, 17, 0), (13, 10, 1, 2, 19, 1), (68, 9, 2, 0, 23, 0), (67, 106, 1, 0, 25, 5), (13, 10, 2, 2, 26, 1), (68, 0, 3, 0, 30, 0), (67, 0, 1, 0, 32, 5), (13, 10, 3, 2, 33, 1), (68, 3, 5, 0, 37, 0), (67, 34, 1, 0, 39, 5), (13, 10, 4, 2, 40, 1), (68, 7, 3, 0, 44, 0), (67, 90, 1, 0, 46, 5), (13, 10, 5, 2, 47, 1), (12, 10, 0, 2, 11, 0), (68, 1, 10, 0, 9, 0), (67, 6, 1, 0, 51, 5), (12, 10, 1, 2, 19, 0), (68, 8, 4, 0, 17, 0), (67, 104, 1, 0, 52, 5), (12, 10, 6, 0, 53, 0), (12, 10, 7, 0, 57, 0), (13, 10, 6, 0, 53, 0), (67, 8, 2, 0, 60, 0), (13, 10, 7, 0, 57, 0), (67, 105, 2, 0, 64, 0), (12, 10, 2, 2, 26, 0), (67, 108, 2, 0, 67, 0), (12, 10, 3, 2, 33, 0), (67, 2, 2, 0, 70, 0), (12, 10, 4, 2, 40, 0), (67, 37, 2, 0, 73, 0), (12, 10, 5, 2, 47, 0), (67, 92, 2, 0, 76, 0)]
def wl_11 : List RI := [(75, 0, 0, 0, 1, 0), (68, 10, 8, 0, 7, 0), (67, 112, 1, 0, 9, 2), (13, 11, 0, 2, 10, 1), (13, 11, 1, 2, 16, 1), (68, 6, 14, 0, 19, 0), (67, 66, 1, 0, 21, 5), (13, 11, 2, 2, 22, 1), (68, 4, 17, 0, 26, 0), (67, 44, 1, 0, 28, 5), (13, 11, 3, 2, 29, 1), (13, 11, 4, 2, 33, 1), (12, 11, 4, 2, 33, 0), (68, 5, 2, 0, 37, 0), (67, 62, 1, 0, 39, 5), (13, 11, 5, 2, 40, 1), (13, 11, 6, 2, 44, 1), (12, 11, 0, 2, 10, 0), (12, 10, 6, 0, 47, 0), (12, 10, 0, 2, 51, 0), (67, 7, 2, 0, 55, 0), (13, 10, 6, 0, 47, 0), (67, 113, 2, 3, 61, 0), (67, 9, 3, 1, 65, 0), (67, 10, 3, 0, 69, 0), (12, 1, 5, 0, 73, 0), (67, 13, 1, 0, 76, 0), (12, 1, 8, 0, 79, 0), (67, 14, 2, 1, 82, 0), (67, 11, 2, 1, 86, 0), (67, 161, 1, 1, 90, 1), (12, 1, 4, 0, 93, 0), (67, 167, 3, 1, 96, 1), (67, 17, 1, 1, 100, 0), (67, 20, 2, 1, 104, 0), (67, 19, 1, 1, 108, 0), (12, 11, 2, 2, 22, 0), (12, 6, 5, 0, 111, 0), (67, 67, 2, 0, 114, 0), (13, 6, 5, 0, 111, 0), (12, 10, 7, 0, 117, 0), (67, 69, 1, 1, 120, 0), (12, 10, 1, 2, 124, 0), (67, 68, 2, 0, 128, 0), (13, 10, 7, 0, 117, 0), (12, 6, 6, 0, 132, 0), (12, 6, 7, 0, 135, 0), (67, 152, 3, 1, 138, 0), (12, 11, 3, 2, 29, 0), (12, 4, 8, 0, 141, 0), (67, 160, 1, 1, 144, 1), (67, 48, 3, 1, 147, 0), (67, 159, 1, 1, 150, 1), (67, 49, 1, 1, 154, 0), (12, 4, 12, 0, 157, 0), (12, 4, 13, 0, 160, 0), (12, 4, 15, 0, 163, 0), (67, 51, 1, 0, 166, 0), (12, 4, 9, 0, 169, 0), (12, 4, 11, 0, 172, 0), (3, 0, 0, 0, 175, 1000000000), (67, 153, 2, 1, 176, 0), (67, 53, 2, 1, 179, 0), (12, 4, 14, 0, 182, 0), (12, 10, 2, 2, 185, 0), (67, 107, 4, 0, 189, 0), (48, 0, 0, 0, 195, -1), (12, 4, 5, 2, 197, 0), (67, 15, 2, 1, 201, 0), (67, 57, 3, 2, 204, 0), (67, 58, 2, 1, 208, 0), (12, 4, 10, 3, 212, 0), (12, 10, 3, 2, 216, 0), (67, 164, 2, 1, 220, 1), (67, 1, 3, 0, 224, 0), (12, 0, 0, 0, 229, 0), (12, 1, 0, 2, 232, 0), (12, 1, 1, 2, 235, 0), (67, 3, 3, 1, 238, 0), (67, 4, 2, 1, 241, 0), (12, 0, 1, 0, 244, 0), (67, 12, 2, 1, 247, 0), (67, 5, 2, 1, 250, 0), (12, 10, 4, 2, 253, 0), (67, 36, 6, 1, 257, 0), (12, 3, 4, 0, 263, 0), (67, 38, 3, 1, 266, 0), (67, 39, 2, 1, 269, 0), (67, 42, 3, 1, 272, 0), (67, 60, 3, 0, 275, 0), (12, 4, 16, 0, 278, 0), (67, 114, 2, 3, 281, 0), (12, 8, 1, 0, 285, 0), (67, 162, 1, 1, 290, 1), (67, 154, 5, 1, 293, 1), (12, 10, 5, 2, 297, 0), (67, 91, 2, 0, 301, 0), (67, 94, 4, 1, 304, 0), (67, 98, 1, 1, 307, 0), (67, 96, 1, 1, 310, 0), (67, 97, 1, 1, 313, 0), (67, 101, 1, 1, 316, 0), (67, 95, 1, 1, 319, 0), (67, 102, 2, 1, 322, 0), (67, 156, 4, 1, 325, 0), (67, 157, 3, 1, 329, 1), (12, 11, 1, 2, 16, 0), (67, 115, 2, 0, 333, 0), (12, 7, 2, 0, 337, 0), (12, 7, 1, 0, 340, 0), (67, 109, 1, 1, 343, 0), (67, 150, 3, 1, 346, 0), (67, 151, 3, 1, 349, 0), (12, 8, 3, 3, 352, 0), (12, 8, 2, 0, 355, 0), (12, 8, 0, 2, 358, 0), (67, 45, 6, 0, 361, 0), (12, 11, 5, 2, 40, 0), (67, 63, 2, 0, 364, 0), (12, 11, 6, 2, 44, 0), (67, 64, 2, 0, 365, 0), (67, 65, 2, 1, 368, 0), (67, 16, 4, 1, 372, 0), (67, 155, 2, 1, 375, 1), (67, 284, 1, 1, 378, 1), (67, 158, 5, 1, 383, 0), (71, 2, 0, 1, 387, 4), (67, 165, 2, 1, 390, 1), (71, 0, 0, 1, 393, 2)]
def wl_12 : List RI := [(75, 0, 0, 0, 1, 0), (13, 12, 0, 2, 7, 1), (13, 12, 1, 2, 13, 1), (13, 12, 2, 2, 16, 1), (13, 12, 3, 2, 19, 1), (13, 12, 4, 2, 22, 1), (13, 12, 5, 2, 25, 1), (13, 12, 7, 2, 28, 1), (13, 12, 8, 2, 31, 1), (13, 12, 10, 0, 34, 0), (13, 12, 11, 0, 38, 0), (13, 12, 21, 2, 41, 1), (13, 12, 29, 2, 44, 1), (13, 12, 30, 2, 47, 1), (13, 12, 31, 2, 51, 1), (13, 12, 37, 2, 55, 1), (13, 12, 38, 2, 58, 1), (13, 12, 39, 2, 61, 1), (13, 12, 40, 2, 64, 1), (12, 12, 0, 2, 7, 0), (12, 12, 1, 2, 13, 0), (67, 171, 2, 0, 67, 1), (67, 172, 3, 1, 71, 1), (12, 12, 3, 2, 19, 0), (67, 176, 3, 1, 75, 0), (67, 177, 3, 1, 79, 0), (67, 173, 2, 1, 82, 0), (67, 178, 4, 1, 86, 0), (12, 12, 4, 2, 22, 0), (67, 181, 4, 1, 89, 0), (13, 12, 6, 0, 93, 0), (67, 180, 2, 1, 96, 0), (67, 182, 3, 1, 100, 0), (12, 12, 5, 2, 25, 0), (12, 12, 6, 0, 93, 0), (67, 183, 2, 0, 104, 0), (67, 174, 3, 1, 108, 0), (67, 185, 4, 1, 111, 0), (12, 12, 7, 2, 28, 0), (67, 188, 2, 0, 114, 0), (67, 187, 2, 1, 117, 0), (67, 190, 3, 1, 120, 0), (12, 12, 8, 2, 31, 0), (12, 12, 9, 0, 123, 0), (13, 12, 9, 0, 123, 0), (67, 192, 2, 0, 126, 0), (12, 12, 12, 0, 129, 0), (67, 195, 2, 1, 132, 0), (13, 12, 12, 0, 129, 0), (13, 12, 13, 0, 135, 0), (13, 12, 14, 0, 138, 0), (67, 197, 1, 1, 141, 1), (13, 12, 15, 0, 144, 0), (12, 12, 15, 0, 144, 0), (3, 0, 0, 0, 147, 100000), (67, 196, 1, 1, 148, 1), (13, 12, 16, 1, 151, 0), (12, 12, 13, 0, 135, 0), (12, 12, 16, 1, 151, 0), (67, 199, 3, 2, 155, 1), (12, 12, 14, 0, 138, 0), (12, 12, 2, 2, 16, 0), (12, 12, 17, 0, 159, 0), (12, 12, 19, 0, 162, 0), (13, 12, 19, 0, 162, 0), (12, 12, 21, 2, 41, 0), (12, 12, 22, 0, 165, 0), (13, 12, 22, 0, 165, 0), (13, 12, 24, 3, 168, 0), (12, 12, 23, 0, 172, 0), (13, 12, 23, 0, 172, 0), (67, 203, 3, 0, 175, 0), (48, 0, 0, 0, 179, 97), (48, 0, 0, 0, 181, 98), (48, 0, 0, 0, 183, 120), (48, 0, 0, 0, 185, 121), (67, 198, 1, 0, 187, 0), (67, 205, 1, 0, 190, 0), (67, 207, 1, 1, 193, 0), (67, 204, 2, 0, 197, 0), (67, 209, 1, 1, 200, 0), (67, 206, 2, 0, 204, 0), (12, 12, 24, 3, 168, 0), (67, 210, 1, 1, 207, 0), (67, 211, 1, 1, 210, 0), (67, 208, 1, 1, 213, 0), (67, 202, 2, 1, 216, 0), (67, 212, 1, 1, 220, 0), (67, 213, 1, 1, 223, 0), (67, 214, 1, 1, 226, 0), (48, 0, 0, 0, 229, 28530), (67, 201, 4, 2, 231, 1), (67, 200, 5, 2, 235, 1), (67, 216, 1, 1, 239, 0), (12, 12, 20, 0, 242, 0), (13, 12, 20, 0, 242, 0), (48, 0, 0, 0, 245, 29184), (48, 0, 0, 0, 247, 115), (67, 215, 1, 1, 249, 0), (13, 12, 17, 0, 159, 0), (67, 217, 1, 1, 252, 0), (67, 218, 1, 1, 255, 0), (12, 12, 10, 0, 34, 0), (12, 12, 11, 0, 38, 0), (13, 12, 25, 0, 258, 0), (13, 12, 28, 3, 261, 0), (13, 12, 26, 0, 264, 0), (13, 12, 27, 0, 267, 0), (12, 12, 25, 0, 258, 0), (12, 12, 26, 0, 264, 0), (67, 225, 3, 1, 270, 0), (48, 0, 0, 0, 273, 1000000000), (48, 0, 0, 0, 275, -1000000000), (67, 227, 1, 2, 277, 1), (12, 12, 30, 2, 47, 0), (12, 12, 29, 2, 44, 0), (67, 228, 3, 2, 281, 1), (12, 12, 31, 2, 51, 0), (67, 229, 3, 1, 285, 1), (12, 12, 27, 0, 267, 0), (67, 226, 3, 1, 289, 0), (67, 230, 2, 1, 292, 0), (67, 231, 5, 1, 295, 0), (67, 221, 2, 1, 299, 0), (67, 222, 2, 0, 302, 0), (67, 224, 2, 1, 305, 0), (13, 12, 32, 0, 308, 0), (13, 12, 33, 0, 311, 0), (13, 12, 34, 0, 314, 0), (67, 223, 2, 1, 317, 0), (67, 232, 5, 1, 320, 0), (67, 234, 2, 1, 323, 0), (12, 12, 32, 0, 308, 0), (12, 12, 33, 0, 311, 0), (12, 12, 34, 0, 314, 0), (13, 12, 36, 0, 326, 0), (12, 12, 36, 0, 326, 0), (13, 12, 35, 0, 329, 0), (67, 236, 2, 0, 332, 0), (12, 12, 35, 0, 329, 0), (48, 0, 0, 0, 335, 10000), (12, 12, 37, 2, 55, 0), (12, 12, 38, 2, 58, 0), (4, 0, 0, 0, 337, 1000000000), (67, 238, 2, 0, 338, 1), (67, 239, 1, 1, 342, 0), (67, 241, 5, 1, 345, 0), (12, 12, 28, 3, 261, 0), (12, 12, 40, 2, 64, 0), (67, 242, 6, 0, 349, 0), (12, 12, 39, 2, 61, 0), (67, 243, 5, 1, 353, 0), (13, 12, 41, 0, 356, 0), (13, 12, 42, 0, 359, 0), (13, 12, 43, 0, 362, 0), (67, 244, 4, 1, 365, 0), (67, 245, 3, 1, 368, 0), (12, 12, 41, 0, 356, 0), (12, 12, 42, 0, 359, 0), (12, 12, 43, 0, 362, 0), (67, 249, 5, 1, 371, 0), (67, 248, 3, 1, 374, 0), (48, 0, 0, 0, 377, -1), (67, 250, 3, 2, 379, 0), (67, 252, 4, 1, 383, 0), (67, 255, 1, 1, 386, 0), (67, 257, 1, 1, 389, 0), (67, 260, 3, 1, 392, 0), (67, 262, 3, 1, 395, 0), (67, 263, 2, 1, 398, 0), (67, 264, 3, 1, 401, 0), (67, 269, 2, 1, 404, 0), (67, 271, 3, 1, 407, 0), (67, 272, 3, 1, 410, 1), (67, 273, 2, 1, 413, 0), (67, 274, 2, 1, 416, 0), (67, 276, 6, 1, 419, 0), (67, 277, 3, 1, 423, 0), (67, 281, 1, 1, 426, 0)]
def wl_13 : List RI := [(4, 0, 0, 0, 264, 65536), (4, 0, 0, 0, 265, 1431655765), (4, 0, 0, 0, 266, 858993459), (4, 0, 0, 0, 267, 252645135)]
def wl_14 : List RI := [(12, 50, 0, 2, 9, 0), (67, 294, 1, 1, 335, 0), (67, 295, 1, 1, 492, 0), (67, 297, 2, 1, 495, 1), (67, 293, 3, 1, 633, 0), (67, 290, 1, 1, 505, 0), (67, 299, 4, 1, 637, 1), (71, 0, 0, 0, 38, 1), (12, 50, 1, 0, 15, 0), (71, 0, 0, 2, 1053, 0), (67, 301, 3, 1, 1059, 1)]
def wl_15 : List RI := [(67, 296, 2, 0, 9, 1), (67, 298, 1, 1, 88, 1), (67, 286, 2, 1, 92, 1), (67, 288, 2, 1, 38, 1), (67, 300, 4, 1, 95, 1)]
def wl_16 : List RI := [(68, 11, 7, 0, 7, 0), (67, 116, 1, 0, 9, 2), (68, 12, 44, 0, 10, 0), (67, 170, 1, 0, 12, 2), (67, 117, 2, 1, 13, 0), (67, 175, 2, 1, 17, 0), (67, 118, 4, 1, 18, 0), (67, 179, 4, 1, 22, 0), (67, 119, 3, 1, 23, 0), (67, 184, 3, 1, 27, 0), (67, 120, 4, 1, 28, 0), (67, 186, 4, 1, 31, 0), (67, 121, 2, 1, 32, 0), (67, 189, 2, 1, 35, 0), (67, 122, 4, 1, 36, 0), (67, 191, 4, 1, 39, 0), (67, 123, 6, 1, 40, 0), (67, 193, 6, 1, 44, 0), (67, 124, 2, 1, 45, 0), (67, 194, 2, 1, 48, 0), (67, 125, 1, 1, 49, 0), (67, 219, 1, 1, 53, 0), (67, 126, 2, 1, 54, 0), (67, 220, 2, 1, 57, 0), (67, 127, 6, 1, 58, 0), (67, 233, 6, 1, 61, 0), (67, 128, 4, 1, 62, 0), (67, 235, 4, 1, 65, 0), (67, 129, 4, 1, 66, 0), (67, 237, 4, 1, 69, 0), (67, 130, 4, 1, 70, 0), (67, 240, 4, 1, 73, 0), (67, 131, 5, 1, 74, 0), (67, 246, 5, 1, 78, 0), (67, 132, 4, 1, 79, 0), (67, 247, 4, 1, 83, 0), (67, 133, 4, 2, 84, 0), (67, 251, 4, 2, 88, 0), (67, 134, 4, 1, 89, 0), (67, 253, 4, 1, 92, 0), (67, 135, 4, 1, 93, 0), (67, 254, 4, 1, 96, 0), (67, 136, 2, 1, 97, 0), (67, 256, 2, 1, 100, 0), (67, 137, 2, 1, 101, 0), (67, 258, 2, 1, 104, 0), (67, 138, 6, 1, 105, 0), (67, 259, 6, 1, 109, 0), (67, 139, 3, 1, 110, 0), (67, 261, 3, 1, 113, 0), (67, 140, 2, 1, 114, 0), (67, 265, 2, 1, 117, 0), (67, 141, 6, 1, 118, 0), (67, 266, 6, 1, 121, 0), (67, 142, 6, 1, 122, 0), (67, 267, 6, 1, 125, 0), (67, 143, 2, 1, 126, 0), (67, 268, 2, 1, 130, 0), (67, 144, 4, 1, 131, 0), (67, 270, 4, 1, 134, 0), (67, 145, 2, 1, 135, 0), (67, 275, 2, 1, 138, 0), (67, 146, 5, 1, 139, 0), (67, 278, 5, 1, 142, 0), (67, 147, 1, 1, 143, 0), (67, 279, 1, 1, 146, 0), (67, 148, 1, 1, 147, 0), (67, 280, 1, 1, 150, 0), (67, 149, 2, 1, 151, 0), (67, 282, 2, 1, 154, 0)]
def wlT : List (String × List RI) := [("ShownNot$Boxes", wl_0), ("ShownNot$Chart", wl_1), ("ShownNot$JudgeCode", wl_2), ("ShownNot$Lock", wl_3), ("ShownNot$Play", wl_4), ("ShownNot$Power", wl_5), ("ShownNot$Reader", wl_6), ("ShownNot$Riddle", wl_7), ("ShownNot$Showing", wl_8), ("ShownNot$Sightings", wl_9), ("ShownNot$State", wl_10), ("ShownNot", wl_11), ("ShownNotModel", wl_12), ("java/lang/Integer", wl_13), ("java/lang/String", wl_14), ("java/lang/StringLatin1", wl_15), ("ShownNotLaw", wl_16)]
def wlOf (own : String) : List RI := match wlT.find? (fun q => q.1 == own) with | some q => q.2 | none => []
def chkM (z : Nat) : Bool := chkL z (mByt z) ((offT[z]?).getD []) (wlOf (mName z).cls) 0 ((codeT[z]?).getD [])
end
section
set_option maxRecDepth 100000 in
theorem wl_0_ok : (wl_0.zip [171, 172, 174, 176, 172, 174, 176, 1084, 1098, 1099]).all (fun q => match wordOf "ShownNot$Boxes" q.1 with | some w => decide (lw_tbl[q.2]? = some w) | none => false) = true := by decide +kernel
set_option maxRecDepth 100000 in
theorem wl_1_ok : (wl_1.zip [229, 230, 233, 236, 237, 238, 241, 249, 236, 238, 241, 230, 1273, 233, 537, 552, 565, 249, 244, 245, 244, 245, 248, 555, 558, 561, 248, 1171, 1172, 596, 608, 612, 237]).all (fun q => match wordOf "ShownNot$Chart" q.1 with | some w => decide (lw_tbl[q.2]? = some w) | none => false) = true := by decide +kernel
set_option maxRecDepth 100000 in
theorem wl_2_ok : (wl_2.zip [341, 342, 343, 344, 345, 345, 342, 343, 859, 348, 349, 346, 347, 863, 344, 867, 868, 872, 346, 347, 348, 349, 875, 886, 878, 879, 880, 883]).all (fun q => match wordOf "ShownNot$JudgeCode" q.1 with | some w => decide (lw_tbl[q.2]? = some w) | none => false) = true := by decide +kernel
set_option maxRecDepth 100000 in
theorem wl_3_ok : (wl_3.zip [189, 190, 193, 194, 1108, 191, 192, 190, 191, 192, 193, 194, 1127, 1128, 1132, 1139, 1144, 1143]).all (fun q => match wordOf "ShownNot$Lock" q.1 with | some w => decide (lw_tbl[q.2]? = some w) | none => false) = true := by decide +kernel
set_option maxRecDepth 100000 in
theorem wl_4_ok : (wl_4.zip [419, 420, 421, 422, 423, 424, 425, 910, 427, 428, 429, 242, 231, 234, 913, 239, 429, 420, 421, 422, 435, 437, 439, 441, 443, 445, 924, 934, 938, 425, 247, 946, 424, 950, 954, 958, 942, 945, 427, 431, 972, 431, 973, 974, 1008, 428, 1013, 1017, 437, 423, 1012, 1039, 433, 1060, 433, 1061, 1062, 1066, 435, 1153, 1154, 1158]).all (fun q => match wordOf "ShownNot$Play" q.1 with | some w => decide (lw_tbl[q.2]? = some w) | none => false) = true := by decide +kernel
set_option maxRecDepth 100000 in
theorem wl_5_ok : (wl_5.zip [487, 488, 489, 489, 488, 991]).all (fun q => match wordOf "ShownNot$Power" q.1 with | some w => decide (lw_tbl[q.2]? = some w) | none => false) = true := by decide +kernel
set_option maxRecDepth 100000 in
theorem wl_6_ok : (wl_6.zip [335, 368, 369, 370, 371, 336, 338, 372, 375, 377, 373, 368, 373, 382, 280, 384, 286, 383, 283, 372, 277, 855, 381, 382, 384, 383, 640, 644, 369, 380, 792, 370, 379, 380, 796, 381, 800, 801, 805, 809, 813, 371, 817, 825, 821, 829, 848, 833, 837, 841, 845, 379, 648, 652, 655, 783, 786, 791, 664, 659, 790, 663, 748, 749, 774, 775, 776, 777, 778, 779, 780, 781, 782, 753, 754]).all (fun q => match wordOf "ShownNot$Reader" q.1 with | some w => decide (lw_tbl[q.2]? = some w) | none => false) = true := by decide +kernel
set_option maxRecDepth 100000 in
theorem wl_7_ok : (wl_7.zip [212, 213, 214, 216, 213, 1298, 214, 216, 1193, 1205, 1209, 1221, 1213, 1217, 1220, 1234, 1238, 1241]).all (fun q => match wordOf "ShownNot$Riddle" q.1 with | some w => decide (lw_tbl[q.2]? = some w) | none => false) = true := by decide +kernel
set_option maxRecDepth 100000 in
theorem wl_8_ok : (wl_8.zip [275, 276, 276, 1280, 279, 279, 282, 282, 285, 285]).all (fun q => match wordOf "ShownNot$Showing" q.1 with | some w => decide (lw_tbl[q.2]? = some w) | none => false) = true := by decide +kernel
set_option maxRecDepth 100000 in
theorem wl_9_ok : (wl_9.zip [157, 158, 159, 158, 159, 1285, 1311, 1043, 1051, 1047, 1048, 1050]).all (fun q => match wordOf "ShownNot$Sightings" q.1 with | some w => decide (lw_tbl[q.2]? = some w) | none => false) = true := by decide +kernel
set_option maxRecDepth 100000 in
theorem wl_10_ok : (wl_10.zip [147, 148, 297, 150, 299, 152, 154, 301, 166, 168, 303, 184, 186, 305, 207, 209, 307, 297, 148, 226, 299, 150, 272, 309, 311, 309, 1269, 311, 1276, 301, 1281, 303, 1286, 305, 1290, 307, 1294]).all (fun q => match wordOf "ShownNot$State" q.1 with | some w => decide (lw_tbl[q.2]? = some w) | none => false) = true := by decide +kernel
set_option maxRecDepth 100000 in
theorem wl_11_ok : (wl_11.zip [139, 142, 144, 495, 496, 330, 332, 497, 414, 416, 498, 499, 499, 482, 484, 500, 501, 495, 310, 298, 521, 310, 529, 533, 540, 243, 548, 246, 568, 576, 580, 240, 583, 592, 604, 616, 497, 374, 624, 374, 312, 636, 300, 851, 312, 376, 378, 898, 498, 430, 917, 920, 925, 930, 438, 440, 444, 968, 432, 436, 982, 983, 1004, 442, 302, 1025, 1033, 426, 1034, 1035, 1056, 434, 304, 1071, 1072, 173, 232, 235, 1080, 1089, 175, 1093, 1094, 306, 1104, 195, 1115, 1123, 1135, 1149, 446, 902, 281, 1163, 1164, 308, 1181, 1189, 1201, 1222, 1226, 1230, 1242, 1243, 1248, 1252, 496, 1265, 217, 215, 1307, 1312, 1316, 287, 284, 278, 906, 500, 987, 501, 992, 996, 1167, 1173, 1176, 1257, 1255, 953, 586]).all (fun q => match wordOf "ShownNot" q.1 with | some w => decide (lw_tbl[q.2]? = some w) | none => false) = true := by decide +kernel
set_option maxRecDepth 100000 in
theorem wl_12_ok : (wl_12.zip [1325, 1329, 1330, 1331, 1332, 1333, 1334, 1336, 1337, 1339, 1340, 1349, 1357, 1358, 1359, 1365, 1366, 1367, 1368, 1329, 1330, 1326, 1466, 1332, 1481, 1485, 1473, 1477, 1333, 1505, 1335, 1497, 1501, 1334, 1335, 1493, 1517, 1513, 1336, 1525, 1529, 1537, 1337, 1338, 1338, 1545, 1341, 1565, 1341, 1342, 1343, 1569, 1344, 1344, 1572, 1573, 1345, 1342, 1345, 1587, 1343, 1331, 1346, 1347, 1347, 1349, 1350, 1350, 1352, 1351, 1351, 1627, 1647, 1648, 1649, 1650, 1561, 1635, 1643, 1631, 1615, 1623, 1352, 1611, 1619, 1639, 1590, 1607, 1651, 1603, 1655, 1584, 1594, 1580, 1348, 1348, 1597, 1598, 1599, 1346, 1576, 1557, 1339, 1340, 1353, 1356, 1354, 1355, 1353, 1354, 1680, 1698, 1699, 1695, 1358, 1357, 1692, 1359, 1700, 1355, 1684, 1688, 1676, 1664, 1668, 1672, 1360, 1361, 1362, 1711, 1715, 1707, 1360, 1361, 1362, 1364, 1364, 1363, 1723, 1363, 1735, 1365, 1366, 1731, 1732, 1736, 1756, 1356, 1368, 1752, 1367, 1760, 1369, 1370, 1371, 1748, 1744, 1369, 1370, 1371, 1777, 1781, 1772, 1773, 1789, 1801, 1809, 1821, 1837, 1829, 1833, 1857, 1869, 1873, 1865, 1876, 1884, 1888, 1904]).all (fun q => match wordOf "ShownNotModel" q.1 with | some w => decide (lw_tbl[q.2]? = some w) | none => false) = true := by decide +kernel
set_option maxRecDepth 100000 in
theorem wl_13_ok : (wl_13.zip [957, 961, 962, 963]).all (fun q => match wordOf "java/lang/Integer" q.1 with | some w => decide (lw_tbl[q.2]? = some w) | none => false) = true := by decide +kernel
set_option maxRecDepth 100000 in
theorem wl_14_ok : (wl_14.zip [1909, 682, 672, 758, 668, 678, 686, 676, 1908, 717, 764]).all (fun q => match wordOf "java/lang/String" q.1 with | some w => decide (lw_tbl[q.2]? = some w) | none => false) = true := by decide +kernel
set_option maxRecDepth 100000 in
theorem wl_15_ok : (wl_15.zip [761, 689, 692, 695, 696]).all (fun q => match wordOf "java/lang/StringLatin1" q.1 with | some w => decide (lw_tbl[q.2]? = some w) | none => false) = true := by decide +kernel
set_option maxRecDepth 100000 in
theorem wl_16_ok : (wl_16.zip [134, 136, 1320, 1322, 517, 1462, 525, 1469, 544, 1489, 572, 1509, 588, 1521, 600, 1533, 620, 1541, 628, 1549, 632, 1553, 890, 1656, 894, 1660, 926, 1703, 964, 1719, 978, 1727, 1000, 1740, 1021, 1764, 1029, 1768, 1052, 1785, 1067, 1793, 1076, 1797, 1085, 1805, 1100, 1813, 1111, 1817, 1119, 1825, 1145, 1841, 1159, 1845, 1177, 1849, 1185, 1853, 1197, 1861, 1244, 1880, 1261, 1892, 1299, 1896, 1303, 1900]).all (fun q => match wordOf "ShownNotLaw" q.1 with | some w => decide (lw_tbl[q.2]? = some w) | none => false) = true := by decide +kernel
end
section
set_option maxRecDepth 100000 in
theorem ck_0 : chkM 0 = true := (show chkL 0 prog_2_method_1_code ko_0 wl_0 0 kc_0 = true by decide +kernel)
set_option maxRecDepth 100000 in
theorem ck_1 : chkM 1 = true := (show chkL 1 prog_2_method_2_code ko_1 wl_0 0 kc_1 = true by decide +kernel)
set_option maxRecDepth 100000 in
theorem ck_2 : chkM 2 = true := (show chkL 2 prog_2_method_3_code ko_2 wl_0 0 kc_2 = true by decide +kernel)
set_option maxRecDepth 100000 in
theorem ck_3 : chkM 3 = true := (show chkL 3 prog_2_method_4_code ko_3 wl_0 0 kc_3 = true by decide +kernel)
set_option maxRecDepth 100000 in
theorem ck_4 : chkM 4 = true := (show chkL 4 prog_2_method_5_code ko_4 wl_0 0 kc_4 = true by decide +kernel)
set_option maxRecDepth 100000 in
theorem ck_5 : chkM 5 = true := (show chkL 5 prog_2_method_6_code ko_5 wl_0 0 kc_5 = true by decide +kernel)
set_option maxRecDepth 100000 in
theorem ck_6 : chkM 6 = true := (show chkL 6 prog_3_method_1_code ko_6 wl_1 0 kc_6 = true by decide +kernel)
set_option maxRecDepth 100000 in
theorem ck_7 : chkM 7 = true := (show chkL 7 prog_3_method_2_code ko_7 wl_1 0 kc_7 = true by decide +kernel)
set_option maxRecDepth 100000 in
theorem ck_8 : chkM 8 = true := (show chkL 8 prog_3_method_3_code ko_8 wl_1 0 kc_8 = true by decide +kernel)
set_option maxRecDepth 100000 in
theorem ck_9 : chkM 9 = true := (show chkL 9 prog_3_method_4_code ko_9 wl_1 0 kc_9 = true by decide +kernel)
set_option maxRecDepth 100000 in
theorem ck_10 : chkM 10 = true := (show chkL 10 prog_3_method_5_code ko_10 wl_1 0 kc_10 = true by decide +kernel)
set_option maxRecDepth 100000 in
theorem ck_11 : chkM 11 = true := (show chkL 11 prog_3_method_6_code ko_11 wl_1 0 kc_11 = true by decide +kernel)
set_option maxRecDepth 100000 in
theorem ck_12 : chkM 12 = true := (show chkL 12 prog_3_method_7_code ko_12 wl_1 0 kc_12 = true by decide +kernel)
set_option maxRecDepth 100000 in
theorem ck_13 : chkM 13 = true := (show chkL 13 prog_3_method_8_code ko_13 wl_1 0 kc_13 = true by decide +kernel)
set_option maxRecDepth 100000 in
theorem ck_14 : chkM 14 = true := (show chkL 14 prog_3_method_9_code ko_14 wl_1 0 kc_14 = true by decide +kernel)
set_option maxRecDepth 100000 in
theorem ck_15 : chkM 15 = true := (show chkL 15 prog_3_method_10_code ko_15 wl_1 0 kc_15 = true by decide +kernel)
set_option maxRecDepth 100000 in
theorem ck_16 : chkM 16 = true := (show chkL 16 prog_3_method_11_code ko_16 wl_1 0 kc_16 = true by decide +kernel)
set_option maxRecDepth 100000 in
theorem ck_17 : chkM 17 = true := (show chkL 17 prog_3_method_12_code ko_17 wl_1 0 kc_17 = true by decide +kernel)
set_option maxRecDepth 100000 in
theorem ck_18 : chkM 18 = true := (show chkL 18 prog_3_method_13_code ko_18 wl_1 0 kc_18 = true by decide +kernel)
set_option maxRecDepth 100000 in
theorem ck_19 : chkM 19 = true := (show chkL 19 prog_3_method_14_code ko_19 wl_1 0 kc_19 = true by decide +kernel)
set_option maxRecDepth 100000 in
theorem ck_20 : chkM 20 = true := (show chkL 20 prog_3_method_15_code ko_20 wl_1 0 kc_20 = true by decide +kernel)
set_option maxRecDepth 100000 in
theorem ck_21 : chkM 21 = true := (show chkL 21 prog_3_method_16_code ko_21 wl_1 0 kc_21 = true by decide +kernel)
set_option maxRecDepth 100000 in
theorem ck_22 : chkM 22 = true := (show chkL 22 prog_3_method_17_code ko_22 wl_1 0 kc_22 = true by decide +kernel)
set_option maxRecDepth 100000 in
theorem ck_23 : chkM 23 = true := (show chkL 23 prog_4_method_1_code ko_23 wl_2 0 kc_23 = true by decide +kernel)
set_option maxRecDepth 100000 in
theorem ck_24 : chkM 24 = true := (show chkL 24 prog_4_method_2_code ko_24 wl_2 0 kc_24 = true by decide +kernel)
set_option maxRecDepth 100000 in
theorem ck_25 : chkM 25 = true := (show chkL 25 prog_4_method_3_code ko_25 wl_2 0 kc_25 = true by decide +kernel)
set_option maxRecDepth 100000 in
theorem ck_26 : chkM 26 = true := (show chkL 26 prog_4_method_4_code ko_26 wl_2 0 kc_26 = true by decide +kernel)
set_option maxRecDepth 100000 in
theorem ck_27 : chkM 27 = true := (show chkL 27 prog_4_method_5_code ko_27 wl_2 0 kc_27 = true by decide +kernel)
set_option maxRecDepth 100000 in
theorem ck_28 : chkM 28 = true := (show chkL 28 prog_4_method_6_code ko_28 wl_2 0 kc_28 = true by decide +kernel)
set_option maxRecDepth 100000 in
theorem ck_29 : chkM 29 = true := (show chkL 29 prog_4_method_7_code ko_29 wl_2 0 kc_29 = true by decide +kernel)
set_option maxRecDepth 100000 in
theorem ck_30 : chkM 30 = true := (show chkL 30 prog_4_method_8_code ko_30 wl_2 0 kc_30 = true by decide +kernel)
set_option maxRecDepth 100000 in
theorem ck_31 : chkM 31 = true := (show chkL 31 prog_4_method_9_code ko_31 wl_2 0 kc_31 = true by decide +kernel)
set_option maxRecDepth 100000 in
theorem ck_32 : chkM 32 = true := (show chkL 32 prog_4_method_10_code ko_32 wl_2 0 kc_32 = true by decide +kernel)
set_option maxRecDepth 100000 in
theorem ck_33 : chkM 33 = true := (show chkL 33 prog_4_method_11_code ko_33 wl_2 0 kc_33 = true by decide +kernel)
set_option maxRecDepth 100000 in
theorem ck_34 : chkM 34 = true := (show chkL 34 prog_5_method_1_code ko_34 wl_3 0 kc_34 = true by decide +kernel)
set_option maxRecDepth 100000 in
theorem ck_35 : chkM 35 = true := (show chkL 35 prog_5_method_2_code ko_35 wl_3 0 kc_35 = true by decide +kernel)
set_option maxRecDepth 100000 in
theorem ck_36 : chkM 36 = true := (show chkL 36 prog_5_method_3_code ko_36 wl_3 0 kc_36 = true by decide +kernel)
set_option maxRecDepth 100000 in
theorem ck_37 : chkM 37 = true := (show chkL 37 prog_5_method_4_code ko_37 wl_3 0 kc_37 = true by decide +kernel)
set_option maxRecDepth 100000 in
theorem ck_38 : chkM 38 = true := (show chkL 38 prog_5_method_5_code ko_38 wl_3 0 kc_38 = true by decide +kernel)
set_option maxRecDepth 100000 in
theorem ck_39 : chkM 39 = true := (show chkL 39 prog_5_method_6_code ko_39 wl_3 0 kc_39 = true by decide +kernel)
set_option maxRecDepth 100000 in
theorem ck_40 : chkM 40 = true := (show chkL 40 prog_5_method_7_code ko_40 wl_3 0 kc_40 = true by decide +kernel)
set_option maxRecDepth 100000 in
theorem ck_41 : chkM 41 = true := (show chkL 41 prog_5_method_8_code ko_41 wl_3 0 kc_41 = true by decide +kernel)
set_option maxRecDepth 100000 in
theorem ck_42 : chkM 42 = true := (show chkL 42 prog_5_method_9_code ko_42 wl_3 0 kc_42 = true by decide +kernel)
set_option maxRecDepth 100000 in
theorem ck_43 : chkM 43 = true := (show chkL 43 prog_5_method_10_code ko_43 wl_3 0 kc_43 = true by decide +kernel)
set_option maxRecDepth 100000 in
theorem ck_44 : chkM 44 = true := (show chkL 44 prog_6_method_1_code ko_44 wl_4 0 kc_44 = true by decide +kernel)
set_option maxRecDepth 100000 in
theorem ck_45 : chkM 45 = true := (show chkL 45 prog_6_method_2_code ko_45 wl_4 0 kc_45 = true by decide +kernel)
set_option maxRecDepth 100000 in
theorem ck_46 : chkM 46 = true := (show chkL 46 prog_6_method_3_code ko_46 wl_4 0 kc_46 = true by decide +kernel)
set_option maxRecDepth 100000 in
theorem ck_47 : chkM 47 = true := (show chkL 47 prog_6_method_4_code ko_47 wl_4 0 kc_47 = true by decide +kernel)
set_option maxRecDepth 100000 in
theorem ck_48 : chkM 48 = true := (show chkL 48 prog_6_method_5_code ko_48 wl_4 0 kc_48 = true by decide +kernel)
set_option maxRecDepth 100000 in
theorem ck_49 : chkM 49 = true := (show chkL 49 prog_6_method_6_code ko_49 wl_4 0 kc_49 = true by decide +kernel)
set_option maxRecDepth 100000 in
theorem ck_50 : chkM 50 = true := (show chkL 50 prog_6_method_7_code ko_50 wl_4 0 kc_50 = true by decide +kernel)
set_option maxRecDepth 100000 in
theorem ck_51 : chkM 51 = true := (show chkL 51 prog_6_method_8_code ko_51 wl_4 0 kc_51 = true by decide +kernel)
set_option maxRecDepth 100000 in
theorem ck_52 : chkM 52 = true := (show chkL 52 prog_6_method_9_code ko_52 wl_4 0 kc_52 = true by decide +kernel)
set_option maxRecDepth 100000 in
theorem ck_53 : chkM 53 = true := (show chkL 53 prog_6_method_10_code ko_53 wl_4 0 kc_53 = true by decide +kernel)
set_option maxRecDepth 100000 in
theorem ck_54 : chkM 54 = true := (show chkL 54 prog_6_method_11_code ko_54 wl_4 0 kc_54 = true by decide +kernel)
set_option maxRecDepth 100000 in
theorem ck_55 : chkM 55 = true := (show chkL 55 prog_6_method_12_code ko_55 wl_4 0 kc_55 = true by decide +kernel)
set_option maxRecDepth 100000 in
theorem ck_56 : chkM 56 = true := (show chkL 56 prog_6_method_13_code ko_56 wl_4 0 kc_56 = true by decide +kernel)
set_option maxRecDepth 100000 in
theorem ck_57 : chkM 57 = true := (show chkL 57 prog_6_method_14_code ko_57 wl_4 0 kc_57 = true by decide +kernel)
set_option maxRecDepth 100000 in
theorem ck_58 : chkM 58 = true := (show chkL 58 prog_6_method_15_code ko_58 wl_4 0 kc_58 = true by decide +kernel)
set_option maxRecDepth 100000 in
theorem ck_59 : chkM 59 = true := (show chkL 59 prog_6_method_16_code ko_59 wl_4 0 kc_59 = true by decide +kernel)
set_option maxRecDepth 100000 in
theorem ck_60 : chkM 60 = true := (show chkL 60 prog_6_method_17_code ko_60 wl_4 0 kc_60 = true by decide +kernel)
set_option maxRecDepth 100000 in
theorem ck_61 : chkM 61 = true := (show chkL 61 prog_6_method_18_code ko_61 wl_4 0 kc_61 = true by decide +kernel)
set_option maxRecDepth 100000 in
theorem ck_62 : chkM 62 = true := (show chkL 62 prog_7_method_1_code ko_62 wl_5 0 kc_62 = true by decide +kernel)
set_option maxRecDepth 100000 in
theorem ck_63 : chkM 63 = true := (show chkL 63 prog_7_method_2_code ko_63 wl_5 0 kc_63 = true by decide +kernel)
set_option maxRecDepth 100000 in
theorem ck_64 : chkM 64 = true := (show chkL 64 prog_7_method_3_code ko_64 wl_5 0 kc_64 = true by decide +kernel)
set_option maxRecDepth 100000 in
theorem ck_65 : chkM 65 = true := (show chkL 65 prog_7_method_4_code ko_65 wl_5 0 kc_65 = true by decide +kernel)
set_option maxRecDepth 100000 in
theorem ck_66 : chkM 66 = true := (show chkL 66 prog_8_method_1_code ko_66 wl_6 0 kc_66 = true by decide +kernel)
set_option maxRecDepth 100000 in
theorem ck_67 : chkM 67 = true := (show chkL 67 prog_8_method_2_code ko_67 wl_6 0 kc_67 = true by decide +kernel)
set_option maxRecDepth 100000 in
theorem ck_68 : chkM 68 = true := (show chkL 68 prog_8_method_3_code ko_68 wl_6 0 kc_68 = true by decide +kernel)
set_option maxRecDepth 100000 in
theorem ck_69 : chkM 69 = true := (show chkL 69 prog_8_method_4_code ko_69 wl_6 0 kc_69 = true by decide +kernel)
set_option maxRecDepth 100000 in
theorem ck_70 : chkM 70 = true := (show chkL 70 prog_8_method_5_code ko_70 wl_6 0 kc_70 = true by decide +kernel)
set_option maxRecDepth 100000 in
theorem ck_71 : chkM 71 = true := (show chkL 71 prog_8_method_6_code ko_71 wl_6 0 kc_71 = true by decide +kernel)
set_option maxRecDepth 100000 in
theorem ck_72 : chkM 72 = true := (show chkL 72 prog_8_method_7_code ko_72 wl_6 0 kc_72 = true by decide +kernel)
end
section
set_option maxRecDepth 100000 in
theorem ck_73 : chkM 73 = true := (show chkL 73 prog_8_method_8_code ko_73 wl_6 0 kc_73 = true by decide +kernel)
set_option maxRecDepth 100000 in
theorem ck_74 : chkM 74 = true := (show chkL 74 prog_8_method_9_code ko_74 wl_6 0 kc_74 = true by decide +kernel)
set_option maxRecDepth 100000 in
theorem ck_75 : chkM 75 = true := (show chkL 75 prog_8_method_10_code ko_75 wl_6 0 kc_75 = true by decide +kernel)
set_option maxRecDepth 100000 in
theorem ck_76 : chkM 76 = true := (show chkL 76 prog_8_method_11_code ko_76 wl_6 0 kc_76 = true by decide +kernel)
set_option maxRecDepth 100000 in
theorem ck_77 : chkM 77 = true := (show chkL 77 prog_8_method_12_code ko_77 wl_6 0 kc_77 = true by decide +kernel)
set_option maxRecDepth 100000 in
theorem ck_78 : chkM 78 = true := (show chkL 78 prog_8_method_13_code ko_78 wl_6 0 kc_78 = true by decide +kernel)
set_option maxRecDepth 100000 in
theorem ck_79 : chkM 79 = true := (show chkL 79 prog_8_method_14_code ko_79 wl_6 0 kc_79 = true by decide +kernel)
set_option maxRecDepth 100000 in
theorem ck_80 : chkM 80 = true := (show chkL 80 prog_8_method_15_code ko_80 wl_6 0 kc_80 = true by decide +kernel)
set_option maxRecDepth 100000 in
theorem ck_81 : chkM 81 = true := (show chkL 81 prog_8_method_16_code ko_81 wl_6 0 kc_81 = true by decide +kernel)
set_option maxRecDepth 100000 in
theorem ck_82 : chkM 82 = true := (show chkL 82 prog_8_method_17_code ko_82 wl_6 0 kc_82 = true by decide +kernel)
set_option maxRecDepth 100000 in
theorem ck_83 : chkM 83 = true := (show chkL 83 prog_8_method_18_code ko_83 wl_6 0 kc_83 = true by decide +kernel)
set_option maxRecDepth 100000 in
theorem ck_84 : chkM 84 = true := (show chkL 84 prog_8_method_19_code ko_84 wl_6 0 kc_84 = true by decide +kernel)
set_option maxRecDepth 100000 in
theorem ck_85 : chkM 85 = true := (show chkL 85 prog_8_method_20_code ko_85 wl_6 0 kc_85 = true by decide +kernel)
set_option maxRecDepth 100000 in
theorem ck_86 : chkM 86 = true := (show chkL 86 prog_8_method_21_code ko_86 wl_6 0 kc_86 = true by decide +kernel)
set_option maxRecDepth 100000 in
theorem ck_87 : chkM 87 = true := (show chkL 87 prog_8_method_22_code ko_87 wl_6 0 kc_87 = true by decide +kernel)
set_option maxRecDepth 100000 in
theorem ck_88 : chkM 88 = true := (show chkL 88 prog_8_method_23_code ko_88 wl_6 0 kc_88 = true by decide +kernel)
set_option maxRecDepth 100000 in
theorem ck_89 : chkM 89 = true := (show chkL 89 prog_8_method_24_code ko_89 wl_6 0 kc_89 = true by decide +kernel)
set_option maxRecDepth 100000 in
theorem ck_90 : chkM 90 = true := (show chkL 90 prog_9_method_1_code ko_90 wl_7 0 kc_90 = true by decide +kernel)
set_option maxRecDepth 100000 in
theorem ck_91 : chkM 91 = true := (show chkL 91 prog_9_method_2_code ko_91 wl_7 0 kc_91 = true by decide +kernel)
set_option maxRecDepth 100000 in
theorem ck_92 : chkM 92 = true := (show chkL 92 prog_9_method_3_code ko_92 wl_7 0 kc_92 = true by decide +kernel)
set_option maxRecDepth 100000 in
theorem ck_93 : chkM 93 = true := (show chkL 93 prog_9_method_4_code ko_93 wl_7 0 kc_93 = true by decide +kernel)
set_option maxRecDepth 100000 in
theorem ck_94 : chkM 94 = true := (show chkL 94 prog_9_method_5_code ko_94 wl_7 0 kc_94 = true by decide +kernel)
set_option maxRecDepth 100000 in
theorem ck_95 : chkM 95 = true := (show chkL 95 prog_9_method_6_code ko_95 wl_7 0 kc_95 = true by decide +kernel)
set_option maxRecDepth 100000 in
theorem ck_96 : chkM 96 = true := (show chkL 96 prog_9_method_7_code ko_96 wl_7 0 kc_96 = true by decide +kernel)
set_option maxRecDepth 100000 in
theorem ck_97 : chkM 97 = true := (show chkL 97 prog_9_method_8_code ko_97 wl_7 0 kc_97 = true by decide +kernel)
set_option maxRecDepth 100000 in
theorem ck_98 : chkM 98 = true := (show chkL 98 prog_9_method_9_code ko_98 wl_7 0 kc_98 = true by decide +kernel)
set_option maxRecDepth 100000 in
theorem ck_99 : chkM 99 = true := (show chkL 99 prog_9_method_10_code ko_99 wl_7 0 kc_99 = true by decide +kernel)
set_option maxRecDepth 100000 in
theorem ck_100 : chkM 100 = true := (show chkL 100 prog_9_method_11_code ko_100 wl_7 0 kc_100 = true by decide +kernel)
set_option maxRecDepth 100000 in
theorem ck_101 : chkM 101 = true := (show chkL 101 prog_9_method_12_code ko_101 wl_7 0 kc_101 = true by decide +kernel)
set_option maxRecDepth 100000 in
theorem ck_102 : chkM 102 = true := (show chkL 102 prog_9_method_13_code ko_102 wl_7 0 kc_102 = true by decide +kernel)
set_option maxRecDepth 100000 in
theorem ck_103 : chkM 103 = true := (show chkL 103 prog_9_method_14_code ko_103 wl_7 0 kc_103 = true by decide +kernel)
set_option maxRecDepth 100000 in
theorem ck_104 : chkM 104 = true := (show chkL 104 prog_10_method_1_code ko_104 wl_8 0 kc_104 = true by decide +kernel)
set_option maxRecDepth 100000 in
theorem ck_105 : chkM 105 = true := (show chkL 105 prog_10_method_2_code ko_105 wl_8 0 kc_105 = true by decide +kernel)
set_option maxRecDepth 100000 in
theorem ck_106 : chkM 106 = true := (show chkL 106 prog_11_method_1_code ko_106 wl_9 0 kc_106 = true by decide +kernel)
set_option maxRecDepth 100000 in
theorem ck_107 : chkM 107 = true := (show chkL 107 prog_11_method_2_code ko_107 wl_9 0 kc_107 = true by decide +kernel)
set_option maxRecDepth 100000 in
theorem ck_108 : chkM 108 = true := (show chkL 108 prog_11_method_3_code ko_108 wl_9 0 kc_108 = true by decide +kernel)
set_option maxRecDepth 100000 in
theorem ck_109 : chkM 109 = true := (show chkL 109 prog_11_method_4_code ko_109 wl_9 0 kc_109 = true by decide +kernel)
set_option maxRecDepth 100000 in
theorem ck_110 : chkM 110 = true := (show chkL 110 prog_11_method_5_code ko_110 wl_9 0 kc_110 = true by decide +kernel)
set_option maxRecDepth 100000 in
theorem ck_111 : chkM 111 = true := (show chkL 111 prog_11_method_6_code ko_111 wl_9 0 kc_111 = true by decide +kernel)
set_option maxRecDepth 100000 in
theorem ck_112 : chkM 112 = true := (show chkL 112 prog_12_method_1_code ko_112 wl_10 0 kc_112 = true by decide +kernel)
set_option maxRecDepth 100000 in
theorem ck_113 : chkM 113 = true := (show chkL 113 prog_12_method_2_code ko_113 wl_10 0 kc_113 = true by decide +kernel)
set_option maxRecDepth 100000 in
theorem ck_114 : chkM 114 = true := (show chkL 114 prog_12_method_3_code ko_114 wl_10 0 kc_114 = true by decide +kernel)
set_option maxRecDepth 100000 in
theorem ck_115 : chkM 115 = true := (show chkL 115 prog_12_method_4_code ko_115 wl_10 0 kc_115 = true by decide +kernel)
set_option maxRecDepth 100000 in
theorem ck_116 : chkM 116 = true := (show chkL 116 prog_1_method_1_code ko_116 wl_11 0 kc_116 = true by decide +kernel)
set_option maxRecDepth 100000 in
theorem ck_117 : chkM 117 = true := (show chkL 117 prog_1_method_2_code ko_117 wl_11 0 kc_117 = true by decide +kernel)
set_option maxRecDepth 100000 in
theorem ck_118 : chkM 118 = true := (show chkL 118 prog_1_method_3_code ko_118 wl_11 0 kc_118 = true by decide +kernel)
set_option maxRecDepth 100000 in
theorem ck_119 : chkM 119 = true := (show chkL 119 prog_1_method_4_code ko_119 wl_11 0 kc_119 = true by decide +kernel)
set_option maxRecDepth 100000 in
theorem ck_120 : chkM 120 = true := (show chkL 120 prog_1_method_5_code ko_120 wl_11 0 kc_120 = true by decide +kernel)
set_option maxRecDepth 100000 in
theorem ck_121 : chkM 121 = true := (show chkL 121 prog_1_method_6_code ko_121 wl_11 0 kc_121 = true by decide +kernel)
set_option maxRecDepth 100000 in
theorem ck_122 : chkM 122 = true := (show chkL 122 prog_1_method_7_code ko_122 wl_11 0 kc_122 = true by decide +kernel)
set_option maxRecDepth 100000 in
theorem ck_123 : chkM 123 = true := (show chkL 123 prog_1_method_8_code ko_123 wl_11 0 kc_123 = true by decide +kernel)
set_option maxRecDepth 100000 in
theorem ck_124 : chkM 124 = true := (show chkL 124 prog_1_method_9_code ko_124 wl_11 0 kc_124 = true by decide +kernel)
set_option maxRecDepth 100000 in
theorem ck_125 : chkM 125 = true := (show chkL 125 prog_1_method_10_code ko_125 wl_11 0 kc_125 = true by decide +kernel)
set_option maxRecDepth 100000 in
theorem ck_126 : chkM 126 = true := (show chkL 126 prog_1_method_11_code ko_126 wl_11 0 kc_126 = true by decide +kernel)
set_option maxRecDepth 100000 in
theorem ck_127 : chkM 127 = true := (show chkL 127 prog_1_method_12_code ko_127 wl_11 0 kc_127 = true by decide +kernel)
set_option maxRecDepth 100000 in
theorem ck_128 : chkM 128 = true := (show chkL 128 prog_1_method_13_code ko_128 wl_11 0 kc_128 = true by decide +kernel)
set_option maxRecDepth 100000 in
theorem ck_129 : chkM 129 = true := (show chkL 129 prog_1_method_14_code ko_129 wl_11 0 kc_129 = true by decide +kernel)
set_option maxRecDepth 100000 in
theorem ck_130 : chkM 130 = true := (show chkL 130 prog_1_method_15_code ko_130 wl_11 0 kc_130 = true by decide +kernel)
set_option maxRecDepth 100000 in
theorem ck_131 : chkM 131 = true := (show chkL 131 prog_1_method_16_code ko_131 wl_11 0 kc_131 = true by decide +kernel)
set_option maxRecDepth 100000 in
theorem ck_132 : chkM 132 = true := (show chkL 132 prog_1_method_17_code ko_132 wl_11 0 kc_132 = true by decide +kernel)
set_option maxRecDepth 100000 in
theorem ck_133 : chkM 133 = true := (show chkL 133 prog_1_method_18_code ko_133 wl_11 0 kc_133 = true by decide +kernel)
set_option maxRecDepth 100000 in
theorem ck_134 : chkM 134 = true := (show chkL 134 prog_1_method_19_code ko_134 wl_11 0 kc_134 = true by decide +kernel)
set_option maxRecDepth 100000 in
theorem ck_135 : chkM 135 = true := (show chkL 135 prog_1_method_20_code ko_135 wl_11 0 kc_135 = true by decide +kernel)
set_option maxRecDepth 100000 in
theorem ck_136 : chkM 136 = true := (show chkL 136 prog_1_method_21_code ko_136 wl_11 0 kc_136 = true by decide +kernel)
set_option maxRecDepth 100000 in
theorem ck_137 : chkM 137 = true := (show chkL 137 prog_1_method_22_code ko_137 wl_11 0 kc_137 = true by decide +kernel)
set_option maxRecDepth 100000 in
theorem ck_138 : chkM 138 = true := (show chkL 138 prog_1_method_23_code ko_138 wl_11 0 kc_138 = true by decide +kernel)
set_option maxRecDepth 100000 in
theorem ck_139 : chkM 139 = true := (show chkL 139 prog_1_method_24_code ko_139 wl_11 0 kc_139 = true by decide +kernel)
set_option maxRecDepth 100000 in
theorem ck_140 : chkM 140 = true := (show chkL 140 prog_1_method_25_code ko_140 wl_11 0 kc_140 = true by decide +kernel)
end
section
set_option maxRecDepth 100000 in
theorem ck_141 : chkM 141 = true := (show chkL 141 prog_1_method_26_code ko_141 wl_11 0 kc_141 = true by decide +kernel)
set_option maxRecDepth 100000 in
theorem ck_142 : chkM 142 = true := (show chkL 142 prog_1_method_27_code ko_142 wl_11 0 kc_142 = true by decide +kernel)
set_option maxRecDepth 100000 in
theorem ck_143 : chkM 143 = true := (show chkL 143 prog_1_method_28_code ko_143 wl_11 0 kc_143 = true by decide +kernel)
set_option maxRecDepth 100000 in
theorem ck_144 : chkM 144 = true := (show chkL 144 prog_1_method_29_code ko_144 wl_11 0 kc_144 = true by decide +kernel)
set_option maxRecDepth 100000 in
theorem ck_145 : chkM 145 = true := (show chkL 145 prog_1_method_30_code ko_145 wl_11 0 kc_145 = true by decide +kernel)
set_option maxRecDepth 100000 in
theorem ck_146 : chkM 146 = true := (show chkL 146 prog_1_method_31_code ko_146 wl_11 0 kc_146 = true by decide +kernel)
set_option maxRecDepth 100000 in
theorem ck_147 : chkM 147 = true := (show chkL 147 prog_1_method_32_code ko_147 wl_11 0 kc_147 = true by decide +kernel)
set_option maxRecDepth 100000 in
theorem ck_148 : chkM 148 = true := (show chkL 148 prog_1_method_33_code ko_148 wl_11 0 kc_148 = true by decide +kernel)
set_option maxRecDepth 100000 in
theorem ck_149 : chkM 149 = true := (show chkL 149 prog_1_method_34_code ko_149 wl_11 0 kc_149 = true by decide +kernel)
set_option maxRecDepth 100000 in
theorem ck_150 : chkM 150 = true := (show chkL 150 prog_1_method_35_code ko_150 wl_11 0 kc_150 = true by decide +kernel)
set_option maxRecDepth 100000 in
theorem ck_151 : chkM 151 = true := (show chkL 151 prog_1_method_36_code ko_151 wl_11 0 kc_151 = true by decide +kernel)
set_option maxRecDepth 100000 in
theorem ck_152 : chkM 152 = true := (show chkL 152 prog_1_method_37_code ko_152 wl_11 0 kc_152 = true by decide +kernel)
set_option maxRecDepth 100000 in
theorem ck_153 : chkM 153 = true := (show chkL 153 prog_1_method_38_code ko_153 wl_11 0 kc_153 = true by decide +kernel)
set_option maxRecDepth 100000 in
theorem ck_154 : chkM 154 = true := (show chkL 154 prog_1_method_39_code ko_154 wl_11 0 kc_154 = true by decide +kernel)
set_option maxRecDepth 100000 in
theorem ck_155 : chkM 155 = true := (show chkL 155 prog_1_method_40_code ko_155 wl_11 0 kc_155 = true by decide +kernel)
set_option maxRecDepth 100000 in
theorem ck_156 : chkM 156 = true := (show chkL 156 prog_1_method_41_code ko_156 wl_11 0 kc_156 = true by decide +kernel)
set_option maxRecDepth 100000 in
theorem ck_157 : chkM 157 = true := (show chkL 157 prog_1_method_42_code ko_157 wl_11 0 kc_157 = true by decide +kernel)
set_option maxRecDepth 100000 in
theorem ck_158 : chkM 158 = true := (show chkL 158 prog_1_method_43_code ko_158 wl_11 0 kc_158 = true by decide +kernel)
set_option maxRecDepth 100000 in
theorem ck_159 : chkM 159 = true := (show chkL 159 prog_1_method_44_code ko_159 wl_11 0 kc_159 = true by decide +kernel)
set_option maxRecDepth 100000 in
theorem ck_160 : chkM 160 = true := (show chkL 160 prog_1_method_45_code ko_160 wl_11 0 kc_160 = true by decide +kernel)
set_option maxRecDepth 100000 in
theorem ck_161 : chkM 161 = true := (show chkL 161 prog_1_method_46_code ko_161 wl_11 0 kc_161 = true by decide +kernel)
set_option maxRecDepth 100000 in
theorem ck_162 : chkM 162 = true := (show chkL 162 prog_1_method_47_code ko_162 wl_11 0 kc_162 = true by decide +kernel)
set_option maxRecDepth 100000 in
theorem ck_163 : chkM 163 = true := (show chkL 163 prog_1_method_48_code ko_163 wl_11 0 kc_163 = true by decide +kernel)
set_option maxRecDepth 100000 in
theorem ck_164 : chkM 164 = true := (show chkL 164 prog_1_method_49_code ko_164 wl_11 0 kc_164 = true by decide +kernel)
set_option maxRecDepth 100000 in
theorem ck_165 : chkM 165 = true := (show chkL 165 prog_1_method_50_code ko_165 wl_11 0 kc_165 = true by decide +kernel)
set_option maxRecDepth 100000 in
theorem ck_166 : chkM 166 = true := (show chkL 166 prog_1_method_51_code ko_166 wl_11 0 kc_166 = true by decide +kernel)
set_option maxRecDepth 100000 in
theorem ck_167 : chkM 167 = true := (show chkL 167 prog_1_method_52_code ko_167 wl_11 0 kc_167 = true by decide +kernel)
set_option maxRecDepth 100000 in
theorem ck_168 : chkM 168 = true := (show chkL 168 prog_1_method_53_code ko_168 wl_11 0 kc_168 = true by decide +kernel)
set_option maxRecDepth 100000 in
theorem ck_169 : chkM 169 = true := (show chkL 169 prog_1_method_54_code ko_169 wl_11 0 kc_169 = true by decide +kernel)
set_option maxRecDepth 100000 in
theorem ck_170 : chkM 170 = true := (show chkL 170 prog_14_method_1_code ko_170 wl_12 0 kc_170 = true by decide +kernel)
set_option maxRecDepth 100000 in
theorem ck_171 : chkM 171 = true := (show chkL 171 prog_14_method_2_code ko_171 wl_12 0 kc_171 = true by decide +kernel)
set_option maxRecDepth 100000 in
theorem ck_172 : chkM 172 = true := (show chkL 172 prog_14_method_3_code ko_172 wl_12 0 kc_172 = true by decide +kernel)
set_option maxRecDepth 100000 in
theorem ck_173 : chkM 173 = true := (show chkL 173 prog_14_method_4_code ko_173 wl_12 0 kc_173 = true by decide +kernel)
set_option maxRecDepth 100000 in
theorem ck_174 : chkM 174 = true := (show chkL 174 prog_14_method_5_code ko_174 wl_12 0 kc_174 = true by decide +kernel)
set_option maxRecDepth 100000 in
theorem ck_175 : chkM 175 = true := (show chkL 175 prog_14_method_6_code ko_175 wl_12 0 kc_175 = true by decide +kernel)
set_option maxRecDepth 100000 in
theorem ck_176 : chkM 176 = true := (show chkL 176 prog_14_method_7_code ko_176 wl_12 0 kc_176 = true by decide +kernel)
set_option maxRecDepth 100000 in
theorem ck_177 : chkM 177 = true := (show chkL 177 prog_14_method_8_code ko_177 wl_12 0 kc_177 = true by decide +kernel)
set_option maxRecDepth 100000 in
theorem ck_178 : chkM 178 = true := (show chkL 178 prog_14_method_9_code ko_178 wl_12 0 kc_178 = true by decide +kernel)
set_option maxRecDepth 100000 in
theorem ck_179 : chkM 179 = true := (show chkL 179 prog_14_method_10_code ko_179 wl_12 0 kc_179 = true by decide +kernel)
set_option maxRecDepth 100000 in
theorem ck_180 : chkM 180 = true := (show chkL 180 prog_14_method_11_code ko_180 wl_12 0 kc_180 = true by decide +kernel)
set_option maxRecDepth 100000 in
theorem ck_181 : chkM 181 = true := (show chkL 181 prog_14_method_12_code ko_181 wl_12 0 kc_181 = true by decide +kernel)
set_option maxRecDepth 100000 in
theorem ck_182 : chkM 182 = true := (show chkL 182 prog_14_method_13_code ko_182 wl_12 0 kc_182 = true by decide +kernel)
set_option maxRecDepth 100000 in
theorem ck_183 : chkM 183 = true := (show chkL 183 prog_14_method_14_code ko_183 wl_12 0 kc_183 = true by decide +kernel)
set_option maxRecDepth 100000 in
theorem ck_184 : chkM 184 = true := (show chkL 184 prog_14_method_15_code ko_184 wl_12 0 kc_184 = true by decide +kernel)
set_option maxRecDepth 100000 in
theorem ck_185 : chkM 185 = true := (show chkL 185 prog_14_method_16_code ko_185 wl_12 0 kc_185 = true by decide +kernel)
set_option maxRecDepth 100000 in
theorem ck_186 : chkM 186 = true := (show chkL 186 prog_14_method_17_code ko_186 wl_12 0 kc_186 = true by decide +kernel)
set_option maxRecDepth 100000 in
theorem ck_187 : chkM 187 = true := (show chkL 187 prog_14_method_18_code ko_187 wl_12 0 kc_187 = true by decide +kernel)
set_option maxRecDepth 100000 in
theorem ck_188 : chkM 188 = true := (show chkL 188 prog_14_method_19_code ko_188 wl_12 0 kc_188 = true by decide +kernel)
set_option maxRecDepth 100000 in
theorem ck_189 : chkM 189 = true := (show chkL 189 prog_14_method_20_code ko_189 wl_12 0 kc_189 = true by decide +kernel)
set_option maxRecDepth 100000 in
theorem ck_190 : chkM 190 = true := (show chkL 190 prog_14_method_21_code ko_190 wl_12 0 kc_190 = true by decide +kernel)
set_option maxRecDepth 100000 in
theorem ck_191 : chkM 191 = true := (show chkL 191 prog_14_method_22_code ko_191 wl_12 0 kc_191 = true by decide +kernel)
set_option maxRecDepth 100000 in
theorem ck_192 : chkM 192 = true := (show chkL 192 prog_14_method_23_code ko_192 wl_12 0 kc_192 = true by decide +kernel)
set_option maxRecDepth 100000 in
theorem ck_193 : chkM 193 = true := (show chkL 193 prog_14_method_24_code ko_193 wl_12 0 kc_193 = true by decide +kernel)
set_option maxRecDepth 100000 in
theorem ck_194 : chkM 194 = true := (show chkL 194 prog_14_method_25_code ko_194 wl_12 0 kc_194 = true by decide +kernel)
set_option maxRecDepth 100000 in
theorem ck_195 : chkM 195 = true := (show chkL 195 prog_14_method_26_code ko_195 wl_12 0 kc_195 = true by decide +kernel)
set_option maxRecDepth 100000 in
theorem ck_196 : chkM 196 = true := (show chkL 196 prog_14_method_27_code ko_196 wl_12 0 kc_196 = true by decide +kernel)
set_option maxRecDepth 100000 in
theorem ck_197 : chkM 197 = true := (show chkL 197 prog_14_method_28_code ko_197 wl_12 0 kc_197 = true by decide +kernel)
set_option maxRecDepth 100000 in
theorem ck_198 : chkM 198 = true := (show chkL 198 prog_14_method_29_code ko_198 wl_12 0 kc_198 = true by decide +kernel)
set_option maxRecDepth 100000 in
theorem ck_199 : chkM 199 = true := (show chkL 199 prog_14_method_30_code ko_199 wl_12 0 kc_199 = true by decide +kernel)
set_option maxRecDepth 100000 in
theorem ck_200 : chkM 200 = true := (show chkL 200 prog_14_method_31_code ko_200 wl_12 0 kc_200 = true by decide +kernel)
set_option maxRecDepth 100000 in
theorem ck_201 : chkM 201 = true := (show chkL 201 prog_14_method_32_code ko_201 wl_12 0 kc_201 = true by decide +kernel)
set_option maxRecDepth 100000 in
theorem ck_202 : chkM 202 = true := (show chkL 202 prog_14_method_33_code ko_202 wl_12 0 kc_202 = true by decide +kernel)
set_option maxRecDepth 100000 in
theorem ck_203 : chkM 203 = true := (show chkL 203 prog_14_method_34_code ko_203 wl_12 0 kc_203 = true by decide +kernel)
set_option maxRecDepth 100000 in
theorem ck_204 : chkM 204 = true := (show chkL 204 prog_14_method_35_code ko_204 wl_12 0 kc_204 = true by decide +kernel)
set_option maxRecDepth 100000 in
theorem ck_205 : chkM 205 = true := (show chkL 205 prog_14_method_36_code ko_205 wl_12 0 kc_205 = true by decide +kernel)
set_option maxRecDepth 100000 in
theorem ck_206 : chkM 206 = true := (show chkL 206 prog_14_method_37_code ko_206 wl_12 0 kc_206 = true by decide +kernel)
end
section
set_option maxRecDepth 100000 in
theorem ck_207 : chkM 207 = true := (show chkL 207 prog_14_method_38_code ko_207 wl_12 0 kc_207 = true by decide +kernel)
set_option maxRecDepth 100000 in
theorem ck_208 : chkM 208 = true := (show chkL 208 prog_14_method_39_code ko_208 wl_12 0 kc_208 = true by decide +kernel)
set_option maxRecDepth 100000 in
theorem ck_209 : chkM 209 = true := (show chkL 209 prog_14_method_40_code ko_209 wl_12 0 kc_209 = true by decide +kernel)
set_option maxRecDepth 100000 in
theorem ck_210 : chkM 210 = true := (show chkL 210 prog_14_method_41_code ko_210 wl_12 0 kc_210 = true by decide +kernel)
set_option maxRecDepth 100000 in
theorem ck_211 : chkM 211 = true := (show chkL 211 prog_14_method_42_code ko_211 wl_12 0 kc_211 = true by decide +kernel)
set_option maxRecDepth 100000 in
theorem ck_212 : chkM 212 = true := (show chkL 212 prog_14_method_43_code ko_212 wl_12 0 kc_212 = true by decide +kernel)
set_option maxRecDepth 100000 in
theorem ck_213 : chkM 213 = true := (show chkL 213 prog_14_method_44_code ko_213 wl_12 0 kc_213 = true by decide +kernel)
set_option maxRecDepth 100000 in
theorem ck_214 : chkM 214 = true := (show chkL 214 prog_14_method_45_code ko_214 wl_12 0 kc_214 = true by decide +kernel)
set_option maxRecDepth 100000 in
theorem ck_215 : chkM 215 = true := (show chkL 215 prog_14_method_46_code ko_215 wl_12 0 kc_215 = true by decide +kernel)
set_option maxRecDepth 100000 in
theorem ck_216 : chkM 216 = true := (show chkL 216 prog_14_method_47_code ko_216 wl_12 0 kc_216 = true by decide +kernel)
set_option maxRecDepth 100000 in
theorem ck_217 : chkM 217 = true := (show chkL 217 prog_14_method_48_code ko_217 wl_12 0 kc_217 = true by decide +kernel)
set_option maxRecDepth 100000 in
theorem ck_218 : chkM 218 = true := (show chkL 218 prog_14_method_49_code ko_218 wl_12 0 kc_218 = true by decide +kernel)
set_option maxRecDepth 100000 in
theorem ck_219 : chkM 219 = true := (show chkL 219 prog_14_method_50_code ko_219 wl_12 0 kc_219 = true by decide +kernel)
set_option maxRecDepth 100000 in
theorem ck_220 : chkM 220 = true := (show chkL 220 prog_14_method_51_code ko_220 wl_12 0 kc_220 = true by decide +kernel)
set_option maxRecDepth 100000 in
theorem ck_221 : chkM 221 = true := (show chkL 221 prog_14_method_52_code ko_221 wl_12 0 kc_221 = true by decide +kernel)
set_option maxRecDepth 100000 in
theorem ck_222 : chkM 222 = true := (show chkL 222 prog_14_method_53_code ko_222 wl_12 0 kc_222 = true by decide +kernel)
set_option maxRecDepth 100000 in
theorem ck_223 : chkM 223 = true := (show chkL 223 prog_14_method_54_code ko_223 wl_12 0 kc_223 = true by decide +kernel)
set_option maxRecDepth 100000 in
theorem ck_224 : chkM 224 = true := (show chkL 224 prog_14_method_55_code ko_224 wl_12 0 kc_224 = true by decide +kernel)
set_option maxRecDepth 100000 in
theorem ck_225 : chkM 225 = true := (show chkL 225 prog_14_method_56_code ko_225 wl_12 0 kc_225 = true by decide +kernel)
set_option maxRecDepth 100000 in
theorem ck_226 : chkM 226 = true := (show chkL 226 prog_14_method_57_code ko_226 wl_12 0 kc_226 = true by decide +kernel)
set_option maxRecDepth 100000 in
theorem ck_227 : chkM 227 = true := (show chkL 227 prog_14_method_58_code ko_227 wl_12 0 kc_227 = true by decide +kernel)
set_option maxRecDepth 100000 in
theorem ck_228 : chkM 228 = true := (show chkL 228 prog_14_method_59_code ko_228 wl_12 0 kc_228 = true by decide +kernel)
set_option maxRecDepth 100000 in
theorem ck_229 : chkM 229 = true := (show chkL 229 prog_14_method_60_code ko_229 wl_12 0 kc_229 = true by decide +kernel)
set_option maxRecDepth 100000 in
theorem ck_230 : chkM 230 = true := (show chkL 230 prog_14_method_61_code ko_230 wl_12 0 kc_230 = true by decide +kernel)
set_option maxRecDepth 100000 in
theorem ck_231 : chkM 231 = true := (show chkL 231 prog_14_method_62_code ko_231 wl_12 0 kc_231 = true by decide +kernel)
set_option maxRecDepth 100000 in
theorem ck_232 : chkM 232 = true := (show chkL 232 prog_14_method_63_code ko_232 wl_12 0 kc_232 = true by decide +kernel)
set_option maxRecDepth 100000 in
theorem ck_233 : chkM 233 = true := (show chkL 233 prog_14_method_64_code ko_233 wl_12 0 kc_233 = true by decide +kernel)
set_option maxRecDepth 100000 in
theorem ck_234 : chkM 234 = true := (show chkL 234 prog_14_method_65_code ko_234 wl_12 0 kc_234 = true by decide +kernel)
set_option maxRecDepth 100000 in
theorem ck_235 : chkM 235 = true := (show chkL 235 prog_14_method_66_code ko_235 wl_12 0 kc_235 = true by decide +kernel)
set_option maxRecDepth 100000 in
theorem ck_236 : chkM 236 = true := (show chkL 236 prog_14_method_67_code ko_236 wl_12 0 kc_236 = true by decide +kernel)
set_option maxRecDepth 100000 in
theorem ck_237 : chkM 237 = true := (show chkL 237 prog_14_method_68_code ko_237 wl_12 0 kc_237 = true by decide +kernel)
set_option maxRecDepth 100000 in
theorem ck_238 : chkM 238 = true := (show chkL 238 prog_14_method_69_code ko_238 wl_12 0 kc_238 = true by decide +kernel)
set_option maxRecDepth 100000 in
theorem ck_239 : chkM 239 = true := (show chkL 239 prog_14_method_70_code ko_239 wl_12 0 kc_239 = true by decide +kernel)
set_option maxRecDepth 100000 in
theorem ck_240 : chkM 240 = true := (show chkL 240 prog_14_method_71_code ko_240 wl_12 0 kc_240 = true by decide +kernel)
set_option maxRecDepth 100000 in
theorem ck_241 : chkM 241 = true := (show chkL 241 prog_14_method_72_code ko_241 wl_12 0 kc_241 = true by decide +kernel)
set_option maxRecDepth 100000 in
theorem ck_242 : chkM 242 = true := (show chkL 242 prog_14_method_73_code ko_242 wl_12 0 kc_242 = true by decide +kernel)
set_option maxRecDepth 100000 in
theorem ck_243 : chkM 243 = true := (show chkL 243 prog_14_method_74_code ko_243 wl_12 0 kc_243 = true by decide +kernel)
set_option maxRecDepth 100000 in
theorem ck_244 : chkM 244 = true := (show chkL 244 prog_14_method_75_code ko_244 wl_12 0 kc_244 = true by decide +kernel)
set_option maxRecDepth 100000 in
theorem ck_245 : chkM 245 = true := (show chkL 245 prog_14_method_76_code ko_245 wl_12 0 kc_245 = true by decide +kernel)
set_option maxRecDepth 100000 in
theorem ck_246 : chkM 246 = true := (show chkL 246 prog_14_method_77_code ko_246 wl_12 0 kc_246 = true by decide +kernel)
set_option maxRecDepth 100000 in
theorem ck_247 : chkM 247 = true := (show chkL 247 prog_14_method_78_code ko_247 wl_12 0 kc_247 = true by decide +kernel)
set_option maxRecDepth 100000 in
theorem ck_248 : chkM 248 = true := (show chkL 248 prog_14_method_79_code ko_248 wl_12 0 kc_248 = true by decide +kernel)
set_option maxRecDepth 100000 in
theorem ck_249 : chkM 249 = true := (show chkL 249 prog_14_method_80_code ko_249 wl_12 0 kc_249 = true by decide +kernel)
set_option maxRecDepth 100000 in
theorem ck_250 : chkM 250 = true := (show chkL 250 prog_14_method_81_code ko_250 wl_12 0 kc_250 = true by decide +kernel)
set_option maxRecDepth 100000 in
theorem ck_251 : chkM 251 = true := (show chkL 251 prog_14_method_82_code ko_251 wl_12 0 kc_251 = true by decide +kernel)
end
section
set_option maxRecDepth 100000 in
theorem ck_252 : chkM 252 = true := (show chkL 252 prog_14_method_83_code ko_252 wl_12 0 kc_252 = true by decide +kernel)
set_option maxRecDepth 100000 in
theorem ck_253 : chkM 253 = true := (show chkL 253 prog_14_method_84_code ko_253 wl_12 0 kc_253 = true by decide +kernel)
set_option maxRecDepth 100000 in
theorem ck_254 : chkM 254 = true := (show chkL 254 prog_14_method_85_code ko_254 wl_12 0 kc_254 = true by decide +kernel)
set_option maxRecDepth 100000 in
theorem ck_255 : chkM 255 = true := (show chkL 255 prog_14_method_86_code ko_255 wl_12 0 kc_255 = true by decide +kernel)
set_option maxRecDepth 100000 in
theorem ck_256 : chkM 256 = true := (show chkL 256 prog_14_method_87_code ko_256 wl_12 0 kc_256 = true by decide +kernel)
set_option maxRecDepth 100000 in
theorem ck_257 : chkM 257 = true := (show chkL 257 prog_14_method_88_code ko_257 wl_12 0 kc_257 = true by decide +kernel)
set_option maxRecDepth 100000 in
theorem ck_258 : chkM 258 = true := (show chkL 258 prog_14_method_89_code ko_258 wl_12 0 kc_258 = true by decide +kernel)
set_option maxRecDepth 100000 in
theorem ck_259 : chkM 259 = true := (show chkL 259 prog_14_method_90_code ko_259 wl_12 0 kc_259 = true by decide +kernel)
set_option maxRecDepth 100000 in
theorem ck_260 : chkM 260 = true := (show chkL 260 prog_14_method_91_code ko_260 wl_12 0 kc_260 = true by decide +kernel)
set_option maxRecDepth 100000 in
theorem ck_261 : chkM 261 = true := (show chkL 261 prog_14_method_92_code ko_261 wl_12 0 kc_261 = true by decide +kernel)
set_option maxRecDepth 100000 in
theorem ck_262 : chkM 262 = true := (show chkL 262 prog_14_method_93_code ko_262 wl_12 0 kc_262 = true by decide +kernel)
set_option maxRecDepth 100000 in
theorem ck_263 : chkM 263 = true := (show chkL 263 prog_14_method_94_code ko_263 wl_12 0 kc_263 = true by decide +kernel)
set_option maxRecDepth 100000 in
theorem ck_264 : chkM 264 = true := (show chkL 264 prog_14_method_95_code ko_264 wl_12 0 kc_264 = true by decide +kernel)
set_option maxRecDepth 100000 in
theorem ck_265 : chkM 265 = true := (show chkL 265 prog_14_method_96_code ko_265 wl_12 0 kc_265 = true by decide +kernel)
set_option maxRecDepth 100000 in
theorem ck_266 : chkM 266 = true := (show chkL 266 prog_14_method_97_code ko_266 wl_12 0 kc_266 = true by decide +kernel)
set_option maxRecDepth 100000 in
theorem ck_267 : chkM 267 = true := (show chkL 267 prog_14_method_98_code ko_267 wl_12 0 kc_267 = true by decide +kernel)
set_option maxRecDepth 100000 in
theorem ck_268 : chkM 268 = true := (show chkL 268 prog_14_method_99_code ko_268 wl_12 0 kc_268 = true by decide +kernel)
set_option maxRecDepth 100000 in
theorem ck_269 : chkM 269 = true := (show chkL 269 prog_14_method_100_code ko_269 wl_12 0 kc_269 = true by decide +kernel)
set_option maxRecDepth 100000 in
theorem ck_270 : chkM 270 = true := (show chkL 270 prog_14_method_101_code ko_270 wl_12 0 kc_270 = true by decide +kernel)
set_option maxRecDepth 100000 in
theorem ck_271 : chkM 271 = true := (show chkL 271 prog_14_method_102_code ko_271 wl_12 0 kc_271 = true by decide +kernel)
set_option maxRecDepth 100000 in
theorem ck_272 : chkM 272 = true := (show chkL 272 prog_14_method_103_code ko_272 wl_12 0 kc_272 = true by decide +kernel)
set_option maxRecDepth 100000 in
theorem ck_273 : chkM 273 = true := (show chkL 273 prog_14_method_104_code ko_273 wl_12 0 kc_273 = true by decide +kernel)
set_option maxRecDepth 100000 in
theorem ck_274 : chkM 274 = true := (show chkL 274 prog_14_method_105_code ko_274 wl_12 0 kc_274 = true by decide +kernel)
set_option maxRecDepth 100000 in
theorem ck_275 : chkM 275 = true := (show chkL 275 prog_14_method_106_code ko_275 wl_12 0 kc_275 = true by decide +kernel)
set_option maxRecDepth 100000 in
theorem ck_276 : chkM 276 = true := (show chkL 276 prog_14_method_107_code ko_276 wl_12 0 kc_276 = true by decide +kernel)
set_option maxRecDepth 100000 in
theorem ck_277 : chkM 277 = true := (show chkL 277 prog_14_method_108_code ko_277 wl_12 0 kc_277 = true by decide +kernel)
set_option maxRecDepth 100000 in
theorem ck_278 : chkM 278 = true := (show chkL 278 prog_14_method_109_code ko_278 wl_12 0 kc_278 = true by decide +kernel)
set_option maxRecDepth 100000 in
theorem ck_279 : chkM 279 = true := (show chkL 279 prog_14_method_110_code ko_279 wl_12 0 kc_279 = true by decide +kernel)
set_option maxRecDepth 100000 in
theorem ck_280 : chkM 280 = true := (show chkL 280 prog_14_method_111_code ko_280 wl_12 0 kc_280 = true by decide +kernel)
set_option maxRecDepth 100000 in
theorem ck_281 : chkM 281 = true := (show chkL 281 prog_14_method_112_code ko_281 wl_12 0 kc_281 = true by decide +kernel)
set_option maxRecDepth 100000 in
theorem ck_282 : chkM 282 = true := (show chkL 282 prog_14_method_113_code ko_282 wl_12 0 kc_282 = true by decide +kernel)
set_option maxRecDepth 100000 in
theorem ck_283 : chkM 283 = true := (show chkL 283 prog_16_method_48_code ko_283 wl_13 0 kc_283 = true by decide +kernel)
set_option maxRecDepth 100000 in
theorem ck_284 : chkM 284 = true := (show chkL 284 prog_16_method_49_code ko_284 wl_13 0 kc_284 = true by decide +kernel)
set_option maxRecDepth 100000 in
theorem ck_285 : chkM 285 = true := (show chkL 285 prog_17_method_59_code ko_285 [] 0 kc_285 = true by decide +kernel)
set_option maxRecDepth 100000 in
theorem ck_286 : chkM 286 = true := (show chkL 286 prog_17_method_65_code ko_286 [] 0 kc_286 = true by decide +kernel)
set_option maxRecDepth 100000 in
theorem ck_287 : chkM 287 = true := (show chkL 287 prog_17_method_66_code ko_287 [] 0 kc_287 = true by decide +kernel)
set_option maxRecDepth 100000 in
theorem ck_288 : chkM 288 = true := (show chkL 288 prog_17_method_69_code ko_288 [] 0 kc_288 = true by decide +kernel)
set_option maxRecDepth 100000 in
theorem ck_289 : chkM 289 = true := (show chkL 289 prog_17_method_70_code ko_289 [] 0 kc_289 = true by decide +kernel)
set_option maxRecDepth 100000 in
theorem ck_290 : chkM 290 = true := (show chkL 290 prog_18_method_54_code ko_290 wl_14 0 kc_290 = true by decide +kernel)
set_option maxRecDepth 100000 in
theorem ck_291 : chkM 291 = true := (show chkL 291 prog_18_method_56_code ko_291 wl_14 0 kc_291 = true by decide +kernel)
set_option maxRecDepth 100000 in
theorem ck_292 : chkM 292 = true := (show chkL 292 prog_18_method_79_code ko_292 wl_14 0 kc_292 = true by decide +kernel)
set_option maxRecDepth 100000 in
theorem ck_293 : chkM 293 = true := (show chkL 293 prog_18_method_80_code ko_293 wl_14 0 kc_293 = true by decide +kernel)
set_option maxRecDepth 100000 in
theorem ck_294 : chkM 294 = true := (show chkL 294 prog_18_method_152_code ko_294 wl_14 0 kc_294 = true by decide +kernel)
set_option maxRecDepth 100000 in
theorem ck_295 : chkM 295 = true := (show chkL 295 prog_18_method_154_code ko_295 wl_14 0 kc_295 = true by decide +kernel)
set_option maxRecDepth 100000 in
theorem ck_296 : chkM 296 = true := (show chkL 296 prog_18_method_155_code ko_296 wl_14 0 kc_296 = true by decide +kernel)
set_option maxRecDepth 100000 in
theorem ck_297 : chkM 297 = true := (show chkL 297 prog_19_method_2_code ko_297 wl_15 0 kc_297 = true by decide +kernel)
set_option maxRecDepth 100000 in
theorem ck_298 : chkM 298 = true := (show chkL 298 prog_19_method_4_code ko_298 wl_15 0 kc_298 = true by decide +kernel)
set_option maxRecDepth 100000 in
theorem ck_299 : chkM 299 = true := (show chkL 299 prog_19_method_22_code ko_299 wl_15 0 kc_299 = true by decide +kernel)
set_option maxRecDepth 100000 in
theorem ck_300 : chkM 300 = true := (show chkL 300 prog_19_method_23_code ko_300 wl_15 0 kc_300 = true by decide +kernel)
set_option maxRecDepth 100000 in
theorem ck_301 : chkM 301 = true := (show chkL 301 prog_22_method_11_code ko_301 [] 0 kc_301 = true by decide +kernel)
end
section
set_option maxRecDepth 100000 in
theorem ck_302_0 : chkL 302 code ko_302 wl_16 0 kc_302_0 = true := by decide +kernel
set_option maxRecDepth 100000 in
theorem ck_302_1 : chkL 302 code ko_302 wl_16 150 kc_302_1 = true := by decide +kernel
set_option maxRecDepth 100000 in
theorem ck_302_2 : chkL 302 code ko_302 wl_16 300 kc_302_2 = true := by decide +kernel
set_option maxRecDepth 100000 in
theorem ck_302_3 : chkL 302 code ko_302 wl_16 450 kc_302_3 = true := by decide +kernel
set_option maxRecDepth 100000 in
theorem ck_302_4 : chkL 302 code ko_302 wl_16 600 kc_302_4 = true := by decide +kernel
set_option maxRecDepth 100000 in
theorem ck_302_5 : chkL 302 code ko_302 wl_16 750 kc_302_5 = true := by decide +kernel
set_option maxRecDepth 100000 in
theorem ck_302_6 : chkL 302 code ko_302 wl_16 900 kc_302_6 = true := by decide +kernel
set_option maxRecDepth 100000 in
theorem ck_302_7 : chkL 302 code ko_302 wl_16 1050 kc_302_7 = true := by decide +kernel
set_option maxRecDepth 100000 in
theorem ck_302 : chkM 302 = true := (show chkL 302 code ko_302 wl_16 0 kc_302 = true from chkL_app _ _ _ _ _ _ _ ck_302_0 (chkL_app _ _ _ _ _ _ _ ck_302_1 (chkL_app _ _ _ _ _ _ _ ck_302_2 (chkL_app _ _ _ _ _ _ _ ck_302_3 (chkL_app _ _ _ _ _ _ _ ck_302_4 (chkL_app _ _ _ _ _ _ _ ck_302_5 (chkL_app _ _ _ _ _ _ _ ck_302_6 (ck_302_7))))))))
end
section
def tgT : List Nat := [0, 0, 0, 0, 0, 0, 1, 1, 1, 1, 1, 1, 1, 1, 1, 1, 1, 1, 1, 1, 1, 1, 1, 2, 2, 2, 2, 2, 2, 2, 2, 2, 2, 2, 3, 3, 3, 3, 3, 3, 3, 3, 3, 3, 4, 4, 4, 4, 4, 4, 4, 4, 4, 4, 4, 4, 4, 4, 4, 4, 4, 4, 5, 5, 5, 5, 6, 6, 6, 6, 6, 6, 6, 6, 6, 6, 6, 6, 6, 6, 6, 6, 6, 6, 6, 6, 6, 6, 6, 6, 7, 7, 7, 7, 7, 7, 7, 7, 7, 7, 7, 7, 7, 7, 8, 8, 9, 9, 9, 9, 9, 9, 10, 10, 10, 10, 11, 11, 11, 11, 11, 11, 11, 11, 11, 11, 11, 11, 11, 11, 11, 11, 11, 11, 11, 11, 11, 11, 11, 11, 11, 11, 11, 11, 11, 11, 11, 11, 11, 11, 11, 11, 11, 11, 11, 11, 11, 11, 11, 11, 11, 11, 11, 11, 11, 11, 11, 11, 11, 11, 12, 12, 12, 12, 12, 12, 12, 12, 12, 12, 12, 12, 12, 12, 12, 12, 12, 12, 12, 12, 12, 12, 12, 12, 12, 12, 12, 12, 12, 12, 12, 12, 12, 12, 12, 12, 12, 12, 12, 12, 12, 12, 12, 12, 12, 12, 12, 12, 12, 12, 12, 12, 12, 12, 12, 12, 12, 12, 12, 12, 12, 12, 12, 12, 12, 12, 12, 12, 12, 12, 12, 12, 12, 12, 12, 12, 12, 12, 12, 12, 12, 12, 12, 12, 12, 12, 12, 12, 12, 12, 12, 12, 12, 12, 12, 12, 12, 12, 12, 12, 12, 12, 12, 12, 12, 12, 12, 12, 12, 12, 12, 12, 12, 999, 999, 999, 999, 999, 999, 999, 50, 50, 50, 50, 50, 50, 50, 999, 999, 999, 999, 999, 999]
def sgT : List (List Nat) := [[2], [2, 0, 0], [2, 2], [2, 0, 0], [2, 0], [2, 0], [2], [2, 0], [2, 2], [2, 0, 0], [2, 0, 0], [2, 0], [2, 0], [2], [2, 0], [2, 0], [2, 0, 0, 0], [2], [2, 0, 0], [2], [2, 2], [2, 2, 0, 0], [2, 2, 0, 0], [2], [0], [2], [2, 0, 0], [2, 2], [2, 0], [2], [0], [2, 0, 0], [0, 1, 1], [1], [2], [0], [2, 0, 0, 0, 0, 0], [2, 2], [2, 0, 0], [2, 0], [0, 0, 0, 0, 0], [2, 0, 0], [2, 0, 0], [2, 0, 0], [2], [2, 2, 0, 0, 0, 2], [2, 0, 0, 2], [2], [2, 0, 0], [2], [2], [2], [2, 0], [2, 0], [2], [2], [2, 0, 0], [2, 2, 0], [2, 2], [2, 0, 0], [2, 0, 0], [2, 0, 0, 0], [2], [2, 0], [2, 0], [2, 2], [2], [2, 0], [2, 2], [2], [2, 0], [2], [2], [2], [2], [2], [2], [2, 0], [2, 0], [2, 0], [2, 0], [2, 0], [2], [2, 0], [2, 0], [2, 0], [2, 0, 0], [2, 0, 0, 2], [0], [0], [2], [2, 0], [2, 2], [2, 0], [2, 0, 0, 0], [2], [2], [2], [2], [2, 0], [2, 0, 0, 0], [2], [2, 0], [0, 0, 0], [2], [2, 2], [2], [2, 0, 0, 0], [2, 2], [2], [2, 0, 0, 0, 0], [2, 0, 0, 0, 0], [2], [2, 0], [2, 0], [2, 2], [2], [2, 0], [2, 0, 0, 0], [2, 0, 0], [2, 0, 0, 0], [2, 0], [2, 0, 0, 0], [2, 0, 0, 0, 0, 0], [2, 0], [2], [2, 0], [2, 0, 0, 0, 0, 0], [2, 0, 0, 0], [2, 0, 0, 0], [2, 0, 0, 0], [2, 0, 0, 0, 0], [2, 0, 0, 0], [2, 0, 0, 0], [2, 0, 0, 0], [2, 0, 0, 0], [2, 0], [2, 0], [2, 0, 0, 0, 0, 0], [2, 0, 0], [2, 0], [2, 0, 0, 0, 0, 0], [2, 0, 0, 0, 0, 0], [2, 0], [2, 0, 0, 0], [2, 0], [2, 0, 0, 0, 0], [2], [2], [2, 0], [2, 0, 0], [2, 0, 0], [2, 0, 0], [2, 0], [2, 0, 2, 0, 0], [0, 0], [2, 2, 2, 2], [2, 0, 0], [2, 2, 2, 2, 0], [0], [0], [0], [0], [0], [0, 0], [0, 0], [0, 0, 0], [0, 0, 0], [0, 0], [0, 0], [2], [2, 2], [0, 0, 0], [2, 0], [2, 0, 0], [2, 0], [2, 0, 0], [2, 0, 0], [2, 0, 0, 0], [2, 0, 0, 0], [2, 0], [2, 0, 0, 0], [2, 0, 0], [2, 0], [2, 0, 0], [2, 0, 0, 0], [2, 0, 0, 0], [2, 0], [2, 0], [2, 0], [2, 0, 0], [2, 0, 0, 0], [2, 0], [2, 0, 0, 0, 0, 0], [2, 0], [2, 0], [0], [0], [2], [0, 0, 0], [0, 0, 0, 0, 0], [0, 0, 0, 0], [2, 1], [2, 0, 0], [2, 0], [2], [2, 0], [2], [2], [2], [2], [2], [2], [2], [2], [2], [2], [2], [2], [2], [2, 0], [2, 0], [2, 0], [2, 0], [2, 0], [2, 0, 0], [2, 0, 0], [1], [0, 1, 1], [0, 1, 1], [2, 0], [2, 0, 0, 0, 0], [2, 0, 0, 0, 0], [2, 0, 0, 0, 0, 0], [2, 0], [2, 0, 0, 0], [2, 0], [2, 0, 0, 0], [2, 0], [2], [2, 0, 0, 0], [2, 0, 0, 0, 0], [2, 0, 0, 0, 0, 2], [2, 0, 0, 0, 0], [2, 0, 0, 0], [2, 0, 0], [2, 0, 0, 0, 0], [2, 0, 0, 0], [2, 0, 0], [2, 0, 0, 0, 0], [2, 0, 0], [2, 0, 0, 0], [2, 0, 0, 0], [2, 0, 0, 0], [2, 0, 0, 0], [2], [2, 0], [2], [2, 0], [2, 0, 0, 0, 0, 0], [2, 0, 0], [2, 0, 0], [2, 0, 0], [2, 0], [2, 0, 0], [2, 0], [2, 0, 0, 0, 0, 0], [2, 0, 0, 0, 0, 0], [2, 0], [2, 0], [2, 0, 0, 0], [2, 0, 0], [0, 0, 0], [2, 0], [2, 0], [2, 0], [2, 0, 0, 0, 0, 0], [2, 0, 0], [2, 0, 0, 0, 0], [2], [2], [2], [2, 0], [0], [0], [0], [0, 0], [1, 1], [0, 0], [1, 1], [2], [2, 0], [2, 0], [2, 0, 0], [2], [2], [0, 0], [2, 0], [0], [2, 0, 0, 0], [2, 0, 0, 0], [0, 0, 2], [2]]
def lgT : List (List Nat) := [[], [], [], [], [], [], [], [], [], [], [], [], [], [], [], [], [], [], [], [], [], [], [], [], [], [], [], [], [], [], [], [], [1, 3], [0], [], [], [], [], [], [], [], [], [], [], [], [], [], [], [], [], [], [], [], [], [], [], [], [], [], [], [], [], [], [], [], [], [], [], [], [], [], [], [], [], [], [], [], [], [], [], [], [], [], [], [], [], [], [], [], [], [], [], [], [], [], [], [], [], [], [], [], [], [], [], [], [], [], [], [], [], [5], [], [], [], [], [], [], [], [], [], [], [], [], [], [], [], [], [], [], [], [], [], [], [], [], [], [], [], [], [], [], [], [], [], [], [], [], [], [], [], [], [], [], [], [], [], [], [], [], [], [], [], [], [], [], [], [], [], [], [], [], [], [], [], [], [], [], [], [], [], [], [], [], [], [], [], [], [], [], [], [], [], [], [], [], [], [], [], [], [], [], [], [1], [], [], [], [], [], [], [], [], [], [], [], [], [], [], [], [], [], [], [], [], [], [], [], [], [0], [1, 3], [1, 3], [], [], [], [], [], [], [], [], [2, 5], [], [], [], [], [], [], [], [], [], [], [], [3], [], [], [], [], [], [], [], [], [], [], [], [], [], [], [], [], [], [], [], [], [], [], [], [], [], [], [], [], [], [], [], [], [], [], [], [], [0, 2], [], [0, 2], [], [], [], [], [], [], [], [], [], [], [], [], []]
def sgOf (z : Nat) : List Nat := (sgT[z]?).getD []
def lgOf (z : Nat) : List Nat := (lgT[z]?).getD []
/-- no store of this method breaks a long; longs lie where the table says -/
def okLg (z : Nat) : Bool := ((codeT[z]?).getD []).all fun ri => match ri.1 with
  | 8 => !(lgOf z).any (fun q => q + 1 == ri.2.1)
  | 10 => !(lgOf z).any (fun q => q + 1 == ri.2.1)
  | 11 => !(lgOf z).any (fun q => q + 1 == ri.2.1)
  | 9 => !(lgOf z).any (fun q => q + 1 == ri.2.1) && (lgOf z).any (fun q => q == ri.2.1)
  | _ => true
/-- the longs of the parameters, from a slot on -/
def plg : Nat → List Nat → List Nat
  | _, [] => []
  | i, 1 :: r => i :: plg (i + 2) r
  | i, _ :: r => plg (i + 1) r
def okPl (z : Nat) : Bool := (plg 0 (sgOf z)).all fun i => (lgOf z).any fun q => q == i
def pwd : List Nat → Nat
  | [] => 0
  | 1 :: r => 2 + pwd r
  | _ :: r => 1 + pwd r
def okAll (z : Nat) : Bool := okLg z && okPl z && decide (pwd (sgOf z) ≤ mMl z)
set_option maxRecDepth 100000 in
theorem okAll_ok : (List.range 303).all okAll = true := by decide +kernel
end
section
/-! runs of the machine: with fuel (inn), without (Rr: the limit), calls at a depth (Cd); each run is its step and the run behind it -/
def entL : List AV → LVs
  | [] => []
  | .inr (.inl z) :: r => some (.inr (.inl z)) :: none :: entL r
  | .inl z :: r => some (.inl z) :: entL r
  | .inr (.inr z) :: r => some (.inr (.inr z)) :: entL r
def ent (n : Nat) (args : List AV) : LVs := entL args ++ List.replicate (n - (entL args).length) none
abbrev CF : Type := Nat → List AV → HP → Option RT
/-- a store; that no long lies just ahead is held of the tables (05.check, okLg) -/
def t1 (ls : LVs) (a : Nat) (v : AV) (f : LVs → Option RT) : Option RT := match Nat.blt a ls.length with | true => f (ls.set a (some v)) | false => none
def t2 (ls : LVs) (a : Nat) (v : AV) (f : LVs → Option RT) : Option RT := match Nat.blt (a + 1) ls.length with | true => f ((ls.set a (some v)).set (a + 1) none) | false => none
def sK0 (cf : CF) (ri : RI) (pc : Nat) (ls : LVs) (st : List AV) (hp : HP) (k : KT) : Option RT :=
  match ri with
  | (0, _, _, _, _, z) => k (pc + 1) ls (vI z :: st) hp
  | (1, _, _, _, _, z) => k (pc + 1) ls (vI z :: st) hp
  | (2, _, _, _, _, z) => k (pc + 1) ls (vI z :: st) hp
  | (3, _, _, _, _, z) => k (pc + 1) ls (vI z :: st) hp
  | (4, _, _, _, _, z) => k (pc + 1) ls (vI z :: st) hp
  | _ => none
def sK1 (cf : CF) (ri : RI) (pc : Nat) (ls : LVs) (st : List AV) (hp : HP) (k : KT) : Option RT :=
  match ri with
  | (5, a, _, _, _, _) => lI ls a fun x => k (pc + 1) ls (vI x :: st) hp
  | (6, a, _, _, _, _) => lL ls a fun x => k (pc + 1) ls (vL x :: st) hp
  | (7, a, _, _, _, _) => lA ls a fun x => k (pc + 1) ls (vA x :: st) hp
  | (8, a, _, _, _, _) => e1I st fun x r => t1 ls a (vI x) fun l => k (pc + 1) l r hp
  | (9, a, _, _, _, _) => e1L st fun x r => t2 ls a (vL x) fun l => k (pc + 1) l r hp
  | (10, a, _, _, _, _) => e1A st fun x r => t1 ls a (vA x) fun l => k (pc + 1) l r hp
  | (11, a, _, _, _, z) => lI ls a fun x => t1 ls a (vI (w32 (x + z))) fun l => k (pc + 1) l st hp
  | _ => none
def sK2 (cf : CF) (ri : RI) (pc : Nat) (ls : LVs) (st : List AV) (hp : HP) (k : KT) : Option RT :=
  match ri with
  | (12, a, b, 1, _, _) => e1A st fun o r => (gF hp a b o).bind fun x => k (pc + 1) ls (vL x :: r) hp
  | (12, a, b, 2, _, _) => e1A st fun o r => (gF hp a b o).bind fun x => k (pc + 1) ls (vA x :: r) hp
  | (12, a, b, _, _, _) => e1A st fun o r => (gF hp a b o).bind fun x => k (pc + 1) ls (vI x :: r) hp
  | (13, a, b, 0, _, _) => eIA st fun o v r => (pF hp a b o v).bind fun h => k (pc + 1) ls r h
  | (13, a, b, 1, _, _) => eLA st fun o v r => (pF hp a b o v).bind fun h => k (pc + 1) ls r h
  | (13, a, b, 2, _, _) => eAA st fun o v r => (pF hp a b o v).bind fun h => k (pc + 1) ls r h
  | (13, a, b, _, _, _) => eIA st fun o v r => if v = 0 ∨ v = 1 then (pF hp a b o v).bind fun h => k (pc + 1) ls r h else none
  | _ => none
def sK3 (cf : CF) (ri : RI) (pc : Nat) (ls : LVs) (st : List AV) (hp : HP) (k : KT) : Option RT :=
  match ri with
  | (14, _, _, _, _, _) => eIA st fun o i r => (gA hp 0 o i).bind fun x => k (pc + 1) ls (vI x :: r) hp
  | (15, _, _, _, _, _) => eIA st fun o i r => (gA hp 1 o i).bind fun x => k (pc + 1) ls (vL x :: r) hp
  | (16, _, _, _, _, _) => eIA st fun o i r => (gA hp 2 o i).bind fun x => k (pc + 1) ls (vI x :: r) hp
  | (17, _, _, _, _, _) => eIA st fun o i r => (gR hp o i).bind fun x => k (pc + 1) ls (vA x :: r) hp
  | (18, _, _, _, _, _) => eIIA st fun o i v r => (pA hp 0 o i v).bind fun h => k (pc + 1) ls r h
  | (19, _, _, _, _, _) => eLIA st fun o i v r => (pA hp 1 o i v).bind fun h => k (pc + 1) ls r h
  | (20, _, _, _, _, _) => eIIA st fun o i v r => if v = 0 ∨ v = 1 then (pA hp 2 o i v).bind fun h => k (pc + 1) ls r h else none
  | (21, _, _, _, _, _) => eAIA st fun o i v r => (pR hp o i v).bind fun h => k (pc + 1) ls r h
  | (22, _, _, _, _, _) => e1A st fun o r => (gL hp o).bind fun x => k (pc + 1) ls (vI x :: r) hp
  | _ => none
def sK4 (cf : CF) (ri : RI) (pc : Nat) (ls : LVs) (st : List AV) (hp : HP) (k : KT) : Option RT :=
  match ri with
  | (23, _, _, _, _, _) => e2I st fun x y r => k (pc + 1) ls (vI (w32 (x + y)) :: r) hp
  | (24, _, _, _, _, _) => e2I st fun x y r => k (pc + 1) ls (vI (w32 (x - y)) :: r) hp
  | (25, _, _, _, _, _) => e2I st fun x y r => k (pc + 1) ls (vI (w32 (x * y)) :: r) hp
  | (26, _, _, _, _, _) => e2I st fun x y r => k (pc + 1) ls (vI (iand x y) :: r) hp
  | (27, _, _, _, _, _) => e2I st fun x y r => k (pc + 1) ls (vI (ior x y) :: r) hp
  | (28, _, _, _, _, _) => e2I st fun x y r => k (pc + 1) ls (vI (ixor x y) :: r) hp
  | _ => none
def sK5 (cf : CF) (ri : RI) (pc : Nat) (ls : LVs) (st : List AV) (hp : HP) (k : KT) : Option RT :=
  match ri with
  | (29, _, _, _, _, _) => e2I st fun x y r => k (pc + 1) ls (vI (ishl x y) :: r) hp
  | (30, _, _, _, _, _) => e2I st fun x y r => k (pc + 1) ls (vI (ishr x y) :: r) hp
  | (31, _, _, _, _, _) => e2I st fun x y r => k (pc + 1) ls (vI (iushr x y) :: r) hp
  | (32, _, _, _, _, _) => e2I st fun x y r => if y = 0 then none else k (pc + 1) ls (vI (idiv x y) :: r) hp
  | (33, _, _, _, _, _) => e2I st fun x y r => if y = 0 then none else k (pc + 1) ls (vI (irem x y) :: r) hp
  | (34, _, _, _, _, _) => e1I st fun x r => k (pc + 1) ls (vI (w32 (-x)) :: r) hp
  | _ => none
def sK6 (cf : CF) (ri : RI) (pc : Nat) (ls : LVs) (st : List AV) (hp : HP) (k : KT) : Option RT :=
  match ri with
  | (35, _, _, _, _, _) => e2L st fun x y r => k (pc + 1) ls (vL (w64 (x + y)) :: r) hp
  | (36, _, _, _, _, _) => e2L st fun x y r => k (pc + 1) ls (vL (w64 (x - y)) :: r) hp
  | (37, _, _, _, _, _) => e2L st fun x y r => k (pc + 1) ls (vL (w64 (x * y)) :: r) hp
  | (38, _, _, _, _, _) => e2L st fun x y r => k (pc + 1) ls (vL (lland x y) :: r) hp
  | (39, _, _, _, _, _) => e2L st fun x y r => k (pc + 1) ls (vL (llor x y) :: r) hp
  | (40, _, _, _, _, _) => e2L st fun x y r => if y = 0 then none else k (pc + 1) ls (vL (lldiv x y) :: r) hp
  | (41, _, _, _, _, _) => e2L st fun x y r => if y = 0 then none else k (pc + 1) ls (vL (llrem x y) :: r) hp
  | (42, _, _, _, _, _) => e1L st fun x r => k (pc + 1) ls (vL (w64 (-x)) :: r) hp
  | _ => none
def sK7 (cf : CF) (ri : RI) (pc : Nat) (ls : LVs) (st : List AV) (hp : HP) (k : KT) : Option RT :=
  match ri with
  | (43, _, _, _, _, _) => e1I st fun x r => k (pc + 1) ls (vL x :: r) hp
  | (44, _, _, _, _, _) => e1L st fun x r => k (pc + 1) ls (vI (w32 x) :: r) hp
  | (45, _, _, _, _, _) => e2L st fun x y r => k (pc + 1) ls (vI (lcmp x y) :: r) hp
  | (46, _, _, _, _, _) => eLI st fun x y r => k (pc + 1) ls (vL (llshl x y) :: r) hp
  | (47, _, _, _, _, z) => k (pc + 1) ls (vL z :: st) hp
  | (48, _, _, _, _, z) => k (pc + 1) ls (vL z :: st) hp
  | (49, _, _, _, _, _) => e1I st fun x r => k (pc + 1) ls (vI (i2c x) :: r) hp
  | _ => none
def sK8 (cf : CF) (ri : RI) (pc : Nat) (ls : LVs) (st : List AV) (hp : HP) (k : KT) : Option RT :=
  match ri with
  | (50, _, _, _, _, _) => match st with
    | .inl x :: r => k (pc + 1) ls (vI x :: vI x :: r) hp
    | .inr (.inr x) :: r => k (pc + 1) ls (vA x :: vA x :: r) hp
    | _ => none
  | (51, _, _, _, _, _) => eIA st fun o i r => k (pc + 1) ls (vI i :: vA o :: vI i :: vA o :: r) hp
  | (52, _, _, _, _, _) => match st with
    | .inl _ :: r => k (pc + 1) ls r hp
    | .inr (.inr _) :: r => k (pc + 1) ls r hp
    | _ => none
  | _ => none
def sK9 (cf : CF) (ri : RI) (pc : Nat) (ls : LVs) (st : List AV) (hp : HP) (k : KT) : Option RT :=
  match ri with
  | (53, 0, b, _, _, _) => e1I st fun x r => if x = 0 then k b ls r hp else k (pc + 1) ls r hp
  | (53, 1, b, _, _, _) => e1I st fun x r => if x = 0 then k (pc + 1) ls r hp else k b ls r hp
  | (53, 2, b, _, _, _) => e1I st fun x r => if x < 0 then k b ls r hp else k (pc + 1) ls r hp
  | (53, 3, b, _, _, _) => e1I st fun x r => if x < 0 then k (pc + 1) ls r hp else k b ls r hp
  | (53, 4, b, _, _, _) => e1I st fun x r => if 0 < x then k b ls r hp else k (pc + 1) ls r hp
  | (53, _, b, _, _, _) => e1I st fun x r => if 0 < x then k (pc + 1) ls r hp else k b ls r hp
  | _ => none
def sK10 (cf : CF) (ri : RI) (pc : Nat) (ls : LVs) (st : List AV) (hp : HP) (k : KT) : Option RT :=
  match ri with
  | (54, 0, b, _, _, _) => e2I st fun x y r => if x = y then k b ls r hp else k (pc + 1) ls r hp
  | (54, 1, b, _, _, _) => e2I st fun x y r => if x = y then k (pc + 1) ls r hp else k b ls r hp
  | (54, 2, b, _, _, _) => e2I st fun x y r => if x < y then k b ls r hp else k (pc + 1) ls r hp
  | (54, 3, b, _, _, _) => e2I st fun x y r => if x < y then k (pc + 1) ls r hp else k b ls r hp
  | (54, 4, b, _, _, _) => e2I st fun x y r => if y < x then k b ls r hp else k (pc + 1) ls r hp
  | (54, _, b, _, _, _) => e2I st fun x y r => if y < x then k (pc + 1) ls r hp else k b ls r hp
  | _ => none
def sK11 (cf : CF) (ri : RI) (pc : Nat) (ls : LVs) (st : List AV) (hp : HP) (k : KT) : Option RT :=
  match ri with
  | (55, _, b, _, _, _) => e1A st fun x r => if x = 0 then none else if x < 0 then k b ls r hp else k (pc + 1) ls r hp
  | (56, _, b, _, _, _) => e1A st fun x r => if x = 0 then none else if x < 0 then k (pc + 1) ls r hp else k b ls r hp
  | (57, _, b, _, _, _) => k b ls st hp
  | (58, a, _, _, _, _) => e1I st fun x r => swi x (swP a) (swD a) fun t => k t ls r hp
  | (59, a, _, _, _, _) => e1I st fun x r => swi x (swP a) (swD a) fun t => k t ls r hp
  | _ => none
def sK12 (cf : CF) (ri : RI) (pc : Nat) (ls : LVs) (st : List AV) (hp : HP) (k : KT) : Option RT :=
  match ri with
  | (60, _, _, _, _, _) => match st with | [] => some ([], hp) | _ => none
  | (61, _, _, _, _, _) => match st with | [.inl x] => some ([vI x], hp) | _ => none
  | (62, _, _, _, _, _) => match st with | [.inl x] => if x = 0 ∨ x = 1 then some ([vI x], hp) else none | _ => none
  | (63, _, _, _, _, _) => match st with | [.inr (.inl x)] => some ([vL x], hp) | _ => none
  | (64, _, _, _, _, _) => match st with | [.inr (.inr x)] => if x = 0 then none else some ([vA x], hp) | _ => none
  | (65, _, _, _, _, _) => match st with | [.inl x] => if 0 ≤ x ∧ x < 65536 then some ([vI x], hp) else none | _ => none
  | (66, _, _, _, _, _) => match st with | [.inl x] => if -128 ≤ x ∧ x < 128 then some ([vI x], hp) else none | _ => none
  | _ => none
def sK13 (cf : CF) (ri : RI) (pc : Nat) (ls : LVs) (st : List AV) (hp : HP) (k : KT) : Option RT :=
  match ri with
  | (67, a, b, 0, _, _) => if wid (st.drop b) ≤ 8 then ((cf a (st.take b).reverse hp).bind toV).bind fun q => k (pc + 1) ls (st.drop b) q else none
  | (67, a, b, 1, _, _) => if wid (st.drop b) ≤ 8 then ((cf a (st.take b).reverse hp).bind toI).bind fun q => k (pc + 1) ls (vI q.1 :: st.drop b) q.2 else none
  | (67, a, b, 2, _, _) => if wid (st.drop b) ≤ 8 then ((cf a (st.take b).reverse hp).bind toL).bind fun q => k (pc + 1) ls (vL q.1 :: st.drop b) q.2 else none
  | (67, a, b, _, _, _) => if wid (st.drop b) ≤ 8 then ((cf a (st.take b).reverse hp).bind toA).bind fun q => k (pc + 1) ls (vA q.1 :: st.drop b) q.2 else none
  | _ => none
def sK14 (cf : CF) (ri : RI) (pc : Nat) (ls : LVs) (st : List AV) (hp : HP) (k : KT) : Option RT :=
  match ri with
  | (68, a, b, _, _, _) => k (pc + 1) ls (vA hp.1.length :: st) (mk hp a b)
  | (69, a, _, _, _, _) => e1I st fun n r => if 0 ≤ n ∧ n ≤ 100000 then k (pc + 1) ls (vA hp.1.length :: r) (mk hp a n.toNat) else none
  | (70, a, _, _, _, _) => e1I st fun n r => if 0 ≤ n ∧ n ≤ 100000 then k (pc + 1) ls (vA hp.1.length :: r) (mk hp a n.toNat) else none
  | (71, _, _, 0, _, z) => k (pc + 1) ls (vI z :: st) hp
  | (71, _, _, _, _, z) => k (pc + 1) ls (vA z :: st) hp
  | (72, _, _, _, _, _) => k (pc + 1) ls (vA (-1) :: st) hp
  | (73, _, _, _, _, z) => k (pc + 1) ls (vA z :: st) hp
  | (74, _, _, _, _, _) => eCP st fun so sp d dp n r => if wid r ≤ 8 then (acp hp so sp d dp n).bind fun h => k (pc + 1) ls r h else none
  | (75, _, _, _, _, _) => e1A st fun x r => if 0 < x ∧ wid r ≤ 8 then k (pc + 1) ls r hp else none
  | (76, _, _, _, _, _) => e1I st fun x r => k (pc + 1) ls (vI (i2b x) :: r) hp
  | _ => none
def stp (cf : CF) (ri : RI) (pc : Nat) (ls : LVs) (st : List AV) (hp : HP) (k : KT) : Option RT :=
  match Nat.ble ri.1 4 with
  | true => sK0 cf ri pc ls st hp k
  | false =>
  match Nat.ble ri.1 11 with
  | true => sK1 cf ri pc ls st hp k
  | false =>
  match Nat.ble ri.1 13 with
  | true => sK2 cf ri pc ls st hp k
  | false =>
  match Nat.ble ri.1 22 with
  | true => sK3 cf ri pc ls st hp k
  | false =>
  match Nat.ble ri.1 28 with
  | true => sK4 cf ri pc ls st hp k
  | false =>
  match Nat.ble ri.1 34 with
  | true => sK5 cf ri pc ls st hp k
  | false =>
  match Nat.ble ri.1 42 with
  | true => sK6 cf ri pc ls st hp k
  | false =>
  match Nat.ble ri.1 49 with
  | true => sK7 cf ri pc ls st hp k
  | false =>
  match Nat.ble ri.1 52 with
  | true => sK8 cf ri pc ls st hp k
  | false =>
  match Nat.ble ri.1 53 with
  | true => sK9 cf ri pc ls st hp k
  | false =>
  match Nat.ble ri.1 54 with
  | true => sK10 cf ri pc ls st hp k
  | false =>
  match Nat.ble ri.1 59 with
  | true => sK11 cf ri pc ls st hp k
  | false =>
  match Nat.ble ri.1 66 with
  | true => sK12 cf ri pc ls st hp k
  | false =>
  match Nat.ble ri.1 67 with
  | true => sK13 cf ri pc ls st hp k
  | false =>
  sK14 cf ri pc ls st hp k
def inn (cf : CF) (y : Nat) : Nat → KT
  | 0 => fun _ _ _ _ => none
  | n + 1 => fun pc ls st hp => match cdAt y pc with | some ri => stp cf ri pc ls st hp (inn cf y n) | none => none
theorem inn_succ (cf : CF) (y n pc : Nat) (ls : LVs) (st : List AV) (hp : HP) : inn cf y (n + 1) pc ls st hp = match cdAt y pc with | some ri => stp cf ri pc ls st hp (inn cf y n) | none => none := rfl
/-- the shape only grows -/
def Gr (h h' : HP) : Prop := ∃ e, h'.1 = h.1 ++ e
theorem Gr_rf (h : HP) : Gr h h := ⟨[], by simp⟩
theorem Gr.tr {a b c : HP} (h1 : Gr a b) (h2 : Gr b c) : Gr a c := by
  obtain ⟨e, h1⟩ := h1; obtain ⟨f, h2⟩ := h2
  exact ⟨e ++ f, by rw [h2, h1, List.append_assoc]⟩
theorem Gr_same {h h' : HP} (e : h'.1 = h.1) : Gr h h' := ⟨[], by simp [e]⟩
theorem Gr_mk (h : HP) (t n : Nat) : Gr h (mk h t n) := ⟨[(t, n)], rfl⟩
theorem pF_gr {hp h : HP} {t k : Nat} {o v : Int} (e : pF hp t k o v = some h) : Gr hp h := by
  unfold pF at e
  cases hq : gS hp o with
  | none => rw [hq] at e; simp at e
  | some q => rw [hq] at e; simp only [Option.bind_some] at e; split at e <;> simp at e; subst e; exact Gr_same rfl
theorem pA_gr {hp h : HP} {a : Nat} {o i v : Int} (e : pA hp a o i v = some h) : Gr hp h := by
  unfold pA at e
  cases hq : gS hp o with
  | none => rw [hq] at e; simp at e
  | some q => rw [hq] at e; simp only [Option.bind_some] at e; split at e <;> simp at e; subst e; exact Gr_same rfl
theorem pR_gr {hp h : HP} {o i v : Int} (e : pR hp o i v = some h) : Gr hp h := by
  unfold pR at e
  cases hq : gS hp o with
  | none => rw [hq] at e; simp at e
  | some q =>
    rw [hq] at e; simp only [Option.bind_some] at e
    cases hq2 : gS hp v with
    | none => rw [hq2] at e; simp at e
    | some q2 => rw [hq2] at e; simp only [Option.bind_some] at e; split at e <;> simp at e; subst e; exact Gr_same rfl
theorem acp_gr {hp h : HP} {so sp d dp n : Int} (e : acp hp so sp d dp n = some h) : Gr hp h := by
  unfold acp at e
  cases hq : gS hp so with
  | none => rw [hq] at e; simp at e
  | some q =>
    rw [hq] at e; simp only [Option.bind_some] at e
    cases hq2 : gS hp d with
    | none => rw [hq2] at e; simp at e
    | some q2 => rw [hq2] at e; simp only [Option.bind_some] at e; split at e <;> simp at e; subst e; exact Gr_same rfl
/-- a step: it sticks, or it ends, or it goes on in one place; G: what is said of the heaps behind it -/
def Lin (G : HP → Prop) (F : KT → Option RT) : Prop := (∀ k, F k = none) ∨ (∃ r, G r.2 ∧ ∀ k, F k = some r) ∨ ∃ (a : Nat) (b : LVs) (c : List AV) (d : HP), G d ∧ ∀ k, F k = k a b c d
theorem Lin_no {G : HP → Prop} : Lin G (fun _ => none) := Or.inl fun _ => rfl
theorem Lin_ret {G : HP → Prop} {r : RT} (h : G r.2) : Lin G (fun _ => some r) := Or.inr (Or.inl ⟨r, h, fun _ => rfl⟩)
theorem Lin_go {G : HP → Prop} {a : Nat} {b : LVs} {c : List AV} {d : HP} (h : G d) : Lin G (fun k => k a b c d) := Or.inr (Or.inr ⟨a, b, c, d, h, fun _ => rfl⟩)
theorem Lin_bnd {G : HP → Prop} {α : Type} (o : Option α) {f : α → KT → Option RT} (h : ∀ a, o = some a → Lin G (f a)) : Lin G (fun k => o.bind fun a => f a k) := by
  cases o with
  | none => exact Or.inl fun _ => rfl
  | some a => exact h a rfl
theorem Lin_ite {G : HP → Prop} {p : Prop} {hd : Decidable p} {f g : KT → Option RT} (h1 : p → Lin G f) (h2 : ¬ p → Lin G g) : Lin G (fun k => if p then f k else g k) := by
  by_cases h : p
  · simp only [h, if_true]; exact h1 h
  · simp only [h, if_false]; exact h2 h
theorem Lin_e1I {G : HP → Prop} {st : List AV} {f : Int → List AV → KT → Option RT} (h : ∀ x0 r, Lin G (f x0 r)) : Lin G (fun k => e1I st fun x0 r => f x0 r k) := by
  unfold e1I; split
  · exact h _ _
  · exact Lin_no
theorem Lin_e1L {G : HP → Prop} {st : List AV} {f : Int → List AV → KT → Option RT} (h : ∀ x0 r, Lin G (f x0 r)) : Lin G (fun k => e1L st fun x0 r => f x0 r k) := by
  unfold e1L; split
  · exact h _ _
  · exact Lin_no
theorem Lin_e1A {G : HP → Prop} {st : List AV} {f : Int → List AV → KT → Option RT} (h : ∀ x0 r, Lin G (f x0 r)) : Lin G (fun k => e1A st fun x0 r => f x0 r k) := by
  unfold e1A; split
  · exact h _ _
  · exact Lin_no
theorem Lin_e2I {G : HP → Prop} {st : List AV} {f : Int → Int → List AV → KT → Option RT} (h : ∀ x0 x1 r, Lin G (f x0 x1 r)) : Lin G (fun k => e2I st fun x0 x1 r => f x0 x1 r k) := by
  unfold e2I; split
  · exact h _ _ _
  · exact Lin_no
theorem Lin_e2L {G : HP → Prop} {st : List AV} {f : Int → Int → List AV → KT → Option RT} (h : ∀ x0 x1 r, Lin G (f x0 x1 r)) : Lin G (fun k => e2L st fun x0 x1 r => f x0 x1 r k) := by
  unfold e2L; split
  · exact h _ _ _
  · exact Lin_no
theorem Lin_eLI {G : HP → Prop} {st : List AV} {f : Int → Int → List AV → KT → Option RT} (h : ∀ x0 x1 r, Lin G (f x0 x1 r)) : Lin G (fun k => eLI st fun x0 x1 r => f x0 x1 r k) := by
  unfold eLI; split
  · exact h _ _ _
  · exact Lin_no
theorem Lin_eIA {G : HP → Prop} {st : List AV} {f : Int → Int → List AV → KT → Option RT} (h : ∀ x0 x1 r, Lin G (f x0 x1 r)) : Lin G (fun k => eIA st fun x0 x1 r => f x0 x1 r k) := by
  unfold eIA; split
  · exact h _ _ _
  · exact Lin_no
theorem Lin_eLA {G : HP → Prop} {st : List AV} {f : Int → Int → List AV → KT → Option RT} (h : ∀ x0 x1 r, Lin G (f x0 x1 r)) : Lin G (fun k => eLA st fun x0 x1 r => f x0 x1 r k) := by
  unfold eLA; split
  · exact h _ _ _
  · exact Lin_no
theorem Lin_eAA {G : HP → Prop} {st : List AV} {f : Int → Int → List AV → KT → Option RT} (h : ∀ x0 x1 r, Lin G (f x0 x1 r)) : Lin G (fun k => eAA st fun x0 x1 r => f x0 x1 r k) := by
  unfold eAA; split
  · exact h _ _ _
  · exact Lin_no
theorem Lin_eIIA {G : HP → Prop} {st : List AV} {f : Int → Int → Int → List AV → KT → Option RT} (h : ∀ x0 x1 x2 r, Lin G (f x0 x1 x2 r)) : Lin G (fun k => eIIA st fun x0 x1 x2 r => f x0 x1 x2 r k) := by
  unfold eIIA; split
  · exact h _ _ _ _
  · exact Lin_no
theorem Lin_eLIA {G : HP → Prop} {st : List AV} {f : Int → Int → Int → List AV → KT → Option RT} (h : ∀ x0 x1 x2 r, Lin G (f x0 x1 x2 r)) : Lin G (fun k => eLIA st fun x0 x1 x2 r => f x0 x1 x2 r k) := by
  unfold eLIA; split
  · exact h _ _ _ _
  · exact Lin_no
theorem Lin_eAIA {G : HP → Prop} {st : List AV} {f : Int → Int → Int → List AV → KT → Option RT} (h : ∀ x0 x1 x2 r, Lin G (f x0 x1 x2 r)) : Lin G (fun k => eAIA st fun x0 x1 x2 r => f x0 x1 x2 r k) := by
  unfold eAIA; split
  · exact h _ _ _ _
  · exact Lin_no
theorem Lin_eCP {G : HP → Prop} {st : List AV} {f : Int → Int → Int → Int → Int → List AV → KT → Option RT} (h : ∀ x0 x1 x2 x3 x4 r, Lin G (f x0 x1 x2 x3 x4 r)) : Lin G (fun k => eCP st fun x0 x1 x2 x3 x4 r => f x0 x1 x2 x3 x4 r k) := by
  unfold eCP; split
  · exact h _ _ _ _ _ _
  · exact Lin_no
theorem Lin_lI {G : HP → Prop} {ls : LVs} {a : Nat} {f : Int → KT → Option RT} (h : ∀ x, Lin G (f x)) : Lin G (fun k => lI ls a fun x => f x k) := by
  unfold lI; split
  · exact h _
  · exact Lin_no
theorem Lin_lL {G : HP → Prop} {ls : LVs} {a : Nat} {f : Int → KT → Option RT} (h : ∀ x, Lin G (f x)) : Lin G (fun k => lL ls a fun x => f x k) := by
  unfold lL; split
  · exact h _
  · exact Lin_no
theorem Lin_lA {G : HP → Prop} {ls : LVs} {a : Nat} {f : Int → KT → Option RT} (h : ∀ x, Lin G (f x)) : Lin G (fun k => lA ls a fun x => f x k) := by
  unfold lA; split
  · exact h _
  · exact Lin_no
theorem Lin_t1 {G : HP → Prop} {ls : LVs} {a : Nat} {v : AV} {f : LVs → KT → Option RT} (h : ∀ l, Lin G (f l)) : Lin G (fun k => t1 ls a v fun l => f l k) := by
  unfold t1
  split
  · exact h _
  · exact Lin_no
theorem Lin_t2 {G : HP → Prop} {ls : LVs} {a : Nat} {v : AV} {f : LVs → KT → Option RT} (h : ∀ l, Lin G (f l)) : Lin G (fun k => t2 ls a v fun l => f l k) := by
  unfold t2
  split
  · exact h _
  · exact Lin_no
theorem Lin_swi {G : HP → Prop} {x : Int} {f : Nat → KT → Option RT} (h : ∀ t, Lin G (f t)) : ∀ (l : List (Int × Nat)) (d : Nat), Lin G (fun k => swi x l d fun t => f t k)
  | [], d => h d
  | q :: r, d => Lin_ite (fun _ => h q.2) (fun _ => Lin_swi h r d)
theorem toV_gr {r : RT} {q : HP} (e : toV r = some q) : q = r.2 := by
  unfold toV at e; split at e <;> simp at e; exact e.symm
theorem toI_gr {r : RT} {q : Int × HP} (e : toI r = some q) : q.2 = r.2 := by
  unfold toI at e; split at e <;> simp at e; rw [← e]
theorem toL_gr {r : RT} {q : Int × HP} (e : toL r = some q) : q.2 = r.2 := by
  unfold toL at e; split at e <;> simp at e; rw [← e]
theorem toA_gr {r : RT} {q : Int × HP} (e : toA r = some q) : q.2 = r.2 := by
  unfold toA at e; split at e <;> simp at e; rw [← e]
theorem cf_gr {α : Type} {o : Option RT} {hp : HP} {t : RT → Option α} {w : α → HP} (ht : ∀ r q, t r = some q → w q = r.2) (ho : ∀ r, o = some r → Gr hp r.2) {q : α} (e : o.bind t = some q) : Gr hp (w q) := by
  cases o with
  | none => simp at e
  | some r => rw [ht r q e]; exact ho r rfl
theorem sK0_lin (cf : CF) (ri : RI) (pc : Nat) (ls : LVs) (st : List AV) (hp : HP) (G : HP → Prop) (h0 : G hp) (hG : ∀ h, Gr hp h → G h) (hcf : ∀ z a r, cf z a hp = some r → G r.2) : Lin G (fun k => sK0 cf ri pc ls st hp k) := by
  unfold sK0
  split
  all_goals first
    | with_reducible exact Lin_no
    | with_reducible exact Lin_go h0
    | with_reducible exact Lin_lI fun _ => Lin_go h0
    | with_reducible exact Lin_lL fun _ => Lin_go h0
    | with_reducible exact Lin_lA fun _ => Lin_go h0
    | with_reducible exact Lin_e1I fun _ _ => Lin_t1 fun _ => Lin_go h0
    | with_reducible exact Lin_e1L fun _ _ => Lin_t2 fun _ => Lin_go h0
    | with_reducible exact Lin_e1A fun _ _ => Lin_t1 fun _ => Lin_go h0
    | with_reducible exact Lin_lI fun _ => Lin_t1 fun _ => Lin_go h0
    | with_reducible exact Lin_e1A fun _ _ => Lin_bnd _ fun _ _ => Lin_go h0
    | with_reducible exact Lin_eIA fun _ _ _ => Lin_bnd _ fun _ _ => Lin_go h0
    | with_reducible exact Lin_e2I fun _ _ _ => Lin_go h0
    | with_reducible exact Lin_e2I fun _ _ _ => Lin_ite (fun _ => Lin_no) (fun _ => Lin_go h0)
    | with_reducible exact Lin_e1I fun _ _ => Lin_go h0
    | with_reducible exact Lin_e2L fun _ _ _ => Lin_go h0
    | with_reducible exact Lin_e2L fun _ _ _ => Lin_ite (fun _ => Lin_no) (fun _ => Lin_go h0)
    | with_reducible exact Lin_e1L fun _ _ => Lin_go h0
    | with_reducible exact Lin_eLI fun _ _ _ => Lin_go h0
    | with_reducible exact Lin_eIA fun _ _ _ => Lin_go h0
    | with_reducible exact Lin_e1I fun _ _ => Lin_ite (fun _ => Lin_go h0) (fun _ => Lin_go h0)
    | with_reducible exact Lin_e2I fun _ _ _ => Lin_ite (fun _ => Lin_go h0) (fun _ => Lin_go h0)
    | with_reducible exact Lin_e1A fun _ _ => Lin_ite (fun _ => Lin_no) (fun _ => Lin_ite (fun _ => Lin_go h0) (fun _ => Lin_go h0))
    | with_reducible exact Lin_e1I fun _ _ => Lin_swi (fun _ => Lin_go h0) _ _
    | with_reducible exact Lin_e1A fun _ _ => Lin_ite (fun _ => Lin_go h0) (fun _ => Lin_no)
    | (split <;> first | with_reducible exact Lin_no | with_reducible exact Lin_ret h0 | with_reducible exact Lin_go h0 | with_reducible exact Lin_ite (fun _ => Lin_ret h0) (fun _ => Lin_no) | with_reducible exact Lin_ite (fun _ => Lin_no) (fun _ => Lin_ret h0))
theorem sK1_lin (cf : CF) (ri : RI) (pc : Nat) (ls : LVs) (st : List AV) (hp : HP) (G : HP → Prop) (h0 : G hp) (hG : ∀ h, Gr hp h → G h) (hcf : ∀ z a r, cf z a hp = some r → G r.2) : Lin G (fun k => sK1 cf ri pc ls st hp k) := by
  unfold sK1
  split
  all_goals first
    | with_reducible exact Lin_no
    | with_reducible exact Lin_lI fun _ => Lin_go h0
    | with_reducible exact Lin_lL fun _ => Lin_go h0
    | with_reducible exact Lin_lA fun _ => Lin_go h0
    | with_reducible exact Lin_e1I fun _ _ => Lin_t1 fun _ => Lin_go h0
    | with_reducible exact Lin_e1L fun _ _ => Lin_t2 fun _ => Lin_go h0
    | with_reducible exact Lin_e1A fun _ _ => Lin_t1 fun _ => Lin_go h0
    | with_reducible exact Lin_lI fun _ => Lin_t1 fun _ => Lin_go h0
theorem sK2_lin (cf : CF) (ri : RI) (pc : Nat) (ls : LVs) (st : List AV) (hp : HP) (G : HP → Prop) (h0 : G hp) (hG : ∀ h, Gr hp h → G h) (hcf : ∀ z a r, cf z a hp = some r → G r.2) : Lin G (fun k => sK2 cf ri pc ls st hp k) := by
  unfold sK2
  split
  all_goals first
    | with_reducible exact Lin_no
    | with_reducible exact Lin_e1A fun _ _ => Lin_t1 fun _ => Lin_go h0
    | with_reducible exact Lin_e1A fun _ _ => Lin_bnd _ fun _ _ => Lin_go h0
    | with_reducible exact Lin_eIA fun _ _ _ => Lin_bnd _ fun _ e => Lin_go (hG _ (pF_gr e))
    | with_reducible exact Lin_eLA fun _ _ _ => Lin_bnd _ fun _ e => Lin_go (hG _ (pF_gr e))
    | with_reducible exact Lin_eAA fun _ _ _ => Lin_bnd _ fun _ e => Lin_go (hG _ (pF_gr e))
    | with_reducible exact Lin_eIA fun _ _ _ => Lin_ite (fun _ => Lin_bnd _ fun _ e => Lin_go (hG _ (pF_gr e))) (fun _ => Lin_no)
    | with_reducible exact Lin_eIA fun _ _ _ => Lin_bnd _ fun _ _ => Lin_go h0
    | with_reducible exact Lin_eIA fun _ _ _ => Lin_go h0
    | with_reducible exact Lin_e1A fun _ _ => Lin_ite (fun _ => Lin_no) (fun _ => Lin_ite (fun _ => Lin_go h0) (fun _ => Lin_go h0))
    | with_reducible exact Lin_e1A fun _ _ => Lin_ite (fun _ => Lin_go h0) (fun _ => Lin_no)
theorem sK3_lin (cf : CF) (ri : RI) (pc : Nat) (ls : LVs) (st : List AV) (hp : HP) (G : HP → Prop) (h0 : G hp) (hG : ∀ h, Gr hp h → G h) (hcf : ∀ z a r, cf z a hp = some r → G r.2) : Lin G (fun k => sK3 cf ri pc ls st hp k) := by
  unfold sK3
  split
  all_goals first
    | with_reducible exact Lin_no
    | with_reducible exact Lin_e1A fun _ _ => Lin_t1 fun _ => Lin_go h0
    | with_reducible exact Lin_e1A fun _ _ => Lin_bnd _ fun _ _ => Lin_go h0
    | with_reducible exact Lin_eIA fun _ _ _ => Lin_bnd _ fun _ e => Lin_go (hG _ (pF_gr e))
    | with_reducible exact Lin_eIA fun _ _ _ => Lin_ite (fun _ => Lin_bnd _ fun _ e => Lin_go (hG _ (pF_gr e))) (fun _ => Lin_no)
    | with_reducible exact Lin_eIA fun _ _ _ => Lin_bnd _ fun _ _ => Lin_go h0
    | with_reducible exact Lin_eIIA fun _ _ _ _ => Lin_bnd _ fun _ e => Lin_go (hG _ (pA_gr e))
    | with_reducible exact Lin_eLIA fun _ _ _ _ => Lin_bnd _ fun _ e => Lin_go (hG _ (pA_gr e))
    | with_reducible exact Lin_eIIA fun _ _ _ _ => Lin_ite (fun _ => Lin_bnd _ fun _ e => Lin_go (hG _ (pA_gr e))) (fun _ => Lin_no)
    | with_reducible exact Lin_eAIA fun _ _ _ _ => Lin_bnd _ fun _ e => Lin_go (hG _ (pR_gr e))
    | with_reducible exact Lin_eIA fun _ _ _ => Lin_go h0
    | with_reducible exact Lin_e1A fun _ _ => Lin_ite (fun _ => Lin_no) (fun _ => Lin_ite (fun _ => Lin_go h0) (fun _ => Lin_go h0))
    | with_reducible exact Lin_e1A fun _ _ => Lin_ite (fun _ => Lin_go h0) (fun _ => Lin_no)
theorem sK4_lin (cf : CF) (ri : RI) (pc : Nat) (ls : LVs) (st : List AV) (hp : HP) (G : HP → Prop) (h0 : G hp) (hG : ∀ h, Gr hp h → G h) (hcf : ∀ z a r, cf z a hp = some r → G r.2) : Lin G (fun k => sK4 cf ri pc ls st hp k) := by
  unfold sK4
  split
  all_goals first
    | with_reducible exact Lin_no
    | with_reducible exact Lin_e2I fun _ _ _ => Lin_go h0
    | with_reducible exact Lin_e2I fun _ _ _ => Lin_ite (fun _ => Lin_no) (fun _ => Lin_go h0)
    | with_reducible exact Lin_e2I fun _ _ _ => Lin_ite (fun _ => Lin_go h0) (fun _ => Lin_go h0)
theorem sK5_lin (cf : CF) (ri : RI) (pc : Nat) (ls : LVs) (st : List AV) (hp : HP) (G : HP → Prop) (h0 : G hp) (hG : ∀ h, Gr hp h → G h) (hcf : ∀ z a r, cf z a hp = some r → G r.2) : Lin G (fun k => sK5 cf ri pc ls st hp k) := by
  unfold sK5
  split
  all_goals first
    | with_reducible exact Lin_no
    | with_reducible exact Lin_e1I fun _ _ => Lin_t1 fun _ => Lin_go h0
    | with_reducible exact Lin_e2I fun _ _ _ => Lin_go h0
    | with_reducible exact Lin_e2I fun _ _ _ => Lin_ite (fun _ => Lin_no) (fun _ => Lin_go h0)
    | with_reducible exact Lin_e1I fun _ _ => Lin_go h0
    | with_reducible exact Lin_e1I fun _ _ => Lin_ite (fun _ => Lin_go h0) (fun _ => Lin_go h0)
    | with_reducible exact Lin_e2I fun _ _ _ => Lin_ite (fun _ => Lin_go h0) (fun _ => Lin_go h0)
    | with_reducible exact Lin_e1I fun _ _ => Lin_swi (fun _ => Lin_go h0) _ _
    | with_reducible exact Lin_e1I fun _ _ => Lin_ite (fun _ => Lin_go (hG _ (Gr_mk _ _ _))) (fun _ => Lin_no)
theorem sK6_lin (cf : CF) (ri : RI) (pc : Nat) (ls : LVs) (st : List AV) (hp : HP) (G : HP → Prop) (h0 : G hp) (hG : ∀ h, Gr hp h → G h) (hcf : ∀ z a r, cf z a hp = some r → G r.2) : Lin G (fun k => sK6 cf ri pc ls st hp k) := by
  unfold sK6
  split
  all_goals first
    | with_reducible exact Lin_no
    | with_reducible exact Lin_e1L fun _ _ => Lin_t2 fun _ => Lin_go h0
    | with_reducible exact Lin_e2L fun _ _ _ => Lin_go h0
    | with_reducible exact Lin_e2L fun _ _ _ => Lin_ite (fun _ => Lin_no) (fun _ => Lin_go h0)
    | with_reducible exact Lin_e1L fun _ _ => Lin_go h0
theorem sK7_lin (cf : CF) (ri : RI) (pc : Nat) (ls : LVs) (st : List AV) (hp : HP) (G : HP → Prop) (h0 : G hp) (hG : ∀ h, Gr hp h → G h) (hcf : ∀ z a r, cf z a hp = some r → G r.2) : Lin G (fun k => sK7 cf ri pc ls st hp k) := by
  unfold sK7
  split
  all_goals first
    | with_reducible exact Lin_no
    | with_reducible exact Lin_go h0
    | with_reducible exact Lin_e1I fun _ _ => Lin_t1 fun _ => Lin_go h0
    | with_reducible exact Lin_e1L fun _ _ => Lin_t2 fun _ => Lin_go h0
    | with_reducible exact Lin_eLIA fun _ _ _ _ => Lin_bnd _ fun _ e => Lin_go (hG _ (pA_gr e))
    | with_reducible exact Lin_e1I fun _ _ => Lin_go h0
    | with_reducible exact Lin_e2L fun _ _ _ => Lin_go h0
    | with_reducible exact Lin_e2L fun _ _ _ => Lin_ite (fun _ => Lin_no) (fun _ => Lin_go h0)
    | with_reducible exact Lin_e1L fun _ _ => Lin_go h0
    | with_reducible exact Lin_eLI fun _ _ _ => Lin_go h0
    | with_reducible exact Lin_e1I fun _ _ => Lin_ite (fun _ => Lin_go h0) (fun _ => Lin_go h0)
    | with_reducible exact Lin_e1I fun _ _ => Lin_swi (fun _ => Lin_go h0) _ _
    | with_reducible exact Lin_e1I fun _ _ => Lin_ite (fun _ => Lin_go (hG _ (Gr_mk _ _ _))) (fun _ => Lin_no)
    | (split <;> first | with_reducible exact Lin_no | with_reducible exact Lin_ret h0 | with_reducible exact Lin_go h0 | with_reducible exact Lin_ite (fun _ => Lin_ret h0) (fun _ => Lin_no) | with_reducible exact Lin_ite (fun _ => Lin_no) (fun _ => Lin_ret h0))
theorem sK8_lin (cf : CF) (ri : RI) (pc : Nat) (ls : LVs) (st : List AV) (hp : HP) (G : HP → Prop) (h0 : G hp) (hG : ∀ h, Gr hp h → G h) (hcf : ∀ z a r, cf z a hp = some r → G r.2) : Lin G (fun k => sK8 cf ri pc ls st hp k) := by
  unfold sK8
  split
  all_goals first
    | with_reducible exact Lin_no
    | with_reducible exact Lin_eIA fun _ _ _ => Lin_bnd _ fun _ e => Lin_go (hG _ (pF_gr e))
    | with_reducible exact Lin_eIA fun _ _ _ => Lin_ite (fun _ => Lin_bnd _ fun _ e => Lin_go (hG _ (pF_gr e))) (fun _ => Lin_no)
    | with_reducible exact Lin_eIA fun _ _ _ => Lin_bnd _ fun _ _ => Lin_go h0
    | with_reducible exact Lin_eIA fun _ _ _ => Lin_go h0
    | (split <;> first | with_reducible exact Lin_no | with_reducible exact Lin_ret h0 | with_reducible exact Lin_go h0 | with_reducible exact Lin_ite (fun _ => Lin_ret h0) (fun _ => Lin_no) | with_reducible exact Lin_ite (fun _ => Lin_no) (fun _ => Lin_ret h0))
theorem sK9_lin (cf : CF) (ri : RI) (pc : Nat) (ls : LVs) (st : List AV) (hp : HP) (G : HP → Prop) (h0 : G hp) (hG : ∀ h, Gr hp h → G h) (hcf : ∀ z a r, cf z a hp = some r → G r.2) : Lin G (fun k => sK9 cf ri pc ls st hp k) := by
  unfold sK9
  split
  all_goals first
    | with_reducible exact Lin_no
    | with_reducible exact Lin_e1I fun _ _ => Lin_t1 fun _ => Lin_go h0
    | with_reducible exact Lin_e1I fun _ _ => Lin_go h0
    | with_reducible exact Lin_e1I fun _ _ => Lin_ite (fun _ => Lin_go h0) (fun _ => Lin_go h0)
    | with_reducible exact Lin_e1I fun _ _ => Lin_swi (fun _ => Lin_go h0) _ _
    | with_reducible exact Lin_e1I fun _ _ => Lin_ite (fun _ => Lin_go (hG _ (Gr_mk _ _ _))) (fun _ => Lin_no)
theorem sK10_lin (cf : CF) (ri : RI) (pc : Nat) (ls : LVs) (st : List AV) (hp : HP) (G : HP → Prop) (h0 : G hp) (hG : ∀ h, Gr hp h → G h) (hcf : ∀ z a r, cf z a hp = some r → G r.2) : Lin G (fun k => sK10 cf ri pc ls st hp k) := by
  unfold sK10
  split
  all_goals first
    | with_reducible exact Lin_no
    | with_reducible exact Lin_e2I fun _ _ _ => Lin_go h0
    | with_reducible exact Lin_e2I fun _ _ _ => Lin_ite (fun _ => Lin_no) (fun _ => Lin_go h0)
    | with_reducible exact Lin_e2I fun _ _ _ => Lin_ite (fun _ => Lin_go h0) (fun _ => Lin_go h0)
theorem sK11_lin (cf : CF) (ri : RI) (pc : Nat) (ls : LVs) (st : List AV) (hp : HP) (G : HP → Prop) (h0 : G hp) (hG : ∀ h, Gr hp h → G h) (hcf : ∀ z a r, cf z a hp = some r → G r.2) : Lin G (fun k => sK11 cf ri pc ls st hp k) := by
  unfold sK11
  split
  all_goals first
    | with_reducible exact Lin_no
    | with_reducible exact Lin_go h0
    | with_reducible exact Lin_e1A fun _ _ => Lin_t1 fun _ => Lin_go h0
    | with_reducible exact Lin_e1A fun _ _ => Lin_bnd _ fun _ _ => Lin_go h0
    | with_reducible exact Lin_e1A fun _ _ => Lin_ite (fun _ => Lin_no) (fun _ => Lin_ite (fun _ => Lin_go h0) (fun _ => Lin_go h0))
    | with_reducible exact Lin_e1I fun _ _ => Lin_swi (fun _ => Lin_go h0) _ _
    | with_reducible exact Lin_e1A fun _ _ => Lin_ite (fun _ => Lin_go h0) (fun _ => Lin_no)
    | (split <;> first | with_reducible exact Lin_no | with_reducible exact Lin_ret h0 | with_reducible exact Lin_go h0 | with_reducible exact Lin_ite (fun _ => Lin_ret h0) (fun _ => Lin_no) | with_reducible exact Lin_ite (fun _ => Lin_no) (fun _ => Lin_ret h0))
theorem sK12_lin (cf : CF) (ri : RI) (pc : Nat) (ls : LVs) (st : List AV) (hp : HP) (G : HP → Prop) (h0 : G hp) (hG : ∀ h, Gr hp h → G h) (hcf : ∀ z a r, cf z a hp = some r → G r.2) : Lin G (fun k => sK12 cf ri pc ls st hp k) := by
  unfold sK12
  split
  all_goals first
    | with_reducible exact Lin_no
    | (split <;> first | with_reducible exact Lin_no | with_reducible exact Lin_ret h0 | with_reducible exact Lin_go h0 | with_reducible exact Lin_ite (fun _ => Lin_ret h0) (fun _ => Lin_no) | with_reducible exact Lin_ite (fun _ => Lin_no) (fun _ => Lin_ret h0))
theorem sK13_lin (cf : CF) (ri : RI) (pc : Nat) (ls : LVs) (st : List AV) (hp : HP) (G : HP → Prop) (h0 : G hp) (hG : ∀ h, Gr hp h → G h) (hcf : ∀ z a r, cf z a hp = some r → G r.2) : Lin G (fun k => sK13 cf ri pc ls st hp k) := by
  have hV : ∀ z a q, (cf z a hp).bind toV = some q → G q := fun z a q e => by
    cases hz : cf z a hp with
    | none => rw [hz] at e; simp at e
    | some r => rw [hz] at e; simp only [Option.bind_some] at e; rw [toV_gr e]; exact hcf z a r hz
  have hI : ∀ z a q, (cf z a hp).bind toI = some q → G q.2 := fun z a q e => by
    cases hz : cf z a hp with
    | none => rw [hz] at e; simp at e
    | some r => rw [hz] at e; simp only [Option.bind_some] at e; rw [toI_gr e]; exact hcf z a r hz
  have hL : ∀ z a q, (cf z a hp).bind toL = some q → G q.2 := fun z a q e => by
    cases hz : cf z a hp with
    | none => rw [hz] at e; simp at e
    | some r => rw [hz] at e; simp only [Option.bind_some] at e; rw [toL_gr e]; exact hcf z a r hz
  have hA : ∀ z a q, (cf z a hp).bind toA = some q → G q.2 := fun z a q e => by
    cases hz : cf z a hp with
    | none => rw [hz] at e; simp at e
    | some r => rw [hz] at e; simp only [Option.bind_some] at e; rw [toA_gr e]; exact hcf z a r hz
  unfold sK13
  split
  all_goals first
    | with_reducible exact Lin_no
    | with_reducible exact Lin_ite (fun _ => Lin_bnd _ fun _ e => Lin_go (hV _ _ _ e)) (fun _ => Lin_no)
    | with_reducible exact Lin_ite (fun _ => Lin_bnd _ fun _ e => Lin_go (hI _ _ _ e)) (fun _ => Lin_no)
    | with_reducible exact Lin_ite (fun _ => Lin_bnd _ fun _ e => Lin_go (hL _ _ _ e)) (fun _ => Lin_no)
    | with_reducible exact Lin_ite (fun _ => Lin_bnd _ fun _ e => Lin_go (hA _ _ _ e)) (fun _ => Lin_no)
theorem sK14_lin (cf : CF) (ri : RI) (pc : Nat) (ls : LVs) (st : List AV) (hp : HP) (G : HP → Prop) (h0 : G hp) (hG : ∀ h, Gr hp h → G h) (hcf : ∀ z a r, cf z a hp = some r → G r.2) : Lin G (fun k => sK14 cf ri pc ls st hp k) := by
  unfold sK14
  split
  all_goals first
    | with_reducible exact Lin_no
    | with_reducible exact Lin_go h0
    | with_reducible exact Lin_e1I fun _ _ => Lin_t1 fun _ => Lin_go h0
    | with_reducible exact Lin_e1A fun _ _ => Lin_t1 fun _ => Lin_go h0
    | with_reducible exact Lin_e1A fun _ _ => Lin_bnd _ fun _ _ => Lin_go h0
    | with_reducible exact Lin_e1I fun _ _ => Lin_go h0
    | with_reducible exact Lin_e1I fun _ _ => Lin_ite (fun _ => Lin_go h0) (fun _ => Lin_go h0)
    | with_reducible exact Lin_e1A fun _ _ => Lin_ite (fun _ => Lin_no) (fun _ => Lin_ite (fun _ => Lin_go h0) (fun _ => Lin_go h0))
    | with_reducible exact Lin_e1I fun _ _ => Lin_swi (fun _ => Lin_go h0) _ _
    | with_reducible exact Lin_go (hG _ (Gr_mk _ _ _))
    | with_reducible exact Lin_e1I fun _ _ => Lin_ite (fun _ => Lin_go (hG _ (Gr_mk _ _ _))) (fun _ => Lin_no)
    | with_reducible exact Lin_eCP fun _ _ _ _ _ _ => Lin_ite (fun _ => Lin_bnd _ fun _ e => Lin_go (hG _ (acp_gr e))) (fun _ => Lin_no)
    | with_reducible exact Lin_e1A fun _ _ => Lin_ite (fun _ => Lin_go h0) (fun _ => Lin_no)
    | (split <;> first | with_reducible exact Lin_no | with_reducible exact Lin_ret h0 | with_reducible exact Lin_go h0 | with_reducible exact Lin_ite (fun _ => Lin_ret h0) (fun _ => Lin_no) | with_reducible exact Lin_ite (fun _ => Lin_no) (fun _ => Lin_ret h0))
theorem stp_lin (cf : CF) (ri : RI) (pc : Nat) (ls : LVs) (st : List AV) (hp : HP) (G : HP → Prop) (h0 : G hp) (hG : ∀ h, Gr hp h → G h) (hcf : ∀ z a r, cf z a hp = some r → G r.2) : Lin G (stp cf ri pc ls st hp) := by
  show Lin G (fun k => stp cf ri pc ls st hp k)
  unfold stp
  cases Nat.ble ri.1 4 with
  | true => exact sK0_lin cf ri pc ls st hp G h0 hG hcf
  | false =>
  cases Nat.ble ri.1 11 with
  | true => exact sK1_lin cf ri pc ls st hp G h0 hG hcf
  | false =>
  cases Nat.ble ri.1 13 with
  | true => exact sK2_lin cf ri pc ls st hp G h0 hG hcf
  | false =>
  cases Nat.ble ri.1 22 with
  | true => exact sK3_lin cf ri pc ls st hp G h0 hG hcf
  | false =>
  cases Nat.ble ri.1 28 with
  | true => exact sK4_lin cf ri pc ls st hp G h0 hG hcf
  | false =>
  cases Nat.ble ri.1 34 with
  | true => exact sK5_lin cf ri pc ls st hp G h0 hG hcf
  | false =>
  cases Nat.ble ri.1 42 with
  | true => exact sK6_lin cf ri pc ls st hp G h0 hG hcf
  | false =>
  cases Nat.ble ri.1 49 with
  | true => exact sK7_lin cf ri pc ls st hp G h0 hG hcf
  | false =>
  cases Nat.ble ri.1 52 with
  | true => exact sK8_lin cf ri pc ls st hp G h0 hG hcf
  | false =>
  cases Nat.ble ri.1 53 with
  | true => exact sK9_lin cf ri pc ls st hp G h0 hG hcf
  | false =>
  cases Nat.ble ri.1 54 with
  | true => exact sK10_lin cf ri pc ls st hp G h0 hG hcf
  | false =>
  cases Nat.ble ri.1 59 with
  | true => exact sK11_lin cf ri pc ls st hp G h0 hG hcf
  | false =>
  cases Nat.ble ri.1 66 with
  | true => exact sK12_lin cf ri pc ls st hp G h0 hG hcf
  | false =>
  cases Nat.ble ri.1 67 with
  | true => exact sK13_lin cf ri pc ls st hp G h0 hG hcf
  | false =>
  exact sK14_lin cf ri pc ls st hp G h0 hG hcf
theorem stp_tri (cf : CF) (ri : RI) (pc : Nat) (ls : LVs) (st : List AV) (hp : HP) : Lin (fun _ => True) (stp cf ri pc ls st hp) := stp_lin cf ri pc ls st hp _ trivial (fun _ _ => trivial) (fun _ _ _ _ => trivial)
theorem inn_mono (cf : CF) (y : Nat) : ∀ (n pc : Nat) (ls : LVs) (st : List AV) (hp : HP) (r : RT), inn cf y n pc ls st hp = some r → inn cf y (n + 1) pc ls st hp = some r
  | 0, pc, ls, st, hp, r, h => by simp [inn] at h
  | n + 1, pc, ls, st, hp, r, h => by
    rw [inn_succ] at h ⊢
    cases hc : cdAt y pc with
    | none => rw [hc] at h; exact h
    | some ri =>
      rw [hc] at h
      simp only at h ⊢
      rcases stp_tri cf ri pc ls st hp with g | ⟨q, -, g⟩ | ⟨a, b, c, d, -, g⟩
      · rw [g] at h; cases h
      · rw [g] at h ⊢; exact h
      · rw [g] at h ⊢; exact inn_mono cf y n a b c d r h
noncomputable def lim {α : Type} (f : Nat → Option α) : Option α := @dite _ (∃ n, (f n).isSome = true) (Classical.propDecidable _) (fun h => f (Classical.choose h)) (fun _ => none)
theorem lim_iff {α : Type} {f : Nat → Option α} (hm : ∀ n r, f n = some r → f (n + 1) = some r) (r : α) : lim f = some r ↔ ∃ n, f n = some r := by
  have hm2 : ∀ k n r, f n = some r → f (n + k) = some r := by
    intro k
    induction k with
    | zero => intro n r h; exact h
    | succ k ih => intro n r h; exact hm _ _ (ih n r h)
  unfold lim
  by_cases h : ∃ n, (f n).isSome = true
  · rw [dif_pos h]
    have hs := Classical.choose_spec h
    obtain ⟨r0, hr0⟩ := Option.isSome_iff_exists.mp hs
    rw [hr0]
    constructor
    · intro e; exact ⟨_, hr0.trans e⟩
    · rintro ⟨n, hn⟩
      have h1 := hm2 n _ _ hr0
      have h2 := hm2 (Classical.choose h) _ _ hn
      rw [Nat.add_comm] at h2
      rw [← h1, ← h2]
  · rw [dif_neg h]
    constructor
    · intro e; cases e
    · rintro ⟨n, hn⟩; exact absurd ⟨n, by rw [hn]; rfl⟩ h
noncomputable def Rr (cf : CF) (y : Nat) : KT := fun pc ls st hp => lim (fun n => inn cf y n pc ls st hp)
theorem Rr_iff (cf : CF) (y pc : Nat) (ls : LVs) (st : List AV) (hp : HP) (r : RT) : Rr cf y pc ls st hp = some r ↔ ∃ n, inn cf y n pc ls st hp = some r := lim_iff (fun n r h => inn_mono cf y n pc ls st hp r h) r
theorem opt_ext {α : Type} {a b : Option α} (h : ∀ r, a = some r ↔ b = some r) : a = b := by
  cases a with
  | none => cases b with
    | none => rfl
    | some x => exact absurd ((h x).mpr rfl) (by simp)
  | some x => exact ((h x).mp rfl).symm
theorem Rr_eq (cf : CF) (y pc : Nat) (ls : LVs) (st : List AV) (hp : HP) : Rr cf y pc ls st hp = match cdAt y pc with | some ri => stp cf ri pc ls st hp (Rr cf y) | none => none := by
  apply opt_ext
  intro r
  rw [Rr_iff]
  cases hc : cdAt y pc with
  | none =>
    simp only
    constructor
    · rintro ⟨n, h⟩
      cases n with
      | zero => simp [inn] at h
      | succ n => rw [inn_succ, hc] at h; exact h
    · intro h; cases h
  | some ri =>
    simp only
    rcases stp_tri cf ri pc ls st hp with g | ⟨q, -, g⟩ | ⟨a, b, c, d, -, g⟩
    · rw [g]
      constructor
      · rintro ⟨n, h⟩
        cases n with
        | zero => simp [inn] at h
        | succ n => rw [inn_succ, hc] at h; simp only at h; rw [g] at h; exact h
      · intro h; cases h
    · rw [g]
      constructor
      · rintro ⟨n, h⟩
        cases n with
        | zero => simp [inn] at h
        | succ n => rw [inn_succ, hc] at h; simp only at h; rw [g] at h; exact h
      · intro h; exact ⟨1, by rw [inn_succ, hc]; simp only; rw [g]; exact h⟩
    · rw [g, Rr_iff]
      constructor
      · rintro ⟨n, h⟩
        cases n with
        | zero => simp [inn] at h
        | succ n => rw [inn_succ, hc] at h; simp only at h; rw [g] at h; exact ⟨n, h⟩
      · rintro ⟨n, h⟩; exact ⟨n + 1, by rw [inn_succ, hc]; simp only; rw [g]; exact h⟩
def inS (p : Nat) : List Nat → Bool
  | [] => false
  | q :: r => match Nat.beq p q with | true => true | false => inS p r
/-- some steps at once, up to places where it stops -/
def blk (cf : CF) (y : Nat) (stop : List Nat) : Nat → Nat → LVs → List AV → HP → KT → Option RT
  | 0, pc, ls, st, hp, k => k pc ls st hp
  | n + 1, pc, ls, st, hp, k => match cdAt y pc with
    | some ri => stp cf ri pc ls st hp (fun pc' ls' st' hp' => match inS pc' stop with | true => k pc' ls' st' hp' | false => blk cf y stop n pc' ls' st' hp' k)
    | none => none
theorem Rr_blk (cf : CF) (y : Nat) (stop : List Nat) : ∀ (n pc : Nat) (ls : LVs) (st : List AV) (hp : HP), Rr cf y pc ls st hp = blk cf y stop n pc ls st hp (Rr cf y)
  | 0, pc, ls, st, hp => rfl
  | n + 1, pc, ls, st, hp => by
    rw [Rr_eq, blk]
    cases cdAt y pc with
    | none => rfl
    | some ri =>
      simp only
      congr 1
      funext pc' ls' st' hp'
      cases inS pc' stop with
      | true => rfl
      | false => exact Rr_blk cf y stop n pc' ls' st' hp'
/-- the kinds of the arguments are those of the parameters -/
def knd : List AV → List Nat → Bool
  | [], [] => true
  | .inl _ :: r, 0 :: q => knd r q
  | .inr (.inl _) :: r, 1 :: q => knd r q
  | .inr (.inr _) :: r, 2 :: q => knd r q
  | _, _ => false
/-- an object's method is called on an object of its class -/
def rcv (z : Nat) (args : List AV) (hp : HP) : Bool := match (skT[z]?).getD 0 with
  | 0 => true
  | _ => match args with
    | .inr (.inr o) :: _ => (match gS hp o with | some q => Nat.beq q.1 ((tgT[z]?).getD 999) | none => false)
    | _ => false
noncomputable def Cd : Nat → CF
  | 0 => fun _ _ _ => none
  | d + 1 => fun z args hp => match knd args (sgOf z) && rcv z args hp with | true => Rr (Cd d) z 0 (ent (mMl z) args) [] hp | false => none
theorem Cd_succ (d z : Nat) (args : List AV) (hp : HP) : Cd (d + 1) z args hp = match knd args (sgOf z) && rcv z args hp with | true => Rr (Cd d) z 0 (ent (mMl z) args) [] hp | false => none := rfl
theorem inn_gr (cf : CF) (hcf : ∀ z a h r, cf z a h = some r → Gr h r.2) (y : Nat) : ∀ (n pc : Nat) (ls : LVs) (st : List AV) (hp : HP) (r : RT), inn cf y n pc ls st hp = some r → Gr hp r.2
  | 0, pc, ls, st, hp, r, h => by simp [inn] at h
  | n + 1, pc, ls, st, hp, r, h => by
    rw [inn_succ] at h
    cases hc : cdAt y pc with
    | none => rw [hc] at h; cases h
    | some ri =>
      rw [hc] at h
      simp only at h
      rcases stp_lin cf ri pc ls st hp (Gr hp) (Gr_rf hp) (fun _ h => h) (fun z a r e => hcf z a hp r e) with g | ⟨q, gq, g⟩ | ⟨a, b, c, d, gd, g⟩
      · rw [g] at h; cases h
      · rw [g] at h; cases h; exact gq
      · rw [g] at h; exact gd.tr (inn_gr cf hcf y n a b c d r h)
theorem Cd_gr : ∀ (d z : Nat) (a : List AV) (h : HP) (r : RT), Cd d z a h = some r → Gr h r.2
  | 0, z, a, h, r, e => by simp [Cd] at e
  | d + 1, z, a, h, r, e => by
    rw [Cd_succ] at e
    split at e
    case h_2 => cases e
    rw [Rr_iff] at e
    obtain ⟨n, e⟩ := e
    exact inn_gr (Cd d) (Cd_gr d) z n _ _ _ _ _ e
end
section
theorem ckc_0 : ∀ y ∈ [0, 1, 2, 3, 4, 5, 6, 7, 8, 9, 10, 11, 12, 13, 14, 15, 16, 17, 18, 19, 20, 21, 22, 23, 24], chkM y = true := List.forall_mem_cons.mpr ⟨ck_0, List.forall_mem_cons.mpr ⟨ck_1, List.forall_mem_cons.mpr ⟨ck_2, List.forall_mem_cons.mpr ⟨ck_3, List.forall_mem_cons.mpr ⟨ck_4, List.forall_mem_cons.mpr ⟨ck_5, List.forall_mem_cons.mpr ⟨ck_6, List.forall_mem_cons.mpr ⟨ck_7, List.forall_mem_cons.mpr ⟨ck_8, List.forall_mem_cons.mpr ⟨ck_9, List.forall_mem_cons.mpr ⟨ck_10, List.forall_mem_cons.mpr ⟨ck_11, List.forall_mem_cons.mpr ⟨ck_12, List.forall_mem_cons.mpr ⟨ck_13, List.forall_mem_cons.mpr ⟨ck_14, List.forall_mem_cons.mpr ⟨ck_15, List.forall_mem_cons.mpr ⟨ck_16, List.forall_mem_cons.mpr ⟨ck_17, List.forall_mem_cons.mpr ⟨ck_18, List.forall_mem_cons.mpr ⟨ck_19, List.forall_mem_cons.mpr ⟨ck_20, List.forall_mem_cons.mpr ⟨ck_21, List.forall_mem_cons.mpr ⟨ck_22, List.forall_mem_cons.mpr ⟨ck_23, List.forall_mem_cons.mpr ⟨ck_24, fun _ h => absurd h List.not_mem_nil⟩⟩⟩⟩⟩⟩⟩⟩⟩⟩⟩⟩⟩⟩⟩⟩⟩⟩⟩⟩⟩⟩⟩⟩⟩
theorem ckc_25 : ∀ y ∈ [25, 26, 27, 28, 29, 30, 31, 32, 33, 34, 35, 36, 37, 38, 39, 40, 41, 42, 43, 44, 45, 46, 47, 48, 49], chkM y = true := List.forall_mem_cons.mpr ⟨ck_25, List.forall_mem_cons.mpr ⟨ck_26, List.forall_mem_cons.mpr ⟨ck_27, List.forall_mem_cons.mpr ⟨ck_28, List.forall_mem_cons.mpr ⟨ck_29, List.forall_mem_cons.mpr ⟨ck_30, List.forall_mem_cons.mpr ⟨ck_31, List.forall_mem_cons.mpr ⟨ck_32, List.forall_mem_cons.mpr ⟨ck_33, List.forall_mem_cons.mpr ⟨ck_34, List.forall_mem_cons.mpr ⟨ck_35, List.forall_mem_cons.mpr ⟨ck_36, List.forall_mem_cons.mpr ⟨ck_37, List.forall_mem_cons.mpr ⟨ck_38, List.forall_mem_cons.mpr ⟨ck_39, List.forall_mem_cons.mpr ⟨ck_40, List.forall_mem_cons.mpr ⟨ck_41, List.forall_mem_cons.mpr ⟨ck_42, List.forall_mem_cons.mpr ⟨ck_43, List.forall_mem_cons.mpr ⟨ck_44, List.forall_mem_cons.mpr ⟨ck_45, List.forall_mem_cons.mpr ⟨ck_46, List.forall_mem_cons.mpr ⟨ck_47, List.forall_mem_cons.mpr ⟨ck_48, List.forall_mem_cons.mpr ⟨ck_49, fun _ h => absurd h List.not_mem_nil⟩⟩⟩⟩⟩⟩⟩⟩⟩⟩⟩⟩⟩⟩⟩⟩⟩⟩⟩⟩⟩⟩⟩⟩⟩
theorem ckc_50 : ∀ y ∈ [50, 51, 52, 53, 54, 55, 56, 57, 58, 59, 60, 61, 62, 63, 64, 65, 66, 67, 68, 69, 70, 71, 72, 73, 74], chkM y = true := List.forall_mem_cons.mpr ⟨ck_50, List.forall_mem_cons.mpr ⟨ck_51, List.forall_mem_cons.mpr ⟨ck_52, List.forall_mem_cons.mpr ⟨ck_53, List.forall_mem_cons.mpr ⟨ck_54, List.forall_mem_cons.mpr ⟨ck_55, List.forall_mem_cons.mpr ⟨ck_56, List.forall_mem_cons.mpr ⟨ck_57, List.forall_mem_cons.mpr ⟨ck_58, List.forall_mem_cons.mpr ⟨ck_59, List.forall_mem_cons.mpr ⟨ck_60, List.forall_mem_cons.mpr ⟨ck_61, List.forall_mem_cons.mpr ⟨ck_62, List.forall_mem_cons.mpr ⟨ck_63, List.forall_mem_cons.mpr ⟨ck_64, List.forall_mem_cons.mpr ⟨ck_65, List.forall_mem_cons.mpr ⟨ck_66, List.forall_mem_cons.mpr ⟨ck_67, List.forall_mem_cons.mpr ⟨ck_68, List.forall_mem_cons.mpr ⟨ck_69, List.forall_mem_cons.mpr ⟨ck_70, List.forall_mem_cons.mpr ⟨ck_71, List.forall_mem_cons.mpr ⟨ck_72, List.forall_mem_cons.mpr ⟨ck_73, List.forall_mem_cons.mpr ⟨ck_74, fun _ h => absurd h List.not_mem_nil⟩⟩⟩⟩⟩⟩⟩⟩⟩⟩⟩⟩⟩⟩⟩⟩⟩⟩⟩⟩⟩⟩⟩⟩⟩
theorem ckc_75 : ∀ y ∈ [75, 76, 77, 78, 79, 80, 81, 82, 83, 84, 85, 86, 87, 88, 89, 90, 91, 92, 93, 94, 95, 96, 97, 98, 99], chkM y = true := List.forall_mem_cons.mpr ⟨ck_75, List.forall_mem_cons.mpr ⟨ck_76, List.forall_mem_cons.mpr ⟨ck_77, List.forall_mem_cons.mpr ⟨ck_78, List.forall_mem_cons.mpr ⟨ck_79, List.forall_mem_cons.mpr ⟨ck_80, List.forall_mem_cons.mpr ⟨ck_81, List.forall_mem_cons.mpr ⟨ck_82, List.forall_mem_cons.mpr ⟨ck_83, List.forall_mem_cons.mpr ⟨ck_84, List.forall_mem_cons.mpr ⟨ck_85, List.forall_mem_cons.mpr ⟨ck_86, List.forall_mem_cons.mpr ⟨ck_87, List.forall_mem_cons.mpr ⟨ck_88, List.forall_mem_cons.mpr ⟨ck_89, List.forall_mem_cons.mpr ⟨ck_90, List.forall_mem_cons.mpr ⟨ck_91, List.forall_mem_cons.mpr ⟨ck_92, List.forall_mem_cons.mpr ⟨ck_93, List.forall_mem_cons.mpr ⟨ck_94, List.forall_mem_cons.mpr ⟨ck_95, List.forall_mem_cons.mpr ⟨ck_96, List.forall_mem_cons.mpr ⟨ck_97, List.forall_mem_cons.mpr ⟨ck_98, List.forall_mem_cons.mpr ⟨ck_99, fun _ h => absurd h List.not_mem_nil⟩⟩⟩⟩⟩⟩⟩⟩⟩⟩⟩⟩⟩⟩⟩⟩⟩⟩⟩⟩⟩⟩⟩⟩⟩
theorem ckc_100 : ∀ y ∈ [100, 101, 102, 103, 104, 105, 106, 107, 108, 109, 110, 111, 112, 113, 114, 115, 116, 117, 118, 119, 120, 121, 122, 123, 124], chkM y = true := List.forall_mem_cons.mpr ⟨ck_100, List.forall_mem_cons.mpr ⟨ck_101, List.forall_mem_cons.mpr ⟨ck_102, List.forall_mem_cons.mpr ⟨ck_103, List.forall_mem_cons.mpr ⟨ck_104, List.forall_mem_cons.mpr ⟨ck_105, List.forall_mem_cons.mpr ⟨ck_106, List.forall_mem_cons.mpr ⟨ck_107, List.forall_mem_cons.mpr ⟨ck_108, List.forall_mem_cons.mpr ⟨ck_109, List.forall_mem_cons.mpr ⟨ck_110, List.forall_mem_cons.mpr ⟨ck_111, List.forall_mem_cons.mpr ⟨ck_112, List.forall_mem_cons.mpr ⟨ck_113, List.forall_mem_cons.mpr ⟨ck_114, List.forall_mem_cons.mpr ⟨ck_115, List.forall_mem_cons.mpr ⟨ck_116, List.forall_mem_cons.mpr ⟨ck_117, List.forall_mem_cons.mpr ⟨ck_118, List.forall_mem_cons.mpr ⟨ck_119, List.forall_mem_cons.mpr ⟨ck_120, List.forall_mem_cons.mpr ⟨ck_121, List.forall_mem_cons.mpr ⟨ck_122, List.forall_mem_cons.mpr ⟨ck_123, List.forall_mem_cons.mpr ⟨ck_124, fun _ h => absurd h List.not_mem_nil⟩⟩⟩⟩⟩⟩⟩⟩⟩⟩⟩⟩⟩⟩⟩⟩⟩⟩⟩⟩⟩⟩⟩⟩⟩
theorem ckc_125 : ∀ y ∈ [125, 126, 127, 128, 129, 130, 131, 132, 133, 134, 135, 136, 137, 138, 139, 140, 141, 142, 143, 144, 145, 146, 147, 148, 149], chkM y = true := List.forall_mem_cons.mpr ⟨ck_125, List.forall_mem_cons.mpr ⟨ck_126, List.forall_mem_cons.mpr ⟨ck_127, List.forall_mem_cons.mpr ⟨ck_128, List.forall_mem_cons.mpr ⟨ck_129, List.forall_mem_cons.mpr ⟨ck_130, List.forall_mem_cons.mpr ⟨ck_131, List.forall_mem_cons.mpr ⟨ck_132, List.forall_mem_cons.mpr ⟨ck_133, List.forall_mem_cons.mpr ⟨ck_134, List.forall_mem_cons.mpr ⟨ck_135, List.forall_mem_cons.mpr ⟨ck_136, List.forall_mem_cons.mpr ⟨ck_137, List.forall_mem_cons.mpr ⟨ck_138, List.forall_mem_cons.mpr ⟨ck_139, List.forall_mem_cons.mpr ⟨ck_140, List.forall_mem_cons.mpr ⟨ck_141, List.forall_mem_cons.mpr ⟨ck_142, List.forall_mem_cons.mpr ⟨ck_143, List.forall_mem_cons.mpr ⟨ck_144, List.forall_mem_cons.mpr ⟨ck_145, List.forall_mem_cons.mpr ⟨ck_146, List.forall_mem_cons.mpr ⟨ck_147, List.forall_mem_cons.mpr ⟨ck_148, List.forall_mem_cons.mpr ⟨ck_149, fun _ h => absurd h List.not_mem_nil⟩⟩⟩⟩⟩⟩⟩⟩⟩⟩⟩⟩⟩⟩⟩⟩⟩⟩⟩⟩⟩⟩⟩⟩⟩
theorem ckc_150 : ∀ y ∈ [150, 151, 152, 153, 154, 155, 156, 157, 158, 159, 160, 161, 162, 163, 164, 165, 166, 167, 168, 169, 170, 171, 172, 173, 174], chkM y = true := List.forall_mem_cons.mpr ⟨ck_150, List.forall_mem_cons.mpr ⟨ck_151, List.forall_mem_cons.mpr ⟨ck_152, List.forall_mem_cons.mpr ⟨ck_153, List.forall_mem_cons.mpr ⟨ck_154, List.forall_mem_cons.mpr ⟨ck_155, List.forall_mem_cons.mpr ⟨ck_156, List.forall_mem_cons.mpr ⟨ck_157, List.forall_mem_cons.mpr ⟨ck_158, List.forall_mem_cons.mpr ⟨ck_159, List.forall_mem_cons.mpr ⟨ck_160, List.forall_mem_cons.mpr ⟨ck_161, List.forall_mem_cons.mpr ⟨ck_162, List.forall_mem_cons.mpr ⟨ck_163, List.forall_mem_cons.mpr ⟨ck_164, List.forall_mem_cons.mpr ⟨ck_165, List.forall_mem_cons.mpr ⟨ck_166, List.forall_mem_cons.mpr ⟨ck_167, List.forall_mem_cons.mpr ⟨ck_168, List.forall_mem_cons.mpr ⟨ck_169, List.forall_mem_cons.mpr ⟨ck_170, List.forall_mem_cons.mpr ⟨ck_171, List.forall_mem_cons.mpr ⟨ck_172, List.forall_mem_cons.mpr ⟨ck_173, List.forall_mem_cons.mpr ⟨ck_174, fun _ h => absurd h List.not_mem_nil⟩⟩⟩⟩⟩⟩⟩⟩⟩⟩⟩⟩⟩⟩⟩⟩⟩⟩⟩⟩⟩⟩⟩⟩⟩
theorem ckc_175 : ∀ y ∈ [175, 176, 177, 178, 179, 180, 181, 182, 183, 184, 185, 186, 187, 188, 189, 190, 191, 192, 193, 194, 195, 196, 197, 198, 199], chkM y = true := List.forall_mem_cons.mpr ⟨ck_175, List.forall_mem_cons.mpr ⟨ck_176, List.forall_mem_cons.mpr ⟨ck_177, List.forall_mem_cons.mpr ⟨ck_178, List.forall_mem_cons.mpr ⟨ck_179, List.forall_mem_cons.mpr ⟨ck_180, List.forall_mem_cons.mpr ⟨ck_181, List.forall_mem_cons.mpr ⟨ck_182, List.forall_mem_cons.mpr ⟨ck_183, List.forall_mem_cons.mpr ⟨ck_184, List.forall_mem_cons.mpr ⟨ck_185, List.forall_mem_cons.mpr ⟨ck_186, List.forall_mem_cons.mpr ⟨ck_187, List.forall_mem_cons.mpr ⟨ck_188, List.forall_mem_cons.mpr ⟨ck_189, List.forall_mem_cons.mpr ⟨ck_190, List.forall_mem_cons.mpr ⟨ck_191, List.forall_mem_cons.mpr ⟨ck_192, List.forall_mem_cons.mpr ⟨ck_193, List.forall_mem_cons.mpr ⟨ck_194, List.forall_mem_cons.mpr ⟨ck_195, List.forall_mem_cons.mpr ⟨ck_196, List.forall_mem_cons.mpr ⟨ck_197, List.forall_mem_cons.mpr ⟨ck_198, List.forall_mem_cons.mpr ⟨ck_199, fun _ h => absurd h List.not_mem_nil⟩⟩⟩⟩⟩⟩⟩⟩⟩⟩⟩⟩⟩⟩⟩⟩⟩⟩⟩⟩⟩⟩⟩⟩⟩
theorem ckc_200 : ∀ y ∈ [200, 201, 202, 203, 204, 205, 206, 207, 208, 209, 210, 211, 212, 213, 214, 215, 216, 217, 218, 219, 220, 221, 222, 223, 224], chkM y = true := List.forall_mem_cons.mpr ⟨ck_200, List.forall_mem_cons.mpr ⟨ck_201, List.forall_mem_cons.mpr ⟨ck_202, List.forall_mem_cons.mpr ⟨ck_203, List.forall_mem_cons.mpr ⟨ck_204, List.forall_mem_cons.mpr ⟨ck_205, List.forall_mem_cons.mpr ⟨ck_206, List.forall_mem_cons.mpr ⟨ck_207, List.forall_mem_cons.mpr ⟨ck_208, List.forall_mem_cons.mpr ⟨ck_209, List.forall_mem_cons.mpr ⟨ck_210, List.forall_mem_cons.mpr ⟨ck_211, List.forall_mem_cons.mpr ⟨ck_212, List.forall_mem_cons.mpr ⟨ck_213, List.forall_mem_cons.mpr ⟨ck_214, List.forall_mem_cons.mpr ⟨ck_215, List.forall_mem_cons.mpr ⟨ck_216, List.forall_mem_cons.mpr ⟨ck_217, List.forall_mem_cons.mpr ⟨ck_218, List.forall_mem_cons.mpr ⟨ck_219, List.forall_mem_cons.mpr ⟨ck_220, List.forall_mem_cons.mpr ⟨ck_221, List.forall_mem_cons.mpr ⟨ck_222, List.forall_mem_cons.mpr ⟨ck_223, List.forall_mem_cons.mpr ⟨ck_224, fun _ h => absurd h List.not_mem_nil⟩⟩⟩⟩⟩⟩⟩⟩⟩⟩⟩⟩⟩⟩⟩⟩⟩⟩⟩⟩⟩⟩⟩⟩⟩
theorem ckc_225 : ∀ y ∈ [225, 226, 227, 228, 229, 230, 231, 232, 233, 234, 235, 236, 237, 238, 239, 240, 241, 242, 243, 244, 245, 246, 247, 248, 249], chkM y = true := List.forall_mem_cons.mpr ⟨ck_225, List.forall_mem_cons.mpr ⟨ck_226, List.forall_mem_cons.mpr ⟨ck_227, List.forall_mem_cons.mpr ⟨ck_228, List.forall_mem_cons.mpr ⟨ck_229, List.forall_mem_cons.mpr ⟨ck_230, List.forall_mem_cons.mpr ⟨ck_231, List.forall_mem_cons.mpr ⟨ck_232, List.forall_mem_cons.mpr ⟨ck_233, List.forall_mem_cons.mpr ⟨ck_234, List.forall_mem_cons.mpr ⟨ck_235, List.forall_mem_cons.mpr ⟨ck_236, List.forall_mem_cons.mpr ⟨ck_237, List.forall_mem_cons.mpr ⟨ck_238, List.forall_mem_cons.mpr ⟨ck_239, List.forall_mem_cons.mpr ⟨ck_240, List.forall_mem_cons.mpr ⟨ck_241, List.forall_mem_cons.mpr ⟨ck_242, List.forall_mem_cons.mpr ⟨ck_243, List.forall_mem_cons.mpr ⟨ck_244, List.forall_mem_cons.mpr ⟨ck_245, List.forall_mem_cons.mpr ⟨ck_246, List.forall_mem_cons.mpr ⟨ck_247, List.forall_mem_cons.mpr ⟨ck_248, List.forall_mem_cons.mpr ⟨ck_249, fun _ h => absurd h List.not_mem_nil⟩⟩⟩⟩⟩⟩⟩⟩⟩⟩⟩⟩⟩⟩⟩⟩⟩⟩⟩⟩⟩⟩⟩⟩⟩
theorem ckc_250 : ∀ y ∈ [250, 251, 252, 253, 254, 255, 256, 257, 258, 259, 260, 261, 262, 263, 264, 265, 266, 267, 268, 269, 270, 271, 272, 273, 274], chkM y = true := List.forall_mem_cons.mpr ⟨ck_250, List.forall_mem_cons.mpr ⟨ck_251, List.forall_mem_cons.mpr ⟨ck_252, List.forall_mem_cons.mpr ⟨ck_253, List.forall_mem_cons.mpr ⟨ck_254, List.forall_mem_cons.mpr ⟨ck_255, List.forall_mem_cons.mpr ⟨ck_256, List.forall_mem_cons.mpr ⟨ck_257, List.forall_mem_cons.mpr ⟨ck_258, List.forall_mem_cons.mpr ⟨ck_259, List.forall_mem_cons.mpr ⟨ck_260, List.forall_mem_cons.mpr ⟨ck_261, List.forall_mem_cons.mpr ⟨ck_262, List.forall_mem_cons.mpr ⟨ck_263, List.forall_mem_cons.mpr ⟨ck_264, List.forall_mem_cons.mpr ⟨ck_265, List.forall_mem_cons.mpr ⟨ck_266, List.forall_mem_cons.mpr ⟨ck_267, List.forall_mem_cons.mpr ⟨ck_268, List.forall_mem_cons.mpr ⟨ck_269, List.forall_mem_cons.mpr ⟨ck_270, List.forall_mem_cons.mpr ⟨ck_271, List.forall_mem_cons.mpr ⟨ck_272, List.forall_mem_cons.mpr ⟨ck_273, List.forall_mem_cons.mpr ⟨ck_274, fun _ h => absurd h List.not_mem_nil⟩⟩⟩⟩⟩⟩⟩⟩⟩⟩⟩⟩⟩⟩⟩⟩⟩⟩⟩⟩⟩⟩⟩⟩⟩
theorem ckc_275 : ∀ y ∈ [275, 276, 277, 278, 279, 280, 281, 282, 283, 284, 285, 286, 287, 288, 289, 290, 291, 292, 293, 294, 295, 296, 297, 298, 299], chkM y = true := List.forall_mem_cons.mpr ⟨ck_275, List.forall_mem_cons.mpr ⟨ck_276, List.forall_mem_cons.mpr ⟨ck_277, List.forall_mem_cons.mpr ⟨ck_278, List.forall_mem_cons.mpr ⟨ck_279, List.forall_mem_cons.mpr ⟨ck_280, List.forall_mem_cons.mpr ⟨ck_281, List.forall_mem_cons.mpr ⟨ck_282, List.forall_mem_cons.mpr ⟨ck_283, List.forall_mem_cons.mpr ⟨ck_284, List.forall_mem_cons.mpr ⟨ck_285, List.forall_mem_cons.mpr ⟨ck_286, List.forall_mem_cons.mpr ⟨ck_287, List.forall_mem_cons.mpr ⟨ck_288, List.forall_mem_cons.mpr ⟨ck_289, List.forall_mem_cons.mpr ⟨ck_290, List.forall_mem_cons.mpr ⟨ck_291, List.forall_mem_cons.mpr ⟨ck_292, List.forall_mem_cons.mpr ⟨ck_293, List.forall_mem_cons.mpr ⟨ck_294, List.forall_mem_cons.mpr ⟨ck_295, List.forall_mem_cons.mpr ⟨ck_296, List.forall_mem_cons.mpr ⟨ck_297, List.forall_mem_cons.mpr ⟨ck_298, List.forall_mem_cons.mpr ⟨ck_299, fun _ h => absurd h List.not_mem_nil⟩⟩⟩⟩⟩⟩⟩⟩⟩⟩⟩⟩⟩⟩⟩⟩⟩⟩⟩⟩⟩⟩⟩⟩⟩
theorem ckc_300 : ∀ y ∈ [300, 301, 302], chkM y = true := List.forall_mem_cons.mpr ⟨ck_300, List.forall_mem_cons.mpr ⟨ck_301, List.forall_mem_cons.mpr ⟨ck_302, fun _ h => absurd h List.not_mem_nil⟩⟩⟩
theorem ckAll : ∀ y, y < 303 → chkM y = true := by
  intro y h
  by_cases h0 : y < 25
  · exact ckc_0 y (by
      have := List.mem_range'_1 (m := y) (s := 0) (n := 25) |>.mpr ⟨by omega, by omega⟩
      exact this)
  by_cases h25 : y < 50
  · exact ckc_25 y (by
      have := List.mem_range'_1 (m := y) (s := 25) (n := 25) |>.mpr ⟨by omega, by omega⟩
      exact this)
  by_cases h50 : y < 75
  · exact ckc_50 y (by
      have := List.mem_range'_1 (m := y) (s := 50) (n := 25) |>.mpr ⟨by omega, by omega⟩
      exact this)
  by_cases h75 : y < 100
  · exact ckc_75 y (by
      have := List.mem_range'_1 (m := y) (s := 75) (n := 25) |>.mpr ⟨by omega, by omega⟩
      exact this)
  by_cases h100 : y < 125
  · exact ckc_100 y (by
      have := List.mem_range'_1 (m := y) (s := 100) (n := 25) |>.mpr ⟨by omega, by omega⟩
      exact this)
  by_cases h125 : y < 150
  · exact ckc_125 y (by
      have := List.mem_range'_1 (m := y) (s := 125) (n := 25) |>.mpr ⟨by omega, by omega⟩
      exact this)
  by_cases h150 : y < 175
  · exact ckc_150 y (by
      have := List.mem_range'_1 (m := y) (s := 150) (n := 25) |>.mpr ⟨by omega, by omega⟩
      exact this)
  by_cases h175 : y < 200
  · exact ckc_175 y (by
      have := List.mem_range'_1 (m := y) (s := 175) (n := 25) |>.mpr ⟨by omega, by omega⟩
      exact this)
  by_cases h200 : y < 225
  · exact ckc_200 y (by
      have := List.mem_range'_1 (m := y) (s := 200) (n := 25) |>.mpr ⟨by omega, by omega⟩
      exact this)
  by_cases h225 : y < 250
  · exact ckc_225 y (by
      have := List.mem_range'_1 (m := y) (s := 225) (n := 25) |>.mpr ⟨by omega, by omega⟩
      exact this)
  by_cases h250 : y < 275
  · exact ckc_250 y (by
      have := List.mem_range'_1 (m := y) (s := 250) (n := 25) |>.mpr ⟨by omega, by omega⟩
      exact this)
  by_cases h275 : y < 300
  · exact ckc_275 y (by
      have := List.mem_range'_1 (m := y) (s := 275) (n := 25) |>.mpr ⟨by omega, by omega⟩
      exact this)
  by_cases h300 : y < 303
  · exact ckc_300 y (by
      have := List.mem_range'_1 (m := y) (s := 300) (n := 3) |>.mpr ⟨by omega, by omega⟩
      exact this)
  omega
theorem chkL_at (z : Nat) (bs : ByteArray) (os : List Nat) (wl : List RI) : ∀ (cs : List RI) (i : Nat), chkL z bs os wl i cs = true → ∀ (j : Nat) (ri : RI), cs[j]? = some ri → (ri.1 = 99 ∨ (decode bs (os.getD (i + j) 0) = .ok (toIns os (i + j) ri) ∧ okR z ri = true ∧ (hasW ri = true → ri ∈ wl))) ∧ os.getD (i + j + 1) 0 = os.getD (i + j) 0 + (toIns os (i + j) ri).2
  | [], i, _, j, ri, h => by simp at h
  | x :: r, i, hc, j, ri, h => by
    simp only [chkL, Bool.and_eq_true, Bool.or_eq_true, beq_iff_eq, decide_eq_true_eq, Bool.not_eq_true'] at hc
    cases j with
    | zero =>
      rw [List.getElem?_cons_zero] at h
      cases h
      refine ⟨?_, hc.1.2⟩
      rcases hc.1.1 with h9 | ⟨⟨h1, h2⟩, h3⟩
      · exact Or.inl h9
      · refine Or.inr ⟨h1, h2, fun hw => ?_⟩
        rcases h3 with h3 | h3
        · rw [h3] at hw; cases hw
        · exact List.elem_iff.mp h3
    | succ j =>
      rw [List.getElem?_cons_succ] at h
      have := chkL_at z bs os wl r (i + 1) hc.2 j ri h
      rw [show i + 1 + j = i + (j + 1) by omega] at this
      exact this
theorem wl_all {own : String} {wl : List RI} {is : List Nat} (h : (wl.zip is).all (fun q => match wordOf own q.1 with | some w => decide (lw_tbl[q.2]? = some w) | none => false) = true) (hl : wl.length = is.length) : ∀ ri ∈ wl, ∃ w ∈ lw_tbl, wordOf own ri = some w := by
  intro ri hri
  obtain ⟨j, hj⟩ := List.getElem?_of_mem hri
  have hjl : j < is.length := by rw [← hl]; exact (List.getElem?_eq_some_iff.mp hj).1
  have hz : (wl.zip is)[j]? = some (ri, is[j]) := by
    rw [List.getElem?_zip_eq_some]
    exact ⟨hj, List.getElem?_eq_getElem hjl⟩
  have := List.all_eq_true.mp h _ (List.mem_of_getElem? hz)
  cases hw : wordOf own ri with
  | none => simp [hw] at this
  | some w =>
    simp only [hw, decide_eq_true_eq] at this
    exact ⟨w, List.mem_of_getElem? this, rfl⟩
theorem wlm_0 : ∀ ri ∈ wl_0, ∃ w ∈ lw_tbl, wordOf "ShownNot$Boxes" ri = some w := wl_all wl_0_ok rfl
theorem wlm_1 : ∀ ri ∈ wl_1, ∃ w ∈ lw_tbl, wordOf "ShownNot$Chart" ri = some w := wl_all wl_1_ok rfl
theorem wlm_2 : ∀ ri ∈ wl_2, ∃ w ∈ lw_tbl, wordOf "ShownNot$JudgeCode" ri = some w := wl_all wl_2_ok rfl
theorem wlm_3 : ∀ ri ∈ wl_3, ∃ w ∈ lw_tbl, wordOf "ShownNot$Lock" ri = some w := wl_all wl_3_ok rfl
theorem wlm_4 : ∀ ri ∈ wl_4, ∃ w ∈ lw_tbl, wordOf "ShownNot$Play" ri = some w := wl_all wl_4_ok rfl
theorem wlm_5 : ∀ ri ∈ wl_5, ∃ w ∈ lw_tbl, wordOf "ShownNot$Power" ri = some w := wl_all wl_5_ok rfl
theorem wlm_6 : ∀ ri ∈ wl_6, ∃ w ∈ lw_tbl, wordOf "ShownNot$Reader" ri = some w := wl_all wl_6_ok rfl
theorem wlm_7 : ∀ ri ∈ wl_7, ∃ w ∈ lw_tbl, wordOf "ShownNot$Riddle" ri = some w := wl_all wl_7_ok rfl
theorem wlm_8 : ∀ ri ∈ wl_8, ∃ w ∈ lw_tbl, wordOf "ShownNot$Showing" ri = some w := wl_all wl_8_ok rfl
theorem wlm_9 : ∀ ri ∈ wl_9, ∃ w ∈ lw_tbl, wordOf "ShownNot$Sightings" ri = some w := wl_all wl_9_ok rfl
theorem wlm_10 : ∀ ri ∈ wl_10, ∃ w ∈ lw_tbl, wordOf "ShownNot$State" ri = some w := wl_all wl_10_ok rfl
theorem wlm_11 : ∀ ri ∈ wl_11, ∃ w ∈ lw_tbl, wordOf "ShownNot" ri = some w := wl_all wl_11_ok rfl
theorem wlm_12 : ∀ ri ∈ wl_12, ∃ w ∈ lw_tbl, wordOf "ShownNotModel" ri = some w := wl_all wl_12_ok rfl
theorem wlm_13 : ∀ ri ∈ wl_13, ∃ w ∈ lw_tbl, wordOf "java/lang/Integer" ri = some w := wl_all wl_13_ok rfl
theorem wlm_14 : ∀ ri ∈ wl_14, ∃ w ∈ lw_tbl, wordOf "java/lang/String" ri = some w := wl_all wl_14_ok rfl
theorem wlm_15 : ∀ ri ∈ wl_15, ∃ w ∈ lw_tbl, wordOf "java/lang/StringLatin1" ri = some w := wl_all wl_15_ok rfl
theorem wlm_16 : ∀ ri ∈ wl_16, ∃ w ∈ lw_tbl, wordOf "ShownNotLaw" ri = some w := wl_all wl_16_ok rfl
theorem wlT_ok : ∀ q ∈ wlT, ∀ ri ∈ q.2, ∃ w ∈ lw_tbl, wordOf q.1 ri = some w := List.forall_mem_cons.mpr ⟨wlm_0, List.forall_mem_cons.mpr ⟨wlm_1, List.forall_mem_cons.mpr ⟨wlm_2, List.forall_mem_cons.mpr ⟨wlm_3, List.forall_mem_cons.mpr ⟨wlm_4, List.forall_mem_cons.mpr ⟨wlm_5, List.forall_mem_cons.mpr ⟨wlm_6, List.forall_mem_cons.mpr ⟨wlm_7, List.forall_mem_cons.mpr ⟨wlm_8, List.forall_mem_cons.mpr ⟨wlm_9, List.forall_mem_cons.mpr ⟨wlm_10, List.forall_mem_cons.mpr ⟨wlm_11, List.forall_mem_cons.mpr ⟨wlm_12, List.forall_mem_cons.mpr ⟨wlm_13, List.forall_mem_cons.mpr ⟨wlm_14, List.forall_mem_cons.mpr ⟨wlm_15, List.forall_mem_cons.mpr ⟨wlm_16, fun _ h => absurd h List.not_mem_nil⟩⟩⟩⟩⟩⟩⟩⟩⟩⟩⟩⟩⟩⟩⟩⟩⟩
theorem wlOf_ok {own : String} {ri : RI} (h : ri ∈ wlOf own) : ∃ w ∈ lw_tbl, wordOf own ri = some w := by
  unfold wlOf at h
  split at h
  · rename_i q hq
    have h1 := List.find?_some hq
    have h2 := List.mem_of_find?_eq_some hq
    have e : q.1 = own := by simpa using h1
    rw [← e]
    exact wlT_ok q h2 ri h
  · exact absurd h List.not_mem_nil
theorem codeT_len : codeT.length = 303 := by decide +kernel
theorem cd_lt {y pc : Nat} {ri : RI} (h : cdAt y pc = some ri) : y < 303 := by
  by_cases hy : y < 303
  · exact hy
  · have : codeT[y]? = none := List.getElem?_eq_none (by show codeT.length ≤ y; have := codeT_len; omega)
    unfold cdAt at h
    rw [this] at h
    simp at h
/-- what is known at a place of a method -/
theorem at_ok {y pc : Nat} {ri : RI} (h : cdAt y pc = some ri) (h9 : ri.1 ≠ 99) : decode (mByt y) (mOff y pc) = .ok (toIns ((offT[y]?).getD []) pc ri) ∧ okR y ri = true ∧ (hasW ri = true → ∃ w ∈ lw_tbl, wordOf (mName y).cls ri = some w) ∧ mOff y (pc + 1) = mOff y pc + (toIns ((offT[y]?).getD []) pc ri).2 := by
  have hc := ckAll y (cd_lt h)
  unfold chkM at hc
  have h1 := chkL_at y (mByt y) ((offT[y]?).getD []) (wlOf (mName y).cls) ((codeT[y]?).getD []) 0 hc pc ri h
  rw [Nat.zero_add] at h1
  obtain ⟨h2, h3⟩ := h1
  rcases h2 with h2 | ⟨h4, h5, h6⟩
  · exact absurd h2 h9
  · exact ⟨h4, h5, fun hw => wlOf_ok (h6 hw), h3⟩
end
section
/-! what a real state is that the machine of numbers stands for -/
abbrev KX : Nat := 29
abbrev PB : Type := Nat × (Nat → Nat) × Value × va_G × (Nat → ClassId)
def ad (P : PB) (i : Nat) : Nat := if i < KX then P.2.1 i else P.1 + (i - KX)
def cvA (P : PB) (z : Int) : Value := if z < 0 then .null else if z = 0 then P.2.2.1 else .ref (ad P z.toNat)
def cv (P : PB) (v : AV) : Value := match v with | .inl z => .int (Int32.ofInt z) | .inr (.inl z) => .long (Int64.ofInt z) | .inr (.inr z) => cvA P z
def inI (z : Int) : Prop := -2147483648 ≤ z ∧ z < 2147483648
def inL (z : Int) : Prop := -9223372036854775808 ≤ z ∧ z < 9223372036854775808
def wfv (v : AV) : Prop := match v with | .inl z => inI z | .inr (.inl z) => inL z | .inr (.inr _) => True
theorem i_w (z : Int) : Int32.ofInt (w32 z) = Int32.ofInt z := Int32.ofInt_toInt _
theorem l_w (z : Int) : Int64.ofInt (w64 z) = Int64.ofInt z := Int64.ofInt_toInt _
theorem inI_t (x : Int32) : inI x.toInt := ⟨Int32.le_toInt x, Int32.toInt_lt x⟩
theorem inL_t (x : Int64) : inL x.toInt := ⟨Int64.le_toInt x, Int64.toInt_lt x⟩
theorem t_i {z : Int} (h : inI z) : (Int32.ofInt z).toInt = z := Int32.toInt_ofInt_of_le h.1 h.2
theorem t_l {z : Int} (h : inL z) : (Int64.ofInt z).toInt = z := Int64.toInt_ofInt_of_le h.1 h.2
theorem w32_id {z : Int} (h1 : -2147483648 ≤ z) (h2 : z < 2147483648) : w32 z = z := t_i ⟨h1, h2⟩
theorem i_lt {x y : Int} (hx : inI x) (hy : inI y) : Int32.ofInt x < Int32.ofInt y ↔ x < y := by rw [Int32.lt_iff_toInt_lt, t_i hx, t_i hy]
theorem i_le {x y : Int} (hx : inI x) (hy : inI y) : Int32.ofInt x ≤ Int32.ofInt y ↔ x ≤ y := by rw [Int32.le_iff_toInt_le, t_i hx, t_i hy]
theorem i_eq {x y : Int} (hx : inI x) (hy : inI y) : Int32.ofInt x = Int32.ofInt y ↔ x = y := by rw [← Int32.toInt_inj, t_i hx, t_i hy]
theorem l_lt {x y : Int} (hx : inL x) (hy : inL y) : Int64.ofInt x < Int64.ofInt y ↔ x < y := by rw [Int64.lt_iff_toInt_lt, t_l hx, t_l hy]
theorem l_eq {x y : Int} (hx : inL x) (hy : inL y) : Int64.ofInt x = Int64.ofInt y ↔ x = y := by rw [← Int64.toInt_inj, t_l hx, t_l hy]
theorem inI_0 : inI 0 := ⟨by decide, by decide⟩
theorem inL_0 : inL 0 := ⟨by decide, by decide⟩
theorem inL_of {z : Int} (h : inI z) : inL z := ⟨by have := h.1; omega, by have := h.2; omega⟩
theorem i_0 : Int32.ofInt 0 = 0 := rfl
theorem i_nat {z : Int} (h : inI z) (h0 : 0 ≤ z) : (Int32.ofInt z).toNatClampNeg = z.toNat := by
  show (Int32.ofInt z).toInt.toNat = _; rw [t_i h]
theorem vp_i {z : Int} {n : Nat} (h : inI z) (h0 : 0 ≤ z) (hn : z < n) : vp_in (Int32.ofInt z) n := by
  rintro (q | q)
  · have := (i_lt h inI_0).mp q; omega
  · rw [i_nat h h0] at q; omega
theorem i_ofNat (n : Nat) : Int32.ofNat n = Int32.ofInt (n : Int) := rfl
theorem l_i2l {x : Int} (h : inI x) : (Int32.ofInt x).toInt64 = Int64.ofInt x := by
  rw [← Int64.toInt_inj, Int32.toInt_toInt64, t_i h, t_l (inL_of h)]
theorem i_l2i (x : Int) : (Int64.ofInt x).toInt32 = Int32.ofInt x := by
  first
    | exact Int64.toInt32_ofInt x
    | simp
theorem l_cmp {x y : Int} (hx : inL x) (hy : inL y) : lg_cmp (Int64.ofInt x) (Int64.ofInt y) = Int32.ofInt (lcmp x y) := by
  unfold lg_cmp lcmp
  by_cases h1 : y < x
  · rw [if_pos ((l_lt hy hx).mpr h1), if_pos h1]; rfl
  · rw [if_neg (fun q => h1 ((l_lt hy hx).mp q)), if_neg h1]
    by_cases h2 : x = y
    · rw [if_pos ((l_eq hx hy).mpr h2), if_pos h2]; rfl
    · rw [if_neg (fun q => h2 ((l_eq hx hy).mp q)), if_neg h2]; rfl
/-- the cells -/
def cvK (P : PB) (kn : Nat) (z : Int) : Value := match kn with | 1 => .long (Int64.ofInt z) | 2 => cvA P z | _ => .int (Int32.ofInt z)
def wfK (kn : Nat) (z : Int) : Prop := match kn with | 1 => inL z | 2 => True | _ => inI z
def rfo (P : PB) (z : Int) : Option Nat := if z < 0 then none else some (ad P z.toNat)
def fds (P : PB) (c : Nat → Nat → Int) (i t n : Nat) : List Value := (List.range n).map fun k => cvK P (kd t k) (c i k)
def entE (P : PB) (c : Nat → Nat → Int) (i : Nat) (q : Nat × Nat) : va_E :=
  if q.1 < 13 then .inr (q.1, fds P c i q.1 q.2)
  else if q.1 = 101 then .inl (P.2.2.2.2 1, q.2, .inr (.inl fun k => Int64.ofInt (c i k)))
  else if q.1 = 103 ∨ q.1 = 104 then .inl (P.2.2.2.2 (q.1 - 100), q.2, .inr (.inr (.inr (.inr fun k => rfo P (c i k)))))
  else .inl (P.2.2.2.2 (q.1 - 100), q.2, .inl fun k => Int32.ofInt (c i k))
def wsO (P : PB) (hp : HP) : va_W := (hp.1.drop KX).mapIdx fun j q => (P.1 + j, entE P hp.2 (KX + j) q)
theorem wsO_len (P : PB) (hp : HP) : (wsO P hp).length = hp.1.length - KX := by simp [wsO]
theorem wsO_at (P : PB) (hp : HP) (j : Nat) : (wsO P hp)[j]? = (hp.1[KX + j]?).map fun q => (P.1 + j, entE P hp.2 (KX + j) q) := by
  simp [wsO, List.getElem?_mapIdx, List.getElem?_drop]
theorem wsO_get {P : PB} {hp : HP} {i : Nat} {q : Nat × Nat} (hi : KX ≤ i) (h : hp.1[i]? = some q) : (wsO P hp)[i - KX]? = some (ad P i, entE P hp.2 i q) := by
  rw [wsO_at, show KX + (i - KX) = i by omega, h]
  simp only [Option.map_some, ad, if_neg (show ¬ i < KX by omega)]
def RG (P : PB) : Nat → Prop := fun q => P.1 ≤ q
theorem wsO_D (P : PB) (hp : HP) : va_D (RG P) (wsO P hp) := by
  refine ⟨fun i j p q hi hj h => ?_, fun k q hk => ?_⟩
  · rw [wsO_at] at hi hj
    cases h1 : hp.1[KX + i]? with
    | none => rw [h1] at hi; simp at hi
    | some a =>
      cases h2 : hp.1[KX + j]? with
      | none => rw [h2] at hj; simp at hj
      | some b =>
        rw [h1] at hi; rw [h2] at hj
        simp only [Option.map_some, Option.some.injEq] at hi hj
        rw [← hi, ← hj] at h
        simp only at h
        omega
  · rw [wsO_at] at hk
    cases h1 : hp.1[KX + k]? with
    | none => rw [h1] at hk; simp at hk
    | some a =>
      rw [h1] at hk
      simp only [Option.map_some, Option.some.injEq] at hk
      rw [← hk]
      exact Nat.le_add_right _ _
theorem entE_u2 (P : PB) (c : Nat → Nat → Int) (o k : Nat) (v : Int) {i : Nat} (h : i ≠ o) (q : Nat × Nat) : entE P (u2 c o k v) i q = entE P c i q := by
  have e : ∀ j, u2 c o k v i j = c i j := fun j => by simp [u2, h]
  simp only [entE, fds, e]
theorem wsO_u2 {P : PB} {hp : HP} {o k : Nat} {v : Int} {q : Nat × Nat} (ho : KX ≤ o) (hq : hp.1[o]? = some q) : (wsO P hp).set (o - KX) (ad P o, entE P (u2 hp.2 o k v) o q) = wsO P (hp.1, u2 hp.2 o k v) := by
  apply List.ext_getElem?
  intro j
  have hl : o - KX < (wsO P hp).length := (List.getElem?_eq_some_iff.mp (wsO_get ho hq)).1
  by_cases hj : j = o - KX
  · subst hj
    rw [List.getElem?_set_self hl, wsO_get (hp := (hp.1, u2 hp.2 o k v)) ho hq]
  · rw [List.getElem?_set_ne (Ne.symm hj), wsO_at, wsO_at]
    cases hp.1[KX + j]? with
    | none => rfl
    | some a => simp only [Option.map_some]; rw [entE_u2 P hp.2 o k v (show KX + j ≠ o by omega)]
theorem wsO_mk {P : PB} {hp : HP} (t n : Nat) (hK : KX ≤ hp.1.length) : wsO P hp ++ [(P.1 + (hp.1.length - KX), entE P (mk hp t n).2 hp.1.length (t, n))] = wsO P (mk hp t n) := by
  apply List.ext_getElem?
  intro j
  have hl := wsO_len P hp
  have hs : (mk hp t n).1 = hp.1 ++ [(t, n)] := rfl
  by_cases hj : j < hp.1.length - KX
  · rw [List.getElem?_append_left (by omega), wsO_at, wsO_at, hs, List.getElem?_append_left (by omega)]
    cases hp.1[KX + j]? with
    | none => rfl
    | some a =>
      simp only [Option.map_some]
      have e : ∀ m, (mk hp t n).2 (KX + j) m = hp.2 (KX + j) m := fun m => by
        show (if KX + j = hp.1.length then dfl t m else hp.2 (KX + j) m) = _
        rw [if_neg (by omega)]
      simp only [entE, fds, e]
  · rw [List.getElem?_append_right (by omega), wsO_at, hs, List.getElem?_append_right (by omega)]
    by_cases hj2 : j = hp.1.length - KX
    · subst hj2
      rw [hl, Nat.sub_self, show KX + (hp.1.length - KX) - hp.1.length = 0 by omega, show KX + (hp.1.length - KX) = hp.1.length by omega]
      rfl
    · rw [hl]
      obtain ⟨m, hm⟩ : ∃ m, j - (hp.1.length - KX) = m + 1 := ⟨j - (hp.1.length - KX) - 1, by omega⟩
      obtain ⟨m2, hm2⟩ : ∃ m, KX + j - hp.1.length = m + 1 := ⟨KX + j - hp.1.length - 1, by omega⟩
      rw [hm, hm2]; simp
/-- what is held of a cell -/
def okC (q : Nat × Nat) (f : Nat → Int) : Prop := q.2 ≤ 100000 ∧
  ((q.1 < 13 ∧ (∃ r, vwCl[q.1]? = some r ∧ q.2 = r.2.2) ∧ ∀ k, k < q.2 → wfK (kd q.1 k) (f k)) ∨ (q.1 = 100 ∧ ∀ k, k < q.2 → inI (f k)) ∨ (q.1 = 101 ∧ ∀ k, k < q.2 → inL (f k)) ∨ (q.1 = 102 ∧ ∀ k, k < q.2 → f k = 0 ∨ f k = 1) ∨ ((q.1 = 103 ∨ q.1 = 104) ∧ ∀ k, k < q.2 → f k ≠ 0))
def xSh (L : Nat) : List (Nat × Nat) := [(98, 0), (110, L)] ++ statA.map (fun q => (110, q.2.length)) ++ strT.flatMap (fun q => [(50, 2), (112, q.length)])
/-- the bytes of a text -/
def byts (t : String) : List Int := t.toList.map fun ch => (ch.toNat : Int)
def xCt (xs : Nat → Int32) (i k : Nat) : Int :=
  if i = 1 then (xs k).toInt
  else if i < 2 + statA.length then ((statA[i - 2]?).getD ("", [])).2.getD k 0
  else if (i - 2 - statA.length) % 2 = 0 then (if k = 0 then (i + 1 : Int) else 0)
  else (byts ((strT[(i - 2 - statA.length) / 2]?).getD "")).getD k 0
def wfH (L : Nat) (xs : Nat → Int32) (hp : HP) : Prop := (KX ≤ hp.1.length ∧ L ≤ 3072) ∧ hp.1.take KX = xSh L ∧ (∀ i k, i < KX → hp.2 i k = xCt xs i k) ∧ ∀ i q, KX ≤ i → hp.1[i]? = some q → okC q (hp.2 i)
end
section
/-! the simulation: what holds while a method runs, and the groups of instructions one by one -/
def isNs (w : Jvm.Cond) : Bool := match w with | .methodLinkNest .. => true | .fieldLinkNest .. => true | _ => false
def tysO (P : PB) : List (ClassId × FieldType) := [(P.2.2.2.2 0, .int), (P.2.2.2.2 1, .long), (P.2.2.2.2 2, .boolean), (P.2.2.2.2 3, .object "ShownNot$Chart"), (P.2.2.2.2 4, .object "ShownNot$Showing")]
def lens : List Nat := strT.map String.length
def bytL : List (List Int32) := strT.map fun t => (byts t).map Int32.ofInt
abbrev stA (a : Nat) : String × List Int := (statA[a]?).getD ("", [])
abbrev stN (a : Nat) : String × String × String × Int := (statN[a]?).getD ("", "", "", 0)
abbrev stS (a : Nat) : String := (strT[a]?).getD ""
def fixW (P : PB) (L : Nat) (xs : Nat → Int32) (U : State) (H : Heap) : Prop :=
  va_K P.2.2.2.1 vwCl (tysO P) U ∧ va_T .int (P.2.1 1) L (fun j => .int (xs j)) (RG P) U H ∧
  (∀ a, a < statA.length → va_T .int (P.2.1 (2 + a)) (stA a).2.length (fun j => .int (Int32.ofInt ((stA a).2.getD j 0))) (RG P) U H ∧ va_Z "ShownNot" (stA a).1 "[I" (.ref (P.2.1 (2 + a))) (RG P) U H) ∧
  (∀ a, a < statN.length → va_Z (stN a).1 (stN a).2.1 (stN a).2.2.1 (.int (Int32.ofInt (stN a).2.2.2)) (RG P) U H) ∧
  va_Z "jdk/internal/util/Preconditions" "SIOOBE_FORMATTER" "Ljava/util/function/BiFunction;" P.2.2.1 (RG P) U H ∧
  vk_S 12 lens bytL (fun i => P.2.1 (5 + 2 * i)) (fun i => P.2.1 (6 + 2 * i)) (RG P) U H ∧ va_AO "ShownNot$Chart" U ∧ va_AO "ShownNot$Showing" U
def WD (P : PB) (L : Nat) (xs : Nat → Int32) (U : State) : Prop :=
  (∀ w ∈ lw_tbl, isNs w = true → va_Nw w U) ∧ (∀ (own : String) (x a : Nat), a < strT.length → Jvm.Cond.stringRef own x (stS a) ∈ lw_tbl → vk_R own x (stS a) (P.2.1 (5 + 2 * a)) U) ∧ fixW P L xs U U.heap ∧ (P.2.2.1 = .null ∨ ∃ t, P.2.2.1 = .ref t)
theorem fixW_mv {P : PB} {L : Nat} {xs : Nat → Int32} {U T : State} {H H1 : Heap} (hvm : U.vm.Alike T.vm) (hq : ∀ a : Nat, a < H.size → ¬ RG P a → H1[a]? = H[a]?) (h : fixW P L xs U H) : fixW P L xs T H1 := by
  obtain ⟨h1, h2, h3, h4, h5, h6, h7, h8⟩ := h
  exact ⟨va_K.moved hvm h1, (va_T.moved hvm h2).kept hq, fun a ha => ⟨(va_T.moved hvm (h3 a ha).1).kept hq, (va_Z.moved hvm (h3 a ha).2).kept hq⟩, fun a ha => (va_Z.moved hvm (h4 a ha)).kept hq, (va_Z.moved hvm h5).kept hq, (vk_S.moved hvm h6).kept hq, va_AO.moved hvm h7, va_AO.moved hvm h8⟩
theorem WD_mv {P : PB} {L : Nat} {xs : Nat → Int32} {U T : State} (hW : U.WarmedH T.vm) (hq : ∀ a : Nat, a < U.heap.size → ¬ RG P a → T.heap[a]? = U.heap[a]?) (h : WD P L xs U) : WD P L xs T := by
  refine ⟨fun w hw hn => ?_, fun own x a ha hs => vk_R.warm hW (h.2.1 own x a ha hs), fixW_mv hW.alike hq h.2.2.1, h.2.2.2⟩
  have h0 := h.1 w hw hn
  cases w with
  | methodLinkNest a i x hst => exact va_Nw.warmM hW h0
  | fieldLinkNest a i b n d hst => exact va_Nw.warmF hW h0
  | _ => cases hn
theorem WD_same {P : PB} {L : Nat} {xs : Nat → Int32} {U T : State} (hv : T.vm = U.vm) (hh : T.heap = U.heap) (h : WD P L xs U) : WD P L xs T := by
  have ha : U.vm.Alike T.vm := by rw [hv]; exact Vm.Alike.refl _
  refine ⟨fun w hw hn => ?_, fun own x a ha hs => vk_R.same hv (h.2.1 own x a ha hs), by rw [hh]; exact fixW_mv ha (fun _ _ _ => rfl) h.2.2.1, h.2.2.2⟩
  have h0 := h.1 w hw hn
  cases w with
  | methodLinkNest a i x hst => exact va_Nw.same rfl hv.symm h0
  | fieldLinkNest a i b n d hst => exact va_Nw.same rfl hv.symm h0
  | _ => cases hn
def asL (P : PB) : Nat → LVs → List (Nat × Value)
  | _, [] => []
  | i, none :: r => asL P (i + 1) r
  | i, some v :: r => (i, cv P v) :: asL P (i + 1) r
theorem asL_in (P : PB) : ∀ (ls : LVs) (i k : Nat) (v : AV), ls[k]? = some (some v) → (i + k, cv P v) ∈ asL P i ls
  | [], i, k, v, h => by simp at h
  | none :: r, i, k, v, h => by
    cases k with
    | zero => simp at h
    | succ k =>
      rw [List.getElem?_cons_succ] at h
      have := asL_in P r (i + 1) k v h
      rw [show i + 1 + k = i + (k + 1) by omega] at this
      exact this
  | some w :: r, i, k, v, h => by
    cases k with
    | zero => simp at h; subst h; exact List.mem_cons_self
    | succ k =>
      rw [List.getElem?_cons_succ] at h
      have := asL_in P r (i + 1) k v h
      rw [show i + 1 + k = i + (k + 1) by omega] at this
      exact List.mem_cons_of_mem _ this
theorem asL_of (P : PB) : ∀ (ls : LVs) (i : Nat) (q : Nat × Value), q ∈ asL P i ls → ∃ k v, ls[k]? = some (some v) ∧ q = (i + k, cv P v)
  | [], i, q, h => by cases h
  | none :: r, i, q, h => by
    obtain ⟨k, v, h1, h2⟩ := asL_of P r (i + 1) q h
    exact ⟨k + 1, v, by rw [List.getElem?_cons_succ]; exact h1, by rw [h2, show i + 1 + k = i + (k + 1) by omega]⟩
  | some w :: r, i, q, h => by
    rcases List.mem_cons.mp h with rfl | h
    · exact ⟨0, w, rfl, rfl⟩
    · obtain ⟨k, v, h1, h2⟩ := asL_of P r (i + 1) q h
      exact ⟨k + 1, v, by rw [List.getElem?_cons_succ]; exact h1, by rw [h2, show i + 1 + k = i + (k + 1) by omega]⟩
theorem gl_some {ls : LVs} {i : Nat} {v : AV} (h : gl ls i = some v) : ls[i]? = some (some v) := by
  unfold gl at h
  cases hi : ls[i]? with
  | none => rw [hi] at h; cases h
  | some q => rw [hi] at h; simp at h; rw [h]
def LR (P : PB) (y : Nat) (ls : LVs) (lsr : Array Slot) : Prop := lv_has lsr (mMl y) (asL P 0 ls)
theorem LR_at {P : PB} {y : Nat} {ls : LVs} {lsr : Array Slot} {i : Nat} {v : AV} (h : LR P y ls lsr) (hv : gl ls i = some v) : lsr[i]? = some (.val (cv P v)) := by
  have := asL_in P ls 0 i v (gl_some hv)
  rw [Nat.zero_add] at this
  exact h.2.2 _ this
def wfR (L : Nat) (xs : Nat → Int32) (r : RT) : Prop := wfH L xs r.2 ∧ ∀ v ∈ r.1, wfv v
def isLv (v : AV) : Prop := match v with | .inr (.inl _) => True | _ => False
def sl (S : List (Nat × Nat)) : Nat := (S.map fun q => q.2).sum
def PI (y L n0 z0 : Nat) (xs : Nat → Int32) (ls : LVs) (st : List AV) (hp : HP) : Prop := ls.length = mMl y ∧ (∀ i v, gl ls i = some v → wfv v ∧ (isLv v → i ∈ lgOf y)) ∧ (∀ v ∈ st, wfv v) ∧ (wfH L xs hp ∧ n0 ≤ hp.1.length ∧ z0 ≤ sl hp.1)
def gW : List Jvm.Cond := lw_tbl.filter goodWord
theorem rem32 (x y : Int32) : x - x / y * y = x % y := by
  have a := (x % y).toInt_lt; have b := (x % y).le_toInt
  rw [Int32.toInt_mod] at a b
  rw [← Int32.toInt_inj, Int32.toInt_sub, Int32.toInt_mul, Int32.toInt_div, Int.bmod_mul_bmod, Int.sub_bmod_bmod, Int.mul_comm, ← Int.tmod_def, Int32.toInt_mod]
  exact Jvm.Kit.bmod32 b a
theorem rem64 (x y : Int64) : x - x / y * y = x % y := by
  rw [← Int64.toInt_inj, Jvm.Kit.i64_rem, Int64.toInt_mod]
section SIM
variable {p : Program} {l : Launch} {e : Env} {R : Room} {s : State} {m : MethodId} {args : Array Value} {below : List Frame} {meth : Method} {c : Code} {Q : State → Prop} {P : PB} {y L d n0 z0 : Nat} {xs : Nat → Int32} {r : RT}
/-- what holds of the method throughout -/
def CX (p : Program) (R : Room) (s : State) (m : MethodId) (args : Array Value) (meth : Method) (c : Code) (P : PB) (y L d n0 z0 : Nat) (xs : Nat → Int32) (r : RT) : Prop :=
  p.tables.exec = Jvm.exec ∧ c.code = mByt y ∧ c.maxLocals = mMl y ∧ s.vm.findClass (mName y).cls = some m.cls ∧ (∀ w ∈ gW, w.before args s = true) ∧ WD P L xs s ∧ s.heap.size = P.1 + (n0 - KX) ∧ KX ≤ n0 ∧ (meth.name = (mName y).name ∨ y = 302) ∧ d + 1 ≤ R.frames ∧ 64 * (d + 1) ≤ R.locals ∧ r.2.1.length - n0 ≤ R.cells ∧ sl r.2.1 - z0 ≤ R.slots
def KJ (p : Program) (l : Launch) (e : Env) (R : Room) (s : State) (m : MethodId) (args : Array Value) (below : List Frame) (meth : Method) (c : Code) (Q : State → Prop) (P : PB) (y L n0 z0 : Nat) (xs : Nat → Int32) (r : RT) (pc : Nat) (ls : LVs) (st : List AV) (hp : HP) : Prop :=
  PI y L n0 z0 xs ls st hp → wfR L xs r ∧ ∀ (H : Heap) (locs : List Loc) (lsr : Array Slot), LR P y ls lsr → va_P P.2.2.2.1 vwCl (wsO P hp) H → va_S (RG P) s.heap H locs → W p l e R s m args below meth c H locs (hp.1.length - n0) (sl hp.1 - z0) Q (F0 m (mOff y pc) lsr (st.map (cv P)))
theorem F0_eq {m : MethodId} {a b : Nat} {l : Array Slot} {x z : List Value} (h1 : a = b) (h2 : x = z) : F0 m a l x = F0 m b l z := by subst h1; subst h2; rfl
theorem wf_cons {v : AV} {st : List AV} (h1 : wfv v) (h2 : ∀ w ∈ st, wfv w) : ∀ w ∈ v :: st, wfv w := fun w h => (List.mem_cons.mp h).elim (fun e => e ▸ h1) (h2 w)
theorem wf_tail {v : AV} {st : List AV} (h : ∀ w ∈ v :: st, wfv w) : ∀ w ∈ st, wfv w := fun w hw => h w (List.mem_cons_of_mem _ hw)
theorem wf_head {v : AV} {st : List AV} (h : ∀ w ∈ v :: st, wfv w) : wfv v := h v List.mem_cons_self

theorem e1I_inv {st : List AV} {f : Int → List AV → Option RT} {r : RT} (h : e1I st f = some r) : ∃ x0 q, st = vI x0 :: q ∧ f x0 q = some r := by
  unfold e1I at h
  split at h
  · exact ⟨_, _, rfl, h⟩
  · cases h
theorem e1L_inv {st : List AV} {f : Int → List AV → Option RT} {r : RT} (h : e1L st f = some r) : ∃ x0 q, st = vL x0 :: q ∧ f x0 q = some r := by
  unfold e1L at h
  split at h
  · exact ⟨_, _, rfl, h⟩
  · cases h
theorem e1A_inv {st : List AV} {f : Int → List AV → Option RT} {r : RT} (h : e1A st f = some r) : ∃ x0 q, st = vA x0 :: q ∧ f x0 q = some r := by
  unfold e1A at h
  split at h
  · exact ⟨_, _, rfl, h⟩
  · cases h
theorem e2I_inv {st : List AV} {f : Int → Int → List AV → Option RT} {r : RT} (h : e2I st f = some r) : ∃ x0 x1 q, st = vI x1 :: vI x0 :: q ∧ f x0 x1 q = some r := by
  unfold e2I at h
  split at h
  · exact ⟨_, _, _, rfl, h⟩
  · cases h
theorem e2L_inv {st : List AV} {f : Int → Int → List AV → Option RT} {r : RT} (h : e2L st f = some r) : ∃ x0 x1 q, st = vL x1 :: vL x0 :: q ∧ f x0 x1 q = some r := by
  unfold e2L at h
  split at h
  · exact ⟨_, _, _, rfl, h⟩
  · cases h
theorem eLI_inv {st : List AV} {f : Int → Int → List AV → Option RT} {r : RT} (h : eLI st f = some r) : ∃ x0 x1 q, st = vI x1 :: vL x0 :: q ∧ f x0 x1 q = some r := by
  unfold eLI at h
  split at h
  · exact ⟨_, _, _, rfl, h⟩
  · cases h
theorem eIA_inv {st : List AV} {f : Int → Int → List AV → Option RT} {r : RT} (h : eIA st f = some r) : ∃ x0 x1 q, st = vI x1 :: vA x0 :: q ∧ f x0 x1 q = some r := by
  unfold eIA at h
  split at h
  · exact ⟨_, _, _, rfl, h⟩
  · cases h
theorem eLA_inv {st : List AV} {f : Int → Int → List AV → Option RT} {r : RT} (h : eLA st f = some r) : ∃ x0 x1 q, st = vL x1 :: vA x0 :: q ∧ f x0 x1 q = some r := by
  unfold eLA at h
  split at h
  · exact ⟨_, _, _, rfl, h⟩
  · cases h
theorem eAA_inv {st : List AV} {f : Int → Int → List AV → Option RT} {r : RT} (h : eAA st f = some r) : ∃ x0 x1 q, st = vA x1 :: vA x0 :: q ∧ f x0 x1 q = some r := by
  unfold eAA at h
  split at h
  · exact ⟨_, _, _, rfl, h⟩
  · cases h
theorem eIIA_inv {st : List AV} {f : Int → Int → Int → List AV → Option RT} {r : RT} (h : eIIA st f = some r) : ∃ x0 x1 x2 q, st = vI x2 :: vI x1 :: vA x0 :: q ∧ f x0 x1 x2 q = some r := by
  unfold eIIA at h
  split at h
  · exact ⟨_, _, _, _, rfl, h⟩
  · cases h
theorem eLIA_inv {st : List AV} {f : Int → Int → Int → List AV → Option RT} {r : RT} (h : eLIA st f = some r) : ∃ x0 x1 x2 q, st = vL x2 :: vI x1 :: vA x0 :: q ∧ f x0 x1 x2 q = some r := by
  unfold eLIA at h
  split at h
  · exact ⟨_, _, _, _, rfl, h⟩
  · cases h
theorem eAIA_inv {st : List AV} {f : Int → Int → Int → List AV → Option RT} {r : RT} (h : eAIA st f = some r) : ∃ x0 x1 x2 q, st = vA x2 :: vI x1 :: vA x0 :: q ∧ f x0 x1 x2 q = some r := by
  unfold eAIA at h
  split at h
  · exact ⟨_, _, _, _, rfl, h⟩
  · cases h
theorem eCP_inv {st : List AV} {f : Int → Int → Int → Int → Int → List AV → Option RT} {r : RT} (h : eCP st f = some r) : ∃ x0 x1 x2 x3 x4 q, st = vI x4 :: vI x3 :: vA x2 :: vI x1 :: vA x0 :: q ∧ f x0 x1 x2 x3 x4 q = some r := by
  unfold eCP at h
  split at h
  · exact ⟨_, _, _, _, _, _, rfl, h⟩
  · cases h

theorem lI_inv {ls : LVs} {a : Nat} {f : Int → Option RT} {r : RT} (h : lI ls a f = some r) : ∃ x, gl ls a = some (vI x) ∧ f x = some r := by
  unfold lI at h
  split at h
  · rename_i x hx; exact ⟨x, hx, h⟩
  · cases h

theorem lL_inv {ls : LVs} {a : Nat} {f : Int → Option RT} {r : RT} (h : lL ls a f = some r) : ∃ x, gl ls a = some (vL x) ∧ f x = some r := by
  unfold lL at h
  split at h
  · rename_i x hx; exact ⟨x, hx, h⟩
  · cases h

theorem lA_inv {ls : LVs} {a : Nat} {f : Int → Option RT} {r : RT} (h : lA ls a f = some r) : ∃ x, gl ls a = some (vA x) ∧ f x = some r := by
  unfold lA at h
  split at h
  · rename_i x hx; exact ⟨x, hx, h⟩
  · cases h

theorem t1_inv {ls : LVs} {a : Nat} {v : AV} {f : LVs → Option RT} {r : RT} (h : t1 ls a v f = some r) : a < ls.length ∧ f (ls.set a (some v)) = some r := by
  unfold t1 at h
  split at h
  · rename_i hb; exact ⟨by simpa [Nat.blt_eq] using hb, h⟩
  · cases h
theorem t2_inv {ls : LVs} {a : Nat} {v : AV} {f : LVs → Option RT} {r : RT} (h : t2 ls a v f = some r) : a + 1 < ls.length ∧ f ((ls.set a (some v)).set (a + 1) none) = some r := by
  unfold t2 at h
  split at h
  · rename_i hb; exact ⟨by simpa [Nat.blt_eq] using hb, h⟩
  · cases h

set_option maxHeartbeats 4000000 in
theorem sim0 (C : CX p R s m args meth c P y L d n0 z0 xs r) {pc : Nat} {ri : RI} {ls : LVs} {st : List AV} {hp : HP} {k : KT} (hc : cdAt y pc = some ri) (h : sK0 (Cd d) ri pc ls st hp k = some r) (hk : ∀ pc' ls' st' hp', k pc' ls' st' hp' = some r → KJ p l e R s m args below meth c Q P y L n0 z0 xs r pc' ls' st' hp') : KJ p l e R s m args below meth c Q P y L n0 z0 xs r pc ls st hp := by
  obtain ⟨hx, hb, hml, hown, hts, hWD, hsz, hn0, hmn, hfr, hlo, hce, hsl⟩ := C
  unfold sK0 at h
  split at h
  · rename_i a b cc x z
    obtain ⟨hd, hok, hwd, hof⟩ := at_ok hc (by simp)
    have hd : decode (mByt y) (mOff y pc) = .ok (.iconst z, 1) := hd
    have hof : mOff y (pc + 1) = mOff y pc + 1 := hof
    simp only [okR, Bool.and_eq_true, decide_eq_true_eq] at hok
    intro hI
    obtain ⟨hR, hW⟩ := hk _ _ _ _ h ⟨hI.1, hI.2.1, wf_cons (show inI z from ⟨hok.1.2, hok.2⟩) hI.2.2.1, hI.2.2.2⟩
    refine ⟨hR, fun H locs lsr hL hP hS => ?_⟩
    refine lv_iconst hx hb hd rfl ?_
    exact W.eq (F0_eq hof.symm rfl) (hW H locs lsr hL hP hS)
  · rename_i a b cc x z
    obtain ⟨hd, hok, hwd, hof⟩ := at_ok hc (by simp)
    have hd : decode (mByt y) (mOff y pc) = .ok (.bipush z, 2) := hd
    have hof : mOff y (pc + 1) = mOff y pc + 2 := hof
    simp only [okR, Bool.and_eq_true, decide_eq_true_eq] at hok
    intro hI
    obtain ⟨hR, hW⟩ := hk _ _ _ _ h ⟨hI.1, hI.2.1, wf_cons (show inI z from ⟨hok.1.2, hok.2⟩) hI.2.2.1, hI.2.2.2⟩
    refine ⟨hR, fun H locs lsr hL hP hS => ?_⟩
    refine lv_bipush hx hb hd hok.1.1 ?_
    exact W.eq (F0_eq hof.symm rfl) (hW H locs lsr hL hP hS)
  · rename_i a b cc x z
    obtain ⟨hd, hok, hwd, hof⟩ := at_ok hc (by simp)
    have hd : decode (mByt y) (mOff y pc) = .ok (.sipush z, 3) := hd
    have hof : mOff y (pc + 1) = mOff y pc + 3 := hof
    simp only [okR, Bool.and_eq_true, decide_eq_true_eq] at hok
    intro hI
    obtain ⟨hR, hW⟩ := hk _ _ _ _ h ⟨hI.1, hI.2.1, wf_cons (show inI z from ⟨hok.1.2, hok.2⟩) hI.2.2.1, hI.2.2.2⟩
    refine ⟨hR, fun H locs lsr hL hP hS => ?_⟩
    refine lv_sipush hx hb hd hok.1.1 ?_
    exact W.eq (F0_eq hof.symm rfl) (hW H locs lsr hL hP hS)
  · rename_i a b cc x z
    obtain ⟨hd, hok, hwd, hof⟩ := at_ok hc (by simp)
    have hd : decode (mByt y) (mOff y pc) = .ok (.ldc x, 2) := hd
    have hof : mOff y (pc + 1) = mOff y pc + 2 := hof
    simp only [okR, Bool.and_eq_true, decide_eq_true_eq] at hok
    intro hI
    obtain ⟨hR, hW⟩ := hk _ _ _ _ h ⟨hI.1, hI.2.1, wf_cons (show inI z from ⟨hok.1, hok.2⟩) hI.2.2.1, hI.2.2.2⟩
    refine ⟨hR, fun H locs lsr hL hP hS => ?_⟩
    obtain ⟨w, hw1, hw2⟩ := hwd rfl
    cases hw2
    refine lv_ldc hx hb hown (hts _ (List.mem_filter.mpr ⟨hw1, rfl⟩)) hd ?_
    exact W.eq (F0_eq hof.symm rfl) (hW H locs lsr hL hP hS)
  · rename_i a b cc x z
    obtain ⟨hd, hok, hwd, hof⟩ := at_ok hc (by simp)
    have hd : decode (mByt y) (mOff y pc) = .ok (.ldc_w x, 3) := hd
    have hof : mOff y (pc + 1) = mOff y pc + 3 := hof
    simp only [okR, Bool.and_eq_true, decide_eq_true_eq] at hok
    intro hI
    obtain ⟨hR, hW⟩ := hk _ _ _ _ h ⟨hI.1, hI.2.1, wf_cons (show inI z from ⟨hok.1, hok.2⟩) hI.2.2.1, hI.2.2.2⟩
    refine ⟨hR, fun H locs lsr hL hP hS => ?_⟩
    obtain ⟨w, hw1, hw2⟩ := hwd rfl
    cases hw2
    refine lv_ldcw hx hb hown (hts _ (List.mem_filter.mpr ⟨hw1, rfl⟩)) hd ?_
    exact W.eq (F0_eq hof.symm rfl) (hW H locs lsr hL hP hS)
  · cases h

set_option maxHeartbeats 4000000 in
theorem sim4 (C : CX p R s m args meth c P y L d n0 z0 xs r) {pc : Nat} {ri : RI} {ls : LVs} {st : List AV} {hp : HP} {k : KT} (hc : cdAt y pc = some ri) (h : sK4 (Cd d) ri pc ls st hp k = some r) (hk : ∀ pc' ls' st' hp', k pc' ls' st' hp' = some r → KJ p l e R s m args below meth c Q P y L n0 z0 xs r pc' ls' st' hp') : KJ p l e R s m args below meth c Q P y L n0 z0 xs r pc ls st hp := by
  obtain ⟨hx, hb, hml, hown, hts, hWD, hsz, hn0, hmn, hfr, hlo, hce, hsl⟩ := C
  unfold sK4 at h
  split at h
  · rename_i a b cc x z
    obtain ⟨hd, hok, hwd, hof⟩ := at_ok hc (by simp)
    have hd : decode (mByt y) (mOff y pc) = .ok (.iadd, 1) := hd
    have hof : mOff y (pc + 1) = mOff y pc + 1 := hof
    intro hI
    obtain ⟨x0, x1, q, rfl, h9⟩ := e2I_inv h
    have w1 : inI x1 := wf_head hI.2.2.1
    have w0 : inI x0 := wf_head (wf_tail hI.2.2.1)
    obtain ⟨hR, hW⟩ := hk _ _ _ _ h9 ⟨hI.1, hI.2.1, wf_cons (show inI (w32 (x0 + x1)) from inI_t _) (wf_tail (wf_tail hI.2.2.1)), hI.2.2.2⟩
    refine ⟨hR, fun H locs lsr hL hP hS => ?_⟩
    refine lv_iadd hx hb hd ?_
    exact W.eq (F0_eq hof.symm (by simp only [List.map_cons, cv, i_w, Int32.ofInt_add])) (hW H locs lsr hL hP hS)
  · rename_i a b cc x z
    obtain ⟨hd, hok, hwd, hof⟩ := at_ok hc (by simp)
    have hd : decode (mByt y) (mOff y pc) = .ok (.isub, 1) := hd
    have hof : mOff y (pc + 1) = mOff y pc + 1 := hof
    intro hI
    obtain ⟨x0, x1, q, rfl, h9⟩ := e2I_inv h
    have w1 : inI x1 := wf_head hI.2.2.1
    have w0 : inI x0 := wf_head (wf_tail hI.2.2.1)
    obtain ⟨hR, hW⟩ := hk _ _ _ _ h9 ⟨hI.1, hI.2.1, wf_cons (show inI (w32 (x0 - x1)) from inI_t _) (wf_tail (wf_tail hI.2.2.1)), hI.2.2.2⟩
    refine ⟨hR, fun H locs lsr hL hP hS => ?_⟩
    refine lv_isub hx hb hd ?_
    exact W.eq (F0_eq hof.symm (by simp only [List.map_cons, cv, i_w, Int32.ofInt_sub])) (hW H locs lsr hL hP hS)
  · rename_i a b cc x z
    obtain ⟨hd, hok, hwd, hof⟩ := at_ok hc (by simp)
    have hd : decode (mByt y) (mOff y pc) = .ok (.imul, 1) := hd
    have hof : mOff y (pc + 1) = mOff y pc + 1 := hof
    intro hI
    obtain ⟨x0, x1, q, rfl, h9⟩ := e2I_inv h
    have w1 : inI x1 := wf_head hI.2.2.1
    have w0 : inI x0 := wf_head (wf_tail hI.2.2.1)
    obtain ⟨hR, hW⟩ := hk _ _ _ _ h9 ⟨hI.1, hI.2.1, wf_cons (show inI (w32 (x0 * x1)) from inI_t _) (wf_tail (wf_tail hI.2.2.1)), hI.2.2.2⟩
    refine ⟨hR, fun H locs lsr hL hP hS => ?_⟩
    refine lv_imul hx hb hd ?_
    exact W.eq (F0_eq hof.symm (by simp only [List.map_cons, cv, i_w, Int32.ofInt_mul])) (hW H locs lsr hL hP hS)
  · rename_i a b cc x z
    obtain ⟨hd, hok, hwd, hof⟩ := at_ok hc (by simp)
    have hd : decode (mByt y) (mOff y pc) = .ok (.iand, 1) := hd
    have hof : mOff y (pc + 1) = mOff y pc + 1 := hof
    intro hI
    obtain ⟨x0, x1, q, rfl, h9⟩ := e2I_inv h
    have w1 : inI x1 := wf_head hI.2.2.1
    have w0 : inI x0 := wf_head (wf_tail hI.2.2.1)
    obtain ⟨hR, hW⟩ := hk _ _ _ _ h9 ⟨hI.1, hI.2.1, wf_cons (show inI (iand x0 x1) from inI_t _) (wf_tail (wf_tail hI.2.2.1)), hI.2.2.2⟩
    refine ⟨hR, fun H locs lsr hL hP hS => ?_⟩
    refine lv_iand hx hb hd ?_
    exact W.eq (F0_eq hof.symm (by simp only [List.map_cons, cv, iand, Int32.ofInt_toInt])) (hW H locs lsr hL hP hS)
  · rename_i a b cc x z
    obtain ⟨hd, hok, hwd, hof⟩ := at_ok hc (by simp)
    have hd : decode (mByt y) (mOff y pc) = .ok (.ior, 1) := hd
    have hof : mOff y (pc + 1) = mOff y pc + 1 := hof
    intro hI
    obtain ⟨x0, x1, q, rfl, h9⟩ := e2I_inv h
    have w1 : inI x1 := wf_head hI.2.2.1
    have w0 : inI x0 := wf_head (wf_tail hI.2.2.1)
    obtain ⟨hR, hW⟩ := hk _ _ _ _ h9 ⟨hI.1, hI.2.1, wf_cons (show inI (ior x0 x1) from inI_t _) (wf_tail (wf_tail hI.2.2.1)), hI.2.2.2⟩
    refine ⟨hR, fun H locs lsr hL hP hS => ?_⟩
    refine lv_ior hx hb hd ?_
    exact W.eq (F0_eq hof.symm (by simp only [List.map_cons, cv, ior, Int32.ofInt_toInt])) (hW H locs lsr hL hP hS)
  · rename_i a b cc x z
    obtain ⟨hd, hok, hwd, hof⟩ := at_ok hc (by simp)
    have hd : decode (mByt y) (mOff y pc) = .ok (.ixor, 1) := hd
    have hof : mOff y (pc + 1) = mOff y pc + 1 := hof
    intro hI
    obtain ⟨x0, x1, q, rfl, h9⟩ := e2I_inv h
    have w1 : inI x1 := wf_head hI.2.2.1
    have w0 : inI x0 := wf_head (wf_tail hI.2.2.1)
    obtain ⟨hR, hW⟩ := hk _ _ _ _ h9 ⟨hI.1, hI.2.1, wf_cons (show inI (ixor x0 x1) from inI_t _) (wf_tail (wf_tail hI.2.2.1)), hI.2.2.2⟩
    refine ⟨hR, fun H locs lsr hL hP hS => ?_⟩
    refine lv_ixor hx hb hd ?_
    exact W.eq (F0_eq hof.symm (by simp only [List.map_cons, cv, ixor, Int32.ofInt_toInt])) (hW H locs lsr hL hP hS)
  · cases h

set_option maxHeartbeats 4000000 in
theorem sim5 (C : CX p R s m args meth c P y L d n0 z0 xs r) {pc : Nat} {ri : RI} {ls : LVs} {st : List AV} {hp : HP} {k : KT} (hc : cdAt y pc = some ri) (h : sK5 (Cd d) ri pc ls st hp k = some r) (hk : ∀ pc' ls' st' hp', k pc' ls' st' hp' = some r → KJ p l e R s m args below meth c Q P y L n0 z0 xs r pc' ls' st' hp') : KJ p l e R s m args below meth c Q P y L n0 z0 xs r pc ls st hp := by
  obtain ⟨hx, hb, hml, hown, hts, hWD, hsz, hn0, hmn, hfr, hlo, hce, hsl⟩ := C
  unfold sK5 at h
  split at h
  · rename_i a b cc x z
    obtain ⟨hd, hok, hwd, hof⟩ := at_ok hc (by simp)
    have hd : decode (mByt y) (mOff y pc) = .ok (.ishl, 1) := hd
    have hof : mOff y (pc + 1) = mOff y pc + 1 := hof
    intro hI
    obtain ⟨x0, x1, q, rfl, h9⟩ := e2I_inv h
    have w1 : inI x1 := wf_head hI.2.2.1
    have w0 : inI x0 := wf_head (wf_tail hI.2.2.1)
    obtain ⟨hR, hW⟩ := hk _ _ _ _ h9 ⟨hI.1, hI.2.1, wf_cons (show inI (ishl x0 x1) from inI_t _) (wf_tail (wf_tail hI.2.2.1)), hI.2.2.2⟩
    refine ⟨hR, fun H locs lsr hL hP hS => ?_⟩
    refine lv_ishl hx hb hd ?_
    exact W.eq (F0_eq hof.symm (by simp only [List.map_cons, cv, ishl, Int32.ofInt_toInt])) (hW H locs lsr hL hP hS)
  · rename_i a b cc x z
    obtain ⟨hd, hok, hwd, hof⟩ := at_ok hc (by simp)
    have hd : decode (mByt y) (mOff y pc) = .ok (.ishr, 1) := hd
    have hof : mOff y (pc + 1) = mOff y pc + 1 := hof
    intro hI
    obtain ⟨x0, x1, q, rfl, h9⟩ := e2I_inv h
    have w1 : inI x1 := wf_head hI.2.2.1
    have w0 : inI x0 := wf_head (wf_tail hI.2.2.1)
    obtain ⟨hR, hW⟩ := hk _ _ _ _ h9 ⟨hI.1, hI.2.1, wf_cons (show inI (ishr x0 x1) from inI_t _) (wf_tail (wf_tail hI.2.2.1)), hI.2.2.2⟩
    refine ⟨hR, fun H locs lsr hL hP hS => ?_⟩
    refine lv_ishr hx hb hd ?_
    exact W.eq (F0_eq hof.symm (by simp only [List.map_cons, cv, ishr, Int32.ofInt_toInt])) (hW H locs lsr hL hP hS)
  · rename_i a b cc x z
    obtain ⟨hd, hok, hwd, hof⟩ := at_ok hc (by simp)
    have hd : decode (mByt y) (mOff y pc) = .ok (.iushr, 1) := hd
    have hof : mOff y (pc + 1) = mOff y pc + 1 := hof
    intro hI
    obtain ⟨x0, x1, q, rfl, h9⟩ := e2I_inv h
    have w1 : inI x1 := wf_head hI.2.2.1
    have w0 : inI x0 := wf_head (wf_tail hI.2.2.1)
    obtain ⟨hR, hW⟩ := hk _ _ _ _ h9 ⟨hI.1, hI.2.1, wf_cons (show inI (iushr x0 x1) from inI_t _) (wf_tail (wf_tail hI.2.2.1)), hI.2.2.2⟩
    refine ⟨hR, fun H locs lsr hL hP hS => ?_⟩
    refine lv_iushr hx hb hd rfl ?_
    exact W.eq (F0_eq hof.symm (by simp only [List.map_cons, cv, iushr, Int32.ofInt_toInt])) (hW H locs lsr hL hP hS)
  · rename_i a b cc x z
    obtain ⟨hd, hok, hwd, hof⟩ := at_ok hc (by simp)
    have hd : decode (mByt y) (mOff y pc) = .ok (.idiv, 1) := hd
    have hof : mOff y (pc + 1) = mOff y pc + 1 := hof
    intro hI
    obtain ⟨x0, x1, q, rfl, h9⟩ := e2I_inv h
    by_cases h0 : x1 = 0
    · rw [if_pos h0] at h9; cases h9
    rw [if_neg h0] at h9
    have w1 : inI x1 := wf_head hI.2.2.1
    have w0 : inI x0 := wf_head (wf_tail hI.2.2.1)
    obtain ⟨hR, hW⟩ := hk _ _ _ _ h9 ⟨hI.1, hI.2.1, wf_cons (show inI (idiv x0 x1) from inI_t _) (wf_tail (wf_tail hI.2.2.1)), hI.2.2.2⟩
    refine ⟨hR, fun H locs lsr hL hP hS => ?_⟩
    refine lv_idiv hx hb hd (fun q => h0 ((i_eq w1 inI_0).mp q)) ?_
    exact W.eq (F0_eq hof.symm (by simp only [List.map_cons, cv, idiv, Int32.ofInt_toInt])) (hW H locs lsr hL hP hS)
  · rename_i a b cc x z
    obtain ⟨hd, hok, hwd, hof⟩ := at_ok hc (by simp)
    have hd : decode (mByt y) (mOff y pc) = .ok (.irem, 1) := hd
    have hof : mOff y (pc + 1) = mOff y pc + 1 := hof
    intro hI
    obtain ⟨x0, x1, q, rfl, h9⟩ := e2I_inv h
    by_cases h0 : x1 = 0
    · rw [if_pos h0] at h9; cases h9
    rw [if_neg h0] at h9
    have w1 : inI x1 := wf_head hI.2.2.1
    have w0 : inI x0 := wf_head (wf_tail hI.2.2.1)
    obtain ⟨hR, hW⟩ := hk _ _ _ _ h9 ⟨hI.1, hI.2.1, wf_cons (show inI (irem x0 x1) from inI_t _) (wf_tail (wf_tail hI.2.2.1)), hI.2.2.2⟩
    refine ⟨hR, fun H locs lsr hL hP hS => ?_⟩
    refine lv_irem hx hb hd (fun q => h0 ((i_eq w1 inI_0).mp q)) ?_
    exact W.eq (F0_eq hof.symm (by simp only [List.map_cons, cv, irem, Int32.ofInt_toInt, rem32])) (hW H locs lsr hL hP hS)
  · rename_i a b cc x z
    obtain ⟨hd, hok, hwd, hof⟩ := at_ok hc (by simp)
    have hd : decode (mByt y) (mOff y pc) = .ok (.ineg, 1) := hd
    have hof : mOff y (pc + 1) = mOff y pc + 1 := hof
    intro hI
    obtain ⟨x0, q, rfl, h9⟩ := e1I_inv h
    have w0 : inI x0 := wf_head hI.2.2.1
    obtain ⟨hR, hW⟩ := hk _ _ _ _ h9 ⟨hI.1, hI.2.1, wf_cons (show inI (w32 (-x0)) from inI_t _) (wf_tail hI.2.2.1), hI.2.2.2⟩
    refine ⟨hR, fun H locs lsr hL hP hS => ?_⟩
    refine lv_ineg hx hb hd ?_
    exact W.eq (F0_eq hof.symm (by simp only [List.map_cons, cv, i_w, Int32.ofInt_neg])) (hW H locs lsr hL hP hS)
  · cases h

set_option maxHeartbeats 4000000 in
theorem sim6 (C : CX p R s m args meth c P y L d n0 z0 xs r) {pc : Nat} {ri : RI} {ls : LVs} {st : List AV} {hp : HP} {k : KT} (hc : cdAt y pc = some ri) (h : sK6 (Cd d) ri pc ls st hp k = some r) (hk : ∀ pc' ls' st' hp', k pc' ls' st' hp' = some r → KJ p l e R s m args below meth c Q P y L n0 z0 xs r pc' ls' st' hp') : KJ p l e R s m args below meth c Q P y L n0 z0 xs r pc ls st hp := by
  obtain ⟨hx, hb, hml, hown, hts, hWD, hsz, hn0, hmn, hfr, hlo, hce, hsl⟩ := C
  unfold sK6 at h
  split at h
  · rename_i a b cc x z
    obtain ⟨hd, hok, hwd, hof⟩ := at_ok hc (by simp)
    have hd : decode (mByt y) (mOff y pc) = .ok (.ladd, 1) := hd
    have hof : mOff y (pc + 1) = mOff y pc + 1 := hof
    intro hI
    obtain ⟨x0, x1, q, rfl, h9⟩ := e2L_inv h
    have w1 : inL x1 := wf_head hI.2.2.1
    have w0 : inL x0 := wf_head (wf_tail hI.2.2.1)
    obtain ⟨hR, hW⟩ := hk _ _ _ _ h9 ⟨hI.1, hI.2.1, wf_cons (show inL (w64 (x0 + x1)) from inL_t _) (wf_tail (wf_tail hI.2.2.1)), hI.2.2.2⟩
    refine ⟨hR, fun H locs lsr hL hP hS => ?_⟩
    refine lv_ladd hx hb hd ?_
    exact W.eq (F0_eq hof.symm (by simp only [List.map_cons, cv, l_w, Int64.ofInt_add])) (hW H locs lsr hL hP hS)
  · rename_i a b cc x z
    obtain ⟨hd, hok, hwd, hof⟩ := at_ok hc (by simp)
    have hd : decode (mByt y) (mOff y pc) = .ok (.lsub, 1) := hd
    have hof : mOff y (pc + 1) = mOff y pc + 1 := hof
    intro hI
    obtain ⟨x0, x1, q, rfl, h9⟩ := e2L_inv h
    have w1 : inL x1 := wf_head hI.2.2.1
    have w0 : inL x0 := wf_head (wf_tail hI.2.2.1)
    obtain ⟨hR, hW⟩ := hk _ _ _ _ h9 ⟨hI.1, hI.2.1, wf_cons (show inL (w64 (x0 - x1)) from inL_t _) (wf_tail (wf_tail hI.2.2.1)), hI.2.2.2⟩
    refine ⟨hR, fun H locs lsr hL hP hS => ?_⟩
    refine lv_lsub hx hb hd ?_
    exact W.eq (F0_eq hof.symm (by simp only [List.map_cons, cv, l_w, Int64.ofInt_sub])) (hW H locs lsr hL hP hS)
  · rename_i a b cc x z
    obtain ⟨hd, hok, hwd, hof⟩ := at_ok hc (by simp)
    have hd : decode (mByt y) (mOff y pc) = .ok (.lmul, 1) := hd
    have hof : mOff y (pc + 1) = mOff y pc + 1 := hof
    intro hI
    obtain ⟨x0, x1, q, rfl, h9⟩ := e2L_inv h
    have w1 : inL x1 := wf_head hI.2.2.1
    have w0 : inL x0 := wf_head (wf_tail hI.2.2.1)
    obtain ⟨hR, hW⟩ := hk _ _ _ _ h9 ⟨hI.1, hI.2.1, wf_cons (show inL (w64 (x0 * x1)) from inL_t _) (wf_tail (wf_tail hI.2.2.1)), hI.2.2.2⟩
    refine ⟨hR, fun H locs lsr hL hP hS => ?_⟩
    refine lv_lmul hx hb hd ?_
    exact W.eq (F0_eq hof.symm (by simp only [List.map_cons, cv, l_w, Int64.ofInt_mul])) (hW H locs lsr hL hP hS)
  · rename_i a b cc x z
    obtain ⟨hd, hok, hwd, hof⟩ := at_ok hc (by simp)
    have hd : decode (mByt y) (mOff y pc) = .ok (.land, 1) := hd
    have hof : mOff y (pc + 1) = mOff y pc + 1 := hof
    intro hI
    obtain ⟨x0, x1, q, rfl, h9⟩ := e2L_inv h
    have w1 : inL x1 := wf_head hI.2.2.1
    have w0 : inL x0 := wf_head (wf_tail hI.2.2.1)
    obtain ⟨hR, hW⟩ := hk _ _ _ _ h9 ⟨hI.1, hI.2.1, wf_cons (show inL (lland x0 x1) from inL_t _) (wf_tail (wf_tail hI.2.2.1)), hI.2.2.2⟩
    refine ⟨hR, fun H locs lsr hL hP hS => ?_⟩
    refine lv_land hx hb hd ?_
    exact W.eq (F0_eq hof.symm (by simp only [List.map_cons, cv, lland, Int64.ofInt_toInt])) (hW H locs lsr hL hP hS)
  · rename_i a b cc x z
    obtain ⟨hd, hok, hwd, hof⟩ := at_ok hc (by simp)
    have hd : decode (mByt y) (mOff y pc) = .ok (.lor, 1) := hd
    have hof : mOff y (pc + 1) = mOff y pc + 1 := hof
    intro hI
    obtain ⟨x0, x1, q, rfl, h9⟩ := e2L_inv h
    have w1 : inL x1 := wf_head hI.2.2.1
    have w0 : inL x0 := wf_head (wf_tail hI.2.2.1)
    obtain ⟨hR, hW⟩ := hk _ _ _ _ h9 ⟨hI.1, hI.2.1, wf_cons (show inL (llor x0 x1) from inL_t _) (wf_tail (wf_tail hI.2.2.1)), hI.2.2.2⟩
    refine ⟨hR, fun H locs lsr hL hP hS => ?_⟩
    refine lv_lor hx hb hd ?_
    exact W.eq (F0_eq hof.symm (by simp only [List.map_cons, cv, llor, Int64.ofInt_toInt])) (hW H locs lsr hL hP hS)
  · rename_i a b cc x z
    obtain ⟨hd, hok, hwd, hof⟩ := at_ok hc (by simp)
    have hd : decode (mByt y) (mOff y pc) = .ok (.ldiv, 1) := hd
    have hof : mOff y (pc + 1) = mOff y pc + 1 := hof
    intro hI
    obtain ⟨x0, x1, q, rfl, h9⟩ := e2L_inv h
    by_cases h0 : x1 = 0
    · rw [if_pos h0] at h9; cases h9
    rw [if_neg h0] at h9
    have w1 : inL x1 := wf_head hI.2.2.1
    have w0 : inL x0 := wf_head (wf_tail hI.2.2.1)
    obtain ⟨hR, hW⟩ := hk _ _ _ _ h9 ⟨hI.1, hI.2.1, wf_cons (show inL (lldiv x0 x1) from inL_t _) (wf_tail (wf_tail hI.2.2.1)), hI.2.2.2⟩
    refine ⟨hR, fun H locs lsr hL hP hS => ?_⟩
    refine lv_ldiv hx hb hd (fun q => h0 ((l_eq w1 inL_0).mp q)) ?_
    exact W.eq (F0_eq hof.symm (by simp only [List.map_cons, cv, lldiv, Int64.ofInt_toInt])) (hW H locs lsr hL hP hS)
  · rename_i a b cc x z
    obtain ⟨hd, hok, hwd, hof⟩ := at_ok hc (by simp)
    have hd : decode (mByt y) (mOff y pc) = .ok (.lrem, 1) := hd
    have hof : mOff y (pc + 1) = mOff y pc + 1 := hof
    intro hI
    obtain ⟨x0, x1, q, rfl, h9⟩ := e2L_inv h
    by_cases h0 : x1 = 0
    · rw [if_pos h0] at h9; cases h9
    rw [if_neg h0] at h9
    have w1 : inL x1 := wf_head hI.2.2.1
    have w0 : inL x0 := wf_head (wf_tail hI.2.2.1)
    obtain ⟨hR, hW⟩ := hk _ _ _ _ h9 ⟨hI.1, hI.2.1, wf_cons (show inL (llrem x0 x1) from inL_t _) (wf_tail (wf_tail hI.2.2.1)), hI.2.2.2⟩
    refine ⟨hR, fun H locs lsr hL hP hS => ?_⟩
    refine lv_lrem hx hb hd (fun q => h0 ((l_eq w1 inL_0).mp q)) ?_
    exact W.eq (F0_eq hof.symm (by simp only [List.map_cons, cv, llrem, Int64.ofInt_toInt, rem64])) (hW H locs lsr hL hP hS)
  · rename_i a b cc x z
    obtain ⟨hd, hok, hwd, hof⟩ := at_ok hc (by simp)
    have hd : decode (mByt y) (mOff y pc) = .ok (.lneg, 1) := hd
    have hof : mOff y (pc + 1) = mOff y pc + 1 := hof
    intro hI
    obtain ⟨x0, q, rfl, h9⟩ := e1L_inv h
    have w0 : inL x0 := wf_head hI.2.2.1
    obtain ⟨hR, hW⟩ := hk _ _ _ _ h9 ⟨hI.1, hI.2.1, wf_cons (show inL (w64 (-x0)) from inL_t _) (wf_tail hI.2.2.1), hI.2.2.2⟩
    refine ⟨hR, fun H locs lsr hL hP hS => ?_⟩
    refine lv_lneg hx hb hd ?_
    exact W.eq (F0_eq hof.symm (by simp only [List.map_cons, cv, l_w, Int64.ofInt_neg])) (hW H locs lsr hL hP hS)
  · cases h

set_option maxHeartbeats 4000000 in
theorem sim7 (C : CX p R s m args meth c P y L d n0 z0 xs r) {pc : Nat} {ri : RI} {ls : LVs} {st : List AV} {hp : HP} {k : KT} (hc : cdAt y pc = some ri) (h : sK7 (Cd d) ri pc ls st hp k = some r) (hk : ∀ pc' ls' st' hp', k pc' ls' st' hp' = some r → KJ p l e R s m args below meth c Q P y L n0 z0 xs r pc' ls' st' hp') : KJ p l e R s m args below meth c Q P y L n0 z0 xs r pc ls st hp := by
  obtain ⟨hx, hb, hml, hown, hts, hWD, hsz, hn0, hmn, hfr, hlo, hce, hsl⟩ := C
  unfold sK7 at h
  split at h
  · rename_i a b cc x z
    obtain ⟨hd, hok, hwd, hof⟩ := at_ok hc (by simp)
    have hd : decode (mByt y) (mOff y pc) = .ok (.i2l, 1) := hd
    have hof : mOff y (pc + 1) = mOff y pc + 1 := hof
    intro hI
    obtain ⟨x0, q, rfl, h9⟩ := e1I_inv h
    have w0 : inI x0 := wf_head hI.2.2.1
    obtain ⟨hR, hW⟩ := hk _ _ _ _ h9 ⟨hI.1, hI.2.1, wf_cons (show inL (x0) from inL_of w0) (wf_tail hI.2.2.1), hI.2.2.2⟩
    refine ⟨hR, fun H locs lsr hL hP hS => ?_⟩
    refine lv_i2l hx hb hd (l_i2l w0) ?_
    exact W.eq (F0_eq hof.symm (by simp only [List.map_cons, cv])) (hW H locs lsr hL hP hS)
  · rename_i a b cc x z
    obtain ⟨hd, hok, hwd, hof⟩ := at_ok hc (by simp)
    have hd : decode (mByt y) (mOff y pc) = .ok (.l2i, 1) := hd
    have hof : mOff y (pc + 1) = mOff y pc + 1 := hof
    intro hI
    obtain ⟨x0, q, rfl, h9⟩ := e1L_inv h
    have w0 : inL x0 := wf_head hI.2.2.1
    obtain ⟨hR, hW⟩ := hk _ _ _ _ h9 ⟨hI.1, hI.2.1, wf_cons (show inI (w32 x0) from inI_t _) (wf_tail hI.2.2.1), hI.2.2.2⟩
    refine ⟨hR, fun H locs lsr hL hP hS => ?_⟩
    refine lv_l2i hx hb hd (i_l2i x0) ?_
    exact W.eq (F0_eq hof.symm (by simp only [List.map_cons, cv, i_w])) (hW H locs lsr hL hP hS)
  · rename_i a b cc x z
    obtain ⟨hd, hok, hwd, hof⟩ := at_ok hc (by simp)
    have hd : decode (mByt y) (mOff y pc) = .ok (.lcmp, 1) := hd
    have hof : mOff y (pc + 1) = mOff y pc + 1 := hof
    intro hI
    obtain ⟨x0, x1, q, rfl, h9⟩ := e2L_inv h
    have w1 : inL x1 := wf_head hI.2.2.1
    have w0 : inL x0 := wf_head (wf_tail hI.2.2.1)
    obtain ⟨hR, hW⟩ := hk _ _ _ _ h9 ⟨hI.1, hI.2.1, wf_cons (show inI (lcmp x0 x1) by unfold lcmp; split; exact ⟨by decide, by decide⟩; split; exact ⟨by decide, by decide⟩; exact ⟨by decide, by decide⟩) (wf_tail (wf_tail hI.2.2.1)), hI.2.2.2⟩
    refine ⟨hR, fun H locs lsr hL hP hS => ?_⟩
    refine W.lcmp hx hb hd ?_
    exact W.eq (F0_eq hof.symm (by simp only [List.map_cons, cv, l_cmp w0 w1])) (hW H locs lsr hL hP hS)
  · rename_i a b cc x z
    obtain ⟨hd, hok, hwd, hof⟩ := at_ok hc (by simp)
    have hd : decode (mByt y) (mOff y pc) = .ok (.lshl, 1) := hd
    have hof : mOff y (pc + 1) = mOff y pc + 1 := hof
    intro hI
    obtain ⟨x0, x1, q, rfl, h9⟩ := eLI_inv h
    obtain ⟨hR, hW⟩ := hk _ _ _ _ h9 ⟨hI.1, hI.2.1, wf_cons (show inL (llshl x0 x1) from inL_t _) (wf_tail (wf_tail hI.2.2.1)), hI.2.2.2⟩
    refine ⟨hR, fun H locs lsr hL hP hS => ?_⟩
    refine lv_lshl hx hb hd rfl ?_
    exact W.eq (F0_eq hof.symm (by simp only [List.map_cons, cv, llshl, Int64.ofInt_toInt])) (hW H locs lsr hL hP hS)
  · rename_i a b cc x z
    obtain ⟨hd, hok, hwd, hof⟩ := at_ok hc (by simp)
    have hd : decode (mByt y) (mOff y pc) = .ok (.lconst ⟨z.toNat % 2, Nat.mod_lt _ (by decide)⟩, 1) := hd
    have hof : mOff y (pc + 1) = mOff y pc + 1 := hof
    simp only [okR, decide_eq_true_eq] at hok
    intro hI
    obtain ⟨hR, hW⟩ := hk _ _ _ _ h ⟨hI.1, hI.2.1, wf_cons (show inL z by rcases hok with rfl | rfl <;> exact ⟨by decide, by decide⟩) hI.2.2.1, hI.2.2.2⟩
    refine ⟨hR, fun H locs lsr hL hP hS => ?_⟩
    refine lv_lconst (v := Int64.ofInt z) hx hb hd (by rcases hok with rfl | rfl <;> decide) ?_
    exact W.eq (F0_eq hof.symm rfl) (hW H locs lsr hL hP hS)
  · rename_i a b cc x z
    obtain ⟨hd, hok, hwd, hof⟩ := at_ok hc (by simp)
    have hd : decode (mByt y) (mOff y pc) = .ok (.ldc2_w x, 3) := hd
    have hof : mOff y (pc + 1) = mOff y pc + 3 := hof
    simp only [okR, Bool.and_eq_true, decide_eq_true_eq] at hok
    obtain ⟨w, hw1, hw2⟩ := hwd rfl
    cases hw2
    intro hI
    obtain ⟨hR, hW⟩ := hk _ _ _ _ h ⟨hI.1, hI.2.1, wf_cons (show inL z from ⟨hok.1, hok.2⟩) hI.2.2.1, hI.2.2.2⟩
    refine ⟨hR, fun H locs lsr hL hP hS => ?_⟩
    refine lv_ldc2 hx hb hown (hts _ (List.mem_filter.mpr ⟨hw1, rfl⟩)) hd ?_
    exact W.eq (F0_eq hof.symm rfl) (hW H locs lsr hL hP hS)
  · rename_i a b cc x z
    obtain ⟨hd, hok, hwd, hof⟩ := at_ok hc (by simp)
    have hd : decode (mByt y) (mOff y pc) = .ok (.i2c, 1) := hd
    have hof : mOff y (pc + 1) = mOff y pc + 1 := hof
    intro hI
    obtain ⟨x0, q, rfl, h9⟩ := e1I_inv h
    have w0 : inI x0 := wf_head hI.2.2.1
    obtain ⟨hR, hW⟩ := hk _ _ _ _ h9 ⟨hI.1, hI.2.1, wf_cons (show inI (i2c x0) from inI_t _) (wf_tail hI.2.2.1), hI.2.2.2⟩
    refine ⟨hR, fun H locs lsr hL hP hS => ?_⟩
    refine lv_i2c hx hb hd rfl ?_
    exact W.eq (F0_eq hof.symm (by simp only [List.map_cons, cv, i2c, Int32.ofInt_toInt])) (hW H locs lsr hL hP hS)
  · cases h

set_option maxHeartbeats 4000000 in
theorem sim9 (C : CX p R s m args meth c P y L d n0 z0 xs r) {pc : Nat} {ri : RI} {ls : LVs} {st : List AV} {hp : HP} {k : KT} (hc : cdAt y pc = some ri) (h : sK9 (Cd d) ri pc ls st hp k = some r) (hk : ∀ pc' ls' st' hp', k pc' ls' st' hp' = some r → KJ p l e R s m args below meth c Q P y L n0 z0 xs r pc' ls' st' hp') : KJ p l e R s m args below meth c Q P y L n0 z0 xs r pc ls st hp := by
  obtain ⟨hx, hb, hml, hown, hts, hWD, hsz, hn0, hmn, hfr, hlo, hce, hsl⟩ := C
  unfold sK9 at h
  split at h
  · rename_i b cc x z
    obtain ⟨hd, hok, hwd, hof⟩ := at_ok hc (by simp)
    have hd : decode (mByt y) (mOff y pc) = .ok (.ifCond .eq ((mOff y b : Int) - (mOff y pc : Int)), 3) := hd
    have hof : mOff y (pc + 1) = mOff y pc + 3 := hof
    intro hI
    obtain ⟨x0, q, rfl, h9⟩ := e1I_inv h
    have w0 : inI x0 := wf_head hI.2.2.1
    have hI2 : ∀ w ∈ q, wfv w := wf_tail hI.2.2.1
    by_cases hcd : x0 = 0
    · rw [if_pos hcd] at h9
      obtain ⟨hR, hW⟩ := hk _ _ _ _ h9 ⟨hI.1, hI.2.1, hI2, hI.2.2.2⟩
      refine ⟨hR, fun H locs lsr hL hP hS => ?_⟩
      exact lv_if_eq (tgt := mOff y b) hx hb hd (by omega) (fun _ => W.eq (F0_eq rfl rfl) (hW H locs lsr hL hP hS)) (fun g => absurd ((i_eq w0 inI_0).mpr hcd) g)
    · rw [if_neg hcd] at h9
      obtain ⟨hR, hW⟩ := hk _ _ _ _ h9 ⟨hI.1, hI.2.1, hI2, hI.2.2.2⟩
      refine ⟨hR, fun H locs lsr hL hP hS => ?_⟩
      exact lv_if_eq (tgt := mOff y b) hx hb hd (by omega) (fun g => absurd ((i_eq w0 inI_0).mp g) hcd) (fun _ => W.eq (F0_eq hof.symm rfl) (hW H locs lsr hL hP hS))
  · rename_i b cc x z
    obtain ⟨hd, hok, hwd, hof⟩ := at_ok hc (by simp)
    have hd : decode (mByt y) (mOff y pc) = .ok (.ifCond .ne ((mOff y b : Int) - (mOff y pc : Int)), 3) := hd
    have hof : mOff y (pc + 1) = mOff y pc + 3 := hof
    intro hI
    obtain ⟨x0, q, rfl, h9⟩ := e1I_inv h
    have w0 : inI x0 := wf_head hI.2.2.1
    have hI2 : ∀ w ∈ q, wfv w := wf_tail hI.2.2.1
    by_cases hcd : x0 = 0
    · rw [if_pos hcd] at h9
      obtain ⟨hR, hW⟩ := hk _ _ _ _ h9 ⟨hI.1, hI.2.1, hI2, hI.2.2.2⟩
      refine ⟨hR, fun H locs lsr hL hP hS => ?_⟩
      exact lv_if_ne (tgt := mOff y b) hx hb hd (by omega) (fun g => absurd ((i_eq w0 inI_0).mpr hcd) g) (fun _ => W.eq (F0_eq hof.symm rfl) (hW H locs lsr hL hP hS))
    · rw [if_neg hcd] at h9
      obtain ⟨hR, hW⟩ := hk _ _ _ _ h9 ⟨hI.1, hI.2.1, hI2, hI.2.2.2⟩
      refine ⟨hR, fun H locs lsr hL hP hS => ?_⟩
      exact lv_if_ne (tgt := mOff y b) hx hb hd (by omega) (fun _ => W.eq (F0_eq rfl rfl) (hW H locs lsr hL hP hS)) (fun g => absurd ((i_eq w0 inI_0).mp g) hcd)
  · rename_i b cc x z
    obtain ⟨hd, hok, hwd, hof⟩ := at_ok hc (by simp)
    have hd : decode (mByt y) (mOff y pc) = .ok (.ifCond .lt ((mOff y b : Int) - (mOff y pc : Int)), 3) := hd
    have hof : mOff y (pc + 1) = mOff y pc + 3 := hof
    intro hI
    obtain ⟨x0, q, rfl, h9⟩ := e1I_inv h
    have w0 : inI x0 := wf_head hI.2.2.1
    have hI2 : ∀ w ∈ q, wfv w := wf_tail hI.2.2.1
    by_cases hcd : x0 < 0
    · rw [if_pos hcd] at h9
      obtain ⟨hR, hW⟩ := hk _ _ _ _ h9 ⟨hI.1, hI.2.1, hI2, hI.2.2.2⟩
      refine ⟨hR, fun H locs lsr hL hP hS => ?_⟩
      exact lv_if_lt (tgt := mOff y b) hx hb hd (by omega) (fun _ => W.eq (F0_eq rfl rfl) (hW H locs lsr hL hP hS)) (fun g => absurd ((i_lt w0 inI_0).mpr hcd) g)
    · rw [if_neg hcd] at h9
      obtain ⟨hR, hW⟩ := hk _ _ _ _ h9 ⟨hI.1, hI.2.1, hI2, hI.2.2.2⟩
      refine ⟨hR, fun H locs lsr hL hP hS => ?_⟩
      exact lv_if_lt (tgt := mOff y b) hx hb hd (by omega) (fun g => absurd ((i_lt w0 inI_0).mp g) hcd) (fun _ => W.eq (F0_eq hof.symm rfl) (hW H locs lsr hL hP hS))
  · rename_i b cc x z
    obtain ⟨hd, hok, hwd, hof⟩ := at_ok hc (by simp)
    have hd : decode (mByt y) (mOff y pc) = .ok (.ifCond .ge ((mOff y b : Int) - (mOff y pc : Int)), 3) := hd
    have hof : mOff y (pc + 1) = mOff y pc + 3 := hof
    intro hI
    obtain ⟨x0, q, rfl, h9⟩ := e1I_inv h
    have w0 : inI x0 := wf_head hI.2.2.1
    have hI2 : ∀ w ∈ q, wfv w := wf_tail hI.2.2.1
    by_cases hcd : x0 < 0
    · rw [if_pos hcd] at h9
      obtain ⟨hR, hW⟩ := hk _ _ _ _ h9 ⟨hI.1, hI.2.1, hI2, hI.2.2.2⟩
      refine ⟨hR, fun H locs lsr hL hP hS => ?_⟩
      exact lv_if_ge (tgt := mOff y b) hx hb hd (by omega) (fun g => absurd g (fun q => absurd ((i_le inI_0 w0).mp q) (by omega))) (fun _ => W.eq (F0_eq hof.symm rfl) (hW H locs lsr hL hP hS))
    · rw [if_neg hcd] at h9
      obtain ⟨hR, hW⟩ := hk _ _ _ _ h9 ⟨hI.1, hI.2.1, hI2, hI.2.2.2⟩
      refine ⟨hR, fun H locs lsr hL hP hS => ?_⟩
      exact lv_if_ge (tgt := mOff y b) hx hb hd (by omega) (fun _ => W.eq (F0_eq rfl rfl) (hW H locs lsr hL hP hS)) (fun g => absurd ((i_le inI_0 w0).mpr (by omega)) g)
  · rename_i b cc x z
    obtain ⟨hd, hok, hwd, hof⟩ := at_ok hc (by simp)
    have hd : decode (mByt y) (mOff y pc) = .ok (.ifCond .gt ((mOff y b : Int) - (mOff y pc : Int)), 3) := hd
    have hof : mOff y (pc + 1) = mOff y pc + 3 := hof
    intro hI
    obtain ⟨x0, q, rfl, h9⟩ := e1I_inv h
    have w0 : inI x0 := wf_head hI.2.2.1
    have hI2 : ∀ w ∈ q, wfv w := wf_tail hI.2.2.1
    by_cases hcd : 0 < x0
    · rw [if_pos hcd] at h9
      obtain ⟨hR, hW⟩ := hk _ _ _ _ h9 ⟨hI.1, hI.2.1, hI2, hI.2.2.2⟩
      refine ⟨hR, fun H locs lsr hL hP hS => ?_⟩
      exact lv_if_gt (tgt := mOff y b) hx hb hd (by omega) (fun _ => W.eq (F0_eq rfl rfl) (hW H locs lsr hL hP hS)) (fun g => absurd ((i_lt inI_0 w0).mpr hcd) g)
    · rw [if_neg hcd] at h9
      obtain ⟨hR, hW⟩ := hk _ _ _ _ h9 ⟨hI.1, hI.2.1, hI2, hI.2.2.2⟩
      refine ⟨hR, fun H locs lsr hL hP hS => ?_⟩
      exact lv_if_gt (tgt := mOff y b) hx hb hd (by omega) (fun g => absurd ((i_lt inI_0 w0).mp g) hcd) (fun _ => W.eq (F0_eq hof.symm rfl) (hW H locs lsr hL hP hS))
  · rename_i a b cc x z g0 g1 g2 g3 g4
    obtain ⟨hd, hok, hwd, hof⟩ := at_ok hc (by simp)
    have ha5 : ifC a = .le := by
      simp only [okR, decide_eq_true_eq] at hok
      have k0 : a ≠ 0 := g0
      have k1 : a ≠ 1 := g1
      have k2 : a ≠ 2 := g2
      have k3 : a ≠ 3 := g3
      have k4 : a ≠ 4 := g4
      obtain rfl : a = 5 := by omega
      rfl
    have hd : decode (mByt y) (mOff y pc) = .ok (.ifCond (ifC a) ((mOff y b : Int) - (mOff y pc : Int)), 3) := hd
    have hof : mOff y (pc + 1) = mOff y pc + 3 := hof
    rw [ha5] at hd
    intro hI
    obtain ⟨x0, q, rfl, h9⟩ := e1I_inv h
    have w0 : inI x0 := wf_head hI.2.2.1
    have hI2 : ∀ w ∈ q, wfv w := wf_tail hI.2.2.1
    by_cases hcd : 0 < x0
    · rw [if_pos hcd] at h9
      obtain ⟨hR, hW⟩ := hk _ _ _ _ h9 ⟨hI.1, hI.2.1, hI2, hI.2.2.2⟩
      refine ⟨hR, fun H locs lsr hL hP hS => ?_⟩
      exact lv_if_le (tgt := mOff y b) hx hb hd (by omega) (fun g => absurd g (fun q => absurd ((i_le w0 inI_0).mp q) (by omega))) (fun _ => W.eq (F0_eq hof.symm rfl) (hW H locs lsr hL hP hS))
    · rw [if_neg hcd] at h9
      obtain ⟨hR, hW⟩ := hk _ _ _ _ h9 ⟨hI.1, hI.2.1, hI2, hI.2.2.2⟩
      refine ⟨hR, fun H locs lsr hL hP hS => ?_⟩
      exact lv_if_le (tgt := mOff y b) hx hb hd (by omega) (fun _ => W.eq (F0_eq rfl rfl) (hW H locs lsr hL hP hS)) (fun g => absurd ((i_le w0 inI_0).mpr (by omega)) g)
  · cases h

set_option maxHeartbeats 4000000 in
theorem sim10 (C : CX p R s m args meth c P y L d n0 z0 xs r) {pc : Nat} {ri : RI} {ls : LVs} {st : List AV} {hp : HP} {k : KT} (hc : cdAt y pc = some ri) (h : sK10 (Cd d) ri pc ls st hp k = some r) (hk : ∀ pc' ls' st' hp', k pc' ls' st' hp' = some r → KJ p l e R s m args below meth c Q P y L n0 z0 xs r pc' ls' st' hp') : KJ p l e R s m args below meth c Q P y L n0 z0 xs r pc ls st hp := by
  obtain ⟨hx, hb, hml, hown, hts, hWD, hsz, hn0, hmn, hfr, hlo, hce, hsl⟩ := C
  unfold sK10 at h
  split at h
  · rename_i b cc x z
    obtain ⟨hd, hok, hwd, hof⟩ := at_ok hc (by simp)
    have hd : decode (mByt y) (mOff y pc) = .ok (.if_icmp .eq ((mOff y b : Int) - (mOff y pc : Int)), 3) := hd
    have hof : mOff y (pc + 1) = mOff y pc + 3 := hof
    intro hI
    obtain ⟨x0, x1, q, rfl, h9⟩ := e2I_inv h
    have w1 : inI x1 := wf_head hI.2.2.1
    have w0 : inI x0 := wf_head (wf_tail hI.2.2.1)
    have hI2 : ∀ w ∈ q, wfv w := wf_tail (wf_tail hI.2.2.1)
    by_cases hcd : x0 = x1
    · rw [if_pos hcd] at h9
      obtain ⟨hR, hW⟩ := hk _ _ _ _ h9 ⟨hI.1, hI.2.1, hI2, hI.2.2.2⟩
      refine ⟨hR, fun H locs lsr hL hP hS => ?_⟩
      exact lv_icmp_eq (tgt := mOff y b) hx hb hd (by omega) (fun _ => W.eq (F0_eq rfl rfl) (hW H locs lsr hL hP hS)) (fun g => absurd ((i_eq w0 w1).mpr hcd) g)
    · rw [if_neg hcd] at h9
      obtain ⟨hR, hW⟩ := hk _ _ _ _ h9 ⟨hI.1, hI.2.1, hI2, hI.2.2.2⟩
      refine ⟨hR, fun H locs lsr hL hP hS => ?_⟩
      exact lv_icmp_eq (tgt := mOff y b) hx hb hd (by omega) (fun g => absurd ((i_eq w0 w1).mp g) hcd) (fun _ => W.eq (F0_eq hof.symm rfl) (hW H locs lsr hL hP hS))
  · rename_i b cc x z
    obtain ⟨hd, hok, hwd, hof⟩ := at_ok hc (by simp)
    have hd : decode (mByt y) (mOff y pc) = .ok (.if_icmp .ne ((mOff y b : Int) - (mOff y pc : Int)), 3) := hd
    have hof : mOff y (pc + 1) = mOff y pc + 3 := hof
    intro hI
    obtain ⟨x0, x1, q, rfl, h9⟩ := e2I_inv h
    have w1 : inI x1 := wf_head hI.2.2.1
    have w0 : inI x0 := wf_head (wf_tail hI.2.2.1)
    have hI2 : ∀ w ∈ q, wfv w := wf_tail (wf_tail hI.2.2.1)
    by_cases hcd : x0 = x1
    · rw [if_pos hcd] at h9
      obtain ⟨hR, hW⟩ := hk _ _ _ _ h9 ⟨hI.1, hI.2.1, hI2, hI.2.2.2⟩
      refine ⟨hR, fun H locs lsr hL hP hS => ?_⟩
      exact lv_icmp_ne (tgt := mOff y b) hx hb hd (by omega) (fun g => absurd ((i_eq w0 w1).mpr hcd) g) (fun _ => W.eq (F0_eq hof.symm rfl) (hW H locs lsr hL hP hS))
    · rw [if_neg hcd] at h9
      obtain ⟨hR, hW⟩ := hk _ _ _ _ h9 ⟨hI.1, hI.2.1, hI2, hI.2.2.2⟩
      refine ⟨hR, fun H locs lsr hL hP hS => ?_⟩
      exact lv_icmp_ne (tgt := mOff y b) hx hb hd (by omega) (fun _ => W.eq (F0_eq rfl rfl) (hW H locs lsr hL hP hS)) (fun g => absurd ((i_eq w0 w1).mp g) hcd)
  · rename_i b cc x z
    obtain ⟨hd, hok, hwd, hof⟩ := at_ok hc (by simp)
    have hd : decode (mByt y) (mOff y pc) = .ok (.if_icmp .lt ((mOff y b : Int) - (mOff y pc : Int)), 3) := hd
    have hof : mOff y (pc + 1) = mOff y pc + 3 := hof
    intro hI
    obtain ⟨x0, x1, q, rfl, h9⟩ := e2I_inv h
    have w1 : inI x1 := wf_head hI.2.2.1
    have w0 : inI x0 := wf_head (wf_tail hI.2.2.1)
    have hI2 : ∀ w ∈ q, wfv w := wf_tail (wf_tail hI.2.2.1)
    by_cases hcd : x0 < x1
    · rw [if_pos hcd] at h9
      obtain ⟨hR, hW⟩ := hk _ _ _ _ h9 ⟨hI.1, hI.2.1, hI2, hI.2.2.2⟩
      refine ⟨hR, fun H locs lsr hL hP hS => ?_⟩
      exact lv_icmp_lt (tgt := mOff y b) hx hb hd (by omega) (fun _ => W.eq (F0_eq rfl rfl) (hW H locs lsr hL hP hS)) (fun g => absurd ((i_lt w0 w1).mpr hcd) g)
    · rw [if_neg hcd] at h9
      obtain ⟨hR, hW⟩ := hk _ _ _ _ h9 ⟨hI.1, hI.2.1, hI2, hI.2.2.2⟩
      refine ⟨hR, fun H locs lsr hL hP hS => ?_⟩
      exact lv_icmp_lt (tgt := mOff y b) hx hb hd (by omega) (fun g => absurd ((i_lt w0 w1).mp g) hcd) (fun _ => W.eq (F0_eq hof.symm rfl) (hW H locs lsr hL hP hS))
  · rename_i b cc x z
    obtain ⟨hd, hok, hwd, hof⟩ := at_ok hc (by simp)
    have hd : decode (mByt y) (mOff y pc) = .ok (.if_icmp .ge ((mOff y b : Int) - (mOff y pc : Int)), 3) := hd
    have hof : mOff y (pc + 1) = mOff y pc + 3 := hof
    intro hI
    obtain ⟨x0, x1, q, rfl, h9⟩ := e2I_inv h
    have w1 : inI x1 := wf_head hI.2.2.1
    have w0 : inI x0 := wf_head (wf_tail hI.2.2.1)
    have hI2 : ∀ w ∈ q, wfv w := wf_tail (wf_tail hI.2.2.1)
    by_cases hcd : x0 < x1
    · rw [if_pos hcd] at h9
      obtain ⟨hR, hW⟩ := hk _ _ _ _ h9 ⟨hI.1, hI.2.1, hI2, hI.2.2.2⟩
      refine ⟨hR, fun H locs lsr hL hP hS => ?_⟩
      exact lv_icmp_ge (tgt := mOff y b) hx hb hd (by omega) (fun g => absurd g (fun q => absurd ((i_le w1 w0).mp q) (by omega))) (fun _ => W.eq (F0_eq hof.symm rfl) (hW H locs lsr hL hP hS))
    · rw [if_neg hcd] at h9
      obtain ⟨hR, hW⟩ := hk _ _ _ _ h9 ⟨hI.1, hI.2.1, hI2, hI.2.2.2⟩
      refine ⟨hR, fun H locs lsr hL hP hS => ?_⟩
      exact lv_icmp_ge (tgt := mOff y b) hx hb hd (by omega) (fun _ => W.eq (F0_eq rfl rfl) (hW H locs lsr hL hP hS)) (fun g => absurd ((i_le w1 w0).mpr (by omega)) g)
  · rename_i b cc x z
    obtain ⟨hd, hok, hwd, hof⟩ := at_ok hc (by simp)
    have hd : decode (mByt y) (mOff y pc) = .ok (.if_icmp .gt ((mOff y b : Int) - (mOff y pc : Int)), 3) := hd
    have hof : mOff y (pc + 1) = mOff y pc + 3 := hof
    intro hI
    obtain ⟨x0, x1, q, rfl, h9⟩ := e2I_inv h
    have w1 : inI x1 := wf_head hI.2.2.1
    have w0 : inI x0 := wf_head (wf_tail hI.2.2.1)
    have hI2 : ∀ w ∈ q, wfv w := wf_tail (wf_tail hI.2.2.1)
    by_cases hcd : x1 < x0
    · rw [if_pos hcd] at h9
      obtain ⟨hR, hW⟩ := hk _ _ _ _ h9 ⟨hI.1, hI.2.1, hI2, hI.2.2.2⟩
      refine ⟨hR, fun H locs lsr hL hP hS => ?_⟩
      exact lv_icmp_gt (tgt := mOff y b) hx hb hd (by omega) (fun _ => W.eq (F0_eq rfl rfl) (hW H locs lsr hL hP hS)) (fun g => absurd ((i_lt w1 w0).mpr hcd) g)
    · rw [if_neg hcd] at h9
      obtain ⟨hR, hW⟩ := hk _ _ _ _ h9 ⟨hI.1, hI.2.1, hI2, hI.2.2.2⟩
      refine ⟨hR, fun H locs lsr hL hP hS => ?_⟩
      exact lv_icmp_gt (tgt := mOff y b) hx hb hd (by omega) (fun g => absurd ((i_lt w1 w0).mp g) hcd) (fun _ => W.eq (F0_eq hof.symm rfl) (hW H locs lsr hL hP hS))
  · rename_i a b cc x z g0 g1 g2 g3 g4
    obtain ⟨hd, hok, hwd, hof⟩ := at_ok hc (by simp)
    have ha5 : ifC a = .le := by
      simp only [okR, decide_eq_true_eq] at hok
      have k0 : a ≠ 0 := g0
      have k1 : a ≠ 1 := g1
      have k2 : a ≠ 2 := g2
      have k3 : a ≠ 3 := g3
      have k4 : a ≠ 4 := g4
      obtain rfl : a = 5 := by omega
      rfl
    have hd : decode (mByt y) (mOff y pc) = .ok (.if_icmp (ifC a) ((mOff y b : Int) - (mOff y pc : Int)), 3) := hd
    have hof : mOff y (pc + 1) = mOff y pc + 3 := hof
    rw [ha5] at hd
    intro hI
    obtain ⟨x0, x1, q, rfl, h9⟩ := e2I_inv h
    have w1 : inI x1 := wf_head hI.2.2.1
    have w0 : inI x0 := wf_head (wf_tail hI.2.2.1)
    have hI2 : ∀ w ∈ q, wfv w := wf_tail (wf_tail hI.2.2.1)
    by_cases hcd : x1 < x0
    · rw [if_pos hcd] at h9
      obtain ⟨hR, hW⟩ := hk _ _ _ _ h9 ⟨hI.1, hI.2.1, hI2, hI.2.2.2⟩
      refine ⟨hR, fun H locs lsr hL hP hS => ?_⟩
      exact lv_icmp_le (tgt := mOff y b) hx hb hd (by omega) (fun g => absurd g (fun q => absurd ((i_le w0 w1).mp q) (by omega))) (fun _ => W.eq (F0_eq hof.symm rfl) (hW H locs lsr hL hP hS))
    · rw [if_neg hcd] at h9
      obtain ⟨hR, hW⟩ := hk _ _ _ _ h9 ⟨hI.1, hI.2.1, hI2, hI.2.2.2⟩
      refine ⟨hR, fun H locs lsr hL hP hS => ?_⟩
      exact lv_icmp_le (tgt := mOff y b) hx hb hd (by omega) (fun _ => W.eq (F0_eq rfl rfl) (hW H locs lsr hL hP hS)) (fun g => absurd ((i_le w0 w1).mpr (by omega)) g)
  · cases h

end SIM
end
section
/-! the simulation, second part: locals, the stack, jumps, the ends -/
theorem cvA_two {P : PB} (hq : P.2.2.1 = .null ∨ ∃ t, P.2.2.1 = .ref t) (z : Int) : cvA P z = .null ∨ ∃ t, cvA P z = .ref t := by
  unfold cvA
  split
  · exact Or.inl rfl
  · split
    · exact hq
    · exact Or.inr ⟨_, rfl⟩
theorem cat_cv {P : PB} (hq : P.2.2.1 = .null ∨ ∃ t, P.2.2.1 = .ref t) {v : AV} (h : (cv P v).category = 2) : isLv v := by
  rcases v with z | z | z
  · cases h
  · trivial
  · have h : (cvA P z).category = 2 := h
    rcases cvA_two hq z with e | ⟨t, e⟩ <;> rw [e] at h <;> cases h
theorem cat_I (P : PB) (z : Int) : (cv P (vI z)).category = 1 := rfl
theorem cat_A {P : PB} (hq : P.2.2.1 = .null ∨ ∃ t, P.2.2.1 = .ref t) (z : Int) : (cvA P z).category = 1 := by
  rcases cvA_two hq z with e | ⟨t, e⟩ <;> rw [e] <;> rfl
theorem okLg_y {y : Nat} (hy : y < 303) : okLg y = true ∧ okPl y = true ∧ pwd (sgOf y) ≤ mMl y := by
  have h := List.all_eq_true.mp okAll_ok y (List.mem_range.mpr hy)
  simp only [okAll, Bool.and_eq_true, decide_eq_true_eq] at h
  exact ⟨h.1.1, h.1.2, h.2⟩
theorem cd_mem {y pc : Nat} {ri : RI} (h : cdAt y pc = some ri) : ri ∈ (codeT[y]?).getD [] := List.mem_of_getElem? h
theorem lg_ne {y a : Nat} (h : (!(lgOf y).any (fun q => q + 1 == a)) = true) : ∀ q ∈ lgOf y, q + 1 ≠ a := by
  intro q hq e
  simp only [Bool.not_eq_true', List.any_eq_false] at h
  exact h q hq (by simp [e])
theorem lg8 {y pc a b cc x : Nat} {z : Int} (h : cdAt y pc = some (8, a, b, cc, x, z)) : ∀ q ∈ lgOf y, q + 1 ≠ a := lg_ne (List.all_eq_true.mp (okLg_y (cd_lt h)).1 _ (cd_mem h))
theorem lg10 {y pc a b cc x : Nat} {z : Int} (h : cdAt y pc = some (10, a, b, cc, x, z)) : ∀ q ∈ lgOf y, q + 1 ≠ a := lg_ne (List.all_eq_true.mp (okLg_y (cd_lt h)).1 _ (cd_mem h))
theorem lg11 {y pc a b cc x : Nat} {z : Int} (h : cdAt y pc = some (11, a, b, cc, x, z)) : ∀ q ∈ lgOf y, q + 1 ≠ a := lg_ne (List.all_eq_true.mp (okLg_y (cd_lt h)).1 _ (cd_mem h))
theorem lg9 {y pc a b cc x : Nat} {z : Int} (h : cdAt y pc = some (9, a, b, cc, x, z)) : (∀ q ∈ lgOf y, q + 1 ≠ a) ∧ a ∈ lgOf y := by
  have h1 := List.all_eq_true.mp (okLg_y (cd_lt h)).1 _ (cd_mem h)
  have h1 : ((!(lgOf y).any (fun q => q + 1 == a)) && (lgOf y).any (fun q => q == a)) = true := h1
  rw [Bool.and_eq_true] at h1
  refine ⟨lg_ne h1.1, ?_⟩
  obtain ⟨q, hq, e⟩ := List.any_eq_true.mp h1.2
  have : q = a := by simpa using e
  rw [← this]; exact hq
theorem gl_of {ls : LVs} {i : Nat} {v : AV} (h : ls[i]? = some (some v)) : gl ls i = some v := by simp [gl, h]
theorem gl_set {ls : LVs} {a i : Nat} {w : Option AV} {v : AV} (h : gl (ls.set a w) i = some v) : (i = a ∧ w = some v) ∨ (i ≠ a ∧ gl ls i = some v) := by
  have h := gl_some h
  by_cases hi : i = a
  · subst hi
    have hl : i < ls.length := by
      have := (List.getElem?_eq_some_iff.mp h).1
      simpa using this
    rw [List.getElem?_set_self hl] at h
    exact Or.inl ⟨rfl, Option.some.inj h⟩
  · rw [List.getElem?_set_ne (Ne.symm hi)] at h
    exact Or.inr ⟨hi, gl_of h⟩
theorem LR_set {P : PB} {y a : Nat} {ls : LVs} {ls' : Array Slot} {v : AV} (hq : P.2.2.1 = .null ∨ ∃ t, P.2.2.1 = .ref t) (hlg : ∀ q ∈ lgOf y, q + 1 ≠ a) (hl : ∀ i v, gl ls i = some v → wfv v ∧ (isLv v → i ∈ lgOf y))
    (h : lv_has ls' (mMl y) ((a, cv P v) :: (asL P 0 ls).filter (fun q => !(q.1 == a) && !(q.1 + 1 == a && q.2.category == 2)))) : LR P y (ls.set a (some v)) ls' := by
  refine ⟨h.1, h.2.1, fun q hq2 => h.2.2 q ?_⟩
  obtain ⟨k, w, h1, rfl⟩ := asL_of P _ 0 q hq2
  rw [Nat.zero_add]
  rcases gl_set (gl_of h1) with ⟨rfl, e⟩ | ⟨hk, e⟩
  · cases e; exact List.mem_cons_self
  · refine List.mem_cons_of_mem _ (List.mem_filter.mpr ⟨by have := asL_in P ls 0 k w (gl_some e); rw [Nat.zero_add] at this; exact this, ?_⟩)
    have n2 : ¬ (k + 1 = a ∧ (cv P w).category = 2) := fun g => hlg k ((hl k w e).2 (cat_cv hq g.2)) g.1
    simp [hk]
    by_cases g : k + 1 = a
    · exact Or.inr (fun g2 => n2 ⟨g, g2⟩)
    · exact Or.inl g
theorem LR_set2 {P : PB} {y a : Nat} {ls : LVs} {ls' : Array Slot} {v : AV} (hq : P.2.2.1 = .null ∨ ∃ t, P.2.2.1 = .ref t) (hlg : ∀ q ∈ lgOf y, q + 1 ≠ a) (hl : ∀ i v, gl ls i = some v → wfv v ∧ (isLv v → i ∈ lgOf y))
    (h : lv_has ls' (mMl y) ((a, cv P v) :: (asL P 0 ls).filter (fun q => !(q.1 == a) && (!(q.1 == a + 1) && !(q.1 + 1 == a && q.2.category == 2))))) : LR P y ((ls.set a (some v)).set (a + 1) none) ls' := by
  refine ⟨h.1, h.2.1, fun q hq2 => h.2.2 q ?_⟩
  obtain ⟨k, w, h1, rfl⟩ := asL_of P _ 0 q hq2
  rw [Nat.zero_add]
  rcases gl_set (gl_of h1) with ⟨-, e⟩ | ⟨hk1, e⟩
  · cases e
  rcases gl_set e with ⟨rfl, e2⟩ | ⟨hk, e⟩
  · cases e2; exact List.mem_cons_self
  · refine List.mem_cons_of_mem _ (List.mem_filter.mpr ⟨by have := asL_in P ls 0 k w (gl_some e); rw [Nat.zero_add] at this; exact this, ?_⟩)
    have n2 : ¬ (k + 1 = a ∧ (cv P w).category = 2) := fun g => hlg k ((hl k w e).2 (cat_cv hq g.2)) g.1
    simp [hk, hk1]
    by_cases g : k + 1 = a
    · exact Or.inr (fun g2 => n2 ⟨g, g2⟩)
    · exact Or.inl g
theorem PI_set {ls : LVs} {y a : Nat} {w : AV} (hl : ∀ i v, gl ls i = some v → wfv v ∧ (isLv v → i ∈ lgOf y)) (hw : wfv w) (hlv : isLv w → a ∈ lgOf y) : ∀ i v, gl (ls.set a (some w)) i = some v → wfv v ∧ (isLv v → i ∈ lgOf y) := by
  intro i v h
  rcases gl_set h with ⟨rfl, e⟩ | ⟨hk, e⟩
  · cases e; exact ⟨hw, hlv⟩
  · exact hl i v e
theorem PI_non {ls : LVs} {y a : Nat} (hl : ∀ i v, gl ls i = some v → wfv v ∧ (isLv v → i ∈ lgOf y)) : ∀ i v, gl (ls.set a none) i = some v → wfv v ∧ (isLv v → i ∈ lgOf y) := by
  intro i v h
  rcases gl_set h with ⟨rfl, e⟩ | ⟨hk, e⟩
  · cases e
  · exact hl i v e
theorem f4_v {a b : Nat} (h : b = 0 → a < 4) (hb : b = 0) : ((f4 a : Fin 4) : Nat) = a := Nat.mod_eq_of_lt (h hb)
section SIM
variable {p : Program} {l : Launch} {e : Env} {R : Room} {s : State} {m : MethodId} {args : Array Value} {below : List Frame} {meth : Method} {c : Code} {Q : State → Prop} {P : PB} {y L d n0 z0 : Nat} {xs : Nat → Int32} {r : RT}

set_option maxHeartbeats 4000000 in
theorem sim1 (C : CX p R s m args meth c P y L d n0 z0 xs r) {pc : Nat} {ri : RI} {ls : LVs} {st : List AV} {hp : HP} {k : KT} (hc : cdAt y pc = some ri) (h : sK1 (Cd d) ri pc ls st hp k = some r) (hk : ∀ pc' ls' st' hp', k pc' ls' st' hp' = some r → KJ p l e R s m args below meth c Q P y L n0 z0 xs r pc' ls' st' hp') : KJ p l e R s m args below meth c Q P y L n0 z0 xs r pc ls st hp := by
  obtain ⟨hx, hb, hml, hown, hts, hWD, hsz, hn0, hmn, hfr, hlo, hce, hsl⟩ := C
  have hq := hWD.2.2.2
  unfold sK1 at h
  split at h
  · rename_i a b cc x z
    obtain ⟨hd, hok, hwd, hof⟩ := at_ok hc (by simp)
    obtain ⟨x0, hg, h9⟩ := lI_inv h
    simp only [okR, decide_eq_true_eq] at hok
    intro hI
    obtain ⟨hR, hW⟩ := hk _ _ _ _ h9 ⟨hI.1, hI.2.1, wf_cons (hI.2.1 a _ hg).1 hI.2.2.1, hI.2.2.2⟩
    refine ⟨hR, fun H locs lsr hL hP hS => ?_⟩
    have hl := LR_at hL hg
    cases b with
    | zero =>
      have hd : decode (mByt y) (mOff y pc) = .ok (.iload_n (f4 a), 1) := hd
      have hof : mOff y (pc + 1) = mOff y pc + 1 := hof
      exact lv_iload_n hx hb hd (f4_v hok rfl) hl (W.eq (F0_eq hof.symm rfl) (hW H locs lsr hL hP hS))
    | succ b =>
      have hd : decode (mByt y) (mOff y pc) = .ok (.iload a, 2) := hd
      have hof : mOff y (pc + 1) = mOff y pc + 2 := hof
      exact lv_iload hx hb hd hl (W.eq (F0_eq hof.symm rfl) (hW H locs lsr hL hP hS))
  · rename_i a b cc x z
    obtain ⟨hd, hok, hwd, hof⟩ := at_ok hc (by simp)
    obtain ⟨x0, hg, h9⟩ := lL_inv h
    simp only [okR, decide_eq_true_eq] at hok
    intro hI
    obtain ⟨hR, hW⟩ := hk _ _ _ _ h9 ⟨hI.1, hI.2.1, wf_cons (hI.2.1 a _ hg).1 hI.2.2.1, hI.2.2.2⟩
    refine ⟨hR, fun H locs lsr hL hP hS => ?_⟩
    have hl := LR_at hL hg
    cases b with
    | zero =>
      have hd : decode (mByt y) (mOff y pc) = .ok (.lload_n (f4 a), 1) := hd
      have hof : mOff y (pc + 1) = mOff y pc + 1 := hof
      exact lv_lload_n hx hb hd (f4_v hok rfl) hl (W.eq (F0_eq hof.symm rfl) (hW H locs lsr hL hP hS))
    | succ b =>
      have hd : decode (mByt y) (mOff y pc) = .ok (.lload a, 2) := hd
      have hof : mOff y (pc + 1) = mOff y pc + 2 := hof
      exact lv_lload hx hb hd hl (W.eq (F0_eq hof.symm rfl) (hW H locs lsr hL hP hS))
  · rename_i a b cc x z
    obtain ⟨hd, hok, hwd, hof⟩ := at_ok hc (by simp)
    obtain ⟨x0, hg, h9⟩ := lA_inv h
    simp only [okR, decide_eq_true_eq] at hok
    intro hI
    obtain ⟨hR, hW⟩ := hk _ _ _ _ h9 ⟨hI.1, hI.2.1, wf_cons (hI.2.1 a _ hg).1 hI.2.2.1, hI.2.2.2⟩
    refine ⟨hR, fun H locs lsr hL hP hS => ?_⟩
    have hl := LR_at hL hg
    have hl : lsr[a]? = some (.val (cvA P x0)) := hl
    have hW2 := hW H locs lsr hL hP hS
    rw [List.map_cons, show cv P (vA x0) = cvA P x0 from rfl] at hW2
    cases b with
    | zero =>
      have hd : decode (mByt y) (mOff y pc) = .ok (.aload_n (f4 a), 1) := hd
      have hof : mOff y (pc + 1) = mOff y pc + 1 := hof
      rcases cvA_two hq x0 with e | ⟨t, e⟩
      · rw [e] at hl hW2; exact lv_aload_nN hx hb hd (f4_v hok rfl) hl (W.eq (F0_eq hof.symm rfl) hW2)
      · rw [e] at hl hW2; exact lv_aload_n hx hb hd (f4_v hok rfl) hl (W.eq (F0_eq hof.symm rfl) hW2)
    | succ b =>
      have hd : decode (mByt y) (mOff y pc) = .ok (.aload a, 2) := hd
      have hof : mOff y (pc + 1) = mOff y pc + 2 := hof
      rcases cvA_two hq x0 with e | ⟨t, e⟩
      · rw [e] at hl hW2; exact lv_aloadN hx hb hd hl (W.eq (F0_eq hof.symm rfl) hW2)
      · rw [e] at hl hW2; exact lv_aload hx hb hd hl (W.eq (F0_eq hof.symm rfl) hW2)
  · rename_i a b cc x z
    obtain ⟨hd, hok, hwd, hof⟩ := at_ok hc (by simp)
    obtain ⟨x0, q, rfl, h9⟩ := e1I_inv h
    obtain ⟨ha, h9⟩ := t1_inv h9
    simp only [okR, decide_eq_true_eq] at hok
    intro hI
    have hn : a < mMl y := by rw [← hI.1]; exact ha
    obtain ⟨hR, hW⟩ := hk _ _ _ _ h9 ⟨by rw [List.length_set]; exact hI.1, PI_set hI.2.1 (wf_head hI.2.2.1) (fun g => g.elim), wf_tail hI.2.2.1, hI.2.2.2⟩
    refine ⟨hR, fun H locs lsr hL hP hS => ?_⟩
    cases b with
    | zero =>
      have hd : decode (mByt y) (mOff y pc) = .ok (.istore_n (f4 a), 1) := hd
      have hof : mOff y (pc + 1) = mOff y pc + 1 := hof
      exact lv_istore_n hx hb hd (f4_v hok rfl) hL hn rfl (fun ls' hL' => W.eq (F0_eq hof.symm rfl) (hW H locs ls' (LR_set hq (lg8 hc) hI.2.1 hL') hP hS))
    | succ b =>
      have hd : decode (mByt y) (mOff y pc) = .ok (.istore a, 2) := hd
      have hof : mOff y (pc + 1) = mOff y pc + 2 := hof
      exact lv_istore hx hb hd hL hn rfl (fun ls' hL' => W.eq (F0_eq hof.symm rfl) (hW H locs ls' (LR_set hq (lg8 hc) hI.2.1 hL') hP hS))
  · rename_i a b cc x z
    obtain ⟨hd, hok, hwd, hof⟩ := at_ok hc (by simp)
    obtain ⟨x0, q, rfl, h9⟩ := e1L_inv h
    obtain ⟨ha, h9⟩ := t2_inv h9
    simp only [okR, decide_eq_true_eq] at hok
    intro hI
    have hn : a + 1 < mMl y := by rw [← hI.1]; exact ha
    obtain ⟨hR, hW⟩ := hk _ _ _ _ h9 ⟨by rw [List.length_set, List.length_set]; exact hI.1, PI_non (PI_set hI.2.1 (wf_head hI.2.2.1) (fun _ => (lg9 hc).2)), wf_tail hI.2.2.1, hI.2.2.2⟩
    refine ⟨hR, fun H locs lsr hL hP hS => ?_⟩
    cases b with
    | zero =>
      have hd : decode (mByt y) (mOff y pc) = .ok (.lstore_n (f4 a), 1) := hd
      have hof : mOff y (pc + 1) = mOff y pc + 1 := hof
      exact lv_lstore_n hx hb hd (f4_v hok rfl) hL hn rfl (fun ls' hL' => W.eq (F0_eq hof.symm rfl) (hW H locs ls' (LR_set2 hq (lg9 hc).1 hI.2.1 hL') hP hS))
    | succ b =>
      have hd : decode (mByt y) (mOff y pc) = .ok (.lstore a, 2) := hd
      have hof : mOff y (pc + 1) = mOff y pc + 2 := hof
      exact lv_lstore hx hb hd hL hn rfl (fun ls' hL' => W.eq (F0_eq hof.symm rfl) (hW H locs ls' (LR_set2 hq (lg9 hc).1 hI.2.1 hL') hP hS))
  · rename_i a b cc x z
    obtain ⟨hd, hok, hwd, hof⟩ := at_ok hc (by simp)
    obtain ⟨x0, q, rfl, h9⟩ := e1A_inv h
    obtain ⟨ha, h9⟩ := t1_inv h9
    simp only [okR, decide_eq_true_eq] at hok
    intro hI
    have hn : a < mMl y := by rw [← hI.1]; exact ha
    obtain ⟨hR, hW⟩ := hk _ _ _ _ h9 ⟨by rw [List.length_set]; exact hI.1, PI_set hI.2.1 (wf_head hI.2.2.1) (fun g => g.elim), wf_tail hI.2.2.1, hI.2.2.2⟩
    refine ⟨hR, fun H locs lsr hL hP hS => ?_⟩
    rw [List.map_cons, show cv P (vA x0) = cvA P x0 from rfl]
    have key : ∀ ls', lv_has ls' (mMl y) ((a, cvA P x0) :: (asL P 0 ls).filter (fun q => !(q.1 == a) && !(q.1 + 1 == a && q.2.category == 2))) → LR P y (ls.set a (some (vA x0))) ls' := fun ls' g => LR_set (v := vA x0) hq (lg10 hc) hI.2.1 g
    cases b with
    | zero =>
      have hd : decode (mByt y) (mOff y pc) = .ok (.astore_n (f4 a), 1) := hd
      have hof : mOff y (pc + 1) = mOff y pc + 1 := hof
      rcases cvA_two hq x0 with e | ⟨t, e⟩
      · rw [e] at key ⊢; exact lv_astore_nN hx hb hd (f4_v hok rfl) hL hn rfl (fun ls' hL' => W.eq (F0_eq hof.symm rfl) (hW H locs ls' (key ls' hL') hP hS))
      · rw [e] at key ⊢; exact lv_astore_n hx hb hd (f4_v hok rfl) hL hn rfl (fun ls' hL' => W.eq (F0_eq hof.symm rfl) (hW H locs ls' (key ls' hL') hP hS))
    | succ b =>
      have hd : decode (mByt y) (mOff y pc) = .ok (.astore a, 2) := hd
      have hof : mOff y (pc + 1) = mOff y pc + 2 := hof
      rcases cvA_two hq x0 with e | ⟨t, e⟩
      · rw [e] at key ⊢; exact lv_astoreN hx hb hd hL hn rfl (fun ls' hL' => W.eq (F0_eq hof.symm rfl) (hW H locs ls' (key ls' hL') hP hS))
      · rw [e] at key ⊢; exact lv_astore hx hb hd hL hn rfl (fun ls' hL' => W.eq (F0_eq hof.symm rfl) (hW H locs ls' (key ls' hL') hP hS))
  · rename_i a b cc x z
    obtain ⟨hd, hok, hwd, hof⟩ := at_ok hc (by simp)
    have hd : decode (mByt y) (mOff y pc) = .ok (.iinc a z, 3) := hd
    have hof : mOff y (pc + 1) = mOff y pc + 3 := hof
    obtain ⟨x0, hg, h9⟩ := lI_inv h
    obtain ⟨ha, h9⟩ := t1_inv h9
    intro hI
    have hn : a < mMl y := by rw [← hI.1]; exact ha
    obtain ⟨hR, hW⟩ := hk _ _ _ _ h9 ⟨by rw [List.length_set]; exact hI.1, PI_set hI.2.1 (show inI (w32 (x0 + z)) from inI_t _) (fun g => g.elim), hI.2.2.1, hI.2.2.2⟩
    refine ⟨hR, fun H locs lsr hL hP hS => ?_⟩
    have hm := asL_in P ls 0 a (vI x0) (gl_some hg)
    rw [Nat.zero_add] at hm
    obtain ⟨kk, hkk⟩ := List.getElem?_of_mem hm
    exact lv_iinc (v := Int32.ofInt (w32 (x0 + z))) hx hb hd hL hkk (by rw [i_w, Int32.ofInt_add]) hn rfl (fun ls' hL' => W.eq (F0_eq hof.symm rfl) (hW H locs ls' (LR_set (v := vI (w32 (x0 + z))) hq (lg11 hc) hI.2.1 hL') hP hS))
  · cases h

set_option maxHeartbeats 4000000 in
theorem sim8 (C : CX p R s m args meth c P y L d n0 z0 xs r) {pc : Nat} {ri : RI} {ls : LVs} {st : List AV} {hp : HP} {k : KT} (hc : cdAt y pc = some ri) (h : sK8 (Cd d) ri pc ls st hp k = some r) (hk : ∀ pc' ls' st' hp', k pc' ls' st' hp' = some r → KJ p l e R s m args below meth c Q P y L n0 z0 xs r pc' ls' st' hp') : KJ p l e R s m args below meth c Q P y L n0 z0 xs r pc ls st hp := by
  obtain ⟨hx, hb, hml, hown, hts, hWD, hsz, hn0, hmn, hfr, hlo, hce, hsl⟩ := C
  have hq := hWD.2.2.2
  unfold sK8 at h
  split at h
  · rename_i a b cc x z
    obtain ⟨hd, hok, hwd, hof⟩ := at_ok hc (by simp)
    have hd : decode (mByt y) (mOff y pc) = .ok (.dup, 1) := hd
    have hof : mOff y (pc + 1) = mOff y pc + 1 := hof
    intro hI
    split at h
    · rename_i x0 q
      obtain ⟨hR, hW⟩ := hk _ _ _ _ h ⟨hI.1, hI.2.1, wf_cons (wf_head hI.2.2.1) hI.2.2.1, hI.2.2.2⟩
      exact ⟨hR, fun H locs lsr hL hP hS => lv_dup hx hb hd rfl (W.eq (F0_eq hof.symm rfl) (hW H locs lsr hL hP hS))⟩
    · rename_i x0 q
      obtain ⟨hR, hW⟩ := hk _ _ _ _ h ⟨hI.1, hI.2.1, wf_cons (wf_head hI.2.2.1) hI.2.2.1, hI.2.2.2⟩
      exact ⟨hR, fun H locs lsr hL hP hS => lv_dup hx hb hd (cat_A hq x0) (W.eq (F0_eq hof.symm rfl) (hW H locs lsr hL hP hS))⟩
    · cases h
  · rename_i a b cc x z
    obtain ⟨hd, hok, hwd, hof⟩ := at_ok hc (by simp)
    have hd : decode (mByt y) (mOff y pc) = .ok (.dup2, 1) := hd
    have hof : mOff y (pc + 1) = mOff y pc + 1 := hof
    intro hI
    obtain ⟨x0, x1, q, rfl, h9⟩ := eIA_inv h
    obtain ⟨hR, hW⟩ := hk _ _ _ _ h9 ⟨hI.1, hI.2.1, wf_cons (wf_head hI.2.2.1) (wf_cons (wf_head (wf_tail hI.2.2.1)) hI.2.2.1), hI.2.2.2⟩
    exact ⟨hR, fun H locs lsr hL hP hS => lv_dup2_11 hx hb hd rfl (cat_A hq x0) (W.eq (F0_eq hof.symm rfl) (hW H locs lsr hL hP hS))⟩
  · rename_i a b cc x z
    obtain ⟨hd, hok, hwd, hof⟩ := at_ok hc (by simp)
    have hd : decode (mByt y) (mOff y pc) = .ok (.pop, 1) := hd
    have hof : mOff y (pc + 1) = mOff y pc + 1 := hof
    intro hI
    split at h
    · rename_i x0 q
      obtain ⟨hR, hW⟩ := hk _ _ _ _ h ⟨hI.1, hI.2.1, wf_tail hI.2.2.1, hI.2.2.2⟩
      exact ⟨hR, fun H locs lsr hL hP hS => lv_pop hx hb hd rfl (W.eq (F0_eq hof.symm rfl) (hW H locs lsr hL hP hS))⟩
    · rename_i x0 q
      obtain ⟨hR, hW⟩ := hk _ _ _ _ h ⟨hI.1, hI.2.1, wf_tail hI.2.2.1, hI.2.2.2⟩
      exact ⟨hR, fun H locs lsr hL hP hS => lv_pop hx hb hd (cat_A hq x0) (W.eq (F0_eq hof.symm rfl) (hW H locs lsr hL hP hS))⟩
    · cases h
  · cases h

theorem cvA_neg {P : PB} {z : Int} (h : z < 0) : cvA P z = .null := by simp [cvA, h]
theorem cvA_pos {P : PB} {z : Int} (h0 : ¬ z = 0) (h : ¬ z < 0) : cvA P z = .ref (ad P z.toNat) := by simp [cvA, h0, h]
theorem swi_at {x : Int} {k : Nat → Option RT} {r : RT} : ∀ (l : List (Int × Nat)) (d : Nat), swi x l d k = some r → (∃ (j : Nat) (q : Int × Nat), l[j]? = some q ∧ q.1 = x ∧ (∀ (i : Nat) (q' : Int × Nat), i < j → l[i]? = some q' → q'.1 ≠ x) ∧ k q.2 = some r) ∨ ((∀ q ∈ l, q.1 ≠ x) ∧ k d = some r)
  | [], d, h => Or.inr ⟨fun _ h => absurd h List.not_mem_nil, h⟩
  | q :: l, d, h => by
    rw [swi] at h
    by_cases hx : x = q.1
    · rw [if_pos hx] at h
      exact Or.inl ⟨0, q, rfl, hx.symm, fun i q' hi => by omega, h⟩
    · rw [if_neg hx] at h
      rcases swi_at l d h with ⟨j, q2, h1, h2, h3, h4⟩ | ⟨h1, h2⟩
      · refine Or.inl ⟨j + 1, q2, by rw [List.getElem?_cons_succ]; exact h1, h2, fun i q' hi hq => ?_, h4⟩
        cases i with
        | zero => rw [List.getElem?_cons_zero] at hq; cases hq; exact fun e => hx e.symm
        | succ i => rw [List.getElem?_cons_succ] at hq; exact h3 i q' (by omega) hq
      · refine Or.inr ⟨fun q' hq => ?_, h2⟩
        rcases List.mem_cons.mp hq with rfl | hq
        · exact fun e => hx e.symm
        · exact h1 q' hq
theorem lks_in {x dflt : Int} (f : Nat → Int) : ∀ (l : List (Int × Nat)) (j : Nat) (q : Int × Nat), l[j]? = some q → q.1 = x → (∀ (i : Nat) (q' : Int × Nat), i < j → l[i]? = some q' → q'.1 ≠ x) → Op.lookupswitch.offset (l.map fun q => (q.1, f q.2)) dflt x = f q.2
  | [], j, q, h, _, _ => by simp at h
  | w :: l, j, q, h, hx, hn => by
    cases j with
    | zero => rw [List.getElem?_cons_zero] at h; cases h; simp [Op.lookupswitch.offset, hx]
    | succ j =>
      rw [List.getElem?_cons_succ] at h
      have h0 := hn 0 w (by omega) rfl
      have := lks_in (dflt := dflt) f l j q h hx (fun i q' hi hq => hn (i + 1) q' (by omega) (by rw [List.getElem?_cons_succ]; exact hq))
      simpa [Op.lookupswitch.offset, h0, Ne.symm h0] using this
theorem lks_out {x dflt : Int} (f : Nat → Int) : ∀ (l : List (Int × Nat)), (∀ q ∈ l, q.1 ≠ x) → Op.lookupswitch.offset (l.map fun q => (q.1, f q.2)) dflt x = dflt
  | [], _ => rfl
  | w :: l, h => by
    have h0 := h w List.mem_cons_self
    have := lks_out (dflt := dflt) f l (fun q hq => h q (List.mem_cons_of_mem _ hq))
    simpa [Op.lookupswitch.offset, h0, Ne.symm h0] using this
set_option maxHeartbeats 4000000 in
theorem sim11 (C : CX p R s m args meth c P y L d n0 z0 xs r) {pc : Nat} {ri : RI} {ls : LVs} {st : List AV} {hp : HP} {k : KT} (hc : cdAt y pc = some ri) (h : sK11 (Cd d) ri pc ls st hp k = some r) (hk : ∀ pc' ls' st' hp', k pc' ls' st' hp' = some r → KJ p l e R s m args below meth c Q P y L n0 z0 xs r pc' ls' st' hp') : KJ p l e R s m args below meth c Q P y L n0 z0 xs r pc ls st hp := by
  obtain ⟨hx, hb, hml, hown, hts, hWD, hsz, hn0, hmn, hfr, hlo, hce, hsl⟩ := C
  have hq := hWD.2.2.2
  unfold sK11 at h
  split at h
  · rename_i a b cc x z
    obtain ⟨hd, hok, hwd, hof⟩ := at_ok hc (by simp)
    have hd : decode (mByt y) (mOff y pc) = .ok (.ifnull ((mOff y b : Int) - (mOff y pc : Int)), 3) := hd
    have hof : mOff y (pc + 1) = mOff y pc + 3 := hof
    intro hI
    obtain ⟨x0, q, rfl, h9⟩ := e1A_inv h
    by_cases h0 : x0 = 0
    · rw [if_pos h0] at h9; cases h9
    rw [if_neg h0] at h9
    by_cases hcd : x0 < 0
    · rw [if_pos hcd] at h9
      obtain ⟨hR, hW⟩ := hk _ _ _ _ h9 ⟨hI.1, hI.2.1, wf_tail hI.2.2.1, hI.2.2.2⟩
      refine ⟨hR, fun H locs lsr hL hP hS => ?_⟩
      rw [List.map_cons, show cv P (vA x0) = cvA P x0 from rfl, cvA_neg hcd]
      exact lv_ifnullN (tgt := mOff y b) hx hb hd (by omega) (W.eq (F0_eq rfl rfl) (hW H locs lsr hL hP hS))
    · rw [if_neg hcd] at h9
      obtain ⟨hR, hW⟩ := hk _ _ _ _ h9 ⟨hI.1, hI.2.1, wf_tail hI.2.2.1, hI.2.2.2⟩
      refine ⟨hR, fun H locs lsr hL hP hS => ?_⟩
      rw [List.map_cons, show cv P (vA x0) = cvA P x0 from rfl, cvA_pos h0 hcd]
      exact lv_ifnull hx hb hd (W.eq (F0_eq hof.symm rfl) (hW H locs lsr hL hP hS))
  · rename_i a b cc x z
    obtain ⟨hd, hok, hwd, hof⟩ := at_ok hc (by simp)
    have hd : decode (mByt y) (mOff y pc) = .ok (.ifnonnull ((mOff y b : Int) - (mOff y pc : Int)), 3) := hd
    have hof : mOff y (pc + 1) = mOff y pc + 3 := hof
    intro hI
    obtain ⟨x0, q, rfl, h9⟩ := e1A_inv h
    by_cases h0 : x0 = 0
    · rw [if_pos h0] at h9; cases h9
    rw [if_neg h0] at h9
    by_cases hcd : x0 < 0
    · rw [if_pos hcd] at h9
      obtain ⟨hR, hW⟩ := hk _ _ _ _ h9 ⟨hI.1, hI.2.1, wf_tail hI.2.2.1, hI.2.2.2⟩
      refine ⟨hR, fun H locs lsr hL hP hS => ?_⟩
      rw [List.map_cons, show cv P (vA x0) = cvA P x0 from rfl, cvA_neg hcd]
      exact lv_ifnonnullN hx hb hd (W.eq (F0_eq hof.symm rfl) (hW H locs lsr hL hP hS))
    · rw [if_neg hcd] at h9
      obtain ⟨hR, hW⟩ := hk _ _ _ _ h9 ⟨hI.1, hI.2.1, wf_tail hI.2.2.1, hI.2.2.2⟩
      refine ⟨hR, fun H locs lsr hL hP hS => ?_⟩
      rw [List.map_cons, show cv P (vA x0) = cvA P x0 from rfl, cvA_pos h0 hcd]
      exact lv_ifnonnull (tgt := mOff y b) hx hb hd (by omega) (W.eq (F0_eq rfl rfl) (hW H locs lsr hL hP hS))
  · rename_i a b cc x z
    obtain ⟨hd, hok, hwd, hof⟩ := at_ok hc (by simp)
    have hd : decode (mByt y) (mOff y pc) = .ok (.goto ((mOff y b : Int) - (mOff y pc : Int)), 3) := hd
    intro hI
    obtain ⟨hR, hW⟩ := hk _ _ _ _ h hI
    exact ⟨hR, fun H locs lsr hL hP hS => lv_goto (tgt := mOff y b) hx hb hd (by omega) (hW H locs lsr hL hP hS)⟩
  · rename_i a b cc x z
    obtain ⟨hd, hok, hwd, hof⟩ := at_ok hc (by simp)
    have hd : decode (mByt y) (mOff y pc) = .ok (.tableswitch ((mOff y (swD a) : Int) - (mOff y pc : Int)) ((swT[a]?).getD ([], 0, 0, 0)).2.2.1 ((swT[a]?).getD ([], 0, 0, 0)).2.2.2 ((swP a).map fun q => (mOff y q.2 : Int) - (mOff y pc : Int)).toArray, cc) := hd
    simp only [okR, Bool.and_eq_true, decide_eq_true_eq, beq_iff_eq] at hok
    obtain ⟨hk1, hk2⟩ := hok
    intro hI
    obtain ⟨x0, q, rfl, h9⟩ := e1I_inv h
    have w0 : inI x0 := wf_head hI.2.2.1
    have key : ∀ (j : Nat) (w : Int × Nat), (swP a)[j]? = some w → w.1 = ((swT[a]?).getD ([], 0, 0, 0)).2.2.1 + (j : Int) := by
      intro j w hj
      have h1 : ((swP a).map fun q => q.1)[j]? = some w.1 := by rw [List.getElem?_map, hj]; rfl
      rw [hk1, List.getElem?_map] at h1
      have hjl : j < (swP a).length := (List.getElem?_eq_some_iff.mp hj).1
      rw [List.getElem?_range hjl] at h1
      simp only [Option.map_some, Option.some.injEq] at h1
      exact h1.symm
    rcases swi_at _ _ h9 with ⟨j, w, h1, h2, -, h4⟩ | ⟨h1, h4⟩
    · obtain ⟨hR, hW⟩ := hk _ _ _ _ h4 ⟨hI.1, hI.2.1, wf_tail hI.2.2.1, hI.2.2.2⟩
      refine ⟨hR, fun H locs lsr hL hP hS => ?_⟩
      have hj := key j w h1
      have hjl : j < (swP a).length := (List.getElem?_eq_some_iff.mp h1).1
      refine lv_tableIn (off := (mOff y w.2 : Int) - (mOff y pc : Int)) (tgt := mOff y w.2) hx hb hd (by rw [t_i w0]; omega) (by rw [t_i w0]; omega) ?_ (by omega) (hW H locs lsr hL hP hS)
      rw [t_i w0, show (x0 - ((swT[a]?).getD ([], 0, 0, 0)).2.2.1).toNat = j by omega]
      simp [h1]
    · obtain ⟨hR, hW⟩ := hk _ _ _ _ h4 ⟨hI.1, hI.2.1, wf_tail hI.2.2.1, hI.2.2.2⟩
      refine ⟨hR, fun H locs lsr hL hP hS => ?_⟩
      refine lv_tableOut (tgt := mOff y (swD a)) hx hb hd ?_ (by omega) (hW H locs lsr hL hP hS)
      rw [t_i w0]
      by_cases g1 : x0 < ((swT[a]?).getD ([], 0, 0, 0)).2.2.1
      · exact Or.inl g1
      · refine Or.inr (Int.not_le.mp fun g2 => ?_)
        have hjl : (x0 - ((swT[a]?).getD ([], 0, 0, 0)).2.2.1).toNat < (swP a).length := by omega
        have hj := key _ _ (List.getElem?_eq_getElem hjl)
        exact h1 _ (List.getElem_mem hjl) (by rw [hj]; omega)
  · rename_i a b cc x z
    obtain ⟨hd, hok, hwd, hof⟩ := at_ok hc (by simp)
    have hd : decode (mByt y) (mOff y pc) = .ok (.lookupswitch ((mOff y (swD a) : Int) - (mOff y pc : Int)) ((swP a).map fun q => (q.1, (mOff y q.2 : Int) - (mOff y pc : Int))).toArray, cc) := hd
    have hok : ((swP a).zip ((swP a).drop 1)).all (fun q => decide (q.1.1 < q.2.1)) = true := hok
    intro hI
    obtain ⟨x0, q, rfl, h9⟩ := e1I_inv h
    have w0 : inI x0 := wf_head hI.2.2.1
    have hsrt : ((((swP a).map fun q => (q.1, (mOff y q.2 : Int) - (mOff y pc : Int))).toArray.toList).zip ((((swP a).map fun q => (q.1, (mOff y q.2 : Int) - (mOff y pc : Int))).toArray.toList).drop 1)).all (fun (a, next) => a.1 < next.1) = true := by
      rw [List.all_eq_true] at hok ⊢
      intro w hw
      simp only [List.drop_one] at hw hok
      rw [← List.map_tail, List.zip_map, List.mem_map] at hw
      obtain ⟨w2, hw2, rfl⟩ := hw
      exact hok w2 hw2
    rcases swi_at _ _ h9 with ⟨j, w, h1, h2, h3, h4⟩ | ⟨h1, h4⟩
    · obtain ⟨hR, hW⟩ := hk _ _ _ _ h4 ⟨hI.1, hI.2.1, wf_tail hI.2.2.1, hI.2.2.2⟩
      refine ⟨hR, fun H locs lsr hL hP hS => ?_⟩
      exact lv_lookup (off := (mOff y w.2 : Int) - (mOff y pc : Int)) (tgt := mOff y w.2) hx hb hd hsrt (by rw [t_i w0]; exact lks_in (fun t => (mOff y t : Int) - (mOff y pc : Int)) _ j w h1 h2 h3) (by omega) (hW H locs lsr hL hP hS)
    · obtain ⟨hR, hW⟩ := hk _ _ _ _ h4 ⟨hI.1, hI.2.1, wf_tail hI.2.2.1, hI.2.2.2⟩
      refine ⟨hR, fun H locs lsr hL hP hS => ?_⟩
      exact lv_lookup (off := (mOff y (swD a) : Int) - (mOff y pc : Int)) (tgt := mOff y (swD a)) hx hb hd hsrt (by rw [t_i w0]; exact lks_out (fun t => (mOff y t : Int) - (mOff y pc : Int)) _ h1) (by omega) (hW H locs lsr hL hP hS)
  · cases h

/-- what a method hands back, by its end -/
def retOK (ri : RI) (rs : List AV) : Prop := (ri.1 = 60 ∧ rs = []) ∨ (ri.1 = 61 ∧ ∃ x, rs = [vI x] ∧ inI x) ∨ (ri.1 = 62 ∧ ∃ x, rs = [vI x] ∧ (x = 0 ∨ x = 1)) ∨ (ri.1 = 63 ∧ ∃ x, rs = [vL x] ∧ inL x) ∨ (ri.1 = 64 ∧ ∃ x, rs = [vA x]) ∨ (ri.1 = 65 ∧ ∃ x, rs = [vI x] ∧ 0 ≤ x ∧ x < 65536) ∨ (ri.1 = 66 ∧ ∃ x, rs = [vI x] ∧ -128 ≤ x ∧ x < 128)

set_option maxHeartbeats 4000000 in
theorem sim12 (C : CX p R s m args meth c P y L d n0 z0 xs r) {pc : Nat} {ri : RI} {ls : LVs} {st : List AV} {hp : HP} {k : KT} (hc : cdAt y pc = some ri) (hRet : ∀ (pc : Nat) (ri : RI) (H : Heap) (locs : List Loc) (lsr : Array Slot), cdAt y pc = some ri → retOK ri r.1 → va_P P.2.2.2.1 vwCl (wsO P r.2) H → va_S (RG P) s.heap H locs → W p l e R s m args below meth c H locs (r.2.1.length - n0) (sl r.2.1 - z0) Q (F0 m (mOff y pc) lsr (r.1.map (cv P)))) (h : sK12 (Cd d) ri pc ls st hp k = some r) (hk : ∀ pc' ls' st' hp', k pc' ls' st' hp' = some r → KJ p l e R s m args below meth c Q P y L n0 z0 xs r pc' ls' st' hp') : KJ p l e R s m args below meth c Q P y L n0 z0 xs r pc ls st hp := by
  obtain ⟨hx, hb, hml, hown, hts, hWD, hsz, hn0, hmn, hfr, hlo, hce, hsl⟩ := C
  have hq := hWD.2.2.2
  unfold sK12 at h
  split at h
  · intro hI
    split at h
    · cases h
      exact ⟨⟨hI.2.2.2.1, fun _ h => absurd h List.not_mem_nil⟩, fun H locs lsr hL hP hS => hRet pc _ H locs lsr hc (Or.inl ⟨rfl, rfl⟩) hP hS⟩
    · cases h
  · intro hI
    split at h
    · cases h
      exact ⟨⟨hI.2.2.2.1, hI.2.2.1⟩, fun H locs lsr hL hP hS => hRet pc _ H locs lsr hc (Or.inr (Or.inl ⟨rfl, _, rfl, wf_head hI.2.2.1⟩)) hP hS⟩
    · cases h
  · intro hI
    split at h
    · split at h
      · rename_i hz
        cases h
        exact ⟨⟨hI.2.2.2.1, hI.2.2.1⟩, fun H locs lsr hL hP hS => hRet pc _ H locs lsr hc (Or.inr (Or.inr (Or.inl ⟨rfl, _, rfl, hz⟩))) hP hS⟩
      · cases h
    · cases h
  · intro hI
    split at h
    · cases h
      exact ⟨⟨hI.2.2.2.1, hI.2.2.1⟩, fun H locs lsr hL hP hS => hRet pc _ H locs lsr hc (Or.inr (Or.inr (Or.inr (Or.inl ⟨rfl, _, rfl, wf_head hI.2.2.1⟩)))) hP hS⟩
    · cases h
  · intro hI
    split at h
    · split at h
      · cases h
      · cases h
        exact ⟨⟨hI.2.2.2.1, hI.2.2.1⟩, fun H locs lsr hL hP hS => hRet pc _ H locs lsr hc (Or.inr (Or.inr (Or.inr (Or.inr (Or.inl ⟨rfl, _, rfl⟩))))) hP hS⟩
    · cases h
  · intro hI
    split at h
    · split at h
      · rename_i hz
        cases h
        exact ⟨⟨hI.2.2.2.1, hI.2.2.1⟩, fun H locs lsr hL hP hS => hRet pc _ H locs lsr hc (Or.inr (Or.inr (Or.inr (Or.inr (Or.inr (Or.inl ⟨rfl, _, rfl, hz⟩)))))) hP hS⟩
      · cases h
    · cases h
  · intro hI
    split at h
    · split at h
      · rename_i hz
        cases h
        exact ⟨⟨hI.2.2.2.1, hI.2.2.1⟩, fun H locs lsr hL hP hS => hRet pc _ H locs lsr hc (Or.inr (Or.inr (Or.inr (Or.inr (Or.inr (Or.inr ⟨rfl, _, rfl, hz⟩)))))) hP hS⟩
      · cases h
    · cases h
  · cases h

end SIM
end
section
/-! the simulation, third part: the heap -/
theorem gS_inv {hp : HP} {o : Int} {q : Nat × Nat} (h : gS hp o = some q) : 0 ≤ o ∧ hp.1[o.toNat]? = some q := by
  unfold gS at h
  split at h
  · cases h
  · exact ⟨by omega, h⟩
theorem bnd_inv {α β : Type} {x : Option α} {f : α → Option β} {r : β} (h : x.bind f = some r) : ∃ a, x = some a ∧ f a = some r := by
  cases x with
  | none => cases h
  | some a => exact ⟨a, rfl, h⟩
theorem gF_inv {hp : HP} {t k : Nat} {o v : Int} (h : gF hp t k o = some v) : 0 ≤ o ∧ ∃ n, hp.1[o.toNat]? = some (t, n) ∧ k < n ∧ v = hp.2 o.toNat k := by
  obtain ⟨q, h1, h2⟩ := bnd_inv h
  obtain ⟨h3, h4⟩ := gS_inv h1
  split at h2
  · rename_i g; cases h2; obtain ⟨q1, q2⟩ := q; obtain ⟨g1, g2⟩ := g; simp only at g1 g2; subst g1; exact ⟨h3, q2, h4, g2, rfl⟩
  · cases h2
theorem pF_inv {hp h' : HP} {t k : Nat} {o v : Int} (h : pF hp t k o v = some h') : 0 ≤ o ∧ ∃ n, hp.1[o.toNat]? = some (t, n) ∧ k < n ∧ h' = (hp.1, u2 hp.2 o.toNat k v) := by
  obtain ⟨q, h1, h2⟩ := bnd_inv h
  obtain ⟨h3, h4⟩ := gS_inv h1
  split at h2
  · rename_i g; cases h2; obtain ⟨q1, q2⟩ := q; obtain ⟨g1, g2⟩ := g; simp only at g1 g2; subst g1; exact ⟨h3, q2, h4, g2, rfl⟩
  · cases h2
theorem gA_inv {hp : HP} {a : Nat} {o i v : Int} (h : gA hp a o i = some v) : 0 ≤ o ∧ ∃ t n, hp.1[o.toNat]? = some (t, n) ∧ (t = 100 + a ∨ t = 110 + a) ∧ 0 ≤ i ∧ i < (n : Int) ∧ v = hp.2 o.toNat i.toNat := by
  obtain ⟨q, h1, h2⟩ := bnd_inv h
  obtain ⟨h3, h4⟩ := gS_inv h1
  split at h2
  · rename_i g; cases h2; obtain ⟨q1, q2⟩ := q; exact ⟨h3, q1, q2, h4, g.1, g.2.1, g.2.2, rfl⟩
  · cases h2
theorem pA_inv {hp h' : HP} {a : Nat} {o i v : Int} (h : pA hp a o i v = some h') : 0 ≤ o ∧ ∃ n, hp.1[o.toNat]? = some (100 + a, n) ∧ 0 ≤ i ∧ i < (n : Int) ∧ h' = (hp.1, u2 hp.2 o.toNat i.toNat v) := by
  obtain ⟨q, h1, h2⟩ := bnd_inv h
  obtain ⟨h3, h4⟩ := gS_inv h1
  split at h2
  · rename_i g; cases h2; obtain ⟨q1, q2⟩ := q; obtain ⟨g1, g2⟩ := g; simp only at g1; subst g1; exact ⟨h3, q2, h4, g2.1, g2.2, rfl⟩
  · cases h2
theorem gR_inv {hp : HP} {o i v : Int} (h : gR hp o i = some v) : 0 ≤ o ∧ ∃ t n, hp.1[o.toNat]? = some (t, n) ∧ (t = 103 ∨ t = 104) ∧ 0 ≤ i ∧ i < (n : Int) ∧ v = hp.2 o.toNat i.toNat := by
  obtain ⟨q, h1, h2⟩ := bnd_inv h
  obtain ⟨h3, h4⟩ := gS_inv h1
  split at h2
  · rename_i g; cases h2; obtain ⟨q1, q2⟩ := q; exact ⟨h3, q1, q2, h4, g.1, g.2.1, g.2.2, rfl⟩
  · cases h2
theorem pR_inv {hp h' : HP} {o i v : Int} (h : pR hp o i v = some h') : 0 ≤ o ∧ 0 ≤ v ∧ ∃ t n t2 n2, hp.1[o.toNat]? = some (t, n) ∧ hp.1[v.toNat]? = some (t2, n2) ∧ ((t = 103 ∧ t2 = 1) ∨ (t = 104 ∧ t2 = 8)) ∧ 0 ≤ i ∧ i < (n : Int) ∧ h' = (hp.1, u2 hp.2 o.toNat i.toNat v) := by
  obtain ⟨q, h1, h2⟩ := bnd_inv h
  obtain ⟨q2, h5, h6⟩ := bnd_inv h2
  obtain ⟨h3, h4⟩ := gS_inv h1
  obtain ⟨h7, h8⟩ := gS_inv h5
  split at h6
  · rename_i g; cases h6; obtain ⟨a1, a2⟩ := q; obtain ⟨b1, b2⟩ := q2; exact ⟨h3, h7, a1, a2, b1, b2, h4, h8, g.1, g.2.1, g.2.2, rfl⟩
  · cases h6
theorem gL_inv {hp : HP} {o v : Int} (h : gL hp o = some v) : 0 ≤ o ∧ ∃ (t n : Nat), hp.1[o.toNat]? = some (t, n) ∧ 100 ≤ t ∧ v = (n : Int) := by
  obtain ⟨q, h1, h2⟩ := bnd_inv h
  obtain ⟨h3, h4⟩ := gS_inv h1
  split at h2
  · rename_i g; cases h2; obtain ⟨q1, q2⟩ := q; exact ⟨h3, q1, q2, h4, g, rfl⟩
  · cases h2
/-- the external cells -/
def xR : List (Nat × Nat) := statA.map (fun q => (110, q.2.length)) ++ strT.flatMap (fun q => [(50, 2), (112, q.length)])
theorem xSh_eq (L : Nat) : xSh L = (98, 0) :: (110, L) :: xR := by simp [xSh, xR]
theorem xR_all : (List.range 27).all (fun j => if j < 3 then decide (xR[j]? = some (110, (stA j).2.length)) else if (j - 3) % 2 = 0 then decide (xR[j]? = some (50, 2)) else decide (xR[j]? = some (112, lens.getD ((j - 3) / 2) 0))) = true := by decide +kernel
theorem xR_ok (j : Nat) (hj : j < 27) : (j < 3 → xR[j]? = some (110, (stA j).2.length)) ∧ (3 ≤ j → (j - 3) % 2 = 0 → xR[j]? = some (50, 2)) ∧ (3 ≤ j → (j - 3) % 2 = 1 → xR[j]? = some (112, lens.getD ((j - 3) / 2) 0)) := by
  have h := List.all_eq_true.mp xR_all j (List.mem_range.mpr hj)
  refine ⟨fun h3 => ?_, fun h3 h4 => ?_, fun h3 h4 => ?_⟩
  · rw [if_pos h3] at h; exact of_decide_eq_true h
  · rw [if_neg (by omega), if_pos h4] at h; exact of_decide_eq_true h
  · rw [if_neg (by omega), if_neg (by omega)] at h; exact of_decide_eq_true h
theorem xSh_len (L : Nat) : (xSh L).length = 29 := by rw [xSh_eq]; have : xR.length = 27 := by decide +kernel
                                                      simp [this]
theorem x_at {L i : Nat} {xs : Nat → Int32} {hp : HP} {q : Nat × Nat} (hw : wfH L xs hp) (hi : i < KX) (h : hp.1[i]? = some q) : (i = 0 ∧ q = (98, 0)) ∨ (i = 1 ∧ q = (110, L)) ∨ (∃ a, a < 3 ∧ i = 2 + a ∧ q = (110, (stA a).2.length)) ∨ (∃ a, a < 12 ∧ i = 5 + 2 * a ∧ q = (50, 2)) ∨ (∃ a, a < 12 ∧ i = 6 + 2 * a ∧ q = (112, lens.getD a 0)) := by
  have h1 : (hp.1.take KX)[i]? = some q := by rw [List.getElem?_take, if_pos hi]; exact h
  rw [hw.2.1, xSh_eq] at h1
  have hi : i < 29 := hi
  match i, h1, hi with
  | 0, h1, _ => simp at h1; exact Or.inl ⟨rfl, h1.symm⟩
  | 1, h1, _ => simp at h1; exact Or.inr (Or.inl ⟨rfl, h1.symm⟩)
  | j + 2, h1, hi =>
    have h1 : xR[j]? = some q := h1
    obtain ⟨g1, g2, g3⟩ := xR_ok j (by omega)
    by_cases h3 : j < 3
    · have e := g1 h3; rw [h1] at e; cases e
      exact Or.inr (Or.inr (Or.inl ⟨j, h3, by omega, rfl⟩))
    · by_cases h4 : (j - 3) % 2 = 0
      · have e := g2 (by omega) h4; rw [h1] at e; cases e
        exact Or.inr (Or.inr (Or.inr (Or.inl ⟨(j - 3) / 2, by omega, by omega, rfl⟩)))
      · have e := g3 (by omega) (by omega); rw [h1] at e; cases e
        exact Or.inr (Or.inr (Or.inr (Or.inr ⟨(j - 3) / 2, by omega, by omega, rfl⟩)))
theorem x_tag {L i : Nat} {xs : Nat → Int32} {hp : HP} {q : Nat × Nat} (hw : wfH L xs hp) (h : hp.1[i]? = some q) (h1 : q.1 ≠ 98) (h2 : q.1 ≠ 110) (h3 : q.1 ≠ 50) (h4 : q.1 ≠ 112) : KX ≤ i := by
  by_cases hi : i < KX
  · rcases x_at hw hi h with ⟨-, rfl⟩ | ⟨-, rfl⟩ | ⟨a, -, -, rfl⟩ | ⟨a, -, -, rfl⟩ | ⟨a, -, -, rfl⟩ <;> simp at h1 h2 h3 h4
  · omega
theorem x_low {L i : Nat} {xs : Nat → Int32} {hp : HP} {q : Nat × Nat} (hw : wfH L xs hp) (h : hp.1[i]? = some q) (h1 : q.1 = 110 ∨ q.1 = 50 ∨ q.1 = 112) : i < KX := by
  by_cases hi : i < KX
  · exact hi
  · have := hw.2.2.2 i q (by omega) h
    unfold okC at this
    omega
theorem inI_getD {l : List Int} (h : l.all (fun z => decide (-2147483648 ≤ z) && decide (z < 2147483648)) = true) (k : Nat) : inI (l.getD k 0) := by
  rw [List.getD_eq_getElem?_getD]
  cases hk : l[k]? with
  | none => exact inI_0
  | some z =>
    have := List.all_eq_true.mp h z (List.mem_of_getElem? hk)
    simp only [Bool.and_eq_true, decide_eq_true_eq] at this
    exact this
theorem stA_in : ∀ a, a < 3 → (stA a).2.all (fun z => decide (-2147483648 ≤ z) && decide (z < 2147483648)) = true := by decide +kernel
theorem stS_in : ∀ a, a < 12 → (byts (stS a)).all (fun z => decide (-2147483648 ≤ z) && decide (z < 2147483648)) = true := by decide +kernel
theorem xCt_1 (xs : Nat → Int32) (k : Nat) : xCt xs 1 k = (xs k).toInt := by simp [xCt]
theorem xCt_A (xs : Nat → Int32) {a : Nat} (ha : a < 3) (k : Nat) : xCt xs (2 + a) k = (stA a).2.getD k 0 := by
  have : statA.length = 3 := rfl
  unfold xCt
  rw [if_neg (by omega), if_pos (by omega), show 2 + a - 2 = a by omega]
theorem xCt_S0 (xs : Nat → Int32) (a : Nat) : xCt xs (5 + 2 * a) 0 = ((6 + 2 * a : Nat) : Int) := by
  have : statA.length = 3 := rfl
  unfold xCt
  rw [if_neg (by omega), if_neg (by omega), if_pos (by omega), if_pos rfl]; omega
theorem xCt_S1 (xs : Nat → Int32) (a : Nat) : xCt xs (5 + 2 * a) 1 = 0 := by
  have : statA.length = 3 := rfl
  unfold xCt
  rw [if_neg (by omega), if_neg (by omega), if_pos (by omega), if_neg (by omega)]
theorem xCt_V (xs : Nat → Int32) (a k : Nat) : xCt xs (6 + 2 * a) k = (byts (stS a)).getD k 0 := by
  have : statA.length = 3 := rfl
  unfold xCt
  rw [if_neg (by omega), if_neg (by omega), if_neg (by omega), show (6 + 2 * a - 2 - statA.length) / 2 = a by omega]
/-- what is held of the classes -/
def kTy (kn : Nat) (ty : FieldType) : Bool := match kn, ty with | 0, .int => true | 3, .boolean => true | 1, .long => true | 2, t => isO t | _, _ => false
def CO (a : Nat) (q : vw_C) : Prop := a < 13 ∧ (∀ w ∈ u_ws q.1 q.2.1 q.2.2, w ∈ gW) ∧ (∃ ty : Nat → FieldType, (∀ k, k < q.2.2 → parseFieldDescriptor (q.2.1 k).2.2.1 = some (ty k)) ∧ ∀ k, k < q.2.2 → kTy (kd a k) (ty k) = true) ∧ (∀ a, a < q.2.2 → ∀ b, b < q.2.2 → a ≠ b → (q.2.1 a).2.1 ≠ (q.2.1 b).2.1) ∧ ∀ k, k < q.2.2 → (q.2.1 k).1 = q.1
theorem u_gw {C : String} {T : u_T} {N : Nat} (h : ∀ w ∈ u_ws C T N, w ∈ lw_tbl) : ∀ w ∈ u_ws C T N, w ∈ gW := by
  intro w hw
  refine List.mem_filter.mpr ⟨h w hw, ?_⟩
  obtain ⟨k, -, rfl⟩ := List.mem_map.mp hw
  unfold u_lay
  split <;> rfl

theorem clsOK : ∀ (a : Nat) (q : vw_C), vwCl[a]? = some q → CO a q
  | 0, q, h => by cases h; exact ⟨by decide, u_gw inX0, ⟨tyX0, tyX0_ok, by decide +kernel⟩, nmX0, by decide +kernel⟩
  | 1, q, h => by cases h; exact ⟨by decide, u_gw inX1, ⟨tyX1, tyX1_ok, by decide +kernel⟩, nmX1, by decide +kernel⟩
  | 2, q, h => by cases h; exact ⟨by decide, u_gw inX2, ⟨tyX2, tyX2_ok, by decide +kernel⟩, nmX2, by decide +kernel⟩
  | 3, q, h => by cases h; exact ⟨by decide, u_gw inX3, ⟨tyX3, tyX3_ok, by decide +kernel⟩, nmX3, by decide +kernel⟩
  | 4, q, h => by cases h; exact ⟨by decide, u_gw inX4, ⟨tyX4, tyX4_ok, by decide +kernel⟩, nmX4, by decide +kernel⟩
  | 5, q, h => by cases h; exact ⟨by decide, u_gw inX5, ⟨tyX5, tyX5_ok, by decide +kernel⟩, nmX5, by decide +kernel⟩
  | 6, q, h => by cases h; exact ⟨by decide, u_gw inX6, ⟨tyX6, tyX6_ok, by decide +kernel⟩, nmX6, by decide +kernel⟩
  | 7, q, h => by cases h; exact ⟨by decide, u_gw inX7, ⟨tyX7, tyX7_ok, by decide +kernel⟩, nmX7, by decide +kernel⟩
  | 8, q, h => by cases h; exact ⟨by decide, u_gw inX8, ⟨tyX8, tyX8_ok, by decide +kernel⟩, nmX8, by decide +kernel⟩
  | 9, q, h => by cases h; exact ⟨by decide, u_gw inX9, ⟨tyX9, tyX9_ok, by decide +kernel⟩, nmX9, by decide +kernel⟩
  | 10, q, h => by cases h; exact ⟨by decide, u_gw inX10, ⟨tyX10, tyX10_ok, by decide +kernel⟩, nmX10, by decide +kernel⟩
  | 11, q, h => by cases h; exact ⟨by decide, u_gw inX11, ⟨tyX11, tyX11_ok, by decide +kernel⟩, nmX11, by decide +kernel⟩
  | 12, q, h => by cases h; exact ⟨by decide, u_gw inX12, ⟨tyX12, tyX12_ok, by decide +kernel⟩, nmX12, by decide +kernel⟩
  | n + 13, q, h => by simp [vwCl] at h

theorem fds_at {P : PB} {c : Nat → Nat → Int} {i t n k : Nat} (h : k < n) : (fds P c i t n)[k]? = some (cvK P (kd t k) (c i k)) := by
  simp [fds, h]
theorem fds_len (P : PB) (c : Nat → Nat → Int) (i t n : Nat) : (fds P c i t n).length = n := by simp [fds]
theorem fds_set {P : PB} {c : Nat → Nat → Int} {i t n k : Nat} (v : Int) (h : k < n) : (fds P c i t n).set k (cvK P (kd t k) v) = fds P (u2 c i k v) i t n := by
  apply List.ext_getElem?
  intro j
  by_cases hj : j = k
  · subst hj
    rw [List.getElem?_set_self (by rw [fds_len]; exact h), fds_at h]; simp [u2]
  · rw [List.getElem?_set_ne (Ne.symm hj)]
    by_cases hn : j < n
    · rw [fds_at hn, fds_at hn]; simp [u2, hj]
    · rw [List.getElem?_eq_none (by rw [fds_len]; omega), List.getElem?_eq_none (by rw [fds_len]; omega)]
theorem entE_o {P : PB} {c : Nat → Nat → Int} {i t n : Nat} (h : t < 13) : entE P c i (t, n) = .inr (t, fds P c i t n) := by simp [entE, h]
theorem okC_o {t n : Nat} {f : Nat → Int} (h : t < 13) (ho : okC (t, n) f) : (∃ q, vwCl[t]? = some q ∧ n = q.2.2) ∧ ∀ k, k < n → wfK (kd t k) (f k) := by
  rcases ho.2 with h1 | h1 | h1 | h1 | h1
  · exact ⟨h1.2.1, h1.2.2⟩
  all_goals (simp only at h1; omega)
theorem lnk {a b : Nat} {q : vw_C} (hc : vwCl[a]? = some q) (ha : a < 13) : ownN a = q.1 ∧ fldN a b = ((q.2.1 b).2.1, (q.2.1 b).2.2.1) := by
  have h50 : ¬ a = 50 := by omega
  constructor
  · simp only [ownN, if_neg h50, clsN, hc]
  · simp only [fldN, if_neg h50, hc]
theorem cvA_ge {P : PB} {o : Int} (h0 : 0 ≤ o) (h : KX ≤ o.toNat) : cvA P o = .ref (ad P o.toNat) := by
  have : KX = 29 := rfl
  exact cvA_pos (by omega) (by omega)
theorem wfH_set {L : Nat} {xs : Nat → Int32} {hp : HP} {i k : Nat} {v : Int} {q : Nat × Nat} (hw : wfH L xs hp) (hi : KX ≤ i) (hq : hp.1[i]? = some q) (ho : okC q (hp.2 i) → okC q (u2 hp.2 i k v i)) : wfH L xs (hp.1, u2 hp.2 i k v) := by
  refine ⟨hw.1, hw.2.1, fun j m hj => ?_, fun j q2 hj hq2 => ?_⟩
  · show u2 hp.2 i k v j m = _
    rw [← hw.2.2.1 j m hj]; simp [u2, show j ≠ i by omega]
  · by_cases h : j = i
    · subst h
      rw [hq] at hq2; cases hq2
      exact ho (hw.2.2.2 _ _ hj hq)
    · have e : u2 hp.2 i k v j = hp.2 j := by funext m; simp [u2, h]
      show okC q2 (u2 hp.2 i k v j)
      rw [e]; exact hw.2.2.2 j q2 hj hq2
theorem cvK_1 (P : PB) (z : Int) : cvK P 1 z = .long (Int64.ofInt z) := rfl
theorem cvK_2 (P : PB) (z : Int) : cvK P 2 z = cvA P z := rfl
theorem cvK_i {P : PB} {kn : Nat} (h1 : kn ≠ 1) (h2 : kn ≠ 2) (z : Int) : cvK P kn z = .int (Int32.ofInt z) := by
  unfold cvK; split
  · exact absurd rfl h1
  · exact absurd rfl h2
  · rfl
theorem wfK_i {kn : Nat} {z : Int} (h1 : kn ≠ 1) (h2 : kn ≠ 2) (h : wfK kn z) : inI z := by
  unfold wfK at h; split at h
  · exact absurd rfl h1
  · exact absurd rfl h2
  · exact h
section SIM
variable {p : Program} {l : Launch} {e : Env} {R : Room} {s : State} {m : MethodId} {args : Array Value} {below : List Frame} {meth : Method} {c : Code} {Q : State → Prop} {P : PB} {y L d n0 z0 : Nat} {xs : Nat → Int32} {r : RT}
/-- a field read: what comes on the stack -/
theorem sim_get (C : CX p R s m args meth c P y L d n0 z0 xs r) {pc a b cc x n : Nat} {z o : Int} {hp : HP} {q : List AV} {H : Heap} {locs : List Loc} {lsr : Array Slot} {cells slots : Nat} (hc : cdAt y pc = some (12, a, b, cc, x, z)) (h0 : 0 ≤ o) (hq : hp.1[o.toNat]? = some (a, n)) (hb2 : b < n) (hw : wfH L xs hp)
    (hP : va_P P.2.2.2.1 vwCl (wsO P hp) H) (hS : va_S (RG P) s.heap H locs) {v : Value} (hv : a < 13 → v = cvK P (kd a b) (hp.2 o.toNat b)) (hv2 : a = 50 → v = (if b = 0 then cvA P (hp.2 o.toNat b) else .int 0))
    (hW : W p l e R s m args below meth c H locs cells slots Q (F0 m (mOff y (pc + 1)) lsr (v :: q.map (cv P)))) : W p l e R s m args below meth c H locs cells slots Q (F0 m (mOff y pc) lsr ((vA o :: q).map (cv P))) := by
  obtain ⟨hx, hb, hml, hown, hts, hWD, hsz, hn0, hmn, hfr, hlo, hce, hsl⟩ := C
  obtain ⟨hd, hok, hwd, hof⟩ := at_ok hc (by simp)
  have hd : decode (mByt y) (mOff y pc) = .ok (.getfield x, 3) := hd
  have hof : mOff y (pc + 1) = mOff y pc + 3 := hof
  obtain ⟨w, hw1, hw2⟩ := hwd rfl
  have hw2 : some (Jvm.Cond.fieldLink (mName y).cls x (ownN a) (fldN a b).1 (fldN a b).2) = some w := hw2
  cases hw2
  have hlk := hts _ (List.mem_filter.mpr ⟨hw1, rfl⟩)
  simp only [okR, Bool.and_eq_true, decide_eq_true_eq] at hok
  rw [hof] at hW
  rw [List.map_cons, show cv P (vA o) = cvA P o from rfl]
  rcases hok.1 with ha | ha
  · have hi : KX ≤ o.toNat := x_tag hw hq (by simp; omega) (by simp; omega) (by simp; omega) (by simp; omega)
    obtain ⟨⟨r0, hr0, hn⟩, -⟩ := okC_o ha (hw.2.2.2 _ _ hi hq)
    obtain ⟨-, hin, -, -, hdc⟩ := clsOK a r0 hr0
    obtain ⟨e1, e2⟩ := lnk (b := b) hr0 ha
    rw [cvA_ge h0 hi]
    rw [hv ha] at hW
    rw [e1, e2] at hlk
    refine va_get (C := r0.1) (T := r0.2.1) (N := r0.2.2) hx hb hts hin hown hWD.2.2.1.1 hP (o.toNat - KX) (by rw [wsO_get hi hq, entE_o ha]) hr0 b (by omega) hlk (fun x hx => ?_) (fds_at hb2) hd hW
    rw [hdc b (by omega)] at hx; exact hx
  · subst ha
    have hi : o.toNat < KX := x_low hw hq (Or.inr (Or.inl rfl))
    rcases x_at hw hi hq with ⟨-, g⟩ | ⟨-, g⟩ | ⟨_, -, -, g⟩ | ⟨j, hj, hj2, g⟩ | ⟨_, -, -, g⟩
    · cases g
    · cases g
    · cases g
    · cases g
      have ho : o = ((5 + 2 * j : Nat) : Int) := by omega
      have e : cvA P o = .ref (P.2.1 (5 + 2 * j)) := by
        rw [cvA_pos (by omega) (by omega)]; simp [ad, hj2, show 5 + 2 * j < KX by show _ < 29; omega]
      rw [e]
      have hS6 := hWD.2.2.1.2.2.2.2.2.1
      have hv2 := hv2 rfl
      have hc0 : hp.2 o.toNat b = xCt xs o.toNat b := hw.2.2.1 _ _ hi
      by_cases hb0 : b = 0
      · subst hb0
        rw [if_pos rfl, hc0, hj2, xCt_S0] at hv2
        have e3 : v = .ref (P.2.1 (6 + 2 * j)) := by
          rw [hv2, cvA_pos (by omega) (by omega), Int.toNat_natCast]; simp [ad, show 6 + 2 * j < KX by show _ < 29; omega]
        rw [e3] at hW
        exact vk_getf hx hb (hS6.1 j hj).2.2.1 hS hown hlk (fun _ h => h) hd hW
      · have hb1 : b = 1 := by omega
        subst hb1
        rw [if_neg (by omega)] at hv2
        rw [hv2] at hW
        exact vk_getf hx hb (hS6.1 j hj).2.1 hS hown hlk (fun _ h => h) hd hW
    · cases g
/-- a field written -/
theorem sim_put (C : CX p R s m args meth c P y L d n0 z0 xs r) {pc a b cc x n : Nat} {z o vz : Int} {hp : HP} {q : List Value} {H : Heap} {locs : List Loc} {lsr : Array Slot} {cells slots : Nat} (hc : cdAt y pc = some (13, a, b, cc, x, z)) (h0 : 0 ≤ o) (hq : hp.1[o.toNat]? = some (a, n)) (hb2 : b < n) (hw : wfH L xs hp)
    (hP : va_P P.2.2.2.1 vwCl (wsO P hp) H) (hS : va_S (RG P) s.heap H locs) {v : Value} (hv : v = cvK P (kd a b) vz) (hfit : ∀ ty, kTy (kd a b) ty = true → narrow ty v = v ∧ fits ty v = true)
    (hW : ∀ H1 locs1, va_P P.2.2.2.1 vwCl (wsO P (hp.1, u2 hp.2 o.toNat b vz)) H1 → va_S (RG P) s.heap H1 locs1 → W p l e R s m args below meth c H1 locs1 cells slots Q (F0 m (mOff y (pc + 1)) lsr q)) : W p l e R s m args below meth c H locs cells slots Q (F0 m (mOff y pc) lsr (v :: cvA P o :: q)) := by
  obtain ⟨hx, hb, hml, hown, hts, hWD, hsz, hn0, hmn, hfr, hlo, hce, hsl⟩ := C
  obtain ⟨hd, hok, hwd, hof⟩ := at_ok hc (by simp)
  have hd : decode (mByt y) (mOff y pc) = .ok (.putfield x, 3) := hd
  have hof : mOff y (pc + 1) = mOff y pc + 3 := hof
  obtain ⟨w, hw1, hw2⟩ := hwd rfl
  have hw2 : some (Jvm.Cond.fieldLink (mName y).cls x (ownN a) (fldN a b).1 (fldN a b).2) = some w := hw2
  cases hw2
  have hlk := hts _ (List.mem_filter.mpr ⟨hw1, rfl⟩)
  simp only [okR, Bool.and_eq_true, decide_eq_true_eq] at hok
  obtain ⟨⟨⟨ha, hkd⟩, hz⟩, hok2⟩ := hok
  have hi : KX ≤ o.toNat := x_tag hw hq (by simp; omega) (by simp; omega) (by simp; omega) (by simp; omega)
  obtain ⟨⟨r0, hr0, hn⟩, -⟩ := okC_o ha (hw.2.2.2 _ _ hi hq)
  obtain ⟨-, hin, ⟨ty, hty, hkt⟩, hnm, hdc⟩ := clsOK a r0 hr0
  obtain ⟨e1, e2⟩ := lnk (b := b) hr0 ha
  have hbN : b < r0.2.2 := by omega
  obtain ⟨hnr, hft⟩ := hfit (ty b) (hkt b hbN)
  rw [cvA_ge h0 hi]
  rw [e1, e2] at hlk
  rw [hr0] at hok2
  simp only [Bool.and_eq_true, decide_eq_true_eq, Bool.or_eq_true, beq_iff_eq] at hok2
  have hsame : ∀ x, s.fieldFound? (r0.2.1 b).1 (r0.2.1 b).2.1 (r0.2.1 b).2.2.1 = some x → s.fieldFound? r0.1 (r0.2.1 b).2.1 (r0.2.1 b).2.2.1 = some x := fun x hx => by rw [hdc b hbN] at hx; exact hx
  have he : (wsO P hp)[o.toNat - KX]? = some (ad P o.toNat, .inr (a, fds P hp.2 o.toNat a n)) := by rw [wsO_get hi hq, entE_o ha]
  have key : ∀ (H1 : Heap) (locs1 : List Loc), va_P P.2.2.2.1 vwCl ((wsO P hp).set (o.toNat - KX) (ad P o.toNat, .inr (a, (fds P hp.2 o.toNat a n).set b v))) H1 → va_D (RG P) ((wsO P hp).set (o.toNat - KX) (ad P o.toNat, .inr (a, (fds P hp.2 o.toNat a n).set b v))) → va_S (RG P) s.heap H1 locs1 → W p l e R s m args below meth c H1 locs1 cells slots Q (F0 m (mOff y pc + 3) lsr q) := by
    intro H1 locs1 g1 _ g3
    rw [hv, fds_set vz hb2] at g1
    have g1 : va_P P.2.2.2.1 vwCl (wsO P (hp.1, u2 hp.2 o.toNat b vz)) H1 := by
      rw [← wsO_u2 hi hq, entE_o ha]; exact g1
    rw [← hof]
    exact hW H1 locs1 g1 g3
  by_cases hf : z = 0
  · subst hf
    exact va_put (C := r0.1) (T := r0.2.1) (N := r0.2.2) (ty := ty b) hx hb hts hin ty hty hnm hown hWD.2.2.1.1 hP (wsO_D P hp) hS (o.toNat - KX) he hr0 b hbN hlk hsame (by rw [hok2.1.1]; rfl) (hty b hbN) hnr hft (by rw [fds_len]; exact hb2) hd key
  · have hz1 : z = 1 := hz.resolve_left hf
    subst hz1
    have hini := hok2.2.resolve_left (by decide)
    exact va_putF (C := r0.1) (T := r0.2.1) (N := r0.2.2) (ty := ty b) hx hb hts hin ty hty hnm hown hWD.2.2.1.1 hP (wsO_D P hp) hS (o.toNat - KX) he hr0 b hbN hlk hsame (by rw [hok2.1.1]; rfl) (hmn.elim (fun h => by rw [h]; exact hini.1) (fun h => absurd (h ▸ hini.1) (by decide +kernel))) (by rw [hdc b hbN]; exact hini.2.symm) (hty b hbN) hnr hft (by rw [fds_len]; exact hb2) hd key

end SIM
end
section
/-! the simulation, fourth part: fields and arrays -/
theorem s50 {L i n : Nat} {xs : Nat → Int32} {hp : HP} (hw : wfH L xs hp) (h : hp.1[i]? = some (50, n)) : n = 2 ∧ hp.2 i 1 = 0 := by
  have hi : i < KX := x_low hw h (Or.inr (Or.inl rfl))
  rcases x_at hw hi h with ⟨-, g⟩ | ⟨-, g⟩ | ⟨_, -, -, g⟩ | ⟨j, hj, hj2, g⟩ | ⟨_, -, -, g⟩
  · cases g
  · cases g
  · cases g
  · cases g; exact ⟨rfl, by rw [hw.2.2.1 _ _ hi, hj2, xCt_S1]⟩
  · cases g
def g50 (ri : RI) : Bool := !(ri.1 == 12 && ri.2.1 == 50) || (ri.2.2.1 == 0 && ri.2.2.2.1 == 2) || (ri.2.2.1 == 1 && ri.2.2.2.1 == 0)
set_option maxRecDepth 100000 in
theorem g50_ok : codeT.all (fun l => l.all g50) = true := by decide +kernel
theorem at50 {y pc b cc x : Nat} {z : Int} (h : cdAt y pc = some (12, 50, b, cc, x, z)) : (b = 0 ∧ cc = 2) ∨ (b = 1 ∧ cc = 0) := by
  have h1 := cd_mem h
  cases hl : codeT[y]? with
  | none => rw [hl] at h1; cases h1
  | some l =>
    rw [hl] at h1
    have h2 := List.all_eq_true.mp (List.all_eq_true.mp g50_ok l (List.mem_of_getElem? hl)) _ h1
    simpa [g50] using h2
theorem okC_t {t n : Nat} {f : Nat → Int} (ho : okC (t, n) f) : (t = 100 → ∀ k, k < n → inI (f k)) ∧ (t = 101 → ∀ k, k < n → inL (f k)) ∧ (t = 102 → ∀ k, k < n → f k = 0 ∨ f k = 1) ∧ (t = 103 ∨ t = 104 → ∀ k, k < n → f k ≠ 0) := by
  rcases ho.2 with h | h | h | h | h
  · refine ⟨fun g => ?_, fun g => ?_, fun g => ?_, fun g => ?_⟩ <;> (have := h.1; simp only at this; omega)
  · refine ⟨fun _ => h.2, fun g => ?_, fun g => ?_, fun g => ?_⟩ <;> (have := h.1; simp only at this; omega)
  · refine ⟨fun g => ?_, fun _ => h.2, fun g => ?_, fun g => ?_⟩ <;> (have := h.1; simp only at this; omega)
  · refine ⟨fun g => ?_, fun g => ?_, fun _ => h.2, fun g => ?_⟩ <;> (have := h.1; simp only at this; omega)
  · refine ⟨fun g => ?_, fun g => ?_, fun g => ?_, fun _ => h.2⟩ <;> (have := h.1; simp only at this; omega)
theorem okC_tags {t n : Nat} {f : Nat → Int} (ho : okC (t, n) f) : t < 13 ∨ t = 100 ∨ t = 101 ∨ t = 102 ∨ t = 103 ∨ t = 104 := by
  rcases ho.2 with h | h | h | h | h
  · exact Or.inl h.1
  · exact Or.inr (Or.inl h.1)
  · exact Or.inr (Or.inr (Or.inl h.1))
  · exact Or.inr (Or.inr (Or.inr (Or.inl h.1)))
  · have := h.1; simp only at this; omega
theorem entE_100 (P : PB) (c : Nat → Nat → Int) (i n : Nat) : entE P c i (100, n) = .inl (P.2.2.2.2 0, n, .inl fun k => Int32.ofInt (c i k)) := by simp [entE]
theorem entE_101 (P : PB) (c : Nat → Nat → Int) (i n : Nat) : entE P c i (101, n) = .inl (P.2.2.2.2 1, n, .inr (.inl fun k => Int64.ofInt (c i k))) := by simp [entE]
theorem entE_102 (P : PB) (c : Nat → Nat → Int) (i n : Nat) : entE P c i (102, n) = .inl (P.2.2.2.2 2, n, .inl fun k => Int32.ofInt (c i k)) := by simp [entE]
theorem entE_103 (P : PB) (c : Nat → Nat → Int) (i n : Nat) : entE P c i (103, n) = .inl (P.2.2.2.2 3, n, .inr (.inr (.inr (.inr fun k => rfo P (c i k))))) := by simp [entE]
theorem entE_104 (P : PB) (c : Nat → Nat → Int) (i n : Nat) : entE P c i (104, n) = .inl (P.2.2.2.2 4, n, .inr (.inr (.inr (.inr fun k => rfo P (c i k))))) := by simp [entE]
theorem rfo_cv {P : PB} {z : Int} (h : z ≠ 0) : va_rf (rfo P z) = cvA P z := by
  unfold rfo cvA
  by_cases h1 : z < 0
  · rw [if_pos h1, if_pos h1]; rfl
  · rw [if_neg h1, if_neg h1, if_neg h]; rfl
theorem bytL_at : ∀ j, j < 12 → bytL.getD j [] = (byts (stS j)).map Int32.ofInt := by
  intro j hj
  have h12 : strT.length = 12 := rfl
  have hs : strT[j]? = some strT[j] := List.getElem?_eq_getElem (by omega)
  unfold bytL stS
  rw [List.getD_eq_getElem?_getD, List.getElem?_map, hs]
  rfl
theorem map_getD (l : List Int) (k : Nat) : (l.map Int32.ofInt).getD k 0 = Int32.ofInt (l.getD k 0) := by
  rw [List.getD_eq_getElem?_getD, List.getD_eq_getElem?_getD, List.getElem?_map]
  cases l[k]? <;> rfl
theorem fit_i {ty : FieldType} {x : Int32} (h : kTy 0 ty = true) : narrow ty (.int x) = .int x ∧ fits ty (.int x) = true := by
  cases ty <;> simp [kTy] at h
  exact ⟨rfl, rfl⟩
theorem fit_z {ty : FieldType} {v : Int} (h : kTy 3 ty = true) (hv : v = 0 ∨ v = 1) : narrow ty (.int (Int32.ofInt v)) = .int (Int32.ofInt v) ∧ fits ty (.int (Int32.ofInt v)) = true := by
  cases ty <;> simp [kTy] at h
  rcases hv with rfl | rfl <;> exact ⟨by decide, by decide⟩
theorem fit_l {ty : FieldType} {x : Int64} (h : kTy 1 ty = true) : narrow ty (.long x) = .long x ∧ fits ty (.long x) = true := by
  cases ty <;> simp [kTy] at h
  exact ⟨rfl, rfl⟩
theorem fit_a {P : PB} (hq : P.2.2.1 = .null ∨ ∃ t, P.2.2.1 = .ref t) {ty : FieldType} {z : Int} (h : kTy 2 ty = true) : narrow ty (cvA P z) = cvA P z ∧ fits ty (cvA P z) = true := by
  rcases cvA_two hq z with e | ⟨t, e⟩ <;> rw [e] <;> cases ty <;> simp [kTy, isO] at h <;> exact ⟨rfl, rfl⟩
section SIM
variable {p : Program} {l : Launch} {e : Env} {R : Room} {s : State} {m : MethodId} {args : Array Value} {below : List Frame} {meth : Method} {c : Code} {Q : State → Prop} {P : PB} {y L d n0 z0 : Nat} {xs : Nat → Int32} {r : RT}

theorem kd_4 (a b : Nat) : kd a b = 0 ∨ kd a b = 1 ∨ kd a b = 2 ∨ kd a b = 3 := by
  unfold kd
  split
  · exact Or.inr (Or.inr (Or.inl rfl))
  · have h : ∀ l ∈ knds, ∀ q ∈ l, q = 0 ∨ q = 1 ∨ q = 2 ∨ q = 3 := by decide +kernel
    cases hl : knds[a]? with
    | none => simp
    | some l =>
      rw [Option.getD_some, List.getD_eq_getElem?_getD]
      cases hq : l[b]? with
      | none => simp
      | some q => exact h l (List.mem_of_getElem? hl) q (List.mem_of_getElem? hq)
theorem okC_put {t n i k : Nat} {v : Int} {c : Nat → Nat → Int} (ht : t < 13) (ho : okC (t, n) (c i)) (hv : wfK (kd t k) v) : okC (t, n) (u2 c i k v i) := by
  refine ⟨ho.1, Or.inl ⟨ht, (okC_o ht ho).1, fun j hj => ?_⟩⟩
  by_cases h : j = k
  · subst h; simp only [u2, and_self, if_true]; exact hv
  · simp only [u2, h, and_false, if_false]; exact (okC_o ht ho).2 j hj
set_option maxHeartbeats 4000000 in
theorem sim2 (C : CX p R s m args meth c P y L d n0 z0 xs r) {pc : Nat} {ri : RI} {ls : LVs} {st : List AV} {hp : HP} {k : KT} (hc : cdAt y pc = some ri) (h : sK2 (Cd d) ri pc ls st hp k = some r) (hk : ∀ pc' ls' st' hp', k pc' ls' st' hp' = some r → KJ p l e R s m args below meth c Q P y L n0 z0 xs r pc' ls' st' hp') : KJ p l e R s m args below meth c Q P y L n0 z0 xs r pc ls st hp := by
  have C0 := C
  obtain ⟨hx, hb, hml, hown, hts, hWD, hsz, hn0, hmn, hfr, hlo, hce, hsl⟩ := C
  have hq := hWD.2.2.2
  have hKK := hWD.2.2.1.1
  unfold sK2 at h
  split at h
  · rename_i a b x z
    obtain ⟨hd, hok, hwd, hof⟩ := at_ok hc (by simp)
    simp only [okR, Bool.and_eq_true, decide_eq_true_eq] at hok
    obtain ⟨o, q, rfl, h9⟩ := e1A_inv h
    obtain ⟨v, hg, h9⟩ := bnd_inv h9
    obtain ⟨h0, n, hqn, hbn, rfl⟩ := gF_inv hg
    intro hI
    have hw := hI.2.2.2.1
    have hkd : 1 = kd a b := by rcases hok.2 with g | ⟨-, ⟨-, g⟩ | ⟨-, g⟩⟩ <;> first | exact g | cases g
    have ha : a < 13 := by
      rcases hok.1 with g | g
      · exact g
      · subst g; rcases at50 hc with ⟨-, g⟩ | ⟨-, g⟩ <;> cases g
    have hi : KX ≤ o.toNat := x_tag hw hqn (by simp; omega) (by simp; omega) (by simp; omega) (by simp; omega)
    have hwf := (okC_o ha (hw.2.2.2 _ _ hi hqn)).2 b hbn
    rw [← hkd] at hwf
    obtain ⟨hR, hW⟩ := hk _ _ _ _ h9 ⟨hI.1, hI.2.1, wf_cons (show inL _ from hwf) (wf_tail hI.2.2.1), hI.2.2.2⟩
    exact ⟨hR, fun H locs lsr hL hP hS => sim_get C0 hc h0 hqn hbn hw hP hS (fun _ => by rw [← hkd]; rfl) (fun g => by omega) (hW H locs lsr hL hP hS)⟩
  · rename_i a b x z
    obtain ⟨hd, hok, hwd, hof⟩ := at_ok hc (by simp)
    simp only [okR, Bool.and_eq_true, decide_eq_true_eq] at hok
    obtain ⟨o, q, rfl, h9⟩ := e1A_inv h
    obtain ⟨v, hg, h9⟩ := bnd_inv h9
    obtain ⟨h0, n, hqn, hbn, rfl⟩ := gF_inv hg
    intro hI
    have hw := hI.2.2.2.1
    obtain ⟨hR, hW⟩ := hk _ _ _ _ h9 ⟨hI.1, hI.2.1, wf_cons trivial (wf_tail hI.2.2.1), hI.2.2.2⟩
    refine ⟨hR, fun H locs lsr hL hP hS => sim_get C0 hc h0 hqn hbn hw hP hS (fun ha => ?_) (fun ha => ?_) (hW H locs lsr hL hP hS)⟩
    · have hkd : 2 = kd a b := by
        rcases hok.2 with g | ⟨g, -⟩
        · exact g
        · omega
      rw [← hkd]; rfl
    · have hb0 : b = 0 := by
        subst ha
        rcases at50 hc with ⟨g, -⟩ | ⟨-, g⟩
        · exact g
        · cases g
      rw [if_pos hb0]; rfl
  · rename_i a b cc x z g1 g2
    obtain ⟨hd, hok, hwd, hof⟩ := at_ok hc (by simp)
    simp only [okR, Bool.and_eq_true, decide_eq_true_eq] at hok
    obtain ⟨o, q, rfl, h9⟩ := e1A_inv h
    obtain ⟨v, hg, h9⟩ := bnd_inv h9
    obtain ⟨h0, n, hqn, hbn, rfl⟩ := gF_inv hg
    intro hI
    have hw := hI.2.2.2.1
    have hcc1 : cc ≠ 1 := g1
    have hcc2 : cc ≠ 2 := g2
    have hkd : a < 13 → cc = kd a b := fun ha => by
      rcases hok.2 with g | ⟨g, -⟩
      · exact g
      · omega
    have hwf : inI (hp.2 o.toNat b) := by
      rcases hok.1 with ha | ha
      · have hi : KX ≤ o.toNat := x_tag hw hqn (by simp; omega) (by simp; omega) (by simp; omega) (by simp; omega)
        have hwf := (okC_o ha (hw.2.2.2 _ _ hi hqn)).2 b hbn
        rw [← hkd ha] at hwf
        exact wfK_i hcc1 hcc2 hwf
      · subst ha
        obtain ⟨e1, e2⟩ := s50 hw hqn
        have hb1 : b = 1 := by
          rcases at50 hc with ⟨-, g⟩ | ⟨g, -⟩
          · exact absurd g hcc2
          · exact g
        rw [hb1, e2]; exact inI_0
    obtain ⟨hR, hW⟩ := hk _ _ _ _ h9 ⟨hI.1, hI.2.1, wf_cons (show inI _ from hwf) (wf_tail hI.2.2.1), hI.2.2.2⟩
    refine ⟨hR, fun H locs lsr hL hP hS => sim_get C0 hc h0 hqn hbn hw hP hS (fun ha => ?_) (fun ha => ?_) (hW H locs lsr hL hP hS)⟩
    · rw [← hkd ha, cvK_i hcc1 hcc2]; rfl
    · subst ha
      obtain ⟨e1, e2⟩ := s50 hw hqn
      have hb1 : b = 1 := by
        rcases at50 hc with ⟨-, g⟩ | ⟨g, -⟩
        · exact absurd g hcc2
        · exact g
      rw [if_neg (by omega), hb1]
      show cv P (vI (hp.2 o.toNat 1)) = _
      rw [e2]; rfl
  · rename_i a b x z
    obtain ⟨hd, hok, hwd, hof⟩ := at_ok hc (by simp)
    simp only [okR, Bool.and_eq_true, decide_eq_true_eq] at hok
    obtain ⟨o, v, q, rfl, h9⟩ := eIA_inv h
    have hkd : 0 = kd a b := hok.1.1.2
    obtain ⟨h1, hg, h9⟩ := bnd_inv h9
    obtain ⟨h0, n, hqn, hbn, rfl⟩ := pF_inv hg
    intro hI
    have hw := hI.2.2.2.1
    have ha : a < 13 := hok.1.1.1
    have hi : KX ≤ o.toNat := x_tag hw hqn (by simp; omega) (by simp; omega) (by simp; omega) (by simp; omega)
    have hw2 : wfH L xs (hp.1, u2 hp.2 o.toNat b v) := wfH_set hw hi hqn (fun ho => okC_put ha ho (by rw [← hkd]; exact (show inI v from wf_head hI.2.2.1)))
    obtain ⟨hR, hW⟩ := hk _ _ _ _ h9 ⟨hI.1, hI.2.1, wf_tail (wf_tail hI.2.2.1), hw2, hI.2.2.2.2⟩
    exact ⟨hR, fun H locs lsr hL hP hS => sim_put (vz := v) C0 hc h0 hqn hbn hw hP hS (by rw [← hkd]; rfl) (fun ty hty => by rw [← hkd] at hty; exact fit_i hty) (fun H1 locs1 g1 g2 => hW H1 locs1 lsr hL g1 g2)⟩
  · rename_i a b x z
    obtain ⟨hd, hok, hwd, hof⟩ := at_ok hc (by simp)
    simp only [okR, Bool.and_eq_true, decide_eq_true_eq] at hok
    obtain ⟨o, v, q, rfl, h9⟩ := eLA_inv h
    have hkd : 1 = kd a b := hok.1.1.2
    obtain ⟨h1, hg, h9⟩ := bnd_inv h9
    obtain ⟨h0, n, hqn, hbn, rfl⟩ := pF_inv hg
    intro hI
    have hw := hI.2.2.2.1
    have ha : a < 13 := hok.1.1.1
    have hi : KX ≤ o.toNat := x_tag hw hqn (by simp; omega) (by simp; omega) (by simp; omega) (by simp; omega)
    have hw2 : wfH L xs (hp.1, u2 hp.2 o.toNat b v) := wfH_set hw hi hqn (fun ho => okC_put ha ho (by rw [← hkd]; exact (show inL v from wf_head hI.2.2.1)))
    obtain ⟨hR, hW⟩ := hk _ _ _ _ h9 ⟨hI.1, hI.2.1, wf_tail (wf_tail hI.2.2.1), hw2, hI.2.2.2.2⟩
    exact ⟨hR, fun H locs lsr hL hP hS => sim_put (vz := v) C0 hc h0 hqn hbn hw hP hS (by rw [← hkd]; rfl) (fun ty hty => by rw [← hkd] at hty; exact fit_l hty) (fun H1 locs1 g1 g2 => hW H1 locs1 lsr hL g1 g2)⟩
  · rename_i a b x z
    obtain ⟨hd, hok, hwd, hof⟩ := at_ok hc (by simp)
    simp only [okR, Bool.and_eq_true, decide_eq_true_eq] at hok
    obtain ⟨o, v, q, rfl, h9⟩ := eAA_inv h
    have hkd : 2 = kd a b := hok.1.1.2
    obtain ⟨h1, hg, h9⟩ := bnd_inv h9
    obtain ⟨h0, n, hqn, hbn, rfl⟩ := pF_inv hg
    intro hI
    have hw := hI.2.2.2.1
    have ha : a < 13 := hok.1.1.1
    have hi : KX ≤ o.toNat := x_tag hw hqn (by simp; omega) (by simp; omega) (by simp; omega) (by simp; omega)
    have hw2 : wfH L xs (hp.1, u2 hp.2 o.toNat b v) := wfH_set hw hi hqn (fun ho => okC_put ha ho (by rw [← hkd]; exact trivial))
    obtain ⟨hR, hW⟩ := hk _ _ _ _ h9 ⟨hI.1, hI.2.1, wf_tail (wf_tail hI.2.2.1), hw2, hI.2.2.2.2⟩
    exact ⟨hR, fun H locs lsr hL hP hS => sim_put (vz := v) C0 hc h0 hqn hbn hw hP hS (by rw [← hkd]; rfl) (fun ty hty => by rw [← hkd] at hty; exact fit_a hq hty) (fun H1 locs1 g1 g2 => hW H1 locs1 lsr hL g1 g2)⟩
  · rename_i a b cc x z g0 g1 g2
    obtain ⟨hd, hok, hwd, hof⟩ := at_ok hc (by simp)
    simp only [okR, Bool.and_eq_true, decide_eq_true_eq] at hok
    obtain ⟨o, v, q, rfl, h9⟩ := eIA_inv h
    have hkd : 3 = kd a b := by
      have hk4 := hok.1.1.2
      have k0 : cc ≠ 0 := g0
      have k1 : cc ≠ 1 := g1
      have k2 : cc ≠ 2 := g2
      have : kd a b = 0 ∨ kd a b = 1 ∨ kd a b = 2 ∨ kd a b = 3 := kd_4 a b
      omega
    by_cases hv01 : v = 0 ∨ v = 1
    · rw [if_pos hv01] at h9
      obtain ⟨h1, hg, h9⟩ := bnd_inv h9
      obtain ⟨h0, n, hqn, hbn, rfl⟩ := pF_inv hg
      intro hI
      have hw := hI.2.2.2.1
      have ha : a < 13 := hok.1.1.1
      have hi : KX ≤ o.toNat := x_tag hw hqn (by simp; omega) (by simp; omega) (by simp; omega) (by simp; omega)
      have hw2 : wfH L xs (hp.1, u2 hp.2 o.toNat b v) := wfH_set hw hi hqn (fun ho => okC_put ha ho (by rw [← hkd]; exact (show inI v from wf_head hI.2.2.1)))
      obtain ⟨hR, hW⟩ := hk _ _ _ _ h9 ⟨hI.1, hI.2.1, wf_tail (wf_tail hI.2.2.1), hw2, hI.2.2.2.2⟩
      exact ⟨hR, fun H locs lsr hL hP hS => sim_put (vz := v) C0 hc h0 hqn hbn hw hP hS (by rw [← hkd]; rfl) (fun ty hty => by rw [← hkd] at hty; exact fit_z hty hv01) (fun H1 locs1 g1 g2 => hW H1 locs1 lsr hL g1 g2)⟩
    · rw [if_neg hv01] at h9; cases h9
  · intro _; cases h

end SIM
end
section
/-! the simulation, fifth part: arrays -/
theorem okC_arr {t n i k : Nat} {v : Int} {c : Nat → Nat → Int} (ho : okC (t, n) (c i)) (h0 : ¬ t < 13) (h1 : t = 100 → inI v) (h2 : t = 101 → inL v) (h3 : t = 102 → v = 0 ∨ v = 1) (h4 : t = 103 ∨ t = 104 → v ≠ 0) : okC (t, n) (u2 c i k v i) := by
  refine ⟨ho.1, ?_⟩
  have key : ∀ (p : Int → Prop), (∀ j, j < n → p (c i j)) → p v → ∀ j, j < n → p (u2 c i k v i j) := by
    intro p hp hv j hj
    by_cases h : j = k
    · subst h; simp only [u2, and_self, if_true]; exact hv
    · simp only [u2, h, and_false, if_false]; exact hp j hj
  rcases ho.2 with h | h | h | h | h
  · exact absurd h.1 h0
  · exact Or.inr (Or.inl ⟨h.1, key inI h.2 (h1 h.1)⟩)
  · exact Or.inr (Or.inr (Or.inl ⟨h.1, key inL h.2 (h2 h.1)⟩))
  · exact Or.inr (Or.inr (Or.inr (Or.inl ⟨h.1, key (fun v => v = 0 ∨ v = 1) h.2 (h3 h.1)⟩)))
  · exact Or.inr (Or.inr (Or.inr (Or.inr ⟨h.1, key (fun v => v ≠ 0) h.2 (h4 h.1)⟩)))
theorem no111 {L i n : Nat} {xs : Nat → Int32} {hp : HP} (hw : wfH L xs hp) (h : hp.1[i]? = some (111, n)) : False := by
  have hi := x_tag hw h (by simp) (by simp) (by simp) (by simp)
  have := okC_tags (hw.2.2.2 _ _ hi h)
  omega
theorem u2_fun32 {c : Nat → Nat → Int} {i k : Nat} {v : Int} : (fun j => Int32.ofInt (u2 c i k v i j)) = upd (fun j => Int32.ofInt (c i j)) k (Int32.ofInt v) := by
  funext j
  by_cases h : j = k
  · subst h; simp [u2, upd]
  · simp [u2, upd, h]
theorem u2_fun64 {c : Nat → Nat → Int} {i k : Nat} {v : Int} : (fun j => Int64.ofInt (u2 c i k v i j)) = vp_updL (fun j => Int64.ofInt (c i j)) k (Int64.ofInt v) := by
  funext j
  by_cases h : j = k
  · subst h; simp [u2, vp_updL]
  · simp [u2, vp_updL, h]
theorem u2_funR {P : PB} {c : Nat → Nat → Int} {i k : Nat} {v : Int} (hv : 0 ≤ v) : (fun j => rfo P (u2 c i k v i j)) = va_up (fun j => rfo P (c i j)) k (some (ad P v.toNat)) := by
  funext j
  by_cases h : j = k
  · subst h; simp [u2, va_up, rfo, show ¬ v < 0 by omega]
  · simp [u2, va_up, h]
theorem nar_z {v : Int} (hv : v = 0 ∨ v = 1) : vp_nar .boolean (Int32.ofInt v) = Int32.ofInt v := by
  rcases hv with rfl | rfl <;> decide
section SIM
variable {p : Program} {l : Launch} {e : Env} {R : Room} {s : State} {m : MethodId} {args : Array Value} {below : List Frame} {meth : Method} {c : Code} {Q : State → Prop} {P : PB} {y L d n0 z0 : Nat} {xs : Nat → Int32} {r : RT}

theorem stA_len : ∀ j, j < 3 → (stA j).2.length ≤ 100 := by decide +kernel
theorem lens_le : ∀ j, j < 12 → lens.getD j 0 ≤ 100 := by decide +kernel
set_option maxHeartbeats 4000000 in
theorem sim3 (C : CX p R s m args meth c P y L d n0 z0 xs r) {pc : Nat} {ri : RI} {ls : LVs} {st : List AV} {hp : HP} {k : KT} (hc : cdAt y pc = some ri) (h : sK3 (Cd d) ri pc ls st hp k = some r) (hk : ∀ pc' ls' st' hp', k pc' ls' st' hp' = some r → KJ p l e R s m args below meth c Q P y L n0 z0 xs r pc' ls' st' hp') : KJ p l e R s m args below meth c Q P y L n0 z0 xs r pc ls st hp := by
  have C0 := C
  obtain ⟨hx, hb, hml, hown, hts, hWD, hsz, hn0, hmn, hfr, hlo, hce, hsl⟩ := C
  have hq := hWD.2.2.2
  have hKK := hWD.2.2.1.1
  unfold sK3 at h
  split at h
  · rename_i a b cc x z
    obtain ⟨hd, hok, hwd, hof⟩ := at_ok hc (by simp)
    have hd : decode (mByt y) (mOff y pc) = .ok (.iaload, 1) := hd
    have hof : mOff y (pc + 1) = mOff y pc + 1 := hof
    intro hI
    have hw := hI.2.2.2.1
    obtain ⟨o, i, q, rfl, h9⟩ := eIA_inv h
    obtain ⟨v, hg, h9⟩ := bnd_inv h9
    have wi : inI i := wf_head hI.2.2.1
    obtain ⟨h0, t, n, hqn, ht, hi0, hin, rfl⟩ := gA_inv hg
    have hvin : vp_in (Int32.ofInt i) n := vp_i wi hi0 hin
    have hk2 : i.toNat < n := by omega
    rcases ht with ht | ht
    · have ht : t = 100 := by omega
      subst ht
      have hi : KX ≤ o.toNat := x_tag hw hqn (by simp) (by simp) (by simp) (by simp)
      have hwf := (okC_t (hw.2.2.2 _ _ hi hqn)).1 rfl i.toNat hk2
      obtain ⟨hR, hW⟩ := hk _ _ _ _ h9 ⟨hI.1, hI.2.1, wf_cons (show inI _ from hwf) (wf_tail (wf_tail hI.2.2.1)), hI.2.2.2⟩
      refine ⟨hR, fun H locs lsr hL hP hS => ?_⟩
      have hW := hW H locs lsr hL hP hS
      rw [List.map_cons, List.map_cons, show cv P (vA o) = cvA P o from rfl, cvA_ge h0 hi]
      refine va_iald hx hb hKK hP (o.toNat - KX) 0 (by rw [wsO_get hi hqn, entE_100]) rfl hvin hd ?_
      exact W.eq (F0_eq hof.symm (by rw [i_nat wi hi0]; rfl)) hW
    · have ht : t = 110 := by omega
      subst ht
      have hi : o.toNat < KX := x_low hw hqn (Or.inl rfl)
      have hct := hw.2.2.1 o.toNat i.toNat hi
      rcases x_at hw hi hqn with ⟨-, g⟩ | ⟨hj, g⟩ | ⟨j, hj, hj2, g⟩ | ⟨_, -, -, g⟩ | ⟨_, -, -, g⟩
      · cases g
      · cases g
        rw [hj, xCt_1] at hct
        obtain ⟨hR, hW⟩ := hk _ _ _ _ h9 ⟨hI.1, hI.2.1, wf_cons (show inI _ by rw [hj, hct]; exact inI_t _) (wf_tail (wf_tail hI.2.2.1)), hI.2.2.2⟩
        refine ⟨hR, fun H locs lsr hL hP hS => ?_⟩
        have hW := hW H locs lsr hL hP hS
        rw [List.map_cons, List.map_cons, show cv P (vA o) = cvA P o from rfl, cvA_pos (by omega) (by omega), hj, show ad P 1 = P.2.1 1 from rfl]
        refine va_ti (v := .int (xs i.toNat)) hx hb hWD.2.2.1.2.1 hS hvin (by rw [i_nat wi hi0]) hd ?_
        exact W.eq (F0_eq hof.symm (by rw [List.map_cons]; simp only [cv]; rw [hj, hct, Int32.ofInt_toInt])) hW
      · cases g
        rw [hj2, xCt_A xs hj] at hct
        obtain ⟨hR, hW⟩ := hk _ _ _ _ h9 ⟨hI.1, hI.2.1, wf_cons (show inI _ by rw [hj2, hct]; exact inI_getD (stA_in j hj) _) (wf_tail (wf_tail hI.2.2.1)), hI.2.2.2⟩
        refine ⟨hR, fun H locs lsr hL hP hS => ?_⟩
        have hW := hW H locs lsr hL hP hS
        rw [List.map_cons, List.map_cons, show cv P (vA o) = cvA P o from rfl, cvA_pos (by omega) (by omega), hj2, show ad P (2 + j) = P.2.1 (2 + j) by simp [ad, show 2 + j < KX by show _ < 29; omega]]
        refine va_ti (v := .int (Int32.ofInt ((stA j).2.getD i.toNat 0))) hx hb (hWD.2.2.1.2.2.1 j hj).1 hS hvin (by rw [i_nat wi hi0]) hd ?_
        exact W.eq (F0_eq hof.symm (by rw [List.map_cons]; simp only [cv]; rw [hj2, hct])) hW
      · cases g
      · cases g
  · rename_i a b cc x z
    obtain ⟨hd, hok, hwd, hof⟩ := at_ok hc (by simp)
    have hd : decode (mByt y) (mOff y pc) = .ok (.laload, 1) := hd
    have hof : mOff y (pc + 1) = mOff y pc + 1 := hof
    intro hI
    have hw := hI.2.2.2.1
    obtain ⟨o, i, q, rfl, h9⟩ := eIA_inv h
    obtain ⟨v, hg, h9⟩ := bnd_inv h9
    have wi : inI i := wf_head hI.2.2.1
    obtain ⟨h0, t, n, hqn, ht, hi0, hin, rfl⟩ := gA_inv hg
    have hvin : vp_in (Int32.ofInt i) n := vp_i wi hi0 hin
    have hk2 : i.toNat < n := by omega
    rcases ht with ht | ht
    · have ht : t = 101 := by omega
      subst ht
      have hi : KX ≤ o.toNat := x_tag hw hqn (by simp) (by simp) (by simp) (by simp)
      have hwf := (okC_t (hw.2.2.2 _ _ hi hqn)).2.1 rfl i.toNat hk2
      obtain ⟨hR, hW⟩ := hk _ _ _ _ h9 ⟨hI.1, hI.2.1, wf_cons (show inL _ from hwf) (wf_tail (wf_tail hI.2.2.1)), hI.2.2.2⟩
      refine ⟨hR, fun H locs lsr hL hP hS => ?_⟩
      have hW := hW H locs lsr hL hP hS
      rw [List.map_cons, List.map_cons, show cv P (vA o) = cvA P o from rfl, cvA_ge h0 hi]
      refine va_lald hx hb hKK hP (o.toNat - KX) 1 (by rw [wsO_get hi hqn, entE_101]) rfl hvin hd ?_
      exact W.eq (F0_eq hof.symm (by rw [i_nat wi hi0]; rfl)) hW
    · have ht : t = 111 := by omega
      subst ht
      exact (no111 hw hqn).elim
  · rename_i a b cc x z
    obtain ⟨hd, hok, hwd, hof⟩ := at_ok hc (by simp)
    have hd : decode (mByt y) (mOff y pc) = .ok (.baload, 1) := hd
    have hof : mOff y (pc + 1) = mOff y pc + 1 := hof
    intro hI
    have hw := hI.2.2.2.1
    obtain ⟨o, i, q, rfl, h9⟩ := eIA_inv h
    obtain ⟨v, hg, h9⟩ := bnd_inv h9
    have wi : inI i := wf_head hI.2.2.1
    obtain ⟨h0, t, n, hqn, ht, hi0, hin, rfl⟩ := gA_inv hg
    have hvin : vp_in (Int32.ofInt i) n := vp_i wi hi0 hin
    have hk2 : i.toNat < n := by omega
    rcases ht with ht | ht
    · have ht : t = 102 := by omega
      subst ht
      have hi : KX ≤ o.toNat := x_tag hw hqn (by simp) (by simp) (by simp) (by simp)
      have hwf := (okC_t (hw.2.2.2 _ _ hi hqn)).2.2.1 rfl i.toNat hk2
      have hwf : inI (hp.2 o.toNat i.toNat) := by rcases hwf with g | g <;> rw [g] <;> exact ⟨by decide, by decide⟩
      obtain ⟨hR, hW⟩ := hk _ _ _ _ h9 ⟨hI.1, hI.2.1, wf_cons (show inI _ from hwf) (wf_tail (wf_tail hI.2.2.1)), hI.2.2.2⟩
      refine ⟨hR, fun H locs lsr hL hP hS => ?_⟩
      have hW := hW H locs lsr hL hP hS
      rw [List.map_cons, List.map_cons, show cv P (vA o) = cvA P o from rfl, cvA_ge h0 hi]
      refine va_zald hx hb hKK hP (o.toNat - KX) 2 (by rw [wsO_get hi hqn, entE_102]) rfl hvin hd ?_
      exact W.eq (F0_eq hof.symm (by rw [i_nat wi hi0]; rfl)) hW
    · have ht : t = 112 := by omega
      subst ht
      have hi : o.toNat < KX := x_low hw hqn (Or.inr (Or.inr rfl))
      have hct := hw.2.2.1 o.toNat i.toNat hi
      rcases x_at hw hi hqn with ⟨-, g⟩ | ⟨-, g⟩ | ⟨_, -, -, g⟩ | ⟨_, -, -, g⟩ | ⟨j, hj, hj2, g⟩
      · cases g
      · cases g
      · cases g
      · cases g
      · cases g
        rw [hj2, xCt_V] at hct
        obtain ⟨hR, hW⟩ := hk _ _ _ _ h9 ⟨hI.1, hI.2.1, wf_cons (show inI _ by rw [hj2, hct]; exact inI_getD (stS_in j hj) _) (wf_tail (wf_tail hI.2.2.1)), hI.2.2.2⟩
        refine ⟨hR, fun H locs lsr hL hP hS => ?_⟩
        have hW := hW H locs lsr hL hP hS
        rw [List.map_cons, List.map_cons, show cv P (vA o) = cvA P o from rfl, cvA_pos (by omega) (by omega), hj2, show ad P (6 + 2 * j) = P.2.1 (6 + 2 * j) by simp [ad, show 6 + 2 * j < KX by show _ < 29; omega]]
        refine va_tb (v := .int (Int32.ofInt ((byts (stS j)).getD i.toNat 0))) hx hb (hWD.2.2.1.2.2.2.2.2.1.1 j hj).2.2.2 hS hvin (by rw [i_nat wi hi0, bytL_at j hj, map_getD]) hd ?_
        exact W.eq (F0_eq hof.symm (by rw [List.map_cons]; simp only [cv]; rw [hj2, hct])) hW
  · rename_i a b cc x z
    obtain ⟨hd, hok, hwd, hof⟩ := at_ok hc (by simp)
    have hd : decode (mByt y) (mOff y pc) = .ok (.aaload, 1) := hd
    have hof : mOff y (pc + 1) = mOff y pc + 1 := hof
    intro hI
    have hw := hI.2.2.2.1
    obtain ⟨o, i, q, rfl, h9⟩ := eIA_inv h
    obtain ⟨v, hg, h9⟩ := bnd_inv h9
    have wi : inI i := wf_head hI.2.2.1
    obtain ⟨h0, t, n, hqn, ht, hi0, hin, rfl⟩ := gR_inv hg
    have hvin : vp_in (Int32.ofInt i) n := vp_i wi hi0 hin
    have hk2 : i.toNat < n := by omega
    have hi : KX ≤ o.toNat := x_tag hw hqn (by simp; omega) (by simp; omega) (by simp; omega) (by simp; omega)
    have hne := (okC_t (hw.2.2.2 _ _ hi hqn)).2.2.2 ht i.toNat hk2
    obtain ⟨hR, hW⟩ := hk _ _ _ _ h9 ⟨hI.1, hI.2.1, wf_cons trivial (wf_tail (wf_tail hI.2.2.1)), hI.2.2.2⟩
    refine ⟨hR, fun H locs lsr hL hP hS => ?_⟩
    have hW := hW H locs lsr hL hP hS
    rw [List.map_cons, List.map_cons, show cv P (vA o) = cvA P o from rfl, cvA_ge h0 hi]
    rcases ht with rfl | rfl
    · refine va_aldq hx hb hKK hP (o.toNat - KX) 3 (by rw [wsO_get hi hqn, entE_103]) rfl hvin hd ?_
      exact W.eq (F0_eq hof.symm (by rw [i_nat wi hi0, rfo_cv hne]; rfl)) hW
    · refine va_aldq hx hb hKK hP (o.toNat - KX) 4 (by rw [wsO_get hi hqn, entE_104]) rfl hvin hd ?_
      exact W.eq (F0_eq hof.symm (by rw [i_nat wi hi0, rfo_cv hne]; rfl)) hW
  · rename_i a b cc x z
    obtain ⟨hd, hok, hwd, hof⟩ := at_ok hc (by simp)
    have hd : decode (mByt y) (mOff y pc) = .ok (.iastore, 1) := hd
    have hof : mOff y (pc + 1) = mOff y pc + 1 := hof
    intro hI
    have hw := hI.2.2.2.1
    obtain ⟨o, i, v, q, rfl, h9⟩ := eIIA_inv h
    have wi : inI i := wf_head (wf_tail hI.2.2.1)
    obtain ⟨h2, hg, h9⟩ := bnd_inv h9
    obtain ⟨h0, n, hqn, hi0, hin, rfl⟩ := pA_inv hg
    have hqn : hp.1[o.toNat]? = some (100, n) := hqn
    have hvin : vp_in (Int32.ofInt i) n := vp_i wi hi0 hin
    have hi : KX ≤ o.toNat := x_tag hw hqn (by simp) (by simp) (by simp) (by simp)
    have hw2 : wfH L xs (hp.1, u2 hp.2 o.toNat i.toNat v) := wfH_set hw hi hqn (fun ho => okC_arr ho (by decide) (fun _ => wf_head hI.2.2.1) (fun g => by omega) (fun g => by omega) (fun g => by omega))
    obtain ⟨hR, hW⟩ := hk _ _ _ _ h9 ⟨hI.1, hI.2.1, wf_tail (wf_tail (wf_tail hI.2.2.1)), hw2, hI.2.2.2.2⟩
    refine ⟨hR, fun H locs lsr hL hP hS => ?_⟩
    rw [List.map_cons, List.map_cons, List.map_cons, show cv P (vA o) = cvA P o from rfl, cvA_ge h0 hi]
    refine va_iast hx hb hKK hP (wsO_D P hp) hS (o.toNat - KX) 0 (by rw [wsO_get hi hqn, entE_100]) rfl hvin hd (fun H1 locs1 g1 _ g3 => ?_)
    rw [i_nat wi hi0, ← u2_fun32, ← entE_100, wsO_u2 hi hqn] at g1
    exact W.eq (F0_eq hof.symm rfl) (hW H1 locs1 lsr hL g1 g3)
  · rename_i a b cc x z
    obtain ⟨hd, hok, hwd, hof⟩ := at_ok hc (by simp)
    have hd : decode (mByt y) (mOff y pc) = .ok (.lastore, 1) := hd
    have hof : mOff y (pc + 1) = mOff y pc + 1 := hof
    intro hI
    have hw := hI.2.2.2.1
    obtain ⟨o, i, v, q, rfl, h9⟩ := eLIA_inv h
    have wi : inI i := wf_head (wf_tail hI.2.2.1)
    obtain ⟨h2, hg, h9⟩ := bnd_inv h9
    obtain ⟨h0, n, hqn, hi0, hin, rfl⟩ := pA_inv hg
    have hqn : hp.1[o.toNat]? = some (101, n) := hqn
    have hvin : vp_in (Int32.ofInt i) n := vp_i wi hi0 hin
    have hi : KX ≤ o.toNat := x_tag hw hqn (by simp) (by simp) (by simp) (by simp)
    have hw2 : wfH L xs (hp.1, u2 hp.2 o.toNat i.toNat v) := wfH_set hw hi hqn (fun ho => okC_arr ho (by decide) (fun g => by omega) (fun _ => wf_head hI.2.2.1) (fun g => by omega) (fun g => by omega))
    obtain ⟨hR, hW⟩ := hk _ _ _ _ h9 ⟨hI.1, hI.2.1, wf_tail (wf_tail (wf_tail hI.2.2.1)), hw2, hI.2.2.2.2⟩
    refine ⟨hR, fun H locs lsr hL hP hS => ?_⟩
    rw [List.map_cons, List.map_cons, List.map_cons, show cv P (vA o) = cvA P o from rfl, cvA_ge h0 hi]
    refine va_last hx hb hKK hP (wsO_D P hp) hS (o.toNat - KX) 1 (by rw [wsO_get hi hqn, entE_101]) rfl hvin hd (fun H1 locs1 g1 _ g3 => ?_)
    rw [i_nat wi hi0, ← u2_fun64, ← entE_101, wsO_u2 hi hqn] at g1
    exact W.eq (F0_eq hof.symm rfl) (hW H1 locs1 lsr hL g1 g3)
  · rename_i a b cc x z
    obtain ⟨hd, hok, hwd, hof⟩ := at_ok hc (by simp)
    have hd : decode (mByt y) (mOff y pc) = .ok (.bastore, 1) := hd
    have hof : mOff y (pc + 1) = mOff y pc + 1 := hof
    intro hI
    have hw := hI.2.2.2.1
    obtain ⟨o, i, v, q, rfl, h9⟩ := eIIA_inv h
    have wi : inI i := wf_head (wf_tail hI.2.2.1)
    by_cases hv01 : v = 0 ∨ v = 1
    case neg => rw [if_neg hv01] at h9; cases h9
    rw [if_pos hv01] at h9
    obtain ⟨h2, hg, h9⟩ := bnd_inv h9
    obtain ⟨h0, n, hqn, hi0, hin, rfl⟩ := pA_inv hg
    have hqn : hp.1[o.toNat]? = some (102, n) := hqn
    have hvin : vp_in (Int32.ofInt i) n := vp_i wi hi0 hin
    have hi : KX ≤ o.toNat := x_tag hw hqn (by simp) (by simp) (by simp) (by simp)
    have hw2 : wfH L xs (hp.1, u2 hp.2 o.toNat i.toNat v) := wfH_set hw hi hqn (fun ho => okC_arr ho (by decide) (fun g => by omega) (fun g => by omega) (fun _ => hv01) (fun g => by omega))
    obtain ⟨hR, hW⟩ := hk _ _ _ _ h9 ⟨hI.1, hI.2.1, wf_tail (wf_tail (wf_tail hI.2.2.1)), hw2, hI.2.2.2.2⟩
    refine ⟨hR, fun H locs lsr hL hP hS => ?_⟩
    rw [List.map_cons, List.map_cons, List.map_cons, show cv P (vA o) = cvA P o from rfl, cvA_ge h0 hi]
    refine va_zast hx hb hKK hP (wsO_D P hp) hS (o.toNat - KX) 2 (by rw [wsO_get hi hqn, entE_102]) rfl hvin hd (fun H1 locs1 g1 _ g3 => ?_)
    rw [i_nat wi hi0, nar_z hv01, ← u2_fun32, ← entE_102, wsO_u2 hi hqn] at g1
    exact W.eq (F0_eq hof.symm rfl) (hW H1 locs1 lsr hL g1 g3)
  · rename_i a b cc x z
    obtain ⟨hd, hok, hwd, hof⟩ := at_ok hc (by simp)
    have hd : decode (mByt y) (mOff y pc) = .ok (.aastore, 1) := hd
    have hof : mOff y (pc + 1) = mOff y pc + 1 := hof
    intro hI
    have hw := hI.2.2.2.1
    obtain ⟨o, i, v, q, rfl, h9⟩ := eAIA_inv h
    have wi : inI i := wf_head (wf_tail hI.2.2.1)
    obtain ⟨h2, hg, h9⟩ := bnd_inv h9
    obtain ⟨h0, hv0, t, n, t2, n2, hqn, hvn, htt, hi0, hin, rfl⟩ := pR_inv hg
    have hvin : vp_in (Int32.ofInt i) n := vp_i wi hi0 hin
    have hi : KX ≤ o.toNat := x_tag hw hqn (by simp; omega) (by simp; omega) (by simp; omega) (by simp; omega)
    have hi2 : KX ≤ v.toNat := x_tag hw hvn (by simp; omega) (by simp; omega) (by simp; omega) (by simp; omega)
    have hKX : KX = 29 := rfl
    have hw2 : wfH L xs (hp.1, u2 hp.2 o.toNat i.toNat v) := wfH_set hw hi hqn (fun ho => okC_arr ho (by omega) (fun g => by omega) (fun g => by omega) (fun g => by omega) (fun _ => by omega))
    obtain ⟨hR, hW⟩ := hk _ _ _ _ h9 ⟨hI.1, hI.2.1, wf_tail (wf_tail (wf_tail hI.2.2.1)), hw2, hI.2.2.2.2⟩
    refine ⟨hR, fun H locs lsr hL hP hS => ?_⟩
    rw [List.map_cons, List.map_cons, List.map_cons, show cv P (vA o) = cvA P o from rfl, show cv P (vA v) = cvA P v from rfl, cvA_ge h0 hi, cvA_ge hv0 hi2]
    rcases htt with ⟨rfl, rfl⟩ | ⟨rfl, rfl⟩
    · refine va_astq (r := (RX1, TX1, 10)) hx hb hKK hP (wsO_D P hp) hS (o.toNat - KX) 3 (v.toNat - KX) 1 (by rw [wsO_get hi hqn, entE_103]) rfl (by rw [wsO_get hi2 hvn, entE_o (by decide)]) rfl hvin hd (fun H1 locs1 g1 _ g3 => ?_)
      rw [i_nat wi hi0, ← u2_funR hv0, ← entE_103, wsO_u2 hi hqn] at g1
      exact W.eq (F0_eq hof.symm rfl) (hW H1 locs1 lsr hL g1 g3)
    · refine va_astq (r := (RX8, TX8, 4)) hx hb hKK hP (wsO_D P hp) hS (o.toNat - KX) 4 (v.toNat - KX) 8 (by rw [wsO_get hi hqn, entE_104]) rfl (by rw [wsO_get hi2 hvn, entE_o (by decide)]) rfl hvin hd (fun H1 locs1 g1 _ g3 => ?_)
      rw [i_nat wi hi0, ← u2_funR hv0, ← entE_104, wsO_u2 hi hqn] at g1
      exact W.eq (F0_eq hof.symm rfl) (hW H1 locs1 lsr hL g1 g3)
  · rename_i a b cc x z
    obtain ⟨hd, hok, hwd, hof⟩ := at_ok hc (by simp)
    have hd : decode (mByt y) (mOff y pc) = .ok (.arraylength, 1) := hd
    have hof : mOff y (pc + 1) = mOff y pc + 1 := hof
    intro hI
    have hw := hI.2.2.2.1
    obtain ⟨o, q, rfl, h9⟩ := e1A_inv h
    obtain ⟨v, hg, h9⟩ := bnd_inv h9
    obtain ⟨h0, t, n, hqn, ht, rfl⟩ := gL_inv hg
    by_cases hi : KX ≤ o.toNat
    · have ho := hw.2.2.2 _ _ hi hqn
      have hn : n ≤ 100000 := ho.1
      obtain ⟨hR, hW⟩ := hk _ _ _ _ h9 ⟨hI.1, hI.2.1, wf_cons (show inI (n : Int) from ⟨by omega, by omega⟩) (wf_tail hI.2.2.1), hI.2.2.2⟩
      refine ⟨hR, fun H locs lsr hL hP hS => ?_⟩
      have hW := hW H locs lsr hL hP hS
      rw [List.map_cons, show cv P (vA o) = cvA P o from rfl, cvA_ge h0 hi]
      rcases okC_tags ho with g | rfl | rfl | rfl | rfl | rfl
      · omega
      · exact va_alen hx hb hKK hP (o.toNat - KX) 0 (by rw [wsO_get hi hqn, entE_100]) rfl (i_ofNat n) hd (W.eq (F0_eq hof.symm rfl) hW)
      · exact va_alen hx hb hKK hP (o.toNat - KX) 1 (by rw [wsO_get hi hqn, entE_101]) rfl (i_ofNat n) hd (W.eq (F0_eq hof.symm rfl) hW)
      · exact va_alen hx hb hKK hP (o.toNat - KX) 2 (by rw [wsO_get hi hqn, entE_102]) rfl (i_ofNat n) hd (W.eq (F0_eq hof.symm rfl) hW)
      · exact va_alen hx hb hKK hP (o.toNat - KX) 3 (by rw [wsO_get hi hqn, entE_103]) rfl (i_ofNat n) hd (W.eq (F0_eq hof.symm rfl) hW)
      · exact va_alen hx hb hKK hP (o.toNat - KX) 4 (by rw [wsO_get hi hqn, entE_104]) rfl (i_ofNat n) hd (W.eq (F0_eq hof.symm rfl) hW)
    · have hi : o.toNat < KX := by omega
      rcases x_at hw hi hqn with ⟨-, g⟩ | ⟨hj, g⟩ | ⟨j, hj, hj2, g⟩ | ⟨_, -, -, g⟩ | ⟨j, hj, hj2, g⟩
      · cases g; omega
      · cases g
        have hn : L ≤ 3072 := hw.1.2
        obtain ⟨hR, hW⟩ := hk _ _ _ _ h9 ⟨hI.1, hI.2.1, wf_cons (show inI (L : Int) from ⟨by omega, by omega⟩) (wf_tail hI.2.2.1), hI.2.2.2⟩
        refine ⟨hR, fun H locs lsr hL hP hS => ?_⟩
        have hW := hW H locs lsr hL hP hS
        rw [List.map_cons, show cv P (vA o) = cvA P o from rfl, cvA_pos (by omega) (by omega), hj, show ad P 1 = P.2.1 1 from rfl]
        exact va_tlen hx hb hWD.2.2.1.2.1 hS (i_ofNat L) hd (W.eq (F0_eq hof.symm rfl) hW)
      · cases g
        have hn : (stA j).2.length ≤ 100 := by have := stA_len j hj; omega
        obtain ⟨hR, hW⟩ := hk _ _ _ _ h9 ⟨hI.1, hI.2.1, wf_cons (show inI (((stA j).2.length : Nat) : Int) from ⟨by omega, by omega⟩) (wf_tail hI.2.2.1), hI.2.2.2⟩
        refine ⟨hR, fun H locs lsr hL hP hS => ?_⟩
        have hW := hW H locs lsr hL hP hS
        rw [List.map_cons, show cv P (vA o) = cvA P o from rfl, cvA_pos (by omega) (by omega), hj2, show ad P (2 + j) = P.2.1 (2 + j) by simp [ad, show 2 + j < KX by show _ < 29; omega]]
        exact va_tlen hx hb (hWD.2.2.1.2.2.1 j hj).1 hS (i_ofNat _) hd (W.eq (F0_eq hof.symm rfl) hW)
      · cases g; omega
      · cases g
        have hn : lens.getD j 0 ≤ 100 := by have := lens_le j hj; omega
        obtain ⟨hR, hW⟩ := hk _ _ _ _ h9 ⟨hI.1, hI.2.1, wf_cons (show inI ((lens.getD j 0 : Nat) : Int) from ⟨by omega, by omega⟩) (wf_tail hI.2.2.1), hI.2.2.2⟩
        refine ⟨hR, fun H locs lsr hL hP hS => ?_⟩
        have hW := hW H locs lsr hL hP hS
        rw [List.map_cons, show cv P (vA o) = cvA P o from rfl, cvA_pos (by omega) (by omega), hj2, show ad P (6 + 2 * j) = P.2.1 (6 + 2 * j) by simp [ad, show 6 + 2 * j < KX by show _ < 29; omega]]
        exact va_tlen hx hb (hWD.2.2.1.2.2.2.2.2.1.1 j hj).2.2.2 hS (i_ofNat _) hd (W.eq (F0_eq hof.symm rfl) hW)
  · intro _; cases h

end SIM
end
section
/-! the simulation, sixth part: new cells, statics, texts, arraycopy -/
theorem W_sized {p : Program} {l : Launch} {e : Env} {R : Room} {s : State} {m : MethodId} {args : Array Value} {below : List Frame} {meth : Method} {c : Code} {H : Heap} {locs : List Loc} {cells slots : Nat} {Q : State → Prop} {g : JFrame} (h : H.size ≤ s.heap.size + cells → W p l e R s m args below meth c H locs cells slots Q g) : W p l e R s m args below meth c H locs cells slots Q g :=
  fun T hT X => h (by rw [← hT]; exact X.heapSize) T hT X
theorem new_addr {P : PB} {hp : HP} {q : Nat} {E : va_E} {H1 : Heap} (hK : KX ≤ hp.1.length) (hP1 : va_P P.2.2.2.1 vwCl (wsO P hp ++ [(q, E)]) H1) (hD1 : va_D (RG P) (wsO P hp ++ [(q, E)])) (hsz : H1.size ≤ P.1 + (hp.1.length - KX) + 1) : q = P.1 + (hp.1.length - KX) := by
  have hl := wsO_len P hp
  have hat : (wsO P hp ++ [(q, E)])[hp.1.length - KX]? = some (q, E) := by
    rw [List.getElem?_append_right (by omega), hl, Nat.sub_self]; rfl
  have h1 : q < H1.size := (hP1 _ _ hat).lt
  have h2 : P.1 ≤ q := hD1.2 _ _ hat
  by_cases h3 : q = P.1 + (hp.1.length - KX)
  · exact h3
  · exfalso
    have hj : KX + (q - P.1) < hp.1.length := by omega
    have hat2 : (wsO P hp ++ [(q, E)])[q - P.1]? = some (P.1 + (q - P.1), entE P hp.2 (KX + (q - P.1)) hp.1[KX + (q - P.1)]) := by
      rw [List.getElem?_append_left (by omega), wsO_at, List.getElem?_eq_getElem hj]; rfl
    have := hD1.1 _ _ _ _ hat2 hat (by show P.1 + (q - P.1) = q; omega)
    omega
theorem sl_app (S : List (Nat × Nat)) (t n : Nat) : sl (S ++ [(t, n)]) = sl S + n := by simp [sl]
theorem Gr_len {h h' : HP} (g : Gr h h') : h.1.length ≤ h'.1.length ∧ sl h.1 ≤ sl h'.1 := by
  obtain ⟨e, he⟩ := g
  rw [he]
  constructor
  · simp
  · simp [sl]
theorem wfH_mk {L t n : Nat} {xs : Nat → Int32} {hp : HP} (hw : wfH L xs hp) (ho : okC (t, n) (dfl t)) : wfH L xs (mk hp t n) := by
  have hK : KX ≤ hp.1.length := hw.1.1
  refine ⟨⟨by show KX ≤ (hp.1 ++ [(t, n)]).length; simp; omega, hw.1.2⟩, ?_, fun i k hi => ?_, fun i q hi hq => ?_⟩
  · show (hp.1 ++ [(t, n)]).take KX = _
    rw [List.take_append_of_le_length hK]; exact hw.2.1
  · show (if i = hp.1.length then dfl t k else hp.2 i k) = _
    rw [if_neg (by omega)]; exact hw.2.2.1 i k hi
  · have hq : (hp.1 ++ [(t, n)])[i]? = some q := hq
    by_cases hl : i < hp.1.length
    · rw [List.getElem?_append_left hl] at hq
      have e : (mk hp t n).2 i = hp.2 i := by funext k; show (if i = hp.1.length then dfl t k else hp.2 i k) = _; rw [if_neg (by omega)]
      rw [e]; exact hw.2.2.2 i q hi hq
    · have hi2 : i = hp.1.length := by
        have := (List.getElem?_eq_some_iff.mp hq).1
        simp at this; omega
      subst hi2
      rw [List.getElem?_append_right (Nat.le_refl _), Nat.sub_self] at hq
      cases hq
      have e : (mk hp t n).2 hp.1.length = dfl t := by funext k; show (if hp.1.length = hp.1.length then dfl t k else _) = _; rw [if_pos rfl]
      rw [e]; exact ho
theorem wsO_upd {P : PB} {hp : HP} {o : Nat} {c' : Nat → Nat → Int} {q : Nat × Nat} (ho : KX ≤ o) (hq : hp.1[o]? = some q) (hc : ∀ i, i ≠ o → ∀ k, c' i k = hp.2 i k) : (wsO P hp).set (o - KX) (ad P o, entE P c' o q) = wsO P (hp.1, c') := by
  apply List.ext_getElem?
  intro j
  have hl : o - KX < (wsO P hp).length := (List.getElem?_eq_some_iff.mp (wsO_get ho hq)).1
  by_cases hj : j = o - KX
  · subst hj
    rw [List.getElem?_set_self hl, wsO_get (hp := (hp.1, c')) ho hq]
  · rw [List.getElem?_set_ne (Ne.symm hj), wsO_at, wsO_at]
    cases hp.1[KX + j]? with
    | none => rfl
    | some a =>
      simp only [Option.map_some]
      have e : ∀ k, c' (KX + j) k = hp.2 (KX + j) k := hc (KX + j) (by omega)
      simp only [entE, fds, e]
theorem acp_inv {hp h' : HP} {so sp d dp n : Int} (h : acp hp so sp d dp n = some h') : 0 ≤ so ∧ 0 ≤ d ∧ ∃ n0 n1, hp.1[so.toNat]? = some (100, n0) ∧ hp.1[d.toNat]? = some (100, n1) ∧ 0 ≤ sp ∧ 0 ≤ dp ∧ 0 ≤ n ∧ sp + n ≤ (n0 : Int) ∧ dp + n ≤ (n1 : Int) ∧ h' = (hp.1, cpy hp.2 so.toNat sp.toNat d.toNat dp.toNat n.toNat) := by
  obtain ⟨q, h1, h2⟩ := bnd_inv h
  obtain ⟨q2, h5, h6⟩ := bnd_inv h2
  obtain ⟨h3, h4⟩ := gS_inv h1
  obtain ⟨h7, h8⟩ := gS_inv h5
  split at h6
  · rename_i g
    cases h6
    obtain ⟨a1, a2⟩ := q; obtain ⟨b1, b2⟩ := q2
    obtain ⟨g1, g2, g3⟩ := g
    simp only at g1 g2
    subst g1; subst g2
    exact ⟨h3, h7, a2, b2, h4, h8, g3.1, g3.2.1, g3.2.2.1, g3.2.2.2.1, g3.2.2.2.2, rfl⟩
  · cases h6
theorem gw_of {w : Jvm.Cond} {i : Nat} (h : lw_tbl[i]? = some w) (hg : goodWord w = true) : w ∈ gW := List.mem_filter.mpr ⟨List.mem_of_getElem? h, hg⟩
theorem gw_d {w : Jvm.Cond} (h : w ∈ lw_tbl) (hg : goodWord w = true) : w ∈ gW := List.mem_filter.mpr ⟨h, hg⟩
theorem w_ai : Jvm.Cond.arrayClass .int ∈ gW := gw_d (by decide +kernel) rfl
theorem w_al : Jvm.Cond.arrayClass .long ∈ gW := gw_d (by decide +kernel) rfl
theorem w_az : Jvm.Cond.arrayClass .boolean ∈ gW := gw_d (by decide +kernel) rfl
theorem w_nat : Jvm.Cond.native arraycopyName ∈ gW := gw_d (by decide +kernel) rfl
theorem w_sta : Jvm.Cond.static arraycopyName ∈ gW := gw_d (by decide +kernel) rfl
theorem w_sys : Jvm.Cond.initialized "java/lang/System" ∈ gW := gw_d (by decide +kernel) rfl
theorem w_oin : Jvm.Cond.instanceMethod objectInit ∈ gW := gw_d (by decide +kernel) rfl
theorem w_oco : Jvm.Cond.code objectInit ⟨#[0xb1]⟩ 1 none ∈ gW := gw_d (by decide +kernel) rfl

theorem clsNew : ∀ (a : Nat) (q : vw_C), vwCl[a]? = some q → Jvm.Cond.instantiable q.1 q.2.2 ∈ gW ∧ Jvm.Cond.initialized q.1 ∈ gW ∧ q.2.2 ≤ 100
  | 0, q, h => by cases h; exact ⟨gw_d (by decide +kernel) rfl, gw_d (by decide +kernel) rfl, by decide⟩
  | 1, q, h => by cases h; exact ⟨gw_d (by decide +kernel) rfl, gw_d (by decide +kernel) rfl, by decide⟩
  | 2, q, h => by cases h; exact ⟨gw_d (by decide +kernel) rfl, gw_d (by decide +kernel) rfl, by decide⟩
  | 3, q, h => by cases h; exact ⟨gw_d (by decide +kernel) rfl, gw_d (by decide +kernel) rfl, by decide⟩
  | 4, q, h => by cases h; exact ⟨gw_d (by decide +kernel) rfl, gw_d (by decide +kernel) rfl, by decide⟩
  | 5, q, h => by cases h; exact ⟨gw_d (by decide +kernel) rfl, gw_d (by decide +kernel) rfl, by decide⟩
  | 6, q, h => by cases h; exact ⟨gw_d (by decide +kernel) rfl, gw_d (by decide +kernel) rfl, by decide⟩
  | 7, q, h => by cases h; exact ⟨gw_d (by decide +kernel) rfl, gw_d (by decide +kernel) rfl, by decide⟩
  | 8, q, h => by cases h; exact ⟨gw_d (by decide +kernel) rfl, gw_d (by decide +kernel) rfl, by decide⟩
  | 9, q, h => by cases h; exact ⟨gw_d (by decide +kernel) rfl, gw_d (by decide +kernel) rfl, by decide⟩
  | 10, q, h => by cases h; exact ⟨gw_d (by decide +kernel) rfl, gw_d (by decide +kernel) rfl, by decide⟩
  | 11, q, h => by cases h; exact ⟨gw_d (by decide +kernel) rfl, gw_d (by decide +kernel) rfl, by decide⟩
  | 12, q, h => by cases h; exact ⟨gw_d (by decide +kernel) rfl, gw_d (by decide +kernel) rfl, by decide⟩
  | n + 13, q, h => by simp [vwCl] at h

theorem dfl_wf (t k : Nat) : wfK (kd t k) (dfl t k) := by
  unfold dfl
  rcases kd_4 t k with h | h | h | h <;> rw [h]
  · exact inI_0
  · exact inL_0
  · exact trivial
  · exact inI_0
theorem dfl_val {P : PB} {t k : Nat} {ty : FieldType} (h : kTy (kd t k) ty = true) : defaultValue ty = cvK P (kd t k) (dfl t k) := by
  unfold dfl
  rcases kd_4 t k with g | g | g | g <;> rw [g] at h ⊢ <;> cases ty <;> simp [kTy, isO] at h <;> rfl
theorem dfl_0 {t : Nat} (h : t = 100 ∨ t = 101 ∨ t = 102) (k : Nat) : dfl t k = 0 := by
  rcases h with rfl | rfl | rfl <;> rfl
theorem dfl_r {t : Nat} (h : t = 103 ∨ t = 104) (k : Nat) : dfl t k = -1 := by
  rcases h with rfl | rfl <;> rfl
theorem mk_at (hp : HP) (t n k : Nat) : (mk hp t n).2 hp.1.length k = dfl t k := by
  show (if hp.1.length = hp.1.length then dfl t k else _) = _; rw [if_pos rfl]
theorem wid_eq {P : PB} (hq : P.2.2.1 = .null ∨ ∃ t, P.2.2.1 = .ref t) : ∀ (st : List AV), ((st.map (cv P)).map fun v => v.category).sum = wid st
  | [] => rfl
  | .inl z :: r => by have := wid_eq hq r; simp only [List.map_cons, List.sum_cons, wid, cat_I]; omega
  | .inr (.inl z) :: r => by have := wid_eq hq r; simp only [List.map_cons, List.sum_cons, wid]; show 2 + _ = _; omega
  | .inr (.inr z) :: r => by
    have := wid_eq hq r
    have h1 : (cv P (.inr (.inr z))).category = 1 := cat_A hq z
    simp only [List.map_cons, List.sum_cons, wid, h1]; omega
section SIM
variable {p : Program} {l : Launch} {e : Env} {R : Room} {s : State} {m : MethodId} {args : Array Value} {below : List Frame} {meth : Method} {c : Code} {Q : State → Prop} {P : PB} {y L d n0 z0 : Nat} {xs : Nat → Int32} {r : RT}

set_option maxHeartbeats 4000000 in
theorem sim14 (C : CX p R s m args meth c P y L d n0 z0 xs r) {pc : Nat} {ri : RI} {ls : LVs} {st : List AV} {hp : HP} {k : KT} (hc : cdAt y pc = some ri) (hgk : ∀ pc' ls' st' hp', k pc' ls' st' hp' = some r → Gr hp' r.2) (h : sK14 (Cd d) ri pc ls st hp k = some r) (hk : ∀ pc' ls' st' hp', k pc' ls' st' hp' = some r → KJ p l e R s m args below meth c Q P y L n0 z0 xs r pc' ls' st' hp') : KJ p l e R s m args below meth c Q P y L n0 z0 xs r pc ls st hp := by
  obtain ⟨hx, hb, hml, hown, hts, hWD, hsz, hn0, hmn, hfr, hlo, hce, hsl⟩ := C
  have hq := hWD.2.2.2
  have hKK := hWD.2.2.1.1
  have hKX : KX = 29 := rfl
  unfold sK14 at h
  split at h
  · rename_i a b cc x z
    obtain ⟨hd, hok, hwd, hof⟩ := at_ok hc (by simp)
    have hd : decode (mByt y) (mOff y pc) = .ok (.new x, 3) := hd
    have hof : mOff y (pc + 1) = mOff y pc + 3 := hof
    intro hI
    have hw := hI.2.2.2.1
    obtain ⟨w, hw1, hw2⟩ := hwd rfl
    have hw2 : some (Jvm.Cond.classLink (mName y).cls x (clsN a)) = some w := hw2
    cases hw2
    have hlk := hts _ (List.mem_filter.mpr ⟨hw1, rfl⟩)
    have hok : (match vwCl[a]? with | some q => decide (b = q.2.2) | none => false) = true := hok
    cases hr0 : vwCl[a]? with
    | none => rw [hr0] at hok; cases hok
    | some r0 =>
    rw [hr0] at hok
    have hbN : b = r0.2.2 := of_decide_eq_true hok
    subst hbN
    obtain ⟨ha, hin, ⟨ty, hty, hkt⟩, hnm, hdc⟩ := clsOK a r0 hr0
    obtain ⟨n1, n2, n3⟩ := clsNew a r0 hr0
    rw [show clsN a = r0.1 by simp only [clsN, hr0]] at hlk
    have h9 := h
    have hgl := Gr_len (hgk _ _ _ _ h9)
    have hm1 : (mk hp a r0.2.2).1.length = hp.1.length + 1 := by show (hp.1 ++ [(a, r0.2.2)]).length = _; simp
    have hm2 : sl (mk hp a r0.2.2).1 = sl hp.1 + r0.2.2 := sl_app _ _ _
    rw [hm1, hm2] at hgl
    have hg1 := hI.2.2.2.2.1
    have hg2 := hI.2.2.2.2.2
    obtain ⟨hR, hW⟩ := hk _ _ _ _ h9 ⟨hI.1, hI.2.1, wf_cons trivial hI.2.2.1, wfH_mk hw ⟨by show r0.2.2 ≤ 100000; omega, Or.inl ⟨ha, ⟨r0, hr0, rfl⟩, fun k _ => dfl_wf a k⟩⟩, by omega, by omega⟩
    refine ⟨hR, fun H locs lsr hL hP hS => ?_⟩
    refine va_new (C := r0.1) (T := r0.2.1) (N := r0.2.2) (fs := fds P (mk hp a r0.2.2).2 hp.1.length a r0.2.2) hx hb hts hin ty hty hown hlk (hts _ n1) (hts _ n2) hKK hP (wsO_D P hp) hS (fun q hq2 => by show P.1 ≤ q; rw [hsz] at hq2; omega) hr0 (fun j hj => ?_) (by omega) (by omega) hd (fun q H1 g1 g2 g3 => ?_)
    · rw [dfl_val (P := P) (hkt j hj)]
      simp only [vp_V, List.getD_eq_getElem?_getD, fds_at hj, Option.getD_some, mk_at]
    · skip
      refine W_sized fun hz => ?_
      have hqa := new_addr hw.1.1 g1 g2 (by rw [hsz] at hz; omega)
      subst hqa
      have hW := hW H1 locs lsr hL (by rw [← wsO_mk a r0.2.2 hw.1.1]; exact (by rw [entE_o ha]; exact g1)) g3
      rw [hm1, hm2] at hW
      refine W.eq (F0_eq hof.symm ?_) (W.cs (by omega) (by omega) hW)
      rw [List.map_cons, show cv P (vA (hp.1.length : Int)) = cvA P (hp.1.length : Int) from rfl, cvA_ge (by omega) (by rw [Int.toNat_natCast]; exact hw.1.1), Int.toNat_natCast, ad, if_neg (by have := hw.1.1; omega)]
  · rename_i a b cc x z
    obtain ⟨hd, hok, hwd, hof⟩ := at_ok hc (by simp)
    have hok : decide (a = 100 ∨ a = 101 ∨ a = 102) = true := hok
    have hok := of_decide_eq_true hok
    intro hI
    have hw := hI.2.2.2.1
    obtain ⟨nz, q, rfl, h9⟩ := e1I_inv h
    by_cases hnz : 0 ≤ nz ∧ nz ≤ 100000
    case neg => rw [if_neg hnz] at h9; cases h9
    rw [if_pos hnz] at h9
    have wi : inI nz := wf_head hI.2.2.1
    have hoC : okC (a, nz.toNat) (dfl a) := by
      refine ⟨by show nz.toNat ≤ 100000; omega, ?_⟩
      rcases hok with rfl | rfl | rfl
      · exact Or.inr (Or.inl ⟨rfl, fun k _ => inI_0⟩)
      · exact Or.inr (Or.inr (Or.inl ⟨rfl, fun k _ => inL_0⟩))
      · exact Or.inr (Or.inr (Or.inr (Or.inl ⟨rfl, fun k _ => Or.inl rfl⟩)))
    have hgl := Gr_len (hgk _ _ _ _ h9)
    have hm1 : (mk hp a nz.toNat).1.length = hp.1.length + 1 := by show (hp.1 ++ [(a, nz.toNat)]).length = _; simp
    have hm2 : sl (mk hp a nz.toNat).1 = sl hp.1 + nz.toNat := sl_app _ _ _
    rw [hm1, hm2] at hgl
    have hg1 := hI.2.2.2.2.1
    have hg2 := hI.2.2.2.2.2
    obtain ⟨hR, hW⟩ := hk _ _ _ _ h9 ⟨hI.1, hI.2.1, wf_cons trivial (wf_tail hI.2.2.1), wfH_mk hw hoC, by omega, by omega⟩
    refine ⟨hR, fun H locs lsr hL hP hS => ?_⟩
    have hn0' : ¬ Int32.ofInt nz < 0 := fun g => by have := (i_lt wi inI_0).mp g; omega
    have hA : ∀ q, s.heap.size ≤ q → RG P q := fun q hq2 => by show P.1 ≤ q; rw [hsz] at hq2; omega
    rcases hok with rfl | rfl | rfl
    · have hd : decode (mByt y) (mOff y pc) = .ok (.newarray .int, 2) := hd
      have hof : mOff y (pc + 1) = mOff y pc + 2 := hof
      refine va_newa (atype := .int) (ty := .int) (a0 := (nz.toNat, .inl fun _ => 0)) hx hb (hts _ w_ai) rfl hKK hP (wsO_D P hp) hS hA (fun _ => rfl) hn0' (i_nat wi hnz.1) (by show nz.toNat * _ ≤ _; simp [componentBytes]; omega) (by omega) (by omega) hd (fun q cA H1 g0 g1 g2 g3 => ?_)
      have hcA : cA = P.2.2.2.2 0 := Option.some.inj ((g0.2 5 _ rfl).2.symm.trans (hKK.2 0 _ rfl).2)
      subst hcA
      refine W_sized fun hz => ?_
      have hqa := new_addr hw.1.1 g1 g2 (by rw [hsz] at hz; omega)
      subst hqa
      have hW := hW H1 locs lsr hL (by rw [← wsO_mk 100 nz.toNat hw.1.1]; exact (by rw [entE_100, show (fun k => Int32.ofInt ((mk hp 100 nz.toNat).2 hp.1.length k)) = (fun _ => 0) from funext fun k => by rw [mk_at]; rfl]; exact g1)) g3
      rw [hm1, hm2] at hW
      refine W.eq (F0_eq hof.symm ?_) (W.cs (by omega) (by omega) hW)
      rw [List.map_cons, show cv P (vA (hp.1.length : Int)) = cvA P (hp.1.length : Int) from rfl, cvA_ge (by omega) (by rw [Int.toNat_natCast]; exact hw.1.1), Int.toNat_natCast, ad, if_neg (by have := hw.1.1; omega)]
    · have hd : decode (mByt y) (mOff y pc) = .ok (.newarray .long, 2) := hd
      have hof : mOff y (pc + 1) = mOff y pc + 2 := hof
      refine va_newa (atype := .long) (ty := .long) (a0 := (nz.toNat, .inr (.inl fun _ => 0))) hx hb (hts _ w_al) rfl hKK hP (wsO_D P hp) hS hA (fun _ => rfl) hn0' (i_nat wi hnz.1) (by show nz.toNat * _ ≤ _; simp [componentBytes]; omega) (by omega) (by omega) hd (fun q cA H1 g0 g1 g2 g3 => ?_)
      have hcA : cA = P.2.2.2.2 1 := Option.some.inj ((g0.2 5 _ rfl).2.symm.trans (hKK.2 1 _ rfl).2)
      subst hcA
      refine W_sized fun hz => ?_
      have hqa := new_addr hw.1.1 g1 g2 (by rw [hsz] at hz; omega)
      subst hqa
      have hW := hW H1 locs lsr hL (by rw [← wsO_mk 101 nz.toNat hw.1.1]; exact (by rw [entE_101, show (fun k => Int64.ofInt ((mk hp 101 nz.toNat).2 hp.1.length k)) = (fun _ => 0) from funext fun k => by rw [mk_at]; rfl]; exact g1)) g3
      rw [hm1, hm2] at hW
      refine W.eq (F0_eq hof.symm ?_) (W.cs (by omega) (by omega) hW)
      rw [List.map_cons, show cv P (vA (hp.1.length : Int)) = cvA P (hp.1.length : Int) from rfl, cvA_ge (by omega) (by rw [Int.toNat_natCast]; exact hw.1.1), Int.toNat_natCast, ad, if_neg (by have := hw.1.1; omega)]
    · have hd : decode (mByt y) (mOff y pc) = .ok (.newarray .boolean, 2) := hd
      have hof : mOff y (pc + 1) = mOff y pc + 2 := hof
      refine va_newa (atype := .boolean) (ty := .boolean) (a0 := (nz.toNat, .inl fun _ => 0)) hx hb (hts _ w_az) rfl hKK hP (wsO_D P hp) hS hA (fun _ => rfl) hn0' (i_nat wi hnz.1) (by show nz.toNat * _ ≤ _; simp [componentBytes]; omega) (by omega) (by omega) hd (fun q cA H1 g0 g1 g2 g3 => ?_)
      have hcA : cA = P.2.2.2.2 2 := Option.some.inj ((g0.2 5 _ rfl).2.symm.trans (hKK.2 2 _ rfl).2)
      subst hcA
      refine W_sized fun hz => ?_
      have hqa := new_addr hw.1.1 g1 g2 (by rw [hsz] at hz; omega)
      subst hqa
      have hW := hW H1 locs lsr hL (by rw [← wsO_mk 102 nz.toNat hw.1.1]; exact (by rw [entE_102, show (fun k => Int32.ofInt ((mk hp 102 nz.toNat).2 hp.1.length k)) = (fun _ => 0) from funext fun k => by rw [mk_at]; rfl]; exact g1)) g3
      rw [hm1, hm2] at hW
      refine W.eq (F0_eq hof.symm ?_) (W.cs (by omega) (by omega) hW)
      rw [List.map_cons, show cv P (vA (hp.1.length : Int)) = cvA P (hp.1.length : Int) from rfl, cvA_ge (by omega) (by rw [Int.toNat_natCast]; exact hw.1.1), Int.toNat_natCast, ad, if_neg (by have := hw.1.1; omega)]
  · rename_i a b cc x z
    obtain ⟨hd, hok, hwd, hof⟩ := at_ok hc (by simp)
    have hd : decode (mByt y) (mOff y pc) = .ok (.anewarray x, 3) := hd
    have hof : mOff y (pc + 1) = mOff y pc + 3 := hof
    have hok : decide (a = 103 ∨ a = 104) = true := hok
    have hok := of_decide_eq_true hok
    intro hI
    have hw := hI.2.2.2.1
    obtain ⟨nz, q, rfl, h9⟩ := e1I_inv h
    by_cases hnz : 0 ≤ nz ∧ nz ≤ 100000
    case neg => rw [if_neg hnz] at h9; cases h9
    rw [if_pos hnz] at h9
    have wi : inI nz := wf_head hI.2.2.1
    obtain ⟨w, hw1, hw2⟩ := hwd (by rcases hok with rfl | rfl <;> rfl)
    have hgl := Gr_len (hgk _ _ _ _ h9)
    have hm1 : (mk hp a nz.toNat).1.length = hp.1.length + 1 := by show (hp.1 ++ [(a, nz.toNat)]).length = _; simp
    have hm2 : sl (mk hp a nz.toNat).1 = sl hp.1 + nz.toNat := sl_app _ _ _
    rw [hm1, hm2] at hgl
    have hg1 := hI.2.2.2.2.1
    have hg2 := hI.2.2.2.2.2
    obtain ⟨hR, hW⟩ := hk _ _ _ _ h9 ⟨hI.1, hI.2.1, wf_cons trivial (wf_tail hI.2.2.1), wfH_mk hw ⟨by show nz.toNat ≤ 100000; omega, Or.inr (Or.inr (Or.inr (Or.inr ⟨hok, fun k _ => by rw [dfl_r hok]; decide⟩)))⟩, by omega, by omega⟩
    refine ⟨hR, fun H locs lsr hL hP hS => ?_⟩
    have hn0' : ¬ Int32.ofInt nz < 0 := fun g => by have := (i_lt wi inI_0).mp g; omega
    have hA : ∀ q, s.heap.size ≤ q → RG P q := fun q hq2 => by show P.1 ≤ q; rw [hsz] at hq2; omega
    rcases hok with rfl | rfl
    · have hw2 : some (Jvm.Cond.classLink (mName y).cls x "ShownNot$Chart") = some w := hw2
      cases hw2
      refine va_newq (C := "ShownNot$Chart") hx hb hown (hts _ (List.mem_filter.mpr ⟨hw1, rfl⟩)) hWD.2.2.1.2.2.2.2.2.2.1 hKK hP (wsO_D P hp) hS hA hn0' (i_nat wi hnz.1) (by omega) (by omega) (by omega) hd (fun q cA H1 g0 g1 g2 g3 => ?_)
      have hcA : cA = P.2.2.2.2 3 := by
        obtain ⟨_, _, -, -, -, k1⟩ := (g0.2 5 _ rfl).2
        obtain ⟨_, _, -, -, -, k2⟩ := (hKK.2 3 _ rfl).2
        exact Option.some.inj (k1.symm.trans k2)
      subst hcA
      refine W_sized fun hz => ?_
      have hqa := new_addr hw.1.1 g1 g2 (by rw [hsz] at hz; omega)
      subst hqa
      have hW := hW H1 locs lsr hL (by rw [← wsO_mk 103 nz.toNat hw.1.1]; exact (by rw [entE_103, show (fun k => rfo P ((mk hp 103 nz.toNat).2 hp.1.length k)) = (fun _ => none) from funext fun k => by rw [mk_at]; rfl]; exact g1)) g3
      rw [hm1, hm2] at hW
      refine W.eq (F0_eq hof.symm ?_) (W.cs (by omega) (by omega) hW)
      rw [List.map_cons, show cv P (vA (hp.1.length : Int)) = cvA P (hp.1.length : Int) from rfl, cvA_ge (by omega) (by rw [Int.toNat_natCast]; exact hw.1.1), Int.toNat_natCast, ad, if_neg (by have := hw.1.1; omega)]
    · have hw2 : some (Jvm.Cond.classLink (mName y).cls x "ShownNot$Showing") = some w := hw2
      cases hw2
      refine va_newq (C := "ShownNot$Showing") hx hb hown (hts _ (List.mem_filter.mpr ⟨hw1, rfl⟩)) hWD.2.2.1.2.2.2.2.2.2.2 hKK hP (wsO_D P hp) hS hA hn0' (i_nat wi hnz.1) (by omega) (by omega) (by omega) hd (fun q cA H1 g0 g1 g2 g3 => ?_)
      have hcA : cA = P.2.2.2.2 4 := by
        obtain ⟨_, _, -, -, -, k1⟩ := (g0.2 5 _ rfl).2
        obtain ⟨_, _, -, -, -, k2⟩ := (hKK.2 4 _ rfl).2
        exact Option.some.inj (k1.symm.trans k2)
      subst hcA
      refine W_sized fun hz => ?_
      have hqa := new_addr hw.1.1 g1 g2 (by rw [hsz] at hz; omega)
      subst hqa
      have hW := hW H1 locs lsr hL (by rw [← wsO_mk 104 nz.toNat hw.1.1]; exact (by rw [entE_104, show (fun k => rfo P ((mk hp 104 nz.toNat).2 hp.1.length k)) = (fun _ => none) from funext fun k => by rw [mk_at]; rfl]; exact g1)) g3
      rw [hm1, hm2] at hW
      refine W.eq (F0_eq hof.symm ?_) (W.cs (by omega) (by omega) hW)
      rw [List.map_cons, show cv P (vA (hp.1.length : Int)) = cvA P (hp.1.length : Int) from rfl, cvA_ge (by omega) (by rw [Int.toNat_natCast]; exact hw.1.1), Int.toNat_natCast, ad, if_neg (by have := hw.1.1; omega)]
  · rename_i a b x z
    obtain ⟨hd, hok, hwd, hof⟩ := at_ok hc (by simp)
    have hd : decode (mByt y) (mOff y pc) = .ok (.getstatic x, 3) := hd
    have hof : mOff y (pc + 1) = mOff y pc + 3 := hof
    simp only [okR, Bool.and_eq_true, Bool.or_eq_true, decide_eq_true_eq] at hok
    have hok : b = 0 ∧ z = (stN a).2.2.2 ∧ a < statN.length ∧ -2147483648 ≤ z ∧ z < 2147483648 := by
      rcases hok with (g | g) | g
      · exact ⟨g.1.1.1.1.2, g.1.1.1.2, g.1.1.2, g.1.2, g.2⟩
      · exact absurd g.1.1 (by decide)
      · exact absurd g.1 (by decide)
    obtain ⟨rfl, hz, ha, hz1, hz2⟩ := hok
    obtain ⟨w, hw1, hw2⟩ := hwd rfl
    have hw2 : some (Jvm.Cond.fieldLink (mName y).cls x (stN a).1 (stN a).2.1 (stN a).2.2.1) = some w := hw2
    cases hw2
    intro hI
    obtain ⟨hR, hW⟩ := hk _ _ _ _ h ⟨hI.1, hI.2.1, wf_cons (show inI z from ⟨hz1, hz2⟩) hI.2.2.1, hI.2.2.2⟩
    refine ⟨hR, fun H locs lsr hL hP hS => ?_⟩
    refine va_gets hx hb (hWD.2.2.1.2.2.2.1 a ha) hS hown (hts _ (List.mem_filter.mpr ⟨hw1, rfl⟩)) (fun _ g => g) hd ?_
    exact W.eq (F0_eq hof.symm (by rw [← hz]; rfl)) (hW H locs lsr hL hP hS)
  · rename_i a b cc x z g0
    have hcc : cc ≠ 0 := g0
    obtain ⟨hd, hok, hwd, hof⟩ := at_ok hc (by simp)
    have hd : decode (mByt y) (mOff y pc) = .ok (.getstatic x, 3) := hd
    have hof : mOff y (pc + 1) = mOff y pc + 3 := hof
    simp only [okR, Bool.and_eq_true, Bool.or_eq_true, decide_eq_true_eq] at hok
    intro hI
    obtain ⟨hR, hW⟩ := hk _ _ _ _ h ⟨hI.1, hI.2.1, wf_cons trivial hI.2.2.1, hI.2.2.2⟩
    refine ⟨hR, fun H locs lsr hL hP hS => ?_⟩
    have hW := hW H locs lsr hL hP hS
    rcases hok with (g | ⟨⟨rfl, ha⟩, rfl⟩) | ⟨rfl, rfl⟩
    · exact absurd g.1.1.1.1.1 hcc
    · have ha3 : a < 3 := ha
      have e : cvA P (2 + (a : Int)) = .ref (P.2.1 (2 + a)) := by
        rw [cvA_pos (by omega) (by omega), show (2 + (a : Int)).toNat = 2 + a by omega, ad, if_pos (by omega)]
      cases b with
      | zero =>
        obtain ⟨w, hw1, hw2⟩ := hwd rfl
        have hw2 : some (Jvm.Cond.fieldLink (mName y).cls x "ShownNot" (stA a).1 "[I") = some w := hw2
        cases hw2
        refine va_gets hx hb (hWD.2.2.1.2.2.1 a ha).2 hS hown (hts _ (List.mem_filter.mpr ⟨hw1, rfl⟩)) (fun _ g => g) hd ?_
        exact W.eq (F0_eq hof.symm (by rw [List.map_cons]; show _ = cvA P (2 + (a : Int)) :: _; rw [e])) hW
      | succ b =>
        obtain ⟨w, hw1, hw2⟩ := hwd rfl
        have hw2 : some (Jvm.Cond.fieldLinkNest (mName y).cls x "ShownNot" (stA a).1 "[I" "ShownNot") = some w := hw2
        cases hw2
        refine va_getsN hx hb (hWD.2.2.1.2.2.1 a ha).2 hS hown (va_Nw.use rfl (hWD.1 _ hw1 rfl)) (fun _ g => g) hd ?_
        exact W.eq (F0_eq hof.symm (by rw [List.map_cons]; show _ = cvA P (2 + (a : Int)) :: _; rw [e])) hW
    · obtain ⟨w, hw1, hw2⟩ := hwd (by cases b <;> rfl)
      have hw2 : some (Jvm.Cond.fieldLink (mName y).cls x "jdk/internal/util/Preconditions" "SIOOBE_FORMATTER" "Ljava/util/function/BiFunction;") = some w := by cases b <;> exact hw2
      cases hw2
      refine va_gets hx hb hWD.2.2.1.2.2.2.2.1 hS hown (hts _ (List.mem_filter.mpr ⟨hw1, rfl⟩)) (fun _ g => g) hd ?_
      exact W.eq (F0_eq hof.symm rfl) hW
  · rename_i a b cc x z
    obtain ⟨hd, hok, hwd, hof⟩ := at_ok hc (by simp)
    have hd : decode (mByt y) (mOff y pc) = .ok (.aconst_null, 1) := hd
    have hof : mOff y (pc + 1) = mOff y pc + 1 := hof
    intro hI
    have hw := hI.2.2.2.1
    obtain ⟨hR, hW⟩ := hk _ _ _ _ h ⟨hI.1, hI.2.1, wf_cons trivial hI.2.2.1, hI.2.2.2⟩
    exact ⟨hR, fun H locs lsr hL hP hS => lv_null hx hb hd (W.eq (F0_eq hof.symm rfl) (hW H locs lsr hL hP hS))⟩
  · rename_i a b cc x z
    obtain ⟨hd, hok, hwd, hof⟩ := at_ok hc (by simp)
    have hd : decode (mByt y) (mOff y pc) = .ok (.ldc x, 2) := hd
    have hof : mOff y (pc + 1) = mOff y pc + 2 := hof
    intro hI
    have hw := hI.2.2.2.1
    simp only [okR, Bool.and_eq_true, decide_eq_true_eq] at hok
    obtain ⟨ha, rfl⟩ := hok
    obtain ⟨w, hw1, hw2⟩ := hwd rfl
    have hw2 : some (Jvm.Cond.stringRef (mName y).cls x (stS a)) = some w := hw2
    cases hw2
    have ha12 : a < 12 := ha
    obtain ⟨hR, hW⟩ := hk _ _ _ _ h ⟨hI.1, hI.2.1, wf_cons trivial hI.2.2.1, hI.2.2.2⟩
    refine ⟨hR, fun H locs lsr hL hP hS => ?_⟩
    have e : cvA P (5 + 2 * (a : Int)) = .ref (P.2.1 (5 + 2 * a)) := by
      rw [cvA_pos (by omega) (by omega), show (5 + 2 * (a : Int)).toNat = 5 + 2 * a by omega, ad, if_pos (by omega)]
    refine va_ldcS hx hb hown (hWD.2.1 _ x a ha hw1) hd ?_
    exact W.eq (F0_eq hof.symm (by rw [List.map_cons]; show _ = cvA P (5 + 2 * (a : Int)) :: _; rw [e])) (hW H locs lsr hL hP hS)
  · rename_i a b cc x z
    obtain ⟨hd, hok, hwd, hof⟩ := at_ok hc (by simp)
    have hd : decode (mByt y) (mOff y pc) = .ok (.invokestatic x, 3) := hd
    have hof : mOff y (pc + 1) = mOff y pc + 3 := hof
    intro hI
    have hw := hI.2.2.2.1
    obtain ⟨w, hw1, hw2⟩ := hwd rfl
    have hw2 : some (Jvm.Cond.methodLink (mName y).cls x arraycopyName) = some w := hw2
    cases hw2
    obtain ⟨so, sp, dd, dp, nz, q, rfl, h9⟩ := eCP_inv h
    by_cases hwd2 : wid q ≤ 8
    case neg => rw [if_neg hwd2] at h9; cases h9
    rw [if_pos hwd2] at h9
    obtain ⟨h2, hg, h9⟩ := bnd_inv h9
    obtain ⟨hso, hdd, m0, m1, hq0, hq1, hsp, hdp, hnz, hb1, hb2, rfl⟩ := acp_inv hg
    have hI2 := hI.2.2.1
    have wn : inI nz := wf_head hI2
    have wdp : inI dp := wf_head (wf_tail hI2)
    have wsp : inI sp := wf_head (wf_tail (wf_tail (wf_tail hI2)))
    have hi0 : KX ≤ so.toNat := x_tag hw hq0 (by simp) (by simp) (by simp) (by simp)
    have hi1 : KX ≤ dd.toNat := x_tag hw hq1 (by simp) (by simp) (by simp) (by simp)
    have hc2 : ∀ i, i ≠ dd.toNat → ∀ k, cpy hp.2 so.toNat sp.toNat dd.toNat dp.toNat nz.toNat i k = hp.2 i k := fun i hi k => by simp [cpy, hi]
    have hin0 := (okC_t (hw.2.2.2 _ _ hi0 hq0)).1 rfl
    have hin1 := (okC_t (hw.2.2.2 _ _ hi1 hq1)).1 rfl
    have hw2 : wfH L xs (hp.1, cpy hp.2 so.toNat sp.toNat dd.toNat dp.toNat nz.toNat) := by
      refine ⟨hw.1, hw.2.1, fun i k hi => ?_, fun i q2 hi hq2 => ?_⟩
      · show cpy _ _ _ _ _ _ i k = _
        rw [hc2 i (by omega)]; exact hw.2.2.1 i k hi
      · by_cases g : i = dd.toNat
        · subst g
          have hq2 : hp.1[dd.toNat]? = some q2 := hq2
          rw [hq1] at hq2; cases hq2
          refine ⟨(hw.2.2.2 _ _ hi1 hq1).1, Or.inr (Or.inl ⟨rfl, fun k hk3 => ?_⟩)⟩
          show inI (cpy _ _ _ _ _ _ _ k)
          unfold cpy
          split
          · exact hin0 _ (by omega)
          · exact hin1 k hk3
        · have e : (cpy hp.2 so.toNat sp.toNat dd.toNat dp.toNat nz.toNat) i = hp.2 i := funext fun k => hc2 i g k
          show okC q2 ((cpy hp.2 so.toNat sp.toNat dd.toNat dp.toNat nz.toNat) i)
          rw [e]; exact hw.2.2.2 i q2 hi hq2
    obtain ⟨hR, hW⟩ := hk _ _ _ _ h9 ⟨hI.1, hI.2.1, wf_tail (wf_tail (wf_tail (wf_tail (wf_tail hI2)))), hw2, hI.2.2.2.2⟩
    refine ⟨hR, fun H locs lsr hL hP hS => ?_⟩
    simp only [List.map_cons]
    rw [show cv P (vA so) = cvA P so from rfl, show cv P (vA dd) = cvA P dd from rfl, cvA_ge hso hi0, cvA_ge hdd hi1]
    refine va_copyi (ty := .int) hx hb (by rw [hml]; exact hL.1.symm) hown (hts _ (List.mem_filter.mpr ⟨hw1, rfl⟩)) (hts _ w_nat) (hts _ w_sta) (hts _ w_sys) hKK hP (wsO_D P hp) hS (so.toNat - KX) (dd.toNat - KX) 0 0 (by rw [wsO_get hi0 hq0, entE_100]) (by rw [wsO_get hi1 hq1, entE_100]) rfl rfl rfl (fun g => by have := (i_lt wsp inI_0).mp g; omega) (fun g => by have := (i_lt wdp inI_0).mp g; omega) (fun g => by have := (i_lt wn inI_0).mp g; omega) (by rw [i_nat wsp hsp, i_nat wn hnz]; omega) (by rw [i_nat wdp hdp, i_nat wn hnz]; omega) (fun _ _ => rfl) (by omega) (by rw [wid_eq hq, show nativeFrameWords "java/lang/System" "arraycopy" 5 = 7 from rfl]; omega) hd (fun H1 locs1 g1 _ g3 => ?_)
    rw [i_nat wsp hsp, i_nat wdp hdp, i_nat wn hnz, show va_cpy (fun k => Int32.ofInt (hp.2 so.toNat k)) (fun k => Int32.ofInt (hp.2 dd.toNat k)) sp.toNat dp.toNat nz.toNat = (fun k => Int32.ofInt (cpy hp.2 so.toNat sp.toNat dd.toNat dp.toNat nz.toNat dd.toNat k)) from funext fun k => by simp only [va_cpy, cpy, true_and]; split <;> rfl, ← entE_100, wsO_upd hi1 hq1 hc2] at g1
    exact W.eq (F0_eq hof.symm rfl) (hW H1 locs1 lsr hL g1 g3)
  · rename_i a b cc x z
    obtain ⟨hd, hok, hwd, hof⟩ := at_ok hc (by simp)
    have hd : decode (mByt y) (mOff y pc) = .ok (.invokespecial x, 3) := hd
    have hof : mOff y (pc + 1) = mOff y pc + 3 := hof
    intro hI
    have hw := hI.2.2.2.1
    obtain ⟨w, hw1, hw2⟩ := hwd rfl
    have hw2 : some (Jvm.Cond.methodLink (mName y).cls x objectInit) = some w := hw2
    cases hw2
    obtain ⟨x0, q, rfl, h9⟩ := e1A_inv h
    by_cases hx0 : 0 < x0 ∧ wid q ≤ 8
    case neg => rw [if_neg hx0] at h9; cases h9
    rw [if_pos hx0] at h9
    obtain ⟨hR, hW⟩ := hk _ _ _ _ h9 ⟨hI.1, hI.2.1, wf_tail hI.2.2.1, hI.2.2.2⟩
    refine ⟨hR, fun H locs lsr hL hP hS => ?_⟩
    rw [List.map_cons, show cv P (vA x0) = cvA P x0 from rfl, cvA_pos (by omega) (by omega)]
    refine W.objInit hx hb hown (hts _ (List.mem_filter.mpr ⟨hw1, rfl⟩)) (hts _ w_oin) (hts _ w_oco) rfl (by rw [hml]; exact hL.1) rfl hd (by omega) (by show 2 * 0 + _ + 12 ≤ _; rw [wid_eq hq]; omega) ?_
    exact W.eq (F0_eq hof.symm rfl) (hW H locs lsr hL hP hS)
  · rename_i a b cc x z
    obtain ⟨hd, hok, hwd, hof⟩ := at_ok hc (by simp)
    have hd : decode (mByt y) (mOff y pc) = .ok (.i2b, 1) := hd
    have hof : mOff y (pc + 1) = mOff y pc + 1 := hof
    intro hI
    have hw := hI.2.2.2.1
    obtain ⟨x0, q, rfl, h9⟩ := e1I_inv h
    obtain ⟨hR, hW⟩ := hk _ _ _ _ h9 ⟨hI.1, hI.2.1, wf_cons (show inI (i2b x0) from inI_t _) (wf_tail hI.2.2.1), hI.2.2.2⟩
    refine ⟨hR, fun H locs lsr hL hP hS => ?_⟩
    refine lv_i2b hx hb hd rfl ?_
    exact W.eq (F0_eq hof.symm (by simp only [List.map_cons, cv, i2b, Int32.ofInt_toInt])) (hW H locs lsr hL hP hS)
  · intro _; cases h

end SIM
end
section
/-! each method: its words by their places in lw_tbl -/
theorem in_t1 {w : Jvm.Cond} (h : w ∈ tables_1_1) : w ∈ lw_tbl := List.mem_append_right _ (show w ∈ tables_1 from List.mem_append_left _ h)
theorem in_t2 {w : Jvm.Cond} (h : w ∈ tables_1_2) : w ∈ lw_tbl := List.mem_append_right _ (show w ∈ tables_1 from List.mem_append_right _ (List.mem_append_left _ h))
theorem in_t3 {w : Jvm.Cond} (h : w ∈ tables_1_3) : w ∈ lw_tbl := List.mem_append_right _ (show w ∈ tables_1 from List.mem_append_right _ (List.mem_append_right _ (List.mem_append_left _ h)))
theorem in_t4 {w : Jvm.Cond} (h : w ∈ tables_1_4) : w ∈ lw_tbl := List.mem_append_right _ (show w ∈ tables_1 from List.mem_append_right _ (List.mem_append_right _ (List.mem_append_right _ (List.mem_append_left _ h))))
theorem in_t5 {w : Jvm.Cond} (h : w ∈ tables_1_5) : w ∈ lw_tbl := List.mem_append_right _ (show w ∈ tables_1 from List.mem_append_right _ (List.mem_append_right _ (List.mem_append_right _ (List.mem_append_right _ (List.mem_append_left _ h)))))
theorem in_t6 {w : Jvm.Cond} (h : w ∈ tables_1_6) : w ∈ lw_tbl := List.mem_append_right _ (show w ∈ tables_1 from List.mem_append_right _ (List.mem_append_right _ (List.mem_append_right _ (List.mem_append_right _ (List.mem_append_right _ (List.mem_append_left _ h))))))
theorem in_t7 {w : Jvm.Cond} (h : w ∈ tables_1_7) : w ∈ lw_tbl := List.mem_append_right _ (show w ∈ tables_1 from List.mem_append_right _ (List.mem_append_right _ (List.mem_append_right _ (List.mem_append_right _ (List.mem_append_right _ (List.mem_append_right _ (List.mem_append_left _ h)))))))
theorem in_t8 {w : Jvm.Cond} (h : w ∈ tables_1_8) : w ∈ lw_tbl := List.mem_append_right _ (show w ∈ tables_1 from List.mem_append_right _ (List.mem_append_right _ (List.mem_append_right _ (List.mem_append_right _ (List.mem_append_right _ (List.mem_append_right _ (List.mem_append_right _ (h))))))))
def cwP (z : Nat) : Prop := Jvm.Cond.code (mName z) (mByt z) (mMl z) (mRet z) ∈ lw_tbl
set_option maxRecDepth 20000 in
theorem cw_0 : cwP 0 := in_t1 (List.mem_of_getElem? (i := 58) rfl)
set_option maxRecDepth 20000 in
theorem cw_1 : cwP 1 := in_t5 (List.mem_of_getElem? (i := 3) rfl)
set_option maxRecDepth 20000 in
theorem cw_2 : cwP 2 := in_t5 (List.mem_of_getElem? (i := 217) rfl)
set_option maxRecDepth 20000 in
theorem cw_3 : cwP 3 := in_t5 (List.mem_of_getElem? (i := 11) rfl)
set_option maxRecDepth 20000 in
theorem cw_4 : cwP 4 := in_t5 (List.mem_of_getElem? (i := 20) rfl)
set_option maxRecDepth 20000 in
theorem cw_5 : cwP 5 := in_t5 (List.mem_of_getElem? (i := 25) rfl)
set_option maxRecDepth 20000 in
theorem cw_6 : cwP 6 := in_t1 (List.mem_of_getElem? (i := 116) rfl)
set_option maxRecDepth 20000 in
theorem cw_7 : cwP 7 := in_t2 (List.mem_of_getElem? (i := 172) rfl)
set_option maxRecDepth 20000 in
theorem cw_8 : cwP 8 := in_t5 (List.mem_of_getElem? (i := 200) rfl)
set_option maxRecDepth 20000 in
theorem cw_9 : cwP 9 := in_t2 (List.mem_of_getElem? (i := 184) rfl)
set_option maxRecDepth 20000 in
theorem cw_10 : cwP 10 := in_t2 (List.mem_of_getElem? (i := 191) rfl)
set_option maxRecDepth 20000 in
theorem cw_11 : cwP 11 := in_t2 (List.mem_of_getElem? (i := 227) rfl)
set_option maxRecDepth 20000 in
theorem cw_12 : cwP 12 := in_t2 (List.mem_of_getElem? (i := 212) rfl)
set_option maxRecDepth 20000 in
theorem cw_13 : cwP 13 := in_t2 (List.mem_of_getElem? (i := 199) rfl)
set_option maxRecDepth 20000 in
theorem cw_14 : cwP 14 := in_t2 (List.mem_of_getElem? (i := 219) rfl)
set_option maxRecDepth 20000 in
theorem cw_15 : cwP 15 := in_t4 (List.mem_of_getElem? (i := 117) rfl)
set_option maxRecDepth 20000 in
theorem cw_16 : cwP 16 := in_t5 (List.mem_of_getElem? (i := 98) rfl)
set_option maxRecDepth 20000 in
theorem cw_17 : cwP 17 := in_t3 (List.mem_of_getElem? (i := 3) rfl)
set_option maxRecDepth 20000 in
theorem cw_18 : cwP 18 := in_t3 (List.mem_of_getElem? (i := 7) rfl)
set_option maxRecDepth 20000 in
theorem cw_19 : cwP 19 := in_t3 (List.mem_of_getElem? (i := 27) rfl)
set_option maxRecDepth 20000 in
theorem cw_20 : cwP 20 := in_t3 (List.mem_of_getElem? (i := 15) rfl)
set_option maxRecDepth 20000 in
theorem cw_21 : cwP 21 := in_t3 (List.mem_of_getElem? (i := 19) rfl)
set_option maxRecDepth 20000 in
theorem cw_22 : cwP 22 := in_t3 (List.mem_of_getElem? (i := 23) rfl)
set_option maxRecDepth 20000 in
theorem cw_23 : cwP 23 := in_t1 (List.mem_of_getElem? (i := 228) rfl)
set_option maxRecDepth 20000 in
theorem cw_24 : cwP 24 := in_t4 (List.mem_of_getElem? (i := 18) rfl)
set_option maxRecDepth 20000 in
theorem cw_25 : cwP 25 := in_t3 (List.mem_of_getElem? (i := 51) rfl)
set_option maxRecDepth 20000 in
theorem cw_26 : cwP 26 := in_t3 (List.mem_of_getElem? (i := 236) rfl)
set_option maxRecDepth 20000 in
theorem cw_27 : cwP 27 := in_t4 (List.mem_of_getElem? (i := 26) rfl)
set_option maxRecDepth 20000 in
theorem cw_28 : cwP 28 := in_t4 (List.mem_of_getElem? (i := 30) rfl)
set_option maxRecDepth 20000 in
theorem cw_29 : cwP 29 := in_t4 (List.mem_of_getElem? (i := 34) rfl)
set_option maxRecDepth 20000 in
theorem cw_30 : cwP 30 := in_t4 (List.mem_of_getElem? (i := 15) rfl)
set_option maxRecDepth 20000 in
theorem cw_31 : cwP 31 := in_t4 (List.mem_of_getElem? (i := 39) rfl)
set_option maxRecDepth 20000 in
theorem cw_32 : cwP 32 := in_t4 (List.mem_of_getElem? (i := 42) rfl)
set_option maxRecDepth 20000 in
theorem cw_33 : cwP 33 := in_t4 (List.mem_of_getElem? (i := 45) rfl)
set_option maxRecDepth 20000 in
theorem cw_34 : cwP 34 := in_t1 (List.mem_of_getElem? (i := 76) rfl)
set_option maxRecDepth 20000 in
theorem cw_35 : cwP 35 := in_t5 (List.mem_of_getElem? (i := 38) rfl)
set_option maxRecDepth 20000 in
theorem cw_36 : cwP 36 := in_t5 (List.mem_of_getElem? (i := 35) rfl)
set_option maxRecDepth 20000 in
theorem cw_37 : cwP 37 := in_t5 (List.mem_of_getElem? (i := 221) rfl)
set_option maxRecDepth 20000 in
theorem cw_38 : cwP 38 := in_t5 (List.mem_of_getElem? (i := 46) rfl)
set_option maxRecDepth 20000 in
theorem cw_39 : cwP 39 := in_t5 (List.mem_of_getElem? (i := 54) rfl)
set_option maxRecDepth 20000 in
theorem cw_40 : cwP 40 := in_t5 (List.mem_of_getElem? (i := 62) rfl)
set_option maxRecDepth 20000 in
theorem cw_41 : cwP 41 := in_t5 (List.mem_of_getElem? (i := 59) rfl)
set_option maxRecDepth 20000 in
theorem cw_42 : cwP 42 := in_t5 (List.mem_of_getElem? (i := 66) rfl)
set_option maxRecDepth 20000 in
theorem cw_43 : cwP 43 := in_t5 (List.mem_of_getElem? (i := 70) rfl)
set_option maxRecDepth 20000 in
theorem cw_44 : cwP 44 := in_t2 (List.mem_of_getElem? (i := 66) rfl)
set_option maxRecDepth 20000 in
theorem cw_45 : cwP 45 := in_t4 (List.mem_of_getElem? (i := 77) rfl)
set_option maxRecDepth 20000 in
theorem cw_46 : cwP 46 := in_t4 (List.mem_of_getElem? (i := 84) rfl)
set_option maxRecDepth 20000 in
theorem cw_47 : cwP 47 := in_t4 (List.mem_of_getElem? (i := 105) rfl)
set_option maxRecDepth 20000 in
theorem cw_48 : cwP 48 := in_t4 (List.mem_of_getElem? (i := 91) rfl)
set_option maxRecDepth 20000 in
theorem cw_49 : cwP 49 := in_t4 (List.mem_of_getElem? (i := 101) rfl)
set_option maxRecDepth 20000 in
theorem cw_50 : cwP 50 := in_t4 (List.mem_of_getElem? (i := 109) rfl)
set_option maxRecDepth 20000 in
theorem cw_51 : cwP 51 := in_t4 (List.mem_of_getElem? (i := 139) rfl)
set_option maxRecDepth 20000 in
theorem cw_52 : cwP 52 := in_t4 (List.mem_of_getElem? (i := 145) rfl)
set_option maxRecDepth 20000 in
theorem cw_53 : cwP 53 := in_t4 (List.mem_of_getElem? (i := 175) rfl)
set_option maxRecDepth 20000 in
theorem cw_54 : cwP 54 := in_t4 (List.mem_of_getElem? (i := 184) rfl)
set_option maxRecDepth 20000 in
theorem cw_55 : cwP 55 := in_t4 (List.mem_of_getElem? (i := 179) rfl)
set_option maxRecDepth 20000 in
theorem cw_56 : cwP 56 := in_t4 (List.mem_of_getElem? (i := 188) rfl)
set_option maxRecDepth 20000 in
theorem cw_57 : cwP 57 := in_t4 (List.mem_of_getElem? (i := 206) rfl)
set_option maxRecDepth 20000 in
theorem cw_58 : cwP 58 := in_t4 (List.mem_of_getElem? (i := 227) rfl)
set_option maxRecDepth 20000 in
theorem cw_59 : cwP 59 := in_t4 (List.mem_of_getElem? (i := 233) rfl)
set_option maxRecDepth 20000 in
theorem cw_60 : cwP 60 := in_t5 (List.mem_of_getElem? (i := 80) rfl)
set_option maxRecDepth 20000 in
theorem cw_61 : cwP 61 := in_t5 (List.mem_of_getElem? (i := 85) rfl)
set_option maxRecDepth 20000 in
theorem cw_62 : cwP 62 := in_t2 (List.mem_of_getElem? (i := 134) rfl)
set_option maxRecDepth 20000 in
theorem cw_63 : cwP 63 := in_t4 (List.mem_of_getElem? (i := 158) rfl)
set_option maxRecDepth 20000 in
theorem cw_64 : cwP 64 := in_t4 (List.mem_of_getElem? (i := 163) rfl)
set_option maxRecDepth 20000 in
theorem cw_65 : cwP 65 := in_t4 (List.mem_of_getElem? (i := 167) rfl)
set_option maxRecDepth 20000 in
theorem cw_66 : cwP 66 := in_t1 (List.mem_of_getElem? (i := 222) rfl)
set_option maxRecDepth 20000 in
theorem cw_67 : cwP 67 := in_t3 (List.mem_of_getElem? (i := 35) rfl)
set_option maxRecDepth 20000 in
theorem cw_68 : cwP 68 := in_t4 (List.mem_of_getElem? (i := 22) rfl)
set_option maxRecDepth 20000 in
theorem cw_69 : cwP 69 := in_t3 (List.mem_of_getElem? (i := 47) rfl)
set_option maxRecDepth 20000 in
theorem cw_70 : cwP 70 := in_t3 (List.mem_of_getElem? (i := 207) rfl)
set_option maxRecDepth 20000 in
theorem cw_71 : cwP 71 := in_t3 (List.mem_of_getElem? (i := 212) rfl)
set_option maxRecDepth 20000 in
theorem cw_72 : cwP 72 := in_t3 (List.mem_of_getElem? (i := 203) rfl)
set_option maxRecDepth 20000 in
theorem cw_73 : cwP 73 := in_t3 (List.mem_of_getElem? (i := 216) rfl)
set_option maxRecDepth 20000 in
theorem cw_74 : cwP 74 := in_t3 (List.mem_of_getElem? (i := 220) rfl)
set_option maxRecDepth 20000 in
theorem cw_75 : cwP 75 := in_t3 (List.mem_of_getElem? (i := 224) rfl)
set_option maxRecDepth 20000 in
theorem cw_76 : cwP 76 := in_t3 (List.mem_of_getElem? (i := 228) rfl)
set_option maxRecDepth 20000 in
theorem cw_77 : cwP 77 := in_t3 (List.mem_of_getElem? (i := 232) rfl)
set_option maxRecDepth 20000 in
theorem cw_78 : cwP 78 := in_t4 (List.mem_of_getElem? (i := 0) rfl)
set_option maxRecDepth 20000 in
theorem cw_79 : cwP 79 := in_t4 (List.mem_of_getElem? (i := 4) rfl)
set_option maxRecDepth 20000 in
theorem cw_80 : cwP 80 := in_t4 (List.mem_of_getElem? (i := 8) rfl)
set_option maxRecDepth 20000 in
theorem cw_81 : cwP 81 := in_t4 (List.mem_of_getElem? (i := 12) rfl)
set_option maxRecDepth 20000 in
theorem cw_82 : cwP 82 := in_t3 (List.mem_of_getElem? (i := 55) rfl)
set_option maxRecDepth 20000 in
theorem cw_83 : cwP 83 := in_t3 (List.mem_of_getElem? (i := 59) rfl)
set_option maxRecDepth 20000 in
theorem cw_84 : cwP 84 := in_t3 (List.mem_of_getElem? (i := 66) rfl)
set_option maxRecDepth 20000 in
theorem cw_85 : cwP 85 := in_t3 (List.mem_of_getElem? (i := 197) rfl)
set_option maxRecDepth 20000 in
theorem cw_86 : cwP 86 := in_t3 (List.mem_of_getElem? (i := 70) rfl)
set_option maxRecDepth 20000 in
theorem cw_87 : cwP 87 := in_t3 (List.mem_of_getElem? (i := 160) rfl)
set_option maxRecDepth 20000 in
theorem cw_88 : cwP 88 := in_t3 (List.mem_of_getElem? (i := 62) rfl)
set_option maxRecDepth 20000 in
theorem cw_89 : cwP 89 := in_t3 (List.mem_of_getElem? (i := 193) rfl)
set_option maxRecDepth 20000 in
theorem cw_90 : cwP 90 := in_t1 (List.mem_of_getElem? (i := 99) rfl)
set_option maxRecDepth 20000 in
theorem cw_91 : cwP 91 := in_t5 (List.mem_of_getElem? (i := 112) rfl)
set_option maxRecDepth 20000 in
theorem cw_92 : cwP 92 := in_t5 (List.mem_of_getElem? (i := 225) rfl)
set_option maxRecDepth 20000 in
theorem cw_93 : cwP 93 := in_t5 (List.mem_of_getElem? (i := 124) rfl)
set_option maxRecDepth 20000 in
theorem cw_94 : cwP 94 := in_t5 (List.mem_of_getElem? (i := 120) rfl)
set_option maxRecDepth 20000 in
theorem cw_95 : cwP 95 := in_t5 (List.mem_of_getElem? (i := 136) rfl)
set_option maxRecDepth 20000 in
theorem cw_96 : cwP 96 := in_t5 (List.mem_of_getElem? (i := 153) rfl)
set_option maxRecDepth 20000 in
theorem cw_97 : cwP 97 := in_t5 (List.mem_of_getElem? (i := 157) rfl)
set_option maxRecDepth 20000 in
theorem cw_98 : cwP 98 := in_t5 (List.mem_of_getElem? (i := 132) rfl)
set_option maxRecDepth 20000 in
theorem cw_99 : cwP 99 := in_t5 (List.mem_of_getElem? (i := 140) rfl)
set_option maxRecDepth 20000 in
theorem cw_100 : cwP 100 := in_t5 (List.mem_of_getElem? (i := 144) rfl)
set_option maxRecDepth 20000 in
theorem cw_101 : cwP 101 := in_t5 (List.mem_of_getElem? (i := 161) rfl)
set_option maxRecDepth 20000 in
theorem cw_102 : cwP 102 := in_t5 (List.mem_of_getElem? (i := 165) rfl)
set_option maxRecDepth 20000 in
theorem cw_103 : cwP 103 := in_t5 (List.mem_of_getElem? (i := 168) rfl)
set_option maxRecDepth 20000 in
theorem cw_104 : cwP 104 := in_t1 (List.mem_of_getElem? (i := 162) rfl)
set_option maxRecDepth 20000 in
theorem cw_105 : cwP 105 := in_t5 (List.mem_of_getElem? (i := 207) rfl)
set_option maxRecDepth 20000 in
theorem cw_106 : cwP 106 := in_t1 (List.mem_of_getElem? (i := 44) rfl)
set_option maxRecDepth 20000 in
theorem cw_107 : cwP 107 := in_t4 (List.mem_of_getElem? (i := 196) rfl)
set_option maxRecDepth 20000 in
theorem cw_108 : cwP 108 := in_t5 (List.mem_of_getElem? (i := 212) rfl)
set_option maxRecDepth 20000 in
theorem cw_109 : cwP 109 := in_t5 (List.mem_of_getElem? (i := 238) rfl)
set_option maxRecDepth 20000 in
theorem cw_110 : cwP 110 := in_t4 (List.mem_of_getElem? (i := 210) rfl)
set_option maxRecDepth 20000 in
theorem cw_111 : cwP 111 := in_t4 (List.mem_of_getElem? (i := 214) rfl)
set_option maxRecDepth 20000 in
theorem cw_112 : cwP 112 := in_t1 (List.mem_of_getElem? (i := 34) rfl)
set_option maxRecDepth 20000 in
theorem cw_113 : cwP 113 := in_t2 (List.mem_of_getElem? (i := 180) rfl)
set_option maxRecDepth 20000 in
theorem cw_114 : cwP 114 := in_t4 (List.mem_of_getElem? (i := 73) rfl)
set_option maxRecDepth 20000 in
theorem cw_115 : cwP 115 := in_t5 (List.mem_of_getElem? (i := 196) rfl)
set_option maxRecDepth 20000 in
theorem cw_116 : cwP 116 := in_t1 (List.mem_of_getElem? (i := 26) rfl)
set_option maxRecDepth 20000 in
theorem cw_117 : cwP 117 := in_t2 (List.mem_of_getElem? (i := 168) rfl)
set_option maxRecDepth 20000 in
theorem cw_118 : cwP 118 := in_t2 (List.mem_of_getElem? (i := 176) rfl)
set_option maxRecDepth 20000 in
theorem cw_119 : cwP 119 := in_t2 (List.mem_of_getElem? (i := 195) rfl)
set_option maxRecDepth 20000 in
theorem cw_120 : cwP 120 := in_t2 (List.mem_of_getElem? (i := 223) rfl)
set_option maxRecDepth 20000 in
theorem cw_121 : cwP 121 := in_t2 (List.mem_of_getElem? (i := 239) rfl)
set_option maxRecDepth 20000 in
theorem cw_122 : cwP 122 := in_t3 (List.mem_of_getElem? (i := 11) rfl)
set_option maxRecDepth 20000 in
theorem cw_123 : cwP 123 := in_t3 (List.mem_of_getElem? (i := 31) rfl)
set_option maxRecDepth 20000 in
theorem cw_124 : cwP 124 := in_t3 (List.mem_of_getElem? (i := 39) rfl)
set_option maxRecDepth 20000 in
theorem cw_125 : cwP 125 := in_t3 (List.mem_of_getElem? (i := 43) rfl)
set_option maxRecDepth 20000 in
theorem cw_126 : cwP 126 := in_t4 (List.mem_of_getElem? (i := 61) rfl)
set_option maxRecDepth 20000 in
theorem cw_127 : cwP 127 := in_t4 (List.mem_of_getElem? (i := 65) rfl)
set_option maxRecDepth 20000 in
theorem cw_128 : cwP 128 := in_t4 (List.mem_of_getElem? (i := 97) rfl)
set_option maxRecDepth 20000 in
theorem cw_129 : cwP 129 := in_t4 (List.mem_of_getElem? (i := 135) rfl)
set_option maxRecDepth 20000 in
theorem cw_130 : cwP 130 := in_t4 (List.mem_of_getElem? (i := 149) rfl)
set_option maxRecDepth 20000 in
theorem cw_131 : cwP 131 := in_t4 (List.mem_of_getElem? (i := 171) rfl)
set_option maxRecDepth 20000 in
theorem cw_132 : cwP 132 := in_t4 (List.mem_of_getElem? (i := 192) rfl)
set_option maxRecDepth 20000 in
theorem cw_133 : cwP 133 := in_t4 (List.mem_of_getElem? (i := 200) rfl)
set_option maxRecDepth 20000 in
theorem cw_134 : cwP 134 := in_t4 (List.mem_of_getElem? (i := 223) rfl)
set_option maxRecDepth 20000 in
theorem cw_135 : cwP 135 := in_t4 (List.mem_of_getElem? (i := 238) rfl)
set_option maxRecDepth 20000 in
theorem cw_136 : cwP 136 := in_t5 (List.mem_of_getElem? (i := 7) rfl)
set_option maxRecDepth 20000 in
theorem cw_137 : cwP 137 := in_t5 (List.mem_of_getElem? (i := 16) rfl)
set_option maxRecDepth 20000 in
theorem cw_138 : cwP 138 := in_t5 (List.mem_of_getElem? (i := 31) rfl)
set_option maxRecDepth 20000 in
theorem cw_139 : cwP 139 := in_t5 (List.mem_of_getElem? (i := 42) rfl)
set_option maxRecDepth 20000 in
theorem cw_140 : cwP 140 := in_t5 (List.mem_of_getElem? (i := 50) rfl)
set_option maxRecDepth 20000 in
theorem cw_141 : cwP 141 := in_t5 (List.mem_of_getElem? (i := 76) rfl)
set_option maxRecDepth 20000 in
theorem cw_142 : cwP 142 := in_t5 (List.mem_of_getElem? (i := 90) rfl)
set_option maxRecDepth 20000 in
theorem cw_143 : cwP 143 := in_t5 (List.mem_of_getElem? (i := 108) rfl)
set_option maxRecDepth 20000 in
theorem cw_144 : cwP 144 := in_t5 (List.mem_of_getElem? (i := 116) rfl)
set_option maxRecDepth 20000 in
theorem cw_145 : cwP 145 := in_t5 (List.mem_of_getElem? (i := 128) rfl)
set_option maxRecDepth 20000 in
theorem cw_146 : cwP 146 := in_t5 (List.mem_of_getElem? (i := 175) rfl)
set_option maxRecDepth 20000 in
theorem cw_147 : cwP 147 := in_t5 (List.mem_of_getElem? (i := 192) rfl)
set_option maxRecDepth 20000 in
theorem cw_148 : cwP 148 := in_t5 (List.mem_of_getElem? (i := 230) rfl)
set_option maxRecDepth 20000 in
theorem cw_149 : cwP 149 := in_t5 (List.mem_of_getElem? (i := 234) rfl)
set_option maxRecDepth 20000 in
theorem cw_150 : cwP 150 := in_t6 (List.mem_of_getElem? (i := 3) rfl)
set_option maxRecDepth 20000 in
theorem cw_151 : cwP 151 := in_t6 (List.mem_of_getElem? (i := 7) rfl)
set_option maxRecDepth 20000 in
theorem cw_152 : cwP 152 := in_t4 (List.mem_of_getElem? (i := 69) rfl)
set_option maxRecDepth 20000 in
theorem cw_153 : cwP 153 := in_t4 (List.mem_of_getElem? (i := 154) rfl)
set_option maxRecDepth 20000 in
theorem cw_154 : cwP 154 := in_t5 (List.mem_of_getElem? (i := 94) rfl)
set_option maxRecDepth 20000 in
theorem cw_155 : cwP 155 := in_t5 (List.mem_of_getElem? (i := 103) rfl)
set_option maxRecDepth 20000 in
theorem cw_156 : cwP 156 := in_t5 (List.mem_of_getElem? (i := 179) rfl)
set_option maxRecDepth 20000 in
theorem cw_157 : cwP 157 := in_t5 (List.mem_of_getElem? (i := 182) rfl)
set_option maxRecDepth 20000 in
theorem cw_158 : cwP 158 := in_t5 (List.mem_of_getElem? (i := 188) rfl)
set_option maxRecDepth 20000 in
theorem cw_159 : cwP 159 := in_t4 (List.mem_of_getElem? (i := 56) rfl)
set_option maxRecDepth 20000 in
theorem cw_160 : cwP 160 := in_t4 (List.mem_of_getElem? (i := 87) rfl)
set_option maxRecDepth 20000 in
theorem cw_161 : cwP 161 := in_t2 (List.mem_of_getElem? (i := 230) rfl)
set_option maxRecDepth 20000 in
theorem cw_162 : cwP 162 := in_t4 (List.mem_of_getElem? (i := 80) rfl)
set_option maxRecDepth 20000 in
theorem cw_163 : cwP 163 := in_t2 (List.mem_of_getElem? (i := 202) rfl)
set_option maxRecDepth 20000 in
theorem cw_164 : cwP 164 := in_t2 (List.mem_of_getElem? (i := 208) rfl)
set_option maxRecDepth 20000 in
theorem cw_165 : cwP 165 := in_t2 (List.mem_of_getElem? (i := 215) rfl)
set_option maxRecDepth 20000 in
theorem cw_166 : cwP 166 := in_t4 (List.mem_of_getElem? (i := 120) rfl)
set_option maxRecDepth 20000 in
theorem cw_167 : cwP 167 := in_t2 (List.mem_of_getElem? (i := 233) rfl)
set_option maxRecDepth 20000 in
theorem cw_168 : cwP 168 := in_t4 (List.mem_of_getElem? (i := 112) rfl)
set_option maxRecDepth 20000 in
theorem cw_169 : cwP 169 := in_t2 (List.mem_of_getElem? (i := 187) rfl)
set_option maxRecDepth 20000 in
theorem cw_170 : cwP 170 := in_t6 (List.mem_of_getElem? (i := 12) rfl)
set_option maxRecDepth 20000 in
theorem cw_171 : cwP 171 := in_t6 (List.mem_of_getElem? (i := 16) rfl)
set_option maxRecDepth 20000 in
theorem cw_172 : cwP 172 := in_t6 (List.mem_of_getElem? (i := 156) rfl)
set_option maxRecDepth 20000 in
theorem cw_173 : cwP 173 := in_t6 (List.mem_of_getElem? (i := 164) rfl)
set_option maxRecDepth 20000 in
theorem cw_174 : cwP 174 := in_t6 (List.mem_of_getElem? (i := 208) rfl)
set_option maxRecDepth 20000 in
theorem cw_175 : cwP 175 := in_t6 (List.mem_of_getElem? (i := 153) rfl)
set_option maxRecDepth 20000 in
theorem cw_176 : cwP 176 := in_t6 (List.mem_of_getElem? (i := 172) rfl)
set_option maxRecDepth 20000 in
theorem cw_177 : cwP 177 := in_t6 (List.mem_of_getElem? (i := 176) rfl)
set_option maxRecDepth 20000 in
theorem cw_178 : cwP 178 := in_t6 (List.mem_of_getElem? (i := 168) rfl)
set_option maxRecDepth 20000 in
theorem cw_179 : cwP 179 := in_t6 (List.mem_of_getElem? (i := 160) rfl)
set_option maxRecDepth 20000 in
theorem cw_180 : cwP 180 := in_t6 (List.mem_of_getElem? (i := 188) rfl)
set_option maxRecDepth 20000 in
theorem cw_181 : cwP 181 := in_t6 (List.mem_of_getElem? (i := 196) rfl)
set_option maxRecDepth 20000 in
theorem cw_182 : cwP 182 := in_t6 (List.mem_of_getElem? (i := 192) rfl)
set_option maxRecDepth 20000 in
theorem cw_183 : cwP 183 := in_t6 (List.mem_of_getElem? (i := 184) rfl)
set_option maxRecDepth 20000 in
theorem cw_184 : cwP 184 := in_t6 (List.mem_of_getElem? (i := 180) rfl)
set_option maxRecDepth 20000 in
theorem cw_185 : cwP 185 := in_t6 (List.mem_of_getElem? (i := 204) rfl)
set_option maxRecDepth 20000 in
theorem cw_186 : cwP 186 := in_t6 (List.mem_of_getElem? (i := 200) rfl)
set_option maxRecDepth 20000 in
theorem cw_187 : cwP 187 := in_t6 (List.mem_of_getElem? (i := 220) rfl)
set_option maxRecDepth 20000 in
theorem cw_188 : cwP 188 := in_t6 (List.mem_of_getElem? (i := 216) rfl)
set_option maxRecDepth 20000 in
theorem cw_189 : cwP 189 := in_t6 (List.mem_of_getElem? (i := 212) rfl)
set_option maxRecDepth 20000 in
theorem cw_190 : cwP 190 := in_t6 (List.mem_of_getElem? (i := 228) rfl)
set_option maxRecDepth 20000 in
theorem cw_191 : cwP 191 := in_t6 (List.mem_of_getElem? (i := 224) rfl)
set_option maxRecDepth 20000 in
theorem cw_192 : cwP 192 := in_t6 (List.mem_of_getElem? (i := 236) rfl)
set_option maxRecDepth 20000 in
theorem cw_193 : cwP 193 := in_t6 (List.mem_of_getElem? (i := 232) rfl)
set_option maxRecDepth 20000 in
theorem cw_194 : cwP 194 := in_t7 (List.mem_of_getElem? (i := 0) rfl)
set_option maxRecDepth 20000 in
theorem cw_195 : cwP 195 := in_t7 (List.mem_of_getElem? (i := 16) rfl)
set_option maxRecDepth 20000 in
theorem cw_196 : cwP 196 := in_t7 (List.mem_of_getElem? (i := 23) rfl)
set_option maxRecDepth 20000 in
theorem cw_197 : cwP 197 := in_t7 (List.mem_of_getElem? (i := 19) rfl)
set_option maxRecDepth 20000 in
theorem cw_198 : cwP 198 := in_t7 (List.mem_of_getElem? (i := 12) rfl)
set_option maxRecDepth 20000 in
theorem cw_199 : cwP 199 := in_t7 (List.mem_of_getElem? (i := 37) rfl)
set_option maxRecDepth 20000 in
theorem cw_200 : cwP 200 := in_t7 (List.mem_of_getElem? (i := 44) rfl)
set_option maxRecDepth 20000 in
theorem cw_201 : cwP 201 := in_t7 (List.mem_of_getElem? (i := 34) rfl)
set_option maxRecDepth 20000 in
theorem cw_202 : cwP 202 := in_t7 (List.mem_of_getElem? (i := 41) rfl)
set_option maxRecDepth 20000 in
theorem cw_203 : cwP 203 := in_t7 (List.mem_of_getElem? (i := 78) rfl)
set_option maxRecDepth 20000 in
theorem cw_204 : cwP 204 := in_t7 (List.mem_of_getElem? (i := 82) rfl)
set_option maxRecDepth 20000 in
theorem cw_205 : cwP 205 := in_t7 (List.mem_of_getElem? (i := 86) rfl)
set_option maxRecDepth 20000 in
theorem cw_206 : cwP 206 := in_t7 (List.mem_of_getElem? (i := 74) rfl)
set_option maxRecDepth 20000 in
theorem cw_207 : cwP 207 := in_t7 (List.mem_of_getElem? (i := 94) rfl)
set_option maxRecDepth 20000 in
theorem cw_208 : cwP 208 := in_t7 (List.mem_of_getElem? (i := 90) rfl)
set_option maxRecDepth 20000 in
theorem cw_209 : cwP 209 := in_t7 (List.mem_of_getElem? (i := 66) rfl)
set_option maxRecDepth 20000 in
theorem cw_210 : cwP 210 := in_t7 (List.mem_of_getElem? (i := 62) rfl)
set_option maxRecDepth 20000 in
theorem cw_211 : cwP 211 := in_t7 (List.mem_of_getElem? (i := 70) rfl)
set_option maxRecDepth 20000 in
theorem cw_212 : cwP 212 := in_t7 (List.mem_of_getElem? (i := 58) rfl)
set_option maxRecDepth 20000 in
theorem cw_213 : cwP 213 := in_t7 (List.mem_of_getElem? (i := 102) rfl)
set_option maxRecDepth 20000 in
theorem cw_214 : cwP 214 := in_t7 (List.mem_of_getElem? (i := 54) rfl)
set_option maxRecDepth 20000 in
theorem cw_215 : cwP 215 := in_t7 (List.mem_of_getElem? (i := 50) rfl)
set_option maxRecDepth 20000 in
theorem cw_216 : cwP 216 := in_t7 (List.mem_of_getElem? (i := 31) rfl)
set_option maxRecDepth 20000 in
theorem cw_217 : cwP 217 := in_t7 (List.mem_of_getElem? (i := 27) rfl)
set_option maxRecDepth 20000 in
theorem cw_218 : cwP 218 := in_t7 (List.mem_of_getElem? (i := 8) rfl)
set_option maxRecDepth 20000 in
theorem cw_219 : cwP 219 := in_t7 (List.mem_of_getElem? (i := 4) rfl)
set_option maxRecDepth 20000 in
theorem cw_220 : cwP 220 := in_t7 (List.mem_of_getElem? (i := 107) rfl)
set_option maxRecDepth 20000 in
theorem cw_221 : cwP 221 := in_t7 (List.mem_of_getElem? (i := 115) rfl)
set_option maxRecDepth 20000 in
theorem cw_222 : cwP 222 := in_t7 (List.mem_of_getElem? (i := 119) rfl)
set_option maxRecDepth 20000 in
theorem cw_223 : cwP 223 := in_t7 (List.mem_of_getElem? (i := 162) rfl)
set_option maxRecDepth 20000 in
theorem cw_224 : cwP 224 := in_t7 (List.mem_of_getElem? (i := 123) rfl)
set_option maxRecDepth 20000 in
theorem cw_225 : cwP 225 := in_t7 (List.mem_of_getElem? (i := 131) rfl)
set_option maxRecDepth 20000 in
theorem cw_226 : cwP 226 := in_t7 (List.mem_of_getElem? (i := 135) rfl)
set_option maxRecDepth 20000 in
theorem cw_227 : cwP 227 := in_t7 (List.mem_of_getElem? (i := 145) rfl)
set_option maxRecDepth 20000 in
theorem cw_228 : cwP 228 := in_t7 (List.mem_of_getElem? (i := 142) rfl)
set_option maxRecDepth 20000 in
theorem cw_229 : cwP 229 := in_t7 (List.mem_of_getElem? (i := 150) rfl)
set_option maxRecDepth 20000 in
theorem cw_230 : cwP 230 := in_t7 (List.mem_of_getElem? (i := 139) rfl)
set_option maxRecDepth 20000 in
theorem cw_231 : cwP 231 := in_t7 (List.mem_of_getElem? (i := 127) rfl)
set_option maxRecDepth 20000 in
theorem cw_232 : cwP 232 := in_t7 (List.mem_of_getElem? (i := 166) rfl)
set_option maxRecDepth 20000 in
theorem cw_233 : cwP 233 := in_t7 (List.mem_of_getElem? (i := 111) rfl)
set_option maxRecDepth 20000 in
theorem cw_234 : cwP 234 := in_t7 (List.mem_of_getElem? (i := 158) rfl)
set_option maxRecDepth 20000 in
theorem cw_235 : cwP 235 := in_t7 (List.mem_of_getElem? (i := 154) rfl)
set_option maxRecDepth 20000 in
theorem cw_236 : cwP 236 := in_t7 (List.mem_of_getElem? (i := 174) rfl)
set_option maxRecDepth 20000 in
theorem cw_237 : cwP 237 := in_t7 (List.mem_of_getElem? (i := 170) rfl)
set_option maxRecDepth 20000 in
theorem cw_238 : cwP 238 := in_t7 (List.mem_of_getElem? (i := 182) rfl)
set_option maxRecDepth 20000 in
theorem cw_239 : cwP 239 := in_t7 (List.mem_of_getElem? (i := 187) rfl)
set_option maxRecDepth 20000 in
theorem cw_240 : cwP 240 := in_t7 (List.mem_of_getElem? (i := 178) rfl)
set_option maxRecDepth 20000 in
theorem cw_241 : cwP 241 := in_t7 (List.mem_of_getElem? (i := 207) rfl)
set_option maxRecDepth 20000 in
theorem cw_242 : cwP 242 := in_t7 (List.mem_of_getElem? (i := 203) rfl)
set_option maxRecDepth 20000 in
theorem cw_243 : cwP 243 := in_t7 (List.mem_of_getElem? (i := 211) rfl)
set_option maxRecDepth 20000 in
theorem cw_244 : cwP 244 := in_t7 (List.mem_of_getElem? (i := 199) rfl)
set_option maxRecDepth 20000 in
theorem cw_245 : cwP 245 := in_t7 (List.mem_of_getElem? (i := 195) rfl)
set_option maxRecDepth 20000 in
theorem cw_246 : cwP 246 := in_t7 (List.mem_of_getElem? (i := 191) rfl)
set_option maxRecDepth 20000 in
theorem cw_247 : cwP 247 := in_t7 (List.mem_of_getElem? (i := 215) rfl)
set_option maxRecDepth 20000 in
theorem cw_248 : cwP 248 := in_t7 (List.mem_of_getElem? (i := 232) rfl)
set_option maxRecDepth 20000 in
theorem cw_249 : cwP 249 := in_t7 (List.mem_of_getElem? (i := 228) rfl)
set_option maxRecDepth 20000 in
theorem cw_250 : cwP 250 := in_t7 (List.mem_of_getElem? (i := 224) rfl)
set_option maxRecDepth 20000 in
theorem cw_251 : cwP 251 := in_t7 (List.mem_of_getElem? (i := 219) rfl)
set_option maxRecDepth 20000 in
theorem cw_252 : cwP 252 := in_t8 (List.mem_of_getElem? (i := 0) rfl)
set_option maxRecDepth 20000 in
theorem cw_253 : cwP 253 := in_t7 (List.mem_of_getElem? (i := 236) rfl)
set_option maxRecDepth 20000 in
theorem cw_254 : cwP 254 := in_t8 (List.mem_of_getElem? (i := 4) rfl)
set_option maxRecDepth 20000 in
theorem cw_255 : cwP 255 := in_t8 (List.mem_of_getElem? (i := 12) rfl)
set_option maxRecDepth 20000 in
theorem cw_256 : cwP 256 := in_t8 (List.mem_of_getElem? (i := 8) rfl)
set_option maxRecDepth 20000 in
theorem cw_257 : cwP 257 := in_t8 (List.mem_of_getElem? (i := 20) rfl)
set_option maxRecDepth 20000 in
theorem cw_258 : cwP 258 := in_t8 (List.mem_of_getElem? (i := 16) rfl)
set_option maxRecDepth 20000 in
theorem cw_259 : cwP 259 := in_t8 (List.mem_of_getElem? (i := 24) rfl)
set_option maxRecDepth 20000 in
theorem cw_260 : cwP 260 := in_t8 (List.mem_of_getElem? (i := 32) rfl)
set_option maxRecDepth 20000 in
theorem cw_261 : cwP 261 := in_t8 (List.mem_of_getElem? (i := 28) rfl)
set_option maxRecDepth 20000 in
theorem cw_262 : cwP 262 := in_t8 (List.mem_of_getElem? (i := 48) rfl)
set_option maxRecDepth 20000 in
theorem cw_263 : cwP 263 := in_t8 (List.mem_of_getElem? (i := 40) rfl)
set_option maxRecDepth 20000 in
theorem cw_264 : cwP 264 := in_t8 (List.mem_of_getElem? (i := 44) rfl)
set_option maxRecDepth 20000 in
theorem cw_265 : cwP 265 := in_t8 (List.mem_of_getElem? (i := 36) rfl)
set_option maxRecDepth 20000 in
theorem cw_266 : cwP 266 := in_t8 (List.mem_of_getElem? (i := 52) rfl)
set_option maxRecDepth 20000 in
theorem cw_267 : cwP 267 := in_t8 (List.mem_of_getElem? (i := 56) rfl)
set_option maxRecDepth 20000 in
theorem cw_268 : cwP 268 := in_t8 (List.mem_of_getElem? (i := 60) rfl)
set_option maxRecDepth 20000 in
theorem cw_269 : cwP 269 := in_t8 (List.mem_of_getElem? (i := 68) rfl)
set_option maxRecDepth 20000 in
theorem cw_270 : cwP 270 := in_t8 (List.mem_of_getElem? (i := 64) rfl)
set_option maxRecDepth 20000 in
theorem cw_271 : cwP 271 := in_t8 (List.mem_of_getElem? (i := 80) rfl)
set_option maxRecDepth 20000 in
theorem cw_272 : cwP 272 := in_t8 (List.mem_of_getElem? (i := 83) rfl)
set_option maxRecDepth 20000 in
theorem cw_273 : cwP 273 := in_t8 (List.mem_of_getElem? (i := 76) rfl)
set_option maxRecDepth 20000 in
theorem cw_274 : cwP 274 := in_t8 (List.mem_of_getElem? (i := 87) rfl)
set_option maxRecDepth 20000 in
theorem cw_275 : cwP 275 := in_t8 (List.mem_of_getElem? (i := 72) rfl)
set_option maxRecDepth 20000 in
theorem cw_276 : cwP 276 := in_t8 (List.mem_of_getElem? (i := 95) rfl)
set_option maxRecDepth 20000 in
theorem cw_277 : cwP 277 := in_t8 (List.mem_of_getElem? (i := 99) rfl)
set_option maxRecDepth 20000 in
theorem cw_278 : cwP 278 := in_t8 (List.mem_of_getElem? (i := 91) rfl)
set_option maxRecDepth 20000 in
theorem cw_279 : cwP 279 := in_t8 (List.mem_of_getElem? (i := 103) rfl)
set_option maxRecDepth 20000 in
theorem cw_280 : cwP 280 := in_t8 (List.mem_of_getElem? (i := 107) rfl)
set_option maxRecDepth 20000 in
theorem cw_281 : cwP 281 := in_t8 (List.mem_of_getElem? (i := 115) rfl)
set_option maxRecDepth 20000 in
theorem cw_282 : cwP 282 := in_t8 (List.mem_of_getElem? (i := 111) rfl)
set_option maxRecDepth 20000 in
theorem cw_283 : cwP 283 := in_t4 (List.mem_of_getElem? (i := 124) rfl)
set_option maxRecDepth 20000 in
theorem cw_284 : cwP 284 := in_t4 (List.mem_of_getElem? (i := 128) rfl)
set_option maxRecDepth 20000 in
theorem cw_285 : cwP 285 := in_t5 (List.mem_of_getElem? (i := 147) rfl)
set_option maxRecDepth 20000 in
theorem cw_286 : cwP 286 := in_t3 (List.mem_of_getElem? (i := 102) rfl)
set_option maxRecDepth 20000 in
theorem cw_287 : cwP 287 := in_t4 (List.mem_of_getElem? (i := 53) rfl)
set_option maxRecDepth 20000 in
theorem cw_288 : cwP 288 := in_t2 (List.mem_of_getElem? (i := 205) rfl)
set_option maxRecDepth 20000 in
theorem cw_289 : cwP 289 := in_t4 (List.mem_of_getElem? (i := 50) rfl)
set_option maxRecDepth 20000 in
theorem cw_290 : cwP 290 := in_t3 (List.mem_of_getElem? (i := 89) rfl)
set_option maxRecDepth 20000 in
theorem cw_291 : cwP 291 := in_t3 (List.mem_of_getElem? (i := 165) rfl)
set_option maxRecDepth 20000 in
theorem cw_292 : cwP 292 := in_t3 (List.mem_of_getElem? (i := 75) rfl)
set_option maxRecDepth 20000 in
theorem cw_293 : cwP 293 := in_t3 (List.mem_of_getElem? (i := 79) rfl)
set_option maxRecDepth 20000 in
theorem cw_294 : cwP 294 := in_t3 (List.mem_of_getElem? (i := 93) rfl)
set_option maxRecDepth 20000 in
theorem cw_295 : cwP 295 := in_t3 (List.mem_of_getElem? (i := 83) rfl)
set_option maxRecDepth 20000 in
theorem cw_296 : cwP 296 := in_t3 (List.mem_of_getElem? (i := 171) rfl)
set_option maxRecDepth 20000 in
theorem cw_297 : cwP 297 := in_t3 (List.mem_of_getElem? (i := 168) rfl)
set_option maxRecDepth 20000 in
theorem cw_298 : cwP 298 := in_t3 (List.mem_of_getElem? (i := 99) rfl)
set_option maxRecDepth 20000 in
theorem cw_299 : cwP 299 := in_t3 (List.mem_of_getElem? (i := 96) rfl)
set_option maxRecDepth 20000 in
theorem cw_300 : cwP 300 := in_t3 (List.mem_of_getElem? (i := 106) rfl)
set_option maxRecDepth 20000 in
theorem cw_301 : cwP 301 := in_t3 (List.mem_of_getElem? (i := 174) rfl)
theorem cwc_0 : ∀ y ∈ [0, 1, 2, 3, 4, 5, 6, 7, 8, 9, 10, 11, 12, 13, 14, 15, 16, 17, 18, 19, 20, 21, 22, 23, 24], cwP y := List.forall_mem_cons.mpr ⟨cw_0, List.forall_mem_cons.mpr ⟨cw_1, List.forall_mem_cons.mpr ⟨cw_2, List.forall_mem_cons.mpr ⟨cw_3, List.forall_mem_cons.mpr ⟨cw_4, List.forall_mem_cons.mpr ⟨cw_5, List.forall_mem_cons.mpr ⟨cw_6, List.forall_mem_cons.mpr ⟨cw_7, List.forall_mem_cons.mpr ⟨cw_8, List.forall_mem_cons.mpr ⟨cw_9, List.forall_mem_cons.mpr ⟨cw_10, List.forall_mem_cons.mpr ⟨cw_11, List.forall_mem_cons.mpr ⟨cw_12, List.forall_mem_cons.mpr ⟨cw_13, List.forall_mem_cons.mpr ⟨cw_14, List.forall_mem_cons.mpr ⟨cw_15, List.forall_mem_cons.mpr ⟨cw_16, List.forall_mem_cons.mpr ⟨cw_17, List.forall_mem_cons.mpr ⟨cw_18, List.forall_mem_cons.mpr ⟨cw_19, List.forall_mem_cons.mpr ⟨cw_20, List.forall_mem_cons.mpr ⟨cw_21, List.forall_mem_cons.mpr ⟨cw_22, List.forall_mem_cons.mpr ⟨cw_23, List.forall_mem_cons.mpr ⟨cw_24, fun _ h => absurd h List.not_mem_nil⟩⟩⟩⟩⟩⟩⟩⟩⟩⟩⟩⟩⟩⟩⟩⟩⟩⟩⟩⟩⟩⟩⟩⟩⟩
theorem cwc_25 : ∀ y ∈ [25, 26, 27, 28, 29, 30, 31, 32, 33, 34, 35, 36, 37, 38, 39, 40, 41, 42, 43, 44, 45, 46, 47, 48, 49], cwP y := List.forall_mem_cons.mpr ⟨cw_25, List.forall_mem_cons.mpr ⟨cw_26, List.forall_mem_cons.mpr ⟨cw_27, List.forall_mem_cons.mpr ⟨cw_28, List.forall_mem_cons.mpr ⟨cw_29, List.forall_mem_cons.mpr ⟨cw_30, List.forall_mem_cons.mpr ⟨cw_31, List.forall_mem_cons.mpr ⟨cw_32, List.forall_mem_cons.mpr ⟨cw_33, List.forall_mem_cons.mpr ⟨cw_34, List.forall_mem_cons.mpr ⟨cw_35, List.forall_mem_cons.mpr ⟨cw_36, List.forall_mem_cons.mpr ⟨cw_37, List.forall_mem_cons.mpr ⟨cw_38, List.forall_mem_cons.mpr ⟨cw_39, List.forall_mem_cons.mpr ⟨cw_40, List.forall_mem_cons.mpr ⟨cw_41, List.forall_mem_cons.mpr ⟨cw_42, List.forall_mem_cons.mpr ⟨cw_43, List.forall_mem_cons.mpr ⟨cw_44, List.forall_mem_cons.mpr ⟨cw_45, List.forall_mem_cons.mpr ⟨cw_46, List.forall_mem_cons.mpr ⟨cw_47, List.forall_mem_cons.mpr ⟨cw_48, List.forall_mem_cons.mpr ⟨cw_49, fun _ h => absurd h List.not_mem_nil⟩⟩⟩⟩⟩⟩⟩⟩⟩⟩⟩⟩⟩⟩⟩⟩⟩⟩⟩⟩⟩⟩⟩⟩⟩
theorem cwc_50 : ∀ y ∈ [50, 51, 52, 53, 54, 55, 56, 57, 58, 59, 60, 61, 62, 63, 64, 65, 66, 67, 68, 69, 70, 71, 72, 73, 74], cwP y := List.forall_mem_cons.mpr ⟨cw_50, List.forall_mem_cons.mpr ⟨cw_51, List.forall_mem_cons.mpr ⟨cw_52, List.forall_mem_cons.mpr ⟨cw_53, List.forall_mem_cons.mpr ⟨cw_54, List.forall_mem_cons.mpr ⟨cw_55, List.forall_mem_cons.mpr ⟨cw_56, List.forall_mem_cons.mpr ⟨cw_57, List.forall_mem_cons.mpr ⟨cw_58, List.forall_mem_cons.mpr ⟨cw_59, List.forall_mem_cons.mpr ⟨cw_60, List.forall_mem_cons.mpr ⟨cw_61, List.forall_mem_cons.mpr ⟨cw_62, List.forall_mem_cons.mpr ⟨cw_63, List.forall_mem_cons.mpr ⟨cw_64, List.forall_mem_cons.mpr ⟨cw_65, List.forall_mem_cons.mpr ⟨cw_66, List.forall_mem_cons.mpr ⟨cw_67, List.forall_mem_cons.mpr ⟨cw_68, List.forall_mem_cons.mpr ⟨cw_69, List.forall_mem_cons.mpr ⟨cw_70, List.forall_mem_cons.mpr ⟨cw_71, List.forall_mem_cons.mpr ⟨cw_72, List.forall_mem_cons.mpr ⟨cw_73, List.forall_mem_cons.mpr ⟨cw_74, fun _ h => absurd h List.not_mem_nil⟩⟩⟩⟩⟩⟩⟩⟩⟩⟩⟩⟩⟩⟩⟩⟩⟩⟩⟩⟩⟩⟩⟩⟩⟩
theorem cwc_75 : ∀ y ∈ [75, 76, 77, 78, 79, 80, 81, 82, 83, 84, 85, 86, 87, 88, 89, 90, 91, 92, 93, 94, 95, 96, 97, 98, 99], cwP y := List.forall_mem_cons.mpr ⟨cw_75, List.forall_mem_cons.mpr ⟨cw_76, List.forall_mem_cons.mpr ⟨cw_77, List.forall_mem_cons.mpr ⟨cw_78, List.forall_mem_cons.mpr ⟨cw_79, List.forall_mem_cons.mpr ⟨cw_80, List.forall_mem_cons.mpr ⟨cw_81, List.forall_mem_cons.mpr ⟨cw_82, List.forall_mem_cons.mpr ⟨cw_83, List.forall_mem_cons.mpr ⟨cw_84, List.forall_mem_cons.mpr ⟨cw_85, List.forall_mem_cons.mpr ⟨cw_86, List.forall_mem_cons.mpr ⟨cw_87, List.forall_mem_cons.mpr ⟨cw_88, List.forall_mem_cons.mpr ⟨cw_89, List.forall_mem_cons.mpr ⟨cw_90, List.forall_mem_cons.mpr ⟨cw_91, List.forall_mem_cons.mpr ⟨cw_92, List.forall_mem_cons.mpr ⟨cw_93, List.forall_mem_cons.mpr ⟨cw_94, List.forall_mem_cons.mpr ⟨cw_95, List.forall_mem_cons.mpr ⟨cw_96, List.forall_mem_cons.mpr ⟨cw_97, List.forall_mem_cons.mpr ⟨cw_98, List.forall_mem_cons.mpr ⟨cw_99, fun _ h => absurd h List.not_mem_nil⟩⟩⟩⟩⟩⟩⟩⟩⟩⟩⟩⟩⟩⟩⟩⟩⟩⟩⟩⟩⟩⟩⟩⟩⟩
theorem cwc_100 : ∀ y ∈ [100, 101, 102, 103, 104, 105, 106, 107, 108, 109, 110, 111, 112, 113, 114, 115, 116, 117, 118, 119, 120, 121, 122, 123, 124], cwP y := List.forall_mem_cons.mpr ⟨cw_100, List.forall_mem_cons.mpr ⟨cw_101, List.forall_mem_cons.mpr ⟨cw_102, List.forall_mem_cons.mpr ⟨cw_103, List.forall_mem_cons.mpr ⟨cw_104, List.forall_mem_cons.mpr ⟨cw_105, List.forall_mem_cons.mpr ⟨cw_106, List.forall_mem_cons.mpr ⟨cw_107, List.forall_mem_cons.mpr ⟨cw_108, List.forall_mem_cons.mpr ⟨cw_109, List.forall_mem_cons.mpr ⟨cw_110, List.forall_mem_cons.mpr ⟨cw_111, List.forall_mem_cons.mpr ⟨cw_112, List.forall_mem_cons.mpr ⟨cw_113, List.forall_mem_cons.mpr ⟨cw_114, List.forall_mem_cons.mpr ⟨cw_115, List.forall_mem_cons.mpr ⟨cw_116, List.forall_mem_cons.mpr ⟨cw_117, List.forall_mem_cons.mpr ⟨cw_118, List.forall_mem_cons.mpr ⟨cw_119, List.forall_mem_cons.mpr ⟨cw_120, List.forall_mem_cons.mpr ⟨cw_121, List.forall_mem_cons.mpr ⟨cw_122, List.forall_mem_cons.mpr ⟨cw_123, List.forall_mem_cons.mpr ⟨cw_124, fun _ h => absurd h List.not_mem_nil⟩⟩⟩⟩⟩⟩⟩⟩⟩⟩⟩⟩⟩⟩⟩⟩⟩⟩⟩⟩⟩⟩⟩⟩⟩
theorem cwc_125 : ∀ y ∈ [125, 126, 127, 128, 129, 130, 131, 132, 133, 134, 135, 136, 137, 138, 139, 140, 141, 142, 143, 144, 145, 146, 147, 148, 149], cwP y := List.forall_mem_cons.mpr ⟨cw_125, List.forall_mem_cons.mpr ⟨cw_126, List.forall_mem_cons.mpr ⟨cw_127, List.forall_mem_cons.mpr ⟨cw_128, List.forall_mem_cons.mpr ⟨cw_129, List.forall_mem_cons.mpr ⟨cw_130, List.forall_mem_cons.mpr ⟨cw_131, List.forall_mem_cons.mpr ⟨cw_132, List.forall_mem_cons.mpr ⟨cw_133, List.forall_mem_cons.mpr ⟨cw_134, List.forall_mem_cons.mpr ⟨cw_135, List.forall_mem_cons.mpr ⟨cw_136, List.forall_mem_cons.mpr ⟨cw_137, List.forall_mem_cons.mpr ⟨cw_138, List.forall_mem_cons.mpr ⟨cw_139, List.forall_mem_cons.mpr ⟨cw_140, List.forall_mem_cons.mpr ⟨cw_141, List.forall_mem_cons.mpr ⟨cw_142, List.forall_mem_cons.mpr ⟨cw_143, List.forall_mem_cons.mpr ⟨cw_144, List.forall_mem_cons.mpr ⟨cw_145, List.forall_mem_cons.mpr ⟨cw_146, List.forall_mem_cons.mpr ⟨cw_147, List.forall_mem_cons.mpr ⟨cw_148, List.forall_mem_cons.mpr ⟨cw_149, fun _ h => absurd h List.not_mem_nil⟩⟩⟩⟩⟩⟩⟩⟩⟩⟩⟩⟩⟩⟩⟩⟩⟩⟩⟩⟩⟩⟩⟩⟩⟩
theorem cwc_150 : ∀ y ∈ [150, 151, 152, 153, 154, 155, 156, 157, 158, 159, 160, 161, 162, 163, 164, 165, 166, 167, 168, 169, 170, 171, 172, 173, 174], cwP y := List.forall_mem_cons.mpr ⟨cw_150, List.forall_mem_cons.mpr ⟨cw_151, List.forall_mem_cons.mpr ⟨cw_152, List.forall_mem_cons.mpr ⟨cw_153, List.forall_mem_cons.mpr ⟨cw_154, List.forall_mem_cons.mpr ⟨cw_155, List.forall_mem_cons.mpr ⟨cw_156, List.forall_mem_cons.mpr ⟨cw_157, List.forall_mem_cons.mpr ⟨cw_158, List.forall_mem_cons.mpr ⟨cw_159, List.forall_mem_cons.mpr ⟨cw_160, List.forall_mem_cons.mpr ⟨cw_161, List.forall_mem_cons.mpr ⟨cw_162, List.forall_mem_cons.mpr ⟨cw_163, List.forall_mem_cons.mpr ⟨cw_164, List.forall_mem_cons.mpr ⟨cw_165, List.forall_mem_cons.mpr ⟨cw_166, List.forall_mem_cons.mpr ⟨cw_167, List.forall_mem_cons.mpr ⟨cw_168, List.forall_mem_cons.mpr ⟨cw_169, List.forall_mem_cons.mpr ⟨cw_170, List.forall_mem_cons.mpr ⟨cw_171, List.forall_mem_cons.mpr ⟨cw_172, List.forall_mem_cons.mpr ⟨cw_173, List.forall_mem_cons.mpr ⟨cw_174, fun _ h => absurd h List.not_mem_nil⟩⟩⟩⟩⟩⟩⟩⟩⟩⟩⟩⟩⟩⟩⟩⟩⟩⟩⟩⟩⟩⟩⟩⟩⟩
theorem cwc_175 : ∀ y ∈ [175, 176, 177, 178, 179, 180, 181, 182, 183, 184, 185, 186, 187, 188, 189, 190, 191, 192, 193, 194, 195, 196, 197, 198, 199], cwP y := List.forall_mem_cons.mpr ⟨cw_175, List.forall_mem_cons.mpr ⟨cw_176, List.forall_mem_cons.mpr ⟨cw_177, List.forall_mem_cons.mpr ⟨cw_178, List.forall_mem_cons.mpr ⟨cw_179, List.forall_mem_cons.mpr ⟨cw_180, List.forall_mem_cons.mpr ⟨cw_181, List.forall_mem_cons.mpr ⟨cw_182, List.forall_mem_cons.mpr ⟨cw_183, List.forall_mem_cons.mpr ⟨cw_184, List.forall_mem_cons.mpr ⟨cw_185, List.forall_mem_cons.mpr ⟨cw_186, List.forall_mem_cons.mpr ⟨cw_187, List.forall_mem_cons.mpr ⟨cw_188, List.forall_mem_cons.mpr ⟨cw_189, List.forall_mem_cons.mpr ⟨cw_190, List.forall_mem_cons.mpr ⟨cw_191, List.forall_mem_cons.mpr ⟨cw_192, List.forall_mem_cons.mpr ⟨cw_193, List.forall_mem_cons.mpr ⟨cw_194, List.forall_mem_cons.mpr ⟨cw_195, List.forall_mem_cons.mpr ⟨cw_196, List.forall_mem_cons.mpr ⟨cw_197, List.forall_mem_cons.mpr ⟨cw_198, List.forall_mem_cons.mpr ⟨cw_199, fun _ h => absurd h List.not_mem_nil⟩⟩⟩⟩⟩⟩⟩⟩⟩⟩⟩⟩⟩⟩⟩⟩⟩⟩⟩⟩⟩⟩⟩⟩⟩
theorem cwc_200 : ∀ y ∈ [200, 201, 202, 203, 204, 205, 206, 207, 208, 209, 210, 211, 212, 213, 214, 215, 216, 217, 218, 219, 220, 221, 222, 223, 224], cwP y := List.forall_mem_cons.mpr ⟨cw_200, List.forall_mem_cons.mpr ⟨cw_201, List.forall_mem_cons.mpr ⟨cw_202, List.forall_mem_cons.mpr ⟨cw_203, List.forall_mem_cons.mpr ⟨cw_204, List.forall_mem_cons.mpr ⟨cw_205, List.forall_mem_cons.mpr ⟨cw_206, List.forall_mem_cons.mpr ⟨cw_207, List.forall_mem_cons.mpr ⟨cw_208, List.forall_mem_cons.mpr ⟨cw_209, List.forall_mem_cons.mpr ⟨cw_210, List.forall_mem_cons.mpr ⟨cw_211, List.forall_mem_cons.mpr ⟨cw_212, List.forall_mem_cons.mpr ⟨cw_213, List.forall_mem_cons.mpr ⟨cw_214, List.forall_mem_cons.mpr ⟨cw_215, List.forall_mem_cons.mpr ⟨cw_216, List.forall_mem_cons.mpr ⟨cw_217, List.forall_mem_cons.mpr ⟨cw_218, List.forall_mem_cons.mpr ⟨cw_219, List.forall_mem_cons.mpr ⟨cw_220, List.forall_mem_cons.mpr ⟨cw_221, List.forall_mem_cons.mpr ⟨cw_222, List.forall_mem_cons.mpr ⟨cw_223, List.forall_mem_cons.mpr ⟨cw_224, fun _ h => absurd h List.not_mem_nil⟩⟩⟩⟩⟩⟩⟩⟩⟩⟩⟩⟩⟩⟩⟩⟩⟩⟩⟩⟩⟩⟩⟩⟩⟩
theorem cwc_225 : ∀ y ∈ [225, 226, 227, 228, 229, 230, 231, 232, 233, 234, 235, 236, 237, 238, 239, 240, 241, 242, 243, 244, 245, 246, 247, 248, 249], cwP y := List.forall_mem_cons.mpr ⟨cw_225, List.forall_mem_cons.mpr ⟨cw_226, List.forall_mem_cons.mpr ⟨cw_227, List.forall_mem_cons.mpr ⟨cw_228, List.forall_mem_cons.mpr ⟨cw_229, List.forall_mem_cons.mpr ⟨cw_230, List.forall_mem_cons.mpr ⟨cw_231, List.forall_mem_cons.mpr ⟨cw_232, List.forall_mem_cons.mpr ⟨cw_233, List.forall_mem_cons.mpr ⟨cw_234, List.forall_mem_cons.mpr ⟨cw_235, List.forall_mem_cons.mpr ⟨cw_236, List.forall_mem_cons.mpr ⟨cw_237, List.forall_mem_cons.mpr ⟨cw_238, List.forall_mem_cons.mpr ⟨cw_239, List.forall_mem_cons.mpr ⟨cw_240, List.forall_mem_cons.mpr ⟨cw_241, List.forall_mem_cons.mpr ⟨cw_242, List.forall_mem_cons.mpr ⟨cw_243, List.forall_mem_cons.mpr ⟨cw_244, List.forall_mem_cons.mpr ⟨cw_245, List.forall_mem_cons.mpr ⟨cw_246, List.forall_mem_cons.mpr ⟨cw_247, List.forall_mem_cons.mpr ⟨cw_248, List.forall_mem_cons.mpr ⟨cw_249, fun _ h => absurd h List.not_mem_nil⟩⟩⟩⟩⟩⟩⟩⟩⟩⟩⟩⟩⟩⟩⟩⟩⟩⟩⟩⟩⟩⟩⟩⟩⟩
theorem cwc_250 : ∀ y ∈ [250, 251, 252, 253, 254, 255, 256, 257, 258, 259, 260, 261, 262, 263, 264, 265, 266, 267, 268, 269, 270, 271, 272, 273, 274], cwP y := List.forall_mem_cons.mpr ⟨cw_250, List.forall_mem_cons.mpr ⟨cw_251, List.forall_mem_cons.mpr ⟨cw_252, List.forall_mem_cons.mpr ⟨cw_253, List.forall_mem_cons.mpr ⟨cw_254, List.forall_mem_cons.mpr ⟨cw_255, List.forall_mem_cons.mpr ⟨cw_256, List.forall_mem_cons.mpr ⟨cw_257, List.forall_mem_cons.mpr ⟨cw_258, List.forall_mem_cons.mpr ⟨cw_259, List.forall_mem_cons.mpr ⟨cw_260, List.forall_mem_cons.mpr ⟨cw_261, List.forall_mem_cons.mpr ⟨cw_262, List.forall_mem_cons.mpr ⟨cw_263, List.forall_mem_cons.mpr ⟨cw_264, List.forall_mem_cons.mpr ⟨cw_265, List.forall_mem_cons.mpr ⟨cw_266, List.forall_mem_cons.mpr ⟨cw_267, List.forall_mem_cons.mpr ⟨cw_268, List.forall_mem_cons.mpr ⟨cw_269, List.forall_mem_cons.mpr ⟨cw_270, List.forall_mem_cons.mpr ⟨cw_271, List.forall_mem_cons.mpr ⟨cw_272, List.forall_mem_cons.mpr ⟨cw_273, List.forall_mem_cons.mpr ⟨cw_274, fun _ h => absurd h List.not_mem_nil⟩⟩⟩⟩⟩⟩⟩⟩⟩⟩⟩⟩⟩⟩⟩⟩⟩⟩⟩⟩⟩⟩⟩⟩⟩
theorem cwc_275 : ∀ y ∈ [275, 276, 277, 278, 279, 280, 281, 282, 283, 284, 285, 286, 287, 288, 289, 290, 291, 292, 293, 294, 295, 296, 297, 298, 299], cwP y := List.forall_mem_cons.mpr ⟨cw_275, List.forall_mem_cons.mpr ⟨cw_276, List.forall_mem_cons.mpr ⟨cw_277, List.forall_mem_cons.mpr ⟨cw_278, List.forall_mem_cons.mpr ⟨cw_279, List.forall_mem_cons.mpr ⟨cw_280, List.forall_mem_cons.mpr ⟨cw_281, List.forall_mem_cons.mpr ⟨cw_282, List.forall_mem_cons.mpr ⟨cw_283, List.forall_mem_cons.mpr ⟨cw_284, List.forall_mem_cons.mpr ⟨cw_285, List.forall_mem_cons.mpr ⟨cw_286, List.forall_mem_cons.mpr ⟨cw_287, List.forall_mem_cons.mpr ⟨cw_288, List.forall_mem_cons.mpr ⟨cw_289, List.forall_mem_cons.mpr ⟨cw_290, List.forall_mem_cons.mpr ⟨cw_291, List.forall_mem_cons.mpr ⟨cw_292, List.forall_mem_cons.mpr ⟨cw_293, List.forall_mem_cons.mpr ⟨cw_294, List.forall_mem_cons.mpr ⟨cw_295, List.forall_mem_cons.mpr ⟨cw_296, List.forall_mem_cons.mpr ⟨cw_297, List.forall_mem_cons.mpr ⟨cw_298, List.forall_mem_cons.mpr ⟨cw_299, fun _ h => absurd h List.not_mem_nil⟩⟩⟩⟩⟩⟩⟩⟩⟩⟩⟩⟩⟩⟩⟩⟩⟩⟩⟩⟩⟩⟩⟩⟩⟩
theorem cwc_300 : ∀ y ∈ [300, 301], cwP y := List.forall_mem_cons.mpr ⟨cw_300, List.forall_mem_cons.mpr ⟨cw_301, fun _ h => absurd h List.not_mem_nil⟩⟩
theorem cwAll : ∀ y, y < 302 → cwP y := by
  intro y h
  by_cases h0 : y < 25
  · exact cwc_0 y (by
      have := List.mem_range'_1 (m := y) (s := 0) (n := 25) |>.mpr ⟨by omega, by omega⟩
      exact this)
  by_cases h25 : y < 50
  · exact cwc_25 y (by
      have := List.mem_range'_1 (m := y) (s := 25) (n := 25) |>.mpr ⟨by omega, by omega⟩
      exact this)
  by_cases h50 : y < 75
  · exact cwc_50 y (by
      have := List.mem_range'_1 (m := y) (s := 50) (n := 25) |>.mpr ⟨by omega, by omega⟩
      exact this)
  by_cases h75 : y < 100
  · exact cwc_75 y (by
      have := List.mem_range'_1 (m := y) (s := 75) (n := 25) |>.mpr ⟨by omega, by omega⟩
      exact this)
  by_cases h100 : y < 125
  · exact cwc_100 y (by
      have := List.mem_range'_1 (m := y) (s := 100) (n := 25) |>.mpr ⟨by omega, by omega⟩
      exact this)
  by_cases h125 : y < 150
  · exact cwc_125 y (by
      have := List.mem_range'_1 (m := y) (s := 125) (n := 25) |>.mpr ⟨by omega, by omega⟩
      exact this)
  by_cases h150 : y < 175
  · exact cwc_150 y (by
      have := List.mem_range'_1 (m := y) (s := 150) (n := 25) |>.mpr ⟨by omega, by omega⟩
      exact this)
  by_cases h175 : y < 200
  · exact cwc_175 y (by
      have := List.mem_range'_1 (m := y) (s := 175) (n := 25) |>.mpr ⟨by omega, by omega⟩
      exact this)
  by_cases h200 : y < 225
  · exact cwc_200 y (by
      have := List.mem_range'_1 (m := y) (s := 200) (n := 25) |>.mpr ⟨by omega, by omega⟩
      exact this)
  by_cases h225 : y < 250
  · exact cwc_225 y (by
      have := List.mem_range'_1 (m := y) (s := 225) (n := 25) |>.mpr ⟨by omega, by omega⟩
      exact this)
  by_cases h250 : y < 275
  · exact cwc_250 y (by
      have := List.mem_range'_1 (m := y) (s := 250) (n := 25) |>.mpr ⟨by omega, by omega⟩
      exact this)
  by_cases h275 : y < 300
  · exact cwc_275 y (by
      have := List.mem_range'_1 (m := y) (s := 275) (n := 25) |>.mpr ⟨by omega, by omega⟩
      exact this)
  by_cases h300 : y < 302
  · exact cwc_300 y (by
      have := List.mem_range'_1 (m := y) (s := 300) (n := 2) |>.mpr ⟨by omega, by omega⟩
      exact this)
  omega
def mwT : List (Nat × Nat × Nat × Nat) := [(170, 116, 169, 0), (1075, 116, 1073, 1074), (1289, 116, 1287, 1288), (1083, 116, 1081, 1082), (1092, 116, 1090, 1091), (1097, 116, 1095, 1096), (228, 119, 227, 0), (524, 119, 522, 523), (1272, 119, 1270, 1271), (536, 119, 534, 535), (543, 119, 541, 542), (579, 119, 577, 578), (564, 119, 562, 563), (551, 119, 549, 550), (571, 119, 569, 570), (949, 119, 947, 948), (1170, 119, 1168, 1169), (595, 119, 593, 594), (599, 119, 598, 0), (619, 119, 617, 618), (607, 119, 605, 606), (611, 119, 610, 1), (615, 119, 614, 2), (340, 122, 339, 0), (850, 122, 849, 0), (643, 122, 641, 642), (828, 122, 826, 827), (858, 122, 856, 857), (862, 122, 861, 21), (866, 122, 865, 22), (847, 122, 846, 0), (871, 122, 870, 23), (874, 122, 873, 0), (877, 122, 876, 0), (188, 117, 187, 0), (1110, 117, 1109, 0), (1107, 117, 1105, 1106), (1293, 117, 1291, 1292), (1118, 117, 1116, 1117), (1126, 117, 1124, 1125), (1134, 117, 1133, 0), (1131, 117, 1130, 35), (1138, 117, 1136, 1137), (1142, 117, 1141, 36), (418, 123, 417, 0), (909, 123, 907, 908), (916, 123, 915, 25), (937, 123, 936, 26), (923, 123, 921, 922), (933, 123, 931, 932), (941, 123, 940, 27), (971, 123, 969, 970), (977, 123, 976, 28), (1007, 123, 1005, 1006), (1016, 123, 1015, 31), (1011, 123, 1010, 30), (1020, 123, 1019, 32), (1038, 123, 1036, 1037), (1059, 123, 1057, 1058), (1065, 123, 1064, 34), (1152, 123, 1150, 1151), (1157, 123, 1156, 37), (486, 124, 485, 0), (990, 124, 988, 989), (995, 124, 993, 994), (999, 124, 997, 998), (334, 121, 333, 0), (627, 121, 625, 626), (854, 121, 852, 853), (639, 121, 637, 638), (799, 121, 798, 10), (804, 121, 803, 11), (795, 121, 794, 9), (808, 121, 807, 12), (812, 121, 811, 13), (816, 121, 815, 14), (820, 121, 819, 15), (824, 121, 823, 16), (832, 121, 831, 17), (836, 121, 835, 18), (840, 121, 839, 19), (844, 121, 843, 20), (647, 121, 646, 3), (651, 121, 650, 4), (658, 121, 657, 5), (789, 121, 788, 8), (662, 121, 661, 6), (752, 121, 751, 7), (654, 121, 653, 0), (785, 121, 784, 0), (211, 118, 210, 0), (1184, 118, 1182, 1183), (1297, 118, 1295, 1296), (1196, 118, 1195, 38), (1192, 118, 1190, 1191), (1208, 118, 1206, 1207), (1225, 118, 1223, 1224), (1229, 118, 1227, 1228), (1204, 118, 1202, 1203), (1212, 118, 1211, 39), (1216, 118, 1215, 40), (1233, 118, 1231, 1232), (1237, 118, 1235, 1236), (1240, 118, 1239, 0), (274, 120, 273, 0), (1279, 120, 1277, 1278), (156, 115, 155, 0), (1028, 115, 1026, 1027), (1284, 115, 1282, 1283), (1310, 115, 1308, 1309), (1042, 115, 1040, 1041), (1046, 115, 1045, 33), (146, 114, 145, 0), (532, 114, 530, 531), (905, 114, 903, 904), (1268, 114, 1266, 1267), (138, 113, 137, 0), (520, 113, 518, 519), (528, 113, 526, 527), (547, 113, 545, 546), (575, 113, 573, 574), (591, 113, 589, 590), (603, 113, 601, 602), (623, 113, 621, 622), (631, 113, 629, 630), (635, 113, 633, 634), (893, 113, 891, 892), (897, 113, 895, 896), (929, 113, 927, 928), (967, 113, 965, 966), (981, 113, 979, 980), (1003, 113, 1001, 1002), (1024, 113, 1022, 1023), (1032, 113, 1030, 1031), (1055, 113, 1053, 1054), (1070, 113, 1068, 1069), (1079, 113, 1077, 1078), (1088, 113, 1086, 1087), (1103, 113, 1101, 1102), (1114, 113, 1112, 1113), (1122, 113, 1120, 1121), (1148, 113, 1146, 1147), (1162, 113, 1160, 1161), (1180, 113, 1178, 1179), (1188, 113, 1186, 1187), (1200, 113, 1198, 1199), (1247, 113, 1245, 1246), (1264, 113, 1262, 1263), (1302, 113, 1300, 1301), (1306, 113, 1304, 1305), (1315, 113, 1314, 43), (1319, 113, 1318, 44), (901, 113, 900, 24), (986, 113, 985, 29), (1166, 113, 1165, 0), (1175, 113, 1174, 0), (1251, 113, 1250, 41), (1254, 113, 1253, 0), (1260, 113, 1259, 42), (888, 113, 887, 0), (919, 113, 918, 0), (582, 113, 581, 0), (912, 113, 911, 0), (554, 113, 553, 0), (560, 113, 559, 0), (567, 113, 566, 0), (952, 113, 951, 0), (585, 113, 584, 0), (944, 113, 943, 0), (539, 113, 538, 0), (1324, 125, 1323, 0), (1328, 125, 1327, 0), (1468, 125, 1467, 0), (1476, 125, 1475, 45), (1520, 125, 1519, 54), (1465, 125, 1463, 1464), (1484, 125, 1483, 47), (1488, 125, 1487, 48), (1480, 125, 1479, 46), (1472, 125, 1470, 1471), (1500, 125, 1499, 50), (1508, 125, 1507, 52), (1504, 125, 1503, 51), (1496, 125, 1495, 49), (1492, 125, 1490, 1491), (1516, 125, 1515, 53), (1512, 125, 1510, 1511), (1532, 125, 1531, 56), (1528, 125, 1527, 55), (1524, 125, 1522, 1523), (1540, 125, 1539, 57), (1536, 125, 1534, 1535), (1548, 125, 1547, 58), (1544, 125, 1542, 1543), (1552, 125, 1550, 1551), (1568, 125, 1567, 61), (1575, 125, 1574, 0), (1571, 125, 1570, 0), (1564, 125, 1563, 60), (1589, 125, 1588, 0), (1596, 125, 1595, 0), (1586, 125, 1585, 0), (1593, 125, 1592, 64), (1630, 125, 1629, 72), (1634, 125, 1633, 73), (1638, 125, 1637, 74), (1626, 125, 1625, 71), (1646, 125, 1645, 76), (1642, 125, 1641, 75), (1618, 125, 1617, 69), (1614, 125, 1613, 68), (1622, 125, 1621, 70), (1610, 125, 1609, 67), (1654, 125, 1653, 77), (1606, 125, 1605, 66), (1602, 125, 1601, 65), (1583, 125, 1582, 63), (1579, 125, 1578, 62), (1560, 125, 1559, 59), (1556, 125, 1554, 1555), (1659, 125, 1657, 1658), (1667, 125, 1666, 78), (1671, 125, 1670, 79), (1714, 125, 1713, 86), (1675, 125, 1674, 80), (1683, 125, 1682, 82), (1687, 125, 1686, 83), (1697, 125, 1696, 0), (1694, 125, 1693, 0), (1702, 125, 1701, 0), (1691, 125, 1690, 84), (1679, 125, 1678, 81), (1718, 125, 1717, 87), (1663, 125, 1661, 1662), (1710, 125, 1709, 85), (1706, 125, 1704, 1705), (1726, 125, 1725, 88), (1722, 125, 1720, 1721), (1734, 125, 1733, 0), (1739, 125, 1738, 89), (1730, 125, 1728, 1729), (1759, 125, 1758, 93), (1755, 125, 1754, 92), (1763, 125, 1762, 94), (1751, 125, 1750, 91), (1747, 125, 1746, 90), (1743, 125, 1741, 1742), (1767, 125, 1765, 1766), (1784, 125, 1783, 97), (1780, 125, 1779, 96), (1776, 125, 1775, 95), (1771, 125, 1769, 1770), (1792, 125, 1791, 98), (1788, 125, 1786, 1787), (1796, 125, 1794, 1795), (1804, 125, 1803, 99), (1800, 125, 1798, 1799), (1812, 125, 1811, 100), (1808, 125, 1806, 1807), (1816, 125, 1814, 1815), (1824, 125, 1823, 101), (1820, 125, 1818, 1819), (1840, 125, 1839, 104), (1832, 125, 1831, 102), (1836, 125, 1835, 103), (1828, 125, 1826, 1827), (1844, 125, 1842, 1843), (1848, 125, 1846, 1847), (1852, 125, 1850, 1851), (1860, 125, 1859, 105), (1856, 125, 1854, 1855), (1872, 125, 1871, 107), (1875, 125, 1874, 0), (1868, 125, 1867, 106), (1879, 125, 1878, 108), (1864, 125, 1862, 1863), (1887, 125, 1886, 109), (1891, 125, 1890, 110), (1883, 125, 1881, 1882), (1895, 125, 1893, 1894), (1899, 125, 1897, 1898), (1907, 125, 1906, 111), (1903, 125, 1901, 1902), (956, 132, 955, 0), (960, 132, 959, 0), (1219, 126, 1218, 0), (694, 126, 693, 0), (885, 126, 884, 0), (557, 126, 556, 0), (882, 126, 881, 0), (681, 127, 679, 680), (757, 127, 755, 756), (667, 127, 665, 666), (671, 127, 669, 670), (685, 127, 683, 684), (675, 127, 673, 674), (763, 127, 762, 0), (760, 128, 759, 0), (691, 128, 690, 0), (688, 128, 687, 0), (698, 128, 697, 0), (766, 130, 765, 0)]
def mwOf (z : Nat) : Nat × Nat × Nat × Nat := (mwT[z]?).getD (0, 0, 0, 0)
def okMw (z : Nat) : Bool := decide (lw_tbl[(mwOf z).2.1]? = some (.initialized (mName z).cls)) && plainFor (mName z) && decide ((mName z).cls ≠ "java/lang/invoke/MethodHandle" ∧ (mName z).cls ≠ "java/lang/invoke/VarHandle") && decide ((parseMethodDescriptor (mName z).desc).map (fun d => d.parameters.length) = some ((npT[z]?).getD 0)) && decide (mMl z ≤ 45) &&
  (match (skT[z]?).getD 9 with
  | 0 => decide (lw_tbl[(mwOf z).2.2.1]? = some (.static (mName z)))
  | 1 => decide (lw_tbl[(mwOf z).2.2.1]? = some (.instanceMethod (mName z))) && decide (lw_tbl[(mwOf z).2.2.2]? = some (.selects (mName z).cls (mName z) (mName z))) && decide (ownN ((tgT[z]?).getD 999) = (mName z).cls) && decide ((tgT[z]?).getD 999 < 13 ∨ (tgT[z]?).getD 999 = 50)
  | 2 => decide (lw_tbl[(mwOf z).2.2.1]? = some (.instanceMethod (mName z))) && decide ((mName z).name = "<init>") && decide (mRet z = none) && decide ((tgT[z]?).getD 999 < 13)
  | _ => false)
  && decide (mOff z 0 = 0) && decide ((sgOf z).length = (npT[z]?).getD 0 + (if (skT[z]?).getD 9 = 0 then 0 else 1))
set_option maxRecDepth 100000 in
theorem okMw_0 : (List.range' 0 25).all okMw = true := by decide +kernel
set_option maxRecDepth 100000 in
theorem okMw_25 : (List.range' 25 25).all okMw = true := by decide +kernel
set_option maxRecDepth 100000 in
theorem okMw_50 : (List.range' 50 25).all okMw = true := by decide +kernel
set_option maxRecDepth 100000 in
theorem okMw_75 : (List.range' 75 25).all okMw = true := by decide +kernel
set_option maxRecDepth 100000 in
theorem okMw_100 : (List.range' 100 25).all okMw = true := by decide +kernel
set_option maxRecDepth 100000 in
theorem okMw_125 : (List.range' 125 25).all okMw = true := by decide +kernel
set_option maxRecDepth 100000 in
theorem okMw_150 : (List.range' 150 25).all okMw = true := by decide +kernel
set_option maxRecDepth 100000 in
theorem okMw_175 : (List.range' 175 25).all okMw = true := by decide +kernel
set_option maxRecDepth 100000 in
theorem okMw_200 : (List.range' 200 25).all okMw = true := by decide +kernel
set_option maxRecDepth 100000 in
theorem okMw_225 : (List.range' 225 25).all okMw = true := by decide +kernel
set_option maxRecDepth 100000 in
theorem okMw_250 : (List.range' 250 25).all okMw = true := by decide +kernel
set_option maxRecDepth 100000 in
theorem okMw_275 : (List.range' 275 25).all okMw = true := by decide +kernel
set_option maxRecDepth 100000 in
theorem okMw_300 : (List.range' 300 2).all okMw = true := by decide +kernel
theorem okMw_all {z : Nat} (h : z < 302) : okMw z = true := by
  by_cases h0 : z < 25
  · exact List.all_eq_true.mp okMw_0 z (List.mem_range'_1.mpr ⟨by omega, by omega⟩)
  by_cases h25 : z < 50
  · exact List.all_eq_true.mp okMw_25 z (List.mem_range'_1.mpr ⟨by omega, by omega⟩)
  by_cases h50 : z < 75
  · exact List.all_eq_true.mp okMw_50 z (List.mem_range'_1.mpr ⟨by omega, by omega⟩)
  by_cases h75 : z < 100
  · exact List.all_eq_true.mp okMw_75 z (List.mem_range'_1.mpr ⟨by omega, by omega⟩)
  by_cases h100 : z < 125
  · exact List.all_eq_true.mp okMw_100 z (List.mem_range'_1.mpr ⟨by omega, by omega⟩)
  by_cases h125 : z < 150
  · exact List.all_eq_true.mp okMw_125 z (List.mem_range'_1.mpr ⟨by omega, by omega⟩)
  by_cases h150 : z < 175
  · exact List.all_eq_true.mp okMw_150 z (List.mem_range'_1.mpr ⟨by omega, by omega⟩)
  by_cases h175 : z < 200
  · exact List.all_eq_true.mp okMw_175 z (List.mem_range'_1.mpr ⟨by omega, by omega⟩)
  by_cases h200 : z < 225
  · exact List.all_eq_true.mp okMw_200 z (List.mem_range'_1.mpr ⟨by omega, by omega⟩)
  by_cases h225 : z < 250
  · exact List.all_eq_true.mp okMw_225 z (List.mem_range'_1.mpr ⟨by omega, by omega⟩)
  by_cases h250 : z < 275
  · exact List.all_eq_true.mp okMw_250 z (List.mem_range'_1.mpr ⟨by omega, by omega⟩)
  by_cases h275 : z < 300
  · exact List.all_eq_true.mp okMw_275 z (List.mem_range'_1.mpr ⟨by omega, by omega⟩)
  by_cases h300 : z < 302
  · exact List.all_eq_true.mp okMw_300 z (List.mem_range'_1.mpr ⟨by omega, by omega⟩)
  omega
theorem mw_gw {i : Nat} {w : Jvm.Cond} (h : lw_tbl[i]? = some w) (hg : goodWord w = true) : w ∈ gW := List.mem_filter.mpr ⟨List.mem_of_getElem? h, hg⟩
/-- what is known of a method -/
theorem mw_ok {z : Nat} (hz : z < 302) : (Jvm.Cond.code (mName z) (mByt z) (mMl z) (mRet z) ∈ gW ∧ Jvm.Cond.initialized (mName z).cls ∈ gW ∧ plainFor (mName z) = true) ∧ (((mName z).cls ≠ "java/lang/invoke/MethodHandle" ∧ (mName z).cls ≠ "java/lang/invoke/VarHandle") ∧ (parseMethodDescriptor (mName z).desc).map (fun d => d.parameters.length) = some ((npT[z]?).getD 0) ∧ mMl z ≤ 45 ∧ mOff z 0 = 0 ∧ (sgOf z).length = (npT[z]?).getD 0 + (if (skT[z]?).getD 9 = 0 then 0 else 1)) ∧
    (((skT[z]?).getD 9 = 0 ∧ Jvm.Cond.static (mName z) ∈ gW) ∨ ((skT[z]?).getD 9 = 1 ∧ Jvm.Cond.instanceMethod (mName z) ∈ gW ∧ Jvm.Cond.selects (mName z).cls (mName z) (mName z) ∈ gW ∧ ownN ((tgT[z]?).getD 999) = (mName z).cls ∧ ((tgT[z]?).getD 999 < 13 ∨ (tgT[z]?).getD 999 = 50)) ∨
     ((skT[z]?).getD 9 = 2 ∧ Jvm.Cond.instanceMethod (mName z) ∈ gW ∧ (mName z).name = "<init>" ∧ mRet z = none ∧ (tgT[z]?).getD 999 < 13)) := by
  have h := okMw_all hz
  unfold okMw at h
  simp only [Bool.and_eq_true, decide_eq_true_eq] at h
  obtain ⟨⟨⟨⟨⟨⟨⟨h2, h3⟩, h4⟩, h5⟩, h6⟩, h7⟩, h8⟩, h10⟩ := h
  refine ⟨⟨List.mem_filter.mpr ⟨cwAll z hz, rfl⟩, mw_gw h2 rfl, h3⟩, ⟨h4, h5, h6, h8, h10⟩, ?_⟩
  split at h7
  · rename_i g; exact Or.inl ⟨g, mw_gw (of_decide_eq_true h7) rfl⟩
  · rename_i g
    simp only [Bool.and_eq_true, decide_eq_true_eq] at h7
    exact Or.inr (Or.inl ⟨g, mw_gw h7.1.1.1 rfl, mw_gw h7.1.1.2 rfl, h7.1.2, h7.2⟩)
  · rename_i g
    simp only [Bool.and_eq_true, decide_eq_true_eq] at h7
    exact Or.inr (Or.inr ⟨g, mw_gw h7.1.1.1 rfl, h7.1.1.2, h7.1.2, h7.2⟩)
  · cases h7
end
section
/-! the simulation, last part: calls -/
def rmO (d : Nat) (hp hp' : HP) : Room := { frames := d, cells := hp'.1.length - hp.1.length, slots := sl hp'.1 - sl hp.1, locals := 64 * d }
def PcO (P : PB) (L : Nat) (xs : Nat → Int32) (av : List AV) (hp : HP) : Array Value → State → Prop := fun v U => v = (av.map (cv P)).toArray ∧ WD P L xs U ∧ U.heap.size = P.1 + (hp.1.length - KX) ∧ va_P P.2.2.2.1 vwCl (wsO P hp) U.heap
def QcO (P : PB) (r : RT) : Array Value → State → Outcome → State → Prop := fun _ st oc t => oc = .returned ((r.1.map (cv P)).head?) ∧ va_P P.2.2.2.1 vwCl (wsO P r.2) t.heap ∧ va_F (RG P) st t
def wsM (z : Nat) : List Jvm.Cond := Jvm.Cond.code (mName z) (mByt z) (mMl z) (mRet z) :: gW
def MetOK (l : Launch) (d : Nat) : Prop := ∀ (z : Nat) (av : List AV) (hp : HP) (r : RT) (P : PB) (L : Nat) (xs : Nat → Int32), z < 302 → Cd d z av hp = some r → wfH L xs hp → (∀ v ∈ av, wfv v) → Met l (mName z) (wsM z) (rmO d hp r.2) (PcO P L xs av hp) (QcO P r) (r.2.1.length - hp.1.length) (sl r.2.1 - sl hp.1) (RG P)
def WfOK (d : Nat) : Prop := ∀ (p : Program) (e : Env) (s : State) (args : Array Value) (below : List Frame) (meth : Method) (c : Code) (P : PB) (L n0 : Nat) (xs : Nat → Int32), p.tables.exec = Jvm.exec → (∀ w ∈ gW, w.before args s = true) → WD P L xs s → s.heap.size = P.1 + (n0 - KX) → KX ≤ n0 → ∀ (z : Nat) (av : List AV) (hp : HP) (r : RT), z < 302 → Cd d z av hp = some r → wfH L xs hp → n0 ≤ hp.1.length → (∀ v ∈ av, wfv v) → wfR L xs r
theorem knd_len : ∀ (av : List AV) (sg : List Nat), knd av sg = true → av.length = sg.length
  | [], [], _ => rfl
  | [], _ :: _, h => by simp [knd] at h
  | .inl _ :: r, q, h => by
    cases q with
    | nil => simp [knd] at h
    | cons a q =>
      match a, h with
      | 0, h => simp only [knd] at h; simp [knd_len r q h]
      | n + 1, h => simp [knd] at h
  | .inr (.inl _) :: r, q, h => by
    cases q with
    | nil => simp [knd] at h
    | cons a q =>
      match a, h with
      | 0, h => simp [knd] at h
      | 1, h => simp only [knd] at h; simp [knd_len r q h]
      | n + 2, h => simp [knd] at h
  | .inr (.inr _) :: r, q, h => by
    cases q with
    | nil => simp [knd] at h
    | cons a q =>
      match a, h with
      | 0, h => simp [knd] at h
      | 1, h => simp [knd] at h
      | 2, h => simp only [knd] at h; simp [knd_len r q h]
      | n + 3, h => simp [knd] at h
theorem Cd_inv {d z : Nat} {av : List AV} {hp : HP} {r : RT} (h : Cd d z av hp = some r) : ∃ d', d = d' + 1 ∧ knd av (sgOf z) = true ∧ rcv z av hp = true ∧ ∃ n, inn (Cd d') z n 0 (ent (mMl z) av) [] hp = some r := by
  cases d with
  | zero => simp [Cd] at h
  | succ d' =>
    rw [Cd_succ] at h
    split at h
    · rename_i g
      simp only [Bool.and_eq_true] at g
      rw [Rr_iff] at h
      exact ⟨d', rfl, g.1, g.2, h⟩
    · cases h
theorem gW_good : GoodIn gW gW := fun w hw => ⟨hw, good_of_word (List.mem_filter.mp hw).2⟩
theorem wsM_good {z : Nat} (hz : z < 302) : GoodIn gW (wsM z) := fun w hw => by
  rcases List.mem_cons.mp hw with rfl | hw
  · exact gW_good _ (mw_ok hz).1.1
  · exact gW_good _ hw
theorem PcO_blind (P : PB) (L : Nat) (xs : Nat → Int32) (av : List AV) (hp : HP) : FrameBlind (PcO P L xs av hp) := fun a U g mk h => ⟨h.1, WD_same (U := U) (T := U.calling g mk a) rfl rfl h.2.1, h.2.2.1, h.2.2.2⟩
theorem wsO_size {P : PB} {hp : HP} {H : Heap} (hK : KX ≤ hp.1.length) (hP : va_P P.2.2.2.1 vwCl (wsO P hp) H) (h0 : P.1 ≤ H.size) : P.1 + (hp.1.length - KX) ≤ H.size := by
  have hl := wsO_len P hp
  by_cases h : hp.1.length - KX = 0
  · omega
  · have hj : KX + (hp.1.length - KX - 1) < hp.1.length := by omega
    have hat : (wsO P hp)[hp.1.length - KX - 1]? = some (P.1 + (hp.1.length - KX - 1), entE P hp.2 (KX + (hp.1.length - KX - 1)) hp.1[KX + (hp.1.length - KX - 1)]) := by
      rw [wsO_at, List.getElem?_eq_getElem hj]; rfl
    have h1 : P.1 + (hp.1.length - KX - 1) < H.size := (hP _ _ hat).lt
    omega
theorem rcv_inv {z : Nat} {av : List AV} {hp : HP} (h : rcv z av hp = true) (hs : (skT[z]?).getD 9 ≠ 0) (hz : z < 302) : ∃ o q av', av = vA o :: av' ∧ gS hp o = some q ∧ q.1 = (tgT[z]?).getD 999 := by
  unfold rcv at h
  have hl : skT[z]? = some ((skT[z]?).getD 9) := by
    cases g : skT[z]? with
    | none =>
      exfalso
      have h1 := List.getElem?_eq_none_iff.mp g
      have h2 : skT.length = 303 := by decide +kernel
      omega
    | some a => rfl
  rw [hl] at h
  simp only [Option.getD_some] at h
  generalize hk : (skT[z]?).getD 9 = kk at h hs
  cases kk with
  | zero => exact absurd rfl hs
  | succ n =>
    match av, h with
    | .inr (.inr o) :: av', h =>
      simp only at h
      cases hq : gS hp o with
      | none => rw [hq] at h; cases h
      | some q => rw [hq] at h; exact ⟨o, q, av', rfl, hq, Nat.eq_of_beq_eq_true h⟩
    | [], h => cases h
    | .inl _ :: _, h => cases h
    | .inr (.inl _) :: _, h => cases h
section SIM
variable {p : Program} {l : Launch} {e : Env} {R : Room} {s : State} {m : MethodId} {args : Array Value} {below : List Frame} {meth : Method} {c : Code} {Q : State → Prop} {P : PB} {y L d n0 z0 : Nat} {xs : Nat → Int32} {r : RT}
theorem call_go {H : Heap} {locs : List Loc} {cells slots mc ms pc : Nat} {ls : Array Slot} {rest st0 : List Value} {a : Array Value} {rr : RT} (hr : va_Run p l e R s m args below meth c H locs cells slots mc ms (F0 m pc ls st0) rest (QcO P rr a) (RG P)) (hS : va_S (RG P) s.heap H locs)
    (kk : ∀ (H1 : Heap) (locs1 : List Loc), va_P P.2.2.2.1 vwCl (wsO P rr.2) H1 → va_S (RG P) s.heap H1 locs1 → W p l e R s m args below meth c H1 locs1 (cells + mc) (slots + ms) Q (F0 m (pc + 3) ls ((rr.1.map (cv P)).head?.toList ++ rest))) : W p l e R s m args below meth c H locs cells slots Q (F0 m pc ls st0) := by
  intro T hT X
  obtain ⟨v, st₀, t, T', L, h0, X', hL, e1, e2, ⟨hv, hp, hz, hk⟩, st⟩ := hr T hT X
  cases hv
  rw [h0] at hz hk
  obtain ⟨t2, a1, b1⟩ := kk T'.heap (locs ++ L) (by rw [e1]; exact hp)
    ⟨Nat.le_trans hS.1 (by rw [e1]; exact hz), fun q h1 h2 => by rw [e1, hk q (Nat.lt_of_lt_of_le h1 hS.1) h2]; exact hS.2.1 q h1 h2, fun q hq => by
      rcases List.mem_append.mp hq with h | h
      · exact hS.2.2 q h
      · exact hL q h⟩ T' rfl X'
  exact ⟨t2, st t2 a1, b1⟩
theorem head_1 {rs : List AV} (h : rs.length ≤ 1) (P : PB) : (rs.map (cv P)).head?.toList = rs.map (cv P) := by
  match rs, h with
  | [], _ => rfl
  | [_], _ => rfl
  | _ :: _ :: _, h => simp at h
set_option maxHeartbeats 4000000 in
theorem sim_call (C : CX p R s m args meth c P y L d n0 z0 xs r) (hM : MetOK l d) (hF : WfOK d) {pc a b cc x : Nat} {z : Int} {ls : LVs} {st : List AV} {hp : HP} {rr : RT} (hc : cdAt y pc = some (67, a, b, cc, x, z)) (hwid : wid (st.drop b) ≤ 8) (hcd : Cd d a (st.take b).reverse hp = some rr) (hr1 : rr.1.length ≤ 1) (hgr : Gr rr.2 r.2)
    (hk : KJ p l e R s m args below meth c Q P y L n0 z0 xs r (pc + 1) ls (rr.1 ++ st.drop b) rr.2) : KJ p l e R s m args below meth c Q P y L n0 z0 xs r pc ls st hp := by
  obtain ⟨hx, hb, hml, hown, hts, hWD, hsz, hn0, hmn, hfr, hlo, hce, hsl⟩ := C
  have hq := hWD.2.2.2
  have hKK := hWD.2.2.1.1
  intro hI
  have hw := hI.2.2.2.1
  obtain ⟨hd, hok, hwd, hof⟩ := at_ok hc (by simp)
  simp only [okR, Bool.and_eq_true, decide_eq_true_eq] at hok
  obtain ⟨⟨⟨⟨ha, hz0, hz6⟩, hbn⟩, hsk⟩, -⟩ := hok
  obtain ⟨⟨k1, k2, k3⟩, ⟨k4, k5, k6, k7, k8⟩, k9⟩ := mw_ok ha
  obtain ⟨d', rfl, hkn, hrc, -⟩ := Cd_inv hcd
  have hlen : (st.take b).reverse.length = (sgOf a).length := knd_len _ _ hkn
  have hgr0 := Gr_len (Cd_gr _ _ _ _ _ hcd)
  have hgr1 := Gr_len hgr
  have hg1 := hI.2.2.2.2.1
  have hg2 := hI.2.2.2.2.2
  have hwa : ∀ v ∈ (st.take b).reverse, wfv v := fun v hv => hI.2.2.1 v (List.mem_of_mem_take (List.mem_reverse.mp hv))
  have hwR := hF p e s args below meth c P L n0 xs hx hts hWD hsz hn0 a _ hp rr ha hcd hw hg1 hwa
  obtain ⟨hR, hW⟩ := hk ⟨hI.1, hI.2.1, fun v hv => (List.mem_append.mp hv).elim (hwR.2 v) (fun h => hI.2.2.1 v (List.mem_of_mem_drop h)), hwR.1, by omega, by omega⟩
  refine ⟨hR, fun H locs lsr hL hP hS => W_sized fun hHs => ?_⟩
  have hHsz : H.size = P.1 + (hp.1.length - KX) := by
    have h1 := wsO_size hw.1.1 hP (by have := hS.1; omega)
    omega
  have hMet := hM a _ hp rr P L xs ha hcd hw hwa
  have hPre : ∀ U : State, U.heap = H → s.WarmedH U.vm → PcO P L xs (st.take b).reverse hp (((st.take b).reverse.map (cv P)).toArray) U := fun U hU hWm => ⟨rfl, WD_mv hWm (fun q h1 h2 => by rw [hU]; exact hS.2.1 q h1 h2) hWD, by rw [hU]; exact hHsz, by rw [hU]; exact hP⟩
  have S : CallFix p m c (mByt y) (mMl y) s args gW (mName y).cls := ⟨hx, hb, hml, hown, hts⟩
  have hWd : 2 * (F0 m (mOff y pc) lsr (st.map (cv P))).monitorRoom + (((st.drop b).map (cv P)).map fun v => v.category).sum ≤ 8 := by
    show 2 * 0 + _ ≤ 8
    rw [wid_eq hq]; omega
  have hroom : (rmO (d' + 1) hp rr.2).frames + 1 ≤ R.frames ∧ 8 + (mMl a + 11) + (rmO (d' + 1) hp rr.2).locals ≤ R.locals := ⟨hfr, by show 8 + (mMl a + 11) + 64 * (d' + 1) ≤ _; omega⟩
  have hf : (hp.1.length - n0) + (rr.2.1.length - hp.1.length) ≤ R.cells ∧ (sl hp.1 - z0) + (sl rr.2.1 - sl hp.1) ≤ R.slots := ⟨by omega, by omega⟩
  have kk : ∀ (H1 : Heap) (locs1 : List Loc), va_P P.2.2.2.1 vwCl (wsO P rr.2) H1 → va_S (RG P) s.heap H1 locs1 → mOff y (pc + 1) = mOff y pc + 3 → W p l e R s m args below meth c H1 locs1 ((hp.1.length - n0) + (rr.2.1.length - hp.1.length)) ((sl hp.1 - z0) + (sl rr.2.1 - sl hp.1)) Q (F0 m (mOff y pc + 3) lsr ((rr.1.map (cv P)).head?.toList ++ (st.drop b).map (cv P))) := fun H1 locs1 g1 g2 g3 =>
    W.eq (F0_eq g3.symm (by rw [head_1 hr1, List.map_append])) (W.cs (by omega) (by omega) (hW H1 locs1 lsr hL g1 g2))
  have hstk : ∀ (av : List AV), (st.take b).reverse = av → st.map (cv P) = (av.map (cv P)).reverse ++ (st.drop b).map (cv P) := fun av hav => by
    rw [← hav, ← List.map_reverse, List.reverse_reverse, ← List.map_append, List.take_append_drop]
  have hrecv : (skT[a]?).getD 9 ≠ 0 → ((tgT[a]?).getD 999 < 13 ∨ (tgT[a]?).getD 999 = 50) → ∃ (o : Int) (av' : List AV), (st.take b).reverse = vA o :: av' ∧ cvA P o = .ref (ad P o.toNat) ∧ (ownN ((tgT[a]?).getD 999) = (mName a).cls → ∃ cellB : Cell, H[ad P o.toNat]? = some cellB ∧ cellB.vm.isStatics = false ∧ s.vm.findClass (mName a).cls = some cellB.cls) := by
    intro h0 ht
    obtain ⟨o, ⟨t, n⟩, av', e1, e2, e3⟩ := rcv_inv hrc h0 ha
    obtain ⟨g1, g2⟩ := gS_inv e2
    have e3 : t = (tgT[a]?).getD 999 := e3
    rw [← e3] at ht ⊢
    by_cases hi : KX ≤ o.toNat
    · refine ⟨o, av', e1, cvA_ge g1 hi, fun hn => ?_⟩
      have hoc := hw.2.2.2 _ _ hi g2
      have ht13 : t < 13 := by rcases okC_tags hoc with h | h | h | h | h | h <;> omega
      obtain ⟨⟨r0, hr0, -⟩, -⟩ := okC_o ht13 hoc
      have hnm : r0.1 = (mName a).cls := by rw [← hn]; simp only [ownN, if_neg (show ¬ t = 50 by omega), clsN, hr0]
      rw [← hnm]
      exact va_recv hKK hP hr0 (q0 := o.toNat - KX) (by rw [wsO_get hi g2, entE_o ht13])
    · have ht50 : ∃ a', a' < 12 ∧ o.toNat = 5 + 2 * a' ∧ t = 50 := by
        rcases x_at hw (by omega) g2 with ⟨-, h⟩ | ⟨-, h⟩ | ⟨a', -, -, h⟩ | ⟨a', h1, h2, h⟩ | ⟨a', -, -, h⟩ <;> cases h
        · omega
        · omega
        · omega
        · exact ⟨a', h1, h2, rfl⟩
        · omega
      obtain ⟨a', h1, h2, h3⟩ := ht50
      refine ⟨o, av', e1, cvA_pos (by omega) (by omega), fun hn => ?_⟩
      have hnm : (mName a).cls = "java/lang/String" := by rw [← hn, h3]; rfl
      rw [hnm, show ad P o.toNat = P.2.1 (5 + 2 * a') by rw [h2, ad, if_pos (by omega)]]
      exact va_Orecv (hWD.2.2.1.2.2.2.2.2.1.1 a' h1).1 hS
  have hlk : ∀ {w : Jvm.Cond}, w ∈ lw_tbl → goodWord w = true → w.before args s = true := fun h1 h2 => hts _ (List.mem_filter.mpr ⟨h1, h2⟩)
  have hdd : (mName a).cls ≠ "java/lang/invoke/MethodHandle" ∧ (mName a).cls ≠ "java/lang/invoke/VarHandle" ∧ (parseMethodDescriptor (mName a).desc).map (fun d => d.parameters.length) = some ((npT[a]?).getD 0) := ⟨k4.1, k4.2, k5⟩
  rcases (show z = 0 ∨ z = 1 ∨ z = 2 ∨ z = 3 ∨ z = 4 ∨ z = 5 by omega) with rfl | rfl | rfl | rfl | rfl | rfl
  · have hd : decode (mByt y) (mOff y pc) = .ok (.invokevirtual x, 3) := hd
    have hof : mOff y (pc + 1) = mOff y pc + 3 := hof
    obtain ⟨w, hw1, hw2⟩ := hwd rfl
    have hw2 : some (Jvm.Cond.methodLink (mName y).cls x (mName a)) = some w := hw2
    cases hw2
    have hsk : (skT[a]?).getD 9 = 1 := hsk
    rcases k9 with ⟨g, -⟩ | ⟨-, i1, i2, i3, i4⟩ | ⟨g, -⟩
    case inl => omega
    case inr.inr => omega
    obtain ⟨o, av', e1, e2, e3⟩ := hrecv (by omega) i4
    have hnn : (av'.map (cv P)).length = (npT[a]?).getD 0 := by rw [e1] at hlen; rw [List.length_map]; rw [k8, if_neg (by omega)] at hlen; simp at hlen; omega
    have hst : st.map (cv P) = (av'.map (cv P)).reverse ++ .ref (ad P o.toNat) :: (st.drop b).map (cv P) := by rw [hstk _ e1, List.map_cons, show cv P (vA o) = cvA P o from rfl, e2]; simp
    have hPr : ∀ U : State, U.heap = H → s.WarmedH U.vm → PcO P L xs (st.take b).reverse hp (Value.ref (ad P o.toNat) :: av'.map (cv P)).toArray U := fun U hU hWm => by
      rw [show (Value.ref (ad P o.toNat) :: av'.map (cv P)).toArray = ((st.take b).reverse.map (cv P)).toArray from by rw [e1, List.map_cons, show cv P (vA o) = cvA P o from rfl, e2]]; exact hPre U hU hWm
    exact call_go (rest := (st.drop b).map (cv P)) (va_runV (As := av'.map (cv P)) (b := ad P o.toNat) (g := F0 m (mOff y pc) lsr (st.map (cv P))) S hMet ⟨callB_of ((npT[a]?).getD 0) hts (wsM_good ha) rfl rfl rfl (hts _ k2) (hlk hw1 rfl) hdd hroom, hts _ i1, hts _ i2⟩ ⟨PcO_blind P L xs _ hp, e3 i3, hPr⟩ rfl hnn hL.1 hst hWd hd hf) hS (fun H1 locs1 g1 g2 => kk H1 locs1 g1 g2 hof)
  · have hd : decode (mByt y) (mOff y pc) = .ok (.invokestatic x, 3) := hd
    have hof : mOff y (pc + 1) = mOff y pc + 3 := hof
    obtain ⟨w, hw1, hw2⟩ := hwd rfl
    have hw2 : some (Jvm.Cond.methodLink (mName y).cls x (mName a)) = some w := hw2
    cases hw2
    have hsk : (skT[a]?).getD 9 = 0 := hsk
    rcases k9 with ⟨-, i1⟩ | ⟨g, -⟩ | ⟨g, -⟩
    case inr.inl => omega
    case inr.inr => omega
    have hnn : ((st.take b).reverse.map (cv P)).length = (npT[a]?).getD 0 := by rw [List.length_map, hlen, k8, if_pos hsk]; omega
    exact call_go (rest := (st.drop b).map (cv P)) (va_runS (As := (st.take b).reverse.map (cv P)) (g := F0 m (mOff y pc) lsr (st.map (cv P))) S hMet ⟨callB_of ((npT[a]?).getD 0) hts (wsM_good ha) rfl rfl rfl (hts _ k2) (hlk hw1 rfl) hdd hroom, hts _ i1⟩ ⟨PcO_blind P L xs _ hp, hPre⟩ rfl hnn hL.1 (hstk _ rfl) hWd hd hf) hS (fun H1 locs1 g1 g2 => kk H1 locs1 g1 g2 hof)
  · have hd : decode (mByt y) (mOff y pc) = .ok (.invokespecial x, 3) := hd
    have hof : mOff y (pc + 1) = mOff y pc + 3 := hof
    obtain ⟨w, hw1, hw2⟩ := hwd rfl
    have hw2 : some (Jvm.Cond.methodLink (mName y).cls x (mName a)) = some w := hw2
    cases hw2
    have hsk : (skT[a]?).getD 9 = 2 := hsk
    rcases k9 with ⟨g, -⟩ | ⟨g, -⟩ | ⟨-, i1, i2, i3, i4⟩
    case inl => omega
    case inr.inl => omega
    obtain ⟨o, av', e1, e2, -⟩ := hrecv (by omega) (Or.inl i4)
    have hnn : (av'.map (cv P)).length = (npT[a]?).getD 0 := by rw [e1] at hlen; rw [List.length_map]; rw [k8, if_neg (by omega)] at hlen; simp at hlen; omega
    have hst : st.map (cv P) = (av'.map (cv P)).reverse ++ .ref (ad P o.toNat) :: (st.drop b).map (cv P) := by rw [hstk _ e1, List.map_cons, show cv P (vA o) = cvA P o from rfl, e2]; simp
    have hPr : ∀ U : State, U.heap = H → s.WarmedH U.vm → PcO P L xs (st.take b).reverse hp (Value.ref (ad P o.toNat) :: av'.map (cv P)).toArray U := fun U hU hWm => by
      rw [show (Value.ref (ad P o.toNat) :: av'.map (cv P)).toArray = ((st.take b).reverse.map (cv P)).toArray from by rw [e1, List.map_cons, show cv P (vA o) = cvA P o from rfl, e2]]; exact hPre U hU hWm
    exact call_go (rest := (st.drop b).map (cv P)) (va_runI (As := av'.map (cv P)) (b := ad P o.toNat) (g := F0 m (mOff y pc) lsr (st.map (cv P))) S hMet ⟨callB_of ((npT[a]?).getD 0) hts (wsM_good ha) (by unfold wsM; rw [i3]) rfl rfl (hts _ k2) (hlk hw1 rfl) hdd hroom, i2, hts _ i1⟩ ⟨PcO_blind P L xs _ hp, hPr⟩ rfl hnn hL.1 hst hWd hd hf) hS (fun H1 locs1 g1 g2 => kk H1 locs1 g1 g2 hof)
  · have hd : decode (mByt y) (mOff y pc) = .ok (.invokevirtual x, 3) := hd
    have hof : mOff y (pc + 1) = mOff y pc + 3 := hof
    obtain ⟨w, hw1, hw2⟩ := hwd rfl
    have hw2 : some (Jvm.Cond.methodLinkNest (mName y).cls x (mName a) "ShownNot") = some w := hw2
    cases hw2
    have hsk : (skT[a]?).getD 9 = 1 := hsk
    rcases k9 with ⟨g, -⟩ | ⟨-, i1, i2, i3, i4⟩ | ⟨g, -⟩
    case inl => omega
    case inr.inr => omega
    obtain ⟨o, av', e1, e2, e3⟩ := hrecv (by omega) i4
    have hnn : (av'.map (cv P)).length = (npT[a]?).getD 0 := by rw [e1] at hlen; rw [List.length_map]; rw [k8, if_neg (by omega)] at hlen; simp at hlen; omega
    have hst : st.map (cv P) = (av'.map (cv P)).reverse ++ .ref (ad P o.toNat) :: (st.drop b).map (cv P) := by rw [hstk _ e1, List.map_cons, show cv P (vA o) = cvA P o from rfl, e2]; simp
    have hPr : ∀ U : State, U.heap = H → s.WarmedH U.vm → PcO P L xs (st.take b).reverse hp (Value.ref (ad P o.toNat) :: av'.map (cv P)).toArray U := fun U hU hWm => by
      rw [show (Value.ref (ad P o.toNat) :: av'.map (cv P)).toArray = ((st.take b).reverse.map (cv P)).toArray from by rw [e1, List.map_cons, show cv P (vA o) = cvA P o from rfl, e2]]; exact hPre U hU hWm
    exact call_go (rest := (st.drop b).map (cv P)) (va_runVN (As := av'.map (cv P)) (b := ad P o.toNat) (g := F0 m (mOff y pc) lsr (st.map (cv P))) S hMet ⟨va_cnB ((npT[a]?).getD 0) hts (wsM_good ha) rfl rfl rfl (hWD.1 _ hw1 rfl) (hts _ k2) hdd hroom, hts _ i1, hts _ i2⟩ ⟨PcO_blind P L xs _ hp, e3 i3, hPr⟩ rfl hnn hL.1 hst hWd hd hf) hS (fun H1 locs1 g1 g2 => kk H1 locs1 g1 g2 hof)
  · have hd : decode (mByt y) (mOff y pc) = .ok (.invokestatic x, 3) := hd
    have hof : mOff y (pc + 1) = mOff y pc + 3 := hof
    obtain ⟨w, hw1, hw2⟩ := hwd rfl
    have hw2 : some (Jvm.Cond.methodLinkNest (mName y).cls x (mName a) "ShownNot") = some w := hw2
    cases hw2
    have hsk : (skT[a]?).getD 9 = 0 := hsk
    rcases k9 with ⟨-, i1⟩ | ⟨g, -⟩ | ⟨g, -⟩
    case inr.inl => omega
    case inr.inr => omega
    have hnn : ((st.take b).reverse.map (cv P)).length = (npT[a]?).getD 0 := by rw [List.length_map, hlen, k8, if_pos hsk]; omega
    exact call_go (rest := (st.drop b).map (cv P)) (va_runSN (As := (st.take b).reverse.map (cv P)) (g := F0 m (mOff y pc) lsr (st.map (cv P))) S hMet ⟨va_cnB ((npT[a]?).getD 0) hts (wsM_good ha) rfl rfl rfl (hWD.1 _ hw1 rfl) (hts _ k2) hdd hroom, hts _ i1, trivial⟩ ⟨PcO_blind P L xs _ hp, hPre⟩ rfl hnn hL.1 (hstk _ rfl) hWd hd hf) hS (fun H1 locs1 g1 g2 => kk H1 locs1 g1 g2 hof)
  · have hd : decode (mByt y) (mOff y pc) = .ok (.invokespecial x, 3) := hd
    have hof : mOff y (pc + 1) = mOff y pc + 3 := hof
    obtain ⟨w, hw1, hw2⟩ := hwd rfl
    have hw2 : some (Jvm.Cond.methodLinkNest (mName y).cls x (mName a) "ShownNot") = some w := hw2
    cases hw2
    have hsk : (skT[a]?).getD 9 = 2 := hsk
    rcases k9 with ⟨g, -⟩ | ⟨g, -⟩ | ⟨-, i1, i2, i3, i4⟩
    case inl => omega
    case inr.inl => omega
    obtain ⟨o, av', e1, e2, -⟩ := hrecv (by omega) (Or.inl i4)
    have hnn : (av'.map (cv P)).length = (npT[a]?).getD 0 := by rw [e1] at hlen; rw [List.length_map]; rw [k8, if_neg (by omega)] at hlen; simp at hlen; omega
    have hst : st.map (cv P) = (av'.map (cv P)).reverse ++ .ref (ad P o.toNat) :: (st.drop b).map (cv P) := by rw [hstk _ e1, List.map_cons, show cv P (vA o) = cvA P o from rfl, e2]; simp
    have hPr : ∀ U : State, U.heap = H → s.WarmedH U.vm → PcO P L xs (st.take b).reverse hp (Value.ref (ad P o.toNat) :: av'.map (cv P)).toArray U := fun U hU hWm => by
      rw [show (Value.ref (ad P o.toNat) :: av'.map (cv P)).toArray = ((st.take b).reverse.map (cv P)).toArray from by rw [e1, List.map_cons, show cv P (vA o) = cvA P o from rfl, e2]]; exact hPre U hU hWm
    exact call_go (rest := (st.drop b).map (cv P)) (va_runIN (As := av'.map (cv P)) (b := ad P o.toNat) (g := F0 m (mOff y pc) lsr (st.map (cv P))) S hMet ⟨va_cnB ((npT[a]?).getD 0) hts (wsM_good ha) (by unfold wsM; rw [i3]) rfl rfl (hWD.1 _ hw1 rfl) (hts _ k2) hdd hroom, i2, hts _ i1⟩ ⟨PcO_blind P L xs _ hp, hPr⟩ rfl hnn hL.1 hst hWd hd hf) hS (fun H1 locs1 g1 g2 => kk H1 locs1 g1 g2 hof)
set_option maxHeartbeats 4000000 in
theorem sim13 (C : CX p R s m args meth c P y L d n0 z0 xs r) (hM : MetOK l d) (hF : WfOK d) {pc : Nat} {ri : RI} {ls : LVs} {st : List AV} {hp : HP} {k : KT} (hc : cdAt y pc = some ri) (hgk : ∀ pc' ls' st' hp', k pc' ls' st' hp' = some r → Gr hp' r.2) (h : sK13 (Cd d) ri pc ls st hp k = some r) (hk : ∀ pc' ls' st' hp', k pc' ls' st' hp' = some r → KJ p l e R s m args below meth c Q P y L n0 z0 xs r pc' ls' st' hp') : KJ p l e R s m args below meth c Q P y L n0 z0 xs r pc ls st hp := by
  unfold sK13 at h
  split at h
  · split at h
    case isFalse => cases h
    rename_i hwd
    obtain ⟨q, h1, h2⟩ := bnd_inv h
    obtain ⟨rr, h3, h4⟩ := bnd_inv h1
    obtain ⟨rs, hp2⟩ := rr
    have h5 : rs = [] ∧ q = hp2 := by
      unfold toV at h4
      split at h4
      · rename_i g; cases h4; exact ⟨g, rfl⟩
      · cases h4
    obtain ⟨rfl, rfl⟩ := h5
    exact sim_call C hM hF hc hwd h3 (by simp) (hgk _ _ _ _ h2) (hk _ _ _ _ h2)
  · split at h
    case isFalse => cases h
    rename_i hwd
    obtain ⟨q, h1, h2⟩ := bnd_inv h
    obtain ⟨rr, h3, h4⟩ := bnd_inv h1
    obtain ⟨rs, hp2⟩ := rr
    have h5 : rs = [vI q.1] ∧ q.2 = hp2 := by
      unfold toI at h4
      split at h4
      · rename_i g; cases h4; exact ⟨g, rfl⟩
      · cases h4
    obtain ⟨rfl, rfl⟩ := h5
    exact sim_call C hM hF hc hwd h3 (by simp) (hgk _ _ _ _ h2) (hk _ _ _ _ h2)
  · split at h
    case isFalse => cases h
    rename_i hwd
    obtain ⟨q, h1, h2⟩ := bnd_inv h
    obtain ⟨rr, h3, h4⟩ := bnd_inv h1
    obtain ⟨rs, hp2⟩ := rr
    have h5 : rs = [vL q.1] ∧ q.2 = hp2 := by
      unfold toL at h4
      split at h4
      · rename_i g; cases h4; exact ⟨g, rfl⟩
      · cases h4
    obtain ⟨rfl, rfl⟩ := h5
    exact sim_call C hM hF hc hwd h3 (by simp) (hgk _ _ _ _ h2) (hk _ _ _ _ h2)
  · split at h
    case isFalse => cases h
    rename_i hwd
    obtain ⟨q, h1, h2⟩ := bnd_inv h
    obtain ⟨rr, h3, h4⟩ := bnd_inv h1
    obtain ⟨rs, hp2⟩ := rr
    have h5 : rs = [vA q.1] ∧ q.2 = hp2 := by
      unfold toA at h4
      split at h4
      · rename_i g; cases h4; exact ⟨g, rfl⟩
      · cases h4
    obtain ⟨rfl, rfl⟩ := h5
    exact sim_call C hM hF hc hwd h3 (by simp) (hgk _ _ _ _ h2) (hk _ _ _ _ h2)
  · cases h
end SIM
end
section
/-! the machine of numbers is sound: what ends there ends so on the real machine -/
theorem entL_len : ∀ (av : List AV) (sg : List Nat), knd av sg = true → (entL av).length = pwd sg
  | [], [], _ => rfl
  | [], _ :: _, h => by simp [knd] at h
  | .inl _ :: r, q, h => by
    cases q with
    | nil => simp [knd] at h
    | cons a q =>
      match a, h with
      | 0, h => simp only [knd] at h; have := entL_len r q h; simp only [entL, List.length_cons, pwd]; omega
      | n + 1, h => simp [knd] at h
  | .inr (.inl _) :: r, q, h => by
    cases q with
    | nil => simp [knd] at h
    | cons a q =>
      match a, h with
      | 0, h => simp [knd] at h
      | 1, h => simp only [knd] at h; have := entL_len r q h; simp only [entL, List.length_cons, pwd]; omega
      | n + 2, h => simp [knd] at h
  | .inr (.inr _) :: r, q, h => by
    cases q with
    | nil => simp [knd] at h
    | cons a q =>
      match a, h with
      | 0, h => simp [knd] at h
      | 1, h => simp [knd] at h
      | 2, h => simp only [knd] at h; have := entL_len r q h; simp only [entL, List.length_cons, pwd]; omega
      | n + 3, h => simp [knd] at h
theorem entL_at : ∀ (av : List AV) (sg : List Nat) (i0 k : Nat) (v : AV), knd av sg = true → (entL av)[k]? = some (some v) → v ∈ av ∧ (isLv v → i0 + k ∈ plg i0 sg)
  | [], [], i0, k, v, _, hk => by simp [entL] at hk
  | [], _ :: _, i0, k, v, h, hk => by simp [knd] at h
  | .inl x :: r, q, i0, k, v, h, hk => by
    cases q with
    | nil => simp [knd] at h
    | cons a q =>
      match a, h with
      | 0, h =>
        simp only [knd] at h
        simp only [entL] at hk
        cases k with
        | zero => simp at hk; subst hk; exact ⟨List.mem_cons_self, fun g => absurd g id⟩
        | succ k =>
          rw [List.getElem?_cons_succ] at hk
          obtain ⟨h1, h2⟩ := entL_at r q (i0 + 1) k v h hk
          exact ⟨List.mem_cons_of_mem _ h1, fun g => by have := h2 g; rw [show i0 + 1 + k = i0 + (k + 1) by omega] at this; exact this⟩
      | n + 1, h => simp [knd] at h
  | .inr (.inl x) :: r, q, i0, k, v, h, hk => by
    cases q with
    | nil => simp [knd] at h
    | cons a q =>
      match a, h with
      | 0, h => simp [knd] at h
      | 1, h =>
        simp only [knd] at h
        simp only [entL] at hk
        match k, hk with
        | 0, hk => simp at hk; subst hk; exact ⟨List.mem_cons_self, fun _ => List.mem_cons_self⟩
        | 1, hk => simp at hk
        | k + 2, hk =>
          rw [List.getElem?_cons_succ, List.getElem?_cons_succ] at hk
          obtain ⟨h1, h2⟩ := entL_at r q (i0 + 2) k v h hk
          exact ⟨List.mem_cons_of_mem _ h1, fun g => by have := h2 g; rw [show i0 + 2 + k = i0 + (k + 2) by omega] at this; exact List.mem_cons_of_mem _ this⟩
      | n + 2, h => simp [knd] at h
  | .inr (.inr x) :: r, q, i0, k, v, h, hk => by
    cases q with
    | nil => simp [knd] at h
    | cons a q =>
      match a, h with
      | 0, h => simp [knd] at h
      | 1, h => simp [knd] at h
      | 2, h =>
        simp only [knd] at h
        simp only [entL] at hk
        cases k with
        | zero => simp at hk; subst hk; exact ⟨List.mem_cons_self, fun g => absurd g id⟩
        | succ k =>
          rw [List.getElem?_cons_succ] at hk
          obtain ⟨h1, h2⟩ := entL_at r q (i0 + 1) k v h hk
          exact ⟨List.mem_cons_of_mem _ h1, fun g => by have := h2 g; rw [show i0 + 1 + k = i0 + (k + 1) by omega] at this; exact this⟩
      | n + 3, h => simp [knd] at h
theorem ent_len {z : Nat} {av : List AV} (hz : z < 303) (h : knd av (sgOf z) = true) : (ent (mMl z) av).length = mMl z := by
  have h1 := (okLg_y hz).2.2
  have h2 := entL_len av _ h
  simp only [ent, List.length_append, List.length_replicate]
  omega
theorem ent_at {z : Nat} {av : List AV} (hz : z < 303) (h : knd av (sgOf z) = true) (hw : ∀ v ∈ av, wfv v) : ∀ i v, gl (ent (mMl z) av) i = some v → wfv v ∧ (isLv v → i ∈ lgOf z) := by
  intro i v hv
  have h1 := gl_some hv
  unfold ent at h1
  by_cases hi : i < (entL av).length
  · rw [List.getElem?_append_left hi] at h1
    obtain ⟨h2, h3⟩ := entL_at av (sgOf z) 0 i v h h1
    refine ⟨hw v h2, fun g => ?_⟩
    have h4 := h3 g
    rw [Nat.zero_add] at h4
    have h5 := List.all_eq_true.mp (okLg_y hz).2.1 i h4
    obtain ⟨q, hq1, hq2⟩ := List.any_eq_true.mp h5
    have : q = i := by simpa using hq2
    rw [← this]; exact hq1
  · rw [List.getElem?_append_right (by omega), List.getElem?_replicate] at h1
    split at h1 <;> simp at h1
theorem asL_none (P : PB) : ∀ (n i : Nat), asL P i (List.replicate n none) = []
  | 0, i => rfl
  | n + 1, i => by rw [List.replicate_succ]; exact asL_none P n (i + 1)
theorem asL_ent {P : PB} (hq : P.2.2.1 = .null ∨ ∃ t, P.2.2.1 = .ref t) (n : Nat) : ∀ (av : List AV) (i : Nat), asL P i (entL av ++ List.replicate n none) = lv_args i (av.map (cv P))
  | [], i => asL_none P n i
  | .inl z :: r, i => by
    have := asL_ent hq n r (i + 1)
    simp only [entL, List.cons_append, asL, List.map_cons, lv_args]
    rw [if_neg (show ¬ (cv P (.inl z)).category = 2 by rw [show (cv P (.inl z)).category = 1 from rfl]; decide), this]
  | .inr (.inl z) :: r, i => by
    have := asL_ent hq n r (i + 2)
    simp only [entL, List.cons_append, asL, List.map_cons, lv_args]
    rw [if_pos (show (cv P (.inr (.inl z))).category = 2 from rfl), ← this]
  | .inr (.inr z) :: r, i => by
    have := asL_ent hq n r (i + 1)
    simp only [entL, List.cons_append, asL, List.map_cons, lv_args]
    rw [if_neg (show ¬ (cv P (.inr (.inr z))).category = 2 by rw [show (cv P (.inr (.inr z))).category = 1 from cat_A hq z]; decide), this]
theorem lg_sl_len {P : PB} (hq : P.2.2.1 = .null ∨ ∃ t, P.2.2.1 = .ref t) : ∀ (av : List AV), (lg_sl (av.map (cv P))).length = (entL av).length
  | [] => rfl
  | .inl z :: r => by
    have := lg_sl_len hq r
    simp only [lg_sl, List.map_cons, List.flatMap_cons, List.length_append, entL, List.length_cons] at this ⊢
    rw [if_neg (show ¬ (cv P (.inl z)).category = 2 by rw [show (cv P (.inl z)).category = 1 from rfl]; decide), this]
    simp; omega
  | .inr (.inl z) :: r => by
    have := lg_sl_len hq r
    simp only [lg_sl, List.map_cons, List.flatMap_cons, List.length_append, entL, List.length_cons] at this ⊢
    rw [if_pos (show (cv P (.inr (.inl z))).category = 2 from rfl), this]
    simp; omega
  | .inr (.inr z) :: r => by
    have := lg_sl_len hq r
    simp only [lg_sl, List.map_cons, List.flatMap_cons, List.length_append, entL, List.length_cons] at this ⊢
    rw [if_neg (show ¬ (cv P (.inr (.inr z))).category = 2 by rw [show (cv P (.inr (.inr z))).category = 1 from cat_A hq z]; decide), this]
    simp; omega
theorem LR_ent {P : PB} {z : Nat} {av : List AV} (hq : P.2.2.1 = .null ∨ ∃ t, P.2.2.1 = .ref t) (hz : z < 303) (h : knd av (sgOf z) = true) : LR P z (ent (mMl z) av) ((lg_sl (av.map (cv P)) ++ List.replicate (mMl z - (lg_sl (av.map (cv P))).length) Slot.unset).toArray) := by
  have h1 := (okLg_y hz).2.2
  have h2 := entL_len av _ h
  have h3 := lg_sl_len hq av
  unfold LR ent
  rw [asL_ent hq]
  exact lv_entry _ (by omega)
def RetOK (p : Program) (l : Launch) (e : Env) (R : Room) (s : State) (m : MethodId) (args : Array Value) (below : List Frame) (meth : Method) (c : Code) (Q : State → Prop) (P : PB) (y n0 z0 : Nat) (r : RT) : Prop :=
  ∀ (pc : Nat) (ri : RI) (H : Heap) (locs : List Loc) (lsr : Array Slot), cdAt y pc = some ri → retOK ri r.1 → va_P P.2.2.2.1 vwCl (wsO P r.2) H → va_S (RG P) s.heap H locs → W p l e R s m args below meth c H locs (r.2.1.length - n0) (sl r.2.1 - z0) Q (F0 m (mOff y pc) lsr (r.1.map (cv P)))
theorem core {l : Launch} {d : Nat} (hM : MetOK l d) (hF : WfOK d) {p : Program} {e : Env} {R : Room} {s : State} {m : MethodId} {args : Array Value} {below : List Frame} {meth : Method} {c : Code} {Q : State → Prop} {P : PB} {y L n0 z0 : Nat} {xs : Nat → Int32} {r : RT} (C : CX p R s m args meth c P y L d n0 z0 xs r)
    (hRet : RetOK p l e R s m args below meth c Q P y n0 z0 r) : ∀ (n pc : Nat) (ls : LVs) (st : List AV) (hp : HP), inn (Cd d) y n pc ls st hp = some r → KJ p l e R s m args below meth c Q P y L n0 z0 xs r pc ls st hp
  | 0, pc, ls, st, hp, h => by simp [inn] at h
  | n + 1, pc, ls, st, hp, h => by
    have ih := core hM hF C hRet n
    have hgk : ∀ pc' ls' st' hp', inn (Cd d) y n pc' ls' st' hp' = some r → Gr hp' r.2 := fun pc' ls' st' hp' h => inn_gr (Cd d) (Cd_gr d) y n _ _ _ _ _ h
    rw [inn_succ] at h
    cases hc : cdAt y pc with
    | none => rw [hc] at h; cases h
    | some ri =>
      rw [hc] at h
      simp only at h
      unfold stp at h
      cases g0 : Nat.ble ri.1 4 with
      | true => rw [g0] at h; exact sim0 C hc h ih
      | false =>
      rw [g0] at h
      simp only at h
      cases g1 : Nat.ble ri.1 11 with
      | true => rw [g1] at h; exact sim1 C hc h ih
      | false =>
      rw [g1] at h
      simp only at h
      cases g2 : Nat.ble ri.1 13 with
      | true => rw [g2] at h; exact sim2 C hc h ih
      | false =>
      rw [g2] at h
      simp only at h
      cases g3 : Nat.ble ri.1 22 with
      | true => rw [g3] at h; exact sim3 C hc h ih
      | false =>
      rw [g3] at h
      simp only at h
      cases g4 : Nat.ble ri.1 28 with
      | true => rw [g4] at h; exact sim4 C hc h ih
      | false =>
      rw [g4] at h
      simp only at h
      cases g5 : Nat.ble ri.1 34 with
      | true => rw [g5] at h; exact sim5 C hc h ih
      | false =>
      rw [g5] at h
      simp only at h
      cases g6 : Nat.ble ri.1 42 with
      | true => rw [g6] at h; exact sim6 C hc h ih
      | false =>
      rw [g6] at h
      simp only at h
      cases g7 : Nat.ble ri.1 49 with
      | true => rw [g7] at h; exact sim7 C hc h ih
      | false =>
      rw [g7] at h
      simp only at h
      cases g8 : Nat.ble ri.1 52 with
      | true => rw [g8] at h; exact sim8 C hc h ih
      | false =>
      rw [g8] at h
      simp only at h
      cases g9 : Nat.ble ri.1 53 with
      | true => rw [g9] at h; exact sim9 C hc h ih
      | false =>
      rw [g9] at h
      simp only at h
      cases g10 : Nat.ble ri.1 54 with
      | true => rw [g10] at h; exact sim10 C hc h ih
      | false =>
      rw [g10] at h
      simp only at h
      cases g11 : Nat.ble ri.1 59 with
      | true => rw [g11] at h; exact sim11 C hc h ih
      | false =>
      rw [g11] at h
      simp only at h
      cases g12 : Nat.ble ri.1 66 with
      | true => rw [g12] at h; exact sim12 C hc hRet h ih
      | false =>
      rw [g12] at h
      simp only at h
      cases g13 : Nat.ble ri.1 67 with
      | true => rw [g13] at h; exact sim13 C hM hF hc hgk h ih
      | false =>
      rw [g13] at h
      simp only at h
      exact sim14 C hc hgk h ih
theorem nar_c {x : Int} (h1 : 0 ≤ x) (h2 : x < 65536) : narrow .char (.int (Int32.ofInt x)) = .int (Int32.ofInt x) := by
  have e : (Int32.ofInt x).toInt = x := t_i ⟨by omega, by omega⟩
  show Value.int _ = Value.int _
  rw [lg_i2c_small (by rw [e]; exact h1) (by rw [e]; exact h2)]
theorem nar_b {x : Int} (h1 : -128 ≤ x) (h2 : x < 128) : narrow .byte (.int (Int32.ofInt x)) = .int (Int32.ofInt x) := by
  have e : (Int32.ofInt x).toInt = x := t_i ⟨by omega, by omega⟩
  have e2 : (Int32.ofInt x).toInt8.toInt32 = Int32.ofInt x := by
    rw [← Int32.toInt_inj, Int8.toInt_toInt32, Int32.toInt_toInt8, e]
    unfold Int.bmod
    simp only
    split <;> omega
  show Value.int _ = Value.int _
  rw [e2]
theorem WfOK_succ {l : Launch} {d : Nat} (hM : MetOK l d) (hF : WfOK d) : WfOK (d + 1) := by
  intro p e s args below meth c P L n0 xs hx hts hWD hsz hn0 z av hp r hz hcd hw hn1 hwa
  obtain ⟨d', hd', hkn, hrc, n, hn⟩ := Cd_inv hcd
  cases hd'
  obtain ⟨⟨k1, k2, k3⟩, ⟨k4, k5, k6, k7, k8⟩, k9⟩ := mw_ok hz
  obtain ⟨mk, hnamed⟩ := Cond.code_named (hts _ k1)
  have hown := findClass_of_methodNamed hnamed
  have C : CX p { frames := d + 1, cells := r.2.1.length, slots := sl r.2.1, locals := 64 * (d + 1) } s mk args { meth with name := (mName z).name } { c with code := mByt z, maxLocals := mMl z } P z L d n0 0 xs r := ⟨hx, rfl, rfl, hown, hts, hWD, hsz, hn0, Or.inl rfl, Nat.le_refl _, Nat.le_refl _, Nat.sub_le _ _, Nat.sub_le _ _⟩
  have K := core (l := l) (e := e) (below := below) (Q := fun _ => True) hM hF C (fun _ _ _ _ _ _ _ _ _ T _ _ => ⟨_, Steps.refl _, trivial⟩) n 0 _ _ _ hn
  exact (K ⟨ent_len (by omega) hkn, ent_at (by omega) hkn hwa, fun _ h => absurd h List.not_mem_nil, hw, hn1, Nat.zero_le _⟩).1
theorem Met_ofF {l : Launch} {y : MethodName} {ws ws' : List Jvm.Cond} {rm : Room} {Pc : Array Value → State → Prop} {Qc : Array Value → State → Outcome → State → Prop} {mc ms : Nat} {free : Addr → Prop} {cc : ByteArray} {maxL : Nat} {ret : Option FieldType}
    (hy : plainFor y = true) (hw : ws = Jvm.Cond.code y cc maxL ret :: ws')
    (body : ∀ p e s m args below meth c s₁, BodyLoose p l y (headSpec ws rm) cc maxL ret e s m args below meth c s₁ → c.maxLocals = maxL → Pc args s →
      W p l e (headSpec ws rm).room s m args below meth c s.heap [] 0 0 (MQ below Qc args s mc ms free) (entryFrame m args maxL)) : Met l y ws rm Pc Qc mc ms free := by
  refine MetFree.of_bodySF (code := cc) (maxLocals := maxL) (ret := ret) hy ?_ ?_
  · intro args s m h hn
    obtain ⟨meth, c, h1, h2, h3, h4, h5, h6, -, -⟩ := Cond.code_spec hn (atoms_spec (ws := ws) h _ (by rw [hw]; exact List.mem_cons_self))
    exact ⟨meth, c, h1, h2, h3, h4, h5, h6⟩
  · intro p e s m args below meth c s₁ B hml hP _
    have hh0 : s₁.heap = s.heap := by rw [B.state]; rfl
    obtain ⟨t, a1, o, b1, b2, b3⟩ := body p e s m args below meth c s₁ B hml hP s₁ hh0 (Stand.of_body B)
    exact ⟨t, o, a1, b1, b2, ⟨b3.1, b3.2⟩⟩
set_option maxHeartbeats 1000000 in
theorem MetOK_succ {l : Launch} {d : Nat} (hM : MetOK l d) (hF : WfOK d) : MetOK l (d + 1) := by
  intro z av hp r P L xs hz hcd hw hwa
  have hgr := Gr_len (Cd_gr _ _ _ _ _ hcd)
  obtain ⟨d', hd', hkn, hrc, n, hn⟩ := Cd_inv hcd
  cases hd'
  obtain ⟨⟨k1, k2, k3⟩, ⟨k4, k5, k6, k7, k8⟩, k9⟩ := mw_ok hz
  refine Met_ofF (cc := mByt z) (maxL := mMl z) (ret := mRet z) k3 rfl ?_
  intro p e s m args below meth c s₁ B hml hPc
  obtain ⟨rfl, hWD, hsz, hP⟩ := hPc
  have hx := B.exec
  have hb := B.bytes
  have hr := B.returns
  have hts : ∀ w ∈ gW, w.before ((av.map (cv P)).toArray) s = true := fun w h => atoms_spec (ws := wsM z) B.pre w (List.mem_cons_of_mem _ h)
  have hown : s.vm.findClass (mName z).cls = some m.cls := findClass_of_methodNamed B.named
  have hlocks := B.notSynchronized
  have hnm : meth.name = (mName z).name := (name_of_methodNamed B.named B.method).1
  have hq := hWD.2.2.2
  have C : CX p (headSpec (wsM z) (rmO (d + 1) hp r.2)).room s m (av.map (cv P)).toArray meth c P z L d hp.1.length (sl hp.1) xs r := ⟨hx, hb, hml, hown, hts, hWD, hsz, hw.1.1, Or.inl hnm, Nat.le_refl _, Nat.le_refl _, Nat.le_refl _, Nat.le_refl _⟩
  have K := core (l := l) (e := e) (below := below) (Q := MQ below (QcO P r) (av.map (cv P)).toArray s (r.2.1.length - hp.1.length) (sl r.2.1 - sl hp.1) (RG P)) hM hF C (fun pc ri H locs lsr hc hret hP2 hS2 => ?_) n 0 _ _ _ hn
  · obtain ⟨-, hW⟩ := K ⟨ent_len (by omega) hkn, ent_at (by omega) hkn hwa, fun _ h => absurd h List.not_mem_nil, hw, Nat.le_refl _, Nat.le_refl _⟩
    have hW := hW s.heap [] _ (LR_ent hq (by omega) hkn) hP va_S.rf
    rw [k7] at hW
    rw [lg_entry_eq]
    exact W.cs (by omega) (by omega) hW
  · have hqc : ∀ t : State, t.heap = H → s.WarmedH t.vm → QcO P r (av.map (cv P)).toArray s (.returned ((r.1.map (cv P)).head?)) t := fun t ht hWm => ⟨rfl, by rw [ht]; exact hP2, hS2.F ht⟩
    rcases hret with ⟨h1, h2⟩ | ⟨h1, x0, h2, h3⟩ | ⟨h1, x0, h2, h3⟩ | ⟨h1, x0, h2, h3⟩ | ⟨h1, x0, h2⟩ | ⟨h1, x0, h2, h3⟩ | ⟨h1, x0, h2, h3⟩
    all_goals
      obtain ⟨o, a, b, cc, x, zz⟩ := ri
      simp only at h1
      subst h1
      obtain ⟨hd, hok, -, -⟩ := at_ok hc (by simp)
      rw [h2] at hqc ⊢
    · have hok : mRet z = none := of_decide_eq_true hok
      exact W.vret hx hb (hr.trans hok) hqc hS2.2.2 hd
    · have hok : mRet z = some .int := of_decide_eq_true hok
      exact W.iret hx hb (hr.trans hok) hqc hS2.2.2 hd
    · have hok : mRet z = some .boolean := of_decide_eq_true hok
      exact W.zret hx hb (hr.trans hok) (by rcases h3 with rfl | rfl <;> rfl) hqc hS2.2.2 hd
    · have hok : mRet z = some .long := of_decide_eq_true hok
      exact W.lret hx hb (hr.trans hok) hqc hS2.2.2 hd
    · have hok : (match mRet z with | some t => isO t | none => false) = true := hok
      cases hm : mRet z with
      | none => rw [hm] at hok; cases hok
      | some t =>
        rw [hm] at hok
        exact W.aret hx hb (hr.trans hm) (by cases t <;> simp [isO] at hok <;> first | exact Or.inl ⟨_, rfl⟩ | exact Or.inr ⟨_, rfl⟩) (cvA_two hq x0) hqc hS2.2.2 hd
    · have hok : mRet z = some .char := of_decide_eq_true hok
      exact W.zret hx hb (hr.trans hok) (nar_c h3.1 h3.2) hqc hS2.2.2 hd
    · have hok : mRet z = some .byte := of_decide_eq_true hok
      exact W.zret hx hb (hr.trans hok) (nar_b h3.1 h3.2) hqc hS2.2.2 hd
theorem MetOK_0 (l : Launch) : MetOK l 0 := by
  intro z av hp r P L xs hz hcd
  simp [Cd] at hcd
theorem WfOK_0 : WfOK 0 := by
  intro p e s args below meth c P L n0 xs hx hts hWD hsz hn0 z av hp r hz hcd
  simp [Cd] at hcd
theorem bothOK (l : Launch) : ∀ d, MetOK l d ∧ WfOK d
  | 0 => ⟨MetOK_0 l, WfOK_0⟩
  | d + 1 => ⟨MetOK_succ (bothOK l d).1 (bothOK l d).2, WfOK_succ (bothOK l d).1 (bothOK l d).2⟩
end
section
def lw_P (b : Addr) (xs : List Int32) (args : Array Value) (s : State) : Prop := args = #[.ref b] ∧ s.IntsAt b xs ∧ xs.length ≤ 3072 ∧ (Jvm.Cond.and given_1 narrow_1).before args s = true
def lw_Q (_ : Array Value) (s : State) (o : Outcome) (t : State) : Prop := o = .returned (some (.int 1)) ∧ Framed s o t [] 600000 7302250
def lw_Z (below : List Frame) (a : Array Value) (s : State) : State → Prop := fun t => ∃ o, t.status = .running ∧ Ended t below o ∧ lw_Q a s o t
/-- the law's own end, with 1 on the stack, nothing written that was there before, its room as the claim has it -/
theorem lw_ret {p : Program} {l : Launch} {e : Env} {s : State} {m : MethodId} {below : List Frame} {meth : Method} {c : Code} {b : Nat} (hx : p.tables.exec = Jvm.exec) (hb : c.code = code) (hr : meth.sig.returnType = ret) (hlocks : meth.locks = false) {pc : Nat} {H : Heap} {ls : Array Slot} (hdg : decode code pc = .ok (.ireturn, 1)) : W p l e room_1 s m #[Value.ref b] below meth c H [] 600000 7302250 (lw_Z below #[Value.ref b] s) (F0 m pc ls [.int 1]) := by
  intro T hT X
  obtain ⟨fs, hret, hrun, hended, hW, hframe⟩ := X.leave (v := some (.int 1)) (hlocks := hlocks) (fun h => by rw [hr] at h; cases h)
  have hmeth' : T.vm.method? m = some meth := X.method'
  refine ⟨T.setFrames fs, ?_, .returned (some (.int 1)), hrun, hended, rfl, ⟨_, rfl⟩, hW, hframe⟩
  jvm_step X.here [X.here.top, hx, hb, hdg, hmeth', hr, ret, narrow_b1]
  (try refine ⟨rfl, ?_⟩); (try refine ⟨rfl, ?_⟩)
  first | (intro acts; rw [hret _ acts rfl rfl rfl]) | rw [hret _ _ rfl rfl rfl]
  exact Steps.refl _
/-- what holds at the law's entry: the machine, the code, the tables' words (any of lw_tbl by 'hts w (by decide +kernel)'), the script of L ints xs at the cell b, what the Statement gives of the start (any of its parts by flat_of_before) -/
def lw_At (p : Program) (s : State) (m : MethodId) (meth : Method) (c : Code) (b L : Nat) (xs : Nat → Int32) : Prop :=
  p.tables.exec = Jvm.exec ∧ c.code = code ∧ meth.sig.returnType = ret ∧ c.maxLocals = 4 ∧ s.vm.findClass R_law = some m.cls ∧ (∀ w ∈ lw_tbl, w.before #[Value.ref b] s = true) ∧ va_X b L xs s s.heap ∧ b < s.heap.size ∧ meth.locks = false ∧ (Jvm.Cond.and given_1 narrow_1).before #[Value.ref b] s = true
/-! the law's start: the world that the Statement gives -/
def strIx : List Nat := [162, 164, 170, 172, 174, 175, 176, 178, 179, 181, 183, 146]
def strTm (i : Nat) : Term := .string "ShownNot$Reader" (strIx.getD i 0)
def gvL : List Jvm.Cond := flatC (Jvm.Cond.and given_1 narrow_1)
def inG (w : Jvm.Cond) : Bool := decide (w ∈ gvL)
def allN (n : Nat) (f : Nat → Bool) : Bool := (List.range n).all f
theorem allN_at {n : Nat} {f : Nat → Bool} (h : allN n f = true) {i : Nat} (hi : i < n) : f i = true := List.all_eq_true.mp h i (List.mem_range.mpr hi)
theorem inG_of {w : Jvm.Cond} (h : inG w = true) : w ∈ gvL := of_decide_eq_true h
set_option maxRecDepth 100000 in
theorem g_ex : allN 12 (fun i => inG (.exactly (strTm i) "java/lang/String")) = true := by decide +kernel
set_option maxRecDepth 100000 in
theorem g_co : allN 12 (fun i => inG (.eq (.field (strTm i) "java/lang/String" "coder" "B") (.int 0))) = true := by decide +kernel
set_option maxRecDepth 100000 in
theorem g_ar : allN 12 (fun i => inG (.arrayOf (.field (strTm i) "java/lang/String" "value" "[B") .byte)) = true := by decide +kernel
set_option maxRecDepth 100000 in
theorem g_le : allN 12 (fun i => inG (.eq (.length (.field (strTm i) "java/lang/String" "value" "[B")) (.int (Int32.ofNat (lens.getD i 0))))) = true := by decide +kernel
set_option maxRecDepth 100000 in
theorem g_el : allN 12 (fun i => allN (lens.getD i 0) fun j => inG (.eq (.elem (.field (strTm i) "java/lang/String" "value" "[B") (.int (Int32.ofNat j))) (.int ((bytL.getD i []).getD j 0)))) = true := by decide +kernel
set_option maxRecDepth 100000 in
theorem g_ne : allN 12 (fun i => allN 12 fun j => i == j || inG (.not (.eq (strTm i) (strTm j))) || inG (.not (.eq (strTm j) (strTm i)))) = true := by decide +kernel
set_option maxRecDepth 100000 in
theorem g_sa : allN 3 (fun a => inG (.arrayOf (.static "ShownNot" (stA a).1 "[I") .int)) = true := by decide +kernel
set_option maxRecDepth 100000 in
theorem g_sl : allN 3 (fun a => inG (.eq (.length (.static "ShownNot" (stA a).1 "[I")) (.int (Int32.ofNat (stA a).2.length)))) = true := by decide +kernel
set_option maxRecDepth 100000 in
theorem g_se : allN 3 (fun a => allN (stA a).2.length fun j => inG (.eq (.elem (.static "ShownNot" (stA a).1 "[I") (.int (Int32.ofNat j))) (.int (Int32.ofInt ((stA a).2.getD j 0))))) = true := by decide +kernel
set_option maxRecDepth 100000 in
theorem g_sn : allN 4 (fun a => inG (.eq (.static (stN a).1 (stN a).2.1 (stN a).2.2.1) (.int (Int32.ofInt (stN a).2.2.2)))) = true := by decide +kernel
set_option maxRecDepth 100000 in
theorem g_pf : inG (.isRef (.static "jdk/internal/util/Preconditions" "SIOOBE_FORMATTER" "Ljava/util/function/BiFunction;")) = true := by decide +kernel
def inL2 (w : Jvm.Cond) : Bool := decide (w ∈ lw_tbl)
theorem inL2_of {w : Jvm.Cond} (h : inL2 w = true) : w ∈ lw_tbl := of_decide_eq_true h
set_option maxRecDepth 100000 in
theorem l_sa : allN 3 (fun a => inL2 (.laysStatic "ShownNot" (stA a).1 "[I")) = true := by decide +kernel
set_option maxRecDepth 100000 in
theorem l_sn : allN 4 (fun a => inL2 (.laysStatic (stN a).1 (stN a).2.1 (stN a).2.2.1) && inL2 (.initialized (stN a).1)) = true := by decide +kernel
set_option maxRecDepth 100000 in
theorem l_pf : (inL2 (.laysStatic "jdk/internal/util/Preconditions" "SIOOBE_FORMATTER" "Ljava/util/function/BiFunction;") && inL2 (.initialized "jdk/internal/util/Preconditions") && inL2 (.initialized "ShownNot")) = true := by decide +kernel
set_option maxRecDepth 100000 in
theorem l_ao : (inL2 (.arrayOver (.object "ShownNot$Chart")) && inL2 (.arrayOver (.object "ShownNot$Showing"))) = true := by decide +kernel
def chkS (w : Jvm.Cond) : Bool := match w with | .stringRef own x t => own == "ShownNot$Reader" && allN 12 (fun a => !(stS a == t) || x == strIx.getD a 0) | _ => true
set_option maxRecDepth 100000 in
theorem l_st : lw_tbl.all chkS = true := by decide +kernel
def xAd (b : Nat) (tA adK adV : Nat → Nat) (i : Nat) : Nat := if i = 1 then b else if i < 5 then tA (i - 2) else if (i - 5) % 2 = 0 then adK ((i - 5) / 2) else adV ((i - 6) / 2)
theorem xAd_1 (b : Nat) (tA adK adV : Nat → Nat) : xAd b tA adK adV 1 = b := rfl
theorem xAd_A (b : Nat) (tA adK adV : Nat → Nat) {a : Nat} (h : a < 3) : xAd b tA adK adV (2 + a) = tA a := by
  unfold xAd; rw [if_neg (by omega), if_pos (by omega), show 2 + a - 2 = a by omega]
theorem xAd_K (b : Nat) (tA adK adV : Nat → Nat) (a : Nat) : xAd b tA adK adV (5 + 2 * a) = adK a := by
  unfold xAd; rw [if_neg (by omega), if_neg (by omega), if_pos (by omega), show (5 + 2 * a - 5) / 2 = a by omega]
theorem xAd_V (b : Nat) (tA adK adV : Nat → Nat) (a : Nat) : xAd b tA adK adV (6 + 2 * a) = adV a := by
  unfold xAd; rw [if_neg (by omega), if_neg (by omega), if_neg (by omega), show (6 + 2 * a - 6) / 2 = a by omega]
set_option maxHeartbeats 4000000 in
theorem WD_start {p : Program} {s : State} {m : MethodId} {meth : Method} {c : Code} {b L : Nat} {xs : Nat → Int32} (C0 : lw_At p s m meth c b L xs) : ∃ P : PB, P.1 = s.heap.size ∧ P.2.1 1 = b ∧ WD P L xs s := by
  obtain ⟨hx, hb, hr, hml, hown, hts, hX, hbl, hlocks, hgv⟩ := C0
  have hG : ∀ w, inG w = true → w.before #[Value.ref b] s = true := fun w h => flat_of_before _ hgv w (inG_of h)
  have hL2 : ∀ w, inL2 w = true → w.before #[Value.ref b] s = true := fun w h => hts w (inL2_of h)
  let A : Nat → Prop := fun q => s.heap.size ≤ q
  have hA : ∀ a : Nat, a < s.heap.size → ¬ A a := fun a h g => by have g : s.heap.size ≤ a := g; omega
  -- texts
  obtain ⟨adK, adV, hvS, hev⟩ := vk_Sof (args := #[Value.ref b]) (s := s) (N := 12) (tm := strTm) (len := lens) (byt := bytL) (A := A) (by decide +kernel) (fun i hi => hG _ (allN_at g_ex hi)) (fun i hi => hG _ (allN_at g_co hi)) (fun i hi => hG _ (allN_at g_ar hi)) (fun i hi => hG _ (allN_at g_le hi)) (fun i hi j hj => hG _ (allN_at (allN_at g_el hi) hj)) (fun i j hi hj hij => by
    have h := allN_at (allN_at g_ne hi) hj
    simp only [Bool.or_eq_true, beq_iff_eq] at h
    rcases h with (h | h) | h
    · exact absurd h hij
    · exact Or.inl (hG _ h)
    · exact Or.inr (hG _ h)) hA
  -- statics
  have hst : ∀ a : Nat, ∃ t : Nat, a < 3 → va_T .int t (stA a).2.length (fun j => .int (Int32.ofInt ((stA a).2.getD j 0))) A s s.heap ∧ va_Z "ShownNot" (stA a).1 "[I" (.ref t) A s s.heap := by
    intro a
    by_cases ha : a < 3
    · have hlt : (stA a).2.length < 2 ^ 31 := by
        have : ∀ a, a < 3 → (stA a).2.length < 2 ^ 31 := by decide +kernel
        exact this a ha
      obtain ⟨t, h1, h2⟩ := va_Tof (tm := .static "ShownNot" (stA a).1 "[I") (f := fun j => .int (Int32.ofInt ((stA a).2.getD j 0))) (A := A) hlt (hG _ (allN_at g_sa ha)) (va_eqt (hG _ (allN_at g_sl ha))) (fun j hj => va_eqt (hG _ (allN_at (allN_at g_se ha) hj))) hA
      have hp := l_pf
      simp only [Bool.and_eq_true] at hp
      exact ⟨t, fun _ => ⟨h2, va_Zref (hL2 _ (allN_at l_sa ha)) (hL2 _ hp.2) h1 hA⟩⟩
    · exact ⟨0, fun h => absurd h ha⟩
  obtain ⟨tA, htA⟩ := Classical.axiomOfChoice hst
  have hnm : ∀ a, a < 4 → va_Z (stN a).1 (stN a).2.1 (stN a).2.2.1 (.int (Int32.ofInt (stN a).2.2.2)) A s s.heap := fun a ha => by
    have h := allN_at l_sn ha
    simp only [Bool.and_eq_true] at h
    exact va_Zof (hL2 _ h.1) (hL2 _ h.2) (va_eqt (hG _ (allN_at g_sn ha))) hA
  have hpf : ∃ v : Value, va_Z "jdk/internal/util/Preconditions" "SIOOBE_FORMATTER" "Ljava/util/function/BiFunction;" v A s s.heap ∧ (v = .null ∨ ∃ t, v = .ref t) := by
    have hp := l_pf
    simp only [Bool.and_eq_true] at hp
    rcases va_Zqof (hL2 _ hp.1.1) (hL2 _ hp.1.2) (hG _ g_pf) hA with h | ⟨t, h⟩
    · exact ⟨_, h, Or.inl rfl⟩
    · exact ⟨_, h, Or.inr ⟨t, rfl⟩⟩
  obtain ⟨qv, hqZ, hqv⟩ := hpf
  -- kinds
  have hkn : ∀ k : Nat, ∃ pr : ClassId × (Nat → Nat), ∀ q, vwCl[k]? = some q → u_Kn s q.1 q.2.1 q.2.2 pr.1 pr.2 := by
    intro k
    cases hk : vwCl[k]? with
    | none => exact ⟨(0, fun _ => 0), fun q h => by cases h⟩
    | some q =>
      obtain ⟨-, h1, -⟩ := clsOK k q hk
      obtain ⟨h2, -, -⟩ := clsNew k q hk
      obtain ⟨cC, iS, h3⟩ := u_known (ws := gW) (fun w hw => hts w (List.mem_filter.mp hw).1) h1 (hts _ (List.mem_filter.mp h2).1)
      exact ⟨(cC, iS), fun q' h => by cases h; exact h3⟩
  obtain ⟨kn, hkn⟩ := Classical.axiomOfChoice hkn
  obtain ⟨c0, k0, m0, a1, a2, a3⟩ := Cond.arrayClass_spec (hts _ (List.mem_filter.mp w_ai).1)
  obtain ⟨c1, k1, m1, b1, b2, b3⟩ := Cond.arrayClass_spec (hts _ (List.mem_filter.mp w_al).1)
  obtain ⟨c2, k2, m2, d1, d2, d3⟩ := Cond.arrayClass_spec (hts _ (List.mem_filter.mp w_az).1)
  have hao := l_ao
  simp only [Bool.and_eq_true] at hao
  obtain ⟨m3, c3, k3, e1, -, e2, e3, e4⟩ := Cond.arrayOver_spec (hL2 _ hao.1)
  obtain ⟨m4, c4, k4, f1, -, f2, f3, f4⟩ := Cond.arrayOver_spec (hL2 _ hao.2)
  let P : PB := (s.heap.size, xAd b tA adK adV, qv, (fun k => (kn k).1, fun k => (kn k).2), fun j => if j = 0 then c0 else if j = 1 then c1 else if j = 2 then c2 else if j = 3 then c3 else c4)
  refine ⟨P, rfl, rfl, fun w hw hn => ?_, fun own x a ha hw => ?_, ⟨⟨fun k q hk => hkn k q hk, fun k q hk => ?_⟩, ?_, fun a ha => ?_, hnm, hqZ, ?_, va_AO.of (hL2 _ hao.1), va_AO.of (hL2 _ hao.2)⟩, hqv⟩
  · cases w with
    | methodLinkNest => exact va_Nw.of rfl (hts _ hw)
    | fieldLinkNest => exact va_Nw.of rfl (hts _ hw)
    | _ => cases hn
  · have h := List.all_eq_true.mp l_st _ hw
    simp only [chkS, Bool.and_eq_true, beq_iff_eq] at h
    obtain ⟨h1, h2⟩ := h
    have h3 := allN_at h2 (show a < 12 from ha)
    simp only [beq_self_eq_true, Bool.not_true, Bool.false_or, beq_iff_eq] at h3
    subst h1; subst h3
    show vk_R _ _ _ (xAd b tA adK adV (5 + 2 * a)) s
    rw [xAd_K]
    exact vk_R.of (hts _ hw) (hev a ha)
  · match k, hk with
    | 0, hk => cases hk; exact ⟨fun n z => ⟨(fun k h => by cases h), k0, a2, m0, a3⟩, a1⟩
    | 1, hk => cases hk; exact ⟨fun n z => ⟨(fun k h => by cases h), k1, b2, m1, b3⟩, b1⟩
    | 2, hk => cases hk; exact ⟨fun n z => ⟨(fun k h => by cases h), k2, d2, m2, d3⟩, d1⟩
    | 3, hk => cases hk; exact ⟨fun n z => ⟨(fun k h => by cases h), k3, e2, m3, e3⟩, k3, m3, e2, e3, e1, e4⟩
    | 4, hk => cases hk; exact ⟨fun n z => ⟨(fun k h => by cases h), k4, f2, m4, f3⟩, k4, m4, f2, f3, f1, f4⟩
    | n + 5, hk => simp [tysO] at hk
  · obtain ⟨scr, h1, h2, h3, h4, h5⟩ := hX
    exact ⟨scr, h1, h2, h3, by omega, by rw [h4], h5, hA b hbl⟩
  · have h := htA a ha
    rw [show P.2.1 (2 + a) = tA a from xAd_A b tA adK adV ha]
    exact h
  · have e1 : (fun i => P.2.1 (5 + 2 * i)) = adK := funext fun i => xAd_K b tA adK adV i
    have e2 : (fun i => P.2.1 (6 + 2 * i)) = adV := funext fun i => xAd_V b tA adK adV i
    rw [e1, e2]
    exact hvS
theorem x_wf {L : Nat} (hL : L ≤ 3072) (xs : Nat → Int32) : wfH L xs (xSh L, xCt xs) := by
  have hl := xSh_len L
  refine ⟨⟨by show KX ≤ (xSh L).length; rw [hl]; exact Nat.le_refl _, hL⟩, ?_, fun i k _ => rfl, fun i q hi hq => ?_⟩
  · show (xSh L).take KX = xSh L
    rw [List.take_of_length_le (by rw [hl]; exact Nat.le_refl _)]
  · have : i < (xSh L).length := (List.getElem?_eq_some_iff.mp hq).1
    rw [hl] at this
    have h2 : 29 ≤ i := hi
    omega
/-- the law's claim, in the machine of numbers -/
def LawOK : Prop := ∀ (L : Nat) (xs : Nat → Int32), L ≤ 3072 → ∃ hp' : HP, Cd 1000 302 [vA 1] (xSh L, xCt xs) = some ([vI 1], hp') ∧ hp'.1.length ≤ 600029 ∧ sl hp'.1 ≤ 7302250
theorem start_of (hlaw : LawOK) {p : Program} {e : Env} {s : State} {m : MethodId} {below : List Frame} {meth : Method} {c : Code} (l : Launch) {b L : Nat} {xs : Nat → Int32} (hL : L ≤ 3072) (C0 : lw_At p s m meth c b L xs) : W p l e room_1 s m #[Value.ref b] below meth c s.heap [] 0 0 (lw_Z below #[Value.ref b] s) (entryFrame m ([Value.ref b] : List Value).toArray 4) := by
  obtain ⟨P, hP1, hPb, hWD⟩ := WD_start C0
  obtain ⟨hx, hb, hr, hml, hown, hts, hX, hbl, hlocks, hgv⟩ := C0
  obtain ⟨hp', hcd, hlen, hsl⟩ := hlaw L xs hL
  obtain ⟨d', hd', hkn, hrc, n, hn⟩ := Cd_inv hcd
  have hd' : d' = 999 := by omega
  subst hd'
  have hw := x_wf hL xs
  have hq := hWD.2.2.2
  have e1 : ([vA 1] : List AV).map (cv P) = [Value.ref b] := by
    rw [List.map_cons, List.map_nil, show cv P (vA 1) = cvA P 1 from rfl, cvA_pos (by decide) (by decide), show ad P (1 : Int).toNat = P.2.1 1 from rfl, hPb]
  have C : CX p room_1 s m #[Value.ref b] meth c P 302 L 999 29 (sl (xSh L)) xs ([vI 1], hp') := ⟨hx, hb, hml, hown, fun w h => hts w (List.mem_filter.mp h).1, hWD, by rw [hP1]; rfl, Nat.le_refl _, Or.inr rfl, by decide, by decide, by show hp'.1.length - 29 ≤ 600000; omega, by show sl hp'.1 - sl (xSh L) ≤ 7302250; omega⟩
  have K := core (l := l) (e := e) (below := below) (Q := lw_Z below #[Value.ref b] s) (bothOK l 999).1 (bothOK l 999).2 C (fun pc ri H locs lsr hc hret hP2 hS2 => ?_) n 0 _ _ _ hn
  · obtain ⟨-, hW⟩ := K ⟨ent_len (by omega) hkn, ent_at (by omega) hkn (fun v hv => by rw [List.mem_singleton.mp hv]; trivial), fun _ h => absurd h List.not_mem_nil, hw, by show 29 ≤ (xSh L).length; rw [xSh_len]; exact Nat.le_refl _, Nat.le_refl _⟩
    have hW := hW s.heap [] _ (LR_ent hq (by omega) hkn) (fun k q hk => by
      rw [wsO_at] at hk
      have h0 : (xSh L)[KX + k]? = none := List.getElem?_eq_none (by rw [xSh_len]; show 29 ≤ 29 + k; omega)
      rw [show (xSh L, xCt xs).1[KX + k]? = (xSh L)[KX + k]? from rfl, h0] at hk
      cases hk) va_S.rf
    rw [show mOff 302 0 = 0 from rfl, e1] at hW
    rw [lg_entry_eq]
    exact W.cs (by show 0 = (xSh L).length - 29; rw [xSh_len]) (by show 0 = sl (xSh L) - sl (xSh L); omega) hW
  · have hd : decode code (mOff 302 pc) = .ok (.ireturn, 1) := by
      rcases hret with ⟨h1, h2⟩ | ⟨h1, x0, h2, h3⟩ | ⟨h1, x0, h2, h3⟩ | ⟨h1, x0, h2, h3⟩ | ⟨h1, x0, h2⟩ | ⟨h1, x0, h2, h3⟩ | ⟨h1, x0, h2, h3⟩
      · cases h2
      case inr.inr.inr.inl => cases h2
      case inr.inr.inr.inr.inl => cases h2
      all_goals
        obtain ⟨o, a, b', cc, x, zz⟩ := ri
        simp only at h1
        subst h1
        exact (at_ok hc (by simp)).1
    exact va_forget (fun q hq2 => by have h : P.1 ≤ q.base := hS2.2.2 q hq2; rw [hP1] at h; exact h) (W.widen (by show hp'.1.length - 29 ≤ 600000; omega) (by show sl hp'.1 - sl (xSh L) ≤ 7302250; omega) (lw_ret hx hb hr hlocks hd))
end
section
/-! the methods as equations, written by a program -/
theorem Cd_inst {d z : Nat} {o : Int} {av : List AV} {hp : HP} {t n s : Nat} (hk : knd (vA o :: av) (sgOf z) = true) (hs : (skT[z]?).getD 0 = s + 1) (ht : (tgT[z]?).getD 999 = t) (hg : gS hp o = some (t, n)) : Cd (d + 1) z (vA o :: av) hp = Rr (Cd d) z 0 (ent (mMl z) (vA o :: av)) [] hp := by
  have hr : rcv z (vA o :: av) hp = true := by
    unfold rcv
    rw [hs]
    simp only [hg, ht]
    exact Nat.beq_refl t
  rw [Cd_succ, hk, hr]
  rfl
set_option maxRecDepth 100000 in
theorem c283 (d : Nat) (v0 : Int) (hp : HP) : Cd (d + 1) 283 [vI v0] hp =
  if 0 < iand (ixor v0 ((-1))) (w32 (v0 - 1)) then
    if 65536 < iand (ixor v0 ((-1))) (w32 (v0 - 1)) then
      Rr (Cd d) 283 24 [some (vI (iushr (iand (ixor v0 ((-1))) (w32 (v0 - 1))) 16)), some (vI (w32 (1 + 16)))] [] hp
    else
      Rr (Cd d) 283 24 [some (vI (iand (ixor v0 ((-1))) (w32 (v0 - 1)))), some (vI 1)] [] hp
  else
    some ([vI (iand (iand (ixor v0 ((-1))) (w32 (v0 - 1))) 32)], hp) := (Rr_blk (Cd d) 283 [24, 32, 40, 48] 55 0 _ [] hp).trans rfl
set_option maxRecDepth 100000 in
theorem c283_24 (d : Nat) (v0 v1 : Int) (hp : HP) : Rr (Cd d) 283 24 [some (vI v0), some (vI v1)] [] hp =
  if 256 < v0 then
    Rr (Cd d) 283 32 [some (vI (iushr v0 8)), some (vI (w32 (v1 + 8)))] [] hp
  else
    Rr (Cd d) 283 32 [some (vI v0), some (vI v1)] [] hp := (Rr_blk (Cd d) 283 [24, 32, 40, 48] 55 24 _ _ hp).trans rfl
set_option maxRecDepth 100000 in
theorem c283_32 (d : Nat) (v0 v1 : Int) (hp : HP) : Rr (Cd d) 283 32 [some (vI v0), some (vI v1)] [] hp =
  if 16 < v0 then
    Rr (Cd d) 283 40 [some (vI (iushr v0 4)), some (vI (w32 (v1 + 4)))] [] hp
  else
    Rr (Cd d) 283 40 [some (vI v0), some (vI v1)] [] hp := (Rr_blk (Cd d) 283 [24, 32, 40, 48] 55 32 _ _ hp).trans rfl
set_option maxRecDepth 100000 in
theorem c283_40 (d : Nat) (v0 v1 : Int) (hp : HP) : Rr (Cd d) 283 40 [some (vI v0), some (vI v1)] [] hp =
  if 4 < v0 then
    Rr (Cd d) 283 48 [some (vI (iushr v0 2)), some (vI (w32 (v1 + 2)))] [] hp
  else
    Rr (Cd d) 283 48 [some (vI v0), some (vI v1)] [] hp := (Rr_blk (Cd d) 283 [24, 32, 40, 48] 55 40 _ _ hp).trans rfl
set_option maxRecDepth 100000 in
theorem c283_48 (d : Nat) (v0 v1 : Int) (hp : HP) : Rr (Cd d) 283 48 [some (vI v0), some (vI v1)] [] hp =
  some ([vI (w32 (v1 + (iushr v0 1)))], hp) := (Rr_blk (Cd d) 283 [24, 32, 40, 48] 55 48 _ _ hp).trans rfl
set_option maxRecDepth 100000 in
theorem c284 (d : Nat) (v0 : Int) (hp : HP) : Cd (d + 1) 284 [vI v0] hp =
  some ([vI (iand (w32 (w32 (iand (w32 (w32 (iand (w32 (v0 - (iand (iushr v0 1) 1431655765))) 858993459 + (iand (iushr (w32 (v0 - (iand (iushr v0 1) 1431655765))) 2) 858993459)) + (iushr (w32 (iand (w32 (v0 - (iand (iushr v0 1) 1431655765))) 858993459 + (iand (iushr (w32 (v0 - (iand (iushr v0 1) 1431655765))) 2) 858993459))) 4))) 252645135 + (iushr (iand (w32 (w32 (iand (w32 (v0 - (iand (iushr v0 1) 1431655765))) 858993459 + (iand (iushr (w32 (v0 - (iand (iushr v0 1) 1431655765))) 2) 858993459)) + (iushr (w32 (iand (w32 (v0 - (iand (iushr v0 1) 1431655765))) 858993459 + (iand (iushr (w32 (v0 - (iand (iushr v0 1) 1431655765))) 2) 858993459))) 4))) 252645135) 8)) + (iushr (w32 (iand (w32 (w32 (iand (w32 (v0 - (iand (iushr v0 1) 1431655765))) 858993459 + (iand (iushr (w32 (v0 - (iand (iushr v0 1) 1431655765))) 2) 858993459)) + (iushr (w32 (iand (w32 (v0 - (iand (iushr v0 1) 1431655765))) 858993459 + (iand (iushr (w32 (v0 - (iand (iushr v0 1) 1431655765))) 2) 858993459))) 4))) 252645135 + (iushr (iand (w32 (w32 (iand (w32 (v0 - (iand (iushr v0 1) 1431655765))) 858993459 + (iand (iushr (w32 (v0 - (iand (iushr v0 1) 1431655765))) 2) 858993459)) + (iushr (w32 (iand (w32 (v0 - (iand (iushr v0 1) 1431655765))) 858993459 + (iand (iushr (w32 (v0 - (iand (iushr v0 1) 1431655765))) 2) 858993459))) 4))) 252645135) 8))) 16))) 63)], hp) := (Rr_blk (Cd d) 284 [] 43 0 _ [] hp).trans rfl
set_option maxRecDepth 100000 in
theorem c285 (d : Nat) (v0 : Int) (hp : HP) : Cd (d + 1) 285 [vI v0] hp =
  if v0 < 0 then
    Rr (Cd d) 285 6 [some (vI v0)] [vI (w32 (-v0))] hp
  else
    Rr (Cd d) 285 6 [some (vI v0)] [vI v0] hp := (Rr_blk (Cd d) 285 [6] 8 0 _ [] hp).trans rfl
set_option maxRecDepth 100000 in
theorem c285_6 (d : Nat) (s0 : Int) (o0 : Option AV) (hp : HP) : Rr (Cd d) 285 6 [o0] [vI s0] hp =
  some ([vI s0], hp) := (Rr_blk (Cd d) 285 [6] 8 6 _ _ hp).trans rfl
set_option maxRecDepth 100000 in
theorem c286 (d : Nat) (v0 v1 : Int) (hp : HP) : Cd (d + 1) 286 [vI v0, vI v1] hp =
  if v0 < v1 then
    Rr (Cd d) 286 6 [some (vI v0), some (vI v1)] [vI v1] hp
  else
    Rr (Cd d) 286 6 [some (vI v0), some (vI v1)] [vI v0] hp := (Rr_blk (Cd d) 286 [6] 8 0 _ [] hp).trans rfl
set_option maxRecDepth 100000 in
theorem c286_6 (d : Nat) (s0 : Int) (o0 o1 : Option AV) (hp : HP) : Rr (Cd d) 286 6 [o0, o1] [vI s0] hp =
  some ([vI s0], hp) := (Rr_blk (Cd d) 286 [6] 8 6 _ _ hp).trans rfl
set_option maxRecDepth 100000 in
theorem c287 (d : Nat) (v0 v2 : Int) (hp : HP) : Cd (d + 1) 287 [vL v0, vL v2] hp =
  if lcmp v0 v2 < 0 then
    Rr (Cd d) 287 7 [some (vL v0), none, some (vL v2), none] [vL v2] hp
  else
    Rr (Cd d) 287 7 [some (vL v0), none, some (vL v2), none] [vL v0] hp := (Rr_blk (Cd d) 287 [7] 9 0 _ [] hp).trans rfl
set_option maxRecDepth 100000 in
theorem c287_7 (d : Nat) (s0 : Int) (o0 o1 o2 o3 : Option AV) (hp : HP) : Rr (Cd d) 287 7 [o0, o1, o2, o3] [vL s0] hp =
  some ([vL s0], hp) := (Rr_blk (Cd d) 287 [7] 9 7 _ _ hp).trans rfl
set_option maxRecDepth 100000 in
theorem c288 (d : Nat) (v0 v1 : Int) (hp : HP) : Cd (d + 1) 288 [vI v0, vI v1] hp =
  if v1 < v0 then
    Rr (Cd d) 288 6 [some (vI v0), some (vI v1)] [vI v1] hp
  else
    Rr (Cd d) 288 6 [some (vI v0), some (vI v1)] [vI v0] hp := (Rr_blk (Cd d) 288 [6] 8 0 _ [] hp).trans rfl
set_option maxRecDepth 100000 in
theorem c288_6 (d : Nat) (s0 : Int) (o0 o1 : Option AV) (hp : HP) : Rr (Cd d) 288 6 [o0, o1] [vI s0] hp =
  some ([vI s0], hp) := (Rr_blk (Cd d) 288 [6] 8 6 _ _ hp).trans rfl
set_option maxRecDepth 100000 in
theorem c289 (d : Nat) (v0 v2 : Int) (hp : HP) : Cd (d + 1) 289 [vL v0, vL v2] hp =
  if 0 < lcmp v0 v2 then
    Rr (Cd d) 289 7 [some (vL v0), none, some (vL v2), none] [vL v2] hp
  else
    Rr (Cd d) 289 7 [some (vL v0), none, some (vL v2), none] [vL v0] hp := (Rr_blk (Cd d) 289 [7] 9 0 _ [] hp).trans rfl
set_option maxRecDepth 100000 in
theorem c289_7 (d : Nat) (s0 : Int) (o0 o1 o2 o3 : Option AV) (hp : HP) : Rr (Cd d) 289 7 [o0, o1, o2, o3] [vL s0] hp =
  some ([vL s0], hp) := (Rr_blk (Cd d) 289 [7] 9 7 _ _ hp).trans rfl
set_option maxRecDepth 100000 in
theorem c290 (d : Nat) (v0 : Int) (hp : HP) {n : Nat} (hg : gS hp v0 = some (50, n)) : Cd (d + 1) 290 [vA v0] hp =
  (gF hp 50 0 v0).bind fun x1 =>
  (gL hp x1).bind fun x2 =>
  ((Cd d 294 [vA v0] hp).bind toI).bind fun q3 =>
  some ([vI (ishr x2 q3.1)], q3.2) := (Cd_inst rfl rfl rfl hg).trans ((Rr_blk (Cd d) 290 [] 8 0 _ [] hp).trans rfl)
set_option maxRecDepth 100000 in
theorem c291 (d : Nat) (v0 v1 : Int) (hp : HP) {n : Nat} (hg : gS hp v0 = some (50, n)) : Cd (d + 1) 291 [vA v0, vI v1] hp =
  ((Cd d 295 [vA v0] hp).bind toI).bind fun q1 =>
  if q1.1 = 0 then
    (gF q1.2 50 0 v0).bind fun x2 =>
    none
  else
    (gF q1.2 50 0 v0).bind fun x3 =>
    ((Cd d 297 [vA x3, vI v1] q1.2).bind toI).bind fun q4 =>
    if 0 ≤ q4.1 ∧ q4.1 < 65536 then some ([vI q4.1], q4.2) else none := (Cd_inst rfl rfl rfl hg).trans ((Rr_blk (Cd d) 291 [] 14 0 _ [] hp).trans rfl)
set_option maxRecDepth 100000 in
theorem c292 (d : Nat) (v0 v1 : Int) (hp : HP) {n : Nat} (hg : gS hp v0 = some (50, n)) : Cd (d + 1) 292 [vA v0, vI v1] hp =
  ((Cd d 293 [vA v0, vI v1, vI 0] hp).bind toI).bind fun q1 =>
  some ([vI q1.1], q1.2) := (Cd_inst rfl rfl rfl hg).trans ((Rr_blk (Cd d) 292 [] 6 0 _ [] hp).trans rfl)
set_option maxRecDepth 100000 in
theorem c293 (d : Nat) (v0 v1 v2 : Int) (hp : HP) {n : Nat} (hg : gS hp v0 = some (50, n)) : Cd (d + 1) 293 [vA v0, vI v1, vI v2] hp =
  ((Cd d 295 [vA v0] hp).bind toI).bind fun q1 =>
  if q1.1 = 0 then
    (gF q1.2 50 0 v0).bind fun x2 =>
    ((Cd d 290 [vA v0] q1.2).bind toI).bind fun q3 =>
    none
  else
    (gF q1.2 50 0 v0).bind fun x4 =>
    ((Cd d 290 [vA v0] q1.2).bind toI).bind fun q5 =>
    ((Cd d 299 [vA x4, vI v1, vI v2, vI q5.1] q5.2).bind toI).bind fun q6 =>
    some ([vI q6.1], q6.2) := (Cd_inst rfl rfl rfl hg).trans ((Rr_blk (Cd d) 293 [] 20 0 _ [] hp).trans rfl)
set_option maxRecDepth 100000 in
theorem c294 (d : Nat) (v0 : Int) (hp : HP) {n : Nat} (hg : gS hp v0 = some (50, n)) : Cd (d + 1) 294 [vA v0] hp =
  if 1 = 0 then
    Rr (Cd d) 294 6 [some (vA v0)] [vI 1] hp
  else
    (gF hp 50 1 v0).bind fun x1 =>
    Rr (Cd d) 294 6 [some (vA v0)] [vI x1] hp := (Cd_inst rfl rfl rfl hg).trans ((Rr_blk (Cd d) 294 [6] 8 0 _ [] hp).trans rfl)
set_option maxRecDepth 100000 in
theorem c294_6 (d : Nat) (s0 : Int) (o0 : Option AV) (hp : HP) : Rr (Cd d) 294 6 [o0] [vI s0] hp =
  if -128 ≤ s0 ∧ s0 < 128 then some ([vI s0], hp) else none := (Rr_blk (Cd d) 294 [6] 8 6 _ _ hp).trans rfl
set_option maxRecDepth 100000 in
theorem c295 (d : Nat) (v0 : Int) (hp : HP) {n : Nat} (hg : gS hp v0 = some (50, n)) : Cd (d + 1) 295 [vA v0] hp =
  if 1 = 0 then
    Rr (Cd d) 295 7 [some (vA v0)] [] hp
  else
    (gF hp 50 1 v0).bind fun x1 =>
    if x1 = 0 then
      Rr (Cd d) 295 8 [some (vA v0)] [vI 1] hp
    else
      Rr (Cd d) 295 7 [some (vA v0)] [] hp := (Cd_inst rfl rfl rfl hg).trans ((Rr_blk (Cd d) 295 [7, 8] 10 0 _ [] hp).trans rfl)
set_option maxRecDepth 100000 in
theorem c295_7 (d : Nat) (o0 : Option AV) (hp : HP) : Rr (Cd d) 295 7 [o0] [] hp =
  Rr (Cd d) 295 8 [o0] [vI 0] hp := (Rr_blk (Cd d) 295 [7, 8] 10 7 _ _ hp).trans rfl
set_option maxRecDepth 100000 in
theorem c295_8 (d : Nat) (s0 : Int) (o0 : Option AV) (hp : HP) : Rr (Cd d) 295 8 [o0] [vI s0] hp =
  if s0 = 0 ∨ s0 = 1 then some ([vI s0], hp) else none := (Rr_blk (Cd d) 295 [7, 8] 10 8 _ _ hp).trans rfl
set_option maxRecDepth 100000 in
theorem c296 (d : Nat) (v0 v1 : Int) (hp : HP) : Cd (d + 1) 296 [vI v0, vI v1] hp =
  ((Cd d 301 [vI v0, vI v1, vA 0] hp).bind toI).bind fun q1 =>
  some ([], q1.2) := (Rr_blk (Cd d) 296 [] 7 0 _ [] hp).trans rfl
set_option maxRecDepth 100000 in
theorem c297 (d : Nat) (v0 v1 : Int) (hp : HP) : Cd (d + 1) 297 [vA v0, vI v1] hp =
  (gL hp v0).bind fun x1 =>
  ((Cd d 296 [vI v1, vI x1] hp).bind toV).bind fun q2 =>
  (gA q2 2 v0 v1).bind fun x3 =>
  if 0 ≤ i2c (iand x3 255) ∧ i2c (iand x3 255) < 65536 then some ([vI (i2c (iand x3 255))], q2) else none := (Rr_blk (Cd d) 297 [] 12 0 _ [] hp).trans rfl
set_option maxRecDepth 100000 in
theorem c298 (d : Nat) (v0 : Int) (hp : HP) : Cd (d + 1) 298 [vI v0] hp =
  if v0 < 0 then
    Rr (Cd d) 298 7 [some (vI v0)] [] hp
  else
    if 255 < v0 then
      Rr (Cd d) 298 7 [some (vI v0)] [] hp
    else
      Rr (Cd d) 298 8 [some (vI v0)] [vI 1] hp := (Rr_blk (Cd d) 298 [7, 8] 10 0 _ [] hp).trans rfl
set_option maxRecDepth 100000 in
theorem c298_7 (d : Nat) (o0 : Option AV) (hp : HP) : Rr (Cd d) 298 7 [o0] [] hp =
  Rr (Cd d) 298 8 [o0] [vI 0] hp := (Rr_blk (Cd d) 298 [7, 8] 10 7 _ _ hp).trans rfl
set_option maxRecDepth 100000 in
theorem c298_8 (d : Nat) (s0 : Int) (o0 : Option AV) (hp : HP) : Rr (Cd d) 298 8 [o0] [vI s0] hp =
  if s0 = 0 ∨ s0 = 1 then some ([vI s0], hp) else none := (Rr_blk (Cd d) 298 [7, 8] 10 8 _ _ hp).trans rfl
set_option maxRecDepth 100000 in
theorem c299 (d : Nat) (v0 v1 v2 v3 : Int) (hp : HP) : Cd (d + 1) 299 [vA v0, vI v1, vI v2, vI v3] hp =
  ((Cd d 298 [vI v1] hp).bind toI).bind fun q1 =>
  if q1.1 = 0 then
    some ([vI ((-1))], q1.2)
  else
    ((Cd d 286 [vI v2, vI 0] q1.2).bind toI).bind fun q2 =>
    (gL q2.2 v0).bind fun x3 =>
    ((Cd d 288 [vI v3, vI x3] q2.2).bind toI).bind fun q4 =>
    if q2.1 < q4.1 then
      ((Cd d 300 [vA v0, vI v1, vI q2.1, vI q4.1] q4.2).bind toI).bind fun q5 =>
      some ([vI q5.1], q5.2)
    else
      some ([vI ((-1))], q4.2) := (Rr_blk (Cd d) 299 [] 26 0 _ [] hp).trans rfl
set_option maxRecDepth 100000 in
theorem c300 (d : Nat) (v0 v1 v2 v3 : Int) (hp : HP) : Cd (d + 1) 300 [vA v0, vI v1, vI v2, vI v3] hp =
  Rr (Cd d) 300 5 [some (vA v0), some (vI v1), some (vI v2), some (vI v3), some (vI (i2b v1)), some (vI v2)] [] hp := (Rr_blk (Cd d) 300 [5] 20 0 _ [] hp).trans rfl
set_option maxRecDepth 100000 in
theorem c300_5 (d : Nat) (v0 v3 v4 v5 : Int) (o1 o2 : Option AV) (hp : HP) : Rr (Cd d) 300 5 [some (vA v0), o1, o2, some (vI v3), some (vI v4), some (vI v5)] [] hp =
  if v5 < v3 then
    (gA hp 2 v0 v5).bind fun x1 =>
    if x1 = v4 then
      some ([vI v5], hp)
    else
      Rr (Cd d) 300 5 [some (vA v0), o1, o2, some (vI v3), some (vI v4), some (vI (w32 (v5 + 1)))] [] hp
  else
    some ([vI ((-1))], hp) := (Rr_blk (Cd d) 300 [5] 20 5 _ _ hp).trans rfl
set_option maxRecDepth 100000 in
theorem c301 (d : Nat) (v0 v1 v2 : Int) (hp : HP) : Cd (d + 1) 301 [vI v0, vI v1, vA v2] hp =
  if v0 < 0 then
    Rr (Cd d) 301 5 [some (vI v0), some (vI v1), some (vA v2)] [] hp
  else
    if v0 < v1 then
      some ([vI v0], hp)
    else
      Rr (Cd d) 301 5 [some (vI v0), some (vI v1), some (vA v2)] [] hp := (Rr_blk (Cd d) 301 [5] 13 0 _ [] hp).trans rfl
set_option maxRecDepth 100000 in
theorem c301_5 (d : Nat) (v0 v1 v2 : Int) (hp : HP) : Rr (Cd d) 301 5 [some (vI v0), some (vI v1), some (vA v2)] [] hp =
  none := (Rr_blk (Cd d) 301 [5] 13 5 _ _ hp).trans rfl
set_option maxRecDepth 100000 in
theorem c159 (d : Nat) (v0 : Int) (hp : HP) : Cd (d + 1) 159 [vI v0] hp =
  if v0 = 0 then
    Rr (Cd d) 159 5 [some (vI v0)] [vI 0] hp
  else
    Rr (Cd d) 159 5 [some (vI v0)] [vI 1] hp := (Rr_blk (Cd d) 159 [5] 7 0 _ [] hp).trans rfl
set_option maxRecDepth 100000 in
theorem c159_5 (d : Nat) (s0 : Int) (o0 : Option AV) (hp : HP) : Rr (Cd d) 159 5 [o0] [vI s0] hp =
  some ([vI s0], hp) := (Rr_blk (Cd d) 159 [5] 7 5 _ _ hp).trans rfl
set_option maxRecDepth 100000 in
theorem c160 (d : Nat) (v0 : Int) (hp : HP) : Cd (d + 1) 160 [vI v0] hp =
  if v0 < 0 then
    Rr (Cd d) 160 7 [some (vI v0)] [] hp
  else
    if v0 < 3 then
      Rr (Cd d) 160 8 [some (vI v0)] [vI 1] hp
    else
      Rr (Cd d) 160 7 [some (vI v0)] [] hp := (Rr_blk (Cd d) 160 [7, 8] 10 0 _ [] hp).trans rfl
set_option maxRecDepth 100000 in
theorem c160_7 (d : Nat) (o0 : Option AV) (hp : HP) : Rr (Cd d) 160 7 [o0] [] hp =
  Rr (Cd d) 160 8 [o0] [vI 0] hp := (Rr_blk (Cd d) 160 [7, 8] 10 7 _ _ hp).trans rfl
set_option maxRecDepth 100000 in
theorem c160_8 (d : Nat) (s0 : Int) (o0 : Option AV) (hp : HP) : Rr (Cd d) 160 8 [o0] [vI s0] hp =
  if s0 = 0 ∨ s0 = 1 then some ([vI s0], hp) else none := (Rr_blk (Cd d) 160 [7, 8] 10 8 _ _ hp).trans rfl
set_option maxRecDepth 100000 in
theorem c161 (d : Nat) (v0 : Int) (hp : HP) : Cd (d + 1) 161 [vI v0] hp =
  if v0 < 0 then
    Rr (Cd d) 161 7 [some (vI v0)] [] hp
  else
    if v0 < 6 then
      Rr (Cd d) 161 8 [some (vI v0)] [vI 1] hp
    else
      Rr (Cd d) 161 7 [some (vI v0)] [] hp := (Rr_blk (Cd d) 161 [7, 8] 10 0 _ [] hp).trans rfl
set_option maxRecDepth 100000 in
theorem c161_7 (d : Nat) (o0 : Option AV) (hp : HP) : Rr (Cd d) 161 7 [o0] [] hp =
  Rr (Cd d) 161 8 [o0] [vI 0] hp := (Rr_blk (Cd d) 161 [7, 8] 10 7 _ _ hp).trans rfl
set_option maxRecDepth 100000 in
theorem c161_8 (d : Nat) (s0 : Int) (o0 : Option AV) (hp : HP) : Rr (Cd d) 161 8 [o0] [vI s0] hp =
  if s0 = 0 ∨ s0 = 1 then some ([vI s0], hp) else none := (Rr_blk (Cd d) 161 [7, 8] 10 8 _ _ hp).trans rfl
set_option maxRecDepth 100000 in
theorem c162 (d : Nat) (v0 : Int) (hp : HP) : Cd (d + 1) 162 [vI v0] hp =
  if v0 = 2 then
    some ([vI 3], hp)
  else
  if v0 = 3 then
    some ([vI 13], hp)
  else
  if v0 = 4 then
    some ([vI 1], hp)
  else
  if v0 = 5 then
    some ([vI 1], hp)
  else
  if v0 = 6 then
    some ([vI 63], hp)
  else
  some ([vI 1], hp) := (Rr_blk (Cd d) 162 [] 11 0 _ [] hp).trans rfl
set_option maxRecDepth 100000 in
theorem c163 (d : Nat) (v0 : Int) (hp : HP) : Cd (d + 1) 163 [vI v0] hp =
  Rr (Cd d) 163 4 [some (vI v0), some (vI 1), some (vI 0)] [] hp := (Rr_blk (Cd d) 163 [4] 16 0 _ [] hp).trans rfl
set_option maxRecDepth 100000 in
theorem c163_4 (d : Nat) (v0 v1 v2 : Int) (hp : HP) : Rr (Cd d) 163 4 [some (vI v0), some (vI v1), some (vI v2)] [] hp =
  if v2 < v0 then
    Rr (Cd d) 163 4 [some (vI v0), some (vI (w32 (v1 * 3))), some (vI (w32 (v2 + 1)))] [] hp
  else
    some ([vI v1], hp) := (Rr_blk (Cd d) 163 [4] 16 4 _ _ hp).trans rfl
set_option maxRecDepth 100000 in
theorem c164 (d : Nat) (v0 v1 : Int) (hp : HP) : Cd (d + 1) 164 [vI v0, vI v1] hp =
  Rr (Cd d) 164 8 [some (vI v0), some (vI v1), some (vI 0), some (vI v0), some (vI (w32 (v1 - 1)))] [] hp := (Rr_blk (Cd d) 164 [8] 29 0 _ [] hp).trans rfl
set_option maxRecDepth 100000 in
theorem c164_8 (d : Nat) (v2 v3 v4 : Int) (o0 o1 : Option AV) (hp : HP) : Rr (Cd d) 164 8 [o0, o1, some (vI v2), some (vI v3), some (vI v4)] [] hp =
  if v4 < 0 then
    some ([vI v2], hp)
  else
    Rr (Cd d) 164 8 [o0, o1, some (vI (ior v2 (ishl (irem v3 3) (w32 (2 * v4))))), some (vI (idiv v3 3)), some (vI (w32 (v4 + (-1))))] [] hp := (Rr_blk (Cd d) 164 [8] 29 8 _ _ hp).trans rfl
set_option maxRecDepth 100000 in
theorem c165 (d : Nat) (v0 v1 : Int) (hp : HP) : Cd (d + 1) 165 [vI v0, vI v1] hp =
  some ([vI (iand (ishr v0 (w32 (2 * v1))) 3)], hp) := (Rr_blk (Cd d) 165 [] 9 0 _ [] hp).trans rfl
set_option maxRecDepth 100000 in
theorem c166 (d : Nat) (v0 v1 v2 : Int) (hp : HP) : Cd (d + 1) 166 [vI v0, vI v1, vI v2] hp =
  ((Cd d 165 [vI v0, vI v1] hp).bind toI).bind fun q1 =>
  ((Cd d 165 [vI v0, vI v2] q1.2).bind toI).bind fun q2 =>
  some ([vI (w32 (w32 (q1.1 * 3) + q2.1))], q2.2) := (Rr_blk (Cd d) 166 [] 11 0 _ [] hp).trans rfl
set_option maxRecDepth 100000 in
theorem c167 (d : Nat) (v0 v1 v2 : Int) (hp : HP) : Cd (d + 1) 167 [vI v0, vI v1, vI v2] hp =
  Rr (Cd d) 167 8 [some (vI v0), some (vI v1), some (vI v2), some (vI 0), some (vI 1), some (vI v0), some (vI 0)] [] hp := (Rr_blk (Cd d) 167 [8] 38 0 _ [] hp).trans rfl
set_option maxRecDepth 100000 in
theorem c167_8 (d : Nat) (v1 v2 v3 v4 v5 v6 : Int) (o0 : Option AV) (hp : HP) : Rr (Cd d) 167 8 [o0, some (vI v1), some (vI v2), some (vI v3), some (vI v4), some (vI v5), some (vI v6)] [] hp =
  if v6 < v1 then
    (gA hp 0 2 (w32 (w32 (v2 * 3) + (irem v5 3)))).bind fun x1 =>
    Rr (Cd d) 167 8 [o0, some (vI v1), some (vI v2), some (vI (w32 (v3 + (w32 (x1 * v4))))), some (vI (w32 (v4 * 3))), some (vI (idiv v5 3)), some (vI (w32 (v6 + 1)))] [] hp
  else
    some ([vI v3], hp) := (Rr_blk (Cd d) 167 [8] 38 8 _ _ hp).trans rfl
set_option maxRecDepth 100000 in
theorem c168 (d : Nat) (v0 v1 : Int) (hp : HP) : Cd (d + 1) 168 [vI v0, vI v1] hp =
  (gA hp 0 2 (w32 (w32 (v1 * 3) + (idiv v0 3)))).bind fun x1 =>
  (gA hp 0 2 (w32 (w32 (v1 * 3) + (irem v0 3)))).bind fun x2 =>
  some ([vI (w32 (w32 (x1 * 3) + x2))], hp) := (Rr_blk (Cd d) 168 [] 25 0 _ [] hp).trans rfl
set_option maxRecDepth 100000 in
theorem c169 (d : Nat) (v0 v1 : Int) (hp : HP) : Cd (d + 1) 169 [vI v0, vI v1] hp =
  if iand (ishr v0 v1) 1 = 1 then
    Rr (Cd d) 169 10 [some (vI v0), some (vI v1)] [vI 1] hp
  else
    Rr (Cd d) 169 10 [some (vI v0), some (vI v1)] [vI 0] hp := (Rr_blk (Cd d) 169 [10] 12 0 _ [] hp).trans rfl
set_option maxRecDepth 100000 in
theorem c169_10 (d : Nat) (s0 : Int) (o0 o1 : Option AV) (hp : HP) : Rr (Cd d) 169 10 [o0, o1] [vI s0] hp =
  if s0 = 0 ∨ s0 = 1 then some ([vI s0], hp) else none := (Rr_blk (Cd d) 169 [10] 12 10 _ _ hp).trans rfl
end
