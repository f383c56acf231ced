section
/-- a private method of a class that the tables say can be made, by its rows of tables_1 -/
def lw_okq (q : MethodName × Nat) : Prop := (q.1.cls ≠ "java/lang/invoke/MethodHandle" ∧ q.1.cls ≠ "java/lang/invoke/VarHandle") ∧ Cond.instantiable q.1.cls q.2 ∈ tables_1 ∧ Cond.privateMethod q.1 ∈ tables_1 ∧ Cond.instanceMethod q.1 ∈ tables_1
theorem lw_p0 : lw_okq (⟨"SteppedSpines", "readBuffer", "()I"⟩, 8) := ⟨⟨by decide +kernel, by decide +kernel⟩, List.mem_of_getElem? (i := 18) (by decide +kernel), List.mem_of_getElem? (i := 186) (by decide +kernel), List.mem_of_getElem? (i := 187) (by decide +kernel)⟩
theorem lw_p1 : lw_okq (⟨"SteppedSpines$Reader", "acceptsLetter", "(I)Z"⟩, 5) := ⟨⟨by decide +kernel, by decide +kernel⟩, List.mem_of_getElem? (i := 128) (by decide +kernel), List.mem_of_getElem? (i := 201) (by decide +kernel), List.mem_of_getElem? (i := 202) (by decide +kernel)⟩
theorem lw_p2 : lw_okq (⟨"SteppedSpines$Reader", "acceptsFirstDigit", "(I)Z"⟩, 5) := ⟨⟨by decide +kernel, by decide +kernel⟩, List.mem_of_getElem? (i := 128) (by decide +kernel), List.mem_of_getElem? (i := 205) (by decide +kernel), List.mem_of_getElem? (i := 206) (by decide +kernel)⟩
theorem lw_p3 : lw_okq (⟨"SteppedSpines$Reader", "acceptsSecondDigit", "(I)Z"⟩, 5) := ⟨⟨by decide +kernel, by decide +kernel⟩, List.mem_of_getElem? (i := 128) (by decide +kernel), List.mem_of_getElem? (i := 209) (by decide +kernel), List.mem_of_getElem? (i := 210) (by decide +kernel)⟩
theorem lw_p4 : lw_okq (⟨"SteppedSpines$Reader", "acceptsArrow", "(I)Z"⟩, 5) := ⟨⟨by decide +kernel, by decide +kernel⟩, List.mem_of_getElem? (i := 128) (by decide +kernel), List.mem_of_getElem? (i := 213) (by decide +kernel), List.mem_of_getElem? (i := 214) (by decide +kernel)⟩
theorem lw_p5 : lw_okq (⟨"SteppedSpines$Reader", "arrowIsDue", "()Z"⟩, 5) := ⟨⟨by decide +kernel, by decide +kernel⟩, List.mem_of_getElem? (i := 128) (by decide +kernel), List.mem_of_getElem? (i := 217) (by decide +kernel), List.mem_of_getElem? (i := 218) (by decide +kernel)⟩
theorem lw_p6 : lw_okq (⟨"SteppedSpines$Reader", "acceptsEndOfPart", "(I)Z"⟩, 5) := ⟨⟨by decide +kernel, by decide +kernel⟩, List.mem_of_getElem? (i := 128) (by decide +kernel), List.mem_of_getElem? (i := 221) (by decide +kernel), List.mem_of_getElem? (i := 222) (by decide +kernel)⟩
theorem lw_p7 : lw_okq (⟨"SteppedSpines$Block", "findLongestEnding", "()V"⟩, 6) := ⟨⟨by decide +kernel, by decide +kernel⟩, List.mem_of_getElem? (i := 32) (by decide +kernel), List.mem_of_getElem? (i := 250) (by decide +kernel), List.mem_of_getElem? (i := 251) (by decide +kernel)⟩
theorem lw_p8 : lw_okq (⟨"SteppedSpines$Block", "longestAhead", "(II)I"⟩, 6) := ⟨⟨by decide +kernel, by decide +kernel⟩, List.mem_of_getElem? (i := 32) (by decide +kernel), List.mem_of_getElem? (i := 255) (by decide +kernel), List.mem_of_getElem? (i := 256) (by decide +kernel)⟩
theorem lw_p9 : lw_okq (⟨"SteppedSpines$Block", "findLongestBeginning", "()V"⟩, 6) := ⟨⟨by decide +kernel, by decide +kernel⟩, List.mem_of_getElem? (i := 32) (by decide +kernel), List.mem_of_getElem? (i := 278) (by decide +kernel), List.mem_of_getElem? (i := 279) (by decide +kernel)⟩
theorem lw_p10 : lw_okq (⟨"SteppedSpines$Block", "longestFrom", "(II)I"⟩, 6) := ⟨⟨by decide +kernel, by decide +kernel⟩, List.mem_of_getElem? (i := 32) (by decide +kernel), List.mem_of_getElem? (i := 282) (by decide +kernel), List.mem_of_getElem? (i := 283) (by decide +kernel)⟩
theorem lw_p11 : lw_okq (⟨"java/lang/Throwable", "fillInStackTrace", "(I)Ljava/lang/Throwable;"⟩, 6) := ⟨⟨by decide +kernel, by decide +kernel⟩, List.mem_of_getElem? (i := 405) (by decide +kernel), List.mem_of_getElem? (i := 403) (by decide +kernel), List.mem_of_getElem? (i := 404) (by decide +kernel)⟩
theorem lw_p12 : lw_okq (⟨"SteppedSpines$Block", "pilesOfSheets", "()I"⟩, 6) := ⟨⟨by decide +kernel, by decide +kernel⟩, List.mem_of_getElem? (i := 32) (by decide +kernel), List.mem_of_getElem? (i := 475) (by decide +kernel), List.mem_of_getElem? (i := 476) (by decide +kernel)⟩
theorem lw_p13 : lw_okq (⟨"SteppedSpines", "hashWithBuffer", "(J)J"⟩, 8) := ⟨⟨by decide +kernel, by decide +kernel⟩, List.mem_of_getElem? (i := 18) (by decide +kernel), List.mem_of_getElem? (i := 557) (by decide +kernel), List.mem_of_getElem? (i := 558) (by decide +kernel)⟩
theorem lw_p14 : lw_okq (⟨"SteppedSpines$History", "dropOldest", "()V"⟩, 2) := ⟨⟨by decide +kernel, by decide +kernel⟩, List.mem_of_getElem? (i := 111) (by decide +kernel), List.mem_of_getElem? (i := 594) (by decide +kernel), List.mem_of_getElem? (i := 595) (by decide +kernel)⟩
theorem lw_p15 : lw_okq (⟨"SteppedSpines", "doParts", "()I"⟩, 8) := ⟨⟨by decide +kernel, by decide +kernel⟩, List.mem_of_getElem? (i := 18) (by decide +kernel), List.mem_of_getElem? (i := 721) (by decide +kernel), List.mem_of_getElem? (i := 722) (by decide +kernel)⟩
def lw_privs_1 : List (MethodName × Nat) := [(⟨"SteppedSpines", "readBuffer", "()I"⟩, 8), (⟨"SteppedSpines$Reader", "acceptsLetter", "(I)Z"⟩, 5), (⟨"SteppedSpines$Reader", "acceptsFirstDigit", "(I)Z"⟩, 5), (⟨"SteppedSpines$Reader", "acceptsSecondDigit", "(I)Z"⟩, 5), (⟨"SteppedSpines$Reader", "acceptsArrow", "(I)Z"⟩, 5), (⟨"SteppedSpines$Reader", "arrowIsDue", "()Z"⟩, 5), (⟨"SteppedSpines$Reader", "acceptsEndOfPart", "(I)Z"⟩, 5), (⟨"SteppedSpines$Block", "findLongestEnding", "()V"⟩, 6), (⟨"SteppedSpines$Block", "longestAhead", "(II)I"⟩, 6), (⟨"SteppedSpines$Block", "findLongestBeginning", "()V"⟩, 6), (⟨"SteppedSpines$Block", "longestFrom", "(II)I"⟩, 6), (⟨"java/lang/Throwable", "fillInStackTrace", "(I)Ljava/lang/Throwable;"⟩, 6), (⟨"SteppedSpines$Block", "pilesOfSheets", "()I"⟩, 6), (⟨"SteppedSpines", "hashWithBuffer", "(J)J"⟩, 8), (⟨"SteppedSpines$History", "dropOldest", "()V"⟩, 2), (⟨"SteppedSpines", "doParts", "()I"⟩, 8)]
theorem lw_r1 : ∀ q ∈ lw_privs_1, lw_okq q := List.forall_mem_cons.mpr ⟨lw_p0, List.forall_mem_cons.mpr ⟨lw_p1, List.forall_mem_cons.mpr ⟨lw_p2, List.forall_mem_cons.mpr ⟨lw_p3, List.forall_mem_cons.mpr ⟨lw_p4, List.forall_mem_cons.mpr ⟨lw_p5, List.forall_mem_cons.mpr ⟨lw_p6, List.forall_mem_cons.mpr ⟨lw_p7, List.forall_mem_cons.mpr ⟨lw_p8, List.forall_mem_cons.mpr ⟨lw_p9, List.forall_mem_cons.mpr ⟨lw_p10, List.forall_mem_cons.mpr ⟨lw_p11, List.forall_mem_cons.mpr ⟨lw_p12, List.forall_mem_cons.mpr ⟨lw_p13, List.forall_mem_cons.mpr ⟨lw_p14, List.forall_mem_cons.mpr ⟨lw_p15, fun _ h => absurd h List.not_mem_nil⟩⟩⟩⟩⟩⟩⟩⟩⟩⟩⟩⟩⟩⟩⟩⟩
theorem lw_p16 : lw_okq (⟨"SteppedSpines", "partCanBeDone", "()Z"⟩, 8) := ⟨⟨by decide +kernel, by decide +kernel⟩, List.mem_of_getElem? (i := 18) (by decide +kernel), List.mem_of_getElem? (i := 725) (by decide +kernel), List.mem_of_getElem? (i := 726) (by decide +kernel)⟩
theorem lw_p17 : lw_okq (⟨"SteppedSpines", "doPart", "()V"⟩, 8) := ⟨⟨by decide +kernel, by decide +kernel⟩, List.mem_of_getElem? (i := 18) (by decide +kernel), List.mem_of_getElem? (i := 729) (by decide +kernel), List.mem_of_getElem? (i := 730) (by decide +kernel)⟩
theorem lw_p18 : lw_okq (⟨"SteppedSpinesModel", "canGather", "(I)Z"⟩, 15) := ⟨⟨by decide +kernel, by decide +kernel⟩, List.mem_of_getElem? (i := 776) (by decide +kernel), List.mem_of_getElem? (i := 842) (by decide +kernel), List.mem_of_getElem? (i := 843) (by decide +kernel)⟩
theorem lw_p19 : lw_okq (⟨"SteppedSpinesModel", "holds", "(I)Z"⟩, 15) := ⟨⟨by decide +kernel, by decide +kernel⟩, List.mem_of_getElem? (i := 776) (by decide +kernel), List.mem_of_getElem? (i := 846) (by decide +kernel), List.mem_of_getElem? (i := 847) (by decide +kernel)⟩
theorem lw_p20 : lw_okq (⟨"SteppedSpinesModel", "save", "()V"⟩, 15) := ⟨⟨by decide +kernel, by decide +kernel⟩, List.mem_of_getElem? (i := 776) (by decide +kernel), List.mem_of_getElem? (i := 850) (by decide +kernel), List.mem_of_getElem? (i := 851) (by decide +kernel)⟩
theorem lw_p21 : lw_okq (⟨"SteppedSpinesModel", "copies", "(II)V"⟩, 15) := ⟨⟨by decide +kernel, by decide +kernel⟩, List.mem_of_getElem? (i := 776) (by decide +kernel), List.mem_of_getElem? (i := 854) (by decide +kernel), List.mem_of_getElem? (i := 855) (by decide +kernel)⟩
theorem lw_p22 : lw_okq (⟨"SteppedSpinesModel", "inserts", "(II)I"⟩, 15) := ⟨⟨by decide +kernel, by decide +kernel⟩, List.mem_of_getElem? (i := 776) (by decide +kernel), List.mem_of_getElem? (i := 858) (by decide +kernel), List.mem_of_getElem? (i := 859) (by decide +kernel)⟩
theorem lw_p23 : lw_okq (⟨"SteppedSpinesModel", "isPlace", "(I)Z"⟩, 15) := ⟨⟨by decide +kernel, by decide +kernel⟩, List.mem_of_getElem? (i := 776) (by decide +kernel), List.mem_of_getElem? (i := 870) (by decide +kernel), List.mem_of_getElem? (i := 871) (by decide +kernel)⟩
theorem lw_p24 : lw_okq (⟨"SteppedSpinesModel", "pulls", "(I)I"⟩, 15) := ⟨⟨by decide +kernel, by decide +kernel⟩, List.mem_of_getElem? (i := 776) (by decide +kernel), List.mem_of_getElem? (i := 874) (by decide +kernel), List.mem_of_getElem? (i := 875) (by decide +kernel)⟩
theorem lw_p25 : lw_okq (⟨"SteppedSpinesModel", "flips", "(I)I"⟩, 15) := ⟨⟨by decide +kernel, by decide +kernel⟩, List.mem_of_getElem? (i := 776) (by decide +kernel), List.mem_of_getElem? (i := 882) (by decide +kernel), List.mem_of_getElem? (i := 883) (by decide +kernel)⟩
theorem lw_p26 : lw_okq (⟨"SteppedSpinesModel", "mark", "(II)I"⟩, 15) := ⟨⟨by decide +kernel, by decide +kernel⟩, List.mem_of_getElem? (i := 776) (by decide +kernel), List.mem_of_getElem? (i := 886) (by decide +kernel), List.mem_of_getElem? (i := 887) (by decide +kernel)⟩
theorem lw_p27 : lw_okq (⟨"SteppedSpinesModel", "moves", "(II)I"⟩, 15) := ⟨⟨by decide +kernel, by decide +kernel⟩, List.mem_of_getElem? (i := 776) (by decide +kernel), List.mem_of_getElem? (i := 894) (by decide +kernel), List.mem_of_getElem? (i := 895) (by decide +kernel)⟩
theorem lw_p28 : lw_okq (⟨"SteppedSpinesModel", "laysOut", "(I)V"⟩, 15) := ⟨⟨by decide +kernel, by decide +kernel⟩, List.mem_of_getElem? (i := 776) (by decide +kernel), List.mem_of_getElem? (i := 898) (by decide +kernel), List.mem_of_getElem? (i := 899) (by decide +kernel)⟩
theorem lw_p29 : lw_okq (⟨"SteppedSpinesModel", "breaks", "()I"⟩, 15) := ⟨⟨by decide +kernel, by decide +kernel⟩, List.mem_of_getElem? (i := 776) (by decide +kernel), List.mem_of_getElem? (i := 902) (by decide +kernel), List.mem_of_getElem? (i := 903) (by decide +kernel)⟩
theorem lw_p30 : lw_okq (⟨"SteppedSpinesModel", "breaksAt", "(I)Z"⟩, 15) := ⟨⟨by decide +kernel, by decide +kernel⟩, List.mem_of_getElem? (i := 776) (by decide +kernel), List.mem_of_getElem? (i := 906) (by decide +kernel), List.mem_of_getElem? (i := 907) (by decide +kernel)⟩
theorem lw_p31 : lw_okq (⟨"SteppedSpinesModel", "canBind", "()Z"⟩, 15) := ⟨⟨by decide +kernel, by decide +kernel⟩, List.mem_of_getElem? (i := 776) (by decide +kernel), List.mem_of_getElem? (i := 914) (by decide +kernel), List.mem_of_getElem? (i := 915) (by decide +kernel)⟩
def lw_privs_2 : List (MethodName × Nat) := [(⟨"SteppedSpines", "partCanBeDone", "()Z"⟩, 8), (⟨"SteppedSpines", "doPart", "()V"⟩, 8), (⟨"SteppedSpinesModel", "canGather", "(I)Z"⟩, 15), (⟨"SteppedSpinesModel", "holds", "(I)Z"⟩, 15), (⟨"SteppedSpinesModel", "save", "()V"⟩, 15), (⟨"SteppedSpinesModel", "copies", "(II)V"⟩, 15), (⟨"SteppedSpinesModel", "inserts", "(II)I"⟩, 15), (⟨"SteppedSpinesModel", "isPlace", "(I)Z"⟩, 15), (⟨"SteppedSpinesModel", "pulls", "(I)I"⟩, 15), (⟨"SteppedSpinesModel", "flips", "(I)I"⟩, 15), (⟨"SteppedSpinesModel", "mark", "(II)I"⟩, 15), (⟨"SteppedSpinesModel", "moves", "(II)I"⟩, 15), (⟨"SteppedSpinesModel", "laysOut", "(I)V"⟩, 15), (⟨"SteppedSpinesModel", "breaks", "()I"⟩, 15), (⟨"SteppedSpinesModel", "breaksAt", "(I)Z"⟩, 15), (⟨"SteppedSpinesModel", "canBind", "()Z"⟩, 15)]
theorem lw_r2 : ∀ q ∈ lw_privs_2, lw_okq q := List.forall_mem_cons.mpr ⟨lw_p16, List.forall_mem_cons.mpr ⟨lw_p17, List.forall_mem_cons.mpr ⟨lw_p18, List.forall_mem_cons.mpr ⟨lw_p19, List.forall_mem_cons.mpr ⟨lw_p20, List.forall_mem_cons.mpr ⟨lw_p21, List.forall_mem_cons.mpr ⟨lw_p22, List.forall_mem_cons.mpr ⟨lw_p23, List.forall_mem_cons.mpr ⟨lw_p24, List.forall_mem_cons.mpr ⟨lw_p25, List.forall_mem_cons.mpr ⟨lw_p26, List.forall_mem_cons.mpr ⟨lw_p27, List.forall_mem_cons.mpr ⟨lw_p28, List.forall_mem_cons.mpr ⟨lw_p29, List.forall_mem_cons.mpr ⟨lw_p30, List.forall_mem_cons.mpr ⟨lw_p31, fun _ h => absurd h List.not_mem_nil⟩⟩⟩⟩⟩⟩⟩⟩⟩⟩⟩⟩⟩⟩⟩⟩
theorem lw_p32 : lw_okq (⟨"SteppedSpinesModel", "fault", "()I"⟩, 15) := ⟨⟨by decide +kernel, by decide +kernel⟩, List.mem_of_getElem? (i := 776) (by decide +kernel), List.mem_of_getElem? (i := 918) (by decide +kernel), List.mem_of_getElem? (i := 919) (by decide +kernel)⟩
theorem lw_p33 : lw_okq (⟨"SteppedSpinesModel", "missing", "()I"⟩, 15) := ⟨⟨by decide +kernel, by decide +kernel⟩, List.mem_of_getElem? (i := 776) (by decide +kernel), List.mem_of_getElem? (i := 922) (by decide +kernel), List.mem_of_getElem? (i := 923) (by decide +kernel)⟩
theorem lw_p34 : lw_okq (⟨"SteppedSpinesModel", "placeOf", "(I)I"⟩, 15) := ⟨⟨by decide +kernel, by decide +kernel⟩, List.mem_of_getElem? (i := 776) (by decide +kernel), List.mem_of_getElem? (i := 926) (by decide +kernel), List.mem_of_getElem? (i := 927) (by decide +kernel)⟩
theorem lw_p35 : lw_okq (⟨"SteppedSpinesModel", "isFault", "(II)Z"⟩, 15) := ⟨⟨by decide +kernel, by decide +kernel⟩, List.mem_of_getElem? (i := 776) (by decide +kernel), List.mem_of_getElem? (i := 930) (by decide +kernel), List.mem_of_getElem? (i := 931) (by decide +kernel)⟩
theorem lw_p36 : lw_okq (⟨"SteppedSpinesModel", "isAhead", "(I)Z"⟩, 15) := ⟨⟨by decide +kernel, by decide +kernel⟩, List.mem_of_getElem? (i := 776) (by decide +kernel), List.mem_of_getElem? (i := 934) (by decide +kernel), List.mem_of_getElem? (i := 935) (by decide +kernel)⟩
theorem lw_p37 : lw_okq (⟨"SteppedSpinesModel", "binds", "()I"⟩, 15) := ⟨⟨by decide +kernel, by decide +kernel⟩, List.mem_of_getElem? (i := 776) (by decide +kernel), List.mem_of_getElem? (i := 938) (by decide +kernel), List.mem_of_getElem? (i := 939) (by decide +kernel)⟩
theorem lw_p38 : lw_okq (⟨"SteppedSpinesModel", "changed", "(II)I"⟩, 15) := ⟨⟨by decide +kernel, by decide +kernel⟩, List.mem_of_getElem? (i := 776) (by decide +kernel), List.mem_of_getElem? (i := 950) (by decide +kernel), List.mem_of_getElem? (i := 951) (by decide +kernel)⟩
theorem lw_p39 : lw_okq (⟨"SteppedSpinesModel", "isWork", "()Z"⟩, 15) := ⟨⟨by decide +kernel, by decide +kernel⟩, List.mem_of_getElem? (i := 776) (by decide +kernel), List.mem_of_getElem? (i := 970) (by decide +kernel), List.mem_of_getElem? (i := 971) (by decide +kernel)⟩
theorem lw_p40 : lw_okq (⟨"SteppedSpinesModel", "readsPart", "()Z"⟩, 15) := ⟨⟨by decide +kernel, by decide +kernel⟩, List.mem_of_getElem? (i := 776) (by decide +kernel), List.mem_of_getElem? (i := 974) (by decide +kernel), List.mem_of_getElem? (i := 975) (by decide +kernel)⟩
theorem lw_p41 : lw_okq (⟨"SteppedSpinesModel", "sign", "()I"⟩, 15) := ⟨⟨by decide +kernel, by decide +kernel⟩, List.mem_of_getElem? (i := 776) (by decide +kernel), List.mem_of_getElem? (i := 978) (by decide +kernel), List.mem_of_getElem? (i := 979) (by decide +kernel)⟩
theorem lw_p42 : lw_okq (⟨"SteppedSpinesModel", "takes", "(I)Z"⟩, 15) := ⟨⟨by decide +kernel, by decide +kernel⟩, List.mem_of_getElem? (i := 776) (by decide +kernel), List.mem_of_getElem? (i := 982) (by decide +kernel), List.mem_of_getElem? (i := 983) (by decide +kernel)⟩
theorem lw_p43 : lw_okq (⟨"SteppedSpinesModel", "number", "(I)I"⟩, 15) := ⟨⟨by decide +kernel, by decide +kernel⟩, List.mem_of_getElem? (i := 776) (by decide +kernel), List.mem_of_getElem? (i := 986) (by decide +kernel), List.mem_of_getElem? (i := 987) (by decide +kernel)⟩
theorem lw_p44 : lw_okq (⟨"SteppedSpinesModel", "isDone", "()Z"⟩, 15) := ⟨⟨by decide +kernel, by decide +kernel⟩, List.mem_of_getElem? (i := 776) (by decide +kernel), List.mem_of_getElem? (i := 994) (by decide +kernel), List.mem_of_getElem? (i := 995) (by decide +kernel)⟩
theorem lw_p45 : lw_okq (⟨"SteppedSpinesModel", "ofSheet", "(II)I"⟩, 15) := ⟨⟨by decide +kernel, by decide +kernel⟩, List.mem_of_getElem? (i := 776) (by decide +kernel), List.mem_of_getElem? (i := 1014) (by decide +kernel), List.mem_of_getElem? (i := 1015) (by decide +kernel)⟩
theorem lw_p46 : lw_okq (⟨"SteppedSpinesModel", "stitchesAt", "(I)I"⟩, 15) := ⟨⟨by decide +kernel, by decide +kernel⟩, List.mem_of_getElem? (i := 776) (by decide +kernel), List.mem_of_getElem? (i := 1018) (by decide +kernel), List.mem_of_getElem? (i := 1019) (by decide +kernel)⟩
theorem lw_p47 : lw_okq (⟨"SteppedSpinesModel", "greaterAhead", "(I)I"⟩, 15) := ⟨⟨by decide +kernel, by decide +kernel⟩, List.mem_of_getElem? (i := 776) (by decide +kernel), List.mem_of_getElem? (i := 1022) (by decide +kernel), List.mem_of_getElem? (i := 1023) (by decide +kernel)⟩
def lw_privs_3 : List (MethodName × Nat) := [(⟨"SteppedSpinesModel", "fault", "()I"⟩, 15), (⟨"SteppedSpinesModel", "missing", "()I"⟩, 15), (⟨"SteppedSpinesModel", "placeOf", "(I)I"⟩, 15), (⟨"SteppedSpinesModel", "isFault", "(II)Z"⟩, 15), (⟨"SteppedSpinesModel", "isAhead", "(I)Z"⟩, 15), (⟨"SteppedSpinesModel", "binds", "()I"⟩, 15), (⟨"SteppedSpinesModel", "changed", "(II)I"⟩, 15), (⟨"SteppedSpinesModel", "isWork", "()Z"⟩, 15), (⟨"SteppedSpinesModel", "readsPart", "()Z"⟩, 15), (⟨"SteppedSpinesModel", "sign", "()I"⟩, 15), (⟨"SteppedSpinesModel", "takes", "(I)Z"⟩, 15), (⟨"SteppedSpinesModel", "number", "(I)I"⟩, 15), (⟨"SteppedSpinesModel", "isDone", "()Z"⟩, 15), (⟨"SteppedSpinesModel", "ofSheet", "(II)I"⟩, 15), (⟨"SteppedSpinesModel", "stitchesAt", "(I)I"⟩, 15), (⟨"SteppedSpinesModel", "greaterAhead", "(I)I"⟩, 15)]
theorem lw_r3 : ∀ q ∈ lw_privs_3, lw_okq q := List.forall_mem_cons.mpr ⟨lw_p32, List.forall_mem_cons.mpr ⟨lw_p33, List.forall_mem_cons.mpr ⟨lw_p34, List.forall_mem_cons.mpr ⟨lw_p35, List.forall_mem_cons.mpr ⟨lw_p36, List.forall_mem_cons.mpr ⟨lw_p37, List.forall_mem_cons.mpr ⟨lw_p38, List.forall_mem_cons.mpr ⟨lw_p39, List.forall_mem_cons.mpr ⟨lw_p40, List.forall_mem_cons.mpr ⟨lw_p41, List.forall_mem_cons.mpr ⟨lw_p42, List.forall_mem_cons.mpr ⟨lw_p43, List.forall_mem_cons.mpr ⟨lw_p44, List.forall_mem_cons.mpr ⟨lw_p45, List.forall_mem_cons.mpr ⟨lw_p46, List.forall_mem_cons.mpr ⟨lw_p47, fun _ h => absurd h List.not_mem_nil⟩⟩⟩⟩⟩⟩⟩⟩⟩⟩⟩⟩⟩⟩⟩⟩
theorem lw_p48 : lw_okq (⟨"SteppedSpinesModel", "ofBin", "(II)I"⟩, 15) := ⟨⟨by decide +kernel, by decide +kernel⟩, List.mem_of_getElem? (i := 776) (by decide +kernel), List.mem_of_getElem? (i := 1030) (by decide +kernel), List.mem_of_getElem? (i := 1031) (by decide +kernel)⟩
theorem lw_p49 : lw_okq (⟨"SteppedSpinesModel", "inBlock", "(I)I"⟩, 15) := ⟨⟨by decide +kernel, by decide +kernel⟩, List.mem_of_getElem? (i := 776) (by decide +kernel), List.mem_of_getElem? (i := 1034) (by decide +kernel), List.mem_of_getElem? (i := 1035) (by decide +kernel)⟩
theorem lw_p50 : lw_okq (⟨"SteppedSpinesModel", "counted", "(I)I"⟩, 15) := ⟨⟨by decide +kernel, by decide +kernel⟩, List.mem_of_getElem? (i := 776) (by decide +kernel), List.mem_of_getElem? (i := 1042) (by decide +kernel), List.mem_of_getElem? (i := 1043) (by decide +kernel)⟩
theorem lw_p51 : lw_okq (⟨"SteppedSpinesModel", "faultPlace", "()I"⟩, 15) := ⟨⟨by decide +kernel, by decide +kernel⟩, List.mem_of_getElem? (i := 776) (by decide +kernel), List.mem_of_getElem? (i := 1046) (by decide +kernel), List.mem_of_getElem? (i := 1047) (by decide +kernel)⟩
theorem lw_p52 : lw_okq (⟨"SteppedSpinesModel", "fewest", "()I"⟩, 15) := ⟨⟨by decide +kernel, by decide +kernel⟩, List.mem_of_getElem? (i := 776) (by decide +kernel), List.mem_of_getElem? (i := 1050) (by decide +kernel), List.mem_of_getElem? (i := 1051) (by decide +kernel)⟩
theorem lw_p53 : lw_okq (⟨"SteppedSpinesModel", "pairs", "()I"⟩, 15) := ⟨⟨by decide +kernel, by decide +kernel⟩, List.mem_of_getElem? (i := 776) (by decide +kernel), List.mem_of_getElem? (i := 1054) (by decide +kernel), List.mem_of_getElem? (i := 1055) (by decide +kernel)⟩
theorem lw_p54 : lw_okq (⟨"SteppedSpinesModel", "stitches", "()I"⟩, 15) := ⟨⟨by decide +kernel, by decide +kernel⟩, List.mem_of_getElem? (i := 776) (by decide +kernel), List.mem_of_getElem? (i := 1058) (by decide +kernel), List.mem_of_getElem? (i := 1059) (by decide +kernel)⟩
theorem lw_p55 : lw_okq (⟨"SteppedSpinesModel", "thread", "()I"⟩, 15) := ⟨⟨by decide +kernel, by decide +kernel⟩, List.mem_of_getElem? (i := 776) (by decide +kernel), List.mem_of_getElem? (i := 1062) (by decide +kernel), List.mem_of_getElem? (i := 1063) (by decide +kernel)⟩
theorem lw_p56 : lw_okq (⟨"SteppedSpinesModel", "loose", "()I"⟩, 15) := ⟨⟨by decide +kernel, by decide +kernel⟩, List.mem_of_getElem? (i := 776) (by decide +kernel), List.mem_of_getElem? (i := 1069) (by decide +kernel), List.mem_of_getElem? (i := 1070) (by decide +kernel)⟩
theorem lw_p57 : lw_okq (⟨"SteppedSpinesModel", "boundSheets", "()I"⟩, 15) := ⟨⟨by decide +kernel, by decide +kernel⟩, List.mem_of_getElem? (i := 776) (by decide +kernel), List.mem_of_getElem? (i := 1073) (by decide +kernel), List.mem_of_getElem? (i := 1074) (by decide +kernel)⟩
theorem lw_p58 : lw_okq (⟨"SteppedSpinesModel", "moveNext", "()I"⟩, 15) := ⟨⟨by decide +kernel, by decide +kernel⟩, List.mem_of_getElem? (i := 776) (by decide +kernel), List.mem_of_getElem? (i := 1085) (by decide +kernel), List.mem_of_getElem? (i := 1086) (by decide +kernel)⟩
theorem lw_p59 : lw_okq (⟨"SteppedSpinesModel", "fewestBehind", "(II)I"⟩, 15) := ⟨⟨by decide +kernel, by decide +kernel⟩, List.mem_of_getElem? (i := 776) (by decide +kernel), List.mem_of_getElem? (i := 1089) (by decide +kernel), List.mem_of_getElem? (i := 1090) (by decide +kernel)⟩
theorem lw_p60 : lw_okq (⟨"SteppedSpinesModel", "without", "(II)I"⟩, 15) := ⟨⟨by decide +kernel, by decide +kernel⟩, List.mem_of_getElem? (i := 776) (by decide +kernel), List.mem_of_getElem? (i := 1097) (by decide +kernel), List.mem_of_getElem? (i := 1098) (by decide +kernel)⟩
theorem lw_p61 : lw_okq (⟨"SteppedSpinesModel", "fitting", "()I"⟩, 15) := ⟨⟨by decide +kernel, by decide +kernel⟩, List.mem_of_getElem? (i := 776) (by decide +kernel), List.mem_of_getElem? (i := 1105) (by decide +kernel), List.mem_of_getElem? (i := 1106) (by decide +kernel)⟩
theorem lw_p62 : lw_okq (⟨"SteppedSpinesModel", "possible", "()I"⟩, 15) := ⟨⟨by decide +kernel, by decide +kernel⟩, List.mem_of_getElem? (i := 776) (by decide +kernel), List.mem_of_getElem? (i := 1113) (by decide +kernel), List.mem_of_getElem? (i := 1114) (by decide +kernel)⟩
theorem lw_p63 : lw_okq (⟨"SteppedSpinesModel", "share", "()D"⟩, 15) := ⟨⟨by decide +kernel, by decide +kernel⟩, List.mem_of_getElem? (i := 776) (by decide +kernel), List.mem_of_getElem? (i := 1121) (by decide +kernel), List.mem_of_getElem? (i := 1122) (by decide +kernel)⟩
def lw_privs_4 : List (MethodName × Nat) := [(⟨"SteppedSpinesModel", "ofBin", "(II)I"⟩, 15), (⟨"SteppedSpinesModel", "inBlock", "(I)I"⟩, 15), (⟨"SteppedSpinesModel", "counted", "(I)I"⟩, 15), (⟨"SteppedSpinesModel", "faultPlace", "()I"⟩, 15), (⟨"SteppedSpinesModel", "fewest", "()I"⟩, 15), (⟨"SteppedSpinesModel", "pairs", "()I"⟩, 15), (⟨"SteppedSpinesModel", "stitches", "()I"⟩, 15), (⟨"SteppedSpinesModel", "thread", "()I"⟩, 15), (⟨"SteppedSpinesModel", "loose", "()I"⟩, 15), (⟨"SteppedSpinesModel", "boundSheets", "()I"⟩, 15), (⟨"SteppedSpinesModel", "moveNext", "()I"⟩, 15), (⟨"SteppedSpinesModel", "fewestBehind", "(II)I"⟩, 15), (⟨"SteppedSpinesModel", "without", "(II)I"⟩, 15), (⟨"SteppedSpinesModel", "fitting", "()I"⟩, 15), (⟨"SteppedSpinesModel", "possible", "()I"⟩, 15), (⟨"SteppedSpinesModel", "share", "()D"⟩, 15)]
theorem lw_r4 : ∀ q ∈ lw_privs_4, lw_okq q := List.forall_mem_cons.mpr ⟨lw_p48, List.forall_mem_cons.mpr ⟨lw_p49, List.forall_mem_cons.mpr ⟨lw_p50, List.forall_mem_cons.mpr ⟨lw_p51, List.forall_mem_cons.mpr ⟨lw_p52, List.forall_mem_cons.mpr ⟨lw_p53, List.forall_mem_cons.mpr ⟨lw_p54, List.forall_mem_cons.mpr ⟨lw_p55, List.forall_mem_cons.mpr ⟨lw_p56, List.forall_mem_cons.mpr ⟨lw_p57, List.forall_mem_cons.mpr ⟨lw_p58, List.forall_mem_cons.mpr ⟨lw_p59, List.forall_mem_cons.mpr ⟨lw_p60, List.forall_mem_cons.mpr ⟨lw_p61, List.forall_mem_cons.mpr ⟨lw_p62, List.forall_mem_cons.mpr ⟨lw_p63, fun _ h => absurd h List.not_mem_nil⟩⟩⟩⟩⟩⟩⟩⟩⟩⟩⟩⟩⟩⟩⟩⟩
theorem lw_p64 : lw_okq (⟨"SteppedSpinesModel", "mean", "()F"⟩, 15) := ⟨⟨by decide +kernel, by decide +kernel⟩, List.mem_of_getElem? (i := 776) (by decide +kernel), List.mem_of_getElem? (i := 1129) (by decide +kernel), List.mem_of_getElem? (i := 1130) (by decide +kernel)⟩
theorem lw_p65 : lw_okq (⟨"SteppedSpinesModel", "mix", "(J)V"⟩, 15) := ⟨⟨by decide +kernel, by decide +kernel⟩, List.mem_of_getElem? (i := 776) (by decide +kernel), List.mem_of_getElem? (i := 1138) (by decide +kernel), List.mem_of_getElem? (i := 1139) (by decide +kernel)⟩
def lw_privs_5 : List (MethodName × Nat) := [(⟨"SteppedSpinesModel", "mean", "()F"⟩, 15), (⟨"SteppedSpinesModel", "mix", "(J)V"⟩, 15)]
theorem lw_r5 : ∀ q ∈ lw_privs_5, lw_okq q := List.forall_mem_cons.mpr ⟨lw_p64, List.forall_mem_cons.mpr ⟨lw_p65, fun _ h => absurd h List.not_mem_nil⟩⟩
def lw_privs : List (MethodName × Nat) := lw_privs_1 ++ (lw_privs_2 ++ (lw_privs_3 ++ (lw_privs_4 ++ (lw_privs_5))))
def lw_tbl : List Cond := k2_sels lw_privs ++ tables_1
theorem lw_privs_ok : ∀ q ∈ lw_privs, lw_okq q := by
  show ∀ q ∈ lw_privs_1 ++ (lw_privs_2 ++ (lw_privs_3 ++ (lw_privs_4 ++ (lw_privs_5)))), lw_okq q
  exact List.forall_mem_append.mpr ⟨lw_r1, List.forall_mem_append.mpr ⟨lw_r2, List.forall_mem_append.mpr ⟨lw_r3, List.forall_mem_append.mpr ⟨lw_r4, lw_r5⟩⟩⟩⟩
/-- the streams that the claim lets the run draw from -/
abbrev lw_cs : List Choice := [Jvm.Choice.named "NaN.bits"]
theorem lw_bits : nanBits ∈ lw_cs := by first | decide | exact List.mem_cons_self | simp [lw_cs, nanBits]
end
section
/-! ===== BEGIN words of one list among another's, by their places ===== -/
theorem goodIn_r {big : List Cond} (ws : List Cond) (ps : List Nat) (hp : ws = ps.filterMap (fun i => big[i]?)) (h : ws.all goodWord = true) : GoodIn big ws := by
  intro w hw
  have h1 := List.all_eq_true.mp h w hw
  rw [hp] at hw
  obtain ⟨i, -, hi⟩ := List.mem_filterMap.mp hw
  have hm : w ∈ big := by first | exact List.mem_of_getElem? hi | exact List.getElem?_mem hi
  exact ⟨hm, good_of_word h1⟩
theorem goodIn_app {big a b : List Cond} (ha : GoodIn big a) (hb : GoodIn big b) : GoodIn big (a ++ b) := fun w h => (List.mem_append.mp h).elim (ha w) (hb w)
theorem goodIn_ca {big a b : List Cond} {c : Cond} (ha : GoodIn big (c :: a)) (hb : GoodIn big b) : GoodIn big (c :: (a ++ b)) := fun w h => (List.mem_cons.mp h).elim (fun e => ha w (List.mem_cons.mpr (Or.inl e))) (fun h => (List.mem_append.mp h).elim (fun h => ha w (List.mem_cons.mpr (Or.inr h))) (hb w))
theorem goodIn_sub {big ws : List Cond} (hm : ∀ w ∈ ws, w ∈ big) (h : ws.all goodWord = true) : GoodIn big ws := fun w hw => ⟨hm w hw, good_of_word (List.all_eq_true.mp h w hw)⟩
/-! ===== END ===== -/

/-! ===== BEGIN exceptions that leave a method, and their catching by the caller (launches without stack traces) ===== -/
section VXA
/-! The laws vx_back, vx_callV, vx_callS, vx_callSW, vx_throw0, vx_throwS follow proofs of the library, with one case more: JvmDerived/Free/Laws.lean (Back.of_free), Shelf42/LK1.lean (callV, callS), Shelf/KitTraced.lean (throwNew0V, throwNewS). -/
/-- where a method has thrown q: the class by its name, the cell, what was written, the world -/
def vx_T (XC : String → State → State → Prop) (st : State) (q : Addr) (t : State) (mc ms : Nat) (free : Addr → Prop) : Prop :=
  ∃ (E : String) (ce : Cell) (L : List Loc), XC E st t ∧ t.heap[q]? = some ce ∧ ce.vm = .none ∧ st.vm.findClass E = some ce.cls ∧ st.WarmedH t.vm ∧ st.sameButNew ({ t with vm := st.vm } : State) L mc ms ∧ ∀ z ∈ L, free z.base
def vx_Q (Qc : Array Value → State → Outcome → State → Prop) (XC : String → State → State → Prop) (mc ms : Nat) (free : Addr → Prop) : Array Value → State → Outcome → State → Prop := fun a st o t =>
  (Qc a st o t ∧ ∃ L, FrameEnd st o t L mc ms ∧ ∀ q ∈ L, free q.base) ∨ ∃ q, o = .threw q ∧ vx_T XC st q t mc ms free
/-- a callee that returns or throws -/
def vx_Met (l : Launch) (y : MethodName) (ws : List Cond) (rm : Room) (Pc : Array Value → State → Prop) (Qc : Array Value → State → Outcome → State → Prop) (XC : String → State → State → Prop) (mc ms : Nat) (free : Addr → Prop) : Prop :=
  MetFree l y (headSpec ws rm) Pc (fun _ _ _ _ _ => True) (vx_Q Qc XC mc ms free)
def vx_Post (XC : String → State → State → Prop) (mc ms : Nat) (free : Addr → Prop) : Pt → Array Value → Addr → Pt → Prop := fun A a q B =>
  ∃ (g : JFrame) (mk : MethodId) (t : State) (L : List Loc) (E : String) (ce : Cell), B.U.heap = t.heap ∧ B.U.vm = t.vm ∧ XC E (A.U.calling g mk a) t ∧ t.heap[q]? = some ce ∧ ce.vm = .none ∧ A.U.vm.findClass E = some ce.cls ∧ B.locs = A.locs ++ L ∧ (∀ z ∈ L, free z.base) ∧ B.cells = A.cells + mc ∧ B.slots = A.slots + ms
def vx_Back (l : Launch) (R : Room) (p : Program) (e : Env) (below : List Frame) (s : State) (sargs : Array Value) (y : MethodName) (len W9 : Nat)
    (Pre : Pt → Array Value → Prop) (Post : Pt → Array Value → Option Value → Pt → Prop) (PostX : Pt → Array Value → Addr → Pt → Prop) : Prop :=
  ∀ (m : MethodId) (meth : Method) (c : Code) (A : Pt) (g : JFrame) (ig : Instr) (mk : MethodId) (a : Array Value),
    Stand p l e R s m sargs below meth c A.U A.locs A.cells A.slots → g.method = m → g.locals.size = c.maxLocals → decode c.code g.pc = .ok (ig, len) →
    2 * g.monitorRoom + (g.stack.map fun v => v.category).sum ≤ W9 → A.U.methodNamed? y = some mk → Pre A a →
    (∃ (v : Option Value) (B : Pt), Stand p l e R s m sargs below meth c B.U B.locs B.cells B.slots ∧ Post A a v B ∧
      Steps p.tables e below (doInvoke e (A.U.setTop g) [] mk a).1 (B.U.setTop { g with pc := g.pc + len, stack := v.toList ++ g.stack })) ∨
    (∃ (q : Addr) (B : Pt), Stand p l e R s m sargs below meth c B.U B.locs B.cells B.slots ∧ PostX A a q B ∧
      Steps p.tables e below (doInvoke e (A.U.setTop g) [] mk a).1 ((B.U.setTop g).pushFrame (.throwing q)))
section Payer
variable {l : Launch} {R : Room} {p : Program} {e : Env} {below : List Frame} {s : State} {sargs : Array Value} {y : MethodName} {len W9 : Nat}
theorem vx_back {ws : List Cond} {rm : Room} {Pc : Array Value → State → Prop} {Qc : Array Value → State → Outcome → State → Prop} {XC : String → State → State → Prop} {mc ms : Nat} {free : Addr → Prop} {bytes : ByteArray} {maxL : Nat} {ret : Option FieldType}
    (hM : vx_Met l y ws rm Pc Qc XC mc ms free) (hblind : FrameBlind Pc) (hrc : rm.cells = mc) (hrs : rm.slots = ms)
    (hframes : rm.frames + 1 ≤ R.frames) (hlocals : W9 + (maxL + 11) + rm.locals ≤ R.locals)
    (hws : ∀ w ∈ ws, ∀ a' U, s.WarmedH U.vm → w.before a' U = true) (hcode : Cond.code y bytes maxL ret ∈ ws) (hinit : ∀ a' U, s.WarmedH U.vm → (Cond.initialized y.cls).before a' U = true) :
    vx_Back l R p e below s sargs y len W9 (PreOf R mc ms Pc) (PostOf Qc mc ms free) (vx_Post XC mc ms free) := by
  intro m meth c A g ig mk a X hg hsize hdg hW hn hp
  have h1 : (headSpec ws rm).pre.before a A.U = true := atoms_intro fun w hw => hws w hw _ _ X.warmed
  have h2 : (Cond.code y bytes maxL ret).before a A.U = true := hws _ hcode _ _ X.warmed
  have h3 : (Cond.initialized y.cls).before a A.U = true := hinit _ _ X.warmed
  have h4 : A.cells + (headSpec ws rm).room.cells ≤ R.cells := by rw [show (headSpec ws rm).room.cells = mc from hrc]; exact hp.1
  have h5 : A.slots + (headSpec ws rm).room.slots ≤ R.slots := by rw [show (headSpec ws rm).room.slots = ms from hrs]; exact hp.2.1
  have hPc : Pc a (A.U.calling g mk a) := hblind _ _ _ _ hp.2.2
  obtain ⟨U, Ls, c0, s0⟩ := A
  dsimp only [Pt.U, Pt.locs, Pt.cells, Pt.slots] at h1 h2 h3 h4 h5 X hn hPc ⊢
  obtain ⟨methY, cY, hmY, hcY, -, hlY, -, -, -, -⟩ := Cond.code_spec hn h2
  obtain ⟨kY, hkY, -⟩ := className_of_methodNamed hn
  have hinitY : kY.init = .initialized := Cond.initialized_spec (findClass_of_methodNamed hn) hkY h3
  have h : At U g.method c below := by rw [hg]; exact X.here
  have hlocals9 : W9 + (maxL + 11) + (headSpec ws rm).room.locals ≤ R.locals := hlocals
  have happ : (headSpec ws rm).appliesLoose y e.platform (U.calling g mk a) = true :=
    Spec.appliesLoose_calling (g := g) h hdg hn hkY hinitY
      (X.room_calling (g := g) (R' := (headSpec ws rm).room) hsize hmY hcY hframes (by rw [hlY]; omega) h4 h5) h1
  obtain ⟨mid, hmid⟩ := h.above
  have hfr : (U.setTop g).frames = (.java g :: mid) ++ below := by rw [State.frames_setTop' g h.top, hmid]; rfl
  obtain ⟨o, s₂, hsteps, -, hend, hq⟩ := Steps.callFree hM p X.admits X.cas X.clock (acts := []) hfr happ hPc trivial
  have hq' : vx_Q Qc XC mc ms free a (U.calling g mk a) o s₂ := hq
  rw [State.frames_setTop' g h.top] at hend
  obtain ⟨g₀, hg0⟩ := Option.isSome_iff_exists.mp h.top
  obtain ⟨r, hr⟩ := State.topJava?_eq_some.mp hg0
  have hr' : (({ U with heap := s₂.heap, slotsUsed := s₂.slotsUsed } : State).setVm s₂.vm).frames = .java g₀ :: r := hr
  rcases hq' with ⟨hqc, L, hfe, hL⟩ | ⟨q, rfl, E, ce, L, hx, hce, hcv, hcl, hW₂, hsm, hL⟩
  · obtain ⟨⟨v, rfl⟩, hW₂, e2, q2, q3, q4, q5, q6⟩ := id hfe
    have e3 : s₂ = ({ (U.calling g mk a).setFrames s₂.frames with heap := s₂.heap, slotsUsed := s₂.slotsUsed } : State).setVm s₂.vm := by
      have : s₂ = ({ s₂ with vm := (U.calling g mk a).vm } : State).setVm s₂.vm := rfl
      rw [e2] at this
      exact this
    obtain ⟨c₂, i₂, len₂, hc₂, hd₂, hf₂⟩ := hend
    have hW' : U.WarmedH s₂.vm := hW₂
    have hcc : c₂ = c := by
      have h1 : s₂.code? g.method = U.code? g.method := by
        rw [State.code?_eq, State.code?_eq, hW'.alike.method?]
      exact Option.some.inj (hc₂.symm.trans (h1.trans h.code))
    subst hcc
    have hlen : len₂ = len := by rw [hdg] at hd₂; cases hd₂; rfl
    subst hlen
    have hs₂ : s₂ = (({ U with heap := s₂.heap, slotsUsed := s₂.slotsUsed } : State).setVm s₂.vm).setTop { g with pc := g.pc + len₂, stack := v.toList ++ g.stack } := by
      refine e3.trans ?_
      rw [hf₂, State.calling_eq h.top, State.setFrames_setFrames, State.setTop_of_frames _ hr', hr]
      rfl
    have hsame : U.sameButNew ({ U with heap := s₂.heap, slotsUsed := s₂.slotsUsed } : State) L mc ms := by
      refine ⟨?_, q2, q3, q4, q5, q6⟩
      obtain ⟨t, ht, -⟩ := State.frames_cons hr
      show ({ U with heap := s₂.heap, slotsUsed := s₂.slotsUsed } : State) = { U.setFrames U.frames with heap := s₂.heap, slotsUsed := s₂.slotsUsed }
      rw [State.setFrames_self ht]
    subst hg
    refine Or.inl ⟨v, ⟨(({ U with heap := s₂.heap, slotsUsed := s₂.slotsUsed } : State).setVm s₂.vm), Ls ++ L, c0 + mc, s0 + ms⟩,
      ⟨X.admits, X.cas, X.clock, X.frames, X.room, X.hears, X.method, X.code, (X.here.setHeapUsed s₂.heap s₂.slotsUsed).setVm hW'.alike, X.tail, State.WarmedH.trans X.warmed hW', X.limits, X.bytes, X.same.trans (hsame.setVm s.vm)⟩,
      ⟨g, mk, s₂, L, rfl, rfl, hqc, rfl, hL, rfl, rfl⟩, ?_⟩
    show Steps p.tables e below _ ((({ U with heap := s₂.heap, slotsUsed := s₂.slotsUsed } : State).setVm s₂.vm).setTop { g with pc := g.pc + len₂, stack := v.toList ++ g.stack })
    rw [← hs₂]
    exact hsteps
  · obtain ⟨e2, q2, q3, q4, q5, q6⟩ := id hsm
    have e3 : s₂ = ({ (U.calling g mk a).setFrames s₂.frames with heap := s₂.heap, slotsUsed := s₂.slotsUsed } : State).setVm s₂.vm := by
      have : s₂ = ({ s₂ with vm := (U.calling g mk a).vm } : State).setVm s₂.vm := rfl
      rw [e2] at this
      exact this
    have hf₂ : s₂.frames = .throwing q :: .java g :: U.frames.tail := hend
    have hW' : U.WarmedH s₂.vm := hW₂
    have hs₂ : s₂ = ((({ U with heap := s₂.heap, slotsUsed := s₂.slotsUsed } : State).setVm s₂.vm).setTop g).pushFrame (.throwing q) := by
      refine e3.trans ?_
      rw [hf₂, State.calling_eq h.top, State.setFrames_setFrames, State.pushFrame, State.frames_setTop _ hr', State.setTop_of_frames _ hr', State.setFrames_setFrames, hr]
      rfl
    have hsame : U.sameButNew ({ U with heap := s₂.heap, slotsUsed := s₂.slotsUsed } : State) L mc ms := by
      refine ⟨?_, q2, q3, q4, q5, q6⟩
      obtain ⟨t, ht, -⟩ := State.frames_cons hr
      show ({ U with heap := s₂.heap, slotsUsed := s₂.slotsUsed } : State) = { U.setFrames U.frames with heap := s₂.heap, slotsUsed := s₂.slotsUsed }
      rw [State.setFrames_self ht]
    subst hg
    refine Or.inr ⟨q, ⟨(({ U with heap := s₂.heap, slotsUsed := s₂.slotsUsed } : State).setVm s₂.vm), Ls ++ L, c0 + mc, s0 + ms⟩,
      ⟨X.admits, X.cas, X.clock, X.frames, X.room, X.hears, X.method, X.code, (X.here.setHeapUsed s₂.heap s₂.slotsUsed).setVm hW'.alike, X.tail, State.WarmedH.trans X.warmed hW', X.limits, X.bytes, X.same.trans (hsame.setVm s.vm)⟩,
      ⟨g, mk, s₂, L, E, ce, rfl, rfl, hx, hce, hcv, hcl, rfl, hL, rfl, rfl⟩, ?_⟩
    show Steps p.tables e below _ (((({ U with heap := s₂.heap, slotsUsed := s₂.slotsUsed } : State).setVm s₂.vm).setTop g).pushFrame (.throwing q))
    rw [← hs₂]
    exact hsteps
end Payer
section Calls
variable {p : Program} {l : Launch} {e : Env} {R : Room} {s : State} {m : MethodId} {args : Array Value} {below : List Frame} {meth : Method} {c : Code} {T : State} {locs : List Loc} {cells slots : Nat}
theorem vx_callV (X : Stand p l e R s m args below meth c T locs cells slots) (hexec : p.tables.exec = Jvm.exec) {own C : String} {index : Nat} {y : MethodName} {bytes : ByteArray} {maxL : Nat} {ret : Option FieldType}
    (hown : s.vm.findClass own = some m.cls) (hlink : (Cond.methodLink own index y).before args s = true) (hinst : (Cond.instanceMethod y).before args s = true) (hsel : (Cond.selects C y y).before args s = true)
    (hcode : (Cond.code y bytes maxL ret).before args s = true) (hy : y.cls ≠ "java/lang/invoke/MethodHandle" ∧ y.cls ≠ "java/lang/invoke/VarHandle")
    {W9 : Nat} {Pre : Pt → Array Value → Prop} {Post : Pt → Array Value → Option Value → Pt → Prop} {PostX : Pt → Array Value → Addr → Pt → Prop} (hK : vx_Back l R p e below s args y 3 W9 Pre Post PostX)
    {b : Addr} {cellB : Cell} (hcell : T.heap[b]? = some cellB) (hobj : cellB.vm.isStatics = false) (hcls : s.vm.findClass C = some cellB.cls)
    {g : JFrame} (hg : g.method = m) (hsize : g.locals.size = c.maxLocals) {argsL rest : List Value} (hlen : ∀ sig, parseMethodDescriptor y.desc = some sig → argsL.length = sig.parameters.length)
    (hstack : g.stack = argsL.reverse ++ .ref b :: rest) (hW : 2 * g.monitorRoom + (rest.map fun v => v.category).sum ≤ W9) (hdg : decode c.code g.pc = .ok (.invokevirtual index, 3))
    (hpre : ∀ vm₁, s.WarmedH vm₁ → Pre ⟨T.setVm vm₁, locs, cells, slots⟩ (Value.ref b :: argsL).toArray) :
    (∃ (v : Option Value) (vm₁ : Vm) (B : Pt), s.WarmedH vm₁ ∧ Stand p l e R s m args below meth c B.U B.locs B.cells B.slots ∧ Post ⟨T.setVm vm₁, locs, cells, slots⟩ (Value.ref b :: argsL).toArray v B ∧
      ∀ target, Steps p.tables e below (B.U.setTop { g with pc := g.pc + 3, stack := v.toList ++ rest }) target → Steps p.tables e below (T.setTop g) target) ∨
    (∃ (q : Addr) (vm₁ : Vm) (B : Pt), s.WarmedH vm₁ ∧ Stand p l e R s m args below meth c B.U B.locs B.cells B.slots ∧ PostX ⟨T.setVm vm₁, locs, cells, slots⟩ (Value.ref b :: argsL).toArray q B ∧
      Steps p.tables e below (T.setTop g) ((B.U.setTop { g with stack := rest }).pushFrame (.throwing q))) := by
  obtain ⟨mk, methM, hnamed, hmethM, hstM, habM⟩ := Cond.instanceMethod_spec hinst
  obtain ⟨methM', cM, hmethM', -, -, -, -, -, -, hsigM⟩ := Cond.code_spec hnamed hcode
  cases hmethM.symm.trans hmethM'
  obtain ⟨c2, r2, m2, q1, q2, q3, q4, kP, hkP, hkPi⟩ := Cond.selects_spec hsel
  cases hcls.symm.trans q1
  cases (State.methodFound?_of_named hnamed hy).symm.trans q2
  cases hnamed.symm.trans q3
  have hselP : selectMethod e.platform s.vm cellB.cls mk = .method mk := by rw [Launch.admits_selectMethod X.admits]; exact q4
  obtain ⟨vm₁, X₁, hstep₁⟩ := X.invokevirtual hexec hown hlink hnamed hmethM hstM hkP hkPi hy (a := b) (cell := cellB) hcell
    (fun z h => by rw [h] at hobj; cases hobj) hselP hmethM habM hkP hkPi (g := g) hg (argsL := argsL) (rest := rest) (hlen _ hsigM) hstack hdg
  rcases hK m meth c ⟨T.setVm vm₁, locs, cells, slots⟩ { g with stack := rest } (.invokevirtual index) mk (Value.ref b :: argsL).toArray X₁ hg hsize hdg hW (X₁.named hnamed) (hpre vm₁ X₁.warmed) with ⟨v, B, X', hpost, hsteps⟩ | ⟨q, B, X', hpost, hsteps⟩
  · exact Or.inl ⟨v, vm₁, B, X₁.warmed, X', hpost, fun target h => hstep₁ _ fun acts => by rw [doInvoke_state]; exact hsteps.trans h⟩
  · exact Or.inr ⟨q, vm₁, B, X₁.warmed, X', hpost, hstep₁ _ fun acts => by rw [doInvoke_state]; exact hsteps⟩
theorem vx_callS (X : Stand p l e R s m args below meth c T locs cells slots) (hexec : p.tables.exec = Jvm.exec) {own : String} {index : Nat} {y : MethodName} {bytes : ByteArray} {maxL : Nat} {ret : Option FieldType}
    (hown : s.vm.findClass own = some m.cls) (hlink : (Cond.methodLink own index y).before args s = true) (hstat : (Cond.static y).before args s = true) (hinit : (Cond.initialized y.cls).before args s = true)
    (hcode : (Cond.code y bytes maxL ret).before args s = true) (hy : y.cls ≠ "java/lang/invoke/MethodHandle" ∧ y.cls ≠ "java/lang/invoke/VarHandle")
    {W9 : Nat} {Pre : Pt → Array Value → Prop} {Post : Pt → Array Value → Option Value → Pt → Prop} {PostX : Pt → Array Value → Addr → Pt → Prop} (hK : vx_Back l R p e below s args y 3 W9 Pre Post PostX)
    {g : JFrame} (hg : g.method = m) (hsize : g.locals.size = c.maxLocals) {argsL rest : List Value} (hlen : ∀ sig, parseMethodDescriptor y.desc = some sig → argsL.length = sig.parameters.length)
    (hstack : g.stack = argsL.reverse ++ rest) (hW : 2 * g.monitorRoom + (rest.map fun v => v.category).sum ≤ W9) (hdg : decode c.code g.pc = .ok (.invokestatic index, 3))
    (hpre : ∀ vm₁, s.WarmedH vm₁ → Pre ⟨T.setVm vm₁, locs, cells, slots⟩ argsL.toArray) :
    (∃ (v : Option Value) (vm₁ : Vm) (B : Pt), s.WarmedH vm₁ ∧ Stand p l e R s m args below meth c B.U B.locs B.cells B.slots ∧ Post ⟨T.setVm vm₁, locs, cells, slots⟩ argsL.toArray v B ∧
      ∀ target, Steps p.tables e below (B.U.setTop { g with pc := g.pc + 3, stack := v.toList ++ rest }) target → Steps p.tables e below (T.setTop g) target) ∨
    (∃ (q : Addr) (vm₁ : Vm) (B : Pt), s.WarmedH vm₁ ∧ Stand p l e R s m args below meth c B.U B.locs B.cells B.slots ∧ PostX ⟨T.setVm vm₁, locs, cells, slots⟩ argsL.toArray q B ∧
      Steps p.tables e below (T.setTop g) ((B.U.setTop { g with stack := rest }).pushFrame (.throwing q))) := by
  obtain ⟨mk, hnamed⟩ := Cond.code_named hcode
  obtain ⟨methM, cM, hmethM, -, -, -, -, -, -, hsigM⟩ := Cond.code_spec hnamed hcode
  have hstatic : methM.isStatic = true := Cond.static_spec hnamed hmethM hstat
  obtain ⟨kP, hkP, -⟩ := className_of_methodNamed hnamed
  have hinitP : kP.init = .initialized := Cond.initialized_spec (findClass_of_methodNamed hnamed) hkP hinit
  obtain ⟨vm₁, X₁, hstep₁⟩ := X.invokestatic hexec hown hlink hnamed hmethM hstatic hkP hinitP hy (g := g) hg (argsL := argsL) (rest := rest) (hlen _ hsigM) hstack hdg
  rcases hK m meth c ⟨T.setVm vm₁, locs, cells, slots⟩ { g with stack := rest } (.invokestatic index) mk argsL.toArray X₁ hg hsize hdg hW (X₁.named hnamed) (hpre vm₁ X₁.warmed) with ⟨v, B, X', hpost, hsteps⟩ | ⟨q, B, X', hpost, hsteps⟩
  · exact Or.inl ⟨v, vm₁, B, X₁.warmed, X', hpost, fun target h => hstep₁ _ fun acts => by rw [doInvoke_state]; exact hsteps.trans h⟩
  · exact Or.inr ⟨q, vm₁, B, X₁.warmed, X', hpost, hstep₁ _ fun acts => by rw [doInvoke_state]; exact hsteps⟩
end Calls
theorem vx_cls {s : State} {T : State} {vm₁ : Vm} {E : String} {k : ClassId} (hW : s.WarmedH vm₁) (h : (T.setVm vm₁).vm.findClass E = some k) : s.vm.findClass E = some k := by
  have h1 : vm₁.findClass E = some k := h
  rw [hW.alike.findClass] at h1
  exact h1
/-- the method's frame g, with q thrown over it -/
def vx_W (p : Program) (l : Launch) (e : Env) (R : Room) (s : State) (m : MethodId) (args : Array Value) (below : List Frame) (meth : Method) (c : Code) (H : Heap) (locs : List Loc) (cells slots : Nat) (Q : State → Prop) (g : JFrame) (q : Addr) : Prop :=
  ∀ T : State, T.heap = H → Stand p l e R s m args below meth c T locs cells slots → ∃ t, Steps p.tables e below ((T.setTop g).pushFrame (.throwing q)) t ∧ Q t
def vx_Run (p : Program) (l : Launch) (e : Env) (R : Room) (s : State) (m : MethodId) (args : Array Value) (below : List Frame) (meth : Method) (c : Code) (H : Heap) (locs : List Loc) (cells slots mc ms : Nat) (g : JFrame) (rest : List Value) (Qa : State → Outcome → State → Prop) (XC : String → State → State → Prop) (free : Addr → Prop) : Prop :=
  ∀ T : State, T.heap = H → Stand p l e R s m args below meth c T locs cells slots →
    (∃ (v : Option Value) (st₀ t T' : State) (L : List Loc), st₀.heap = H ∧ Stand p l e R s m args below meth c T' (locs ++ L) (cells + mc) (slots + ms) ∧ (∀ q ∈ L, free q.base) ∧ T'.heap = t.heap ∧ T'.vm = t.vm ∧ Qa st₀ (.returned v) t ∧
      Goes p e below T g T' { g with pc := g.pc + 3, stack := v.toList ++ rest }) ∨
    (∃ (q : Addr) (st₀ t T' : State) (L : List Loc) (E : String) (ce : Cell), st₀.heap = H ∧ Stand p l e R s m args below meth c T' (locs ++ L) (cells + mc) (slots + ms) ∧ (∀ z ∈ L, free z.base) ∧ T'.heap = t.heap ∧ T'.vm = t.vm ∧ XC E st₀ t ∧ t.heap[q]? = some ce ∧ ce.vm = .none ∧ s.vm.findClass E = some ce.cls ∧
      Steps p.tables e below (T.setTop g) ((T'.setTop { g with stack := rest }).pushFrame (.throwing q)))
def vx_X {S : Type} (px : S → Prop) (B : String → S → State → Prop) (A : Nat → Prop) : String → State → State → Prop := fun E st t => ∃ u : S, px u ∧ B E u t ∧ va_F A st t
section Runs
variable {p : Program} {l : Launch} {e : Env} {R : Room} {s : State} {m : MethodId} {args : Array Value} {below : List Frame} {meth : Method} {c : Code} {H : Heap} {locs : List Loc} {cells slots : Nat}
variable {y : MethodName} {bytes cc : ByteArray} {maxL nL mc ms n index : Nat} {ret : Option FieldType} {ws : List Cond} {rm : Room} {Pc : Array Value → State → Prop} {Qc : Array Value → State → Outcome → State → Prop} {XC : String → State → State → Prop} {free : Addr → Prop} {Ts : List Cond} {own C : String} {b : Addr} {As rest : List Value} {g : JFrame}
theorem vx_callBack (cb : CallB R s args own index y bytes maxL ret ws rm mc ms n) (hM : vx_Met l y ws rm Pc Qc XC mc ms free) (hbl : FrameBlind Pc) : vx_Back l R p e below s args y 3 8 (PreOf R mc ms Pc) (PostOf Qc mc ms free) (vx_Post XC mc ms free) := by
  obtain ⟨hrc, hrs, hfr, hlo, hws, hcw, -, hini, -⟩ := cb
  exact vx_back (bytes := bytes) (maxL := maxL) (ret := ret) hM hbl hrc hrs hfr hlo hws hcw (fun a' U hW => word_at hW (Or.inl (by first | rfl | simp [Cond.onTables, Cond.keeps, Cond.steady])) hini)
theorem vx_runV (S : CallFix p m c cc nL s args Ts own) (hM : vx_Met l y ws rm Pc Qc XC mc ms free) (cw : CallW R s args own C index y bytes maxL ret ws rm mc ms n) (hp : PreV s H C b Pc As)
    (hg : g.method = m) (hn : As.length = n) (hsize : g.locals.size = nL) (hstack : g.stack = As.reverse ++ .ref b :: rest) (hW : 2 * g.monitorRoom + (rest.map fun v => v.category).sum ≤ 8) (hdg : decode cc g.pc = .ok (.invokevirtual index, 3)) (hf : cells + mc ≤ R.cells ∧ slots + ms ≤ R.slots) :
    vx_Run p l e R s m args below meth c H locs cells slots mc ms g rest (Qc (Value.ref b :: As).toArray) XC free := by
  have hK : vx_Back l R p e below s args y 3 8 (PreOf R mc ms Pc) (PostOf Qc mc ms free) (vx_Post XC mc ms free) := vx_callBack cw.1 hM hp.1
  obtain ⟨⟨-, -, -, -, -, -, hcode, -, hy, hlen, hl⟩, hin, hse⟩ := cw
  obtain ⟨hx, hb, hml, ho, -⟩ := S
  obtain ⟨-, ⟨cellB, hcB, hoB, hclB⟩, hPc⟩ := hp
  intro T hT X
  rcases vx_callV X hx (C := C) (bytes := bytes) (maxL := maxL) (ret := ret) ho hl hin hse hcode hy hK (by rw [hT]; exact hcB) hoB hclB hg (hsize.trans hml.symm) (argsL := As) (rest := rest) (fun sig h => hn.trans (hlen sig h)) hstack hW (by rw [hb]; exact hdg)
    (fun vm₁ hW₁ => ⟨hf.1, hf.2, hPc (T.setVm vm₁) hT hW₁⟩) with ⟨v, vm₁, ⟨U', l2, c2, s2⟩, hW₁, X', ⟨g', mk, t, L, e1, e2, hq, h1, hL, h2, h3⟩, st⟩ | ⟨q, vm₁, ⟨U', l2, c2, s2⟩, hW₁, X', ⟨g', mk, t, L, E, ce, e1, e2, hq, hce, hcv, hcl, h1, hL, h2, h3⟩, st⟩
  · dsimp only [Pt.U, Pt.locs, Pt.cells, Pt.slots] at X' e1 e2 h1 h2 h3 st
    subst h1; subst h2; subst h3
    exact Or.inl ⟨v, (T.setVm vm₁).calling g' mk (Value.ref b :: As).toArray, t, U', L, hT, X', hL, e1, e2, hq, st⟩
  · dsimp only [Pt.U, Pt.locs, Pt.cells, Pt.slots] at X' e1 e2 h1 h2 h3 st hcl
    subst h1; subst h2; subst h3
    exact Or.inr ⟨q, (T.setVm vm₁).calling g' mk (Value.ref b :: As).toArray, t, U', L, E, ce, hT, X', hL, e1, e2, hq, hce, hcv, vx_cls hW₁ hcl, st⟩
theorem vx_runS (S : CallFix p m c cc nL s args Ts own) (hM : vx_Met l y ws rm Pc Qc XC mc ms free) (cw : CallB R s args own index y bytes maxL ret ws rm mc ms n ∧ (Cond.static y).before args s = true) (hp : PreS s H Pc As)
    (hg : g.method = m) (hn : As.length = n) (hsize : g.locals.size = nL) (hstack : g.stack = As.reverse ++ rest) (hW : 2 * g.monitorRoom + (rest.map fun v => v.category).sum ≤ 8) (hdg : decode cc g.pc = .ok (.invokestatic index, 3)) (hf : cells + mc ≤ R.cells ∧ slots + ms ≤ R.slots) :
    vx_Run p l e R s m args below meth c H locs cells slots mc ms g rest (Qc As.toArray) XC free := by
  have hK : vx_Back l R p e below s args y 3 8 (PreOf R mc ms Pc) (PostOf Qc mc ms free) (vx_Post XC mc ms free) := vx_callBack cw.1 hM hp.1
  obtain ⟨⟨-, -, -, -, -, -, hcode, hini, hy, hlen, hl⟩, hstt⟩ := cw
  obtain ⟨hx, hb, hml, ho, -⟩ := S
  intro T hT X
  rcases vx_callS X hx (bytes := bytes) (maxL := maxL) (ret := ret) ho hl hstt hini hcode hy hK hg (hsize.trans hml.symm) (argsL := As) (rest := rest) (fun sig h => hn.trans (hlen sig h)) hstack hW (by rw [hb]; exact hdg)
    (fun vm₁ hW₁ => ⟨hf.1, hf.2, hp.2 (T.setVm vm₁) hT hW₁⟩) with ⟨v, vm₁, ⟨U', l2, c2, s2⟩, hW₁, X', ⟨g', mk, t, L, e1, e2, hq, h1, hL, h2, h3⟩, st⟩ | ⟨q, vm₁, ⟨U', l2, c2, s2⟩, hW₁, X', ⟨g', mk, t, L, E, ce, e1, e2, hq, hce, hcv, hcl, h1, hL, h2, h3⟩, st⟩
  · dsimp only [Pt.U, Pt.locs, Pt.cells, Pt.slots] at X' e1 e2 h1 h2 h3 st
    subst h1; subst h2; subst h3
    exact Or.inl ⟨v, (T.setVm vm₁).calling g' mk As.toArray, t, U', L, hT, X', hL, e1, e2, hq, st⟩
  · dsimp only [Pt.U, Pt.locs, Pt.cells, Pt.slots] at X' e1 e2 h1 h2 h3 st hcl
    subst h1; subst h2; subst h3
    exact Or.inr ⟨q, (T.setVm vm₁).calling g' mk As.toArray, t, U', L, E, ce, hT, X', hL, e1, e2, hq, hce, hcv, vx_cls hW₁ hcl, st⟩
end Runs
section Rows
variable {p : Program} {l : Launch} {e : Env} {R : Room} {s : State} {m : MethodId} {args : Array Value} {below : List Frame} {meth : Method} {c : Code} {H : Heap} {locs : List Loc} {cells slots : Nat} {Q : State → Prop}
variable {mc ms : Nat} {free : Addr → Prop} {A0 A1 : Nat → Prop} {H0 : Heap} {a : Array Value} {pc : Nat} {ls : Array Slot} {st0 rest : List Value}
theorem vx_keep {st₀ t T' : State} {L : List Loc} (h0 : st₀.heap = H) (e1 : T'.heap = t.heap) (hS : va_S A0 H0 H locs) (hA : ∀ q, q < H.size → A1 q → A0 q) (hf : ∀ q, free q → A0 q) (hL : ∀ q ∈ L, free q.base) (hF : va_F A1 st₀ t) :
    H.size ≤ T'.heap.size ∧ (∀ q : Nat, q < H.size → ¬ A1 q → T'.heap[q]? = H[q]?) ∧ va_S A0 H0 T'.heap (locs ++ L) := by
  obtain ⟨hz, hk⟩ := hF
  rw [h0] at hz hk
  exact ⟨by rw [e1]; exact hz, fun q h1 h2 => by rw [e1]; exact hk q h1 h2,
    ⟨Nat.le_trans hS.1 (by rw [e1]; exact hz), fun q h1 h2 => by rw [e1, hk q (Nat.lt_of_lt_of_le h1 hS.1) (fun z => h2 (hA q (Nat.lt_of_lt_of_le h1 hS.1) z))]; exact hS.2.1 q h1 h2, fun q hq => by
      rcases List.mem_append.mp hq with h | h
      · exact hS.2.2 q h
      · exact hf _ (hL q h)⟩⟩
theorem vx_calli {S SX : Type} {post : Int32 → S → Prop} {px : SX → Prop} {B : S → State → Prop} {BX : String → SX → State → Prop} {AX : Nat → Prop} (hr : vx_Run p l e R s m args below meth c H locs cells slots mc ms (F0 m pc ls st0) rest (va_Qi post B A1 a) (vx_X px BX AX) free) (hS : va_S A0 H0 H locs) (hA : ∀ q, q < H.size → A1 q → A0 q) (hf : ∀ q, free q → A0 q) (hAX : ∀ q, q < H.size → AX q → A0 q)
    (kx : ∀ (E : String) (ce : Cell) (q9 : Addr) (u : SX) (t : State) (H1 : Heap) (locs1 : List Loc), t.heap = H1 → s.vm.Alike t.vm → px u → BX E u t → H.size ≤ H1.size → (∀ q : Nat, q < H.size → ¬ AX q → H1[q]? = H[q]?) → va_S A0 H0 H1 locs1 → H1[q9]? = some ce → ce.vm = .none → s.vm.findClass E = some ce.cls → vx_W p l e R s m args below meth c H1 locs1 (cells + mc) (slots + ms) Q (F0 m pc ls rest) q9)
    (kk : ∀ (r : Int32) (u : S) (t : State) (H1 : Heap) (locs1 : List Loc), t.heap = H1 → s.vm.Alike t.vm → post r u → B u t → H.size ≤ H1.size → (∀ q : Nat, q < H.size → ¬ A1 q → H1[q]? = H[q]?) → va_S A0 H0 H1 locs1 → W p l e R s m args below meth c H1 locs1 (cells + mc) (slots + ms) Q (F0 m (pc + 3) ls (.int r :: rest))) : W p l e R s m args below meth c H locs cells slots Q (F0 m pc ls st0) := by
  intro T hT X
  rcases hr T hT X with ⟨v, st₀, t, T', L, h0, X', hL, e1, e2, ⟨⟨r, u, hv, hp, hb⟩, hF⟩, st⟩ | ⟨q, st₀, t, T', L, E, ce, h0, X', hL, e1, e2, ⟨u, hp, hb, hF⟩, hce, hcv, hcl, st⟩
  · cases hv
    obtain ⟨k1, k2, k3⟩ := vx_keep h0 e1 hS hA hf hL hF
    obtain ⟨t2, a1, b1⟩ := kk r u t T'.heap (locs ++ L) e1.symm (by rw [← e2]; exact X'.warmed.alike) hp hb k1 k2 k3 T' rfl X'
    exact ⟨t2, st t2 a1, b1⟩
  · obtain ⟨k1, k2, k3⟩ := vx_keep h0 e1 hS hAX hf hL hF
    obtain ⟨t2, a1, b1⟩ := kx E ce q u t T'.heap (locs ++ L) e1.symm (by rw [← e2]; exact X'.warmed.alike) hp hb k1 k2 k3 (by rw [e1]; exact hce) hcv hcl T' rfl X'
    exact ⟨t2, st.trans a1, b1⟩
theorem vx_calll {S SX : Type} {post : Int64 → S → Prop} {px : SX → Prop} {B : S → State → Prop} {BX : String → SX → State → Prop} {AX : Nat → Prop} (hr : vx_Run p l e R s m args below meth c H locs cells slots mc ms (F0 m pc ls st0) rest (va_Ql post B A1 a) (vx_X px BX AX) free) (hS : va_S A0 H0 H locs) (hA : ∀ q, q < H.size → A1 q → A0 q) (hf : ∀ q, free q → A0 q) (hAX : ∀ q, q < H.size → AX q → A0 q)
    (kx : ∀ (E : String) (ce : Cell) (q9 : Addr) (u : SX) (t : State) (H1 : Heap) (locs1 : List Loc), t.heap = H1 → s.vm.Alike t.vm → px u → BX E u t → H.size ≤ H1.size → (∀ q : Nat, q < H.size → ¬ AX q → H1[q]? = H[q]?) → va_S A0 H0 H1 locs1 → H1[q9]? = some ce → ce.vm = .none → s.vm.findClass E = some ce.cls → vx_W p l e R s m args below meth c H1 locs1 (cells + mc) (slots + ms) Q (F0 m pc ls rest) q9)
    (kk : ∀ (r : Int64) (u : S) (t : State) (H1 : Heap) (locs1 : List Loc), t.heap = H1 → s.vm.Alike t.vm → post r u → B u t → H.size ≤ H1.size → (∀ q : Nat, q < H.size → ¬ A1 q → H1[q]? = H[q]?) → va_S A0 H0 H1 locs1 → W p l e R s m args below meth c H1 locs1 (cells + mc) (slots + ms) Q (F0 m (pc + 3) ls (.long r :: rest))) : W p l e R s m args below meth c H locs cells slots Q (F0 m pc ls st0) := by
  intro T hT X
  rcases hr T hT X with ⟨v, st₀, t, T', L, h0, X', hL, e1, e2, ⟨⟨r, u, hv, hp, hb⟩, hF⟩, st⟩ | ⟨q, st₀, t, T', L, E, ce, h0, X', hL, e1, e2, ⟨u, hp, hb, hF⟩, hce, hcv, hcl, st⟩
  · cases hv
    obtain ⟨k1, k2, k3⟩ := vx_keep h0 e1 hS hA hf hL hF
    obtain ⟨t2, a1, b1⟩ := kk r u t T'.heap (locs ++ L) e1.symm (by rw [← e2]; exact X'.warmed.alike) hp hb k1 k2 k3 T' rfl X'
    exact ⟨t2, st t2 a1, b1⟩
  · obtain ⟨k1, k2, k3⟩ := vx_keep h0 e1 hS hAX hf hL hF
    obtain ⟨t2, a1, b1⟩ := kx E ce q u t T'.heap (locs ++ L) e1.symm (by rw [← e2]; exact X'.warmed.alike) hp hb k1 k2 k3 (by rw [e1]; exact hce) hcv hcl T' rfl X'
    exact ⟨t2, st.trans a1, b1⟩
theorem vx_callf {S SX : Type} {post : UInt32 → S → Prop} {px : SX → Prop} {B : S → State → Prop} {BX : String → SX → State → Prop} {AX : Nat → Prop} (hr : vx_Run p l e R s m args below meth c H locs cells slots mc ms (F0 m pc ls st0) rest (va_Qf post B A1 a) (vx_X px BX AX) free) (hS : va_S A0 H0 H locs) (hA : ∀ q, q < H.size → A1 q → A0 q) (hf : ∀ q, free q → A0 q) (hAX : ∀ q, q < H.size → AX q → A0 q)
    (kx : ∀ (E : String) (ce : Cell) (q9 : Addr) (u : SX) (t : State) (H1 : Heap) (locs1 : List Loc), t.heap = H1 → s.vm.Alike t.vm → px u → BX E u t → H.size ≤ H1.size → (∀ q : Nat, q < H.size → ¬ AX q → H1[q]? = H[q]?) → va_S A0 H0 H1 locs1 → H1[q9]? = some ce → ce.vm = .none → s.vm.findClass E = some ce.cls → vx_W p l e R s m args below meth c H1 locs1 (cells + mc) (slots + ms) Q (F0 m pc ls rest) q9)
    (kk : ∀ (r : UInt32) (u : S) (t : State) (H1 : Heap) (locs1 : List Loc), t.heap = H1 → s.vm.Alike t.vm → post r u → B u t → H.size ≤ H1.size → (∀ q : Nat, q < H.size → ¬ A1 q → H1[q]? = H[q]?) → va_S A0 H0 H1 locs1 → W p l e R s m args below meth c H1 locs1 (cells + mc) (slots + ms) Q (F0 m (pc + 3) ls (.float r :: rest))) : W p l e R s m args below meth c H locs cells slots Q (F0 m pc ls st0) := by
  intro T hT X
  rcases hr T hT X with ⟨v, st₀, t, T', L, h0, X', hL, e1, e2, ⟨⟨r, u, hv, hp, hb⟩, hF⟩, st⟩ | ⟨q, st₀, t, T', L, E, ce, h0, X', hL, e1, e2, ⟨u, hp, hb, hF⟩, hce, hcv, hcl, st⟩
  · cases hv
    obtain ⟨k1, k2, k3⟩ := vx_keep h0 e1 hS hA hf hL hF
    obtain ⟨t2, a1, b1⟩ := kk r u t T'.heap (locs ++ L) e1.symm (by rw [← e2]; exact X'.warmed.alike) hp hb k1 k2 k3 T' rfl X'
    exact ⟨t2, st t2 a1, b1⟩
  · obtain ⟨k1, k2, k3⟩ := vx_keep h0 e1 hS hAX hf hL hF
    obtain ⟨t2, a1, b1⟩ := kx E ce q u t T'.heap (locs ++ L) e1.symm (by rw [← e2]; exact X'.warmed.alike) hp hb k1 k2 k3 (by rw [e1]; exact hce) hcv hcl T' rfl X'
    exact ⟨t2, st.trans a1, b1⟩
theorem vx_calld {S SX : Type} {post : UInt64 → S → Prop} {px : SX → Prop} {B : S → State → Prop} {BX : String → SX → State → Prop} {AX : Nat → Prop} (hr : vx_Run p l e R s m args below meth c H locs cells slots mc ms (F0 m pc ls st0) rest (va_Qd post B A1 a) (vx_X px BX AX) free) (hS : va_S A0 H0 H locs) (hA : ∀ q, q < H.size → A1 q → A0 q) (hf : ∀ q, free q → A0 q) (hAX : ∀ q, q < H.size → AX q → A0 q)
    (kx : ∀ (E : String) (ce : Cell) (q9 : Addr) (u : SX) (t : State) (H1 : Heap) (locs1 : List Loc), t.heap = H1 → s.vm.Alike t.vm → px u → BX E u t → H.size ≤ H1.size → (∀ q : Nat, q < H.size → ¬ AX q → H1[q]? = H[q]?) → va_S A0 H0 H1 locs1 → H1[q9]? = some ce → ce.vm = .none → s.vm.findClass E = some ce.cls → vx_W p l e R s m args below meth c H1 locs1 (cells + mc) (slots + ms) Q (F0 m pc ls rest) q9)
    (kk : ∀ (r : UInt64) (u : S) (t : State) (H1 : Heap) (locs1 : List Loc), t.heap = H1 → s.vm.Alike t.vm → post r u → B u t → H.size ≤ H1.size → (∀ q : Nat, q < H.size → ¬ A1 q → H1[q]? = H[q]?) → va_S A0 H0 H1 locs1 → W p l e R s m args below meth c H1 locs1 (cells + mc) (slots + ms) Q (F0 m (pc + 3) ls (.double r :: rest))) : W p l e R s m args below meth c H locs cells slots Q (F0 m pc ls st0) := by
  intro T hT X
  rcases hr T hT X with ⟨v, st₀, t, T', L, h0, X', hL, e1, e2, ⟨⟨r, u, hv, hp, hb⟩, hF⟩, st⟩ | ⟨q, st₀, t, T', L, E, ce, h0, X', hL, e1, e2, ⟨u, hp, hb, hF⟩, hce, hcv, hcl, st⟩
  · cases hv
    obtain ⟨k1, k2, k3⟩ := vx_keep h0 e1 hS hA hf hL hF
    obtain ⟨t2, a1, b1⟩ := kk r u t T'.heap (locs ++ L) e1.symm (by rw [← e2]; exact X'.warmed.alike) hp hb k1 k2 k3 T' rfl X'
    exact ⟨t2, st t2 a1, b1⟩
  · obtain ⟨k1, k2, k3⟩ := vx_keep h0 e1 hS hAX hf hL hF
    obtain ⟨t2, a1, b1⟩ := kx E ce q u t T'.heap (locs ++ L) e1.symm (by rw [← e2]; exact X'.warmed.alike) hp hb k1 k2 k3 (by rw [e1]; exact hce) hcv hcl T' rfl X'
    exact ⟨t2, st.trans a1, b1⟩
theorem vx_callv {S SX : Type} {post : S → Prop} {px : SX → Prop} {B : S → State → Prop} {BX : String → SX → State → Prop} {AX : Nat → Prop} (hr : vx_Run p l e R s m args below meth c H locs cells slots mc ms (F0 m pc ls st0) rest (va_Qv post B A1 a) (vx_X px BX AX) free) (hS : va_S A0 H0 H locs) (hA : ∀ q, q < H.size → A1 q → A0 q) (hf : ∀ q, free q → A0 q) (hAX : ∀ q, q < H.size → AX q → A0 q)
    (kx : ∀ (E : String) (ce : Cell) (q9 : Addr) (u : SX) (t : State) (H1 : Heap) (locs1 : List Loc), t.heap = H1 → s.vm.Alike t.vm → px u → BX E u t → H.size ≤ H1.size → (∀ q : Nat, q < H.size → ¬ AX q → H1[q]? = H[q]?) → va_S A0 H0 H1 locs1 → H1[q9]? = some ce → ce.vm = .none → s.vm.findClass E = some ce.cls → vx_W p l e R s m args below meth c H1 locs1 (cells + mc) (slots + ms) Q (F0 m pc ls rest) q9)
    (kk : ∀ (u : S) (t : State) (H1 : Heap) (locs1 : List Loc), t.heap = H1 → s.vm.Alike t.vm → post u → B u t → H.size ≤ H1.size → (∀ q : Nat, q < H.size → ¬ A1 q → H1[q]? = H[q]?) → va_S A0 H0 H1 locs1 → W p l e R s m args below meth c H1 locs1 (cells + mc) (slots + ms) Q (F0 m (pc + 3) ls (rest))) : W p l e R s m args below meth c H locs cells slots Q (F0 m pc ls st0) := by
  intro T hT X
  rcases hr T hT X with ⟨v, st₀, t, T', L, h0, X', hL, e1, e2, ⟨⟨u, hv, hp, hb⟩, hF⟩, st⟩ | ⟨q, st₀, t, T', L, E, ce, h0, X', hL, e1, e2, ⟨u, hp, hb, hF⟩, hce, hcv, hcl, st⟩
  · cases hv
    obtain ⟨k1, k2, k3⟩ := vx_keep h0 e1 hS hA hf hL hF
    obtain ⟨t2, a1, b1⟩ := kk u t T'.heap (locs ++ L) e1.symm (by rw [← e2]; exact X'.warmed.alike) hp hb k1 k2 k3 T' rfl X'
    exact ⟨t2, st t2 a1, b1⟩
  · obtain ⟨k1, k2, k3⟩ := vx_keep h0 e1 hS hAX hf hL hF
    obtain ⟨t2, a1, b1⟩ := kx E ce q u t T'.heap (locs ++ L) e1.symm (by rw [← e2]; exact X'.warmed.alike) hp hb k1 k2 k3 (by rw [e1]; exact hce) hcv hcl T' rfl X'
    exact ⟨t2, st.trans a1, b1⟩
/-- caught by the row x of this method's table; the rows ahead don't take it -/
theorem vx_catch {own name : String} {E : String} {ce : Cell} {q : Addr} (hown : s.vm.findClass own = some m.cls) (pre : List ExceptionTableEntry) (x : ExceptionTableEntry) (suf : List ExceptionTableEntry) (hsplit : c.exceptionTable.toList = pre ++ x :: suf)
    (hpass : ∀ z ∈ pre, covers z pc = false ∨ (z.catchType ≠ 0 ∧ ∃ nm : String, (Cond.classLink own z.catchType nm).before args s = true ∧ va_Nc E nm s)) (hx : covers x pc = true) (h0 : x.catchType ≠ 0)
    (hlink : (Cond.classLink own x.catchType name).before args s = true) (hcast : (Cond.castable E name).before args s = true) (hcell : H[q]? = some ce) (hv : ce.vm = .none) (hcl : s.vm.findClass E = some ce.cls)
    (kk : W p l e R s m args below meth c H locs cells slots Q (F0 m x.handlerPc ls [.ref q])) : vx_W p l e R s m args below meth c H locs cells slots Q (F0 m pc ls rest) q := by
  intro T hT X
  have hpl : e.platform.magicAccessors = ({} : Platform).magicAccessors := by rw [X.admits.platform]
  obtain ⟨c3, c4, hc3, hc4, hasg⟩ := Cond.castable_spec hcast
  cases Option.some.inj (hc3.symm.trans hcl)
  obtain ⟨c5, hc5, hcl5⟩ := Cond.classLink_spec hown hlink e.platform hpl
  cases Option.some.inj (hc4.symm.trans hc5)
  obtain ⟨vm', X', st⟩ := X.thenCaughtThrough q (g := F0 m pc ls rest) rfl (Steps.refl _) (by rw [hT]; exact hcell) (by rw [hv]; rfl) (by obtain ⟨k9, h9, -⟩ := Vm.findClass_spec hcl; exact ⟨k9, h9⟩) pre x suf hsplit
    (fun z hz => by
      rcases hpass z hz with h | ⟨hz0, nm, hl1, hn1⟩
      · exact Or.inl h
      · obtain ⟨c6, hc6, hcl6⟩ := Cond.classLink_spec hown hl1 e.platform hpl
        obtain ⟨a8, b8, h1, h2, h3⟩ := hn1
        cases Option.some.inj (h1.symm.trans hcl)
        cases Option.some.inj (h2.symm.trans hc6)
        exact Or.inr ⟨hz0, _, hcl6, h3⟩) hx (Or.inr ⟨h0, c4, hcl5, hasg⟩)
  obtain ⟨t, a1, b1⟩ := kk (T.setVm vm') hT X'
  exact ⟨t, st.trans a1, b1⟩
end Rows
section Ends
variable {p : Program} {l : Launch} {e : Env} {R : Room} {s : State} {m : MethodId} {args : Array Value} {below : List Frame} {meth : Method} {c : Code} {H : Heap} {locs : List Loc} {cells slots : Nat} {Q : State → Prop}
variable {mc ms : Nat} {free : Addr → Prop} {A0 A1 : Nat → Prop} {H0 : Heap} {a : Array Value} {ls : Array Slot} {st0 rest : List Value}
variable {Qc : Array Value → State → Outcome → State → Prop} {XC : String → State → State → Prop}
/-- what a body that may throw owes at its end -/
def vx_MQ (below : List Frame) (Qc : Array Value → State → Outcome → State → Prop) (XC : String → State → State → Prop) (a : Array Value) (s : State) (mc ms : Nat) (free : Addr → Prop) : State → Prop := fun t =>
  ∃ o, t.status = .running ∧ Ended t below o ∧ vx_Q Qc XC mc ms free a s o t
theorem vx_ret {g : JFrame} {mc ms : Nat} (k : W p l e R s m args below meth c H locs cells slots (MQ below Qc args s mc ms free) g) : W p l e R s m args below meth c H locs cells slots (vx_MQ below Qc XC args s mc ms free) g := by
  intro T hT X
  obtain ⟨t, a1, o, b1, b2, b3, b4⟩ := k T hT X
  exact ⟨t, a1, o, b1, b2, Or.inl ⟨b3, b4⟩⟩
/-- not caught here: it goes on to the caller -/
theorem vx_widen {g : JFrame} {q : Addr} {k n : Nat} (h1 : cells ≤ k) (h2 : slots ≤ n) (kk : vx_W p l e R s m args below meth c H locs k n Q g q) : vx_W p l e R s m args below meth c H locs cells slots Q g q := fun T hT X => kk T hT (stand_widen X h1 h2)
theorem vx_out {pc : Nat} {E : String} {ce : Cell} {q : Addr} {mc ms : Nat} (hout : ∀ x ∈ c.exceptionTable.toList, covers x pc = false) (hlocks : meth.locks = false) (hcell : H[q]? = some ce) (hv : ce.vm = .none) (hcl : s.vm.findClass E = some ce.cls)
    (hx : ∀ t : State, t.heap = H → s.vm.Alike t.vm → XC E s t) (hf : ∀ z ∈ locs, free z.base) (hc : cells ≤ mc) (hs : slots ≤ ms) :
    vx_W p l e R s m args below meth c H locs cells slots (vx_MQ below Qc XC args s mc ms free) (F0 m pc ls rest) q := by
  intro T hT X
  obtain ⟨st1, hrun, hend, hW, hsm⟩ := X.leaveThrown q (g := F0 m pc ls rest) rfl rfl rfl hout hlocks
  have hcell9 : (T.setFrames (.throwing q :: below)).heap[q]? = some ce := by
    show T.heap[q]? = some ce
    rw [hT]; exact hcell
  exact ⟨_, st1, .threw q, hrun, hend, Or.inr ⟨q, rfl, E, ce, locs, hx _ hT hW.alike, hcell9, hv, hcl, hW, hsm.mono hc hs, hf⟩⟩
theorem vx_frame {U : State} {k n : Nat} (h : s.sameButNew ({ U with vm := s.vm } : State) locs k n) : s.heap.size ≤ U.heap.size ∧ ∀ q : Nat, q < s.heap.size → (∀ z ∈ locs, z.base ≠ q) → U.heap[q]? = s.heap[q]? := by
  obtain ⟨-, h2, -, -, -, h6⟩ := h
  refine ⟨h2, fun q hq hz => ?_⟩
  obtain ⟨c9, e1, e2, e3, e4⟩ := h6 q _ (Array.getElem?_eq_getElem hq)
  have hs : c9.slots = (s.heap[q]).slots := Array.ext_getElem? fun i => e4 i fun hm => hz _ hm rfl
  have h9 : c9 = s.heap[q] := by
    rw [hs] at e2
    exact e2
  have e5 : U.heap[q]? = some c9 := e1
  rw [e5, h9, Array.getElem?_eq_getElem hq]
/-- the words of a throw but the four that speak of the heap -/
def vx_no (w : Cond) : Bool := decide (w ≠ .isRef (.static Bundle.tN "UNASSIGNED_STACK" Bundle.steD)) && decide (w ≠ .isRef (.static Bundle.tN "SUPPRESSED_SENTINEL" Bundle.listD)) && decide (w ≠ .laysStatic Bundle.tN "UNASSIGNED_STACK" Bundle.steD) && decide (w ≠ .laysStatic Bundle.tN "SUPPRESSED_SENTINEL" Bundle.listD)
def vx_at0 (own : String) (ic : Nat) (X : String) (names : List String) : List Cond := (Bundle.ownAtoms0 own ic X names).filter vx_no
def vx_atS (own : String) (ic : Nat) (X : String) (names : List String) : List Cond := (Bundle.ownAtoms own ic X names).filter vx_no
/-- a word that the tables alone decide, or a good one -/
def vx_ot (w : Cond) : Bool := w.onTables || goodWord w
theorem vx_ot_at {args a' : Array Value} {s U : State} {w : Cond} (hW : s.WarmedH U.vm) (hvm : s.vm = U.vm) (hg : vx_ot w = true) (h : w.before args s = true) : w.before a' U = true := by
  simp only [vx_ot, Bool.or_eq_true] at hg
  rcases hg with hg | hg
  · exact va_tabs hg hvm h
  · exact word_at hW (good_of_word hg) h
/-- a list's words: the good ones out of the method's own list, the others by premises of their own -/
theorem vx_hat {args : Array Value} {s : State} {L B : List Cond} (h1 : ∀ w ∈ L.filter goodWord, w.before args s = true) (h2 : ∀ w ∈ L.filter (fun w => !goodWord w), w ∈ B) (h3 : ∀ w ∈ B, w.before args s = true) : ∀ w ∈ L, w.before args s = true := by
  intro w hw
  by_cases g : goodWord w = true
  · exact h1 w (List.mem_filter.mpr ⟨hw, g⟩)
  · refine h3 w (h2 w (List.mem_filter.mpr ⟨hw, ?_⟩))
    show (!goodWord w) = true
    cases hgw : goodWord w
    · rfl
    · exact absurd hgw g
theorem vx_c {args : Array Value} {s : State} {w : Cond} {B : List Cond} (h : w.before args s = true) (t : ∀ w ∈ B, w.before args s = true) : ∀ w' ∈ w :: B, w'.before args s = true := fun w' h' => (List.mem_cons.mp h').elim (fun e => by rw [e]; exact h) (t w')
theorem vx_n {args : Array Value} {s : State} : ∀ w ∈ ([] : List Cond), w.before args s = true := fun _ h => nomatch h
theorem vx_own {args : Array Value} {s : State} {L : List Cond} (h1 : ∀ w ∈ L.filter vx_no, w.before args s = true)
    (hU : (Cond.isRef (.static Bundle.tN "UNASSIGNED_STACK" Bundle.steD)).before args s = true) (hN : (Cond.isRef (.static Bundle.tN "SUPPRESSED_SENTINEL" Bundle.listD)).before args s = true)
    (lU : (Cond.laysStatic Bundle.tN "UNASSIGNED_STACK" Bundle.steD).before args s = true) (lN : (Cond.laysStatic Bundle.tN "SUPPRESSED_SENTINEL" Bundle.listD).before args s = true) : ∀ w ∈ L, w.before args s = true := by
  intro w hw
  by_cases e1 : w = .isRef (.static Bundle.tN "UNASSIGNED_STACK" Bundle.steD)
  · rw [e1]; exact hU
  · by_cases e2 : w = .isRef (.static Bundle.tN "SUPPRESSED_SENTINEL" Bundle.listD)
    · rw [e2]; exact hN
    · by_cases e3 : w = .laysStatic Bundle.tN "UNASSIGNED_STACK" Bundle.steD
      · rw [e3]; exact lU
      · by_cases e4 : w = .laysStatic Bundle.tN "SUPPRESSED_SENTINEL" Bundle.listD
        · rw [e4]; exact lN
        · exact h1 w (List.mem_filter.mpr ⟨hw, by unfold vx_no; rw [decide_eq_true e1, decide_eq_true e2, decide_eq_true e3, decide_eq_true e4]; rfl⟩)
/-- where a static field lies, its class's statics cell in H -/
def vx_L (C n d : String) (A : Nat → Prop) (U : State) (H : Heap) : Prop := ∃ (c : ClassId) (k : Class) (i : Nat) (f : Field) (a : Nat) (cell : Cell), U.vm.findClass C = some c ∧ U.fieldFound? C n d = some (c, k, i, f) ∧ f.isStatic = true ∧ k.statics = some a ∧ H[a]? = some cell ∧ cell.vm.isStatics = true ∧ cell.cls = c ∧ f.slot < cell.slots.size ∧ k.staticTypes[f.slot]? = some f.type ∧ ¬ A a
theorem vx_L.moved {C n d : String} {A : Nat → Prop} {u U : State} {H : Heap} (hvm : u.vm.Alike U.vm) (h : vx_L C n d A u H) : vx_L C n d A U H := by
  obtain ⟨c, k, i, f, a, cell, h1, h2, h3, h4, h5, h6, h7, h8, h9, h10⟩ := h
  obtain ⟨k', hi', he⟩ := State.fieldFound?_setVm hvm h2
  exact ⟨c, k', i, f, a, cell, by rw [hvm.findClass]; exact h1, hi', h3, by rw [he]; exact h4, h5, h6, h7, h8, by rw [he]; exact h9, h10⟩
theorem vx_L.kept {C n d : String} {A : Nat → Prop} {U : State} {H H1 : Heap} (h : vx_L C n d A U H) (hq : ∀ a : Nat, a < H.size → ¬ A a → H1[a]? = H[a]?) : vx_L C n d A U H1 := by
  obtain ⟨c, k, i, f, a, cell, h1, h2, h3, h4, h5, h6, h7, h8, h9, h10⟩ := h
  exact ⟨c, k, i, f, a, cell, h1, h2, h3, h4, by rw [hq a (Array.getElem?_eq_some_iff.mp h5).1 h10]; exact h5, h6, h7, h8, h9, h10⟩
theorem vx_L.narrow {C n d : String} {A B : Nat → Prop} {U : State} {H : Heap} (h : vx_L C n d A U H) (hAB : ∀ q, B q → A q) : vx_L C n d B U H := by
  obtain ⟨c, k, i, f, a, cell, h1, h2, h3, h4, h5, h6, h7, h8, h9, h10⟩ := h
  exact ⟨c, k, i, f, a, cell, h1, h2, h3, h4, h5, h6, h7, h8, h9, fun z => h10 (hAB _ z)⟩
theorem vx_L.word {C n d : String} {A : Nat → Prop} {s : State} {args : Array Value} (h : vx_L C n d A s s.heap) : (Cond.laysStatic C n d).before args s = true := by
  obtain ⟨c, k, i, f, a, cell, h1, h2, h3, h4, h5, h6, h7, h8, h9, -⟩ := h
  show (Cond.laysStatic C n d).holds args s none s [] = true
  exact Cond.laysStatic_of h1 h2 h3 h4 h5 h6 h7 h8 h9
/-- .. and what it holds: null or some reference -/
def vx_Zq (C n d : String) (A : Nat → Prop) (U : State) (H : Heap) : Prop := va_Zq C n d A U H ∧ vx_L C n d A U H
theorem vx_Zq.moved {C n d : String} {A : Nat → Prop} {u U : State} {H : Heap} (hvm : u.vm.Alike U.vm) (h : vx_Zq C n d A u H) : vx_Zq C n d A U H := ⟨va_Zq.moved hvm h.1, vx_L.moved hvm h.2⟩
theorem vx_Zq.kept {C n d : String} {A : Nat → Prop} {U : State} {H H1 : Heap} (h : vx_Zq C n d A U H) (hq : ∀ a : Nat, a < H.size → ¬ A a → H1[a]? = H[a]?) : vx_Zq C n d A U H1 := ⟨va_Zq.kept h.1 hq, vx_L.kept h.2 hq⟩
theorem vx_Zq.narrow {C n d : String} {A B : Nat → Prop} {U : State} {H : Heap} (h : vx_Zq C n d A U H) (hAB : ∀ q, B q → A q) : vx_Zq C n d B U H := ⟨va_Zq.narrow h.1 hAB, vx_L.narrow h.2 hAB⟩
theorem vx_Zqof {args : Array Value} {s : State} {C n d : String} {A : Nat → Prop} (hl : (Cond.laysStatic C n d).before args s = true) (hini : (Cond.initialized C).before args s = true) (h : (Cond.isRef (.static C n d)).before args s = true) (hA : ∀ a : Nat, a < s.heap.size → ¬ A a) : vx_Zq C n d A s s.heap := by
  refine ⟨va_Zqof hl hini h hA, ?_⟩
  obtain ⟨c, k, i, f, a, cell, h1, h2, h3, h4, h5, h6, h7, h8, h9⟩ := Cond.laysStatic_spec hl
  exact ⟨c, k, i, f, a, cell, h1, h2, h3, h4, h5, h6, h7, h8, h9, hA a (Array.getElem?_eq_some_iff.mp h5).1⟩
theorem vx_isRef {C n d : String} {v : Value} {A : Nat → Prop} {s : State} {args : Array Value} (h : va_Z C n d v A s s.heap) (hv : v.isRef = true) : (Cond.isRef (.static C n d)).before args s = true := by
  obtain ⟨cf, kf, fi, f, a, cell, h1, h2, h3, h4, h5, h6, h7, -⟩ := h
  have he : (Term.static C n d).eval args s none [] s = some v := by
    simp [Term.eval, State.fieldNamed?, h1, h2, h4, h5, h6, h7]
  simp only [Cond.before, Cond.holds, Cond.value, he]
  cases v <;> simp_all [Value.isRef]
theorem vx_isRefq {C n d : String} {A : Nat → Prop} {s : State} {args : Array Value} (h : va_Zq C n d A s s.heap) : (Cond.isRef (.static C n d)).before args s = true := by
  rcases h with h | ⟨t, h⟩
  · exact vx_isRef h rfl
  · exact vx_isRef h rfl
/-- the same frame, seen from here: as if the method were called anew in this heap -/
theorem vx_rebase {T : State} (X : Stand p l e R s m args below meth c T locs cells slots) {R' : Room} (hf : R'.frames ≤ R.frames) (hl : R'.locals ≤ R.locals) (hc : cells + R'.cells ≤ R.cells) (hs : slots + R'.slots ≤ R.slots) :
    Stand p l e R' ((T.setVm s.vm).setFrames (.invoking m args :: below)) m args below meth c T [] 0 0 := by
  have htop : (T.setVm s.vm).topJava?.isSome := X.here.top
  have hF : ((T.setVm s.vm).setFrames (.invoking m args :: below)).frames = .invoking m args :: below := State.frames_setFrames _ (State.cur_lt_of_top htop)
  obtain ⟨g₀, hg0⟩ := Option.isSome_iff_exists.mp htop
  obtain ⟨r, hr⟩ := State.topJava?_eq_some.mp hg0
  have hl9 : e.platform.stackLimits (T.setVm s.vm).me = e.platform.stackLimits s.me := X.limits
  have hb9 : (T.setVm s.vm).me.stackBytes = s.me.stackBytes := X.bytes
  refine ⟨X.admits, X.cas, X.clock, hF, ?_, X.hears, X.method, X.code, X.here, X.tail, X.warmed, ?_, ?_, ?_⟩
  · have h := X.room
    have hU : ((T.setVm s.vm).setFrames (.invoking m args :: below)).localsInUse = s.localsInUse := by
      rw [State.localsInUse_invoking hF (meth := meth) (c := c) X.method X.code, State.localsInUse_invoking X.frames X.method X.code]
    simp only [State.hasRoom, Bool.and_eq_true, decide_eq_true_eq] at h ⊢
    obtain ⟨⟨⟨⟨h1, h2, h3, h4, h5, h6⟩, h7⟩, h8⟩, h9⟩ := h
    rw [X.frames, List.length_cons] at h2 h3
    have q1 := X.heapSize
    have q2 := X.used
    simp only [hF, hU, List.length_cons, State.stackLimits_setFrames, State.stackBytes_setFrames, hl9, hb9]
    refine ⟨⟨⟨⟨by omega, by omega, by omega, by omega, by omega, h6⟩, ?_⟩, ?_⟩, X.book⟩
    · show T.heap.size + R'.cells ≤ e.platform.maxCells
      omega
    · show T.slotsUsed + R'.slots ≤ e.platform.maxSlots
      omega
  · rw [State.stackLimits_setFrames]; rfl
  · rw [State.stackBytes_setFrames]; rfl
  · refine ⟨?_, Nat.le_refl _, Nat.le_refl _, ?_, ?_, fun a c9 h9 => ⟨c9, h9, rfl, rfl, fun _ _ => rfl⟩⟩
    · obtain ⟨t, ht, -⟩ := State.frames_cons hr
      show T.setVm s.vm = { ((T.setVm s.vm).setFrames (.invoking m args :: below)).setFrames (T.setVm s.vm).frames with heap := T.heap, slotsUsed := T.slotsUsed }
      rw [State.setFrames_setFrames, State.setFrames_self ht]
      rfl
    · show T.slotsUsed = T.slotsUsed + ((T.heap.toList.drop T.heap.size).map (·.slots.size)).sum
      rw [List.drop_eq_nil_of_le (Nat.le_of_eq Array.length_toList)]
      rfl
    · show ((T.heap.toList.drop T.heap.size).map (·.slots.size)).sum ≤ 0
      rw [List.drop_eq_nil_of_le (Nat.le_of_eq Array.length_toList)]
      exact Nat.le_refl _
/-- 'throw new E()': new; dup; invokespecial; athrow -/
theorem vx_throw0 {cc : ByteArray} {pc : Nat} (hexec : p.tables.exec = Jvm.exec) (hb : c.code = cc) (hl : l.stackTraces = false) {own cls : String} {names : List String} {ik ic mc ms : Nat} {A : Nat → Prop}
    (hown : s.vm.findClass own = some m.cls) (hcls : Bundle.fit cls = true) (hnames : ∀ n ∈ names, Bundle.fit n = true)
    (hk : (Cond.classLink own ik cls).before args s = true) (hini : (Cond.initialized cls).before args s = true) (hat : ∀ w ∈ vx_at0 own ic cls names, w.before args s = true)
    (hgood : ∀ w ∈ Cond.classLink own ik cls :: Cond.initialized cls :: vx_at0 own ic cls names, vx_ot w = true)
    (hU : vx_Zq Bundle.tN "UNASSIGNED_STACK" Bundle.steD A s s.heap) (hN : vx_Zq Bundle.tN "SUPPRESSED_SENTINEL" Bundle.listD A s s.heap) (hS : va_S A s.heap H locs) (hsize : ls.size = c.maxLocals)
    (d0 : decode cc pc = .ok (.new ik, 3)) (d3 : decode cc (pc + 3) = .ok (.dup, 1)) (d4 : decode cc (pc + 4) = .ok (.invokespecial ic, 3)) (d7 : decode cc (pc + 7) = .ok (.athrow, 1))
    (hout : ∀ x ∈ c.exceptionTable.toList, covers x (pc + 7) = false)
    (hRframes : names.length + 3 < R.frames) (hRlocals : (rest.map fun v => v.category).sum + (13 * (names.length + 1) + 42) ≤ R.locals) (hRcells : cells + 1 ≤ R.cells) (hRslots : slots + 6 ≤ R.slots) (hlocks : meth.locks = false)
    (hx : ∀ t : State, s.vm.Alike t.vm → H.size ≤ t.heap.size → (∀ q : Nat, q < H.size → t.heap[q]? = H[q]?) → XC cls s t)
    (hf : ∀ z ∈ locs, free z.base) (hc : cells + 1 ≤ mc) (hs : slots + 6 ≤ ms) :
    W p l e R s m args below meth c H locs cells slots (vx_MQ below Qc XC args s mc ms free) (F0 m pc ls rest) := by
  intro T hT X
  have htr : e.platform.stackTraces = false := (show e.platform.stackTraces = l.stackTraces by rw [X.admits.platform]).trans hl
  have Y := vx_rebase X (R' := { frames := R.frames, locals := R.locals, cells := 1, slots := 6 }) (Nat.le_refl _) (Nat.le_refl _) hRcells hRslots
  obtain ⟨s', hA⟩ : ∃ z, z = (T.setVm s.vm).setFrames (.invoking m args :: below) := ⟨_, rfl⟩
  rw [← hA] at Y
  have hvm : s'.vm = s.vm := by rw [hA]; rfl
  have hhp : s'.heap = H := by rw [hA]; exact hT
  have hW0 : s.WarmedH s'.vm := by rw [hvm]; exact State.WarmedH.refl s
  have hat' : ∀ w ∈ vx_at0 own ic cls names, w.before args s' = true := fun w hw => vx_ot_at hW0 hvm.symm (hgood w (List.mem_cons_of_mem _ (List.mem_cons_of_mem _ hw))) (hat w hw)
  have hk' : (Cond.classLink own ik cls).before args s' = true := vx_ot_at hW0 hvm.symm (hgood _ List.mem_cons_self) hk
  have hini' : (Cond.initialized cls).before args s' = true := vx_ot_at hW0 hvm.symm (hgood _ (List.mem_cons_of_mem _ List.mem_cons_self)) hini
  have hU' : vx_Zq Bundle.tN "UNASSIGNED_STACK" Bundle.steD A s' s'.heap := by rw [hhp]; exact vx_Zq.moved hW0.alike (hU.kept hS.2.1)
  have hN' : vx_Zq Bundle.tN "SUPPRESSED_SENTINEL" Bundle.listD A s' s'.heap := by rw [hhp]; exact vx_Zq.moved hW0.alike (hN.kept hS.2.1)
  have h : ∀ w ∈ Bundle.ownAtoms0 own ic cls names, w.before args s' = true := vx_own hat' (vx_isRefq hU'.1) (vx_isRefq hN'.1) hU'.2.word hN'.2.word
  have hown' : s'.vm.findClass own = some m.cls := by rw [hvm]; exact hown
  have hins : (Cond.instantiable cls 6).before args s' = true := h _ (by simp [Bundle.ownAtoms0])
  obtain ⟨vm₁, cX, kX, hfX, hkX, -, -, X₁, st1⟩ := Y.newCold hexec (own := own) (C := cls) (index := ik) (n := 6) hown' hk' hins hini'
    (g := F0 m pc ls rest) rfl (by rw [hb]; exact d0) (Nat.le_refl _) (Nat.le_refl _)
  generalize hT1 : (T.setVm vm₁).pushCell { cls := cX, slots := kX.instanceTypes.map defaultValue, vm := .none } = T1 at X₁ st1
  have hcat : (Value.ref T.heap.size).category = 1 := rfl
  have hcellA : T1.heap[T.heap.size]? = some (freshCell cX kX) := by rw [← hT1]; exact State.heap_pushCell_size _ _
  have d3' : decode c.code (pc + 3) = .ok (.dup, 1) := by rw [hb]; exact d3
  obtain ⟨U, hsteps, hrun, hend, hW, hsame, ce, hce, hO⟩ := X₁.ctorThrow0 hexec htr (own := own) (cls := cls) (names := names) (ic := ic) hown' hcls hnames h (fun x hx => nomatch hx) hfX hkX hcellA (by rw [hhp, hT]; exact Nat.le_refl _)
    (g := { method := m, pc := pc + 4, locals := ls, stack := .ref T.heap.size :: .ref T.heap.size :: rest, locked := none }) rfl hsize rfl rfl (rest := rest) rfl
    (by rw [hb]; exact d4) (by rw [hb]; exact d7) hout hRframes (by simp only [List.map_cons, List.sum_cons, hcat]; omega) hlocks
  obtain ⟨f1, f2⟩ := vx_frame hsame
  rw [hhp] at f1 f2
  have hWs : s.WarmedH U.vm := State.WarmedH.trans hW0 hW
  have hcl : s.vm.findClass cls = some ce.cls := by
    have h9 := hO.cls
    rw [hvm] at h9
    exact h9
  have hall : s.sameButNew ({ U with vm := s.vm } : State) locs mc ms := by
    subst hA
    obtain ⟨e1, e2⟩ := hsame
    rw [State.setFrames_setFrames] at e1
    have h2 : (T.setVm s.vm).sameButNew ({ U with vm := s.vm } : State) [] (0 + 1) (0 + 6) := ⟨e1, e2⟩
    have h3 := X.same.trans h2
    rw [List.append_nil] at h3
    exact h3.mono hc hs
  refine ⟨U, ?_, .threw T.heap.size, hrun, hend, Or.inr ⟨T.heap.size, rfl, cls, ce, locs, hx U hWs.alike f1 (fun q hq => f2 q hq (fun z hz => nomatch hz)), hce, hO.vm, hcl, hWs, hall, hf⟩⟩
  refine st1 _ ?_
  show Steps p.tables e below (T1.setTop { method := m, pc := pc + 3, locals := ls, stack := .ref T.heap.size :: rest, locked := none }) _
  jvm_step X₁.here [X₁.here.top, hexec, d3', Value.category]
  exact hsteps
/-- 'throw new E("text")': new; dup; ldc; invokespecial; athrow -/
theorem vx_throwS {cc : ByteArray} {pc : Nat} (hexec : p.tables.exec = Jvm.exec) (hb : c.code = cc) (hl : l.stackTraces = false) {own cls text : String} {names : List String} {ik is ic mc ms sa : Nat} {A : Nat → Prop}
    (hown : s.vm.findClass own = some m.cls) (hcls : Bundle.fit cls = true) (hnames : ∀ n ∈ names, Bundle.fit n = true)
    (hk : (Cond.classLink own ik cls).before args s = true) (hini : (Cond.initialized cls).before args s = true) (hstr : vk_R own is text sa s) (hat : ∀ w ∈ vx_atS own ic cls names, w.before args s = true)
    (hgood : ∀ w ∈ Cond.classLink own ik cls :: Cond.initialized cls :: vx_atS own ic cls names, vx_ot w = true)
    (hU : vx_Zq Bundle.tN "UNASSIGNED_STACK" Bundle.steD A s s.heap) (hN : vx_Zq Bundle.tN "SUPPRESSED_SENTINEL" Bundle.listD A s s.heap) (hS : va_S A s.heap H locs) (hsize : ls.size = c.maxLocals)
    (d0 : decode cc pc = .ok (.new ik, 3)) (d3 : decode cc (pc + 3) = .ok (.dup, 1)) (d4 : decode cc (pc + 4) = .ok (.ldc is, 2)) (d6 : decode cc (pc + 6) = .ok (.invokespecial ic, 3)) (d9 : decode cc (pc + 9) = .ok (.athrow, 1))
    (hout : ∀ x ∈ c.exceptionTable.toList, covers x (pc + 9) = false)
    (hRframes : names.length + 3 < R.frames) (hRlocals : (rest.map fun v => v.category).sum + (13 * (names.length + 1) + 43) ≤ R.locals) (hRcells : cells + 1 ≤ R.cells) (hRslots : slots + 6 ≤ R.slots) (hlocks : meth.locks = false)
    (hx : ∀ t : State, s.vm.Alike t.vm → H.size ≤ t.heap.size → (∀ q : Nat, q < H.size → t.heap[q]? = H[q]?) → XC cls s t)
    (hf : ∀ z ∈ locs, free z.base) (hc : cells + 1 ≤ mc) (hs : slots + 6 ≤ ms) :
    W p l e R s m args below meth c H locs cells slots (vx_MQ below Qc XC args s mc ms free) (F0 m pc ls rest) := by
  intro T hT X
  have htr : e.platform.stackTraces = false := (show e.platform.stackTraces = l.stackTraces by rw [X.admits.platform]).trans hl
  have Y := vx_rebase X (R' := { frames := R.frames, locals := R.locals, cells := 1, slots := 6 }) (Nat.le_refl _) (Nat.le_refl _) hRcells hRslots
  obtain ⟨s', hA⟩ : ∃ z, z = (T.setVm s.vm).setFrames (.invoking m args :: below) := ⟨_, rfl⟩
  rw [← hA] at Y
  have hvm : s'.vm = s.vm := by rw [hA]; rfl
  have hhp : s'.heap = H := by rw [hA]; exact hT
  have hW0 : s.WarmedH s'.vm := by rw [hvm]; exact State.WarmedH.refl s
  have hat' : ∀ w ∈ vx_atS own ic cls names, w.before args s' = true := fun w hw => vx_ot_at hW0 hvm.symm (hgood w (List.mem_cons_of_mem _ (List.mem_cons_of_mem _ hw))) (hat w hw)
  have hk' : (Cond.classLink own ik cls).before args s' = true := vx_ot_at hW0 hvm.symm (hgood _ List.mem_cons_self) hk
  have hini' : (Cond.initialized cls).before args s' = true := vx_ot_at hW0 hvm.symm (hgood _ (List.mem_cons_of_mem _ List.mem_cons_self)) hini
  have hU' : vx_Zq Bundle.tN "UNASSIGNED_STACK" Bundle.steD A s' s'.heap := by rw [hhp]; exact vx_Zq.moved hW0.alike (hU.kept hS.2.1)
  have hN' : vx_Zq Bundle.tN "SUPPRESSED_SENTINEL" Bundle.listD A s' s'.heap := by rw [hhp]; exact vx_Zq.moved hW0.alike (hN.kept hS.2.1)
  have h : ∀ w ∈ Bundle.ownAtoms own ic cls names, w.before args s' = true := vx_own hat' (vx_isRefq hU'.1) (vx_isRefq hN'.1) hU'.2.word hN'.2.word
  have hown' : s'.vm.findClass own = some m.cls := by rw [hvm]; exact hown
  have hins : (Cond.instantiable cls 6).before args s' = true := h _ (by simp [Bundle.ownAtoms])
  obtain ⟨vm₁, cX, kX, hfX, hkX, -, -, X₁, st1⟩ := Y.newCold hexec (own := own) (C := cls) (index := ik) (n := 6) hown' hk' hins hini'
    (g := F0 m pc ls rest) rfl (by rw [hb]; exact d0) (Nat.le_refl _) (Nat.le_refl _)
  generalize hT1 : (T.setVm vm₁).pushCell { cls := cX, slots := kX.instanceTypes.map defaultValue, vm := .none } = T1 at X₁ st1
  have hcat : (Value.ref T.heap.size).category = 1 := rfl
  have hcellA : T1.heap[T.heap.size]? = some (freshCell cX kX) := by rw [← hT1]; exact State.heap_pushCell_size _ _
  have d3' : decode c.code (pc + 3) = .ok (.dup, 1) := by rw [hb]; exact d3
  have d4' : decode c.code (pc + 4) = .ok (.ldc is, 2) := by rw [hb]; exact d4
  have hstr' : vk_R own is text sa s' := vk_R.warm hW0 hstr
  obtain ⟨U, hsteps, hrun, hend, hW, hsame, ce, hce, hO⟩ := X₁.ctorThrowS hexec htr (own := own) (cls := cls) (names := names) (ic := ic) hown' hcls hnames h (fun x hx => nomatch hx) hfX hkX hcellA (by rw [hhp, hT]; exact Nat.le_refl _) (msg := .ref sa) rfl
    (g := { method := m, pc := pc + 6, locals := ls, stack := .ref sa :: .ref T.heap.size :: .ref T.heap.size :: rest, locked := none }) rfl hsize rfl rfl (rest := rest) rfl
    (by rw [hb]; exact d6) (by rw [hb]; exact d9) hout hRframes (by simp only [List.map_cons, List.sum_cons, hcat]; omega) hlocks
  obtain ⟨f1, f2⟩ := vx_frame hsame
  rw [hhp] at f1 f2
  have hWs : s.WarmedH U.vm := State.WarmedH.trans hW0 hW
  have hcl : s.vm.findClass cls = some ce.cls := by
    have h9 := hO.cls
    rw [hvm] at h9
    exact h9
  have hall : s.sameButNew ({ U with vm := s.vm } : State) locs mc ms := by
    subst hA
    obtain ⟨e1, e2⟩ := hsame
    rw [State.setFrames_setFrames] at e1
    have h2 : (T.setVm s.vm).sameButNew ({ U with vm := s.vm } : State) [] (0 + 1) (0 + 6) := ⟨e1, e2⟩
    have h3 := X.same.trans h2
    rw [List.append_nil] at h3
    exact h3.mono hc hs
  refine ⟨U, ?_, .threw T.heap.size, hrun, hend, Or.inr ⟨T.heap.size, rfl, cls, ce, locs, hx U hWs.alike f1 (fun q hq => f2 q hq (fun z hz => nomatch hz)), hce, hO.vm, hcl, hWs, hall, hf⟩⟩
  refine st1 _ ?_
  show Steps p.tables e below (T1.setTop { method := m, pc := pc + 3, locals := ls, stack := .ref T.heap.size :: rest, locked := none }) _
  jvm_step X₁.here [X₁.here.top, hexec, d3', Value.category]
  exact X₁.ldcString hexec (own := own) (text := text) (index := is) (a := sa) hown' hstr'.1 hstr'.2
    (g := { method := m, pc := pc + 4, locals := ls, stack := .ref T.heap.size :: .ref T.heap.size :: rest, locked := none }) rfl d4' _ hsteps
/-- 'throw new E("text")', the text by a wide index -/
theorem vx_throwSW {cc : ByteArray} {pc : Nat} (hexec : p.tables.exec = Jvm.exec) (hb : c.code = cc) (hl : l.stackTraces = false) {own cls text : String} {names : List String} {ik is ic mc ms sa : Nat} {A : Nat → Prop}
    (hown : s.vm.findClass own = some m.cls) (hcls : Bundle.fit cls = true) (hnames : ∀ n ∈ names, Bundle.fit n = true)
    (hk : (Cond.classLink own ik cls).before args s = true) (hini : (Cond.initialized cls).before args s = true) (hstr : vk_R own is text sa s) (hat : ∀ w ∈ vx_atS own ic cls names, w.before args s = true)
    (hgood : ∀ w ∈ Cond.classLink own ik cls :: Cond.initialized cls :: vx_atS own ic cls names, vx_ot w = true)
    (hU : vx_Zq Bundle.tN "UNASSIGNED_STACK" Bundle.steD A s s.heap) (hN : vx_Zq Bundle.tN "SUPPRESSED_SENTINEL" Bundle.listD A s s.heap) (hS : va_S A s.heap H locs) (hsize : ls.size = c.maxLocals)
    (d0 : decode cc pc = .ok (.new ik, 3)) (d3 : decode cc (pc + 3) = .ok (.dup, 1)) (d4 : decode cc (pc + 4) = .ok (.ldc_w is, 3)) (d7 : decode cc (pc + 7) = .ok (.invokespecial ic, 3)) (d10 : decode cc (pc + 10) = .ok (.athrow, 1))
    (hout : ∀ x ∈ c.exceptionTable.toList, covers x (pc + 10) = false)
    (hRframes : names.length + 3 < R.frames) (hRlocals : (rest.map fun v => v.category).sum + (13 * (names.length + 1) + 43) ≤ R.locals) (hRcells : cells + 1 ≤ R.cells) (hRslots : slots + 6 ≤ R.slots) (hlocks : meth.locks = false)
    (hx : ∀ t : State, s.vm.Alike t.vm → H.size ≤ t.heap.size → (∀ q : Nat, q < H.size → t.heap[q]? = H[q]?) → XC cls s t)
    (hf : ∀ z ∈ locs, free z.base) (hc : cells + 1 ≤ mc) (hs : slots + 6 ≤ ms) :
    W p l e R s m args below meth c H locs cells slots (vx_MQ below Qc XC args s mc ms free) (F0 m pc ls rest) := by
  intro T hT X
  have htr : e.platform.stackTraces = false := (show e.platform.stackTraces = l.stackTraces by rw [X.admits.platform]).trans hl
  have Y := vx_rebase X (R' := { frames := R.frames, locals := R.locals, cells := 1, slots := 6 }) (Nat.le_refl _) (Nat.le_refl _) hRcells hRslots
  obtain ⟨s', hA⟩ : ∃ z, z = (T.setVm s.vm).setFrames (.invoking m args :: below) := ⟨_, rfl⟩
  rw [← hA] at Y
  have hvm : s'.vm = s.vm := by rw [hA]; rfl
  have hhp : s'.heap = H := by rw [hA]; exact hT
  have hW0 : s.WarmedH s'.vm := by rw [hvm]; exact State.WarmedH.refl s
  have hat' : ∀ w ∈ vx_atS own ic cls names, w.before args s' = true := fun w hw => vx_ot_at hW0 hvm.symm (hgood w (List.mem_cons_of_mem _ (List.mem_cons_of_mem _ hw))) (hat w hw)
  have hk' : (Cond.classLink own ik cls).before args s' = true := vx_ot_at hW0 hvm.symm (hgood _ List.mem_cons_self) hk
  have hini' : (Cond.initialized cls).before args s' = true := vx_ot_at hW0 hvm.symm (hgood _ (List.mem_cons_of_mem _ List.mem_cons_self)) hini
  have hU' : vx_Zq Bundle.tN "UNASSIGNED_STACK" Bundle.steD A s' s'.heap := by rw [hhp]; exact vx_Zq.moved hW0.alike (hU.kept hS.2.1)
  have hN' : vx_Zq Bundle.tN "SUPPRESSED_SENTINEL" Bundle.listD A s' s'.heap := by rw [hhp]; exact vx_Zq.moved hW0.alike (hN.kept hS.2.1)
  have h : ∀ w ∈ Bundle.ownAtoms own ic cls names, w.before args s' = true := vx_own hat' (vx_isRefq hU'.1) (vx_isRefq hN'.1) hU'.2.word hN'.2.word
  have hown' : s'.vm.findClass own = some m.cls := by rw [hvm]; exact hown
  have hins : (Cond.instantiable cls 6).before args s' = true := h _ (by simp [Bundle.ownAtoms])
  obtain ⟨vm₁, cX, kX, hfX, hkX, -, -, X₁, st1⟩ := Y.newCold hexec (own := own) (C := cls) (index := ik) (n := 6) hown' hk' hins hini'
    (g := F0 m pc ls rest) rfl (by rw [hb]; exact d0) (Nat.le_refl _) (Nat.le_refl _)
  generalize hT1 : (T.setVm vm₁).pushCell { cls := cX, slots := kX.instanceTypes.map defaultValue, vm := .none } = T1 at X₁ st1
  have hcat : (Value.ref T.heap.size).category = 1 := rfl
  have hcellA : T1.heap[T.heap.size]? = some (freshCell cX kX) := by rw [← hT1]; exact State.heap_pushCell_size _ _
  have d3' : decode c.code (pc + 3) = .ok (.dup, 1) := by rw [hb]; exact d3
  have d4' : decode c.code (pc + 4) = .ok (.ldc_w is, 3) := by rw [hb]; exact d4
  have hstr' : vk_R own is text sa s' := vk_R.warm hW0 hstr
  obtain ⟨U, hsteps, hrun, hend, hW, hsame, ce, hce, hO⟩ := X₁.ctorThrowS hexec htr (own := own) (cls := cls) (names := names) (ic := ic) hown' hcls hnames h (fun x hx => nomatch hx) hfX hkX hcellA (by rw [hhp, hT]; exact Nat.le_refl _) (msg := .ref sa) rfl
    (g := { method := m, pc := pc + 7, locals := ls, stack := .ref sa :: .ref T.heap.size :: .ref T.heap.size :: rest, locked := none }) rfl hsize rfl rfl (rest := rest) rfl
    (by rw [hb]; exact d7) (by rw [hb]; exact d10) hout hRframes (by simp only [List.map_cons, List.sum_cons, hcat]; omega) hlocks
  obtain ⟨f1, f2⟩ := vx_frame hsame
  rw [hhp] at f1 f2
  have hWs : s.WarmedH U.vm := State.WarmedH.trans hW0 hW
  have hcl : s.vm.findClass cls = some ce.cls := by
    have h9 := hO.cls
    rw [hvm] at h9
    exact h9
  have hall : s.sameButNew ({ U with vm := s.vm } : State) locs mc ms := by
    subst hA
    obtain ⟨e1, e2⟩ := hsame
    rw [State.setFrames_setFrames] at e1
    have h2 : (T.setVm s.vm).sameButNew ({ U with vm := s.vm } : State) [] (0 + 1) (0 + 6) := ⟨e1, e2⟩
    have h3 := X.same.trans h2
    rw [List.append_nil] at h3
    exact h3.mono hc hs
  refine ⟨U, ?_, .threw T.heap.size, hrun, hend, Or.inr ⟨T.heap.size, rfl, cls, ce, locs, hx U hWs.alike f1 (fun q hq => f2 q hq (fun z hz => nomatch hz)), hce, hO.vm, hcl, hWs, hall, hf⟩⟩
  refine st1 _ ?_
  show Steps p.tables e below (T1.setTop { method := m, pc := pc + 3, locals := ls, stack := .ref T.heap.size :: rest, locked := none }) _
  jvm_step X₁.here [X₁.here.top, hexec, d3', Value.category]
  exact X₁.ldcStringW hexec (own := own) (text := text) (index := is) (a := sa) hown' hstr'.1 hstr'.2
    (g := { method := m, pc := pc + 4, locals := ls, stack := .ref T.heap.size :: .ref T.heap.size :: rest, locked := none }) rfl d4' _ hsteps
end Ends
section Bodies
variable {l : Launch}
theorem vx_ofW {y : MethodName} {ws ws' : List Cond} {rm : Room} {Pc : Array Value → State → Prop} {Qc : Array Value → State → Outcome → State → Prop} {XC : String → State → State → Prop} {mc ms : Nat} {free : Addr → Prop} {cc : ByteArray} {maxL : Nat} {ret : Option FieldType}
    (hy : plainName y.cls = true) (hw : ws = Cond.code y cc maxL ret :: ws')
    (body : ∀ p e s m args below meth c s₁, BodyLoose p l y (headSpec ws rm) cc maxL ret e s m args below meth c s₁ → c.maxLocals = maxL → (∀ x ∈ c.exceptionTable.toList, False) → Pc args s →
      W p l e (headSpec ws rm).room s m args below meth c s.heap [] 0 0 (vx_MQ below Qc XC args s mc ms free) (entryFrame m args maxL)) : vx_Met l y ws rm Pc Qc XC mc ms free := by
  refine MetFree.of_bodyS (code := cc) (maxLocals := maxL) (ret := ret) hy ?_ ?_
  · intro args s m h hn
    obtain ⟨meth, c, h1, h2, h3, h4, h5, h6, -, -⟩ := Cond.code_spec hn (atoms_spec (ws := ws) h _ (by rw [hw]; exact List.mem_cons_self))
    exact ⟨meth, c, h1, h2, h3, h4, h5, h6⟩
  · intro p e s m args below meth c s₁ B hml hP _
    have hh0 : s₁.heap = s.heap := by rw [B.state]; rfl
    have ht : ∀ x ∈ c.exceptionTable.toList, False := by
      obtain ⟨meth9, c9, h1, h2, -, -, -, -, h7, -⟩ := Cond.code_spec B.named (atoms_spec (ws := ws) B.pre _ (by rw [hw]; exact List.mem_cons_self))
      cases Option.some.inj (h1.symm.trans B.method)
      cases Option.some.inj (h2.symm.trans (Stand.of_body B).code)
      intro x hx
      rw [Array.isEmpty_iff.mp h7] at hx
      cases hx
    obtain ⟨t, a1, o, b1, b2, b3⟩ := body p e s m args below meth c s₁ B hml ht hP s₁ hh0 (Stand.of_body B)
    exact ⟨t, o, a1, b1, b2, b3⟩
/-- the table of a body with handlers -/
theorem vx_table {p : Program} {x y : MethodName} {S : Spec} {cc bytes : ByteArray} {maxL maxL' : Nat} {ret ret' : Option FieldType} {e : Env} {s s₁ : State} {m : MethodId} {args : Array Value} {below : List Frame} {meth : Method} {c : Code} {hh : List (Nat × Nat × Nat × Nat)}
    (B : BodyLoose p l y S cc maxL ret e s m args below meth c s₁) (h : (Cond.codeWith y bytes maxL' ret' hh).before args s = true) : c.exceptionTable.toList = tableOf hh := by
  obtain ⟨m9, meth9, c9, hn9, h1, h2, -, -, h6, -⟩ := Cond.codeWith_spec h
  cases Option.some.inj (hn9.symm.trans B.named)
  cases Option.some.inj (h1.symm.trans B.method)
  cases Option.some.inj (h2.symm.trans (Stand.of_body B).code)
  rw [← h6, table_eq]
end Bodies
end VXA
/-! ===== END ===== -/
/-! ===== BEGIN a static call of a method with an exception table ===== -/
section VXS
variable {p : Program} {l : Launch} {e : Env} {R : Room} {s : State} {m : MethodId} {args : Array Value} {below : List Frame} {meth : Method} {c : Code} {T : State} {H : Heap} {locs : List Loc} {cells slots : Nat}
abbrev vx_CSW (R : Room) (s : State) (args : Array Value) (own : String) (index : Nat) (y : MethodName) (bytes : ByteArray) (maxL : Nat) (ret : Option FieldType) (hh : List (Nat × Nat × Nat × Nat)) (ws : List Cond) (rm : Room) (mc ms n : Nat) : Prop :=
  (rm.cells = mc ∧ rm.slots = ms ∧ rm.frames + 1 ≤ R.frames ∧ 8 + (maxL + 11) + rm.locals ≤ R.locals ∧ (∀ w ∈ ws, ∀ (a' : Array Value) (U : State), s.WarmedH U.vm → w.before a' U = true) ∧ Cond.codeWith y bytes maxL ret hh ∈ ws) ∧
  (Cond.codeWith y bytes maxL ret hh).before args s = true ∧ (Cond.initialized y.cls).before args s = true ∧ (y.cls ≠ "java/lang/invoke/MethodHandle" ∧ y.cls ≠ "java/lang/invoke/VarHandle") ∧
  (∀ sig, parseMethodDescriptor y.desc = some sig → n = sig.parameters.length) ∧ (Cond.methodLink own index y).before args s = true ∧ (Cond.static y).before args s = true
theorem vx_cwSW {own : String} {index maxL mc ms : Nat} {y : MethodName} {bytes : ByteArray} {ret : Option FieldType} {hh : List (Nat × Nat × Nat × Nat)} {Ts ws ws' : List Cond} {rm : Room} (n : Nat) (ht : ∀ w ∈ Ts, w.before args s = true) (hT : GoodIn Ts (va_wsS own index y ws)) (hw : ws = Cond.codeWith y bytes maxL ret hh :: ws') (hrc : rm.cells = mc) (hrs : rm.slots = ms)
    (hd : y.cls ≠ "java/lang/invoke/MethodHandle" ∧ y.cls ≠ "java/lang/invoke/VarHandle" ∧ (parseMethodDescriptor y.desc).map (fun d => d.parameters.length) = some n) (hR : rm.frames + 1 ≤ R.frames ∧ 8 + (maxL + 11) + rm.locals ≤ R.locals) :
    vx_CSW R s args own index y bytes maxL ret hh ws rm mc ms n := by
  have ok : ∀ w ∈ va_wsS own index y ws, w.before args s = true := fun w h => ht w (hT w h).1
  have hG : GoodIn Ts ws := fun w h => hT w (by unfold va_wsS; exact List.mem_append_right _ h)
  have hc : Cond.codeWith y bytes maxL ret hh ∈ ws := by rw [hw]; exact List.mem_cons_self
  refine ⟨⟨hrc, hrs, hR.1, hR.2, pay_in ht hG, hc⟩, ht _ (hG _ hc).1, ok _ (by simp [va_wsS]), ⟨hd.1, hd.2.1⟩, fun sig h => ?_, ok _ (by simp [va_wsS]), ok _ (by simp [va_wsS])⟩
  have h2 := hd.2.2
  rw [h] at h2
  exact (Option.some.inj h2).symm
theorem vx_callSW (X : Stand p l e R s m args below meth c T locs cells slots) (hexec : p.tables.exec = Jvm.exec) {own : String} {index : Nat} {y : MethodName} {bytes : ByteArray} {maxL : Nat} {ret : Option FieldType} {hh : List (Nat × Nat × Nat × Nat)}
    (hown : s.vm.findClass own = some m.cls) (hlink : (Cond.methodLink own index y).before args s = true) (hstat : (Cond.static y).before args s = true) (hinit : (Cond.initialized y.cls).before args s = true)
    (hcode : (Cond.codeWith y bytes maxL ret hh).before args s = true) (hy : y.cls ≠ "java/lang/invoke/MethodHandle" ∧ y.cls ≠ "java/lang/invoke/VarHandle")
    {W9 : Nat} {Pre : Pt → Array Value → Prop} {Post : Pt → Array Value → Option Value → Pt → Prop} (hK : Back l R p e below s args y 3 W9 Pre Post)
    {g : JFrame} (hg : g.method = m) (hsize : g.locals.size = c.maxLocals) {argsL rest : List Value} (hlen : ∀ sig, parseMethodDescriptor y.desc = some sig → argsL.length = sig.parameters.length)
    (hstack : g.stack = argsL.reverse ++ rest) (hW : 2 * g.monitorRoom + (rest.map fun v => v.category).sum ≤ W9) (hdg : decode c.code g.pc = .ok (.invokestatic index, 3))
    (hpre : ∀ vm₁, s.WarmedH vm₁ → Pre ⟨T.setVm vm₁, locs, cells, slots⟩ argsL.toArray) :
    ∃ (v : Option Value) (vm₁ : Vm) (B : Pt), s.WarmedH vm₁ ∧ Stand p l e R s m args below meth c B.U B.locs B.cells B.slots ∧ Post ⟨T.setVm vm₁, locs, cells, slots⟩ argsL.toArray v B ∧
      ∀ target, Steps p.tables e below (B.U.setTop { g with pc := g.pc + 3, stack := v.toList ++ rest }) target → Steps p.tables e below (T.setTop g) target := by
  obtain ⟨mk, methM, cM, hnamed, hmethM, -, -, -, -, -, -, hsigM⟩ := Cond.codeWith_spec hcode
  have hstatic : methM.isStatic = true := Cond.static_spec hnamed hmethM hstat
  obtain ⟨kP, hkP, -⟩ := className_of_methodNamed hnamed
  have hinitP : kP.init = .initialized := Cond.initialized_spec (findClass_of_methodNamed hnamed) hkP hinit
  obtain ⟨vm₁, X₁, hstep₁⟩ := X.invokestatic hexec hown hlink hnamed hmethM hstatic hkP hinitP hy (g := g) hg (argsL := argsL) (rest := rest) (hlen _ hsigM) hstack hdg
  obtain ⟨v, B, X', hpost, hsteps⟩ := hK m meth c ⟨T.setVm vm₁, locs, cells, slots⟩ { g with stack := rest } (.invokestatic index) mk argsL.toArray X₁ hg hsize hdg hW (X₁.named hnamed) (hpre vm₁ X₁.warmed)
  exact ⟨v, vm₁, B, X₁.warmed, X', hpost, fun target h => hstep₁ _ fun acts => by rw [doInvoke_state]; exact hsteps.trans h⟩
theorem vx_runSW {y : MethodName} {bytes cc : ByteArray} {maxL nL mc ms n index : Nat} {ret : Option FieldType} {hh : List (Nat × Nat × Nat × Nat)} {ws : List Cond} {rm : Room} {Pc : Array Value → State → Prop} {Qc : Array Value → State → Outcome → State → Prop} {free : Addr → Prop} {Ts : List Cond} {own : String} {As rest : List Value} {g : JFrame}
    (S : CallFix p m c cc nL s args Ts own) (hM : Met l y ws rm Pc Qc mc ms free) (cw : vx_CSW R s args own index y bytes maxL ret hh ws rm mc ms n) (hp : PreS s H Pc As)
    (hg : g.method = m) (hn : As.length = n) (hsize : g.locals.size = nL) (hstack : g.stack = As.reverse ++ rest) (hW : 2 * g.monitorRoom + (rest.map fun v => v.category).sum ≤ 8) (hdg : decode cc g.pc = .ok (.invokestatic index, 3)) (hf : cells + mc ≤ R.cells ∧ slots + ms ≤ R.slots) :
    va_Run p l e R s m args below meth c H locs cells slots mc ms g rest (Qc As.toArray) (free) := by
  obtain ⟨⟨hrc, hrs, hfr, hlo, hws, hcw⟩, hcode, hini, hy, hlen, hl, hstt⟩ := cw
  have hK : Back l R p e below s args y 3 8 (PreOf R mc ms Pc) (PostOf Qc mc ms free) := va_backW (hh := hh) (bytes := bytes) (maxL := maxL) (ret := ret) hM hp.1 hrc hrs hfr hlo hws hcw (fun a' U hW => word_at hW (Or.inl (by first | rfl | simp [Cond.onTables, Cond.keeps, Cond.steady])) hini)
  obtain ⟨hx, hb, hml, ho, -⟩ := S
  intro T hT X
  obtain ⟨v, vm₁, ⟨U', l2, c2, s2⟩, hW₁, X', ⟨g', mk, t, L, e1, e2, hq, h1, hL, h2, h3⟩, st⟩ := vx_callSW X hx (hh := hh) (bytes := bytes) (maxL := maxL) (ret := ret) ho hl hstt hini hcode hy hK hg (hsize.trans hml.symm) (argsL := As) (rest := rest) (fun sig h => hn.trans (hlen sig h)) hstack hW (by rw [hb]; exact hdg)
    (fun vm₁ hW₁ => ⟨hf.1, hf.2, hp.2 (T.setVm vm₁) hT hW₁⟩)
  dsimp only [Pt.U, Pt.locs, Pt.cells, Pt.slots] at X' e1 e2 h1 h2 h3 st
  subst h1; subst h2; subst h3
  exact ⟨v, (T.setVm vm₁).calling g' mk As.toArray, t, U', L, hT, X', hL, e1, e2, hq, st⟩
/-- not caught here, past rows that name other classes: it goes on to the caller -/
theorem vx_outP {p : Program} {l : Launch} {e : Env} {R : Room} {s : State} {m : MethodId} {args : Array Value} {below : List Frame} {meth : Method} {c : Code} {H : Heap} {locs : List Loc} {cells slots : Nat} {free : Addr → Prop} {ls : Array Slot} {rest : List Value} {Qc : Array Value → State → Outcome → State → Prop} {XC : String → State → State → Prop}
    {pc : Nat} {own E : String} {ce : Cell} {q : Addr} {mc ms : Nat} (hown : s.vm.findClass own = some m.cls) (hlocks : meth.locks = false)
    (hpass : ∀ z ∈ c.exceptionTable.toList, covers z pc = false ∨ (z.catchType ≠ 0 ∧ ∃ nm : String, (Cond.classLink own z.catchType nm).before args s = true ∧ va_Nc E nm s)) (hcell : H[q]? = some ce) (hv : ce.vm = .none) (hcl : s.vm.findClass E = some ce.cls)
    (hx : ∀ t : State, t.heap = H → s.vm.Alike t.vm → XC E s t) (hf : ∀ z ∈ locs, free z.base) (hc : cells ≤ mc) (hs : slots ≤ ms) :
    vx_W p l e R s m args below meth c H locs cells slots (vx_MQ below Qc XC args s mc ms free) (F0 m pc ls rest) q := by
  intro T hT X
  have hpl : e.platform.magicAccessors = ({} : Platform).magicAccessors := by rw [X.admits.platform]
  obtain ⟨vm', hW', X', st⟩ := X.outThrough hlocks q (g := F0 m pc ls rest) rfl rfl rfl (cell := ce) (by rw [hT]; exact hcell) (by rw [hv]; rfl)
    (by obtain ⟨k9, h9, -⟩ := Vm.findClass_spec hcl; exact ⟨k9, h9⟩) (fun z hz => by
      rcases hpass z hz with h | ⟨hz0, nm, hl1, hn1⟩
      · exact Or.inl h
      · obtain ⟨c6, hc6, hcl6⟩ := Cond.classLink_spec hown hl1 e.platform hpl
        obtain ⟨a8, b8, h1, h2, h3⟩ := hn1
        cases Option.some.inj (h1.symm.trans hcl)
        cases Option.some.inj (h2.symm.trans hc6)
        exact Or.inr ⟨hz0, _, hcl6, h3⟩)
  obtain ⟨g₀, hfr⟩ := X'.frames_eq
  have hcell9 : ((T.setVm vm').setFrames (.throwing q :: below)).heap[q]? = some ce := by
    show T.heap[q]? = some ce
    rw [hT]; exact hcell
  have hend : Ended ((T.setVm vm').setFrames (.throwing q :: below)) below (.threw q) := State.frames_setFrames _ (State.cur_lt_of_frames hfr)
  refine ⟨(T.setVm vm').setFrames (.throwing q :: below), ?_, .threw q, X'.here.running, hend, Or.inr ⟨q, rfl, E, ce, locs, hx _ hT (X'.ends _).1.alike, hcell9, hv, hcl, (X'.ends _).1, (X'.ends _).2.mono hc hs, hf⟩⟩
  rw [X.pushThrowing_eq]
  exact st
/-- a thing of a world lies in the heap -/
theorem vx_lt {D : va_G} {cl : List vw_C} {ws : va_W} {H1 : Heap} (h : va_P D cl ws H1) {k : Nat} {q : Nat × va_E} (hk : ws[k]? = some q) : q.1 < H1.size := (h k q hk).lt
end VXS
/-! ===== END ===== -/
/-! ===== BEGIN methods with a table of their own: called by a name, returning or throwing ===== -/
section VXH
/-! vx_backW, vx_callVX, vx_callSX, vx_callVW, vx_runVW, vx_runVX, vx_runSX, vx_ofWH follow the same proofs as their sisters above (Free/Laws.lean, Shelf42/LK1.lean); vx_outP calls Shelf42/NT130.lean (outThrough). -/
section
variable {l : Launch} {R : Room} {p : Program} {e : Env} {below : List Frame} {s : State} {sargs : Array Value} {y : MethodName} {len W9 : Nat}
theorem vx_backW {ws : List Cond} {rm : Room} {Pc : Array Value → State → Prop} {Qc : Array Value → State → Outcome → State → Prop} {XC : String → State → State → Prop} {mc ms : Nat} {free : Addr → Prop} {bytes : ByteArray} {maxL : Nat} {ret : Option FieldType} {hh : List (Nat × Nat × Nat × Nat)}
    (hM : vx_Met l y ws rm Pc Qc XC mc ms free) (hblind : FrameBlind Pc) (hrc : rm.cells = mc) (hrs : rm.slots = ms)
    (hframes : rm.frames + 1 ≤ R.frames) (hlocals : W9 + (maxL + 11) + rm.locals ≤ R.locals)
    (hws : ∀ w ∈ ws, ∀ a' U, s.WarmedH U.vm → w.before a' U = true) (hcode : Cond.codeWith y bytes maxL ret hh ∈ ws) (hinit : ∀ a' U, s.WarmedH U.vm → (Cond.initialized y.cls).before a' U = true) :
    vx_Back l R p e below s sargs y len W9 (PreOf R mc ms Pc) (PostOf Qc mc ms free) (vx_Post XC mc ms free) := by
  intro m meth c A g ig mk a X hg hsize hdg hW hn hp
  have h1 : (headSpec ws rm).pre.before a A.U = true := atoms_intro fun w hw => hws w hw _ _ X.warmed
  have h2 : (Cond.codeWith y bytes maxL ret hh).before a A.U = true := hws _ hcode _ _ X.warmed
  have h3 : (Cond.initialized y.cls).before a A.U = true := hinit _ _ X.warmed
  have h4 : A.cells + (headSpec ws rm).room.cells ≤ R.cells := by rw [show (headSpec ws rm).room.cells = mc from hrc]; exact hp.1
  have h5 : A.slots + (headSpec ws rm).room.slots ≤ R.slots := by rw [show (headSpec ws rm).room.slots = ms from hrs]; exact hp.2.1
  have hPc : Pc a (A.U.calling g mk a) := hblind _ _ _ _ hp.2.2
  obtain ⟨U, Ls, c0, s0⟩ := A
  dsimp only [Pt.U, Pt.locs, Pt.cells, Pt.slots] at h1 h2 h3 h4 h5 X hn hPc ⊢
  obtain ⟨m9, methY, cY, hn9, hmY, hcY, -, hlY, -⟩ := Cond.codeWith_spec h2
  cases Option.some.inj (hn9.symm.trans hn)
  obtain ⟨kY, hkY, -⟩ := className_of_methodNamed hn
  have hinitY : kY.init = .initialized := Cond.initialized_spec (findClass_of_methodNamed hn) hkY h3
  have h : At U g.method c below := by rw [hg]; exact X.here
  have hlocals9 : W9 + (maxL + 11) + (headSpec ws rm).room.locals ≤ R.locals := hlocals
  have happ : (headSpec ws rm).appliesLoose y e.platform (U.calling g mk a) = true :=
    Spec.appliesLoose_calling (g := g) h hdg hn hkY hinitY
      (X.room_calling (g := g) (R' := (headSpec ws rm).room) hsize hmY hcY hframes (by rw [hlY]; omega) h4 h5) h1
  obtain ⟨mid, hmid⟩ := h.above
  have hfr : (U.setTop g).frames = (.java g :: mid) ++ below := by rw [State.frames_setTop' g h.top, hmid]; rfl
  obtain ⟨o, s₂, hsteps, -, hend, hq⟩ := Steps.callFree hM p X.admits X.cas X.clock (acts := []) hfr happ hPc trivial
  have hq' : vx_Q Qc XC mc ms free a (U.calling g mk a) o s₂ := hq
  rw [State.frames_setTop' g h.top] at hend
  obtain ⟨g₀, hg0⟩ := Option.isSome_iff_exists.mp h.top
  obtain ⟨r, hr⟩ := State.topJava?_eq_some.mp hg0
  have hr' : (({ U with heap := s₂.heap, slotsUsed := s₂.slotsUsed } : State).setVm s₂.vm).frames = .java g₀ :: r := hr
  rcases hq' with ⟨hqc, L, hfe, hL⟩ | ⟨q, rfl, E, ce, L, hx, hce, hcv, hcl, hW₂, hsm, hL⟩
  · obtain ⟨⟨v, rfl⟩, hW₂, e2, q2, q3, q4, q5, q6⟩ := id hfe
    have e3 : s₂ = ({ (U.calling g mk a).setFrames s₂.frames with heap := s₂.heap, slotsUsed := s₂.slotsUsed } : State).setVm s₂.vm := by
      have : s₂ = ({ s₂ with vm := (U.calling g mk a).vm } : State).setVm s₂.vm := rfl
      rw [e2] at this
      exact this
    obtain ⟨c₂, i₂, len₂, hc₂, hd₂, hf₂⟩ := hend
    have hW' : U.WarmedH s₂.vm := hW₂
    have hcc : c₂ = c := by
      have h1 : s₂.code? g.method = U.code? g.method := by
        rw [State.code?_eq, State.code?_eq, hW'.alike.method?]
      exact Option.some.inj (hc₂.symm.trans (h1.trans h.code))
    subst hcc
    have hlen : len₂ = len := by rw [hdg] at hd₂; cases hd₂; rfl
    subst hlen
    have hs₂ : s₂ = (({ U with heap := s₂.heap, slotsUsed := s₂.slotsUsed } : State).setVm s₂.vm).setTop { g with pc := g.pc + len₂, stack := v.toList ++ g.stack } := by
      refine e3.trans ?_
      rw [hf₂, State.calling_eq h.top, State.setFrames_setFrames, State.setTop_of_frames _ hr', hr]
      rfl
    have hsame : U.sameButNew ({ U with heap := s₂.heap, slotsUsed := s₂.slotsUsed } : State) L mc ms := by
      refine ⟨?_, q2, q3, q4, q5, q6⟩
      obtain ⟨t, ht, -⟩ := State.frames_cons hr
      show ({ U with heap := s₂.heap, slotsUsed := s₂.slotsUsed } : State) = { U.setFrames U.frames with heap := s₂.heap, slotsUsed := s₂.slotsUsed }
      rw [State.setFrames_self ht]
    subst hg
    refine Or.inl ⟨v, ⟨(({ U with heap := s₂.heap, slotsUsed := s₂.slotsUsed } : State).setVm s₂.vm), Ls ++ L, c0 + mc, s0 + ms⟩,
      ⟨X.admits, X.cas, X.clock, X.frames, X.room, X.hears, X.method, X.code, (X.here.setHeapUsed s₂.heap s₂.slotsUsed).setVm hW'.alike, X.tail, State.WarmedH.trans X.warmed hW', X.limits, X.bytes, X.same.trans (hsame.setVm s.vm)⟩,
      ⟨g, mk, s₂, L, rfl, rfl, hqc, rfl, hL, rfl, rfl⟩, ?_⟩
    show Steps p.tables e below _ ((({ U with heap := s₂.heap, slotsUsed := s₂.slotsUsed } : State).setVm s₂.vm).setTop { g with pc := g.pc + len₂, stack := v.toList ++ g.stack })
    rw [← hs₂]
    exact hsteps
  · obtain ⟨e2, q2, q3, q4, q5, q6⟩ := id hsm
    have e3 : s₂ = ({ (U.calling g mk a).setFrames s₂.frames with heap := s₂.heap, slotsUsed := s₂.slotsUsed } : State).setVm s₂.vm := by
      have : s₂ = ({ s₂ with vm := (U.calling g mk a).vm } : State).setVm s₂.vm := rfl
      rw [e2] at this
      exact this
    have hf₂ : s₂.frames = .throwing q :: .java g :: U.frames.tail := hend
    have hW' : U.WarmedH s₂.vm := hW₂
    have hs₂ : s₂ = ((({ U with heap := s₂.heap, slotsUsed := s₂.slotsUsed } : State).setVm s₂.vm).setTop g).pushFrame (.throwing q) := by
      refine e3.trans ?_
      rw [hf₂, State.calling_eq h.top, State.setFrames_setFrames, State.pushFrame, State.frames_setTop _ hr', State.setTop_of_frames _ hr', State.setFrames_setFrames, hr]
      rfl
    have hsame : U.sameButNew ({ U with heap := s₂.heap, slotsUsed := s₂.slotsUsed } : State) L mc ms := by
      refine ⟨?_, q2, q3, q4, q5, q6⟩
      obtain ⟨t, ht, -⟩ := State.frames_cons hr
      show ({ U with heap := s₂.heap, slotsUsed := s₂.slotsUsed } : State) = { U.setFrames U.frames with heap := s₂.heap, slotsUsed := s₂.slotsUsed }
      rw [State.setFrames_self ht]
    subst hg
    refine Or.inr ⟨q, ⟨(({ U with heap := s₂.heap, slotsUsed := s₂.slotsUsed } : State).setVm s₂.vm), Ls ++ L, c0 + mc, s0 + ms⟩,
      ⟨X.admits, X.cas, X.clock, X.frames, X.room, X.hears, X.method, X.code, (X.here.setHeapUsed s₂.heap s₂.slotsUsed).setVm hW'.alike, X.tail, State.WarmedH.trans X.warmed hW', X.limits, X.bytes, X.same.trans (hsame.setVm s.vm)⟩,
      ⟨g, mk, s₂, L, E, ce, rfl, rfl, hx, hce, hcv, hcl, rfl, hL, rfl, rfl⟩, ?_⟩
    show Steps p.tables e below _ (((({ U with heap := s₂.heap, slotsUsed := s₂.slotsUsed } : State).setVm s₂.vm).setTop g).pushFrame (.throwing q))
    rw [← hs₂]
    exact hsteps
end
variable {p : Program} {l : Launch} {e : Env} {R : Room} {s : State} {m : MethodId} {args : Array Value} {below : List Frame} {meth : Method} {c : Code} {T : State} {H : Heap} {locs : List Loc} {cells slots : Nat}
theorem vx_callVX (X : Stand p l e R s m args below meth c T locs cells slots) (hexec : p.tables.exec = Jvm.exec) {own C : String} {index : Nat} {y : MethodName} {bytes : ByteArray} {maxL : Nat} {ret : Option FieldType} {hh : List (Nat × Nat × Nat × Nat)}
    (hown : s.vm.findClass own = some m.cls) (hlink : (Cond.methodLink own index y).before args s = true) (hinst : (Cond.instanceMethod y).before args s = true) (hsel : (Cond.selects C y y).before args s = true)
    (hcode : (Cond.codeWith y bytes maxL ret hh).before args s = true) (hy : y.cls ≠ "java/lang/invoke/MethodHandle" ∧ y.cls ≠ "java/lang/invoke/VarHandle")
    {W9 : Nat} {Pre : Pt → Array Value → Prop} {Post : Pt → Array Value → Option Value → Pt → Prop} {PostX : Pt → Array Value → Addr → Pt → Prop} (hK : vx_Back l R p e below s args y 3 W9 Pre Post PostX)
    {b : Addr} {cellB : Cell} (hcell : T.heap[b]? = some cellB) (hobj : cellB.vm.isStatics = false) (hcls : s.vm.findClass C = some cellB.cls)
    {g : JFrame} (hg : g.method = m) (hsize : g.locals.size = c.maxLocals) {argsL rest : List Value} (hlen : ∀ sig, parseMethodDescriptor y.desc = some sig → argsL.length = sig.parameters.length)
    (hstack : g.stack = argsL.reverse ++ .ref b :: rest) (hW : 2 * g.monitorRoom + (rest.map fun v => v.category).sum ≤ W9) (hdg : decode c.code g.pc = .ok (.invokevirtual index, 3))
    (hpre : ∀ vm₁, s.WarmedH vm₁ → Pre ⟨T.setVm vm₁, locs, cells, slots⟩ (Value.ref b :: argsL).toArray) :
    (∃ (v : Option Value) (vm₁ : Vm) (B : Pt), s.WarmedH vm₁ ∧ Stand p l e R s m args below meth c B.U B.locs B.cells B.slots ∧ Post ⟨T.setVm vm₁, locs, cells, slots⟩ (Value.ref b :: argsL).toArray v B ∧
      ∀ target, Steps p.tables e below (B.U.setTop { g with pc := g.pc + 3, stack := v.toList ++ rest }) target → Steps p.tables e below (T.setTop g) target) ∨
    (∃ (q : Addr) (vm₁ : Vm) (B : Pt), s.WarmedH vm₁ ∧ Stand p l e R s m args below meth c B.U B.locs B.cells B.slots ∧ PostX ⟨T.setVm vm₁, locs, cells, slots⟩ (Value.ref b :: argsL).toArray q B ∧
      Steps p.tables e below (T.setTop g) ((B.U.setTop { g with stack := rest }).pushFrame (.throwing q))) := by
  obtain ⟨mk, methM, hnamed, hmethM, hstM, habM⟩ := Cond.instanceMethod_spec hinst
  obtain ⟨m8, methM', cM, hn8, hmethM', -, -, -, -, -, -, hsigM⟩ := Cond.codeWith_spec hcode
  cases Option.some.inj (hn8.symm.trans hnamed)
  cases hmethM.symm.trans hmethM'
  obtain ⟨c2, r2, m2, q1, q2, q3, q4, kP, hkP, hkPi⟩ := Cond.selects_spec hsel
  cases hcls.symm.trans q1
  cases (State.methodFound?_of_named hnamed hy).symm.trans q2
  cases hnamed.symm.trans q3
  have hselP : selectMethod e.platform s.vm cellB.cls mk = .method mk := by rw [Launch.admits_selectMethod X.admits]; exact q4
  obtain ⟨vm₁, X₁, hstep₁⟩ := X.invokevirtual hexec hown hlink hnamed hmethM hstM hkP hkPi hy (a := b) (cell := cellB) hcell
    (fun z h => by rw [h] at hobj; cases hobj) hselP hmethM habM hkP hkPi (g := g) hg (argsL := argsL) (rest := rest) (hlen _ hsigM) hstack hdg
  rcases hK m meth c ⟨T.setVm vm₁, locs, cells, slots⟩ { g with stack := rest } (.invokevirtual index) mk (Value.ref b :: argsL).toArray X₁ hg hsize hdg hW (X₁.named hnamed) (hpre vm₁ X₁.warmed) with ⟨v, B, X', hpost, hsteps⟩ | ⟨q, B, X', hpost, hsteps⟩
  · exact Or.inl ⟨v, vm₁, B, X₁.warmed, X', hpost, fun target h => hstep₁ _ fun acts => by rw [doInvoke_state]; exact hsteps.trans h⟩
  · exact Or.inr ⟨q, vm₁, B, X₁.warmed, X', hpost, hstep₁ _ fun acts => by rw [doInvoke_state]; exact hsteps⟩
theorem vx_callSX (X : Stand p l e R s m args below meth c T locs cells slots) (hexec : p.tables.exec = Jvm.exec) {own : String} {index : Nat} {y : MethodName} {bytes : ByteArray} {maxL : Nat} {ret : Option FieldType} {hh : List (Nat × Nat × Nat × Nat)}
    (hown : s.vm.findClass own = some m.cls) (hlink : (Cond.methodLink own index y).before args s = true) (hstat : (Cond.static y).before args s = true) (hinit : (Cond.initialized y.cls).before args s = true)
    (hcode : (Cond.codeWith y bytes maxL ret hh).before args s = true) (hy : y.cls ≠ "java/lang/invoke/MethodHandle" ∧ y.cls ≠ "java/lang/invoke/VarHandle")
    {W9 : Nat} {Pre : Pt → Array Value → Prop} {Post : Pt → Array Value → Option Value → Pt → Prop} {PostX : Pt → Array Value → Addr → Pt → Prop} (hK : vx_Back l R p e below s args y 3 W9 Pre Post PostX)
    {g : JFrame} (hg : g.method = m) (hsize : g.locals.size = c.maxLocals) {argsL rest : List Value} (hlen : ∀ sig, parseMethodDescriptor y.desc = some sig → argsL.length = sig.parameters.length)
    (hstack : g.stack = argsL.reverse ++ rest) (hW : 2 * g.monitorRoom + (rest.map fun v => v.category).sum ≤ W9) (hdg : decode c.code g.pc = .ok (.invokestatic index, 3))
    (hpre : ∀ vm₁, s.WarmedH vm₁ → Pre ⟨T.setVm vm₁, locs, cells, slots⟩ argsL.toArray) :
    (∃ (v : Option Value) (vm₁ : Vm) (B : Pt), s.WarmedH vm₁ ∧ Stand p l e R s m args below meth c B.U B.locs B.cells B.slots ∧ Post ⟨T.setVm vm₁, locs, cells, slots⟩ argsL.toArray v B ∧
      ∀ target, Steps p.tables e below (B.U.setTop { g with pc := g.pc + 3, stack := v.toList ++ rest }) target → Steps p.tables e below (T.setTop g) target) ∨
    (∃ (q : Addr) (vm₁ : Vm) (B : Pt), s.WarmedH vm₁ ∧ Stand p l e R s m args below meth c B.U B.locs B.cells B.slots ∧ PostX ⟨T.setVm vm₁, locs, cells, slots⟩ argsL.toArray q B ∧
      Steps p.tables e below (T.setTop g) ((B.U.setTop { g with stack := rest }).pushFrame (.throwing q))) := by
  obtain ⟨mk, methM, cM, hnamed, hmethM, -, -, -, -, -, -, hsigM⟩ := Cond.codeWith_spec hcode
  have hstatic : methM.isStatic = true := Cond.static_spec hnamed hmethM hstat
  obtain ⟨kP, hkP, -⟩ := className_of_methodNamed hnamed
  have hinitP : kP.init = .initialized := Cond.initialized_spec (findClass_of_methodNamed hnamed) hkP hinit
  obtain ⟨vm₁, X₁, hstep₁⟩ := X.invokestatic hexec hown hlink hnamed hmethM hstatic hkP hinitP hy (g := g) hg (argsL := argsL) (rest := rest) (hlen _ hsigM) hstack hdg
  rcases hK m meth c ⟨T.setVm vm₁, locs, cells, slots⟩ { g with stack := rest } (.invokestatic index) mk argsL.toArray X₁ hg hsize hdg hW (X₁.named hnamed) (hpre vm₁ X₁.warmed) with ⟨v, B, X', hpost, hsteps⟩ | ⟨q, B, X', hpost, hsteps⟩
  · exact Or.inl ⟨v, vm₁, B, X₁.warmed, X', hpost, fun target h => hstep₁ _ fun acts => by rw [doInvoke_state]; exact hsteps.trans h⟩
  · exact Or.inr ⟨q, vm₁, B, X₁.warmed, X', hpost, hstep₁ _ fun acts => by rw [doInvoke_state]; exact hsteps⟩
theorem vx_callVW (X : Stand p l e R s m args below meth c T locs cells slots) (hexec : p.tables.exec = Jvm.exec) {own C : String} {index : Nat} {y : MethodName} {bytes : ByteArray} {maxL : Nat} {ret : Option FieldType} {hh : List (Nat × Nat × Nat × Nat)}
    (hown : s.vm.findClass own = some m.cls) (hlink : (Cond.methodLink own index y).before args s = true) (hinst : (Cond.instanceMethod y).before args s = true) (hsel : (Cond.selects C y y).before args s = true)
    (hcode : (Cond.codeWith y bytes maxL ret hh).before args s = true) (hy : y.cls ≠ "java/lang/invoke/MethodHandle" ∧ y.cls ≠ "java/lang/invoke/VarHandle")
    {W9 : Nat} {Pre : Pt → Array Value → Prop} {Post : Pt → Array Value → Option Value → Pt → Prop} (hK : Back l R p e below s args y 3 W9 Pre Post)
    {b : Addr} {cellB : Cell} (hcell : T.heap[b]? = some cellB) (hobj : cellB.vm.isStatics = false) (hcls : s.vm.findClass C = some cellB.cls)
    {g : JFrame} (hg : g.method = m) (hsize : g.locals.size = c.maxLocals) {argsL rest : List Value} (hlen : ∀ sig, parseMethodDescriptor y.desc = some sig → argsL.length = sig.parameters.length)
    (hstack : g.stack = argsL.reverse ++ .ref b :: rest) (hW : 2 * g.monitorRoom + (rest.map fun v => v.category).sum ≤ W9) (hdg : decode c.code g.pc = .ok (.invokevirtual index, 3))
    (hpre : ∀ vm₁, s.WarmedH vm₁ → Pre ⟨T.setVm vm₁, locs, cells, slots⟩ (Value.ref b :: argsL).toArray) :
    ∃ (v : Option Value) (vm₁ : Vm) (B : Pt), s.WarmedH vm₁ ∧ Stand p l e R s m args below meth c B.U B.locs B.cells B.slots ∧ Post ⟨T.setVm vm₁, locs, cells, slots⟩ (Value.ref b :: argsL).toArray v B ∧
      ∀ target, Steps p.tables e below (B.U.setTop { g with pc := g.pc + 3, stack := v.toList ++ rest }) target → Steps p.tables e below (T.setTop g) target := by
  obtain ⟨mk, methM, hnamed, hmethM, hstM, habM⟩ := Cond.instanceMethod_spec hinst
  obtain ⟨m8, methM', cM, hn8, hmethM', -, -, -, -, -, -, hsigM⟩ := Cond.codeWith_spec hcode
  cases Option.some.inj (hn8.symm.trans hnamed)
  cases hmethM.symm.trans hmethM'
  obtain ⟨c2, r2, m2, q1, q2, q3, q4, kP, hkP, hkPi⟩ := Cond.selects_spec hsel
  cases hcls.symm.trans q1
  cases (State.methodFound?_of_named hnamed hy).symm.trans q2
  cases hnamed.symm.trans q3
  have hselP : selectMethod e.platform s.vm cellB.cls mk = .method mk := by rw [Launch.admits_selectMethod X.admits]; exact q4
  obtain ⟨vm₁, X₁, hstep₁⟩ := X.invokevirtual hexec hown hlink hnamed hmethM hstM hkP hkPi hy (a := b) (cell := cellB) hcell
    (fun z h => by rw [h] at hobj; cases hobj) hselP hmethM habM hkP hkPi (g := g) hg (argsL := argsL) (rest := rest) (hlen _ hsigM) hstack hdg
  obtain ⟨v, B, X', hpost, hsteps⟩ := hK m meth c ⟨T.setVm vm₁, locs, cells, slots⟩ { g with stack := rest } (.invokevirtual index) mk (Value.ref b :: argsL).toArray X₁ hg hsize hdg hW (X₁.named hnamed) (hpre vm₁ X₁.warmed)
  exact ⟨v, vm₁, B, X₁.warmed, X', hpost, fun target h => hstep₁ _ fun acts => by rw [doInvoke_state]; exact hsteps.trans h⟩
abbrev vx_CVW (R : Room) (s : State) (args : Array Value) (own C : String) (index : Nat) (y : MethodName) (bytes : ByteArray) (maxL : Nat) (ret : Option FieldType) (hh : List (Nat × Nat × Nat × Nat)) (ws : List Cond) (rm : Room) (mc ms n : Nat) : Prop :=
  (rm.cells = mc ∧ rm.slots = ms ∧ rm.frames + 1 ≤ R.frames ∧ 8 + (maxL + 11) + rm.locals ≤ R.locals ∧ (∀ w ∈ ws, ∀ (a' : Array Value) (U : State), s.WarmedH U.vm → w.before a' U = true) ∧ Cond.codeWith y bytes maxL ret hh ∈ ws) ∧
  (Cond.codeWith y bytes maxL ret hh).before args s = true ∧ (Cond.initialized y.cls).before args s = true ∧ (y.cls ≠ "java/lang/invoke/MethodHandle" ∧ y.cls ≠ "java/lang/invoke/VarHandle") ∧
  (∀ sig, parseMethodDescriptor y.desc = some sig → n = sig.parameters.length) ∧ (Cond.methodLink own index y).before args s = true ∧ (Cond.instanceMethod y).before args s = true ∧ (Cond.selects C y y).before args s = true
theorem vx_cwVW {own C : String} {index maxL mc ms : Nat} {y : MethodName} {bytes : ByteArray} {ret : Option FieldType} {hh : List (Nat × Nat × Nat × Nat)} {Ts ws ws' : List Cond} {rm : Room} (n : Nat) (ht : ∀ w ∈ Ts, w.before args s = true) (hT : GoodIn Ts (wsV own index C y ws)) (hw : ws = Cond.codeWith y bytes maxL ret hh :: ws') (hrc : rm.cells = mc) (hrs : rm.slots = ms)
    (hd : y.cls = C ∧ y.cls ≠ "java/lang/invoke/MethodHandle" ∧ y.cls ≠ "java/lang/invoke/VarHandle" ∧ (parseMethodDescriptor y.desc).map (fun d => d.parameters.length) = some n) (hR : rm.frames + 1 ≤ R.frames ∧ 8 + (maxL + 11) + rm.locals ≤ R.locals) :
    vx_CVW R s args own C index y bytes maxL ret hh ws rm mc ms n := by
  obtain ⟨hC, hd⟩ := hd
  subst hC
  have ok : ∀ w ∈ wsV own index y.cls y ws, w.before args s = true := fun w h => ht w (hT w h).1
  have hG : GoodIn Ts ws := fun w h => hT w (by unfold wsV; exact List.mem_append_right _ h)
  have hc : Cond.codeWith y bytes maxL ret hh ∈ ws := by rw [hw]; exact List.mem_cons_self
  refine ⟨⟨hrc, hrs, hR.1, hR.2, pay_in ht hG, hc⟩, ht _ (hG _ hc).1, ok _ (by simp [wsV]), ⟨hd.1, hd.2.1⟩, fun sig h => ?_, ok _ (by simp [wsV]), ok _ (by simp [wsV]), ok _ (by simp [wsV])⟩
  have h2 := hd.2.2
  rw [h] at h2
  exact (Option.some.inj h2).symm
theorem vx_runVW {y : MethodName} {bytes cc : ByteArray} {maxL nL mc ms n index : Nat} {ret : Option FieldType} {hh : List (Nat × Nat × Nat × Nat)} {ws : List Cond} {rm : Room} {Pc : Array Value → State → Prop} {Qc : Array Value → State → Outcome → State → Prop} {free : Addr → Prop} {Ts : List Cond} {own C : String} {b : Addr} {As rest : List Value} {g : JFrame}
    (S : CallFix p m c cc nL s args Ts own) (hM : Met l y ws rm Pc Qc mc ms free) (cw : vx_CVW R s args own C index y bytes maxL ret hh ws rm mc ms n) (hp : PreV s H C b Pc As)
    (hg : g.method = m) (hn : As.length = n) (hsize : g.locals.size = nL) (hstack : g.stack = As.reverse ++ .ref b :: rest) (hW : 2 * g.monitorRoom + (rest.map fun v => v.category).sum ≤ 8) (hdg : decode cc g.pc = .ok (.invokevirtual index, 3)) (hf : cells + mc ≤ R.cells ∧ slots + ms ≤ R.slots) :
    va_Run p l e R s m args below meth c H locs cells slots mc ms g rest (Qc (Value.ref b :: As).toArray) free := by
  obtain ⟨⟨hrc, hrs, hfr, hlo, hws, hcw⟩, hcode, hini, hy, hlen, hl, hin, hse⟩ := cw
  have hK : Back l R p e below s args y 3 8 (PreOf R mc ms Pc) (PostOf Qc mc ms free) := va_backW (hh := hh) (bytes := bytes) (maxL := maxL) (ret := ret) hM hp.1 hrc hrs hfr hlo hws hcw (fun a' U hW => word_at hW (Or.inl (by first | rfl | simp [Cond.onTables, Cond.keeps, Cond.steady])) hini)
  obtain ⟨hx, hb, hml, ho, -⟩ := S
  obtain ⟨-, ⟨cellB, hcB, hoB, hclB⟩, hPc⟩ := hp
  intro T hT X
  obtain ⟨v, vm₁, ⟨U', l2, c2, s2⟩, hW₁, X', ⟨g', mk, t, L, e1, e2, hq, h1, hL, h2, h3⟩, st⟩ := vx_callVW X hx (C := C) (hh := hh) (bytes := bytes) (maxL := maxL) (ret := ret) ho hl hin hse hcode hy hK (by rw [hT]; exact hcB) hoB hclB hg (hsize.trans hml.symm) (argsL := As) (rest := rest) (fun sig h => hn.trans (hlen sig h)) hstack hW (by rw [hb]; exact hdg)
    (fun vm₁ hW₁ => ⟨hf.1, hf.2, hPc (T.setVm vm₁) hT hW₁⟩)
  dsimp only [Pt.U, Pt.locs, Pt.cells, Pt.slots] at X' e1 e2 h1 h2 h3 st
  subst h1; subst h2; subst h3
  exact ⟨v, (T.setVm vm₁).calling g' mk (Value.ref b :: As).toArray, t, U', L, hT, X', hL, e1, e2, hq, st⟩
section
variable {y : MethodName} {bytes cc : ByteArray} {maxL nL mc ms n index : Nat} {ret : Option FieldType} {ws : List Cond} {rm : Room} {Pc : Array Value → State → Prop} {Qc : Array Value → State → Outcome → State → Prop} {XC : String → State → State → Prop} {free : Addr → Prop} {Ts : List Cond} {own C : String} {b : Addr} {As rest : List Value} {g : JFrame}
theorem vx_runVX {hh : List (Nat × Nat × Nat × Nat)} (S : CallFix p m c cc nL s args Ts own) (hM : vx_Met l y ws rm Pc Qc XC mc ms free) (cw : vx_CVW R s args own C index y bytes maxL ret hh ws rm mc ms n) (hp : PreV s H C b Pc As)
    (hg : g.method = m) (hn : As.length = n) (hsize : g.locals.size = nL) (hstack : g.stack = As.reverse ++ .ref b :: rest) (hW : 2 * g.monitorRoom + (rest.map fun v => v.category).sum ≤ 8) (hdg : decode cc g.pc = .ok (.invokevirtual index, 3)) (hf : cells + mc ≤ R.cells ∧ slots + ms ≤ R.slots) :
    vx_Run p l e R s m args below meth c H locs cells slots mc ms g rest (Qc (Value.ref b :: As).toArray) XC free := by
  obtain ⟨⟨hrc, hrs, hfr, hlo, hws, hcw⟩, hcode, hini, hy, hlen, hl, hin, hse⟩ := cw
  have hK : vx_Back l R p e below s args y 3 8 (PreOf R mc ms Pc) (PostOf Qc mc ms free) (vx_Post XC mc ms free) := vx_backW (hh := hh) (bytes := bytes) (maxL := maxL) (ret := ret) hM hp.1 hrc hrs hfr hlo hws hcw (fun a' U hW => word_at hW (Or.inl (by first | rfl | simp [Cond.onTables, Cond.keeps, Cond.steady])) hini)
  obtain ⟨hx, hb, hml, ho, -⟩ := S
  obtain ⟨-, ⟨cellB, hcB, hoB, hclB⟩, hPc⟩ := hp
  intro T hT X
  rcases vx_callVX X hx (C := C) (hh := hh) (bytes := bytes) (maxL := maxL) (ret := ret) ho hl hin hse hcode hy hK (by rw [hT]; exact hcB) hoB hclB hg (hsize.trans hml.symm) (argsL := As) (rest := rest) (fun sig h => hn.trans (hlen sig h)) hstack hW (by rw [hb]; exact hdg)
    (fun vm₁ hW₁ => ⟨hf.1, hf.2, hPc (T.setVm vm₁) hT hW₁⟩) with ⟨v, vm₁, ⟨U', l2, c2, s2⟩, hW₁, X', ⟨g', mk, t, L, e1, e2, hq, h1, hL, h2, h3⟩, st⟩ | ⟨q, vm₁, ⟨U', l2, c2, s2⟩, hW₁, X', ⟨g', mk, t, L, E, ce, e1, e2, hq, hce, hcv, hcl, h1, hL, h2, h3⟩, st⟩
  · dsimp only [Pt.U, Pt.locs, Pt.cells, Pt.slots] at X' e1 e2 h1 h2 h3 st
    subst h1; subst h2; subst h3
    exact Or.inl ⟨v, (T.setVm vm₁).calling g' mk (Value.ref b :: As).toArray, t, U', L, hT, X', hL, e1, e2, hq, st⟩
  · dsimp only [Pt.U, Pt.locs, Pt.cells, Pt.slots] at X' e1 e2 h1 h2 h3 st hcl
    subst h1; subst h2; subst h3
    exact Or.inr ⟨q, (T.setVm vm₁).calling g' mk (Value.ref b :: As).toArray, t, U', L, E, ce, hT, X', hL, e1, e2, hq, hce, hcv, vx_cls hW₁ hcl, st⟩
theorem vx_runSX {hh : List (Nat × Nat × Nat × Nat)} (S : CallFix p m c cc nL s args Ts own) (hM : vx_Met l y ws rm Pc Qc XC mc ms free) (cw : vx_CSW R s args own index y bytes maxL ret hh ws rm mc ms n) (hp : PreS s H Pc As)
    (hg : g.method = m) (hn : As.length = n) (hsize : g.locals.size = nL) (hstack : g.stack = As.reverse ++ rest) (hW : 2 * g.monitorRoom + (rest.map fun v => v.category).sum ≤ 8) (hdg : decode cc g.pc = .ok (.invokestatic index, 3)) (hf : cells + mc ≤ R.cells ∧ slots + ms ≤ R.slots) :
    vx_Run p l e R s m args below meth c H locs cells slots mc ms g rest (Qc As.toArray) XC free := by
  obtain ⟨⟨hrc, hrs, hfr, hlo, hws, hcw⟩, hcode, hini, hy, hlen, hl, hstt⟩ := cw
  have hK : vx_Back l R p e below s args y 3 8 (PreOf R mc ms Pc) (PostOf Qc mc ms free) (vx_Post XC mc ms free) := vx_backW (hh := hh) (bytes := bytes) (maxL := maxL) (ret := ret) hM hp.1 hrc hrs hfr hlo hws hcw (fun a' U hW => word_at hW (Or.inl (by first | rfl | simp [Cond.onTables, Cond.keeps, Cond.steady])) hini)
  obtain ⟨hx, hb, hml, ho, -⟩ := S
  intro T hT X
  rcases vx_callSX X hx (hh := hh) (bytes := bytes) (maxL := maxL) (ret := ret) ho hl hstt hini hcode hy hK hg (hsize.trans hml.symm) (argsL := As) (rest := rest) (fun sig h => hn.trans (hlen sig h)) hstack hW (by rw [hb]; exact hdg)
    (fun vm₁ hW₁ => ⟨hf.1, hf.2, hp.2 (T.setVm vm₁) hT hW₁⟩) with ⟨v, vm₁, ⟨U', l2, c2, s2⟩, hW₁, X', ⟨g', mk, t, L, e1, e2, hq, h1, hL, h2, h3⟩, st⟩ | ⟨q, vm₁, ⟨U', l2, c2, s2⟩, hW₁, X', ⟨g', mk, t, L, E, ce, e1, e2, hq, hce, hcv, hcl, h1, hL, h2, h3⟩, st⟩
  · dsimp only [Pt.U, Pt.locs, Pt.cells, Pt.slots] at X' e1 e2 h1 h2 h3 st
    subst h1; subst h2; subst h3
    exact Or.inl ⟨v, (T.setVm vm₁).calling g' mk As.toArray, t, U', L, hT, X', hL, e1, e2, hq, st⟩
  · dsimp only [Pt.U, Pt.locs, Pt.cells, Pt.slots] at X' e1 e2 h1 h2 h3 st hcl
    subst h1; subst h2; subst h3
    exact Or.inr ⟨q, (T.setVm vm₁).calling g' mk As.toArray, t, U', L, E, ce, hT, X', hL, e1, e2, hq, hce, hcv, vx_cls hW₁ hcl, st⟩
end
end VXH
theorem vx_ofWH {l : Launch} {y : MethodName} {ws ws' : List Cond} {rm : Room} {Pc : Array Value → State → Prop} {Qc : Array Value → State → Outcome → State → Prop} {XC : String → State → State → Prop} {mc ms : Nat} {free : Addr → Prop} {cc : ByteArray} {maxL : Nat} {ret : Option FieldType} {hh : List (Nat × Nat × Nat × Nat)}
    (hy : plainName y.cls = true) (hw : ws = Cond.codeWith y cc maxL ret hh :: ws')
    (body : ∀ p e s m args below meth c s₁, BodyLoose p l y (headSpec ws rm) cc maxL ret e s m args below meth c s₁ → c.maxLocals = maxL → Pc args s →
      W p l e (headSpec ws rm).room s m args below meth c s.heap [] 0 0 (vx_MQ below Qc XC args s mc ms free) (entryFrame m args maxL)) : vx_Met l y ws rm Pc Qc XC mc ms free := by
  refine MetFree.of_bodyS (code := cc) (maxLocals := maxL) (ret := ret) hy ?_ ?_
  · intro args s m h hn
    obtain ⟨m9, meth, c, hn9, h1, h2, h3, h4, -, h5, h6, -⟩ := Cond.codeWith_spec (atoms_spec (ws := ws) h _ (by rw [hw]; exact List.mem_cons_self))
    cases hn.symm.trans hn9
    exact ⟨meth, c, h1, h2, h3, h4, h5, h6⟩
  · intro p e s m args below meth c s₁ B hml hP _
    have hh0 : s₁.heap = s.heap := by rw [B.state]; rfl
    obtain ⟨t, a1, o, b1, b2, b3⟩ := body p e s m args below meth c s₁ B hml hP s₁ hh0 (Stand.of_body B)
    exact ⟨t, o, a1, b1, b2, b3⟩
/-! ===== END ===== -/
end
section
def RX0 : String := "SteppedSpines$Block"
def TX0 : u_T := fun k => match k with
  | 0 => ("SteppedSpines$Block", "numbers", "[I", true)
  | 1 => ("SteppedSpines$Block", "turned", "[I", true)
  | 2 => ("SteppedSpines$Block", "size", "I", false)
  | 3 => ("SteppedSpines$Block", "longestEnding", "[I", true)
  | 4 => ("SteppedSpines$Block", "longestBeginning", "[I", true)
  | _ => ("SteppedSpines$Block", "tops", "[I", true)
def tyX0 : Nat → FieldType := fun k => match k with
  | 0 => .array .int
  | 1 => .array .int
  | 2 => .int
  | 3 => .array .int
  | 4 => .array .int
  | _ => .array .int
abbrev wsX00 : List Cond := u_ws RX0 TX0 6
theorem nmX0 : ∀ a, a < 6 → ∀ b, b < 6 → a ≠ b → (TX0 a).2.1 ≠ (TX0 b).2.1 := by decide +kernel
theorem tyX0_ok : ∀ k, k < 6 → parseFieldDescriptor (TX0 k).2.2.1 = some (tyX0 k) := by decide +kernel
abbrev cX0_init : ByteArray := prog_2_method_1_code
def yX0_init : MethodName := ⟨RX0, "<init>", "()V"⟩
abbrev cX0_hasPlace : ByteArray := prog_2_method_2_code
def yX0_hasPlace : MethodName := ⟨RX0, "hasPlace", "(I)Z"⟩
abbrev cX0_copyFrom : ByteArray := prog_2_method_3_code
def yX0_copyFrom : MethodName := ⟨RX0, "copyFrom", "(LSteppedSpines$Block;)V"⟩
abbrev cX0_putIn : ByteArray := prog_2_method_4_code
def yX0_putIn : MethodName := ⟨RX0, "putIn", "(III)V"⟩
abbrev cX0_takeOut : ByteArray := prog_2_method_5_code
def yX0_takeOut : MethodName := ⟨RX0, "takeOut", "(I)V"⟩
abbrev cX0_turnOver : ByteArray := prog_2_method_6_code
def yX0_turnOver : MethodName := ⟨RX0, "turnOver", "(I)V"⟩
abbrev cX0_shift : ByteArray := prog_2_method_7_code
def yX0_shift : MethodName := ⟨RX0, "shift", "(II)V"⟩
abbrev cX0_copiesOf : ByteArray := prog_2_method_8_code
def yX0_copiesOf : MethodName := ⟨RX0, "copiesOf", "(I)I"⟩
abbrev cX0_firstTurned : ByteArray := prog_2_method_9_code
def yX0_firstTurned : MethodName := ⟨RX0, "firstTurned", "()I"⟩
abbrev cX0_firstNotBelow : ByteArray := prog_2_method_10_code
def yX0_firstNotBelow : MethodName := ⟨RX0, "firstNotBelow", "(I)I"⟩
abbrev cX0_firstDouble : ByteArray := prog_2_method_11_code
def yX0_firstDouble : MethodName := ⟨RX0, "firstDouble", "()I"⟩
abbrev cX0_firstFall : ByteArray := prog_2_method_12_code
def yX0_firstFall : MethodName := ⟨RX0, "firstFall", "()I"⟩
abbrev cX0_greaterAheadOf : ByteArray := prog_2_method_13_code
def yX0_greaterAheadOf : MethodName := ⟨RX0, "greaterAheadOf", "(I)I"⟩
abbrev cX0_fallingPairs : ByteArray := prog_2_method_14_code
def yX0_fallingPairs : MethodName := ⟨RX0, "fallingPairs", "()I"⟩
abbrev cX0_fewestMovesBySheets : ByteArray := prog_2_method_15_code
def yX0_fewestMovesBySheets : MethodName := ⟨RX0, "fewestMovesBySheets", "()I"⟩
abbrev cX0_fewestMovesByPiles : ByteArray := prog_2_method_16_code
def yX0_fewestMovesByPiles : MethodName := ⟨RX0, "fewestMovesByPiles", "()I"⟩
abbrev cX0_longestRowBySheets : ByteArray := prog_2_method_17_code
def yX0_longestRowBySheets : MethodName := ⟨RX0, "longestRowBySheets", "()I"⟩
abbrev cX0_findLongestEnding : ByteArray := prog_2_method_18_code
def yX0_findLongestEnding : MethodName := ⟨RX0, "findLongestEnding", "()V"⟩
abbrev cX0_findLongestBeginning : ByteArray := prog_2_method_19_code
def yX0_findLongestBeginning : MethodName := ⟨RX0, "findLongestBeginning", "()V"⟩
abbrev cX0_longestAhead : ByteArray := prog_2_method_20_code
def yX0_longestAhead : MethodName := ⟨RX0, "longestAhead", "(II)I"⟩
abbrev cX0_longestFrom : ByteArray := prog_2_method_21_code
def yX0_longestFrom : MethodName := ⟨RX0, "longestFrom", "(II)I"⟩
abbrev cX0_pilesOfSheets : ByteArray := prog_2_method_22_code
def yX0_pilesOfSheets : MethodName := ⟨RX0, "pilesOfSheets", "()I"⟩
abbrev cX0_placeThatMakesRowOf : ByteArray := prog_2_method_23_code
def yX0_placeThatMakesRowOf : MethodName := ⟨RX0, "placeThatMakesRowOf", "(II)I"⟩
def RX1 : String := "SteppedSpines$History"
def TX1 : u_T := fun k => match k with
  | 0 => ("SteppedSpines$History", "states", "[LSteppedSpines$State;", true)
  | _ => ("SteppedSpines$History", "size", "I", false)
def tyX1 : Nat → FieldType := fun k => match k with
  | 0 => .array (.object "SteppedSpines$State")
  | _ => .int
abbrev wsX10 : List Cond := u_ws RX1 TX1 2
theorem nmX1 : ∀ a, a < 2 → ∀ b, b < 2 → a ≠ b → (TX1 a).2.1 ≠ (TX1 b).2.1 := by decide +kernel
theorem tyX1_ok : ∀ k, k < 2 → parseFieldDescriptor (TX1 k).2.2.1 = some (tyX1 k) := by decide +kernel
abbrev cX1_init : ByteArray := prog_3_method_1_code
def yX1_init : MethodName := ⟨RX1, "<init>", "()V"⟩
abbrev cX1_save : ByteArray := prog_3_method_2_code
def yX1_save : MethodName := ⟨RX1, "save", "(LSteppedSpines$State;)V"⟩
abbrev cX1_dropOldest : ByteArray := prog_3_method_3_code
def yX1_dropOldest : MethodName := ⟨RX1, "dropOldest", "()V"⟩
abbrev cX1_restore : ByteArray := prog_3_method_4_code
def yX1_restore : MethodName := ⟨RX1, "restore", "(LSteppedSpines$State;)V"⟩
def RX2 : String := "SteppedSpines$Reader"
def TX2 : u_T := fun k => match k with
  | 0 => ("SteppedSpines$Reader", "letter", "C", false)
  | 1 => ("SteppedSpines$Reader", "firstNumber", "I", false)
  | 2 => ("SteppedSpines$Reader", "number", "I", false)
  | 3 => ("SteppedSpines$Reader", "where", "I", false)
  | _ => ("SteppedSpines$Reader", "firstIsRead", "Z", false)
def tyX2 : Nat → FieldType := fun k => match k with
  | 0 => .char
  | 1 => .int
  | 2 => .int
  | 3 => .int
  | _ => .boolean
abbrev wsX20 : List Cond := u_ws RX2 TX2 5
theorem nmX2 : ∀ a, a < 5 → ∀ b, b < 5 → a ≠ b → (TX2 a).2.1 ≠ (TX2 b).2.1 := by decide +kernel
theorem tyX2_ok : ∀ k, k < 5 → parseFieldDescriptor (TX2 k).2.2.1 = some (tyX2 k) := by decide +kernel
abbrev cX2_init : ByteArray := prog_4_method_1_code
def yX2_init : MethodName := ⟨RX2, "<init>", "()V"⟩
abbrev cX2_start : ByteArray := prog_4_method_2_code
def yX2_start : MethodName := ⟨RX2, "start", "()V"⟩
abbrev cX2_accepts : ByteArray := prog_4_method_3_code
def yX2_accepts : MethodName := ⟨RX2, "accepts", "(I)Z"⟩
abbrev cX2_isComplete : ByteArray := prog_4_method_4_code
def yX2_isComplete : MethodName := ⟨RX2, "isComplete", "()Z"⟩
abbrev cX2_arrowIsDue : ByteArray := prog_4_method_5_code
def yX2_arrowIsDue : MethodName := ⟨RX2, "arrowIsDue", "()Z"⟩
abbrev cX2_acceptsLetter : ByteArray := prog_4_method_6_code
def yX2_acceptsLetter : MethodName := ⟨RX2, "acceptsLetter", "(I)Z"⟩
abbrev cX2_acceptsFirstDigit : ByteArray := prog_4_method_7_code
def yX2_acceptsFirstDigit : MethodName := ⟨RX2, "acceptsFirstDigit", "(I)Z"⟩
abbrev cX2_acceptsSecondDigit : ByteArray := prog_4_method_8_code
def yX2_acceptsSecondDigit : MethodName := ⟨RX2, "acceptsSecondDigit", "(I)Z"⟩
abbrev cX2_acceptsArrow : ByteArray := prog_4_method_9_code
def yX2_acceptsArrow : MethodName := ⟨RX2, "acceptsArrow", "(I)Z"⟩
abbrev cX2_acceptsEndOfPart : ByteArray := prog_4_method_10_code
def yX2_acceptsEndOfPart : MethodName := ⟨RX2, "acceptsEndOfPart", "(I)Z"⟩
def RX3 : String := "SteppedSpines$State"
def TX3 : u_T := fun k => match k with
  | 0 => ("SteppedSpines$State", "block", "LSteppedSpines$Block;", true)
  | 1 => ("SteppedSpines$State", "copies", "[I", true)
  | 2 => ("SteppedSpines$State", "inBooks", "[I", true)
  | 3 => ("SteppedSpines$State", "printed", "[I", true)
  | 4 => ("SteppedSpines$State", "holes", "[I", true)
  | 5 => ("SteppedSpines$State", "settings", "[I", true)
  | 6 => ("SteppedSpines$State", "booksBound", "I", false)
  | _ => ("SteppedSpines$State", "latestStop", "I", false)
def tyX3 : Nat → FieldType := fun k => match k with
  | 0 => .object "SteppedSpines$Block"
  | 1 => .array .int
  | 2 => .array .int
  | 3 => .array .int
  | 4 => .array .int
  | 5 => .array .int
  | 6 => .int
  | _ => .int
abbrev wsX30 : List Cond := u_ws RX3 TX3 8
theorem nmX3 : ∀ a, a < 8 → ∀ b, b < 8 → a ≠ b → (TX3 a).2.1 ≠ (TX3 b).2.1 := by decide +kernel
theorem tyX3_ok : ∀ k, k < 8 → parseFieldDescriptor (TX3 k).2.2.1 = some (tyX3 k) := by decide +kernel
abbrev cX3_init : ByteArray := prog_5_method_1_code
def yX3_init : MethodName := ⟨RX3, "<init>", "()V"⟩
abbrev cX3_copyFrom : ByteArray := prog_5_method_2_code
def yX3_copyFrom : MethodName := ⟨RX3, "copyFrom", "(LSteppedSpines$State;)V"⟩
abbrev cX3_bookSheets : ByteArray := prog_5_method_3_code
def yX3_bookSheets : MethodName := ⟨RX3, "bookSheets", "()I"⟩
abbrev cX3_hasCopyAndRoom : ByteArray := prog_5_method_4_code
def yX3_hasCopyAndRoom : MethodName := ⟨RX3, "hasCopyAndRoom", "(I)Z"⟩
abbrev cX3_putFromBin : ByteArray := prog_5_method_5_code
def yX3_putFromBin : MethodName := ⟨RX3, "putFromBin", "(II)V"⟩
abbrev cX3_putBack : ByteArray := prog_5_method_6_code
def yX3_putBack : MethodName := ⟨RX3, "putBack", "(I)I"⟩
abbrev cX3_bindBlock : ByteArray := prog_5_method_7_code
def yX3_bindBlock : MethodName := ⟨RX3, "bindBlock", "()V"⟩
abbrev cX3_copiesInBinAndBlock : ByteArray := prog_5_method_8_code
def yX3_copiesInBinAndBlock : MethodName := ⟨RX3, "copiesInBinAndBlock", "(I)I"⟩
abbrev cX3_sheetsInBooks : ByteArray := prog_5_method_9_code
def yX3_sheetsInBooks : MethodName := ⟨RX3, "sheetsInBooks", "()I"⟩
abbrev cX3_stepOfNumber : ByteArray := prog_5_method_10_code
def yX3_stepOfNumber : MethodName := ⟨RX3, "stepOfNumber", "(I)I"⟩
abbrev cX3_stepOfMark : ByteArray := prog_5_method_11_code
def yX3_stepOfMark : MethodName := ⟨RX3, "stepOfMark", "(I)I"⟩
abbrev cX3_stepDueAt : ByteArray := prog_5_method_12_code
def yX3_stepDueAt : MethodName := ⟨RX3, "stepDueAt", "(I)I"⟩
abbrev cX3_breaksAheadOf : ByteArray := prog_5_method_13_code
def yX3_breaksAheadOf : MethodName := ⟨RX3, "breaksAheadOf", "(I)Z"⟩
abbrev cX3_breaks : ByteArray := prog_5_method_14_code
def yX3_breaks : MethodName := ⟨RX3, "breaks", "()I"⟩
abbrev cX3_fault : ByteArray := prog_5_method_15_code
def yX3_fault : MethodName := ⟨RX3, "fault", "()I"⟩
abbrev cX3_placeOfFault : ByteArray := prog_5_method_16_code
def yX3_placeOfFault : MethodName := ⟨RX3, "placeOfFault", "()I"⟩
abbrev cX3_lowestMissing : ByteArray := prog_5_method_17_code
def yX3_lowestMissing : MethodName := ⟨RX3, "lowestMissing", "()I"⟩
abbrev cX3_holesAt : ByteArray := prog_5_method_18_code
def yX3_holesAt : MethodName := ⟨RX3, "holesAt", "(I)I"⟩
abbrev cX3_stitchesAheadOf : ByteArray := prog_5_method_19_code
def yX3_stitchesAheadOf : MethodName := ⟨RX3, "stitchesAheadOf", "(I)I"⟩
abbrev cX3_stitches : ByteArray := prog_5_method_20_code
def yX3_stitches : MethodName := ⟨RX3, "stitches", "()I"⟩
abbrev cX3_loosePlaces : ByteArray := prog_5_method_21_code
def yX3_loosePlaces : MethodName := ⟨RX3, "loosePlaces", "()I"⟩
abbrev cX3_threadLength : ByteArray := prog_5_method_22_code
def yX3_threadLength : MethodName := ⟨RX3, "threadLength", "()I"⟩
abbrev cX3_spanOfHoles : ByteArray := prog_5_method_23_code
def yX3_spanOfHoles : MethodName := ⟨RX3, "spanOfHoles", "(I)I"⟩
def RX4 : String := "SteppedSpines"
def TX4 : u_T := fun k => match k with
  | 0 => ("SteppedSpines", "now", "LSteppedSpines$State;", true)
  | 1 => ("SteppedSpines", "snapshot", "LSteppedSpines$State;", true)
  | 2 => ("SteppedSpines", "trial", "LSteppedSpines$State;", true)
  | 3 => ("SteppedSpines", "history", "LSteppedSpines$History;", true)
  | 4 => ("SteppedSpines", "reader", "LSteppedSpines$Reader;", true)
  | 5 => ("SteppedSpines", "buffer", "[I", true)
  | 6 => ("SteppedSpines", "bufferLength", "I", false)
  | _ => ("SteppedSpines", "hasSnapshot", "Z", false)
def tyX4 : Nat → FieldType := fun k => match k with
  | 0 => .object "SteppedSpines$State"
  | 1 => .object "SteppedSpines$State"
  | 2 => .object "SteppedSpines$State"
  | 3 => .object "SteppedSpines$History"
  | 4 => .object "SteppedSpines$Reader"
  | 5 => .array .int
  | 6 => .int
  | _ => .boolean
abbrev wsX40 : List Cond := u_ws RX4 TX4 8
theorem nmX4 : ∀ a, a < 8 → ∀ b, b < 8 → a ≠ b → (TX4 a).2.1 ≠ (TX4 b).2.1 := by decide +kernel
theorem tyX4_ok : ∀ k, k < 8 → parseFieldDescriptor (TX4 k).2.2.1 = some (tyX4 k) := by decide +kernel
abbrev cX4_init : ByteArray := prog_1_method_1_code
def yX4_init : MethodName := ⟨RX4, "<init>", "()V"⟩
abbrev cX4_gather : ByteArray := prog_1_method_2_code
def yX4_gather : MethodName := ⟨RX4, "gather", "(I)I"⟩
abbrev cX4_insert : ByteArray := prog_1_method_3_code
def yX4_insert : MethodName := ⟨RX4, "insert", "(II)I"⟩
abbrev cX4_pull : ByteArray := prog_1_method_4_code
def yX4_pull : MethodName := ⟨RX4, "pull", "(I)I"⟩
abbrev cX4_flip : ByteArray := prog_1_method_5_code
def yX4_flip : MethodName := ⟨RX4, "flip", "(I)I"⟩
abbrev cX4_move : ByteArray := prog_1_method_6_code
def yX4_move : MethodName := ⟨RX4, "move", "(II)I"⟩
abbrev cX4_bind : ByteArray := prog_1_method_7_code
def yX4_bind : MethodName := ⟨RX4, "bind", "()I"⟩
abbrev cX4_print : ByteArray := prog_1_method_8_code
def yX4_print : MethodName := ⟨RX4, "print", "(II)I"⟩
abbrev cX4_punch : ByteArray := prog_1_method_9_code
def yX4_punch : MethodName := ⟨RX4, "punch", "(II)I"⟩
abbrev cX4_set : ByteArray := prog_1_method_10_code
def yX4_set : MethodName := ⟨RX4, "set", "(II)I"⟩
abbrev cX4_append : ByteArray := prog_1_method_11_code
def yX4_append : MethodName := ⟨RX4, "append", "(I)I"⟩
abbrev cX4_clearBuffer : ByteArray := prog_1_method_12_code
def yX4_clearBuffer : MethodName := ⟨RX4, "clearBuffer", "()I"⟩
abbrev cX4_firstError : ByteArray := prog_1_method_13_code
def yX4_firstError : MethodName := ⟨RX4, "firstError", "()I"⟩
abbrev cX4_work : ByteArray := prog_1_method_14_code
def yX4_work : MethodName := ⟨RX4, "work", "()I"⟩
abbrev cX4_keep : ByteArray := prog_1_method_15_code
def yX4_keep : MethodName := ⟨RX4, "keep", "()I"⟩
abbrev cX4_goBack : ByteArray := prog_1_method_16_code
def yX4_goBack : MethodName := ⟨RX4, "goBack", "()I"⟩
abbrev cX4_undo : ByteArray := prog_1_method_17_code
def yX4_undo : MethodName := ⟨RX4, "undo", "()I"⟩
abbrev cX4_sheet : ByteArray := prog_1_method_18_code
def yX4_sheet : MethodName := ⟨RX4, "sheet", "(II)I"⟩
abbrev cX4_bin : ByteArray := prog_1_method_19_code
def yX4_bin : MethodName := ⟨RX4, "bin", "(II)I"⟩
abbrev cX4_count : ByteArray := prog_1_method_20_code
def yX4_count : MethodName := ⟨RX4, "count", "(I)I"⟩
abbrev cX4_setting : ByteArray := prog_1_method_21_code
def yX4_setting : MethodName := ⟨RX4, "setting", "(I)I"⟩
abbrev cX4_nextMove : ByteArray := prog_1_method_22_code
def yX4_nextMove : MethodName := ⟨RX4, "nextMove", "()I"⟩
abbrev cX4_ifPulled : ByteArray := prog_1_method_23_code
def yX4_ifPulled : MethodName := ⟨RX4, "ifPulled", "(II)I"⟩
abbrev cX4_fits : ByteArray := prog_1_method_24_code
def yX4_fits : MethodName := ⟨RX4, "fits", "()I"⟩
abbrev cX4_books : ByteArray := prog_1_method_25_code
def yX4_books : MethodName := ⟨RX4, "books", "()I"⟩
abbrev cX4_stairShare : ByteArray := prog_1_method_26_code
def yX4_stairShare : MethodName := ⟨RX4, "stairShare", "()D"⟩
abbrev cX4_meanThread : ByteArray := prog_1_method_27_code
def yX4_meanThread : MethodName := ⟨RX4, "meanThread", "()F"⟩
abbrev cX4_digest : ByteArray := prog_1_method_28_code
def yX4_digest : MethodName := ⟨RX4, "digest", "()J"⟩
abbrev cX4_readBuffer : ByteArray := prog_1_method_29_code
def yX4_readBuffer : MethodName := ⟨RX4, "readBuffer", "()I"⟩
abbrev cX4_doParts : ByteArray := prog_1_method_30_code
def yX4_doParts : MethodName := ⟨RX4, "doParts", "()I"⟩
abbrev cX4_partCanBeDone : ByteArray := prog_1_method_31_code
def yX4_partCanBeDone : MethodName := ⟨RX4, "partCanBeDone", "()Z"⟩
abbrev cX4_doPart : ByteArray := prog_1_method_32_code
def yX4_doPart : MethodName := ⟨RX4, "doPart", "()V"⟩
abbrev cX4_hashWith : ByteArray := prog_1_method_33_code
def yX4_hashWith : MethodName := ⟨RX4, "hashWith", "(JJ)J"⟩
abbrev cX4_hashWithBuffer : ByteArray := prog_1_method_34_code
def yX4_hashWithBuffer : MethodName := ⟨RX4, "hashWithBuffer", "(J)J"⟩
abbrev cX4_bitsOfDouble : ByteArray := prog_1_method_35_code
def yX4_bitsOfDouble : MethodName := ⟨RX4, "bitsOfDouble", "(D)J"⟩
abbrev cX4_bitsOfFloat : ByteArray := prog_1_method_36_code
def yX4_bitsOfFloat : MethodName := ⟨RX4, "bitsOfFloat", "(F)I"⟩
abbrev cX4_isBin : ByteArray := prog_1_method_37_code
def yX4_isBin : MethodName := ⟨RX4, "isBin", "(I)Z"⟩
abbrev cX4_isSetting : ByteArray := prog_1_method_38_code
def yX4_isSetting : MethodName := ⟨RX4, "isSetting", "(I)Z"⟩
abbrev cX4_at : ByteArray := prog_1_method_39_code
def yX4_at : MethodName := ⟨RX4, "at", "([II)I"⟩
abbrev cX4_put : ByteArray := prog_1_method_40_code
def yX4_put : MethodName := ⟨RX4, "put", "([III)V"⟩
abbrev cX4_addTo : ByteArray := prog_1_method_41_code
def yX4_addTo : MethodName := ⟨RX4, "addTo", "([III)V"⟩
abbrev cX4_copyRow : ByteArray := prog_1_method_42_code
def yX4_copyRow : MethodName := ⟨RX4, "copyRow", "([I[I)V"⟩
def RX5 : String := "SteppedSpinesModel"
def TX5 : u_T := fun k => match k with
  | 0 => ("SteppedSpinesModel", "thrown", "I", false)
  | 1 => ("SteppedSpinesModel", "s", "[I", true)
  | 2 => ("SteppedSpinesModel", "saved", "I", false)
  | 3 => ("SteppedSpinesModel", "isKept", "Z", false)
  | 4 => ("SteppedSpinesModel", "text", "[I", true)
  | 5 => ("SteppedSpinesModel", "length", "I", false)
  | 6 => ("SteppedSpinesModel", "at", "I", false)
  | 7 => ("SteppedSpinesModel", "letter", "I", false)
  | 8 => ("SteppedSpinesModel", "first", "I", false)
  | 9 => ("SteppedSpinesModel", "second", "I", false)
  | 10 => ("SteppedSpinesModel", "row", "[I", true)
  | 11 => ("SteppedSpinesModel", "down", "[I", true)
  | 12 => ("SteppedSpinesModel", "many", "I", false)
  | 13 => ("SteppedSpinesModel", "longest", "[I", true)
  | _ => ("SteppedSpinesModel", "hash", "J", false)
def tyX5 : Nat → FieldType := fun k => match k with
  | 0 => .int
  | 1 => .array .int
  | 2 => .int
  | 3 => .boolean
  | 4 => .array .int
  | 5 => .int
  | 6 => .int
  | 7 => .int
  | 8 => .int
  | 9 => .int
  | 10 => .array .int
  | 11 => .array .int
  | 12 => .int
  | 13 => .array .int
  | _ => .long
abbrev wsX50 : List Cond := u_ws RX5 TX5 15
theorem nmX5 : ∀ a, a < 15 → ∀ b, b < 15 → a ≠ b → (TX5 a).2.1 ≠ (TX5 b).2.1 := by decide +kernel
theorem tyX5_ok : ∀ k, k < 15 → parseFieldDescriptor (TX5 k).2.2.1 = some (tyX5 k) := by decide +kernel
abbrev cX5_init : ByteArray := prog_7_method_1_code
def yX5_init : MethodName := ⟨RX5, "<init>", "()V"⟩
abbrev cX5_thrown : ByteArray := prog_7_method_2_code
def yX5_thrown : MethodName := ⟨RX5, "thrown", "()I"⟩
abbrev cX5_in : ByteArray := prog_7_method_3_code
def yX5_in : MethodName := ⟨RX5, "in", "(III)Z"⟩
abbrev cX5_holds : ByteArray := prog_7_method_4_code
def yX5_holds : MethodName := ⟨RX5, "holds", "(I)Z"⟩
abbrev cX5_isBin : ByteArray := prog_7_method_5_code
def yX5_isBin : MethodName := ⟨RX5, "isBin", "(I)Z"⟩
abbrev cX5_isPlace : ByteArray := prog_7_method_6_code
def yX5_isPlace : MethodName := ⟨RX5, "isPlace", "(I)Z"⟩
abbrev cX5_laysOut : ByteArray := prog_7_method_7_code
def yX5_laysOut : MethodName := ⟨RX5, "laysOut", "(I)V"⟩
abbrev cX5_mark : ByteArray := prog_7_method_8_code
def yX5_mark : MethodName := ⟨RX5, "mark", "(II)I"⟩
abbrev cX5_breaksAt : ByteArray := prog_7_method_9_code
def yX5_breaksAt : MethodName := ⟨RX5, "breaksAt", "(I)Z"⟩
abbrev cX5_breaks : ByteArray := prog_7_method_10_code
def yX5_breaks : MethodName := ⟨RX5, "breaks", "()I"⟩
abbrev cX5_isAhead : ByteArray := prog_7_method_11_code
def yX5_isAhead : MethodName := ⟨RX5, "isAhead", "(I)Z"⟩
abbrev cX5_isFault : ByteArray := prog_7_method_12_code
def yX5_isFault : MethodName := ⟨RX5, "isFault", "(II)Z"⟩
abbrev cX5_placeOf : ByteArray := prog_7_method_13_code
def yX5_placeOf : MethodName := ⟨RX5, "placeOf", "(I)I"⟩
abbrev cX5_missing : ByteArray := prog_7_method_14_code
def yX5_missing : MethodName := ⟨RX5, "missing", "()I"⟩
abbrev cX5_fault : ByteArray := prog_7_method_15_code
def yX5_fault : MethodName := ⟨RX5, "fault", "()I"⟩
abbrev cX5_fewest : ByteArray := prog_7_method_16_code
def yX5_fewest : MethodName := ⟨RX5, "fewest", "()I"⟩
abbrev cX5_greaterAhead : ByteArray := prog_7_method_17_code
def yX5_greaterAhead : MethodName := ⟨RX5, "greaterAhead", "(I)I"⟩
abbrev cX5_pairs : ByteArray := prog_7_method_18_code
def yX5_pairs : MethodName := ⟨RX5, "pairs", "()I"⟩
abbrev cX5_stitchesAt : ByteArray := prog_7_method_19_code
def yX5_stitchesAt : MethodName := ⟨RX5, "stitchesAt", "(I)I"⟩
abbrev cX5_stitches : ByteArray := prog_7_method_20_code
def yX5_stitches : MethodName := ⟨RX5, "stitches", "()I"⟩
abbrev cX5_loose : ByteArray := prog_7_method_21_code
def yX5_loose : MethodName := ⟨RX5, "loose", "()I"⟩
abbrev cX5_span : ByteArray := prog_7_method_22_code
def yX5_span : MethodName := ⟨RX5, "span", "(I)I"⟩
abbrev cX5_thread : ByteArray := prog_7_method_23_code
def yX5_thread : MethodName := ⟨RX5, "thread", "()I"⟩
abbrev cX5_canGather : ByteArray := prog_7_method_24_code
def yX5_canGather : MethodName := ⟨RX5, "canGather", "(I)Z"⟩
abbrev cX5_inserts : ByteArray := prog_7_method_25_code
def yX5_inserts : MethodName := ⟨RX5, "inserts", "(II)I"⟩
abbrev cX5_pulls : ByteArray := prog_7_method_26_code
def yX5_pulls : MethodName := ⟨RX5, "pulls", "(I)I"⟩
abbrev cX5_flips : ByteArray := prog_7_method_27_code
def yX5_flips : MethodName := ⟨RX5, "flips", "(I)I"⟩
abbrev cX5_moves : ByteArray := prog_7_method_28_code
def yX5_moves : MethodName := ⟨RX5, "moves", "(II)I"⟩
abbrev cX5_canBind : ByteArray := prog_7_method_29_code
def yX5_canBind : MethodName := ⟨RX5, "canBind", "()Z"⟩
abbrev cX5_binds : ByteArray := prog_7_method_30_code
def yX5_binds : MethodName := ⟨RX5, "binds", "()I"⟩
abbrev cX5_copies : ByteArray := prog_7_method_31_code
def yX5_copies : MethodName := ⟨RX5, "copies", "(II)V"⟩
abbrev cX5_save : ByteArray := prog_7_method_32_code
def yX5_save : MethodName := ⟨RX5, "save", "()V"⟩
abbrev cX5_gather : ByteArray := prog_7_method_33_code
def yX5_gather : MethodName := ⟨RX5, "gather", "(I)I"⟩
abbrev cX5_insert : ByteArray := prog_7_method_34_code
def yX5_insert : MethodName := ⟨RX5, "insert", "(II)I"⟩
abbrev cX5_pull : ByteArray := prog_7_method_35_code
def yX5_pull : MethodName := ⟨RX5, "pull", "(I)I"⟩
abbrev cX5_flip : ByteArray := prog_7_method_36_code
def yX5_flip : MethodName := ⟨RX5, "flip", "(I)I"⟩
abbrev cX5_move : ByteArray := prog_7_method_37_code
def yX5_move : MethodName := ⟨RX5, "move", "(II)I"⟩
abbrev cX5_bind : ByteArray := prog_7_method_38_code
def yX5_bind : MethodName := ⟨RX5, "bind", "()I"⟩
abbrev cX5_print : ByteArray := prog_7_method_39_code
def yX5_print : MethodName := ⟨RX5, "print", "(II)I"⟩
abbrev cX5_changed : ByteArray := prog_7_method_40_code
def yX5_changed : MethodName := ⟨RX5, "changed", "(II)I"⟩
abbrev cX5_punch : ByteArray := prog_7_method_41_code
def yX5_punch : MethodName := ⟨RX5, "punch", "(II)I"⟩
abbrev cX5_set : ByteArray := prog_7_method_42_code
def yX5_set : MethodName := ⟨RX5, "set", "(II)I"⟩
abbrev cX5_append : ByteArray := prog_7_method_43_code
def yX5_append : MethodName := ⟨RX5, "append", "(I)I"⟩
abbrev cX5_clearBuffer : ByteArray := prog_7_method_44_code
def yX5_clearBuffer : MethodName := ⟨RX5, "clearBuffer", "()I"⟩
abbrev cX5_sign : ByteArray := prog_7_method_45_code
def yX5_sign : MethodName := ⟨RX5, "sign", "()I"⟩
abbrev cX5_takes : ByteArray := prog_7_method_46_code
def yX5_takes : MethodName := ⟨RX5, "takes", "(I)Z"⟩
abbrev cX5_number : ByteArray := prog_7_method_47_code
def yX5_number : MethodName := ⟨RX5, "number", "(I)I"⟩
abbrev cX5_readsPart : ByteArray := prog_7_method_48_code
def yX5_readsPart : MethodName := ⟨RX5, "readsPart", "()Z"⟩
abbrev cX5_isWork : ByteArray := prog_7_method_49_code
def yX5_isWork : MethodName := ⟨RX5, "isWork", "()Z"⟩
abbrev cX5_firstError : ByteArray := prog_7_method_50_code
def yX5_firstError : MethodName := ⟨RX5, "firstError", "()I"⟩
abbrev cX5_isDone : ByteArray := prog_7_method_51_code
def yX5_isDone : MethodName := ⟨RX5, "isDone", "()Z"⟩
abbrev cX5_work : ByteArray := prog_7_method_52_code
def yX5_work : MethodName := ⟨RX5, "work", "()I"⟩
abbrev cX5_keep : ByteArray := prog_7_method_53_code
def yX5_keep : MethodName := ⟨RX5, "keep", "()I"⟩
abbrev cX5_goBack : ByteArray := prog_7_method_54_code
def yX5_goBack : MethodName := ⟨RX5, "goBack", "()I"⟩
abbrev cX5_undo : ByteArray := prog_7_method_55_code
def yX5_undo : MethodName := ⟨RX5, "undo", "()I"⟩
abbrev cX5_ofSheet : ByteArray := prog_7_method_56_code
def yX5_ofSheet : MethodName := ⟨RX5, "ofSheet", "(II)I"⟩
abbrev cX5_sheet : ByteArray := prog_7_method_57_code
def yX5_sheet : MethodName := ⟨RX5, "sheet", "(II)I"⟩
abbrev cX5_inBlock : ByteArray := prog_7_method_58_code
def yX5_inBlock : MethodName := ⟨RX5, "inBlock", "(I)I"⟩
abbrev cX5_ofBin : ByteArray := prog_7_method_59_code
def yX5_ofBin : MethodName := ⟨RX5, "ofBin", "(II)I"⟩
abbrev cX5_bin : ByteArray := prog_7_method_60_code
def yX5_bin : MethodName := ⟨RX5, "bin", "(II)I"⟩
abbrev cX5_faultPlace : ByteArray := prog_7_method_61_code
def yX5_faultPlace : MethodName := ⟨RX5, "faultPlace", "()I"⟩
abbrev cX5_boundSheets : ByteArray := prog_7_method_62_code
def yX5_boundSheets : MethodName := ⟨RX5, "boundSheets", "()I"⟩
abbrev cX5_counted : ByteArray := prog_7_method_63_code
def yX5_counted : MethodName := ⟨RX5, "counted", "(I)I"⟩
abbrev cX5_count : ByteArray := prog_7_method_64_code
def yX5_count : MethodName := ⟨RX5, "count", "(I)I"⟩
abbrev cX5_setting : ByteArray := prog_7_method_65_code
def yX5_setting : MethodName := ⟨RX5, "setting", "(I)I"⟩
abbrev cX5_fewestBehind : ByteArray := prog_7_method_66_code
def yX5_fewestBehind : MethodName := ⟨RX5, "fewestBehind", "(II)I"⟩
abbrev cX5_moveNext : ByteArray := prog_7_method_67_code
def yX5_moveNext : MethodName := ⟨RX5, "moveNext", "()I"⟩
abbrev cX5_nextMove : ByteArray := prog_7_method_68_code
def yX5_nextMove : MethodName := ⟨RX5, "nextMove", "()I"⟩
abbrev cX5_without : ByteArray := prog_7_method_69_code
def yX5_without : MethodName := ⟨RX5, "without", "(II)I"⟩
abbrev cX5_ifPulled : ByteArray := prog_7_method_70_code
def yX5_ifPulled : MethodName := ⟨RX5, "ifPulled", "(II)I"⟩
abbrev cX5_fitting : ByteArray := prog_7_method_71_code
def yX5_fitting : MethodName := ⟨RX5, "fitting", "()I"⟩
abbrev cX5_fits : ByteArray := prog_7_method_72_code
def yX5_fits : MethodName := ⟨RX5, "fits", "()I"⟩
abbrev cX5_possible : ByteArray := prog_7_method_73_code
def yX5_possible : MethodName := ⟨RX5, "possible", "()I"⟩
abbrev cX5_books : ByteArray := prog_7_method_74_code
def yX5_books : MethodName := ⟨RX5, "books", "()I"⟩
abbrev cX5_share : ByteArray := prog_7_method_75_code
def yX5_share : MethodName := ⟨RX5, "share", "()D"⟩
abbrev cX5_stairShare : ByteArray := prog_7_method_76_code
def yX5_stairShare : MethodName := ⟨RX5, "stairShare", "()D"⟩
abbrev cX5_mean : ByteArray := prog_7_method_77_code
def yX5_mean : MethodName := ⟨RX5, "mean", "()F"⟩
abbrev cX5_meanThread : ByteArray := prog_7_method_78_code
def yX5_meanThread : MethodName := ⟨RX5, "meanThread", "()F"⟩
abbrev cX5_mix : ByteArray := prog_7_method_79_code
def yX5_mix : MethodName := ⟨RX5, "mix", "(J)V"⟩
abbrev cX5_bits : ByteArray := prog_7_method_80_code
def yX5_bits : MethodName := ⟨RX5, "bits", "(D)J"⟩
abbrev cX5_floatBits : ByteArray := prog_7_method_81_code
def yX5_floatBits : MethodName := ⟨RX5, "floatBits", "(F)I"⟩
abbrev cX5_digest : ByteArray := prog_7_method_82_code
def yX5_digest : MethodName := ⟨RX5, "digest", "()J"⟩
def RJx145de : String := "java/io/Serializable"
def TJx145de : u_T := fun k => match k with
  | _ => ("", "", "", false)
def tyJx145de : Nat → FieldType := fun k => match k with
  | _ => .int
abbrev wsJx145de0 : List Cond := u_ws RJx145de TJx145de 0
theorem nmJx145de : ∀ a, a < 0 → ∀ b, b < 0 → a ≠ b → (TJx145de a).2.1 ≠ (TJx145de b).2.1 := by decide +kernel
theorem tyJx145de_ok : ∀ k, k < 0 → parseFieldDescriptor (TJx145de k).2.2.1 = some (tyJx145de k) := by decide +kernel
def RJ6 : String := "java/lang/Integer"
def TJ6 : u_T := fun k => match k with
  | _ => ("", "", "", false)
def tyJ6 : Nat → FieldType := fun k => match k with
  | _ => .int
abbrev wsJ60 : List Cond := u_ws RJ6 TJ6 0
theorem nmJ6 : ∀ a, a < 0 → ∀ b, b < 0 → a ≠ b → (TJ6 a).2.1 ≠ (TJ6 b).2.1 := by decide +kernel
theorem tyJ6_ok : ∀ k, k < 0 → parseFieldDescriptor (TJ6 k).2.2.1 = some (tyJ6 k) := by decide +kernel
abbrev cJ6_bitCount_0f7a4 : ByteArray := prog_12_method_49_code
def yJ6_bitCount_0f7a4 : MethodName := ⟨RJ6, "bitCount", "(I)I"⟩
def RJ9 : String := "java/lang/Math"
def TJ9 : u_T := fun k => match k with
  | _ => ("", "", "", false)
def tyJ9 : Nat → FieldType := fun k => match k with
  | _ => .int
abbrev wsJ90 : List Cond := u_ws RJ9 TJ9 0
theorem nmJ9 : ∀ a, a < 0 → ∀ b, b < 0 → a ≠ b → (TJ9 a).2.1 ≠ (TJ9 b).2.1 := by decide +kernel
theorem tyJ9_ok : ∀ k, k < 0 → parseFieldDescriptor (TJ9 k).2.2.1 = some (tyJ9 k) := by decide +kernel
abbrev cJ9_max_7cf53 : ByteArray := prog_13_method_65_code
def yJ9_max_7cf53 : MethodName := ⟨RJ9, "max", "(II)I"⟩
abbrev cJ9_min_7cf53 : ByteArray := prog_13_method_69_code
def yJ9_min_7cf53 : MethodName := ⟨RJ9, "min", "(II)I"⟩
def RJ0 : String := "java/lang/String"
def TJ0 : u_T := fun k => match k with
  | _ => ("", "", "", false)
def tyJ0 : Nat → FieldType := fun k => match k with
  | _ => .int
abbrev wsJ00 : List Cond := u_ws RJ0 TJ0 0
theorem nmJ0 : ∀ a, a < 0 → ∀ b, b < 0 → a ≠ b → (TJ0 a).2.1 ≠ (TJ0 b).2.1 := by decide +kernel
theorem tyJ0_ok : ∀ k, k < 0 → parseFieldDescriptor (TJ0 k).2.2.1 = some (tyJ0 k) := by decide +kernel
def RJ10 : String := "java/lang/System"
def TJ10 : u_T := fun k => match k with
  | _ => ("", "", "", false)
def tyJ10 : Nat → FieldType := fun k => match k with
  | _ => .int
abbrev wsJ100 : List Cond := u_ws RJ10 TJ10 0
theorem nmJ10 : ∀ a, a < 0 → ∀ b, b < 0 → a ≠ b → (TJ10 a).2.1 ≠ (TJ10 b).2.1 := by decide +kernel
theorem tyJ10_ok : ∀ k, k < 0 → parseFieldDescriptor (TJ10 k).2.2.1 = some (tyJ10 k) := by decide +kernel
def RJ7 : String := "java/util/Arrays"
def TJ7 : u_T := fun k => match k with
  | _ => ("", "", "", false)
def tyJ7 : Nat → FieldType := fun k => match k with
  | _ => .int
abbrev wsJ70 : List Cond := u_ws RJ7 TJ7 0
theorem nmJ7 : ∀ a, a < 0 → ∀ b, b < 0 → a ≠ b → (TJ7 a).2.1 ≠ (TJ7 b).2.1 := by decide +kernel
theorem tyJ7_ok : ∀ k, k < 0 → parseFieldDescriptor (TJ7 k).2.2.1 = some (tyJ7 k) := by decide +kernel
abbrev cJ7_fill_53178 : ByteArray := prog_18_method_103_code
def yJ7_fill_53178 : MethodName := ⟨RJ7, "fill", "([II)V"⟩
def RL : String := "SteppedSpinesLaw"
abbrev cL_gather : ByteArray := method_3_code
def yL_gather : MethodName := ⟨RL, "gather", "(LSteppedSpines;I[J)I"⟩
abbrev cL_insert : ByteArray := method_4_code
def yL_insert : MethodName := ⟨RL, "insert", "(LSteppedSpines;II[J)I"⟩
abbrev cL_pull : ByteArray := method_5_code
def yL_pull : MethodName := ⟨RL, "pull", "(LSteppedSpines;I[J)I"⟩
abbrev cL_flip : ByteArray := method_6_code
def yL_flip : MethodName := ⟨RL, "flip", "(LSteppedSpines;I[J)I"⟩
abbrev cL_move : ByteArray := method_7_code
def yL_move : MethodName := ⟨RL, "move", "(LSteppedSpines;II[J)I"⟩
abbrev cL_bind : ByteArray := method_8_code
def yL_bind : MethodName := ⟨RL, "bind", "(LSteppedSpines;[J)I"⟩
abbrev cL_print : ByteArray := method_9_code
def yL_print : MethodName := ⟨RL, "print", "(LSteppedSpines;II[J)I"⟩
abbrev cL_punch : ByteArray := method_10_code
def yL_punch : MethodName := ⟨RL, "punch", "(LSteppedSpines;II[J)I"⟩
abbrev cL_set : ByteArray := method_11_code
def yL_set : MethodName := ⟨RL, "set", "(LSteppedSpines;II[J)I"⟩
abbrev cL_append : ByteArray := method_12_code
def yL_append : MethodName := ⟨RL, "append", "(LSteppedSpines;I[J)I"⟩
abbrev cL_work : ByteArray := method_13_code
def yL_work : MethodName := ⟨RL, "work", "(LSteppedSpines;[J)I"⟩
abbrev cL_goBack : ByteArray := method_14_code
def yL_goBack : MethodName := ⟨RL, "goBack", "(LSteppedSpines;[J)I"⟩
abbrev cL_undo : ByteArray := method_15_code
def yL_undo : MethodName := ⟨RL, "undo", "(LSteppedSpines;[J)I"⟩
abbrev cL_sheet : ByteArray := method_16_code
def yL_sheet : MethodName := ⟨RL, "sheet", "(LSteppedSpines;II[J)I"⟩
abbrev cL_bin : ByteArray := method_17_code
def yL_bin : MethodName := ⟨RL, "bin", "(LSteppedSpines;II[J)I"⟩
abbrev cL_count : ByteArray := method_18_code
def yL_count : MethodName := ⟨RL, "count", "(LSteppedSpines;I[J)I"⟩
abbrev cL_setting : ByteArray := method_19_code
def yL_setting : MethodName := ⟨RL, "setting", "(LSteppedSpines;I[J)I"⟩
abbrev cL_ifPulled : ByteArray := method_20_code
def yL_ifPulled : MethodName := ⟨RL, "ifPulled", "(LSteppedSpines;II[J)I"⟩
abbrev cL_law : ByteArray := code
def yL_law : MethodName := ⟨RL, "law", "([I)Z"⟩
abbrev vwCl : List vw_C := [(RX0, TX0, 6), (RX1, TX1, 2), (RX2, TX2, 5), (RX3, TX3, 8), (RX4, TX4, 8), (RX5, TX5, 15)]
end
section
theorem dX0_init_0 : decode cX0_init 0 = .ok (.aload_n 0, 1) := by decide +kernel
theorem dX0_init_1 : decode cX0_init 1 = .ok (.invokespecial 3, 3) := by decide +kernel
theorem dX0_init_4 : decode cX0_init 4 = .ok (.aload_n 0, 1) := by decide +kernel
theorem dX0_init_5 : decode cX0_init 5 = .ok (.bipush 20, 2) := by decide +kernel
theorem dX0_init_7 : decode cX0_init 7 = .ok (.newarray .int, 2) := by decide +kernel
theorem dX0_init_9 : decode cX0_init 9 = .ok (.putfield 9, 3) := by decide +kernel
theorem dX0_init_12 : decode cX0_init 12 = .ok (.aload_n 0, 1) := by decide +kernel
theorem dX0_init_13 : decode cX0_init 13 = .ok (.bipush 20, 2) := by decide +kernel
theorem dX0_init_15 : decode cX0_init 15 = .ok (.newarray .int, 2) := by decide +kernel
theorem dX0_init_17 : decode cX0_init 17 = .ok (.putfield 15, 3) := by decide +kernel
theorem dX0_init_20 : decode cX0_init 20 = .ok (.aload_n 0, 1) := by decide +kernel
theorem dX0_init_21 : decode cX0_init 21 = .ok (.bipush 20, 2) := by decide +kernel
theorem dX0_init_23 : decode cX0_init 23 = .ok (.newarray .int, 2) := by decide +kernel
theorem dX0_init_25 : decode cX0_init 25 = .ok (.putfield 18, 3) := by decide +kernel
theorem dX0_init_28 : decode cX0_init 28 = .ok (.aload_n 0, 1) := by decide +kernel
theorem dX0_init_29 : decode cX0_init 29 = .ok (.bipush 20, 2) := by decide +kernel
theorem dX0_init_31 : decode cX0_init 31 = .ok (.newarray .int, 2) := by decide +kernel
theorem dX0_init_33 : decode cX0_init 33 = .ok (.putfield 21, 3) := by decide +kernel
theorem dX0_init_36 : decode cX0_init 36 = .ok (.aload_n 0, 1) := by decide +kernel
theorem dX0_init_37 : decode cX0_init 37 = .ok (.bipush 20, 2) := by decide +kernel
theorem dX0_init_39 : decode cX0_init 39 = .ok (.newarray .int, 2) := by decide +kernel
theorem dX0_init_41 : decode cX0_init 41 = .ok (.putfield 24, 3) := by decide +kernel
theorem dX0_init_44 : decode cX0_init 44 = .ok (.return_, 1) := by decide +kernel
theorem dX0_hasPlace_0 : decode cX0_hasPlace 0 = .ok (.iload_n 1, 1) := by decide +kernel
theorem dX0_hasPlace_1 : decode cX0_hasPlace 1 = .ok (.ifCond .lt 15, 3) := by decide +kernel
theorem dX0_hasPlace_4 : decode cX0_hasPlace 4 = .ok (.iload_n 1, 1) := by decide +kernel
theorem dX0_hasPlace_5 : decode cX0_hasPlace 5 = .ok (.aload_n 0, 1) := by decide +kernel
theorem dX0_hasPlace_6 : decode cX0_hasPlace 6 = .ok (.getfield 27, 3) := by decide +kernel
theorem dX0_hasPlace_9 : decode cX0_hasPlace 9 = .ok (.if_icmp .ge 7, 3) := by decide +kernel
theorem dX0_hasPlace_12 : decode cX0_hasPlace 12 = .ok (.iconst 1, 1) := by decide +kernel
theorem dX0_hasPlace_13 : decode cX0_hasPlace 13 = .ok (.goto 4, 3) := by decide +kernel
theorem dX0_hasPlace_16 : decode cX0_hasPlace 16 = .ok (.iconst 0, 1) := by decide +kernel
theorem dX0_hasPlace_17 : decode cX0_hasPlace 17 = .ok (.ireturn, 1) := by decide +kernel
theorem dX0_copyFrom_0 : decode cX0_copyFrom 0 = .ok (.aload_n 1, 1) := by decide +kernel
theorem dX0_copyFrom_1 : decode cX0_copyFrom 1 = .ok (.ifnull 33, 3) := by decide +kernel
theorem dX0_copyFrom_4 : decode cX0_copyFrom 4 = .ok (.aload_n 1, 1) := by decide +kernel
theorem dX0_copyFrom_5 : decode cX0_copyFrom 5 = .ok (.getfield 9, 3) := by decide +kernel
theorem dX0_copyFrom_8 : decode cX0_copyFrom 8 = .ok (.aload_n 0, 1) := by decide +kernel
theorem dX0_copyFrom_9 : decode cX0_copyFrom 9 = .ok (.getfield 9, 3) := by decide +kernel
theorem dX0_copyFrom_12 : decode cX0_copyFrom 12 = .ok (.invokestatic 31, 3) := by decide +kernel
theorem dX0_copyFrom_15 : decode cX0_copyFrom 15 = .ok (.aload_n 1, 1) := by decide +kernel
theorem dX0_copyFrom_16 : decode cX0_copyFrom 16 = .ok (.getfield 15, 3) := by decide +kernel
theorem dX0_copyFrom_19 : decode cX0_copyFrom 19 = .ok (.aload_n 0, 1) := by decide +kernel
theorem dX0_copyFrom_20 : decode cX0_copyFrom 20 = .ok (.getfield 15, 3) := by decide +kernel
theorem dX0_copyFrom_23 : decode cX0_copyFrom 23 = .ok (.invokestatic 31, 3) := by decide +kernel
theorem dX0_copyFrom_26 : decode cX0_copyFrom 26 = .ok (.aload_n 0, 1) := by decide +kernel
theorem dX0_copyFrom_27 : decode cX0_copyFrom 27 = .ok (.aload_n 1, 1) := by decide +kernel
theorem dX0_copyFrom_28 : decode cX0_copyFrom 28 = .ok (.getfield 27, 3) := by decide +kernel
theorem dX0_copyFrom_31 : decode cX0_copyFrom 31 = .ok (.putfield 27, 3) := by decide +kernel
theorem dX0_copyFrom_34 : decode cX0_copyFrom 34 = .ok (.return_, 1) := by decide +kernel
theorem dX0_putIn_0 : decode cX0_putIn 0 = .ok (.iload_n 1, 1) := by decide +kernel
theorem dX0_putIn_1 : decode cX0_putIn 1 = .ok (.ifCond .lt 20, 3) := by decide +kernel
theorem dX0_putIn_4 : decode cX0_putIn 4 = .ok (.iload_n 1, 1) := by decide +kernel
theorem dX0_putIn_5 : decode cX0_putIn 5 = .ok (.aload_n 0, 1) := by decide +kernel
theorem dX0_putIn_6 : decode cX0_putIn 6 = .ok (.getfield 27, 3) := by decide +kernel
theorem dX0_putIn_9 : decode cX0_putIn 9 = .ok (.if_icmp .gt 12, 3) := by decide +kernel
theorem dX0_putIn_12 : decode cX0_putIn 12 = .ok (.aload_n 0, 1) := by decide +kernel
theorem dX0_putIn_13 : decode cX0_putIn 13 = .ok (.getfield 27, 3) := by decide +kernel
theorem dX0_putIn_16 : decode cX0_putIn 16 = .ok (.bipush 20, 2) := by decide +kernel
theorem dX0_putIn_18 : decode cX0_putIn 18 = .ok (.if_icmp .lt 4, 3) := by decide +kernel
theorem dX0_putIn_21 : decode cX0_putIn 21 = .ok (.return_, 1) := by decide +kernel
theorem dX0_putIn_22 : decode cX0_putIn 22 = .ok (.aload_n 0, 1) := by decide +kernel
theorem dX0_putIn_23 : decode cX0_putIn 23 = .ok (.getfield 27, 3) := by decide +kernel
theorem dX0_putIn_26 : decode cX0_putIn 26 = .ok (.istore 4, 2) := by decide +kernel
theorem dX0_putIn_28 : decode cX0_putIn 28 = .ok (.iload 4, 2) := by decide +kernel
theorem dX0_putIn_30 : decode cX0_putIn 30 = .ok (.iload_n 1, 1) := by decide +kernel
theorem dX0_putIn_31 : decode cX0_putIn 31 = .ok (.if_icmp .le 49, 3) := by decide +kernel
theorem dX0_putIn_34 : decode cX0_putIn 34 = .ok (.aload_n 0, 1) := by decide +kernel
theorem dX0_putIn_35 : decode cX0_putIn 35 = .ok (.getfield 9, 3) := by decide +kernel
theorem dX0_putIn_38 : decode cX0_putIn 38 = .ok (.iload 4, 2) := by decide +kernel
theorem dX0_putIn_40 : decode cX0_putIn 40 = .ok (.aload_n 0, 1) := by decide +kernel
theorem dX0_putIn_41 : decode cX0_putIn 41 = .ok (.getfield 9, 3) := by decide +kernel
theorem dX0_putIn_44 : decode cX0_putIn 44 = .ok (.iload 4, 2) := by decide +kernel
theorem dX0_putIn_46 : decode cX0_putIn 46 = .ok (.iconst 1, 1) := by decide +kernel
theorem dX0_putIn_47 : decode cX0_putIn 47 = .ok (.isub, 1) := by decide +kernel
theorem dX0_putIn_48 : decode cX0_putIn 48 = .ok (.invokestatic 35, 3) := by decide +kernel
theorem dX0_putIn_51 : decode cX0_putIn 51 = .ok (.invokestatic 39, 3) := by decide +kernel
theorem dX0_putIn_54 : decode cX0_putIn 54 = .ok (.aload_n 0, 1) := by decide +kernel
theorem dX0_putIn_55 : decode cX0_putIn 55 = .ok (.getfield 15, 3) := by decide +kernel
theorem dX0_putIn_58 : decode cX0_putIn 58 = .ok (.iload 4, 2) := by decide +kernel
theorem dX0_putIn_60 : decode cX0_putIn 60 = .ok (.aload_n 0, 1) := by decide +kernel
theorem dX0_putIn_61 : decode cX0_putIn 61 = .ok (.getfield 15, 3) := by decide +kernel
theorem dX0_putIn_64 : decode cX0_putIn 64 = .ok (.iload 4, 2) := by decide +kernel
theorem dX0_putIn_66 : decode cX0_putIn 66 = .ok (.iconst 1, 1) := by decide +kernel
theorem dX0_putIn_67 : decode cX0_putIn 67 = .ok (.isub, 1) := by decide +kernel
theorem dX0_putIn_68 : decode cX0_putIn 68 = .ok (.invokestatic 35, 3) := by decide +kernel
theorem dX0_putIn_71 : decode cX0_putIn 71 = .ok (.invokestatic 39, 3) := by decide +kernel
theorem dX0_putIn_74 : decode cX0_putIn 74 = .ok (.iinc 4 (-1), 3) := by decide +kernel
theorem dX0_putIn_77 : decode cX0_putIn 77 = .ok (.goto (-49), 3) := by decide +kernel
theorem dX0_putIn_80 : decode cX0_putIn 80 = .ok (.aload_n 0, 1) := by decide +kernel
theorem dX0_putIn_81 : decode cX0_putIn 81 = .ok (.getfield 9, 3) := by decide +kernel
theorem dX0_putIn_84 : decode cX0_putIn 84 = .ok (.iload_n 1, 1) := by decide +kernel
theorem dX0_putIn_85 : decode cX0_putIn 85 = .ok (.iload_n 2, 1) := by decide +kernel
theorem dX0_putIn_86 : decode cX0_putIn 86 = .ok (.invokestatic 39, 3) := by decide +kernel
theorem dX0_putIn_89 : decode cX0_putIn 89 = .ok (.aload_n 0, 1) := by decide +kernel
theorem dX0_putIn_90 : decode cX0_putIn 90 = .ok (.getfield 15, 3) := by decide +kernel
theorem dX0_putIn_93 : decode cX0_putIn 93 = .ok (.iload_n 1, 1) := by decide +kernel
theorem dX0_putIn_94 : decode cX0_putIn 94 = .ok (.iload_n 3, 1) := by decide +kernel
theorem dX0_putIn_95 : decode cX0_putIn 95 = .ok (.invokestatic 39, 3) := by decide +kernel
theorem dX0_putIn_98 : decode cX0_putIn 98 = .ok (.aload_n 0, 1) := by decide +kernel
theorem dX0_putIn_99 : decode cX0_putIn 99 = .ok (.dup, 1) := by decide +kernel
theorem dX0_putIn_100 : decode cX0_putIn 100 = .ok (.getfield 27, 3) := by decide +kernel
theorem dX0_putIn_103 : decode cX0_putIn 103 = .ok (.iconst 1, 1) := by decide +kernel
theorem dX0_putIn_104 : decode cX0_putIn 104 = .ok (.iadd, 1) := by decide +kernel
theorem dX0_putIn_105 : decode cX0_putIn 105 = .ok (.putfield 27, 3) := by decide +kernel
theorem dX0_putIn_108 : decode cX0_putIn 108 = .ok (.return_, 1) := by decide +kernel
theorem dX0_takeOut_0 : decode cX0_takeOut 0 = .ok (.aload_n 0, 1) := by decide +kernel
theorem dX0_takeOut_1 : decode cX0_takeOut 1 = .ok (.iload_n 1, 1) := by decide +kernel
theorem dX0_takeOut_2 : decode cX0_takeOut 2 = .ok (.invokevirtual 43, 3) := by decide +kernel
theorem dX0_takeOut_5 : decode cX0_takeOut 5 = .ok (.ifCond .ne 4, 3) := by decide +kernel
theorem dX0_takeOut_8 : decode cX0_takeOut 8 = .ok (.return_, 1) := by decide +kernel
theorem dX0_takeOut_9 : decode cX0_takeOut 9 = .ok (.iload_n 1, 1) := by decide +kernel
theorem dX0_takeOut_10 : decode cX0_takeOut 10 = .ok (.istore_n 2, 1) := by decide +kernel
theorem dX0_takeOut_11 : decode cX0_takeOut 11 = .ok (.iload_n 2, 1) := by decide +kernel
theorem dX0_takeOut_12 : decode cX0_takeOut 12 = .ok (.aload_n 0, 1) := by decide +kernel
theorem dX0_takeOut_13 : decode cX0_takeOut 13 = .ok (.getfield 27, 3) := by decide +kernel
theorem dX0_takeOut_16 : decode cX0_takeOut 16 = .ok (.iconst 1, 1) := by decide +kernel
theorem dX0_takeOut_17 : decode cX0_takeOut 17 = .ok (.isub, 1) := by decide +kernel
theorem dX0_takeOut_18 : decode cX0_takeOut 18 = .ok (.if_icmp .ge 45, 3) := by decide +kernel
theorem dX0_takeOut_21 : decode cX0_takeOut 21 = .ok (.aload_n 0, 1) := by decide +kernel
theorem dX0_takeOut_22 : decode cX0_takeOut 22 = .ok (.getfield 9, 3) := by decide +kernel
theorem dX0_takeOut_25 : decode cX0_takeOut 25 = .ok (.iload_n 2, 1) := by decide +kernel
theorem dX0_takeOut_26 : decode cX0_takeOut 26 = .ok (.aload_n 0, 1) := by decide +kernel
theorem dX0_takeOut_27 : decode cX0_takeOut 27 = .ok (.getfield 9, 3) := by decide +kernel
theorem dX0_takeOut_30 : decode cX0_takeOut 30 = .ok (.iload_n 2, 1) := by decide +kernel
theorem dX0_takeOut_31 : decode cX0_takeOut 31 = .ok (.iconst 1, 1) := by decide +kernel
theorem dX0_takeOut_32 : decode cX0_takeOut 32 = .ok (.iadd, 1) := by decide +kernel
theorem dX0_takeOut_33 : decode cX0_takeOut 33 = .ok (.invokestatic 35, 3) := by decide +kernel
theorem dX0_takeOut_36 : decode cX0_takeOut 36 = .ok (.invokestatic 39, 3) := by decide +kernel
theorem dX0_takeOut_39 : decode cX0_takeOut 39 = .ok (.aload_n 0, 1) := by decide +kernel
theorem dX0_takeOut_40 : decode cX0_takeOut 40 = .ok (.getfield 15, 3) := by decide +kernel
theorem dX0_takeOut_43 : decode cX0_takeOut 43 = .ok (.iload_n 2, 1) := by decide +kernel
theorem dX0_takeOut_44 : decode cX0_takeOut 44 = .ok (.aload_n 0, 1) := by decide +kernel
theorem dX0_takeOut_45 : decode cX0_takeOut 45 = .ok (.getfield 15, 3) := by decide +kernel
theorem dX0_takeOut_48 : decode cX0_takeOut 48 = .ok (.iload_n 2, 1) := by decide +kernel
theorem dX0_takeOut_49 : decode cX0_takeOut 49 = .ok (.iconst 1, 1) := by decide +kernel
theorem dX0_takeOut_50 : decode cX0_takeOut 50 = .ok (.iadd, 1) := by decide +kernel
theorem dX0_takeOut_51 : decode cX0_takeOut 51 = .ok (.invokestatic 35, 3) := by decide +kernel
theorem dX0_takeOut_54 : decode cX0_takeOut 54 = .ok (.invokestatic 39, 3) := by decide +kernel
theorem dX0_takeOut_57 : decode cX0_takeOut 57 = .ok (.iinc 2 1, 3) := by decide +kernel
theorem dX0_takeOut_60 : decode cX0_takeOut 60 = .ok (.goto (-49), 3) := by decide +kernel
theorem dX0_takeOut_63 : decode cX0_takeOut 63 = .ok (.aload_n 0, 1) := by decide +kernel
theorem dX0_takeOut_64 : decode cX0_takeOut 64 = .ok (.dup, 1) := by decide +kernel
theorem dX0_takeOut_65 : decode cX0_takeOut 65 = .ok (.getfield 27, 3) := by decide +kernel
theorem dX0_takeOut_68 : decode cX0_takeOut 68 = .ok (.iconst 1, 1) := by decide +kernel
theorem dX0_takeOut_69 : decode cX0_takeOut 69 = .ok (.isub, 1) := by decide +kernel
theorem dX0_takeOut_70 : decode cX0_takeOut 70 = .ok (.putfield 27, 3) := by decide +kernel
theorem dX0_takeOut_73 : decode cX0_takeOut 73 = .ok (.return_, 1) := by decide +kernel
theorem dX0_turnOver_0 : decode cX0_turnOver 0 = .ok (.aload_n 0, 1) := by decide +kernel
theorem dX0_turnOver_1 : decode cX0_turnOver 1 = .ok (.iload_n 1, 1) := by decide +kernel
theorem dX0_turnOver_2 : decode cX0_turnOver 2 = .ok (.invokevirtual 43, 3) := by decide +kernel
theorem dX0_turnOver_5 : decode cX0_turnOver 5 = .ok (.ifCond .eq 21, 3) := by decide +kernel
theorem dX0_turnOver_8 : decode cX0_turnOver 8 = .ok (.aload_n 0, 1) := by decide +kernel
theorem dX0_turnOver_9 : decode cX0_turnOver 9 = .ok (.getfield 15, 3) := by decide +kernel
theorem dX0_turnOver_12 : decode cX0_turnOver 12 = .ok (.iload_n 1, 1) := by decide +kernel
theorem dX0_turnOver_13 : decode cX0_turnOver 13 = .ok (.iconst 1, 1) := by decide +kernel
theorem dX0_turnOver_14 : decode cX0_turnOver 14 = .ok (.aload_n 0, 1) := by decide +kernel
theorem dX0_turnOver_15 : decode cX0_turnOver 15 = .ok (.getfield 15, 3) := by decide +kernel
theorem dX0_turnOver_18 : decode cX0_turnOver 18 = .ok (.iload_n 1, 1) := by decide +kernel
theorem dX0_turnOver_19 : decode cX0_turnOver 19 = .ok (.invokestatic 35, 3) := by decide +kernel
theorem dX0_turnOver_22 : decode cX0_turnOver 22 = .ok (.isub, 1) := by decide +kernel
theorem dX0_turnOver_23 : decode cX0_turnOver 23 = .ok (.invokestatic 39, 3) := by decide +kernel
theorem dX0_turnOver_26 : decode cX0_turnOver 26 = .ok (.return_, 1) := by decide +kernel
theorem dX0_shift_0 : decode cX0_shift 0 = .ok (.aload_n 0, 1) := by decide +kernel
theorem dX0_shift_1 : decode cX0_shift 1 = .ok (.iload_n 1, 1) := by decide +kernel
theorem dX0_shift_2 : decode cX0_shift 2 = .ok (.invokevirtual 43, 3) := by decide +kernel
theorem dX0_shift_5 : decode cX0_shift 5 = .ok (.ifCond .eq 11, 3) := by decide +kernel
theorem dX0_shift_8 : decode cX0_shift 8 = .ok (.aload_n 0, 1) := by decide +kernel
theorem dX0_shift_9 : decode cX0_shift 9 = .ok (.iload_n 2, 1) := by decide +kernel
theorem dX0_shift_10 : decode cX0_shift 10 = .ok (.invokevirtual 43, 3) := by decide +kernel
theorem dX0_shift_13 : decode cX0_shift 13 = .ok (.ifCond .ne 4, 3) := by decide +kernel
theorem dX0_shift_16 : decode cX0_shift 16 = .ok (.return_, 1) := by decide +kernel
theorem dX0_shift_17 : decode cX0_shift 17 = .ok (.aload_n 0, 1) := by decide +kernel
theorem dX0_shift_18 : decode cX0_shift 18 = .ok (.getfield 9, 3) := by decide +kernel
theorem dX0_shift_21 : decode cX0_shift 21 = .ok (.iload_n 1, 1) := by decide +kernel
theorem dX0_shift_22 : decode cX0_shift 22 = .ok (.invokestatic 35, 3) := by decide +kernel
theorem dX0_shift_25 : decode cX0_shift 25 = .ok (.istore_n 3, 1) := by decide +kernel
theorem dX0_shift_26 : decode cX0_shift 26 = .ok (.aload_n 0, 1) := by decide +kernel
theorem dX0_shift_27 : decode cX0_shift 27 = .ok (.getfield 15, 3) := by decide +kernel
theorem dX0_shift_30 : decode cX0_shift 30 = .ok (.iload_n 1, 1) := by decide +kernel
theorem dX0_shift_31 : decode cX0_shift 31 = .ok (.invokestatic 35, 3) := by decide +kernel
theorem dX0_shift_34 : decode cX0_shift 34 = .ok (.istore 4, 2) := by decide +kernel
theorem dX0_shift_36 : decode cX0_shift 36 = .ok (.aload_n 0, 1) := by decide +kernel
theorem dX0_shift_37 : decode cX0_shift 37 = .ok (.iload_n 1, 1) := by decide +kernel
theorem dX0_shift_38 : decode cX0_shift 38 = .ok (.invokevirtual 47, 3) := by decide +kernel
theorem dX0_shift_41 : decode cX0_shift 41 = .ok (.aload_n 0, 1) := by decide +kernel
theorem dX0_shift_42 : decode cX0_shift 42 = .ok (.iload_n 2, 1) := by decide +kernel
theorem dX0_shift_43 : decode cX0_shift 43 = .ok (.iload_n 3, 1) := by decide +kernel
theorem dX0_shift_44 : decode cX0_shift 44 = .ok (.iload 4, 2) := by decide +kernel
theorem dX0_shift_46 : decode cX0_shift 46 = .ok (.invokevirtual 51, 3) := by decide +kernel
theorem dX0_shift_49 : decode cX0_shift 49 = .ok (.return_, 1) := by decide +kernel
theorem dX0_copiesOf_0 : decode cX0_copiesOf 0 = .ok (.iconst 0, 1) := by decide +kernel
theorem dX0_copiesOf_1 : decode cX0_copiesOf 1 = .ok (.istore_n 2, 1) := by decide +kernel
theorem dX0_copiesOf_2 : decode cX0_copiesOf 2 = .ok (.iconst 0, 1) := by decide +kernel
theorem dX0_copiesOf_3 : decode cX0_copiesOf 3 = .ok (.istore_n 3, 1) := by decide +kernel
theorem dX0_copiesOf_4 : decode cX0_copiesOf 4 = .ok (.iload_n 3, 1) := by decide +kernel
theorem dX0_copiesOf_5 : decode cX0_copiesOf 5 = .ok (.aload_n 0, 1) := by decide +kernel
theorem dX0_copiesOf_6 : decode cX0_copiesOf 6 = .ok (.getfield 27, 3) := by decide +kernel
theorem dX0_copiesOf_9 : decode cX0_copiesOf 9 = .ok (.if_icmp .ge 24, 3) := by decide +kernel
theorem dX0_copiesOf_12 : decode cX0_copiesOf 12 = .ok (.aload_n 0, 1) := by decide +kernel
theorem dX0_copiesOf_13 : decode cX0_copiesOf 13 = .ok (.getfield 9, 3) := by decide +kernel
theorem dX0_copiesOf_16 : decode cX0_copiesOf 16 = .ok (.iload_n 3, 1) := by decide +kernel
theorem dX0_copiesOf_17 : decode cX0_copiesOf 17 = .ok (.invokestatic 35, 3) := by decide +kernel
theorem dX0_copiesOf_20 : decode cX0_copiesOf 20 = .ok (.iload_n 1, 1) := by decide +kernel
theorem dX0_copiesOf_21 : decode cX0_copiesOf 21 = .ok (.if_icmp .ne 6, 3) := by decide +kernel
theorem dX0_copiesOf_24 : decode cX0_copiesOf 24 = .ok (.iinc 2 1, 3) := by decide +kernel
theorem dX0_copiesOf_27 : decode cX0_copiesOf 27 = .ok (.iinc 3 1, 3) := by decide +kernel
theorem dX0_copiesOf_30 : decode cX0_copiesOf 30 = .ok (.goto (-26), 3) := by decide +kernel
theorem dX0_copiesOf_33 : decode cX0_copiesOf 33 = .ok (.iload_n 2, 1) := by decide +kernel
theorem dX0_copiesOf_34 : decode cX0_copiesOf 34 = .ok (.ireturn, 1) := by decide +kernel
theorem dX0_firstTurned_0 : decode cX0_firstTurned 0 = .ok (.iconst 0, 1) := by decide +kernel
theorem dX0_firstTurned_1 : decode cX0_firstTurned 1 = .ok (.istore_n 1, 1) := by decide +kernel
theorem dX0_firstTurned_2 : decode cX0_firstTurned 2 = .ok (.iload_n 1, 1) := by decide +kernel
theorem dX0_firstTurned_3 : decode cX0_firstTurned 3 = .ok (.aload_n 0, 1) := by decide +kernel
theorem dX0_firstTurned_4 : decode cX0_firstTurned 4 = .ok (.getfield 27, 3) := by decide +kernel
theorem dX0_firstTurned_7 : decode cX0_firstTurned 7 = .ok (.if_icmp .ge 22, 3) := by decide +kernel
theorem dX0_firstTurned_10 : decode cX0_firstTurned 10 = .ok (.aload_n 0, 1) := by decide +kernel
theorem dX0_firstTurned_11 : decode cX0_firstTurned 11 = .ok (.getfield 15, 3) := by decide +kernel
theorem dX0_firstTurned_14 : decode cX0_firstTurned 14 = .ok (.iload_n 1, 1) := by decide +kernel
theorem dX0_firstTurned_15 : decode cX0_firstTurned 15 = .ok (.invokestatic 35, 3) := by decide +kernel
theorem dX0_firstTurned_18 : decode cX0_firstTurned 18 = .ok (.ifCond .eq 5, 3) := by decide +kernel
theorem dX0_firstTurned_21 : decode cX0_firstTurned 21 = .ok (.iload_n 1, 1) := by decide +kernel
theorem dX0_firstTurned_22 : decode cX0_firstTurned 22 = .ok (.ireturn, 1) := by decide +kernel
theorem dX0_firstTurned_23 : decode cX0_firstTurned 23 = .ok (.iinc 1 1, 3) := by decide +kernel
theorem dX0_firstTurned_26 : decode cX0_firstTurned 26 = .ok (.goto (-24), 3) := by decide +kernel
theorem dX0_firstTurned_29 : decode cX0_firstTurned 29 = .ok (.iconst (-1), 1) := by decide +kernel
theorem dX0_firstTurned_30 : decode cX0_firstTurned 30 = .ok (.ireturn, 1) := by decide +kernel
theorem dX0_firstNotBelow_0 : decode cX0_firstNotBelow 0 = .ok (.iconst 0, 1) := by decide +kernel
theorem dX0_firstNotBelow_1 : decode cX0_firstNotBelow 1 = .ok (.istore_n 2, 1) := by decide +kernel
theorem dX0_firstNotBelow_2 : decode cX0_firstNotBelow 2 = .ok (.iload_n 2, 1) := by decide +kernel
theorem dX0_firstNotBelow_3 : decode cX0_firstNotBelow 3 = .ok (.aload_n 0, 1) := by decide +kernel
theorem dX0_firstNotBelow_4 : decode cX0_firstNotBelow 4 = .ok (.getfield 27, 3) := by decide +kernel
theorem dX0_firstNotBelow_7 : decode cX0_firstNotBelow 7 = .ok (.if_icmp .ge 23, 3) := by decide +kernel
theorem dX0_firstNotBelow_10 : decode cX0_firstNotBelow 10 = .ok (.aload_n 0, 1) := by decide +kernel
theorem dX0_firstNotBelow_11 : decode cX0_firstNotBelow 11 = .ok (.getfield 9, 3) := by decide +kernel
theorem dX0_firstNotBelow_14 : decode cX0_firstNotBelow 14 = .ok (.iload_n 2, 1) := by decide +kernel
theorem dX0_firstNotBelow_15 : decode cX0_firstNotBelow 15 = .ok (.invokestatic 35, 3) := by decide +kernel
theorem dX0_firstNotBelow_18 : decode cX0_firstNotBelow 18 = .ok (.iload_n 1, 1) := by decide +kernel
theorem dX0_firstNotBelow_19 : decode cX0_firstNotBelow 19 = .ok (.if_icmp .lt 5, 3) := by decide +kernel
theorem dX0_firstNotBelow_22 : decode cX0_firstNotBelow 22 = .ok (.iload_n 2, 1) := by decide +kernel
theorem dX0_firstNotBelow_23 : decode cX0_firstNotBelow 23 = .ok (.ireturn, 1) := by decide +kernel
theorem dX0_firstNotBelow_24 : decode cX0_firstNotBelow 24 = .ok (.iinc 2 1, 3) := by decide +kernel
theorem dX0_firstNotBelow_27 : decode cX0_firstNotBelow 27 = .ok (.goto (-25), 3) := by decide +kernel
theorem dX0_firstNotBelow_30 : decode cX0_firstNotBelow 30 = .ok (.iconst (-1), 1) := by decide +kernel
theorem dX0_firstNotBelow_31 : decode cX0_firstNotBelow 31 = .ok (.ireturn, 1) := by decide +kernel
theorem dX0_firstDouble_0 : decode cX0_firstDouble 0 = .ok (.iconst 1, 1) := by decide +kernel
theorem dX0_firstDouble_1 : decode cX0_firstDouble 1 = .ok (.istore_n 1, 1) := by decide +kernel
theorem dX0_firstDouble_2 : decode cX0_firstDouble 2 = .ok (.iload_n 1, 1) := by decide +kernel
theorem dX0_firstDouble_3 : decode cX0_firstDouble 3 = .ok (.aload_n 0, 1) := by decide +kernel
theorem dX0_firstDouble_4 : decode cX0_firstDouble 4 = .ok (.getfield 27, 3) := by decide +kernel
theorem dX0_firstDouble_7 : decode cX0_firstDouble 7 = .ok (.if_icmp .ge 43, 3) := by decide +kernel
theorem dX0_firstDouble_10 : decode cX0_firstDouble 10 = .ok (.iconst 0, 1) := by decide +kernel
theorem dX0_firstDouble_11 : decode cX0_firstDouble 11 = .ok (.istore_n 2, 1) := by decide +kernel
theorem dX0_firstDouble_12 : decode cX0_firstDouble 12 = .ok (.iload_n 2, 1) := by decide +kernel
theorem dX0_firstDouble_13 : decode cX0_firstDouble 13 = .ok (.iload_n 1, 1) := by decide +kernel
theorem dX0_firstDouble_14 : decode cX0_firstDouble 14 = .ok (.if_icmp .ge 30, 3) := by decide +kernel
theorem dX0_firstDouble_17 : decode cX0_firstDouble 17 = .ok (.aload_n 0, 1) := by decide +kernel
theorem dX0_firstDouble_18 : decode cX0_firstDouble 18 = .ok (.getfield 9, 3) := by decide +kernel
theorem dX0_firstDouble_21 : decode cX0_firstDouble 21 = .ok (.iload_n 2, 1) := by decide +kernel
theorem dX0_firstDouble_22 : decode cX0_firstDouble 22 = .ok (.invokestatic 35, 3) := by decide +kernel
theorem dX0_firstDouble_25 : decode cX0_firstDouble 25 = .ok (.aload_n 0, 1) := by decide +kernel
theorem dX0_firstDouble_26 : decode cX0_firstDouble 26 = .ok (.getfield 9, 3) := by decide +kernel
theorem dX0_firstDouble_29 : decode cX0_firstDouble 29 = .ok (.iload_n 1, 1) := by decide +kernel
theorem dX0_firstDouble_30 : decode cX0_firstDouble 30 = .ok (.invokestatic 35, 3) := by decide +kernel
theorem dX0_firstDouble_33 : decode cX0_firstDouble 33 = .ok (.if_icmp .ne 5, 3) := by decide +kernel
theorem dX0_firstDouble_36 : decode cX0_firstDouble 36 = .ok (.iload_n 1, 1) := by decide +kernel
theorem dX0_firstDouble_37 : decode cX0_firstDouble 37 = .ok (.ireturn, 1) := by decide +kernel
theorem dX0_firstDouble_38 : decode cX0_firstDouble 38 = .ok (.iinc 2 1, 3) := by decide +kernel
theorem dX0_firstDouble_41 : decode cX0_firstDouble 41 = .ok (.goto (-29), 3) := by decide +kernel
theorem dX0_firstDouble_44 : decode cX0_firstDouble 44 = .ok (.iinc 1 1, 3) := by decide +kernel
theorem dX0_firstDouble_47 : decode cX0_firstDouble 47 = .ok (.goto (-45), 3) := by decide +kernel
theorem dX0_firstDouble_50 : decode cX0_firstDouble 50 = .ok (.iconst (-1), 1) := by decide +kernel
theorem dX0_firstDouble_51 : decode cX0_firstDouble 51 = .ok (.ireturn, 1) := by decide +kernel
theorem dX0_firstFall_0 : decode cX0_firstFall 0 = .ok (.iconst 1, 1) := by decide +kernel
theorem dX0_firstFall_1 : decode cX0_firstFall 1 = .ok (.istore_n 1, 1) := by decide +kernel
theorem dX0_firstFall_2 : decode cX0_firstFall 2 = .ok (.iload_n 1, 1) := by decide +kernel
theorem dX0_firstFall_3 : decode cX0_firstFall 3 = .ok (.aload_n 0, 1) := by decide +kernel
theorem dX0_firstFall_4 : decode cX0_firstFall 4 = .ok (.getfield 27, 3) := by decide +kernel
theorem dX0_firstFall_7 : decode cX0_firstFall 7 = .ok (.if_icmp .ge 32, 3) := by decide +kernel
theorem dX0_firstFall_10 : decode cX0_firstFall 10 = .ok (.aload_n 0, 1) := by decide +kernel
theorem dX0_firstFall_11 : decode cX0_firstFall 11 = .ok (.getfield 9, 3) := by decide +kernel
theorem dX0_firstFall_14 : decode cX0_firstFall 14 = .ok (.iload_n 1, 1) := by decide +kernel
theorem dX0_firstFall_15 : decode cX0_firstFall 15 = .ok (.invokestatic 35, 3) := by decide +kernel
theorem dX0_firstFall_18 : decode cX0_firstFall 18 = .ok (.aload_n 0, 1) := by decide +kernel
theorem dX0_firstFall_19 : decode cX0_firstFall 19 = .ok (.getfield 9, 3) := by decide +kernel
theorem dX0_firstFall_22 : decode cX0_firstFall 22 = .ok (.iload_n 1, 1) := by decide +kernel
theorem dX0_firstFall_23 : decode cX0_firstFall 23 = .ok (.iconst 1, 1) := by decide +kernel
theorem dX0_firstFall_24 : decode cX0_firstFall 24 = .ok (.isub, 1) := by decide +kernel
theorem dX0_firstFall_25 : decode cX0_firstFall 25 = .ok (.invokestatic 35, 3) := by decide +kernel
theorem dX0_firstFall_28 : decode cX0_firstFall 28 = .ok (.if_icmp .ge 5, 3) := by decide +kernel
theorem dX0_firstFall_31 : decode cX0_firstFall 31 = .ok (.iload_n 1, 1) := by decide +kernel
theorem dX0_firstFall_32 : decode cX0_firstFall 32 = .ok (.ireturn, 1) := by decide +kernel
theorem dX0_firstFall_33 : decode cX0_firstFall 33 = .ok (.iinc 1 1, 3) := by decide +kernel
theorem dX0_firstFall_36 : decode cX0_firstFall 36 = .ok (.goto (-34), 3) := by decide +kernel
theorem dX0_firstFall_39 : decode cX0_firstFall 39 = .ok (.iconst (-1), 1) := by decide +kernel
theorem dX0_firstFall_40 : decode cX0_firstFall 40 = .ok (.ireturn, 1) := by decide +kernel
theorem dX0_greaterAheadOf_0 : decode cX0_greaterAheadOf 0 = .ok (.iconst 0, 1) := by decide +kernel
theorem dX0_greaterAheadOf_1 : decode cX0_greaterAheadOf 1 = .ok (.istore_n 2, 1) := by decide +kernel
theorem dX0_greaterAheadOf_2 : decode cX0_greaterAheadOf 2 = .ok (.iconst 0, 1) := by decide +kernel
theorem dX0_greaterAheadOf_3 : decode cX0_greaterAheadOf 3 = .ok (.istore_n 3, 1) := by decide +kernel
theorem dX0_greaterAheadOf_4 : decode cX0_greaterAheadOf 4 = .ok (.iload_n 3, 1) := by decide +kernel
theorem dX0_greaterAheadOf_5 : decode cX0_greaterAheadOf 5 = .ok (.iload_n 1, 1) := by decide +kernel
theorem dX0_greaterAheadOf_6 : decode cX0_greaterAheadOf 6 = .ok (.if_icmp .ge 39, 3) := by decide +kernel
theorem dX0_greaterAheadOf_9 : decode cX0_greaterAheadOf 9 = .ok (.iload_n 3, 1) := by decide +kernel
theorem dX0_greaterAheadOf_10 : decode cX0_greaterAheadOf 10 = .ok (.aload_n 0, 1) := by decide +kernel
theorem dX0_greaterAheadOf_11 : decode cX0_greaterAheadOf 11 = .ok (.getfield 27, 3) := by decide +kernel
theorem dX0_greaterAheadOf_14 : decode cX0_greaterAheadOf 14 = .ok (.if_icmp .ge 31, 3) := by decide +kernel
theorem dX0_greaterAheadOf_17 : decode cX0_greaterAheadOf 17 = .ok (.aload_n 0, 1) := by decide +kernel
theorem dX0_greaterAheadOf_18 : decode cX0_greaterAheadOf 18 = .ok (.getfield 9, 3) := by decide +kernel
theorem dX0_greaterAheadOf_21 : decode cX0_greaterAheadOf 21 = .ok (.iload_n 3, 1) := by decide +kernel
theorem dX0_greaterAheadOf_22 : decode cX0_greaterAheadOf 22 = .ok (.invokestatic 35, 3) := by decide +kernel
theorem dX0_greaterAheadOf_25 : decode cX0_greaterAheadOf 25 = .ok (.aload_n 0, 1) := by decide +kernel
theorem dX0_greaterAheadOf_26 : decode cX0_greaterAheadOf 26 = .ok (.getfield 9, 3) := by decide +kernel
theorem dX0_greaterAheadOf_29 : decode cX0_greaterAheadOf 29 = .ok (.iload_n 1, 1) := by decide +kernel
theorem dX0_greaterAheadOf_30 : decode cX0_greaterAheadOf 30 = .ok (.invokestatic 35, 3) := by decide +kernel
theorem dX0_greaterAheadOf_33 : decode cX0_greaterAheadOf 33 = .ok (.if_icmp .le 6, 3) := by decide +kernel
theorem dX0_greaterAheadOf_36 : decode cX0_greaterAheadOf 36 = .ok (.iinc 2 1, 3) := by decide +kernel
theorem dX0_greaterAheadOf_39 : decode cX0_greaterAheadOf 39 = .ok (.iinc 3 1, 3) := by decide +kernel
theorem dX0_greaterAheadOf_42 : decode cX0_greaterAheadOf 42 = .ok (.goto (-38), 3) := by decide +kernel
theorem dX0_greaterAheadOf_45 : decode cX0_greaterAheadOf 45 = .ok (.iload_n 2, 1) := by decide +kernel
theorem dX0_greaterAheadOf_46 : decode cX0_greaterAheadOf 46 = .ok (.ireturn, 1) := by decide +kernel
theorem dX0_fallingPairs_0 : decode cX0_fallingPairs 0 = .ok (.iconst 0, 1) := by decide +kernel
theorem dX0_fallingPairs_1 : decode cX0_fallingPairs 1 = .ok (.istore_n 1, 1) := by decide +kernel
theorem dX0_fallingPairs_2 : decode cX0_fallingPairs 2 = .ok (.iconst 0, 1) := by decide +kernel
theorem dX0_fallingPairs_3 : decode cX0_fallingPairs 3 = .ok (.istore_n 2, 1) := by decide +kernel
theorem dX0_fallingPairs_4 : decode cX0_fallingPairs 4 = .ok (.iload_n 2, 1) := by decide +kernel
theorem dX0_fallingPairs_5 : decode cX0_fallingPairs 5 = .ok (.aload_n 0, 1) := by decide +kernel
theorem dX0_fallingPairs_6 : decode cX0_fallingPairs 6 = .ok (.getfield 27, 3) := by decide +kernel
theorem dX0_fallingPairs_9 : decode cX0_fallingPairs 9 = .ok (.if_icmp .ge 17, 3) := by decide +kernel
theorem dX0_fallingPairs_12 : decode cX0_fallingPairs 12 = .ok (.iload_n 1, 1) := by decide +kernel
theorem dX0_fallingPairs_13 : decode cX0_fallingPairs 13 = .ok (.aload_n 0, 1) := by decide +kernel
theorem dX0_fallingPairs_14 : decode cX0_fallingPairs 14 = .ok (.iload_n 2, 1) := by decide +kernel
theorem dX0_fallingPairs_15 : decode cX0_fallingPairs 15 = .ok (.invokevirtual 55, 3) := by decide +kernel
theorem dX0_fallingPairs_18 : decode cX0_fallingPairs 18 = .ok (.iadd, 1) := by decide +kernel
theorem dX0_fallingPairs_19 : decode cX0_fallingPairs 19 = .ok (.istore_n 1, 1) := by decide +kernel
theorem dX0_fallingPairs_20 : decode cX0_fallingPairs 20 = .ok (.iinc 2 1, 3) := by decide +kernel
theorem dX0_fallingPairs_23 : decode cX0_fallingPairs 23 = .ok (.goto (-19), 3) := by decide +kernel
theorem dX0_fallingPairs_26 : decode cX0_fallingPairs 26 = .ok (.iload_n 1, 1) := by decide +kernel
theorem dX0_fallingPairs_27 : decode cX0_fallingPairs 27 = .ok (.ireturn, 1) := by decide +kernel
theorem dX0_fewestMovesBySheets_0 : decode cX0_fewestMovesBySheets 0 = .ok (.aload_n 0, 1) := by decide +kernel
theorem dX0_fewestMovesBySheets_1 : decode cX0_fewestMovesBySheets 1 = .ok (.getfield 27, 3) := by decide +kernel
theorem dX0_fewestMovesBySheets_4 : decode cX0_fewestMovesBySheets 4 = .ok (.aload_n 0, 1) := by decide +kernel
theorem dX0_fewestMovesBySheets_5 : decode cX0_fewestMovesBySheets 5 = .ok (.invokevirtual 59, 3) := by decide +kernel
theorem dX0_fewestMovesBySheets_8 : decode cX0_fewestMovesBySheets 8 = .ok (.isub, 1) := by decide +kernel
theorem dX0_fewestMovesBySheets_9 : decode cX0_fewestMovesBySheets 9 = .ok (.ireturn, 1) := by decide +kernel
theorem dX0_fewestMovesByPiles_0 : decode cX0_fewestMovesByPiles 0 = .ok (.aload_n 0, 1) := by decide +kernel
theorem dX0_fewestMovesByPiles_1 : decode cX0_fewestMovesByPiles 1 = .ok (.getfield 27, 3) := by decide +kernel
theorem dX0_fewestMovesByPiles_4 : decode cX0_fewestMovesByPiles 4 = .ok (.aload_n 0, 1) := by decide +kernel
theorem dX0_fewestMovesByPiles_5 : decode cX0_fewestMovesByPiles 5 = .ok (.invokevirtual 63, 3) := by decide +kernel
theorem dX0_fewestMovesByPiles_8 : decode cX0_fewestMovesByPiles 8 = .ok (.isub, 1) := by decide +kernel
theorem dX0_fewestMovesByPiles_9 : decode cX0_fewestMovesByPiles 9 = .ok (.ireturn, 1) := by decide +kernel
theorem dX0_longestRowBySheets_0 : decode cX0_longestRowBySheets 0 = .ok (.aload_n 0, 1) := by decide +kernel
theorem dX0_longestRowBySheets_1 : decode cX0_longestRowBySheets 1 = .ok (.invokevirtual 66, 3) := by decide +kernel
theorem dX0_longestRowBySheets_4 : decode cX0_longestRowBySheets 4 = .ok (.iconst 0, 1) := by decide +kernel
theorem dX0_longestRowBySheets_5 : decode cX0_longestRowBySheets 5 = .ok (.istore_n 1, 1) := by decide +kernel
theorem dX0_longestRowBySheets_6 : decode cX0_longestRowBySheets 6 = .ok (.iconst 0, 1) := by decide +kernel
theorem dX0_longestRowBySheets_7 : decode cX0_longestRowBySheets 7 = .ok (.istore_n 2, 1) := by decide +kernel
theorem dX0_longestRowBySheets_8 : decode cX0_longestRowBySheets 8 = .ok (.iload_n 2, 1) := by decide +kernel
theorem dX0_longestRowBySheets_9 : decode cX0_longestRowBySheets 9 = .ok (.aload_n 0, 1) := by decide +kernel
theorem dX0_longestRowBySheets_10 : decode cX0_longestRowBySheets 10 = .ok (.getfield 27, 3) := by decide +kernel
theorem dX0_longestRowBySheets_13 : decode cX0_longestRowBySheets 13 = .ok (.if_icmp .ge 22, 3) := by decide +kernel
theorem dX0_longestRowBySheets_16 : decode cX0_longestRowBySheets 16 = .ok (.iload_n 1, 1) := by decide +kernel
theorem dX0_longestRowBySheets_17 : decode cX0_longestRowBySheets 17 = .ok (.aload_n 0, 1) := by decide +kernel
theorem dX0_longestRowBySheets_18 : decode cX0_longestRowBySheets 18 = .ok (.getfield 18, 3) := by decide +kernel
theorem dX0_longestRowBySheets_21 : decode cX0_longestRowBySheets 21 = .ok (.iload_n 2, 1) := by decide +kernel
theorem dX0_longestRowBySheets_22 : decode cX0_longestRowBySheets 22 = .ok (.invokestatic 35, 3) := by decide +kernel
theorem dX0_longestRowBySheets_25 : decode cX0_longestRowBySheets 25 = .ok (.invokestatic 69, 3) := by decide +kernel
theorem dX0_longestRowBySheets_28 : decode cX0_longestRowBySheets 28 = .ok (.istore_n 1, 1) := by decide +kernel
theorem dX0_longestRowBySheets_29 : decode cX0_longestRowBySheets 29 = .ok (.iinc 2 1, 3) := by decide +kernel
theorem dX0_longestRowBySheets_32 : decode cX0_longestRowBySheets 32 = .ok (.goto (-24), 3) := by decide +kernel
theorem dX0_longestRowBySheets_35 : decode cX0_longestRowBySheets 35 = .ok (.iload_n 1, 1) := by decide +kernel
theorem dX0_longestRowBySheets_36 : decode cX0_longestRowBySheets 36 = .ok (.ireturn, 1) := by decide +kernel
theorem dX0_findLongestEnding_0 : decode cX0_findLongestEnding 0 = .ok (.iconst 0, 1) := by decide +kernel
theorem dX0_findLongestEnding_1 : decode cX0_findLongestEnding 1 = .ok (.istore_n 1, 1) := by decide +kernel
theorem dX0_findLongestEnding_2 : decode cX0_findLongestEnding 2 = .ok (.iload_n 1, 1) := by decide +kernel
theorem dX0_findLongestEnding_3 : decode cX0_findLongestEnding 3 = .ok (.aload_n 0, 1) := by decide +kernel
theorem dX0_findLongestEnding_4 : decode cX0_findLongestEnding 4 = .ok (.getfield 27, 3) := by decide +kernel
theorem dX0_findLongestEnding_7 : decode cX0_findLongestEnding 7 = .ok (.if_icmp .ge 32, 3) := by decide +kernel
theorem dX0_findLongestEnding_10 : decode cX0_findLongestEnding 10 = .ok (.aload_n 0, 1) := by decide +kernel
theorem dX0_findLongestEnding_11 : decode cX0_findLongestEnding 11 = .ok (.getfield 18, 3) := by decide +kernel
theorem dX0_findLongestEnding_14 : decode cX0_findLongestEnding 14 = .ok (.iload_n 1, 1) := by decide +kernel
theorem dX0_findLongestEnding_15 : decode cX0_findLongestEnding 15 = .ok (.iconst 1, 1) := by decide +kernel
theorem dX0_findLongestEnding_16 : decode cX0_findLongestEnding 16 = .ok (.aload_n 0, 1) := by decide +kernel
theorem dX0_findLongestEnding_17 : decode cX0_findLongestEnding 17 = .ok (.iload_n 1, 1) := by decide +kernel
theorem dX0_findLongestEnding_18 : decode cX0_findLongestEnding 18 = .ok (.aload_n 0, 1) := by decide +kernel
theorem dX0_findLongestEnding_19 : decode cX0_findLongestEnding 19 = .ok (.getfield 9, 3) := by decide +kernel
theorem dX0_findLongestEnding_22 : decode cX0_findLongestEnding 22 = .ok (.iload_n 1, 1) := by decide +kernel
theorem dX0_findLongestEnding_23 : decode cX0_findLongestEnding 23 = .ok (.invokestatic 35, 3) := by decide +kernel
theorem dX0_findLongestEnding_26 : decode cX0_findLongestEnding 26 = .ok (.invokevirtual 75, 3) := by decide +kernel
theorem dX0_findLongestEnding_29 : decode cX0_findLongestEnding 29 = .ok (.iadd, 1) := by decide +kernel
theorem dX0_findLongestEnding_30 : decode cX0_findLongestEnding 30 = .ok (.invokestatic 39, 3) := by decide +kernel
theorem dX0_findLongestEnding_33 : decode cX0_findLongestEnding 33 = .ok (.iinc 1 1, 3) := by decide +kernel
theorem dX0_findLongestEnding_36 : decode cX0_findLongestEnding 36 = .ok (.goto (-34), 3) := by decide +kernel
theorem dX0_findLongestEnding_39 : decode cX0_findLongestEnding 39 = .ok (.return_, 1) := by decide +kernel
theorem dX0_findLongestBeginning_0 : decode cX0_findLongestBeginning 0 = .ok (.aload_n 0, 1) := by decide +kernel
theorem dX0_findLongestBeginning_1 : decode cX0_findLongestBeginning 1 = .ok (.getfield 27, 3) := by decide +kernel
theorem dX0_findLongestBeginning_4 : decode cX0_findLongestBeginning 4 = .ok (.iconst 1, 1) := by decide +kernel
theorem dX0_findLongestBeginning_5 : decode cX0_findLongestBeginning 5 = .ok (.isub, 1) := by decide +kernel
theorem dX0_findLongestBeginning_6 : decode cX0_findLongestBeginning 6 = .ok (.istore_n 1, 1) := by decide +kernel
theorem dX0_findLongestBeginning_7 : decode cX0_findLongestBeginning 7 = .ok (.iload_n 1, 1) := by decide +kernel
theorem dX0_findLongestBeginning_8 : decode cX0_findLongestBeginning 8 = .ok (.ifCond .lt 34, 3) := by decide +kernel
theorem dX0_findLongestBeginning_11 : decode cX0_findLongestBeginning 11 = .ok (.aload_n 0, 1) := by decide +kernel
theorem dX0_findLongestBeginning_12 : decode cX0_findLongestBeginning 12 = .ok (.getfield 21, 3) := by decide +kernel
theorem dX0_findLongestBeginning_15 : decode cX0_findLongestBeginning 15 = .ok (.iload_n 1, 1) := by decide +kernel
theorem dX0_findLongestBeginning_16 : decode cX0_findLongestBeginning 16 = .ok (.iconst 1, 1) := by decide +kernel
theorem dX0_findLongestBeginning_17 : decode cX0_findLongestBeginning 17 = .ok (.aload_n 0, 1) := by decide +kernel
theorem dX0_findLongestBeginning_18 : decode cX0_findLongestBeginning 18 = .ok (.iload_n 1, 1) := by decide +kernel
theorem dX0_findLongestBeginning_19 : decode cX0_findLongestBeginning 19 = .ok (.iconst 1, 1) := by decide +kernel
theorem dX0_findLongestBeginning_20 : decode cX0_findLongestBeginning 20 = .ok (.iadd, 1) := by decide +kernel
theorem dX0_findLongestBeginning_21 : decode cX0_findLongestBeginning 21 = .ok (.aload_n 0, 1) := by decide +kernel
theorem dX0_findLongestBeginning_22 : decode cX0_findLongestBeginning 22 = .ok (.getfield 9, 3) := by decide +kernel
theorem dX0_findLongestBeginning_25 : decode cX0_findLongestBeginning 25 = .ok (.iload_n 1, 1) := by decide +kernel
theorem dX0_findLongestBeginning_26 : decode cX0_findLongestBeginning 26 = .ok (.invokestatic 35, 3) := by decide +kernel
theorem dX0_findLongestBeginning_29 : decode cX0_findLongestBeginning 29 = .ok (.invokevirtual 78, 3) := by decide +kernel
theorem dX0_findLongestBeginning_32 : decode cX0_findLongestBeginning 32 = .ok (.iadd, 1) := by decide +kernel
theorem dX0_findLongestBeginning_33 : decode cX0_findLongestBeginning 33 = .ok (.invokestatic 39, 3) := by decide +kernel
theorem dX0_findLongestBeginning_36 : decode cX0_findLongestBeginning 36 = .ok (.iinc 1 (-1), 3) := by decide +kernel
theorem dX0_findLongestBeginning_39 : decode cX0_findLongestBeginning 39 = .ok (.goto (-32), 3) := by decide +kernel
theorem dX0_findLongestBeginning_42 : decode cX0_findLongestBeginning 42 = .ok (.return_, 1) := by decide +kernel
theorem dX0_longestAhead_0 : decode cX0_longestAhead 0 = .ok (.iconst 0, 1) := by decide +kernel
theorem dX0_longestAhead_1 : decode cX0_longestAhead 1 = .ok (.istore_n 3, 1) := by decide +kernel
theorem dX0_longestAhead_2 : decode cX0_longestAhead 2 = .ok (.iconst 0, 1) := by decide +kernel
theorem dX0_longestAhead_3 : decode cX0_longestAhead 3 = .ok (.istore 4, 2) := by decide +kernel
theorem dX0_longestAhead_5 : decode cX0_longestAhead 5 = .ok (.iload 4, 2) := by decide +kernel
theorem dX0_longestAhead_7 : decode cX0_longestAhead 7 = .ok (.iload_n 1, 1) := by decide +kernel
theorem dX0_longestAhead_8 : decode cX0_longestAhead 8 = .ok (.if_icmp .ge 45, 3) := by decide +kernel
theorem dX0_longestAhead_11 : decode cX0_longestAhead 11 = .ok (.iload 4, 2) := by decide +kernel
theorem dX0_longestAhead_13 : decode cX0_longestAhead 13 = .ok (.aload_n 0, 1) := by decide +kernel
theorem dX0_longestAhead_14 : decode cX0_longestAhead 14 = .ok (.getfield 27, 3) := by decide +kernel
theorem dX0_longestAhead_17 : decode cX0_longestAhead 17 = .ok (.if_icmp .ge 36, 3) := by decide +kernel
theorem dX0_longestAhead_20 : decode cX0_longestAhead 20 = .ok (.aload_n 0, 1) := by decide +kernel
theorem dX0_longestAhead_21 : decode cX0_longestAhead 21 = .ok (.getfield 9, 3) := by decide +kernel
theorem dX0_longestAhead_24 : decode cX0_longestAhead 24 = .ok (.iload 4, 2) := by decide +kernel
theorem dX0_longestAhead_26 : decode cX0_longestAhead 26 = .ok (.invokestatic 35, 3) := by decide +kernel
theorem dX0_longestAhead_29 : decode cX0_longestAhead 29 = .ok (.iload_n 2, 1) := by decide +kernel
theorem dX0_longestAhead_30 : decode cX0_longestAhead 30 = .ok (.if_icmp .gt 17, 3) := by decide +kernel
theorem dX0_longestAhead_33 : decode cX0_longestAhead 33 = .ok (.iload_n 3, 1) := by decide +kernel
theorem dX0_longestAhead_34 : decode cX0_longestAhead 34 = .ok (.aload_n 0, 1) := by decide +kernel
theorem dX0_longestAhead_35 : decode cX0_longestAhead 35 = .ok (.getfield 18, 3) := by decide +kernel
theorem dX0_longestAhead_38 : decode cX0_longestAhead 38 = .ok (.iload 4, 2) := by decide +kernel
theorem dX0_longestAhead_40 : decode cX0_longestAhead 40 = .ok (.invokestatic 35, 3) := by decide +kernel
theorem dX0_longestAhead_43 : decode cX0_longestAhead 43 = .ok (.invokestatic 69, 3) := by decide +kernel
theorem dX0_longestAhead_46 : decode cX0_longestAhead 46 = .ok (.istore_n 3, 1) := by decide +kernel
theorem dX0_longestAhead_47 : decode cX0_longestAhead 47 = .ok (.iinc 4 1, 3) := by decide +kernel
theorem dX0_longestAhead_50 : decode cX0_longestAhead 50 = .ok (.goto (-45), 3) := by decide +kernel
theorem dX0_longestAhead_53 : decode cX0_longestAhead 53 = .ok (.iload_n 3, 1) := by decide +kernel
theorem dX0_longestAhead_54 : decode cX0_longestAhead 54 = .ok (.ireturn, 1) := by decide +kernel
theorem dX0_longestFrom_0 : decode cX0_longestFrom 0 = .ok (.iconst 0, 1) := by decide +kernel
theorem dX0_longestFrom_1 : decode cX0_longestFrom 1 = .ok (.istore_n 3, 1) := by decide +kernel
theorem dX0_longestFrom_2 : decode cX0_longestFrom 2 = .ok (.iload_n 1, 1) := by decide +kernel
theorem dX0_longestFrom_3 : decode cX0_longestFrom 3 = .ok (.istore 4, 2) := by decide +kernel
theorem dX0_longestFrom_5 : decode cX0_longestFrom 5 = .ok (.iload 4, 2) := by decide +kernel
theorem dX0_longestFrom_7 : decode cX0_longestFrom 7 = .ok (.aload_n 0, 1) := by decide +kernel
theorem dX0_longestFrom_8 : decode cX0_longestFrom 8 = .ok (.getfield 27, 3) := by decide +kernel
theorem dX0_longestFrom_11 : decode cX0_longestFrom 11 = .ok (.if_icmp .ge 36, 3) := by decide +kernel
theorem dX0_longestFrom_14 : decode cX0_longestFrom 14 = .ok (.aload_n 0, 1) := by decide +kernel
theorem dX0_longestFrom_15 : decode cX0_longestFrom 15 = .ok (.getfield 9, 3) := by decide +kernel
theorem dX0_longestFrom_18 : decode cX0_longestFrom 18 = .ok (.iload 4, 2) := by decide +kernel
theorem dX0_longestFrom_20 : decode cX0_longestFrom 20 = .ok (.invokestatic 35, 3) := by decide +kernel
theorem dX0_longestFrom_23 : decode cX0_longestFrom 23 = .ok (.iload_n 2, 1) := by decide +kernel
theorem dX0_longestFrom_24 : decode cX0_longestFrom 24 = .ok (.if_icmp .lt 17, 3) := by decide +kernel
theorem dX0_longestFrom_27 : decode cX0_longestFrom 27 = .ok (.iload_n 3, 1) := by decide +kernel
theorem dX0_longestFrom_28 : decode cX0_longestFrom 28 = .ok (.aload_n 0, 1) := by decide +kernel
theorem dX0_longestFrom_29 : decode cX0_longestFrom 29 = .ok (.getfield 21, 3) := by decide +kernel
theorem dX0_longestFrom_32 : decode cX0_longestFrom 32 = .ok (.iload 4, 2) := by decide +kernel
theorem dX0_longestFrom_34 : decode cX0_longestFrom 34 = .ok (.invokestatic 35, 3) := by decide +kernel
theorem dX0_longestFrom_37 : decode cX0_longestFrom 37 = .ok (.invokestatic 69, 3) := by decide +kernel
theorem dX0_longestFrom_40 : decode cX0_longestFrom 40 = .ok (.istore_n 3, 1) := by decide +kernel
theorem dX0_longestFrom_41 : decode cX0_longestFrom 41 = .ok (.iinc 4 1, 3) := by decide +kernel
theorem dX0_longestFrom_44 : decode cX0_longestFrom 44 = .ok (.goto (-39), 3) := by decide +kernel
theorem dX0_longestFrom_47 : decode cX0_longestFrom 47 = .ok (.iload_n 3, 1) := by decide +kernel
theorem dX0_longestFrom_48 : decode cX0_longestFrom 48 = .ok (.ireturn, 1) := by decide +kernel
theorem dX0_pilesOfSheets_0 : decode cX0_pilesOfSheets 0 = .ok (.iconst 0, 1) := by decide +kernel
theorem dX0_pilesOfSheets_1 : decode cX0_pilesOfSheets 1 = .ok (.istore_n 1, 1) := by decide +kernel
theorem dX0_pilesOfSheets_2 : decode cX0_pilesOfSheets 2 = .ok (.iconst 0, 1) := by decide +kernel
theorem dX0_pilesOfSheets_3 : decode cX0_pilesOfSheets 3 = .ok (.istore_n 2, 1) := by decide +kernel
theorem dX0_pilesOfSheets_4 : decode cX0_pilesOfSheets 4 = .ok (.iload_n 2, 1) := by decide +kernel
theorem dX0_pilesOfSheets_5 : decode cX0_pilesOfSheets 5 = .ok (.aload_n 0, 1) := by decide +kernel
theorem dX0_pilesOfSheets_6 : decode cX0_pilesOfSheets 6 = .ok (.getfield 27, 3) := by decide +kernel
theorem dX0_pilesOfSheets_9 : decode cX0_pilesOfSheets 9 = .ok (.if_icmp .ge 65, 3) := by decide +kernel
theorem dX0_pilesOfSheets_12 : decode cX0_pilesOfSheets 12 = .ok (.aload_n 0, 1) := by decide +kernel
theorem dX0_pilesOfSheets_13 : decode cX0_pilesOfSheets 13 = .ok (.getfield 9, 3) := by decide +kernel
theorem dX0_pilesOfSheets_16 : decode cX0_pilesOfSheets 16 = .ok (.iload_n 2, 1) := by decide +kernel
theorem dX0_pilesOfSheets_17 : decode cX0_pilesOfSheets 17 = .ok (.invokestatic 35, 3) := by decide +kernel
theorem dX0_pilesOfSheets_20 : decode cX0_pilesOfSheets 20 = .ok (.istore_n 3, 1) := by decide +kernel
theorem dX0_pilesOfSheets_21 : decode cX0_pilesOfSheets 21 = .ok (.iconst 0, 1) := by decide +kernel
theorem dX0_pilesOfSheets_22 : decode cX0_pilesOfSheets 22 = .ok (.istore 4, 2) := by decide +kernel
theorem dX0_pilesOfSheets_24 : decode cX0_pilesOfSheets 24 = .ok (.iload 4, 2) := by decide +kernel
theorem dX0_pilesOfSheets_26 : decode cX0_pilesOfSheets 26 = .ok (.iload_n 1, 1) := by decide +kernel
theorem dX0_pilesOfSheets_27 : decode cX0_pilesOfSheets 27 = .ok (.if_icmp .ge 22, 3) := by decide +kernel
theorem dX0_pilesOfSheets_30 : decode cX0_pilesOfSheets 30 = .ok (.aload_n 0, 1) := by decide +kernel
theorem dX0_pilesOfSheets_31 : decode cX0_pilesOfSheets 31 = .ok (.getfield 24, 3) := by decide +kernel
theorem dX0_pilesOfSheets_34 : decode cX0_pilesOfSheets 34 = .ok (.iload 4, 2) := by decide +kernel
theorem dX0_pilesOfSheets_36 : decode cX0_pilesOfSheets 36 = .ok (.invokestatic 35, 3) := by decide +kernel
theorem dX0_pilesOfSheets_39 : decode cX0_pilesOfSheets 39 = .ok (.iload_n 3, 1) := by decide +kernel
theorem dX0_pilesOfSheets_40 : decode cX0_pilesOfSheets 40 = .ok (.if_icmp .gt 9, 3) := by decide +kernel
theorem dX0_pilesOfSheets_43 : decode cX0_pilesOfSheets 43 = .ok (.iinc 4 1, 3) := by decide +kernel
theorem dX0_pilesOfSheets_46 : decode cX0_pilesOfSheets 46 = .ok (.goto (-22), 3) := by decide +kernel
theorem dX0_pilesOfSheets_49 : decode cX0_pilesOfSheets 49 = .ok (.aload_n 0, 1) := by decide +kernel
theorem dX0_pilesOfSheets_50 : decode cX0_pilesOfSheets 50 = .ok (.getfield 24, 3) := by decide +kernel
theorem dX0_pilesOfSheets_53 : decode cX0_pilesOfSheets 53 = .ok (.iload 4, 2) := by decide +kernel
theorem dX0_pilesOfSheets_55 : decode cX0_pilesOfSheets 55 = .ok (.iload_n 3, 1) := by decide +kernel
theorem dX0_pilesOfSheets_56 : decode cX0_pilesOfSheets 56 = .ok (.invokestatic 39, 3) := by decide +kernel
theorem dX0_pilesOfSheets_59 : decode cX0_pilesOfSheets 59 = .ok (.iload_n 1, 1) := by decide +kernel
theorem dX0_pilesOfSheets_60 : decode cX0_pilesOfSheets 60 = .ok (.iload 4, 2) := by decide +kernel
theorem dX0_pilesOfSheets_62 : decode cX0_pilesOfSheets 62 = .ok (.iconst 1, 1) := by decide +kernel
theorem dX0_pilesOfSheets_63 : decode cX0_pilesOfSheets 63 = .ok (.iadd, 1) := by decide +kernel
theorem dX0_pilesOfSheets_64 : decode cX0_pilesOfSheets 64 = .ok (.invokestatic 69, 3) := by decide +kernel
theorem dX0_pilesOfSheets_67 : decode cX0_pilesOfSheets 67 = .ok (.istore_n 1, 1) := by decide +kernel
theorem dX0_pilesOfSheets_68 : decode cX0_pilesOfSheets 68 = .ok (.iinc 2 1, 3) := by decide +kernel
theorem dX0_pilesOfSheets_71 : decode cX0_pilesOfSheets 71 = .ok (.goto (-67), 3) := by decide +kernel
theorem dX0_pilesOfSheets_74 : decode cX0_pilesOfSheets 74 = .ok (.iload_n 1, 1) := by decide +kernel
theorem dX0_pilesOfSheets_75 : decode cX0_pilesOfSheets 75 = .ok (.ireturn, 1) := by decide +kernel
theorem dX0_placeThatMakesRowOf_0 : decode cX0_placeThatMakesRowOf 0 = .ok (.aload_n 0, 1) := by decide +kernel
theorem dX0_placeThatMakesRowOf_1 : decode cX0_placeThatMakesRowOf 1 = .ok (.invokevirtual 66, 3) := by decide +kernel
theorem dX0_placeThatMakesRowOf_4 : decode cX0_placeThatMakesRowOf 4 = .ok (.aload_n 0, 1) := by decide +kernel
theorem dX0_placeThatMakesRowOf_5 : decode cX0_placeThatMakesRowOf 5 = .ok (.invokevirtual 81, 3) := by decide +kernel
theorem dX0_placeThatMakesRowOf_8 : decode cX0_placeThatMakesRowOf 8 = .ok (.iconst 0, 1) := by decide +kernel
theorem dX0_placeThatMakesRowOf_9 : decode cX0_placeThatMakesRowOf 9 = .ok (.istore_n 3, 1) := by decide +kernel
theorem dX0_placeThatMakesRowOf_10 : decode cX0_placeThatMakesRowOf 10 = .ok (.iload_n 3, 1) := by decide +kernel
theorem dX0_placeThatMakesRowOf_11 : decode cX0_placeThatMakesRowOf 11 = .ok (.aload_n 0, 1) := by decide +kernel
theorem dX0_placeThatMakesRowOf_12 : decode cX0_placeThatMakesRowOf 12 = .ok (.getfield 27, 3) := by decide +kernel
theorem dX0_placeThatMakesRowOf_15 : decode cX0_placeThatMakesRowOf 15 = .ok (.if_icmp .gt 30, 3) := by decide +kernel
theorem dX0_placeThatMakesRowOf_18 : decode cX0_placeThatMakesRowOf 18 = .ok (.aload_n 0, 1) := by decide +kernel
theorem dX0_placeThatMakesRowOf_19 : decode cX0_placeThatMakesRowOf 19 = .ok (.iload_n 3, 1) := by decide +kernel
theorem dX0_placeThatMakesRowOf_20 : decode cX0_placeThatMakesRowOf 20 = .ok (.iload_n 2, 1) := by decide +kernel
theorem dX0_placeThatMakesRowOf_21 : decode cX0_placeThatMakesRowOf 21 = .ok (.invokevirtual 75, 3) := by decide +kernel
theorem dX0_placeThatMakesRowOf_24 : decode cX0_placeThatMakesRowOf 24 = .ok (.iconst 1, 1) := by decide +kernel
theorem dX0_placeThatMakesRowOf_25 : decode cX0_placeThatMakesRowOf 25 = .ok (.iadd, 1) := by decide +kernel
theorem dX0_placeThatMakesRowOf_26 : decode cX0_placeThatMakesRowOf 26 = .ok (.aload_n 0, 1) := by decide +kernel
theorem dX0_placeThatMakesRowOf_27 : decode cX0_placeThatMakesRowOf 27 = .ok (.iload_n 3, 1) := by decide +kernel
theorem dX0_placeThatMakesRowOf_28 : decode cX0_placeThatMakesRowOf 28 = .ok (.iload_n 2, 1) := by decide +kernel
theorem dX0_placeThatMakesRowOf_29 : decode cX0_placeThatMakesRowOf 29 = .ok (.invokevirtual 78, 3) := by decide +kernel
theorem dX0_placeThatMakesRowOf_32 : decode cX0_placeThatMakesRowOf 32 = .ok (.iadd, 1) := by decide +kernel
theorem dX0_placeThatMakesRowOf_33 : decode cX0_placeThatMakesRowOf 33 = .ok (.iload_n 1, 1) := by decide +kernel
theorem dX0_placeThatMakesRowOf_34 : decode cX0_placeThatMakesRowOf 34 = .ok (.if_icmp .lt 5, 3) := by decide +kernel
theorem dX0_placeThatMakesRowOf_37 : decode cX0_placeThatMakesRowOf 37 = .ok (.iload_n 3, 1) := by decide +kernel
theorem dX0_placeThatMakesRowOf_38 : decode cX0_placeThatMakesRowOf 38 = .ok (.ireturn, 1) := by decide +kernel
theorem dX0_placeThatMakesRowOf_39 : decode cX0_placeThatMakesRowOf 39 = .ok (.iinc 3 1, 3) := by decide +kernel
theorem dX0_placeThatMakesRowOf_42 : decode cX0_placeThatMakesRowOf 42 = .ok (.goto (-32), 3) := by decide +kernel
theorem dX0_placeThatMakesRowOf_45 : decode cX0_placeThatMakesRowOf 45 = .ok (.iconst (-1), 1) := by decide +kernel
theorem dX0_placeThatMakesRowOf_46 : decode cX0_placeThatMakesRowOf 46 = .ok (.ireturn, 1) := by decide +kernel
theorem dX1_init_0 : decode cX1_init 0 = .ok (.aload_n 0, 1) := by decide +kernel
theorem dX1_init_1 : decode cX1_init 1 = .ok (.invokespecial 3, 3) := by decide +kernel
theorem dX1_init_4 : decode cX1_init 4 = .ok (.aload_n 0, 1) := by decide +kernel
theorem dX1_init_5 : decode cX1_init 5 = .ok (.bipush 6, 2) := by decide +kernel
theorem dX1_init_7 : decode cX1_init 7 = .ok (.anewarray 9, 3) := by decide +kernel
theorem dX1_init_10 : decode cX1_init 10 = .ok (.putfield 11, 3) := by decide +kernel
theorem dX1_init_13 : decode cX1_init 13 = .ok (.iconst 0, 1) := by decide +kernel
theorem dX1_init_14 : decode cX1_init 14 = .ok (.istore_n 1, 1) := by decide +kernel
theorem dX1_init_15 : decode cX1_init 15 = .ok (.iload_n 1, 1) := by decide +kernel
theorem dX1_init_16 : decode cX1_init 16 = .ok (.aload_n 0, 1) := by decide +kernel
theorem dX1_init_17 : decode cX1_init 17 = .ok (.getfield 11, 3) := by decide +kernel
theorem dX1_init_20 : decode cX1_init 20 = .ok (.arraylength, 1) := by decide +kernel
theorem dX1_init_21 : decode cX1_init 21 = .ok (.if_icmp .ge 22, 3) := by decide +kernel
theorem dX1_init_24 : decode cX1_init 24 = .ok (.aload_n 0, 1) := by decide +kernel
theorem dX1_init_25 : decode cX1_init 25 = .ok (.getfield 11, 3) := by decide +kernel
theorem dX1_init_28 : decode cX1_init 28 = .ok (.iload_n 1, 1) := by decide +kernel
theorem dX1_init_29 : decode cX1_init 29 = .ok (.new 9, 3) := by decide +kernel
theorem dX1_init_32 : decode cX1_init 32 = .ok (.dup, 1) := by decide +kernel
theorem dX1_init_33 : decode cX1_init 33 = .ok (.invokespecial 17, 3) := by decide +kernel
theorem dX1_init_36 : decode cX1_init 36 = .ok (.aastore, 1) := by decide +kernel
theorem dX1_init_37 : decode cX1_init 37 = .ok (.iinc 1 1, 3) := by decide +kernel
theorem dX1_init_40 : decode cX1_init 40 = .ok (.goto (-25), 3) := by decide +kernel
theorem dX1_init_43 : decode cX1_init 43 = .ok (.aload_n 0, 1) := by decide +kernel
theorem dX1_init_44 : decode cX1_init 44 = .ok (.iconst 0, 1) := by decide +kernel
theorem dX1_init_45 : decode cX1_init 45 = .ok (.putfield 18, 3) := by decide +kernel
theorem dX1_init_48 : decode cX1_init 48 = .ok (.return_, 1) := by decide +kernel
theorem dX1_save_0 : decode cX1_save 0 = .ok (.aload_n 0, 1) := by decide +kernel
theorem dX1_save_1 : decode cX1_save 1 = .ok (.getfield 18, 3) := by decide +kernel
theorem dX1_save_4 : decode cX1_save 4 = .ok (.aload_n 0, 1) := by decide +kernel
theorem dX1_save_5 : decode cX1_save 5 = .ok (.getfield 11, 3) := by decide +kernel
theorem dX1_save_8 : decode cX1_save 8 = .ok (.arraylength, 1) := by decide +kernel
theorem dX1_save_9 : decode cX1_save 9 = .ok (.if_icmp .lt 7, 3) := by decide +kernel
theorem dX1_save_12 : decode cX1_save 12 = .ok (.aload_n 0, 1) := by decide +kernel
theorem dX1_save_13 : decode cX1_save 13 = .ok (.invokevirtual 22, 3) := by decide +kernel
theorem dX1_save_16 : decode cX1_save 16 = .ok (.aload_n 0, 1) := by decide +kernel
theorem dX1_save_17 : decode cX1_save 17 = .ok (.getfield 18, 3) := by decide +kernel
theorem dX1_save_20 : decode cX1_save 20 = .ok (.ifCond .lt 50, 3) := by decide +kernel
theorem dX1_save_23 : decode cX1_save 23 = .ok (.aload_n 0, 1) := by decide +kernel
theorem dX1_save_24 : decode cX1_save 24 = .ok (.getfield 18, 3) := by decide +kernel
theorem dX1_save_27 : decode cX1_save 27 = .ok (.aload_n 0, 1) := by decide +kernel
theorem dX1_save_28 : decode cX1_save 28 = .ok (.getfield 11, 3) := by decide +kernel
theorem dX1_save_31 : decode cX1_save 31 = .ok (.arraylength, 1) := by decide +kernel
theorem dX1_save_32 : decode cX1_save 32 = .ok (.if_icmp .ge 38, 3) := by decide +kernel
theorem dX1_save_35 : decode cX1_save 35 = .ok (.aload_n 0, 1) := by decide +kernel
theorem dX1_save_36 : decode cX1_save 36 = .ok (.getfield 11, 3) := by decide +kernel
theorem dX1_save_39 : decode cX1_save 39 = .ok (.aload_n 0, 1) := by decide +kernel
theorem dX1_save_40 : decode cX1_save 40 = .ok (.getfield 18, 3) := by decide +kernel
theorem dX1_save_43 : decode cX1_save 43 = .ok (.aaload, 1) := by decide +kernel
theorem dX1_save_44 : decode cX1_save 44 = .ok (.ifnull 26, 3) := by decide +kernel
theorem dX1_save_47 : decode cX1_save 47 = .ok (.aload_n 0, 1) := by decide +kernel
theorem dX1_save_48 : decode cX1_save 48 = .ok (.getfield 11, 3) := by decide +kernel
theorem dX1_save_51 : decode cX1_save 51 = .ok (.aload_n 0, 1) := by decide +kernel
theorem dX1_save_52 : decode cX1_save 52 = .ok (.getfield 18, 3) := by decide +kernel
theorem dX1_save_55 : decode cX1_save 55 = .ok (.aaload, 1) := by decide +kernel
theorem dX1_save_56 : decode cX1_save 56 = .ok (.aload_n 1, 1) := by decide +kernel
theorem dX1_save_57 : decode cX1_save 57 = .ok (.invokevirtual 25, 3) := by decide +kernel
theorem dX1_save_60 : decode cX1_save 60 = .ok (.aload_n 0, 1) := by decide +kernel
theorem dX1_save_61 : decode cX1_save 61 = .ok (.dup, 1) := by decide +kernel
theorem dX1_save_62 : decode cX1_save 62 = .ok (.getfield 18, 3) := by decide +kernel
theorem dX1_save_65 : decode cX1_save 65 = .ok (.iconst 1, 1) := by decide +kernel
theorem dX1_save_66 : decode cX1_save 66 = .ok (.iadd, 1) := by decide +kernel
theorem dX1_save_67 : decode cX1_save 67 = .ok (.putfield 18, 3) := by decide +kernel
theorem dX1_save_70 : decode cX1_save 70 = .ok (.return_, 1) := by decide +kernel
theorem dX1_dropOldest_0 : decode cX1_dropOldest 0 = .ok (.aload_n 0, 1) := by decide +kernel
theorem dX1_dropOldest_1 : decode cX1_dropOldest 1 = .ok (.getfield 11, 3) := by decide +kernel
theorem dX1_dropOldest_4 : decode cX1_dropOldest 4 = .ok (.arraylength, 1) := by decide +kernel
theorem dX1_dropOldest_5 : decode cX1_dropOldest 5 = .ok (.ifCond .le 12, 3) := by decide +kernel
theorem dX1_dropOldest_8 : decode cX1_dropOldest 8 = .ok (.aload_n 0, 1) := by decide +kernel
theorem dX1_dropOldest_9 : decode cX1_dropOldest 9 = .ok (.getfield 11, 3) := by decide +kernel
theorem dX1_dropOldest_12 : decode cX1_dropOldest 12 = .ok (.iconst 0, 1) := by decide +kernel
theorem dX1_dropOldest_13 : decode cX1_dropOldest 13 = .ok (.aaload, 1) := by decide +kernel
theorem dX1_dropOldest_14 : decode cX1_dropOldest 14 = .ok (.goto 4, 3) := by decide +kernel
theorem dX1_dropOldest_17 : decode cX1_dropOldest 17 = .ok (.aconst_null, 1) := by decide +kernel
theorem dX1_dropOldest_18 : decode cX1_dropOldest 18 = .ok (.astore_n 1, 1) := by decide +kernel
theorem dX1_dropOldest_19 : decode cX1_dropOldest 19 = .ok (.iconst 1, 1) := by decide +kernel
theorem dX1_dropOldest_20 : decode cX1_dropOldest 20 = .ok (.istore_n 2, 1) := by decide +kernel
theorem dX1_dropOldest_21 : decode cX1_dropOldest 21 = .ok (.iload_n 2, 1) := by decide +kernel
theorem dX1_dropOldest_22 : decode cX1_dropOldest 22 = .ok (.aload_n 0, 1) := by decide +kernel
theorem dX1_dropOldest_23 : decode cX1_dropOldest 23 = .ok (.getfield 11, 3) := by decide +kernel
theorem dX1_dropOldest_26 : decode cX1_dropOldest 26 = .ok (.arraylength, 1) := by decide +kernel
theorem dX1_dropOldest_27 : decode cX1_dropOldest 27 = .ok (.if_icmp .ge 30, 3) := by decide +kernel
theorem dX1_dropOldest_30 : decode cX1_dropOldest 30 = .ok (.aload_n 0, 1) := by decide +kernel
theorem dX1_dropOldest_31 : decode cX1_dropOldest 31 = .ok (.getfield 11, 3) := by decide +kernel
theorem dX1_dropOldest_34 : decode cX1_dropOldest 34 = .ok (.iload_n 2, 1) := by decide +kernel
theorem dX1_dropOldest_35 : decode cX1_dropOldest 35 = .ok (.iconst 1, 1) := by decide +kernel
theorem dX1_dropOldest_36 : decode cX1_dropOldest 36 = .ok (.isub, 1) := by decide +kernel
theorem dX1_dropOldest_37 : decode cX1_dropOldest 37 = .ok (.aload_n 0, 1) := by decide +kernel
theorem dX1_dropOldest_38 : decode cX1_dropOldest 38 = .ok (.getfield 11, 3) := by decide +kernel
theorem dX1_dropOldest_41 : decode cX1_dropOldest 41 = .ok (.iload_n 2, 1) := by decide +kernel
theorem dX1_dropOldest_42 : decode cX1_dropOldest 42 = .ok (.aaload, 1) := by decide +kernel
theorem dX1_dropOldest_43 : decode cX1_dropOldest 43 = .ok (.aastore, 1) := by decide +kernel
theorem dX1_dropOldest_44 : decode cX1_dropOldest 44 = .ok (.aload_n 0, 1) := by decide +kernel
theorem dX1_dropOldest_45 : decode cX1_dropOldest 45 = .ok (.getfield 11, 3) := by decide +kernel
theorem dX1_dropOldest_48 : decode cX1_dropOldest 48 = .ok (.iload_n 2, 1) := by decide +kernel
theorem dX1_dropOldest_49 : decode cX1_dropOldest 49 = .ok (.aload_n 1, 1) := by decide +kernel
theorem dX1_dropOldest_50 : decode cX1_dropOldest 50 = .ok (.aastore, 1) := by decide +kernel
theorem dX1_dropOldest_51 : decode cX1_dropOldest 51 = .ok (.iinc 2 1, 3) := by decide +kernel
theorem dX1_dropOldest_54 : decode cX1_dropOldest 54 = .ok (.goto (-33), 3) := by decide +kernel
theorem dX1_dropOldest_57 : decode cX1_dropOldest 57 = .ok (.aload_n 0, 1) := by decide +kernel
theorem dX1_dropOldest_58 : decode cX1_dropOldest 58 = .ok (.dup, 1) := by decide +kernel
theorem dX1_dropOldest_59 : decode cX1_dropOldest 59 = .ok (.getfield 18, 3) := by decide +kernel
theorem dX1_dropOldest_62 : decode cX1_dropOldest 62 = .ok (.iconst 1, 1) := by decide +kernel
theorem dX1_dropOldest_63 : decode cX1_dropOldest 63 = .ok (.isub, 1) := by decide +kernel
theorem dX1_dropOldest_64 : decode cX1_dropOldest 64 = .ok (.putfield 18, 3) := by decide +kernel
theorem dX1_dropOldest_67 : decode cX1_dropOldest 67 = .ok (.return_, 1) := by decide +kernel
theorem dX1_restore_0 : decode cX1_restore 0 = .ok (.aload_n 1, 1) := by decide +kernel
theorem dX1_restore_1 : decode cX1_restore 1 = .ok (.ifnull 45, 3) := by decide +kernel
theorem dX1_restore_4 : decode cX1_restore 4 = .ok (.aload_n 0, 1) := by decide +kernel
theorem dX1_restore_5 : decode cX1_restore 5 = .ok (.getfield 18, 3) := by decide +kernel
theorem dX1_restore_8 : decode cX1_restore 8 = .ok (.ifCond .le 38, 3) := by decide +kernel
theorem dX1_restore_11 : decode cX1_restore 11 = .ok (.aload_n 0, 1) := by decide +kernel
theorem dX1_restore_12 : decode cX1_restore 12 = .ok (.getfield 18, 3) := by decide +kernel
theorem dX1_restore_15 : decode cX1_restore 15 = .ok (.aload_n 0, 1) := by decide +kernel
theorem dX1_restore_16 : decode cX1_restore 16 = .ok (.getfield 11, 3) := by decide +kernel
theorem dX1_restore_19 : decode cX1_restore 19 = .ok (.arraylength, 1) := by decide +kernel
theorem dX1_restore_20 : decode cX1_restore 20 = .ok (.if_icmp .gt 26, 3) := by decide +kernel
theorem dX1_restore_23 : decode cX1_restore 23 = .ok (.aload_n 0, 1) := by decide +kernel
theorem dX1_restore_24 : decode cX1_restore 24 = .ok (.dup, 1) := by decide +kernel
theorem dX1_restore_25 : decode cX1_restore 25 = .ok (.getfield 18, 3) := by decide +kernel
theorem dX1_restore_28 : decode cX1_restore 28 = .ok (.iconst 1, 1) := by decide +kernel
theorem dX1_restore_29 : decode cX1_restore 29 = .ok (.isub, 1) := by decide +kernel
theorem dX1_restore_30 : decode cX1_restore 30 = .ok (.putfield 18, 3) := by decide +kernel
theorem dX1_restore_33 : decode cX1_restore 33 = .ok (.aload_n 1, 1) := by decide +kernel
theorem dX1_restore_34 : decode cX1_restore 34 = .ok (.aload_n 0, 1) := by decide +kernel
theorem dX1_restore_35 : decode cX1_restore 35 = .ok (.getfield 11, 3) := by decide +kernel
theorem dX1_restore_38 : decode cX1_restore 38 = .ok (.aload_n 0, 1) := by decide +kernel
theorem dX1_restore_39 : decode cX1_restore 39 = .ok (.getfield 18, 3) := by decide +kernel
theorem dX1_restore_42 : decode cX1_restore 42 = .ok (.aaload, 1) := by decide +kernel
theorem dX1_restore_43 : decode cX1_restore 43 = .ok (.invokevirtual 25, 3) := by decide +kernel
theorem dX1_restore_46 : decode cX1_restore 46 = .ok (.return_, 1) := by decide +kernel
theorem dX2_init_0 : decode cX2_init 0 = .ok (.aload_n 0, 1) := by decide +kernel
theorem dX2_init_1 : decode cX2_init 1 = .ok (.invokespecial 3, 3) := by decide +kernel
theorem dX2_init_4 : decode cX2_init 4 = .ok (.return_, 1) := by decide +kernel
theorem dX2_start_0 : decode cX2_start 0 = .ok (.aload_n 0, 1) := by decide +kernel
theorem dX2_start_1 : decode cX2_start 1 = .ok (.bipush 32, 2) := by decide +kernel
theorem dX2_start_3 : decode cX2_start 3 = .ok (.putfield 9, 3) := by decide +kernel
theorem dX2_start_6 : decode cX2_start 6 = .ok (.aload_n 0, 1) := by decide +kernel
theorem dX2_start_7 : decode cX2_start 7 = .ok (.iconst 0, 1) := by decide +kernel
theorem dX2_start_8 : decode cX2_start 8 = .ok (.putfield 15, 3) := by decide +kernel
theorem dX2_start_11 : decode cX2_start 11 = .ok (.aload_n 0, 1) := by decide +kernel
theorem dX2_start_12 : decode cX2_start 12 = .ok (.iconst 0, 1) := by decide +kernel
theorem dX2_start_13 : decode cX2_start 13 = .ok (.putfield 19, 3) := by decide +kernel
theorem dX2_start_16 : decode cX2_start 16 = .ok (.aload_n 0, 1) := by decide +kernel
theorem dX2_start_17 : decode cX2_start 17 = .ok (.iconst 0, 1) := by decide +kernel
theorem dX2_start_18 : decode cX2_start 18 = .ok (.putfield 22, 3) := by decide +kernel
theorem dX2_start_21 : decode cX2_start 21 = .ok (.aload_n 0, 1) := by decide +kernel
theorem dX2_start_22 : decode cX2_start 22 = .ok (.iconst 0, 1) := by decide +kernel
theorem dX2_start_23 : decode cX2_start 23 = .ok (.putfield 25, 3) := by decide +kernel
theorem dX2_start_26 : decode cX2_start 26 = .ok (.return_, 1) := by decide +kernel
theorem dX2_accepts_0 : decode cX2_accepts 0 = .ok (.aload_n 0, 1) := by decide +kernel
theorem dX2_accepts_1 : decode cX2_accepts 1 = .ok (.getfield 22, 3) := by decide +kernel
theorem dX2_accepts_4 : decode cX2_accepts 4 = .ok (.tableswitch 70 0 2 #[28, 34, 40], 28) := by decide +kernel
theorem dX2_accepts_32 : decode cX2_accepts 32 = .ok (.aload_n 0, 1) := by decide +kernel
theorem dX2_accepts_33 : decode cX2_accepts 33 = .ok (.iload_n 1, 1) := by decide +kernel
theorem dX2_accepts_34 : decode cX2_accepts 34 = .ok (.invokevirtual 29, 3) := by decide +kernel
theorem dX2_accepts_37 : decode cX2_accepts 37 = .ok (.ireturn, 1) := by decide +kernel
theorem dX2_accepts_38 : decode cX2_accepts 38 = .ok (.aload_n 0, 1) := by decide +kernel
theorem dX2_accepts_39 : decode cX2_accepts 39 = .ok (.iload_n 1, 1) := by decide +kernel
theorem dX2_accepts_40 : decode cX2_accepts 40 = .ok (.invokevirtual 33, 3) := by decide +kernel
theorem dX2_accepts_43 : decode cX2_accepts 43 = .ok (.ireturn, 1) := by decide +kernel
theorem dX2_accepts_44 : decode cX2_accepts 44 = .ok (.aload_n 0, 1) := by decide +kernel
theorem dX2_accepts_45 : decode cX2_accepts 45 = .ok (.iload_n 1, 1) := by decide +kernel
theorem dX2_accepts_46 : decode cX2_accepts 46 = .ok (.invokevirtual 36, 3) := by decide +kernel
theorem dX2_accepts_49 : decode cX2_accepts 49 = .ok (.ifCond .ne 19, 3) := by decide +kernel
theorem dX2_accepts_52 : decode cX2_accepts 52 = .ok (.aload_n 0, 1) := by decide +kernel
theorem dX2_accepts_53 : decode cX2_accepts 53 = .ok (.iload_n 1, 1) := by decide +kernel
theorem dX2_accepts_54 : decode cX2_accepts 54 = .ok (.invokevirtual 39, 3) := by decide +kernel
theorem dX2_accepts_57 : decode cX2_accepts 57 = .ok (.ifCond .ne 11, 3) := by decide +kernel
theorem dX2_accepts_60 : decode cX2_accepts 60 = .ok (.aload_n 0, 1) := by decide +kernel
theorem dX2_accepts_61 : decode cX2_accepts 61 = .ok (.iload_n 1, 1) := by decide +kernel
theorem dX2_accepts_62 : decode cX2_accepts 62 = .ok (.invokevirtual 42, 3) := by decide +kernel
theorem dX2_accepts_65 : decode cX2_accepts 65 = .ok (.ifCond .eq 7, 3) := by decide +kernel
theorem dX2_accepts_68 : decode cX2_accepts 68 = .ok (.iconst 1, 1) := by decide +kernel
theorem dX2_accepts_69 : decode cX2_accepts 69 = .ok (.goto 4, 3) := by decide +kernel
theorem dX2_accepts_72 : decode cX2_accepts 72 = .ok (.iconst 0, 1) := by decide +kernel
theorem dX2_accepts_73 : decode cX2_accepts 73 = .ok (.ireturn, 1) := by decide +kernel
theorem dX2_accepts_74 : decode cX2_accepts 74 = .ok (.aload_n 0, 1) := by decide +kernel
theorem dX2_accepts_75 : decode cX2_accepts 75 = .ok (.iload_n 1, 1) := by decide +kernel
theorem dX2_accepts_76 : decode cX2_accepts 76 = .ok (.invokevirtual 42, 3) := by decide +kernel
theorem dX2_accepts_79 : decode cX2_accepts 79 = .ok (.ireturn, 1) := by decide +kernel
theorem dX2_isComplete_0 : decode cX2_isComplete 0 = .ok (.aload_n 0, 1) := by decide +kernel
theorem dX2_isComplete_1 : decode cX2_isComplete 1 = .ok (.getfield 22, 3) := by decide +kernel
theorem dX2_isComplete_4 : decode cX2_isComplete 4 = .ok (.iconst 3, 1) := by decide +kernel
theorem dX2_isComplete_5 : decode cX2_isComplete 5 = .ok (.if_icmp .eq 18, 3) := by decide +kernel
theorem dX2_isComplete_8 : decode cX2_isComplete 8 = .ok (.aload_n 0, 1) := by decide +kernel
theorem dX2_isComplete_9 : decode cX2_isComplete 9 = .ok (.getfield 22, 3) := by decide +kernel
theorem dX2_isComplete_12 : decode cX2_isComplete 12 = .ok (.iconst 2, 1) := by decide +kernel
theorem dX2_isComplete_13 : decode cX2_isComplete 13 = .ok (.if_icmp .ne 14, 3) := by decide +kernel
theorem dX2_isComplete_16 : decode cX2_isComplete 16 = .ok (.aload_n 0, 1) := by decide +kernel
theorem dX2_isComplete_17 : decode cX2_isComplete 17 = .ok (.invokevirtual 45, 3) := by decide +kernel
theorem dX2_isComplete_20 : decode cX2_isComplete 20 = .ok (.ifCond .ne 7, 3) := by decide +kernel
theorem dX2_isComplete_23 : decode cX2_isComplete 23 = .ok (.iconst 1, 1) := by decide +kernel
theorem dX2_isComplete_24 : decode cX2_isComplete 24 = .ok (.goto 4, 3) := by decide +kernel
theorem dX2_isComplete_27 : decode cX2_isComplete 27 = .ok (.iconst 0, 1) := by decide +kernel
theorem dX2_isComplete_28 : decode cX2_isComplete 28 = .ok (.ireturn, 1) := by decide +kernel
theorem dX2_arrowIsDue_0 : decode cX2_arrowIsDue 0 = .ok (.aload_n 0, 1) := by decide +kernel
theorem dX2_arrowIsDue_1 : decode cX2_arrowIsDue 1 = .ok (.getfield 9, 3) := by decide +kernel
theorem dX2_arrowIsDue_4 : decode cX2_arrowIsDue 4 = .ok (.bipush 109, 2) := by decide +kernel
theorem dX2_arrowIsDue_6 : decode cX2_arrowIsDue 6 = .ok (.if_icmp .ne 14, 3) := by decide +kernel
theorem dX2_arrowIsDue_9 : decode cX2_arrowIsDue 9 = .ok (.aload_n 0, 1) := by decide +kernel
theorem dX2_arrowIsDue_10 : decode cX2_arrowIsDue 10 = .ok (.getfield 25, 3) := by decide +kernel
theorem dX2_arrowIsDue_13 : decode cX2_arrowIsDue 13 = .ok (.ifCond .ne 7, 3) := by decide +kernel
theorem dX2_arrowIsDue_16 : decode cX2_arrowIsDue 16 = .ok (.iconst 1, 1) := by decide +kernel
theorem dX2_arrowIsDue_17 : decode cX2_arrowIsDue 17 = .ok (.goto 4, 3) := by decide +kernel
theorem dX2_arrowIsDue_20 : decode cX2_arrowIsDue 20 = .ok (.iconst 0, 1) := by decide +kernel
theorem dX2_arrowIsDue_21 : decode cX2_arrowIsDue 21 = .ok (.ireturn, 1) := by decide +kernel
theorem dX2_acceptsLetter_0 : decode cX2_acceptsLetter 0 = .ok (.iload_n 1, 1) := by decide +kernel
theorem dX2_acceptsLetter_1 : decode cX2_acceptsLetter 1 = .ok (.bipush 103, 2) := by decide +kernel
theorem dX2_acceptsLetter_3 : decode cX2_acceptsLetter 3 = .ok (.if_icmp .eq 29, 3) := by decide +kernel
theorem dX2_acceptsLetter_6 : decode cX2_acceptsLetter 6 = .ok (.iload_n 1, 1) := by decide +kernel
theorem dX2_acceptsLetter_7 : decode cX2_acceptsLetter 7 = .ok (.bipush 112, 2) := by decide +kernel
theorem dX2_acceptsLetter_9 : decode cX2_acceptsLetter 9 = .ok (.if_icmp .eq 23, 3) := by decide +kernel
theorem dX2_acceptsLetter_12 : decode cX2_acceptsLetter 12 = .ok (.iload_n 1, 1) := by decide +kernel
theorem dX2_acceptsLetter_13 : decode cX2_acceptsLetter 13 = .ok (.bipush 102, 2) := by decide +kernel
theorem dX2_acceptsLetter_15 : decode cX2_acceptsLetter 15 = .ok (.if_icmp .eq 17, 3) := by decide +kernel
theorem dX2_acceptsLetter_18 : decode cX2_acceptsLetter 18 = .ok (.iload_n 1, 1) := by decide +kernel
theorem dX2_acceptsLetter_19 : decode cX2_acceptsLetter 19 = .ok (.bipush 109, 2) := by decide +kernel
theorem dX2_acceptsLetter_21 : decode cX2_acceptsLetter 21 = .ok (.if_icmp .eq 11, 3) := by decide +kernel
theorem dX2_acceptsLetter_24 : decode cX2_acceptsLetter 24 = .ok (.iload_n 1, 1) := by decide +kernel
theorem dX2_acceptsLetter_25 : decode cX2_acceptsLetter 25 = .ok (.bipush 98, 2) := by decide +kernel
theorem dX2_acceptsLetter_27 : decode cX2_acceptsLetter 27 = .ok (.if_icmp .eq 5, 3) := by decide +kernel
theorem dX2_acceptsLetter_30 : decode cX2_acceptsLetter 30 = .ok (.iconst 0, 1) := by decide +kernel
theorem dX2_acceptsLetter_31 : decode cX2_acceptsLetter 31 = .ok (.ireturn, 1) := by decide +kernel
theorem dX2_acceptsLetter_32 : decode cX2_acceptsLetter 32 = .ok (.aload_n 0, 1) := by decide +kernel
theorem dX2_acceptsLetter_33 : decode cX2_acceptsLetter 33 = .ok (.iload_n 1, 1) := by decide +kernel
theorem dX2_acceptsLetter_34 : decode cX2_acceptsLetter 34 = .ok (.i2c, 1) := by decide +kernel
theorem dX2_acceptsLetter_35 : decode cX2_acceptsLetter 35 = .ok (.putfield 9, 3) := by decide +kernel
theorem dX2_acceptsLetter_38 : decode cX2_acceptsLetter 38 = .ok (.aload_n 0, 1) := by decide +kernel
theorem dX2_acceptsLetter_39 : decode cX2_acceptsLetter 39 = .ok (.iconst 0, 1) := by decide +kernel
theorem dX2_acceptsLetter_40 : decode cX2_acceptsLetter 40 = .ok (.putfield 25, 3) := by decide +kernel
theorem dX2_acceptsLetter_43 : decode cX2_acceptsLetter 43 = .ok (.aload_n 0, 1) := by decide +kernel
theorem dX2_acceptsLetter_44 : decode cX2_acceptsLetter 44 = .ok (.iload_n 1, 1) := by decide +kernel
theorem dX2_acceptsLetter_45 : decode cX2_acceptsLetter 45 = .ok (.bipush 98, 2) := by decide +kernel
theorem dX2_acceptsLetter_47 : decode cX2_acceptsLetter 47 = .ok (.if_icmp .ne 7, 3) := by decide +kernel
theorem dX2_acceptsLetter_50 : decode cX2_acceptsLetter 50 = .ok (.iconst 3, 1) := by decide +kernel
theorem dX2_acceptsLetter_51 : decode cX2_acceptsLetter 51 = .ok (.goto 4, 3) := by decide +kernel
theorem dX2_acceptsLetter_54 : decode cX2_acceptsLetter 54 = .ok (.iconst 1, 1) := by decide +kernel
theorem dX2_acceptsLetter_55 : decode cX2_acceptsLetter 55 = .ok (.putfield 22, 3) := by decide +kernel
theorem dX2_acceptsLetter_58 : decode cX2_acceptsLetter 58 = .ok (.iconst 1, 1) := by decide +kernel
theorem dX2_acceptsLetter_59 : decode cX2_acceptsLetter 59 = .ok (.ireturn, 1) := by decide +kernel
theorem dX2_acceptsFirstDigit_0 : decode cX2_acceptsFirstDigit 0 = .ok (.iload_n 1, 1) := by decide +kernel
theorem dX2_acceptsFirstDigit_1 : decode cX2_acceptsFirstDigit 1 = .ok (.bipush 48, 2) := by decide +kernel
theorem dX2_acceptsFirstDigit_3 : decode cX2_acceptsFirstDigit 3 = .ok (.if_icmp .lt 9, 3) := by decide +kernel
theorem dX2_acceptsFirstDigit_6 : decode cX2_acceptsFirstDigit 6 = .ok (.iload_n 1, 1) := by decide +kernel
theorem dX2_acceptsFirstDigit_7 : decode cX2_acceptsFirstDigit 7 = .ok (.bipush 57, 2) := by decide +kernel
theorem dX2_acceptsFirstDigit_9 : decode cX2_acceptsFirstDigit 9 = .ok (.if_icmp .le 5, 3) := by decide +kernel
theorem dX2_acceptsFirstDigit_12 : decode cX2_acceptsFirstDigit 12 = .ok (.iconst 0, 1) := by decide +kernel
theorem dX2_acceptsFirstDigit_13 : decode cX2_acceptsFirstDigit 13 = .ok (.ireturn, 1) := by decide +kernel
theorem dX2_acceptsFirstDigit_14 : decode cX2_acceptsFirstDigit 14 = .ok (.aload_n 0, 1) := by decide +kernel
theorem dX2_acceptsFirstDigit_15 : decode cX2_acceptsFirstDigit 15 = .ok (.iload_n 1, 1) := by decide +kernel
theorem dX2_acceptsFirstDigit_16 : decode cX2_acceptsFirstDigit 16 = .ok (.bipush 48, 2) := by decide +kernel
theorem dX2_acceptsFirstDigit_18 : decode cX2_acceptsFirstDigit 18 = .ok (.isub, 1) := by decide +kernel
theorem dX2_acceptsFirstDigit_19 : decode cX2_acceptsFirstDigit 19 = .ok (.putfield 19, 3) := by decide +kernel
theorem dX2_acceptsFirstDigit_22 : decode cX2_acceptsFirstDigit 22 = .ok (.aload_n 0, 1) := by decide +kernel
theorem dX2_acceptsFirstDigit_23 : decode cX2_acceptsFirstDigit 23 = .ok (.iconst 2, 1) := by decide +kernel
theorem dX2_acceptsFirstDigit_24 : decode cX2_acceptsFirstDigit 24 = .ok (.putfield 22, 3) := by decide +kernel
theorem dX2_acceptsFirstDigit_27 : decode cX2_acceptsFirstDigit 27 = .ok (.iconst 1, 1) := by decide +kernel
theorem dX2_acceptsFirstDigit_28 : decode cX2_acceptsFirstDigit 28 = .ok (.ireturn, 1) := by decide +kernel
theorem dX2_acceptsSecondDigit_0 : decode cX2_acceptsSecondDigit 0 = .ok (.iload_n 1, 1) := by decide +kernel
theorem dX2_acceptsSecondDigit_1 : decode cX2_acceptsSecondDigit 1 = .ok (.bipush 48, 2) := by decide +kernel
theorem dX2_acceptsSecondDigit_3 : decode cX2_acceptsSecondDigit 3 = .ok (.if_icmp .lt 9, 3) := by decide +kernel
theorem dX2_acceptsSecondDigit_6 : decode cX2_acceptsSecondDigit 6 = .ok (.iload_n 1, 1) := by decide +kernel
theorem dX2_acceptsSecondDigit_7 : decode cX2_acceptsSecondDigit 7 = .ok (.bipush 57, 2) := by decide +kernel
theorem dX2_acceptsSecondDigit_9 : decode cX2_acceptsSecondDigit 9 = .ok (.if_icmp .le 5, 3) := by decide +kernel
theorem dX2_acceptsSecondDigit_12 : decode cX2_acceptsSecondDigit 12 = .ok (.iconst 0, 1) := by decide +kernel
theorem dX2_acceptsSecondDigit_13 : decode cX2_acceptsSecondDigit 13 = .ok (.ireturn, 1) := by decide +kernel
theorem dX2_acceptsSecondDigit_14 : decode cX2_acceptsSecondDigit 14 = .ok (.aload_n 0, 1) := by decide +kernel
theorem dX2_acceptsSecondDigit_15 : decode cX2_acceptsSecondDigit 15 = .ok (.getfield 9, 3) := by decide +kernel
theorem dX2_acceptsSecondDigit_18 : decode cX2_acceptsSecondDigit 18 = .ok (.bipush 103, 2) := by decide +kernel
theorem dX2_acceptsSecondDigit_20 : decode cX2_acceptsSecondDigit 20 = .ok (.if_icmp .ne 8, 3) := by decide +kernel
theorem dX2_acceptsSecondDigit_23 : decode cX2_acceptsSecondDigit 23 = .ok (.bipush 15, 2) := by decide +kernel
theorem dX2_acceptsSecondDigit_25 : decode cX2_acceptsSecondDigit 25 = .ok (.goto 5, 3) := by decide +kernel
theorem dX2_acceptsSecondDigit_28 : decode cX2_acceptsSecondDigit 28 = .ok (.bipush 19, 2) := by decide +kernel
theorem dX2_acceptsSecondDigit_30 : decode cX2_acceptsSecondDigit 30 = .ok (.istore_n 2, 1) := by decide +kernel
theorem dX2_acceptsSecondDigit_31 : decode cX2_acceptsSecondDigit 31 = .ok (.bipush 10, 2) := by decide +kernel
theorem dX2_acceptsSecondDigit_33 : decode cX2_acceptsSecondDigit 33 = .ok (.aload_n 0, 1) := by decide +kernel
theorem dX2_acceptsSecondDigit_34 : decode cX2_acceptsSecondDigit 34 = .ok (.getfield 19, 3) := by decide +kernel
theorem dX2_acceptsSecondDigit_37 : decode cX2_acceptsSecondDigit 37 = .ok (.imul, 1) := by decide +kernel
theorem dX2_acceptsSecondDigit_38 : decode cX2_acceptsSecondDigit 38 = .ok (.iload_n 1, 1) := by decide +kernel
theorem dX2_acceptsSecondDigit_39 : decode cX2_acceptsSecondDigit 39 = .ok (.iadd, 1) := by decide +kernel
theorem dX2_acceptsSecondDigit_40 : decode cX2_acceptsSecondDigit 40 = .ok (.bipush 48, 2) := by decide +kernel
theorem dX2_acceptsSecondDigit_42 : decode cX2_acceptsSecondDigit 42 = .ok (.isub, 1) := by decide +kernel
theorem dX2_acceptsSecondDigit_43 : decode cX2_acceptsSecondDigit 43 = .ok (.istore_n 3, 1) := by decide +kernel
theorem dX2_acceptsSecondDigit_44 : decode cX2_acceptsSecondDigit 44 = .ok (.aload_n 0, 1) := by decide +kernel
theorem dX2_acceptsSecondDigit_45 : decode cX2_acceptsSecondDigit 45 = .ok (.getfield 19, 3) := by decide +kernel
theorem dX2_acceptsSecondDigit_48 : decode cX2_acceptsSecondDigit 48 = .ok (.ifCond .eq 8, 3) := by decide +kernel
theorem dX2_acceptsSecondDigit_51 : decode cX2_acceptsSecondDigit 51 = .ok (.iload_n 3, 1) := by decide +kernel
theorem dX2_acceptsSecondDigit_52 : decode cX2_acceptsSecondDigit 52 = .ok (.iload_n 2, 1) := by decide +kernel
theorem dX2_acceptsSecondDigit_53 : decode cX2_acceptsSecondDigit 53 = .ok (.if_icmp .le 5, 3) := by decide +kernel
theorem dX2_acceptsSecondDigit_56 : decode cX2_acceptsSecondDigit 56 = .ok (.iconst 0, 1) := by decide +kernel
theorem dX2_acceptsSecondDigit_57 : decode cX2_acceptsSecondDigit 57 = .ok (.ireturn, 1) := by decide +kernel
theorem dX2_acceptsSecondDigit_58 : decode cX2_acceptsSecondDigit 58 = .ok (.aload_n 0, 1) := by decide +kernel
theorem dX2_acceptsSecondDigit_59 : decode cX2_acceptsSecondDigit 59 = .ok (.iload_n 3, 1) := by decide +kernel
theorem dX2_acceptsSecondDigit_60 : decode cX2_acceptsSecondDigit 60 = .ok (.putfield 19, 3) := by decide +kernel
theorem dX2_acceptsSecondDigit_63 : decode cX2_acceptsSecondDigit 63 = .ok (.iconst 1, 1) := by decide +kernel
theorem dX2_acceptsSecondDigit_64 : decode cX2_acceptsSecondDigit 64 = .ok (.ireturn, 1) := by decide +kernel
theorem dX2_acceptsArrow_0 : decode cX2_acceptsArrow 0 = .ok (.iload_n 1, 1) := by decide +kernel
theorem dX2_acceptsArrow_1 : decode cX2_acceptsArrow 1 = .ok (.bipush 62, 2) := by decide +kernel
theorem dX2_acceptsArrow_3 : decode cX2_acceptsArrow 3 = .ok (.if_icmp .ne 10, 3) := by decide +kernel
theorem dX2_acceptsArrow_6 : decode cX2_acceptsArrow 6 = .ok (.aload_n 0, 1) := by decide +kernel
theorem dX2_acceptsArrow_7 : decode cX2_acceptsArrow 7 = .ok (.invokevirtual 45, 3) := by decide +kernel
theorem dX2_acceptsArrow_10 : decode cX2_acceptsArrow 10 = .ok (.ifCond .ne 5, 3) := by decide +kernel
theorem dX2_acceptsArrow_13 : decode cX2_acceptsArrow 13 = .ok (.iconst 0, 1) := by decide +kernel
theorem dX2_acceptsArrow_14 : decode cX2_acceptsArrow 14 = .ok (.ireturn, 1) := by decide +kernel
theorem dX2_acceptsArrow_15 : decode cX2_acceptsArrow 15 = .ok (.aload_n 0, 1) := by decide +kernel
theorem dX2_acceptsArrow_16 : decode cX2_acceptsArrow 16 = .ok (.aload_n 0, 1) := by decide +kernel
theorem dX2_acceptsArrow_17 : decode cX2_acceptsArrow 17 = .ok (.getfield 19, 3) := by decide +kernel
theorem dX2_acceptsArrow_20 : decode cX2_acceptsArrow 20 = .ok (.putfield 15, 3) := by decide +kernel
theorem dX2_acceptsArrow_23 : decode cX2_acceptsArrow 23 = .ok (.aload_n 0, 1) := by decide +kernel
theorem dX2_acceptsArrow_24 : decode cX2_acceptsArrow 24 = .ok (.iconst 1, 1) := by decide +kernel
theorem dX2_acceptsArrow_25 : decode cX2_acceptsArrow 25 = .ok (.putfield 25, 3) := by decide +kernel
theorem dX2_acceptsArrow_28 : decode cX2_acceptsArrow 28 = .ok (.aload_n 0, 1) := by decide +kernel
theorem dX2_acceptsArrow_29 : decode cX2_acceptsArrow 29 = .ok (.iconst 1, 1) := by decide +kernel
theorem dX2_acceptsArrow_30 : decode cX2_acceptsArrow 30 = .ok (.putfield 22, 3) := by decide +kernel
theorem dX2_acceptsArrow_33 : decode cX2_acceptsArrow 33 = .ok (.iconst 1, 1) := by decide +kernel
theorem dX2_acceptsArrow_34 : decode cX2_acceptsArrow 34 = .ok (.ireturn, 1) := by decide +kernel
theorem dX2_acceptsEndOfPart_0 : decode cX2_acceptsEndOfPart 0 = .ok (.iload_n 1, 1) := by decide +kernel
theorem dX2_acceptsEndOfPart_1 : decode cX2_acceptsEndOfPart 1 = .ok (.bipush 59, 2) := by decide +kernel
theorem dX2_acceptsEndOfPart_3 : decode cX2_acceptsEndOfPart 3 = .ok (.if_icmp .ne 10, 3) := by decide +kernel
theorem dX2_acceptsEndOfPart_6 : decode cX2_acceptsEndOfPart 6 = .ok (.aload_n 0, 1) := by decide +kernel
theorem dX2_acceptsEndOfPart_7 : decode cX2_acceptsEndOfPart 7 = .ok (.invokevirtual 49, 3) := by decide +kernel
theorem dX2_acceptsEndOfPart_10 : decode cX2_acceptsEndOfPart 10 = .ok (.ifCond .ne 5, 3) := by decide +kernel
theorem dX2_acceptsEndOfPart_13 : decode cX2_acceptsEndOfPart 13 = .ok (.iconst 0, 1) := by decide +kernel
theorem dX2_acceptsEndOfPart_14 : decode cX2_acceptsEndOfPart 14 = .ok (.ireturn, 1) := by decide +kernel
theorem dX2_acceptsEndOfPart_15 : decode cX2_acceptsEndOfPart 15 = .ok (.aload_n 0, 1) := by decide +kernel
theorem dX2_acceptsEndOfPart_16 : decode cX2_acceptsEndOfPart 16 = .ok (.iconst 0, 1) := by decide +kernel
theorem dX2_acceptsEndOfPart_17 : decode cX2_acceptsEndOfPart 17 = .ok (.putfield 22, 3) := by decide +kernel
theorem dX2_acceptsEndOfPart_20 : decode cX2_acceptsEndOfPart 20 = .ok (.iconst 1, 1) := by decide +kernel
theorem dX2_acceptsEndOfPart_21 : decode cX2_acceptsEndOfPart 21 = .ok (.ireturn, 1) := by decide +kernel
theorem dX3_init_0 : decode cX3_init 0 = .ok (.aload_n 0, 1) := by decide +kernel
theorem dX3_init_1 : decode cX3_init 1 = .ok (.invokespecial 3, 3) := by decide +kernel
theorem dX3_init_4 : decode cX3_init 4 = .ok (.aload_n 0, 1) := by decide +kernel
theorem dX3_init_5 : decode cX3_init 5 = .ok (.new 9, 3) := by decide +kernel
theorem dX3_init_8 : decode cX3_init 8 = .ok (.dup, 1) := by decide +kernel
theorem dX3_init_9 : decode cX3_init 9 = .ok (.invokespecial 11, 3) := by decide +kernel
theorem dX3_init_12 : decode cX3_init 12 = .ok (.putfield 12, 3) := by decide +kernel
theorem dX3_init_15 : decode cX3_init 15 = .ok (.aload_n 0, 1) := by decide +kernel
theorem dX3_init_16 : decode cX3_init 16 = .ok (.bipush 16, 2) := by decide +kernel
theorem dX3_init_18 : decode cX3_init 18 = .ok (.newarray .int, 2) := by decide +kernel
theorem dX3_init_20 : decode cX3_init 20 = .ok (.putfield 18, 3) := by decide +kernel
theorem dX3_init_23 : decode cX3_init 23 = .ok (.aload_n 0, 1) := by decide +kernel
theorem dX3_init_24 : decode cX3_init 24 = .ok (.bipush 16, 2) := by decide +kernel
theorem dX3_init_26 : decode cX3_init 26 = .ok (.newarray .int, 2) := by decide +kernel
theorem dX3_init_28 : decode cX3_init 28 = .ok (.putfield 22, 3) := by decide +kernel
theorem dX3_init_31 : decode cX3_init 31 = .ok (.aload_n 0, 1) := by decide +kernel
theorem dX3_init_32 : decode cX3_init 32 = .ok (.bipush 16, 2) := by decide +kernel
theorem dX3_init_34 : decode cX3_init 34 = .ok (.newarray .int, 2) := by decide +kernel
theorem dX3_init_36 : decode cX3_init 36 = .ok (.putfield 25, 3) := by decide +kernel
theorem dX3_init_39 : decode cX3_init 39 = .ok (.aload_n 0, 1) := by decide +kernel
theorem dX3_init_40 : decode cX3_init 40 = .ok (.bipush 16, 2) := by decide +kernel
theorem dX3_init_42 : decode cX3_init 42 = .ok (.newarray .int, 2) := by decide +kernel
theorem dX3_init_44 : decode cX3_init 44 = .ok (.putfield 28, 3) := by decide +kernel
theorem dX3_init_47 : decode cX3_init 47 = .ok (.aload_n 0, 1) := by decide +kernel
theorem dX3_init_48 : decode cX3_init 48 = .ok (.iconst 3, 1) := by decide +kernel
theorem dX3_init_49 : decode cX3_init 49 = .ok (.newarray .int, 2) := by decide +kernel
theorem dX3_init_51 : decode cX3_init 51 = .ok (.putfield 31, 3) := by decide +kernel
theorem dX3_init_54 : decode cX3_init 54 = .ok (.aload_n 0, 1) := by decide +kernel
theorem dX3_init_55 : decode cX3_init 55 = .ok (.getfield 18, 3) := by decide +kernel
theorem dX3_init_58 : decode cX3_init 58 = .ok (.iconst 2, 1) := by decide +kernel
theorem dX3_init_59 : decode cX3_init 59 = .ok (.invokestatic 34, 3) := by decide +kernel
theorem dX3_init_62 : decode cX3_init 62 = .ok (.aload_n 0, 1) := by decide +kernel
theorem dX3_init_63 : decode cX3_init 63 = .ok (.getfield 25, 3) := by decide +kernel
theorem dX3_init_66 : decode cX3_init 66 = .ok (.iconst 2, 1) := by decide +kernel
theorem dX3_init_67 : decode cX3_init 67 = .ok (.invokestatic 34, 3) := by decide +kernel
theorem dX3_init_70 : decode cX3_init 70 = .ok (.aload_n 0, 1) := by decide +kernel
theorem dX3_init_71 : decode cX3_init 71 = .ok (.getfield 28, 3) := by decide +kernel
theorem dX3_init_74 : decode cX3_init 74 = .ok (.bipush 31, 2) := by decide +kernel
theorem dX3_init_76 : decode cX3_init 76 = .ok (.invokestatic 34, 3) := by decide +kernel
theorem dX3_init_79 : decode cX3_init 79 = .ok (.getstatic 40, 3) := by decide +kernel
theorem dX3_init_82 : decode cX3_init 82 = .ok (.aload_n 0, 1) := by decide +kernel
theorem dX3_init_83 : decode cX3_init 83 = .ok (.getfield 31, 3) := by decide +kernel
theorem dX3_init_86 : decode cX3_init 86 = .ok (.invokestatic 43, 3) := by decide +kernel
theorem dX3_init_89 : decode cX3_init 89 = .ok (.aload_n 0, 1) := by decide +kernel
theorem dX3_init_90 : decode cX3_init 90 = .ok (.iconst 0, 1) := by decide +kernel
theorem dX3_init_91 : decode cX3_init 91 = .ok (.putfield 47, 3) := by decide +kernel
theorem dX3_init_94 : decode cX3_init 94 = .ok (.aload_n 0, 1) := by decide +kernel
theorem dX3_init_95 : decode cX3_init 95 = .ok (.iconst (-1), 1) := by decide +kernel
theorem dX3_init_96 : decode cX3_init 96 = .ok (.putfield 51, 3) := by decide +kernel
theorem dX3_init_99 : decode cX3_init 99 = .ok (.return_, 1) := by decide +kernel
theorem dX3_copyFrom_0 : decode cX3_copyFrom 0 = .ok (.aload_n 1, 1) := by decide +kernel
theorem dX3_copyFrom_1 : decode cX3_copyFrom 1 = .ok (.ifnull 85, 3) := by decide +kernel
theorem dX3_copyFrom_4 : decode cX3_copyFrom 4 = .ok (.aload_n 0, 1) := by decide +kernel
theorem dX3_copyFrom_5 : decode cX3_copyFrom 5 = .ok (.getfield 12, 3) := by decide +kernel
theorem dX3_copyFrom_8 : decode cX3_copyFrom 8 = .ok (.aload_n 1, 1) := by decide +kernel
theorem dX3_copyFrom_9 : decode cX3_copyFrom 9 = .ok (.getfield 12, 3) := by decide +kernel
theorem dX3_copyFrom_12 : decode cX3_copyFrom 12 = .ok (.invokevirtual 54, 3) := by decide +kernel
theorem dX3_copyFrom_15 : decode cX3_copyFrom 15 = .ok (.aload_n 1, 1) := by decide +kernel
theorem dX3_copyFrom_16 : decode cX3_copyFrom 16 = .ok (.getfield 18, 3) := by decide +kernel
theorem dX3_copyFrom_19 : decode cX3_copyFrom 19 = .ok (.aload_n 0, 1) := by decide +kernel
theorem dX3_copyFrom_20 : decode cX3_copyFrom 20 = .ok (.getfield 18, 3) := by decide +kernel
theorem dX3_copyFrom_23 : decode cX3_copyFrom 23 = .ok (.invokestatic 43, 3) := by decide +kernel
theorem dX3_copyFrom_26 : decode cX3_copyFrom 26 = .ok (.aload_n 1, 1) := by decide +kernel
theorem dX3_copyFrom_27 : decode cX3_copyFrom 27 = .ok (.getfield 22, 3) := by decide +kernel
theorem dX3_copyFrom_30 : decode cX3_copyFrom 30 = .ok (.aload_n 0, 1) := by decide +kernel
theorem dX3_copyFrom_31 : decode cX3_copyFrom 31 = .ok (.getfield 22, 3) := by decide +kernel
theorem dX3_copyFrom_34 : decode cX3_copyFrom 34 = .ok (.invokestatic 43, 3) := by decide +kernel
theorem dX3_copyFrom_37 : decode cX3_copyFrom 37 = .ok (.aload_n 1, 1) := by decide +kernel
theorem dX3_copyFrom_38 : decode cX3_copyFrom 38 = .ok (.getfield 25, 3) := by decide +kernel
theorem dX3_copyFrom_41 : decode cX3_copyFrom 41 = .ok (.aload_n 0, 1) := by decide +kernel
theorem dX3_copyFrom_42 : decode cX3_copyFrom 42 = .ok (.getfield 25, 3) := by decide +kernel
theorem dX3_copyFrom_45 : decode cX3_copyFrom 45 = .ok (.invokestatic 43, 3) := by decide +kernel
theorem dX3_copyFrom_48 : decode cX3_copyFrom 48 = .ok (.aload_n 1, 1) := by decide +kernel
theorem dX3_copyFrom_49 : decode cX3_copyFrom 49 = .ok (.getfield 28, 3) := by decide +kernel
theorem dX3_copyFrom_52 : decode cX3_copyFrom 52 = .ok (.aload_n 0, 1) := by decide +kernel
theorem dX3_copyFrom_53 : decode cX3_copyFrom 53 = .ok (.getfield 28, 3) := by decide +kernel
theorem dX3_copyFrom_56 : decode cX3_copyFrom 56 = .ok (.invokestatic 43, 3) := by decide +kernel
theorem dX3_copyFrom_59 : decode cX3_copyFrom 59 = .ok (.aload_n 1, 1) := by decide +kernel
theorem dX3_copyFrom_60 : decode cX3_copyFrom 60 = .ok (.getfield 31, 3) := by decide +kernel
theorem dX3_copyFrom_63 : decode cX3_copyFrom 63 = .ok (.aload_n 0, 1) := by decide +kernel
theorem dX3_copyFrom_64 : decode cX3_copyFrom 64 = .ok (.getfield 31, 3) := by decide +kernel
theorem dX3_copyFrom_67 : decode cX3_copyFrom 67 = .ok (.invokestatic 43, 3) := by decide +kernel
theorem dX3_copyFrom_70 : decode cX3_copyFrom 70 = .ok (.aload_n 0, 1) := by decide +kernel
theorem dX3_copyFrom_71 : decode cX3_copyFrom 71 = .ok (.aload_n 1, 1) := by decide +kernel
theorem dX3_copyFrom_72 : decode cX3_copyFrom 72 = .ok (.getfield 47, 3) := by decide +kernel
theorem dX3_copyFrom_75 : decode cX3_copyFrom 75 = .ok (.putfield 47, 3) := by decide +kernel
theorem dX3_copyFrom_78 : decode cX3_copyFrom 78 = .ok (.aload_n 0, 1) := by decide +kernel
theorem dX3_copyFrom_79 : decode cX3_copyFrom 79 = .ok (.aload_n 1, 1) := by decide +kernel
theorem dX3_copyFrom_80 : decode cX3_copyFrom 80 = .ok (.getfield 51, 3) := by decide +kernel
theorem dX3_copyFrom_83 : decode cX3_copyFrom 83 = .ok (.putfield 51, 3) := by decide +kernel
theorem dX3_copyFrom_86 : decode cX3_copyFrom 86 = .ok (.return_, 1) := by decide +kernel
theorem dX3_bookSheets_0 : decode cX3_bookSheets 0 = .ok (.aload_n 0, 1) := by decide +kernel
theorem dX3_bookSheets_1 : decode cX3_bookSheets 1 = .ok (.getfield 31, 3) := by decide +kernel
theorem dX3_bookSheets_4 : decode cX3_bookSheets 4 = .ok (.iconst 0, 1) := by decide +kernel
theorem dX3_bookSheets_5 : decode cX3_bookSheets 5 = .ok (.invokestatic 58, 3) := by decide +kernel
theorem dX3_bookSheets_8 : decode cX3_bookSheets 8 = .ok (.ireturn, 1) := by decide +kernel
theorem dX3_hasCopyAndRoom_0 : decode cX3_hasCopyAndRoom 0 = .ok (.aload_n 0, 1) := by decide +kernel
theorem dX3_hasCopyAndRoom_1 : decode cX3_hasCopyAndRoom 1 = .ok (.getfield 18, 3) := by decide +kernel
theorem dX3_hasCopyAndRoom_4 : decode cX3_hasCopyAndRoom 4 = .ok (.iload_n 1, 1) := by decide +kernel
theorem dX3_hasCopyAndRoom_5 : decode cX3_hasCopyAndRoom 5 = .ok (.invokestatic 58, 3) := by decide +kernel
theorem dX3_hasCopyAndRoom_8 : decode cX3_hasCopyAndRoom 8 = .ok (.ifCond .le 19, 3) := by decide +kernel
theorem dX3_hasCopyAndRoom_11 : decode cX3_hasCopyAndRoom 11 = .ok (.aload_n 0, 1) := by decide +kernel
theorem dX3_hasCopyAndRoom_12 : decode cX3_hasCopyAndRoom 12 = .ok (.getfield 12, 3) := by decide +kernel
theorem dX3_hasCopyAndRoom_15 : decode cX3_hasCopyAndRoom 15 = .ok (.getfield 62, 3) := by decide +kernel
theorem dX3_hasCopyAndRoom_18 : decode cX3_hasCopyAndRoom 18 = .ok (.bipush 20, 2) := by decide +kernel
theorem dX3_hasCopyAndRoom_20 : decode cX3_hasCopyAndRoom 20 = .ok (.if_icmp .ge 7, 3) := by decide +kernel
theorem dX3_hasCopyAndRoom_23 : decode cX3_hasCopyAndRoom 23 = .ok (.iconst 1, 1) := by decide +kernel
theorem dX3_hasCopyAndRoom_24 : decode cX3_hasCopyAndRoom 24 = .ok (.goto 4, 3) := by decide +kernel
theorem dX3_hasCopyAndRoom_27 : decode cX3_hasCopyAndRoom 27 = .ok (.iconst 0, 1) := by decide +kernel
theorem dX3_hasCopyAndRoom_28 : decode cX3_hasCopyAndRoom 28 = .ok (.ireturn, 1) := by decide +kernel
theorem dX3_putFromBin_0 : decode cX3_putFromBin 0 = .ok (.aload_n 0, 1) := by decide +kernel
theorem dX3_putFromBin_1 : decode cX3_putFromBin 1 = .ok (.getfield 18, 3) := by decide +kernel
theorem dX3_putFromBin_4 : decode cX3_putFromBin 4 = .ok (.iload_n 2, 1) := by decide +kernel
theorem dX3_putFromBin_5 : decode cX3_putFromBin 5 = .ok (.iconst (-1), 1) := by decide +kernel
theorem dX3_putFromBin_6 : decode cX3_putFromBin 6 = .ok (.invokestatic 65, 3) := by decide +kernel
theorem dX3_putFromBin_9 : decode cX3_putFromBin 9 = .ok (.aload_n 0, 1) := by decide +kernel
theorem dX3_putFromBin_10 : decode cX3_putFromBin 10 = .ok (.getfield 12, 3) := by decide +kernel
theorem dX3_putFromBin_13 : decode cX3_putFromBin 13 = .ok (.iload_n 1, 1) := by decide +kernel
theorem dX3_putFromBin_14 : decode cX3_putFromBin 14 = .ok (.iload_n 2, 1) := by decide +kernel
theorem dX3_putFromBin_15 : decode cX3_putFromBin 15 = .ok (.iconst 0, 1) := by decide +kernel
theorem dX3_putFromBin_16 : decode cX3_putFromBin 16 = .ok (.invokevirtual 69, 3) := by decide +kernel
theorem dX3_putFromBin_19 : decode cX3_putFromBin 19 = .ok (.return_, 1) := by decide +kernel
theorem dX3_putBack_0 : decode cX3_putBack 0 = .ok (.aload_n 0, 1) := by decide +kernel
theorem dX3_putBack_1 : decode cX3_putBack 1 = .ok (.getfield 12, 3) := by decide +kernel
theorem dX3_putBack_4 : decode cX3_putBack 4 = .ok (.getfield 73, 3) := by decide +kernel
theorem dX3_putBack_7 : decode cX3_putBack 7 = .ok (.iload_n 1, 1) := by decide +kernel
theorem dX3_putBack_8 : decode cX3_putBack 8 = .ok (.invokestatic 58, 3) := by decide +kernel
theorem dX3_putBack_11 : decode cX3_putBack 11 = .ok (.istore_n 2, 1) := by decide +kernel
theorem dX3_putBack_12 : decode cX3_putBack 12 = .ok (.aload_n 0, 1) := by decide +kernel
theorem dX3_putBack_13 : decode cX3_putBack 13 = .ok (.getfield 12, 3) := by decide +kernel
theorem dX3_putBack_16 : decode cX3_putBack 16 = .ok (.iload_n 1, 1) := by decide +kernel
theorem dX3_putBack_17 : decode cX3_putBack 17 = .ok (.invokevirtual 76, 3) := by decide +kernel
theorem dX3_putBack_20 : decode cX3_putBack 20 = .ok (.aload_n 0, 1) := by decide +kernel
theorem dX3_putBack_21 : decode cX3_putBack 21 = .ok (.getfield 18, 3) := by decide +kernel
theorem dX3_putBack_24 : decode cX3_putBack 24 = .ok (.iload_n 2, 1) := by decide +kernel
theorem dX3_putBack_25 : decode cX3_putBack 25 = .ok (.iconst 1, 1) := by decide +kernel
theorem dX3_putBack_26 : decode cX3_putBack 26 = .ok (.invokestatic 65, 3) := by decide +kernel
theorem dX3_putBack_29 : decode cX3_putBack 29 = .ok (.iload_n 2, 1) := by decide +kernel
theorem dX3_putBack_30 : decode cX3_putBack 30 = .ok (.ireturn, 1) := by decide +kernel
theorem dX3_bindBlock_0 : decode cX3_bindBlock 0 = .ok (.iconst 0, 1) := by decide +kernel
theorem dX3_bindBlock_1 : decode cX3_bindBlock 1 = .ok (.istore_n 1, 1) := by decide +kernel
theorem dX3_bindBlock_2 : decode cX3_bindBlock 2 = .ok (.iload_n 1, 1) := by decide +kernel
theorem dX3_bindBlock_3 : decode cX3_bindBlock 3 = .ok (.aload_n 0, 1) := by decide +kernel
theorem dX3_bindBlock_4 : decode cX3_bindBlock 4 = .ok (.getfield 12, 3) := by decide +kernel
theorem dX3_bindBlock_7 : decode cX3_bindBlock 7 = .ok (.getfield 62, 3) := by decide +kernel
theorem dX3_bindBlock_10 : decode cX3_bindBlock 10 = .ok (.if_icmp .ge 28, 3) := by decide +kernel
theorem dX3_bindBlock_13 : decode cX3_bindBlock 13 = .ok (.aload_n 0, 1) := by decide +kernel
theorem dX3_bindBlock_14 : decode cX3_bindBlock 14 = .ok (.getfield 22, 3) := by decide +kernel
theorem dX3_bindBlock_17 : decode cX3_bindBlock 17 = .ok (.aload_n 0, 1) := by decide +kernel
theorem dX3_bindBlock_18 : decode cX3_bindBlock 18 = .ok (.getfield 12, 3) := by decide +kernel
theorem dX3_bindBlock_21 : decode cX3_bindBlock 21 = .ok (.getfield 73, 3) := by decide +kernel
theorem dX3_bindBlock_24 : decode cX3_bindBlock 24 = .ok (.iload_n 1, 1) := by decide +kernel
theorem dX3_bindBlock_25 : decode cX3_bindBlock 25 = .ok (.invokestatic 58, 3) := by decide +kernel
theorem dX3_bindBlock_28 : decode cX3_bindBlock 28 = .ok (.iconst 1, 1) := by decide +kernel
theorem dX3_bindBlock_29 : decode cX3_bindBlock 29 = .ok (.invokestatic 65, 3) := by decide +kernel
theorem dX3_bindBlock_32 : decode cX3_bindBlock 32 = .ok (.iinc 1 1, 3) := by decide +kernel
theorem dX3_bindBlock_35 : decode cX3_bindBlock 35 = .ok (.goto (-33), 3) := by decide +kernel
theorem dX3_bindBlock_38 : decode cX3_bindBlock 38 = .ok (.aload_n 0, 1) := by decide +kernel
theorem dX3_bindBlock_39 : decode cX3_bindBlock 39 = .ok (.getfield 12, 3) := by decide +kernel
theorem dX3_bindBlock_42 : decode cX3_bindBlock 42 = .ok (.iconst 0, 1) := by decide +kernel
theorem dX3_bindBlock_43 : decode cX3_bindBlock 43 = .ok (.putfield 62, 3) := by decide +kernel
theorem dX3_bindBlock_46 : decode cX3_bindBlock 46 = .ok (.aload_n 0, 1) := by decide +kernel
theorem dX3_bindBlock_47 : decode cX3_bindBlock 47 = .ok (.dup, 1) := by decide +kernel
theorem dX3_bindBlock_48 : decode cX3_bindBlock 48 = .ok (.getfield 47, 3) := by decide +kernel
theorem dX3_bindBlock_51 : decode cX3_bindBlock 51 = .ok (.iconst 1, 1) := by decide +kernel
theorem dX3_bindBlock_52 : decode cX3_bindBlock 52 = .ok (.iadd, 1) := by decide +kernel
theorem dX3_bindBlock_53 : decode cX3_bindBlock 53 = .ok (.putfield 47, 3) := by decide +kernel
theorem dX3_bindBlock_56 : decode cX3_bindBlock 56 = .ok (.return_, 1) := by decide +kernel
theorem dX3_copiesInBinAndBlock_0 : decode cX3_copiesInBinAndBlock 0 = .ok (.aload_n 0, 1) := by decide +kernel
theorem dX3_copiesInBinAndBlock_1 : decode cX3_copiesInBinAndBlock 1 = .ok (.getfield 18, 3) := by decide +kernel
theorem dX3_copiesInBinAndBlock_4 : decode cX3_copiesInBinAndBlock 4 = .ok (.iload_n 1, 1) := by decide +kernel
theorem dX3_copiesInBinAndBlock_5 : decode cX3_copiesInBinAndBlock 5 = .ok (.invokestatic 58, 3) := by decide +kernel
theorem dX3_copiesInBinAndBlock_8 : decode cX3_copiesInBinAndBlock 8 = .ok (.aload_n 0, 1) := by decide +kernel
theorem dX3_copiesInBinAndBlock_9 : decode cX3_copiesInBinAndBlock 9 = .ok (.getfield 12, 3) := by decide +kernel
theorem dX3_copiesInBinAndBlock_12 : decode cX3_copiesInBinAndBlock 12 = .ok (.iload_n 1, 1) := by decide +kernel
theorem dX3_copiesInBinAndBlock_13 : decode cX3_copiesInBinAndBlock 13 = .ok (.invokevirtual 80, 3) := by decide +kernel
theorem dX3_copiesInBinAndBlock_16 : decode cX3_copiesInBinAndBlock 16 = .ok (.iadd, 1) := by decide +kernel
theorem dX3_copiesInBinAndBlock_17 : decode cX3_copiesInBinAndBlock 17 = .ok (.ireturn, 1) := by decide +kernel
theorem dX3_sheetsInBooks_0 : decode cX3_sheetsInBooks 0 = .ok (.iconst 0, 1) := by decide +kernel
theorem dX3_sheetsInBooks_1 : decode cX3_sheetsInBooks 1 = .ok (.istore_n 1, 1) := by decide +kernel
theorem dX3_sheetsInBooks_2 : decode cX3_sheetsInBooks 2 = .ok (.iconst 0, 1) := by decide +kernel
theorem dX3_sheetsInBooks_3 : decode cX3_sheetsInBooks 3 = .ok (.istore_n 2, 1) := by decide +kernel
theorem dX3_sheetsInBooks_4 : decode cX3_sheetsInBooks 4 = .ok (.iload_n 2, 1) := by decide +kernel
theorem dX3_sheetsInBooks_5 : decode cX3_sheetsInBooks 5 = .ok (.bipush 16, 2) := by decide +kernel
theorem dX3_sheetsInBooks_7 : decode cX3_sheetsInBooks 7 = .ok (.if_icmp .ge 20, 3) := by decide +kernel
theorem dX3_sheetsInBooks_10 : decode cX3_sheetsInBooks 10 = .ok (.iload_n 1, 1) := by decide +kernel
theorem dX3_sheetsInBooks_11 : decode cX3_sheetsInBooks 11 = .ok (.aload_n 0, 1) := by decide +kernel
theorem dX3_sheetsInBooks_12 : decode cX3_sheetsInBooks 12 = .ok (.getfield 22, 3) := by decide +kernel
theorem dX3_sheetsInBooks_15 : decode cX3_sheetsInBooks 15 = .ok (.iload_n 2, 1) := by decide +kernel
theorem dX3_sheetsInBooks_16 : decode cX3_sheetsInBooks 16 = .ok (.invokestatic 58, 3) := by decide +kernel
theorem dX3_sheetsInBooks_19 : decode cX3_sheetsInBooks 19 = .ok (.iadd, 1) := by decide +kernel
theorem dX3_sheetsInBooks_20 : decode cX3_sheetsInBooks 20 = .ok (.istore_n 1, 1) := by decide +kernel
theorem dX3_sheetsInBooks_21 : decode cX3_sheetsInBooks 21 = .ok (.iinc 2 1, 3) := by decide +kernel
theorem dX3_sheetsInBooks_24 : decode cX3_sheetsInBooks 24 = .ok (.goto (-20), 3) := by decide +kernel
theorem dX3_sheetsInBooks_27 : decode cX3_sheetsInBooks 27 = .ok (.iload_n 1, 1) := by decide +kernel
theorem dX3_sheetsInBooks_28 : decode cX3_sheetsInBooks 28 = .ok (.ireturn, 1) := by decide +kernel
theorem dX3_stepOfNumber_0 : decode cX3_stepOfNumber 0 = .ok (.aload_n 0, 1) := by decide +kernel
theorem dX3_stepOfNumber_1 : decode cX3_stepOfNumber 1 = .ok (.getfield 31, 3) := by decide +kernel
theorem dX3_stepOfNumber_4 : decode cX3_stepOfNumber 4 = .ok (.iconst 1, 1) := by decide +kernel
theorem dX3_stepOfNumber_5 : decode cX3_stepOfNumber 5 = .ok (.invokestatic 58, 3) := by decide +kernel
theorem dX3_stepOfNumber_8 : decode cX3_stepOfNumber 8 = .ok (.istore_n 2, 1) := by decide +kernel
theorem dX3_stepOfNumber_9 : decode cX3_stepOfNumber 9 = .ok (.iload_n 2, 1) := by decide +kernel
theorem dX3_stepOfNumber_10 : decode cX3_stepOfNumber 10 = .ok (.ifCond .le 9, 3) := by decide +kernel
theorem dX3_stepOfNumber_13 : decode cX3_stepOfNumber 13 = .ok (.iload_n 1, 1) := by decide +kernel
theorem dX3_stepOfNumber_14 : decode cX3_stepOfNumber 14 = .ok (.iload_n 2, 1) := by decide +kernel
theorem dX3_stepOfNumber_15 : decode cX3_stepOfNumber 15 = .ok (.irem, 1) := by decide +kernel
theorem dX3_stepOfNumber_16 : decode cX3_stepOfNumber 16 = .ok (.goto 4, 3) := by decide +kernel
theorem dX3_stepOfNumber_19 : decode cX3_stepOfNumber 19 = .ok (.iconst 0, 1) := by decide +kernel
theorem dX3_stepOfNumber_20 : decode cX3_stepOfNumber 20 = .ok (.ireturn, 1) := by decide +kernel
theorem dX3_stepOfMark_0 : decode cX3_stepOfMark 0 = .ok (.aload_n 0, 1) := by decide +kernel
theorem dX3_stepOfMark_1 : decode cX3_stepOfMark 1 = .ok (.aload_n 0, 1) := by decide +kernel
theorem dX3_stepOfMark_2 : decode cX3_stepOfMark 2 = .ok (.getfield 12, 3) := by decide +kernel
theorem dX3_stepOfMark_5 : decode cX3_stepOfMark 5 = .ok (.getfield 73, 3) := by decide +kernel
theorem dX3_stepOfMark_8 : decode cX3_stepOfMark 8 = .ok (.iload_n 1, 1) := by decide +kernel
theorem dX3_stepOfMark_9 : decode cX3_stepOfMark 9 = .ok (.invokestatic 58, 3) := by decide +kernel
theorem dX3_stepOfMark_12 : decode cX3_stepOfMark 12 = .ok (.invokevirtual 84, 3) := by decide +kernel
theorem dX3_stepOfMark_15 : decode cX3_stepOfMark 15 = .ok (.istore_n 2, 1) := by decide +kernel
theorem dX3_stepOfMark_16 : decode cX3_stepOfMark 16 = .ok (.aload_n 0, 1) := by decide +kernel
theorem dX3_stepOfMark_17 : decode cX3_stepOfMark 17 = .ok (.getfield 12, 3) := by decide +kernel
theorem dX3_stepOfMark_20 : decode cX3_stepOfMark 20 = .ok (.getfield 87, 3) := by decide +kernel
theorem dX3_stepOfMark_23 : decode cX3_stepOfMark 23 = .ok (.iload_n 1, 1) := by decide +kernel
theorem dX3_stepOfMark_24 : decode cX3_stepOfMark 24 = .ok (.invokestatic 58, 3) := by decide +kernel
theorem dX3_stepOfMark_27 : decode cX3_stepOfMark 27 = .ok (.ifCond .ne 7, 3) := by decide +kernel
theorem dX3_stepOfMark_30 : decode cX3_stepOfMark 30 = .ok (.iload_n 2, 1) := by decide +kernel
theorem dX3_stepOfMark_31 : decode cX3_stepOfMark 31 = .ok (.goto 15, 3) := by decide +kernel
theorem dX3_stepOfMark_34 : decode cX3_stepOfMark 34 = .ok (.aload_n 0, 1) := by decide +kernel
theorem dX3_stepOfMark_35 : decode cX3_stepOfMark 35 = .ok (.getfield 31, 3) := by decide +kernel
theorem dX3_stepOfMark_38 : decode cX3_stepOfMark 38 = .ok (.iconst 1, 1) := by decide +kernel
theorem dX3_stepOfMark_39 : decode cX3_stepOfMark 39 = .ok (.invokestatic 58, 3) := by decide +kernel
theorem dX3_stepOfMark_42 : decode cX3_stepOfMark 42 = .ok (.iconst 1, 1) := by decide +kernel
theorem dX3_stepOfMark_43 : decode cX3_stepOfMark 43 = .ok (.isub, 1) := by decide +kernel
theorem dX3_stepOfMark_44 : decode cX3_stepOfMark 44 = .ok (.iload_n 2, 1) := by decide +kernel
theorem dX3_stepOfMark_45 : decode cX3_stepOfMark 45 = .ok (.isub, 1) := by decide +kernel
theorem dX3_stepOfMark_46 : decode cX3_stepOfMark 46 = .ok (.ireturn, 1) := by decide +kernel
theorem dX3_stepDueAt_0 : decode cX3_stepDueAt 0 = .ok (.iload_n 1, 1) := by decide +kernel
theorem dX3_stepDueAt_1 : decode cX3_stepDueAt 1 = .ok (.ifCond .le 19, 3) := by decide +kernel
theorem dX3_stepDueAt_4 : decode cX3_stepDueAt 4 = .ok (.aload_n 0, 1) := by decide +kernel
theorem dX3_stepDueAt_5 : decode cX3_stepDueAt 5 = .ok (.aload_n 0, 1) := by decide +kernel
theorem dX3_stepDueAt_6 : decode cX3_stepDueAt 6 = .ok (.iload_n 1, 1) := by decide +kernel
theorem dX3_stepDueAt_7 : decode cX3_stepDueAt 7 = .ok (.iconst 1, 1) := by decide +kernel
theorem dX3_stepDueAt_8 : decode cX3_stepDueAt 8 = .ok (.isub, 1) := by decide +kernel
theorem dX3_stepDueAt_9 : decode cX3_stepDueAt 9 = .ok (.invokevirtual 90, 3) := by decide +kernel
theorem dX3_stepDueAt_12 : decode cX3_stepDueAt 12 = .ok (.iconst 1, 1) := by decide +kernel
theorem dX3_stepDueAt_13 : decode cX3_stepDueAt 13 = .ok (.iadd, 1) := by decide +kernel
theorem dX3_stepDueAt_14 : decode cX3_stepDueAt 14 = .ok (.invokevirtual 84, 3) := by decide +kernel
theorem dX3_stepDueAt_17 : decode cX3_stepDueAt 17 = .ok (.goto 4, 3) := by decide +kernel
theorem dX3_stepDueAt_20 : decode cX3_stepDueAt 20 = .ok (.iconst 0, 1) := by decide +kernel
theorem dX3_stepDueAt_21 : decode cX3_stepDueAt 21 = .ok (.ireturn, 1) := by decide +kernel
theorem dX3_breaksAheadOf_0 : decode cX3_breaksAheadOf 0 = .ok (.aload_n 0, 1) := by decide +kernel
theorem dX3_breaksAheadOf_1 : decode cX3_breaksAheadOf 1 = .ok (.iload_n 1, 1) := by decide +kernel
theorem dX3_breaksAheadOf_2 : decode cX3_breaksAheadOf 2 = .ok (.invokevirtual 90, 3) := by decide +kernel
theorem dX3_breaksAheadOf_5 : decode cX3_breaksAheadOf 5 = .ok (.aload_n 0, 1) := by decide +kernel
theorem dX3_breaksAheadOf_6 : decode cX3_breaksAheadOf 6 = .ok (.iload_n 1, 1) := by decide +kernel
theorem dX3_breaksAheadOf_7 : decode cX3_breaksAheadOf 7 = .ok (.invokevirtual 93, 3) := by decide +kernel
theorem dX3_breaksAheadOf_10 : decode cX3_breaksAheadOf 10 = .ok (.if_icmp .eq 7, 3) := by decide +kernel
theorem dX3_breaksAheadOf_13 : decode cX3_breaksAheadOf 13 = .ok (.iconst 1, 1) := by decide +kernel
theorem dX3_breaksAheadOf_14 : decode cX3_breaksAheadOf 14 = .ok (.goto 4, 3) := by decide +kernel
theorem dX3_breaksAheadOf_17 : decode cX3_breaksAheadOf 17 = .ok (.iconst 0, 1) := by decide +kernel
theorem dX3_breaksAheadOf_18 : decode cX3_breaksAheadOf 18 = .ok (.ireturn, 1) := by decide +kernel
theorem dX3_breaks_0 : decode cX3_breaks 0 = .ok (.iconst 0, 1) := by decide +kernel
theorem dX3_breaks_1 : decode cX3_breaks 1 = .ok (.istore_n 1, 1) := by decide +kernel
theorem dX3_breaks_2 : decode cX3_breaks 2 = .ok (.iconst 0, 1) := by decide +kernel
theorem dX3_breaks_3 : decode cX3_breaks 3 = .ok (.istore_n 2, 1) := by decide +kernel
theorem dX3_breaks_4 : decode cX3_breaks 4 = .ok (.iconst 0, 1) := by decide +kernel
theorem dX3_breaks_5 : decode cX3_breaks 5 = .ok (.istore_n 3, 1) := by decide +kernel
theorem dX3_breaks_6 : decode cX3_breaks 6 = .ok (.iload_n 3, 1) := by decide +kernel
theorem dX3_breaks_7 : decode cX3_breaks 7 = .ok (.aload_n 0, 1) := by decide +kernel
theorem dX3_breaks_8 : decode cX3_breaks 8 = .ok (.getfield 12, 3) := by decide +kernel
theorem dX3_breaks_11 : decode cX3_breaks 11 = .ok (.getfield 62, 3) := by decide +kernel
theorem dX3_breaks_14 : decode cX3_breaks 14 = .ok (.if_icmp .ge 34, 3) := by decide +kernel
theorem dX3_breaks_17 : decode cX3_breaks 17 = .ok (.aload_n 0, 1) := by decide +kernel
theorem dX3_breaks_18 : decode cX3_breaks 18 = .ok (.iload_n 3, 1) := by decide +kernel
theorem dX3_breaks_19 : decode cX3_breaks 19 = .ok (.invokevirtual 90, 3) := by decide +kernel
theorem dX3_breaks_22 : decode cX3_breaks 22 = .ok (.istore 4, 2) := by decide +kernel
theorem dX3_breaks_24 : decode cX3_breaks 24 = .ok (.iload 4, 2) := by decide +kernel
theorem dX3_breaks_26 : decode cX3_breaks 26 = .ok (.iload_n 2, 1) := by decide +kernel
theorem dX3_breaks_27 : decode cX3_breaks 27 = .ok (.if_icmp .eq 6, 3) := by decide +kernel
theorem dX3_breaks_30 : decode cX3_breaks 30 = .ok (.iinc 1 1, 3) := by decide +kernel
theorem dX3_breaks_33 : decode cX3_breaks 33 = .ok (.aload_n 0, 1) := by decide +kernel
theorem dX3_breaks_34 : decode cX3_breaks 34 = .ok (.iload 4, 2) := by decide +kernel
theorem dX3_breaks_36 : decode cX3_breaks 36 = .ok (.iconst 1, 1) := by decide +kernel
theorem dX3_breaks_37 : decode cX3_breaks 37 = .ok (.iadd, 1) := by decide +kernel
theorem dX3_breaks_38 : decode cX3_breaks 38 = .ok (.invokevirtual 84, 3) := by decide +kernel
theorem dX3_breaks_41 : decode cX3_breaks 41 = .ok (.istore_n 2, 1) := by decide +kernel
theorem dX3_breaks_42 : decode cX3_breaks 42 = .ok (.iinc 3 1, 3) := by decide +kernel
theorem dX3_breaks_45 : decode cX3_breaks 45 = .ok (.goto (-39), 3) := by decide +kernel
theorem dX3_breaks_48 : decode cX3_breaks 48 = .ok (.iload_n 1, 1) := by decide +kernel
theorem dX3_breaks_49 : decode cX3_breaks 49 = .ok (.ireturn, 1) := by decide +kernel
theorem dX3_fault_0 : decode cX3_fault 0 = .ok (.aload_n 0, 1) := by decide +kernel
theorem dX3_fault_1 : decode cX3_fault 1 = .ok (.getfield 12, 3) := by decide +kernel
theorem dX3_fault_4 : decode cX3_fault 4 = .ok (.getfield 62, 3) := by decide +kernel
theorem dX3_fault_7 : decode cX3_fault 7 = .ok (.ifCond .ne 5, 3) := by decide +kernel
theorem dX3_fault_10 : decode cX3_fault 10 = .ok (.iconst 1, 1) := by decide +kernel
theorem dX3_fault_11 : decode cX3_fault 11 = .ok (.ireturn, 1) := by decide +kernel
theorem dX3_fault_12 : decode cX3_fault 12 = .ok (.aload_n 0, 1) := by decide +kernel
theorem dX3_fault_13 : decode cX3_fault 13 = .ok (.getfield 12, 3) := by decide +kernel
theorem dX3_fault_16 : decode cX3_fault 16 = .ok (.invokevirtual 96, 3) := by decide +kernel
theorem dX3_fault_19 : decode cX3_fault 19 = .ok (.iconst (-1), 1) := by decide +kernel
theorem dX3_fault_20 : decode cX3_fault 20 = .ok (.if_icmp .eq 5, 3) := by decide +kernel
theorem dX3_fault_23 : decode cX3_fault 23 = .ok (.iconst 2, 1) := by decide +kernel
theorem dX3_fault_24 : decode cX3_fault 24 = .ok (.ireturn, 1) := by decide +kernel
theorem dX3_fault_25 : decode cX3_fault 25 = .ok (.aload_n 0, 1) := by decide +kernel
theorem dX3_fault_26 : decode cX3_fault 26 = .ok (.getfield 12, 3) := by decide +kernel
theorem dX3_fault_29 : decode cX3_fault 29 = .ok (.aload_n 0, 1) := by decide +kernel
theorem dX3_fault_30 : decode cX3_fault 30 = .ok (.invokevirtual 100, 3) := by decide +kernel
theorem dX3_fault_33 : decode cX3_fault 33 = .ok (.invokevirtual 103, 3) := by decide +kernel
theorem dX3_fault_36 : decode cX3_fault 36 = .ok (.iconst (-1), 1) := by decide +kernel
theorem dX3_fault_37 : decode cX3_fault 37 = .ok (.if_icmp .eq 5, 3) := by decide +kernel
theorem dX3_fault_40 : decode cX3_fault 40 = .ok (.iconst 3, 1) := by decide +kernel
theorem dX3_fault_41 : decode cX3_fault 41 = .ok (.ireturn, 1) := by decide +kernel
theorem dX3_fault_42 : decode cX3_fault 42 = .ok (.aload_n 0, 1) := by decide +kernel
theorem dX3_fault_43 : decode cX3_fault 43 = .ok (.getfield 12, 3) := by decide +kernel
theorem dX3_fault_46 : decode cX3_fault 46 = .ok (.invokevirtual 106, 3) := by decide +kernel
theorem dX3_fault_49 : decode cX3_fault 49 = .ok (.iconst (-1), 1) := by decide +kernel
theorem dX3_fault_50 : decode cX3_fault 50 = .ok (.if_icmp .eq 5, 3) := by decide +kernel
theorem dX3_fault_53 : decode cX3_fault 53 = .ok (.iconst 4, 1) := by decide +kernel
theorem dX3_fault_54 : decode cX3_fault 54 = .ok (.ireturn, 1) := by decide +kernel
theorem dX3_fault_55 : decode cX3_fault 55 = .ok (.aload_n 0, 1) := by decide +kernel
theorem dX3_fault_56 : decode cX3_fault 56 = .ok (.invokevirtual 109, 3) := by decide +kernel
theorem dX3_fault_59 : decode cX3_fault 59 = .ok (.iconst (-1), 1) := by decide +kernel
theorem dX3_fault_60 : decode cX3_fault 60 = .ok (.if_icmp .eq 5, 3) := by decide +kernel
theorem dX3_fault_63 : decode cX3_fault 63 = .ok (.iconst 5, 1) := by decide +kernel
theorem dX3_fault_64 : decode cX3_fault 64 = .ok (.ireturn, 1) := by decide +kernel
theorem dX3_fault_65 : decode cX3_fault 65 = .ok (.aload_n 0, 1) := by decide +kernel
theorem dX3_fault_66 : decode cX3_fault 66 = .ok (.getfield 12, 3) := by decide +kernel
theorem dX3_fault_69 : decode cX3_fault 69 = .ok (.invokevirtual 112, 3) := by decide +kernel
theorem dX3_fault_72 : decode cX3_fault 72 = .ok (.iconst (-1), 1) := by decide +kernel
theorem dX3_fault_73 : decode cX3_fault 73 = .ok (.if_icmp .eq 8, 3) := by decide +kernel
theorem dX3_fault_76 : decode cX3_fault 76 = .ok (.bipush 6, 2) := by decide +kernel
theorem dX3_fault_78 : decode cX3_fault 78 = .ok (.goto 4, 3) := by decide +kernel
theorem dX3_fault_81 : decode cX3_fault 81 = .ok (.iconst 0, 1) := by decide +kernel
theorem dX3_fault_82 : decode cX3_fault 82 = .ok (.ireturn, 1) := by decide +kernel
theorem dX3_placeOfFault_0 : decode cX3_placeOfFault 0 = .ok (.aload_n 0, 1) := by decide +kernel
theorem dX3_placeOfFault_1 : decode cX3_placeOfFault 1 = .ok (.invokevirtual 115, 3) := by decide +kernel
theorem dX3_placeOfFault_4 : decode cX3_placeOfFault 4 = .ok (.tableswitch 72 2 6 #[36, 44, 56, 72, 64], 36) := by decide +kernel
theorem dX3_placeOfFault_40 : decode cX3_placeOfFault 40 = .ok (.aload_n 0, 1) := by decide +kernel
theorem dX3_placeOfFault_41 : decode cX3_placeOfFault 41 = .ok (.getfield 12, 3) := by decide +kernel
theorem dX3_placeOfFault_44 : decode cX3_placeOfFault 44 = .ok (.invokevirtual 96, 3) := by decide +kernel
theorem dX3_placeOfFault_47 : decode cX3_placeOfFault 47 = .ok (.ireturn, 1) := by decide +kernel
theorem dX3_placeOfFault_48 : decode cX3_placeOfFault 48 = .ok (.aload_n 0, 1) := by decide +kernel
theorem dX3_placeOfFault_49 : decode cX3_placeOfFault 49 = .ok (.getfield 12, 3) := by decide +kernel
theorem dX3_placeOfFault_52 : decode cX3_placeOfFault 52 = .ok (.aload_n 0, 1) := by decide +kernel
theorem dX3_placeOfFault_53 : decode cX3_placeOfFault 53 = .ok (.invokevirtual 100, 3) := by decide +kernel
theorem dX3_placeOfFault_56 : decode cX3_placeOfFault 56 = .ok (.invokevirtual 103, 3) := by decide +kernel
theorem dX3_placeOfFault_59 : decode cX3_placeOfFault 59 = .ok (.ireturn, 1) := by decide +kernel
theorem dX3_placeOfFault_60 : decode cX3_placeOfFault 60 = .ok (.aload_n 0, 1) := by decide +kernel
theorem dX3_placeOfFault_61 : decode cX3_placeOfFault 61 = .ok (.getfield 12, 3) := by decide +kernel
theorem dX3_placeOfFault_64 : decode cX3_placeOfFault 64 = .ok (.invokevirtual 106, 3) := by decide +kernel
theorem dX3_placeOfFault_67 : decode cX3_placeOfFault 67 = .ok (.ireturn, 1) := by decide +kernel
theorem dX3_placeOfFault_68 : decode cX3_placeOfFault 68 = .ok (.aload_n 0, 1) := by decide +kernel
theorem dX3_placeOfFault_69 : decode cX3_placeOfFault 69 = .ok (.getfield 12, 3) := by decide +kernel
theorem dX3_placeOfFault_72 : decode cX3_placeOfFault 72 = .ok (.invokevirtual 112, 3) := by decide +kernel
theorem dX3_placeOfFault_75 : decode cX3_placeOfFault 75 = .ok (.ireturn, 1) := by decide +kernel
theorem dX3_placeOfFault_76 : decode cX3_placeOfFault 76 = .ok (.iconst (-1), 1) := by decide +kernel
theorem dX3_placeOfFault_77 : decode cX3_placeOfFault 77 = .ok (.ireturn, 1) := by decide +kernel
theorem dX3_lowestMissing_0 : decode cX3_lowestMissing 0 = .ok (.iconst 0, 1) := by decide +kernel
theorem dX3_lowestMissing_1 : decode cX3_lowestMissing 1 = .ok (.istore_n 1, 1) := by decide +kernel
theorem dX3_lowestMissing_2 : decode cX3_lowestMissing 2 = .ok (.iload_n 1, 1) := by decide +kernel
theorem dX3_lowestMissing_3 : decode cX3_lowestMissing 3 = .ok (.aload_n 0, 1) := by decide +kernel
theorem dX3_lowestMissing_4 : decode cX3_lowestMissing 4 = .ok (.invokevirtual 100, 3) := by decide +kernel
theorem dX3_lowestMissing_7 : decode cX3_lowestMissing 7 = .ok (.if_icmp .ge 28, 3) := by decide +kernel
theorem dX3_lowestMissing_10 : decode cX3_lowestMissing 10 = .ok (.iload_n 1, 1) := by decide +kernel
theorem dX3_lowestMissing_11 : decode cX3_lowestMissing 11 = .ok (.bipush 16, 2) := by decide +kernel
theorem dX3_lowestMissing_13 : decode cX3_lowestMissing 13 = .ok (.if_icmp .ge 22, 3) := by decide +kernel
theorem dX3_lowestMissing_16 : decode cX3_lowestMissing 16 = .ok (.aload_n 0, 1) := by decide +kernel
theorem dX3_lowestMissing_17 : decode cX3_lowestMissing 17 = .ok (.getfield 12, 3) := by decide +kernel
theorem dX3_lowestMissing_20 : decode cX3_lowestMissing 20 = .ok (.iload_n 1, 1) := by decide +kernel
theorem dX3_lowestMissing_21 : decode cX3_lowestMissing 21 = .ok (.invokevirtual 80, 3) := by decide +kernel
theorem dX3_lowestMissing_24 : decode cX3_lowestMissing 24 = .ok (.ifCond .ne 5, 3) := by decide +kernel
theorem dX3_lowestMissing_27 : decode cX3_lowestMissing 27 = .ok (.iload_n 1, 1) := by decide +kernel
theorem dX3_lowestMissing_28 : decode cX3_lowestMissing 28 = .ok (.ireturn, 1) := by decide +kernel
theorem dX3_lowestMissing_29 : decode cX3_lowestMissing 29 = .ok (.iinc 1 1, 3) := by decide +kernel
theorem dX3_lowestMissing_32 : decode cX3_lowestMissing 32 = .ok (.goto (-30), 3) := by decide +kernel
theorem dX3_lowestMissing_35 : decode cX3_lowestMissing 35 = .ok (.iconst (-1), 1) := by decide +kernel
theorem dX3_lowestMissing_36 : decode cX3_lowestMissing 36 = .ok (.ireturn, 1) := by decide +kernel
theorem dX3_holesAt_0 : decode cX3_holesAt 0 = .ok (.aload_n 0, 1) := by decide +kernel
theorem dX3_holesAt_1 : decode cX3_holesAt 1 = .ok (.getfield 28, 3) := by decide +kernel
theorem dX3_holesAt_4 : decode cX3_holesAt 4 = .ok (.aload_n 0, 1) := by decide +kernel
theorem dX3_holesAt_5 : decode cX3_holesAt 5 = .ok (.getfield 12, 3) := by decide +kernel
theorem dX3_holesAt_8 : decode cX3_holesAt 8 = .ok (.getfield 73, 3) := by decide +kernel
theorem dX3_holesAt_11 : decode cX3_holesAt 11 = .ok (.iload_n 1, 1) := by decide +kernel
theorem dX3_holesAt_12 : decode cX3_holesAt 12 = .ok (.invokestatic 58, 3) := by decide +kernel
theorem dX3_holesAt_15 : decode cX3_holesAt 15 = .ok (.invokestatic 58, 3) := by decide +kernel
theorem dX3_holesAt_18 : decode cX3_holesAt 18 = .ok (.ireturn, 1) := by decide +kernel
theorem dX3_stitchesAheadOf_0 : decode cX3_stitchesAheadOf 0 = .ok (.iload_n 1, 1) := by decide +kernel
theorem dX3_stitchesAheadOf_1 : decode cX3_stitchesAheadOf 1 = .ok (.ifCond .le 22, 3) := by decide +kernel
theorem dX3_stitchesAheadOf_4 : decode cX3_stitchesAheadOf 4 = .ok (.aload_n 0, 1) := by decide +kernel
theorem dX3_stitchesAheadOf_5 : decode cX3_stitchesAheadOf 5 = .ok (.iload_n 1, 1) := by decide +kernel
theorem dX3_stitchesAheadOf_6 : decode cX3_stitchesAheadOf 6 = .ok (.iconst 1, 1) := by decide +kernel
theorem dX3_stitchesAheadOf_7 : decode cX3_stitchesAheadOf 7 = .ok (.isub, 1) := by decide +kernel
theorem dX3_stitchesAheadOf_8 : decode cX3_stitchesAheadOf 8 = .ok (.invokevirtual 118, 3) := by decide +kernel
theorem dX3_stitchesAheadOf_11 : decode cX3_stitchesAheadOf 11 = .ok (.aload_n 0, 1) := by decide +kernel
theorem dX3_stitchesAheadOf_12 : decode cX3_stitchesAheadOf 12 = .ok (.iload_n 1, 1) := by decide +kernel
theorem dX3_stitchesAheadOf_13 : decode cX3_stitchesAheadOf 13 = .ok (.invokevirtual 118, 3) := by decide +kernel
theorem dX3_stitchesAheadOf_16 : decode cX3_stitchesAheadOf 16 = .ok (.iand, 1) := by decide +kernel
theorem dX3_stitchesAheadOf_17 : decode cX3_stitchesAheadOf 17 = .ok (.invokestatic 121, 3) := by decide +kernel
theorem dX3_stitchesAheadOf_20 : decode cX3_stitchesAheadOf 20 = .ok (.goto 4, 3) := by decide +kernel
theorem dX3_stitchesAheadOf_23 : decode cX3_stitchesAheadOf 23 = .ok (.iconst 0, 1) := by decide +kernel
theorem dX3_stitchesAheadOf_24 : decode cX3_stitchesAheadOf 24 = .ok (.ireturn, 1) := by decide +kernel
theorem dX3_stitches_0 : decode cX3_stitches 0 = .ok (.iconst 0, 1) := by decide +kernel
theorem dX3_stitches_1 : decode cX3_stitches 1 = .ok (.istore_n 1, 1) := by decide +kernel
theorem dX3_stitches_2 : decode cX3_stitches 2 = .ok (.iconst 1, 1) := by decide +kernel
theorem dX3_stitches_3 : decode cX3_stitches 3 = .ok (.istore_n 2, 1) := by decide +kernel
theorem dX3_stitches_4 : decode cX3_stitches 4 = .ok (.iload_n 2, 1) := by decide +kernel
theorem dX3_stitches_5 : decode cX3_stitches 5 = .ok (.aload_n 0, 1) := by decide +kernel
theorem dX3_stitches_6 : decode cX3_stitches 6 = .ok (.getfield 12, 3) := by decide +kernel
theorem dX3_stitches_9 : decode cX3_stitches 9 = .ok (.getfield 62, 3) := by decide +kernel
theorem dX3_stitches_12 : decode cX3_stitches 12 = .ok (.if_icmp .ge 17, 3) := by decide +kernel
theorem dX3_stitches_15 : decode cX3_stitches 15 = .ok (.iload_n 1, 1) := by decide +kernel
theorem dX3_stitches_16 : decode cX3_stitches 16 = .ok (.aload_n 0, 1) := by decide +kernel
theorem dX3_stitches_17 : decode cX3_stitches 17 = .ok (.iload_n 2, 1) := by decide +kernel
theorem dX3_stitches_18 : decode cX3_stitches 18 = .ok (.invokevirtual 126, 3) := by decide +kernel
theorem dX3_stitches_21 : decode cX3_stitches 21 = .ok (.iadd, 1) := by decide +kernel
theorem dX3_stitches_22 : decode cX3_stitches 22 = .ok (.istore_n 1, 1) := by decide +kernel
theorem dX3_stitches_23 : decode cX3_stitches 23 = .ok (.iinc 2 1, 3) := by decide +kernel
theorem dX3_stitches_26 : decode cX3_stitches 26 = .ok (.goto (-22), 3) := by decide +kernel
theorem dX3_stitches_29 : decode cX3_stitches 29 = .ok (.iload_n 1, 1) := by decide +kernel
theorem dX3_stitches_30 : decode cX3_stitches 30 = .ok (.ireturn, 1) := by decide +kernel
theorem dX3_loosePlaces_0 : decode cX3_loosePlaces 0 = .ok (.iconst 0, 1) := by decide +kernel
theorem dX3_loosePlaces_1 : decode cX3_loosePlaces 1 = .ok (.istore_n 1, 1) := by decide +kernel
theorem dX3_loosePlaces_2 : decode cX3_loosePlaces 2 = .ok (.iconst 1, 1) := by decide +kernel
theorem dX3_loosePlaces_3 : decode cX3_loosePlaces 3 = .ok (.istore_n 2, 1) := by decide +kernel
theorem dX3_loosePlaces_4 : decode cX3_loosePlaces 4 = .ok (.iload_n 2, 1) := by decide +kernel
theorem dX3_loosePlaces_5 : decode cX3_loosePlaces 5 = .ok (.aload_n 0, 1) := by decide +kernel
theorem dX3_loosePlaces_6 : decode cX3_loosePlaces 6 = .ok (.getfield 12, 3) := by decide +kernel
theorem dX3_loosePlaces_9 : decode cX3_loosePlaces 9 = .ok (.getfield 62, 3) := by decide +kernel
theorem dX3_loosePlaces_12 : decode cX3_loosePlaces 12 = .ok (.if_icmp .ge 20, 3) := by decide +kernel
theorem dX3_loosePlaces_15 : decode cX3_loosePlaces 15 = .ok (.aload_n 0, 1) := by decide +kernel
theorem dX3_loosePlaces_16 : decode cX3_loosePlaces 16 = .ok (.iload_n 2, 1) := by decide +kernel
theorem dX3_loosePlaces_17 : decode cX3_loosePlaces 17 = .ok (.invokevirtual 126, 3) := by decide +kernel
theorem dX3_loosePlaces_20 : decode cX3_loosePlaces 20 = .ok (.ifCond .ne 6, 3) := by decide +kernel
theorem dX3_loosePlaces_23 : decode cX3_loosePlaces 23 = .ok (.iinc 1 1, 3) := by decide +kernel
theorem dX3_loosePlaces_26 : decode cX3_loosePlaces 26 = .ok (.iinc 2 1, 3) := by decide +kernel
theorem dX3_loosePlaces_29 : decode cX3_loosePlaces 29 = .ok (.goto (-25), 3) := by decide +kernel
theorem dX3_loosePlaces_32 : decode cX3_loosePlaces 32 = .ok (.iload_n 1, 1) := by decide +kernel
theorem dX3_loosePlaces_33 : decode cX3_loosePlaces 33 = .ok (.ireturn, 1) := by decide +kernel
theorem dX3_threadLength_0 : decode cX3_threadLength 0 = .ok (.aload_n 0, 1) := by decide +kernel
theorem dX3_threadLength_1 : decode cX3_threadLength 1 = .ok (.invokevirtual 129, 3) := by decide +kernel
theorem dX3_threadLength_4 : decode cX3_threadLength 4 = .ok (.aload_n 0, 1) := by decide +kernel
theorem dX3_threadLength_5 : decode cX3_threadLength 5 = .ok (.getfield 31, 3) := by decide +kernel
theorem dX3_threadLength_8 : decode cX3_threadLength 8 = .ok (.iconst 2, 1) := by decide +kernel
theorem dX3_threadLength_9 : decode cX3_threadLength 9 = .ok (.invokestatic 58, 3) := by decide +kernel
theorem dX3_threadLength_12 : decode cX3_threadLength 12 = .ok (.imul, 1) := by decide +kernel
theorem dX3_threadLength_13 : decode cX3_threadLength 13 = .ok (.istore_n 1, 1) := by decide +kernel
theorem dX3_threadLength_14 : decode cX3_threadLength 14 = .ok (.iconst 0, 1) := by decide +kernel
theorem dX3_threadLength_15 : decode cX3_threadLength 15 = .ok (.istore_n 2, 1) := by decide +kernel
theorem dX3_threadLength_16 : decode cX3_threadLength 16 = .ok (.iload_n 2, 1) := by decide +kernel
theorem dX3_threadLength_17 : decode cX3_threadLength 17 = .ok (.aload_n 0, 1) := by decide +kernel
theorem dX3_threadLength_18 : decode cX3_threadLength 18 = .ok (.getfield 12, 3) := by decide +kernel
theorem dX3_threadLength_21 : decode cX3_threadLength 21 = .ok (.getfield 62, 3) := by decide +kernel
theorem dX3_threadLength_24 : decode cX3_threadLength 24 = .ok (.if_icmp .ge 20, 3) := by decide +kernel
theorem dX3_threadLength_27 : decode cX3_threadLength 27 = .ok (.iload_n 1, 1) := by decide +kernel
theorem dX3_threadLength_28 : decode cX3_threadLength 28 = .ok (.aload_n 0, 1) := by decide +kernel
theorem dX3_threadLength_29 : decode cX3_threadLength 29 = .ok (.iload_n 2, 1) := by decide +kernel
theorem dX3_threadLength_30 : decode cX3_threadLength 30 = .ok (.invokevirtual 118, 3) := by decide +kernel
theorem dX3_threadLength_33 : decode cX3_threadLength 33 = .ok (.invokestatic 132, 3) := by decide +kernel
theorem dX3_threadLength_36 : decode cX3_threadLength 36 = .ok (.iadd, 1) := by decide +kernel
theorem dX3_threadLength_37 : decode cX3_threadLength 37 = .ok (.istore_n 1, 1) := by decide +kernel
theorem dX3_threadLength_38 : decode cX3_threadLength 38 = .ok (.iinc 2 1, 3) := by decide +kernel
theorem dX3_threadLength_41 : decode cX3_threadLength 41 = .ok (.goto (-25), 3) := by decide +kernel
theorem dX3_threadLength_44 : decode cX3_threadLength 44 = .ok (.iload_n 1, 1) := by decide +kernel
theorem dX3_threadLength_45 : decode cX3_threadLength 45 = .ok (.ireturn, 1) := by decide +kernel
theorem dX3_spanOfHoles_0 : decode cX3_spanOfHoles 0 = .ok (.iconst 0, 1) := by decide +kernel
theorem dX3_spanOfHoles_1 : decode cX3_spanOfHoles 1 = .ok (.istore_n 1, 1) := by decide +kernel
theorem dX3_spanOfHoles_2 : decode cX3_spanOfHoles 2 = .ok (.iload_n 1, 1) := by decide +kernel
theorem dX3_spanOfHoles_3 : decode cX3_spanOfHoles 3 = .ok (.iconst 5, 1) := by decide +kernel
theorem dX3_spanOfHoles_4 : decode cX3_spanOfHoles 4 = .ok (.if_icmp .ge 17, 3) := by decide +kernel
theorem dX3_spanOfHoles_7 : decode cX3_spanOfHoles 7 = .ok (.iload_n 0, 1) := by decide +kernel
theorem dX3_spanOfHoles_8 : decode cX3_spanOfHoles 8 = .ok (.iload_n 1, 1) := by decide +kernel
theorem dX3_spanOfHoles_9 : decode cX3_spanOfHoles 9 = .ok (.ishr, 1) := by decide +kernel
theorem dX3_spanOfHoles_10 : decode cX3_spanOfHoles 10 = .ok (.iconst 1, 1) := by decide +kernel
theorem dX3_spanOfHoles_11 : decode cX3_spanOfHoles 11 = .ok (.iand, 1) := by decide +kernel
theorem dX3_spanOfHoles_12 : decode cX3_spanOfHoles 12 = .ok (.ifCond .ne 9, 3) := by decide +kernel
theorem dX3_spanOfHoles_15 : decode cX3_spanOfHoles 15 = .ok (.iinc 1 1, 3) := by decide +kernel
theorem dX3_spanOfHoles_18 : decode cX3_spanOfHoles 18 = .ok (.goto (-16), 3) := by decide +kernel
theorem dX3_spanOfHoles_21 : decode cX3_spanOfHoles 21 = .ok (.iconst 4, 1) := by decide +kernel
theorem dX3_spanOfHoles_22 : decode cX3_spanOfHoles 22 = .ok (.istore_n 2, 1) := by decide +kernel
theorem dX3_spanOfHoles_23 : decode cX3_spanOfHoles 23 = .ok (.iload_n 2, 1) := by decide +kernel
theorem dX3_spanOfHoles_24 : decode cX3_spanOfHoles 24 = .ok (.iload_n 1, 1) := by decide +kernel
theorem dX3_spanOfHoles_25 : decode cX3_spanOfHoles 25 = .ok (.if_icmp .le 17, 3) := by decide +kernel
theorem dX3_spanOfHoles_28 : decode cX3_spanOfHoles 28 = .ok (.iload_n 0, 1) := by decide +kernel
theorem dX3_spanOfHoles_29 : decode cX3_spanOfHoles 29 = .ok (.iload_n 2, 1) := by decide +kernel
theorem dX3_spanOfHoles_30 : decode cX3_spanOfHoles 30 = .ok (.ishr, 1) := by decide +kernel
theorem dX3_spanOfHoles_31 : decode cX3_spanOfHoles 31 = .ok (.iconst 1, 1) := by decide +kernel
theorem dX3_spanOfHoles_32 : decode cX3_spanOfHoles 32 = .ok (.iand, 1) := by decide +kernel
theorem dX3_spanOfHoles_33 : decode cX3_spanOfHoles 33 = .ok (.ifCond .ne 9, 3) := by decide +kernel
theorem dX3_spanOfHoles_36 : decode cX3_spanOfHoles 36 = .ok (.iinc 2 (-1), 3) := by decide +kernel
theorem dX3_spanOfHoles_39 : decode cX3_spanOfHoles 39 = .ok (.goto (-16), 3) := by decide +kernel
theorem dX3_spanOfHoles_42 : decode cX3_spanOfHoles 42 = .ok (.iconst 0, 1) := by decide +kernel
theorem dX3_spanOfHoles_43 : decode cX3_spanOfHoles 43 = .ok (.iload_n 2, 1) := by decide +kernel
theorem dX3_spanOfHoles_44 : decode cX3_spanOfHoles 44 = .ok (.iload_n 1, 1) := by decide +kernel
theorem dX3_spanOfHoles_45 : decode cX3_spanOfHoles 45 = .ok (.isub, 1) := by decide +kernel
theorem dX3_spanOfHoles_46 : decode cX3_spanOfHoles 46 = .ok (.invokestatic 135, 3) := by decide +kernel
theorem dX3_spanOfHoles_49 : decode cX3_spanOfHoles 49 = .ok (.ireturn, 1) := by decide +kernel
theorem dX4_init_0 : decode cX4_init 0 = .ok (.aload_n 0, 1) := by decide +kernel
theorem dX4_init_1 : decode cX4_init 1 = .ok (.invokespecial 1, 3) := by decide +kernel
theorem dX4_init_4 : decode cX4_init 4 = .ok (.aload_n 0, 1) := by decide +kernel
theorem dX4_init_5 : decode cX4_init 5 = .ok (.new 7, 3) := by decide +kernel
theorem dX4_init_8 : decode cX4_init 8 = .ok (.dup, 1) := by decide +kernel
theorem dX4_init_9 : decode cX4_init 9 = .ok (.invokespecial 9, 3) := by decide +kernel
theorem dX4_init_12 : decode cX4_init 12 = .ok (.putfield 10, 3) := by decide +kernel
theorem dX4_init_15 : decode cX4_init 15 = .ok (.aload_n 0, 1) := by decide +kernel
theorem dX4_init_16 : decode cX4_init 16 = .ok (.new 7, 3) := by decide +kernel
theorem dX4_init_19 : decode cX4_init 19 = .ok (.dup, 1) := by decide +kernel
theorem dX4_init_20 : decode cX4_init 20 = .ok (.invokespecial 9, 3) := by decide +kernel
theorem dX4_init_23 : decode cX4_init 23 = .ok (.putfield 16, 3) := by decide +kernel
theorem dX4_init_26 : decode cX4_init 26 = .ok (.aload_n 0, 1) := by decide +kernel
theorem dX4_init_27 : decode cX4_init 27 = .ok (.new 7, 3) := by decide +kernel
theorem dX4_init_30 : decode cX4_init 30 = .ok (.dup, 1) := by decide +kernel
theorem dX4_init_31 : decode cX4_init 31 = .ok (.invokespecial 9, 3) := by decide +kernel
theorem dX4_init_34 : decode cX4_init 34 = .ok (.putfield 19, 3) := by decide +kernel
theorem dX4_init_37 : decode cX4_init 37 = .ok (.aload_n 0, 1) := by decide +kernel
theorem dX4_init_38 : decode cX4_init 38 = .ok (.new 22, 3) := by decide +kernel
theorem dX4_init_41 : decode cX4_init 41 = .ok (.dup, 1) := by decide +kernel
theorem dX4_init_42 : decode cX4_init 42 = .ok (.invokespecial 24, 3) := by decide +kernel
theorem dX4_init_45 : decode cX4_init 45 = .ok (.putfield 25, 3) := by decide +kernel
theorem dX4_init_48 : decode cX4_init 48 = .ok (.aload_n 0, 1) := by decide +kernel
theorem dX4_init_49 : decode cX4_init 49 = .ok (.new 29, 3) := by decide +kernel
theorem dX4_init_52 : decode cX4_init 52 = .ok (.dup, 1) := by decide +kernel
theorem dX4_init_53 : decode cX4_init 53 = .ok (.invokespecial 31, 3) := by decide +kernel
theorem dX4_init_56 : decode cX4_init 56 = .ok (.putfield 32, 3) := by decide +kernel
theorem dX4_init_59 : decode cX4_init 59 = .ok (.aload_n 0, 1) := by decide +kernel
theorem dX4_init_60 : decode cX4_init 60 = .ok (.bipush 60, 2) := by decide +kernel
theorem dX4_init_62 : decode cX4_init 62 = .ok (.newarray .int, 2) := by decide +kernel
theorem dX4_init_64 : decode cX4_init 64 = .ok (.putfield 36, 3) := by decide +kernel
theorem dX4_init_67 : decode cX4_init 67 = .ok (.aload_n 0, 1) := by decide +kernel
theorem dX4_init_68 : decode cX4_init 68 = .ok (.iconst 0, 1) := by decide +kernel
theorem dX4_init_69 : decode cX4_init 69 = .ok (.putfield 40, 3) := by decide +kernel
theorem dX4_init_72 : decode cX4_init 72 = .ok (.aload_n 0, 1) := by decide +kernel
theorem dX4_init_73 : decode cX4_init 73 = .ok (.iconst 0, 1) := by decide +kernel
theorem dX4_init_74 : decode cX4_init 74 = .ok (.putfield 44, 3) := by decide +kernel
theorem dX4_init_77 : decode cX4_init 77 = .ok (.return_, 1) := by decide +kernel
theorem dX4_gather_0 : decode cX4_gather 0 = .ok (.iload_n 1, 1) := by decide +kernel
theorem dX4_gather_1 : decode cX4_gather 1 = .ok (.invokestatic 48, 3) := by decide +kernel
theorem dX4_gather_4 : decode cX4_gather 4 = .ok (.ifCond .ne 13, 3) := by decide +kernel
theorem dX4_gather_7 : decode cX4_gather 7 = .ok (.new 52, 3) := by decide +kernel
theorem dX4_gather_10 : decode cX4_gather 10 = .ok (.dup, 1) := by decide +kernel
theorem dX4_gather_11 : decode cX4_gather 11 = .ok (.ldc 54, 2) := by decide +kernel
theorem dX4_gather_13 : decode cX4_gather 13 = .ok (.invokespecial 56, 3) := by decide +kernel
theorem dX4_gather_16 : decode cX4_gather 16 = .ok (.athrow, 1) := by decide +kernel
theorem dX4_gather_17 : decode cX4_gather 17 = .ok (.aload_n 0, 1) := by decide +kernel
theorem dX4_gather_18 : decode cX4_gather 18 = .ok (.getfield 10, 3) := by decide +kernel
theorem dX4_gather_21 : decode cX4_gather 21 = .ok (.iload_n 1, 1) := by decide +kernel
theorem dX4_gather_22 : decode cX4_gather 22 = .ok (.invokevirtual 59, 3) := by decide +kernel
theorem dX4_gather_25 : decode cX4_gather 25 = .ok (.ifCond .ne 13, 3) := by decide +kernel
theorem dX4_gather_28 : decode cX4_gather 28 = .ok (.new 62, 3) := by decide +kernel
theorem dX4_gather_31 : decode cX4_gather 31 = .ok (.dup, 1) := by decide +kernel
theorem dX4_gather_32 : decode cX4_gather 32 = .ok (.ldc 64, 2) := by decide +kernel
theorem dX4_gather_34 : decode cX4_gather 34 = .ok (.invokespecial 66, 3) := by decide +kernel
theorem dX4_gather_37 : decode cX4_gather 37 = .ok (.athrow, 1) := by decide +kernel
theorem dX4_gather_38 : decode cX4_gather 38 = .ok (.aload_n 0, 1) := by decide +kernel
theorem dX4_gather_39 : decode cX4_gather 39 = .ok (.getfield 25, 3) := by decide +kernel
theorem dX4_gather_42 : decode cX4_gather 42 = .ok (.aload_n 0, 1) := by decide +kernel
theorem dX4_gather_43 : decode cX4_gather 43 = .ok (.getfield 10, 3) := by decide +kernel
theorem dX4_gather_46 : decode cX4_gather 46 = .ok (.invokevirtual 67, 3) := by decide +kernel
theorem dX4_gather_49 : decode cX4_gather 49 = .ok (.aload_n 0, 1) := by decide +kernel
theorem dX4_gather_50 : decode cX4_gather 50 = .ok (.getfield 10, 3) := by decide +kernel
theorem dX4_gather_53 : decode cX4_gather 53 = .ok (.aload_n 0, 1) := by decide +kernel
theorem dX4_gather_54 : decode cX4_gather 54 = .ok (.getfield 10, 3) := by decide +kernel
theorem dX4_gather_57 : decode cX4_gather 57 = .ok (.getfield 71, 3) := by decide +kernel
theorem dX4_gather_60 : decode cX4_gather 60 = .ok (.getfield 75, 3) := by decide +kernel
theorem dX4_gather_63 : decode cX4_gather 63 = .ok (.iload_n 1, 1) := by decide +kernel
theorem dX4_gather_64 : decode cX4_gather 64 = .ok (.invokevirtual 80, 3) := by decide +kernel
theorem dX4_gather_67 : decode cX4_gather 67 = .ok (.aload_n 0, 1) := by decide +kernel
theorem dX4_gather_68 : decode cX4_gather 68 = .ok (.getfield 10, 3) := by decide +kernel
theorem dX4_gather_71 : decode cX4_gather 71 = .ok (.getfield 71, 3) := by decide +kernel
theorem dX4_gather_74 : decode cX4_gather 74 = .ok (.getfield 75, 3) := by decide +kernel
theorem dX4_gather_77 : decode cX4_gather 77 = .ok (.ireturn, 1) := by decide +kernel
theorem dX4_insert_0 : decode cX4_insert 0 = .ok (.iload_n 1, 1) := by decide +kernel
theorem dX4_insert_1 : decode cX4_insert 1 = .ok (.ifCond .lt 24, 3) := by decide +kernel
theorem dX4_insert_4 : decode cX4_insert 4 = .ok (.iload_n 1, 1) := by decide +kernel
theorem dX4_insert_5 : decode cX4_insert 5 = .ok (.aload_n 0, 1) := by decide +kernel
theorem dX4_insert_6 : decode cX4_insert 6 = .ok (.getfield 10, 3) := by decide +kernel
theorem dX4_insert_9 : decode cX4_insert 9 = .ok (.getfield 71, 3) := by decide +kernel
theorem dX4_insert_12 : decode cX4_insert 12 = .ok (.getfield 75, 3) := by decide +kernel
theorem dX4_insert_15 : decode cX4_insert 15 = .ok (.if_icmp .gt 10, 3) := by decide +kernel
theorem dX4_insert_18 : decode cX4_insert 18 = .ok (.iload_n 2, 1) := by decide +kernel
theorem dX4_insert_19 : decode cX4_insert 19 = .ok (.invokestatic 48, 3) := by decide +kernel
theorem dX4_insert_22 : decode cX4_insert 22 = .ok (.ifCond .ne 13, 3) := by decide +kernel
theorem dX4_insert_25 : decode cX4_insert 25 = .ok (.new 52, 3) := by decide +kernel
theorem dX4_insert_28 : decode cX4_insert 28 = .ok (.dup, 1) := by decide +kernel
theorem dX4_insert_29 : decode cX4_insert 29 = .ok (.ldc 84, 2) := by decide +kernel
theorem dX4_insert_31 : decode cX4_insert 31 = .ok (.invokespecial 56, 3) := by decide +kernel
theorem dX4_insert_34 : decode cX4_insert 34 = .ok (.athrow, 1) := by decide +kernel
theorem dX4_insert_35 : decode cX4_insert 35 = .ok (.aload_n 0, 1) := by decide +kernel
theorem dX4_insert_36 : decode cX4_insert 36 = .ok (.getfield 10, 3) := by decide +kernel
theorem dX4_insert_39 : decode cX4_insert 39 = .ok (.iload_n 2, 1) := by decide +kernel
theorem dX4_insert_40 : decode cX4_insert 40 = .ok (.invokevirtual 59, 3) := by decide +kernel
theorem dX4_insert_43 : decode cX4_insert 43 = .ok (.ifCond .ne 13, 3) := by decide +kernel
theorem dX4_insert_46 : decode cX4_insert 46 = .ok (.new 62, 3) := by decide +kernel
theorem dX4_insert_49 : decode cX4_insert 49 = .ok (.dup, 1) := by decide +kernel
theorem dX4_insert_50 : decode cX4_insert 50 = .ok (.ldc 64, 2) := by decide +kernel
theorem dX4_insert_52 : decode cX4_insert 52 = .ok (.invokespecial 66, 3) := by decide +kernel
theorem dX4_insert_55 : decode cX4_insert 55 = .ok (.athrow, 1) := by decide +kernel
theorem dX4_insert_56 : decode cX4_insert 56 = .ok (.aload_n 0, 1) := by decide +kernel
theorem dX4_insert_57 : decode cX4_insert 57 = .ok (.getfield 25, 3) := by decide +kernel
theorem dX4_insert_60 : decode cX4_insert 60 = .ok (.aload_n 0, 1) := by decide +kernel
theorem dX4_insert_61 : decode cX4_insert 61 = .ok (.getfield 10, 3) := by decide +kernel
theorem dX4_insert_64 : decode cX4_insert 64 = .ok (.invokevirtual 67, 3) := by decide +kernel
theorem dX4_insert_67 : decode cX4_insert 67 = .ok (.aload_n 0, 1) := by decide +kernel
theorem dX4_insert_68 : decode cX4_insert 68 = .ok (.getfield 10, 3) := by decide +kernel
theorem dX4_insert_71 : decode cX4_insert 71 = .ok (.iload_n 1, 1) := by decide +kernel
theorem dX4_insert_72 : decode cX4_insert 72 = .ok (.iload_n 2, 1) := by decide +kernel
theorem dX4_insert_73 : decode cX4_insert 73 = .ok (.invokevirtual 80, 3) := by decide +kernel
theorem dX4_insert_76 : decode cX4_insert 76 = .ok (.aload_n 0, 1) := by decide +kernel
theorem dX4_insert_77 : decode cX4_insert 77 = .ok (.getfield 10, 3) := by decide +kernel
theorem dX4_insert_80 : decode cX4_insert 80 = .ok (.getfield 71, 3) := by decide +kernel
theorem dX4_insert_83 : decode cX4_insert 83 = .ok (.getfield 75, 3) := by decide +kernel
theorem dX4_insert_86 : decode cX4_insert 86 = .ok (.ireturn, 1) := by decide +kernel
theorem dX4_pull_0 : decode cX4_pull 0 = .ok (.aload_n 0, 1) := by decide +kernel
theorem dX4_pull_1 : decode cX4_pull 1 = .ok (.getfield 10, 3) := by decide +kernel
theorem dX4_pull_4 : decode cX4_pull 4 = .ok (.getfield 71, 3) := by decide +kernel
theorem dX4_pull_7 : decode cX4_pull 7 = .ok (.iload_n 1, 1) := by decide +kernel
theorem dX4_pull_8 : decode cX4_pull 8 = .ok (.invokevirtual 86, 3) := by decide +kernel
theorem dX4_pull_11 : decode cX4_pull 11 = .ok (.ifCond .ne 13, 3) := by decide +kernel
theorem dX4_pull_14 : decode cX4_pull 14 = .ok (.new 52, 3) := by decide +kernel
theorem dX4_pull_17 : decode cX4_pull 17 = .ok (.dup, 1) := by decide +kernel
theorem dX4_pull_18 : decode cX4_pull 18 = .ok (.ldc 89, 2) := by decide +kernel
theorem dX4_pull_20 : decode cX4_pull 20 = .ok (.invokespecial 56, 3) := by decide +kernel
theorem dX4_pull_23 : decode cX4_pull 23 = .ok (.athrow, 1) := by decide +kernel
theorem dX4_pull_24 : decode cX4_pull 24 = .ok (.aload_n 0, 1) := by decide +kernel
theorem dX4_pull_25 : decode cX4_pull 25 = .ok (.getfield 25, 3) := by decide +kernel
theorem dX4_pull_28 : decode cX4_pull 28 = .ok (.aload_n 0, 1) := by decide +kernel
theorem dX4_pull_29 : decode cX4_pull 29 = .ok (.getfield 10, 3) := by decide +kernel
theorem dX4_pull_32 : decode cX4_pull 32 = .ok (.invokevirtual 67, 3) := by decide +kernel
theorem dX4_pull_35 : decode cX4_pull 35 = .ok (.aload_n 0, 1) := by decide +kernel
theorem dX4_pull_36 : decode cX4_pull 36 = .ok (.getfield 10, 3) := by decide +kernel
theorem dX4_pull_39 : decode cX4_pull 39 = .ok (.iload_n 1, 1) := by decide +kernel
theorem dX4_pull_40 : decode cX4_pull 40 = .ok (.invokevirtual 91, 3) := by decide +kernel
end
section
theorem dX4_pull_43 : decode cX4_pull 43 = .ok (.ireturn, 1) := by decide +kernel
theorem dX4_flip_0 : decode cX4_flip 0 = .ok (.aload_n 0, 1) := by decide +kernel
theorem dX4_flip_1 : decode cX4_flip 1 = .ok (.getfield 10, 3) := by decide +kernel
theorem dX4_flip_4 : decode cX4_flip 4 = .ok (.getfield 71, 3) := by decide +kernel
theorem dX4_flip_7 : decode cX4_flip 7 = .ok (.iload_n 1, 1) := by decide +kernel
theorem dX4_flip_8 : decode cX4_flip 8 = .ok (.invokevirtual 86, 3) := by decide +kernel
theorem dX4_flip_11 : decode cX4_flip 11 = .ok (.ifCond .ne 13, 3) := by decide +kernel
theorem dX4_flip_14 : decode cX4_flip 14 = .ok (.new 52, 3) := by decide +kernel
theorem dX4_flip_17 : decode cX4_flip 17 = .ok (.dup, 1) := by decide +kernel
theorem dX4_flip_18 : decode cX4_flip 18 = .ok (.ldc 89, 2) := by decide +kernel
theorem dX4_flip_20 : decode cX4_flip 20 = .ok (.invokespecial 56, 3) := by decide +kernel
theorem dX4_flip_23 : decode cX4_flip 23 = .ok (.athrow, 1) := by decide +kernel
theorem dX4_flip_24 : decode cX4_flip 24 = .ok (.aload_n 0, 1) := by decide +kernel
theorem dX4_flip_25 : decode cX4_flip 25 = .ok (.getfield 25, 3) := by decide +kernel
theorem dX4_flip_28 : decode cX4_flip 28 = .ok (.aload_n 0, 1) := by decide +kernel
theorem dX4_flip_29 : decode cX4_flip 29 = .ok (.getfield 10, 3) := by decide +kernel
theorem dX4_flip_32 : decode cX4_flip 32 = .ok (.invokevirtual 67, 3) := by decide +kernel
theorem dX4_flip_35 : decode cX4_flip 35 = .ok (.aload_n 0, 1) := by decide +kernel
theorem dX4_flip_36 : decode cX4_flip 36 = .ok (.getfield 10, 3) := by decide +kernel
theorem dX4_flip_39 : decode cX4_flip 39 = .ok (.getfield 71, 3) := by decide +kernel
theorem dX4_flip_42 : decode cX4_flip 42 = .ok (.iload_n 1, 1) := by decide +kernel
theorem dX4_flip_43 : decode cX4_flip 43 = .ok (.invokevirtual 95, 3) := by decide +kernel
theorem dX4_flip_46 : decode cX4_flip 46 = .ok (.aload_n 0, 1) := by decide +kernel
theorem dX4_flip_47 : decode cX4_flip 47 = .ok (.getfield 10, 3) := by decide +kernel
theorem dX4_flip_50 : decode cX4_flip 50 = .ok (.iload_n 1, 1) := by decide +kernel
theorem dX4_flip_51 : decode cX4_flip 51 = .ok (.invokevirtual 99, 3) := by decide +kernel
theorem dX4_flip_54 : decode cX4_flip 54 = .ok (.ireturn, 1) := by decide +kernel
theorem dX4_move_0 : decode cX4_move 0 = .ok (.aload_n 0, 1) := by decide +kernel
theorem dX4_move_1 : decode cX4_move 1 = .ok (.getfield 10, 3) := by decide +kernel
theorem dX4_move_4 : decode cX4_move 4 = .ok (.getfield 71, 3) := by decide +kernel
theorem dX4_move_7 : decode cX4_move 7 = .ok (.iload_n 1, 1) := by decide +kernel
theorem dX4_move_8 : decode cX4_move 8 = .ok (.invokevirtual 86, 3) := by decide +kernel
theorem dX4_move_11 : decode cX4_move 11 = .ok (.ifCond .eq 17, 3) := by decide +kernel
theorem dX4_move_14 : decode cX4_move 14 = .ok (.aload_n 0, 1) := by decide +kernel
theorem dX4_move_15 : decode cX4_move 15 = .ok (.getfield 10, 3) := by decide +kernel
theorem dX4_move_18 : decode cX4_move 18 = .ok (.getfield 71, 3) := by decide +kernel
theorem dX4_move_21 : decode cX4_move 21 = .ok (.iload_n 2, 1) := by decide +kernel
theorem dX4_move_22 : decode cX4_move 22 = .ok (.invokevirtual 86, 3) := by decide +kernel
theorem dX4_move_25 : decode cX4_move 25 = .ok (.ifCond .ne 13, 3) := by decide +kernel
theorem dX4_move_28 : decode cX4_move 28 = .ok (.new 52, 3) := by decide +kernel
theorem dX4_move_31 : decode cX4_move 31 = .ok (.dup, 1) := by decide +kernel
theorem dX4_move_32 : decode cX4_move 32 = .ok (.ldc 102, 2) := by decide +kernel
theorem dX4_move_34 : decode cX4_move 34 = .ok (.invokespecial 56, 3) := by decide +kernel
theorem dX4_move_37 : decode cX4_move 37 = .ok (.athrow, 1) := by decide +kernel
theorem dX4_move_38 : decode cX4_move 38 = .ok (.aload_n 0, 1) := by decide +kernel
theorem dX4_move_39 : decode cX4_move 39 = .ok (.getfield 25, 3) := by decide +kernel
theorem dX4_move_42 : decode cX4_move 42 = .ok (.aload_n 0, 1) := by decide +kernel
theorem dX4_move_43 : decode cX4_move 43 = .ok (.getfield 10, 3) := by decide +kernel
theorem dX4_move_46 : decode cX4_move 46 = .ok (.invokevirtual 67, 3) := by decide +kernel
theorem dX4_move_49 : decode cX4_move 49 = .ok (.aload_n 0, 1) := by decide +kernel
theorem dX4_move_50 : decode cX4_move 50 = .ok (.getfield 10, 3) := by decide +kernel
theorem dX4_move_53 : decode cX4_move 53 = .ok (.getfield 71, 3) := by decide +kernel
theorem dX4_move_56 : decode cX4_move 56 = .ok (.iload_n 1, 1) := by decide +kernel
theorem dX4_move_57 : decode cX4_move 57 = .ok (.iload_n 2, 1) := by decide +kernel
theorem dX4_move_58 : decode cX4_move 58 = .ok (.invokevirtual 104, 3) := by decide +kernel
theorem dX4_move_61 : decode cX4_move 61 = .ok (.aload_n 0, 1) := by decide +kernel
theorem dX4_move_62 : decode cX4_move 62 = .ok (.getfield 10, 3) := by decide +kernel
theorem dX4_move_65 : decode cX4_move 65 = .ok (.invokevirtual 107, 3) := by decide +kernel
theorem dX4_move_68 : decode cX4_move 68 = .ok (.ireturn, 1) := by decide +kernel
theorem dX4_bind_0 : decode cX4_bind 0 = .ok (.aload_n 0, 1) := by decide +kernel
theorem dX4_bind_1 : decode cX4_bind 1 = .ok (.getfield 10, 3) := by decide +kernel
theorem dX4_bind_4 : decode cX4_bind 4 = .ok (.invokevirtual 111, 3) := by decide +kernel
theorem dX4_bind_7 : decode cX4_bind 7 = .ok (.ifCond .eq 13, 3) := by decide +kernel
theorem dX4_bind_10 : decode cX4_bind 10 = .ok (.new 62, 3) := by decide +kernel
theorem dX4_bind_13 : decode cX4_bind 13 = .ok (.dup, 1) := by decide +kernel
theorem dX4_bind_14 : decode cX4_bind 14 = .ok (.ldc 114, 2) := by decide +kernel
theorem dX4_bind_16 : decode cX4_bind 16 = .ok (.invokespecial 66, 3) := by decide +kernel
theorem dX4_bind_19 : decode cX4_bind 19 = .ok (.athrow, 1) := by decide +kernel
theorem dX4_bind_20 : decode cX4_bind 20 = .ok (.aload_n 0, 1) := by decide +kernel
theorem dX4_bind_21 : decode cX4_bind 21 = .ok (.getfield 25, 3) := by decide +kernel
theorem dX4_bind_24 : decode cX4_bind 24 = .ok (.aload_n 0, 1) := by decide +kernel
theorem dX4_bind_25 : decode cX4_bind 25 = .ok (.getfield 10, 3) := by decide +kernel
theorem dX4_bind_28 : decode cX4_bind 28 = .ok (.invokevirtual 67, 3) := by decide +kernel
theorem dX4_bind_31 : decode cX4_bind 31 = .ok (.aload_n 0, 1) := by decide +kernel
theorem dX4_bind_32 : decode cX4_bind 32 = .ok (.getfield 10, 3) := by decide +kernel
theorem dX4_bind_35 : decode cX4_bind 35 = .ok (.invokevirtual 116, 3) := by decide +kernel
theorem dX4_bind_38 : decode cX4_bind 38 = .ok (.aload_n 0, 1) := by decide +kernel
theorem dX4_bind_39 : decode cX4_bind 39 = .ok (.getfield 10, 3) := by decide +kernel
theorem dX4_bind_42 : decode cX4_bind 42 = .ok (.getfield 119, 3) := by decide +kernel
theorem dX4_bind_45 : decode cX4_bind 45 = .ok (.ireturn, 1) := by decide +kernel
theorem dX4_print_0 : decode cX4_print 0 = .ok (.iload_n 1, 1) := by decide +kernel
theorem dX4_print_1 : decode cX4_print 1 = .ok (.invokestatic 48, 3) := by decide +kernel
theorem dX4_print_4 : decode cX4_print 4 = .ok (.ifCond .ne 13, 3) := by decide +kernel
theorem dX4_print_7 : decode cX4_print 7 = .ok (.new 52, 3) := by decide +kernel
theorem dX4_print_10 : decode cX4_print 10 = .ok (.dup, 1) := by decide +kernel
theorem dX4_print_11 : decode cX4_print 11 = .ok (.ldc 54, 2) := by decide +kernel
theorem dX4_print_13 : decode cX4_print 13 = .ok (.invokespecial 56, 3) := by decide +kernel
theorem dX4_print_16 : decode cX4_print 16 = .ok (.athrow, 1) := by decide +kernel
theorem dX4_print_17 : decode cX4_print 17 = .ok (.iload_n 2, 1) := by decide +kernel
theorem dX4_print_18 : decode cX4_print 18 = .ok (.iconst 1, 1) := by decide +kernel
theorem dX4_print_19 : decode cX4_print 19 = .ok (.if_icmp .lt 9, 3) := by decide +kernel
theorem dX4_print_22 : decode cX4_print 22 = .ok (.iload_n 2, 1) := by decide +kernel
theorem dX4_print_23 : decode cX4_print 23 = .ok (.bipush 20, 2) := by decide +kernel
theorem dX4_print_25 : decode cX4_print 25 = .ok (.if_icmp .le 13, 3) := by decide +kernel
theorem dX4_print_28 : decode cX4_print 28 = .ok (.new 122, 3) := by decide +kernel
theorem dX4_print_31 : decode cX4_print 31 = .ok (.dup, 1) := by decide +kernel
theorem dX4_print_32 : decode cX4_print 32 = .ok (.ldc 124, 2) := by decide +kernel
theorem dX4_print_34 : decode cX4_print 34 = .ok (.invokespecial 126, 3) := by decide +kernel
theorem dX4_print_37 : decode cX4_print 37 = .ok (.athrow, 1) := by decide +kernel
theorem dX4_print_38 : decode cX4_print 38 = .ok (.aload_n 0, 1) := by decide +kernel
theorem dX4_print_39 : decode cX4_print 39 = .ok (.getfield 10, 3) := by decide +kernel
theorem dX4_print_42 : decode cX4_print 42 = .ok (.getfield 127, 3) := by decide +kernel
theorem dX4_print_45 : decode cX4_print 45 = .ok (.iload_n 1, 1) := by decide +kernel
theorem dX4_print_46 : decode cX4_print 46 = .ok (.invokestatic 130, 3) := by decide +kernel
theorem dX4_print_49 : decode cX4_print 49 = .ok (.iload_n 2, 1) := by decide +kernel
theorem dX4_print_50 : decode cX4_print 50 = .ok (.iadd, 1) := by decide +kernel
theorem dX4_print_51 : decode cX4_print 51 = .ok (.bipush 99, 2) := by decide +kernel
theorem dX4_print_53 : decode cX4_print 53 = .ok (.if_icmp .le 13, 3) := by decide +kernel
theorem dX4_print_56 : decode cX4_print 56 = .ok (.new 62, 3) := by decide +kernel
theorem dX4_print_59 : decode cX4_print 59 = .ok (.dup, 1) := by decide +kernel
theorem dX4_print_60 : decode cX4_print 60 = .ok (.ldc 134, 2) := by decide +kernel
theorem dX4_print_62 : decode cX4_print 62 = .ok (.invokespecial 66, 3) := by decide +kernel
theorem dX4_print_65 : decode cX4_print 65 = .ok (.athrow, 1) := by decide +kernel
theorem dX4_print_66 : decode cX4_print 66 = .ok (.aload_n 0, 1) := by decide +kernel
theorem dX4_print_67 : decode cX4_print 67 = .ok (.getfield 25, 3) := by decide +kernel
theorem dX4_print_70 : decode cX4_print 70 = .ok (.aload_n 0, 1) := by decide +kernel
theorem dX4_print_71 : decode cX4_print 71 = .ok (.getfield 10, 3) := by decide +kernel
theorem dX4_print_74 : decode cX4_print 74 = .ok (.invokevirtual 67, 3) := by decide +kernel
theorem dX4_print_77 : decode cX4_print 77 = .ok (.aload_n 0, 1) := by decide +kernel
theorem dX4_print_78 : decode cX4_print 78 = .ok (.getfield 10, 3) := by decide +kernel
theorem dX4_print_81 : decode cX4_print 81 = .ok (.getfield 127, 3) := by decide +kernel
theorem dX4_print_84 : decode cX4_print 84 = .ok (.iload_n 1, 1) := by decide +kernel
theorem dX4_print_85 : decode cX4_print 85 = .ok (.iload_n 2, 1) := by decide +kernel
theorem dX4_print_86 : decode cX4_print 86 = .ok (.invokestatic 136, 3) := by decide +kernel
theorem dX4_print_89 : decode cX4_print 89 = .ok (.aload_n 0, 1) := by decide +kernel
theorem dX4_print_90 : decode cX4_print 90 = .ok (.getfield 10, 3) := by decide +kernel
theorem dX4_print_93 : decode cX4_print 93 = .ok (.getfield 140, 3) := by decide +kernel
theorem dX4_print_96 : decode cX4_print 96 = .ok (.iload_n 1, 1) := by decide +kernel
theorem dX4_print_97 : decode cX4_print 97 = .ok (.iload_n 2, 1) := by decide +kernel
theorem dX4_print_98 : decode cX4_print 98 = .ok (.invokestatic 136, 3) := by decide +kernel
theorem dX4_print_101 : decode cX4_print 101 = .ok (.aload_n 0, 1) := by decide +kernel
theorem dX4_print_102 : decode cX4_print 102 = .ok (.getfield 10, 3) := by decide +kernel
theorem dX4_print_105 : decode cX4_print 105 = .ok (.getfield 127, 3) := by decide +kernel
theorem dX4_print_108 : decode cX4_print 108 = .ok (.iload_n 1, 1) := by decide +kernel
theorem dX4_print_109 : decode cX4_print 109 = .ok (.invokestatic 130, 3) := by decide +kernel
theorem dX4_print_112 : decode cX4_print 112 = .ok (.ireturn, 1) := by decide +kernel
theorem dX4_punch_0 : decode cX4_punch 0 = .ok (.iload_n 1, 1) := by decide +kernel
theorem dX4_punch_1 : decode cX4_punch 1 = .ok (.invokestatic 48, 3) := by decide +kernel
theorem dX4_punch_4 : decode cX4_punch 4 = .ok (.ifCond .ne 13, 3) := by decide +kernel
theorem dX4_punch_7 : decode cX4_punch 7 = .ok (.new 52, 3) := by decide +kernel
theorem dX4_punch_10 : decode cX4_punch 10 = .ok (.dup, 1) := by decide +kernel
theorem dX4_punch_11 : decode cX4_punch 11 = .ok (.ldc 54, 2) := by decide +kernel
theorem dX4_punch_13 : decode cX4_punch 13 = .ok (.invokespecial 56, 3) := by decide +kernel
theorem dX4_punch_16 : decode cX4_punch 16 = .ok (.athrow, 1) := by decide +kernel
theorem dX4_punch_17 : decode cX4_punch 17 = .ok (.iload_n 2, 1) := by decide +kernel
theorem dX4_punch_18 : decode cX4_punch 18 = .ok (.iconst 1, 1) := by decide +kernel
theorem dX4_punch_19 : decode cX4_punch 19 = .ok (.if_icmp .lt 9, 3) := by decide +kernel
theorem dX4_punch_22 : decode cX4_punch 22 = .ok (.iload_n 2, 1) := by decide +kernel
theorem dX4_punch_23 : decode cX4_punch 23 = .ok (.bipush 31, 2) := by decide +kernel
theorem dX4_punch_25 : decode cX4_punch 25 = .ok (.if_icmp .le 13, 3) := by decide +kernel
theorem dX4_punch_28 : decode cX4_punch 28 = .ok (.new 122, 3) := by decide +kernel
theorem dX4_punch_31 : decode cX4_punch 31 = .ok (.dup, 1) := by decide +kernel
theorem dX4_punch_32 : decode cX4_punch 32 = .ok (.ldc 143, 2) := by decide +kernel
theorem dX4_punch_34 : decode cX4_punch 34 = .ok (.invokespecial 126, 3) := by decide +kernel
theorem dX4_punch_37 : decode cX4_punch 37 = .ok (.athrow, 1) := by decide +kernel
theorem dX4_punch_38 : decode cX4_punch 38 = .ok (.aload_n 0, 1) := by decide +kernel
theorem dX4_punch_39 : decode cX4_punch 39 = .ok (.getfield 25, 3) := by decide +kernel
theorem dX4_punch_42 : decode cX4_punch 42 = .ok (.aload_n 0, 1) := by decide +kernel
theorem dX4_punch_43 : decode cX4_punch 43 = .ok (.getfield 10, 3) := by decide +kernel
theorem dX4_punch_46 : decode cX4_punch 46 = .ok (.invokevirtual 67, 3) := by decide +kernel
theorem dX4_punch_49 : decode cX4_punch 49 = .ok (.aload_n 0, 1) := by decide +kernel
theorem dX4_punch_50 : decode cX4_punch 50 = .ok (.getfield 10, 3) := by decide +kernel
theorem dX4_punch_53 : decode cX4_punch 53 = .ok (.getfield 145, 3) := by decide +kernel
theorem dX4_punch_56 : decode cX4_punch 56 = .ok (.iload_n 1, 1) := by decide +kernel
theorem dX4_punch_57 : decode cX4_punch 57 = .ok (.invokestatic 130, 3) := by decide +kernel
theorem dX4_punch_60 : decode cX4_punch 60 = .ok (.istore_n 3, 1) := by decide +kernel
theorem dX4_punch_61 : decode cX4_punch 61 = .ok (.aload_n 0, 1) := by decide +kernel
theorem dX4_punch_62 : decode cX4_punch 62 = .ok (.getfield 10, 3) := by decide +kernel
theorem dX4_punch_65 : decode cX4_punch 65 = .ok (.getfield 145, 3) := by decide +kernel
theorem dX4_punch_68 : decode cX4_punch 68 = .ok (.iload_n 1, 1) := by decide +kernel
theorem dX4_punch_69 : decode cX4_punch 69 = .ok (.iload_n 2, 1) := by decide +kernel
theorem dX4_punch_70 : decode cX4_punch 70 = .ok (.invokestatic 148, 3) := by decide +kernel
theorem dX4_punch_73 : decode cX4_punch 73 = .ok (.iload_n 3, 1) := by decide +kernel
theorem dX4_punch_74 : decode cX4_punch 74 = .ok (.ireturn, 1) := by decide +kernel
theorem dX4_set_0 : decode cX4_set 0 = .ok (.iload_n 1, 1) := by decide +kernel
theorem dX4_set_1 : decode cX4_set 1 = .ok (.invokestatic 151, 3) := by decide +kernel
theorem dX4_set_4 : decode cX4_set 4 = .ok (.ifCond .ne 13, 3) := by decide +kernel
theorem dX4_set_7 : decode cX4_set 7 = .ok (.new 52, 3) := by decide +kernel
theorem dX4_set_10 : decode cX4_set 10 = .ok (.dup, 1) := by decide +kernel
theorem dX4_set_11 : decode cX4_set 11 = .ok (.ldc 154, 2) := by decide +kernel
theorem dX4_set_13 : decode cX4_set 13 = .ok (.invokespecial 56, 3) := by decide +kernel
theorem dX4_set_16 : decode cX4_set 16 = .ok (.athrow, 1) := by decide +kernel
theorem dX4_set_17 : decode cX4_set 17 = .ok (.iload_n 2, 1) := by decide +kernel
theorem dX4_set_18 : decode cX4_set 18 = .ok (.getstatic 156, 3) := by decide +kernel
theorem dX4_set_21 : decode cX4_set 21 = .ok (.iload_n 1, 1) := by decide +kernel
theorem dX4_set_22 : decode cX4_set 22 = .ok (.invokestatic 130, 3) := by decide +kernel
theorem dX4_set_25 : decode cX4_set 25 = .ok (.if_icmp .lt 14, 3) := by decide +kernel
theorem dX4_set_28 : decode cX4_set 28 = .ok (.iload_n 2, 1) := by decide +kernel
theorem dX4_set_29 : decode cX4_set 29 = .ok (.getstatic 159, 3) := by decide +kernel
theorem dX4_set_32 : decode cX4_set 32 = .ok (.iload_n 1, 1) := by decide +kernel
theorem dX4_set_33 : decode cX4_set 33 = .ok (.invokestatic 130, 3) := by decide +kernel
theorem dX4_set_36 : decode cX4_set 36 = .ok (.if_icmp .le 13, 3) := by decide +kernel
theorem dX4_set_39 : decode cX4_set 39 = .ok (.new 122, 3) := by decide +kernel
theorem dX4_set_42 : decode cX4_set 42 = .ok (.dup, 1) := by decide +kernel
theorem dX4_set_43 : decode cX4_set 43 = .ok (.ldc 162, 2) := by decide +kernel
theorem dX4_set_45 : decode cX4_set 45 = .ok (.invokespecial 126, 3) := by decide +kernel
theorem dX4_set_48 : decode cX4_set 48 = .ok (.athrow, 1) := by decide +kernel
theorem dX4_set_49 : decode cX4_set 49 = .ok (.aload_n 0, 1) := by decide +kernel
theorem dX4_set_50 : decode cX4_set 50 = .ok (.getfield 25, 3) := by decide +kernel
theorem dX4_set_53 : decode cX4_set 53 = .ok (.aload_n 0, 1) := by decide +kernel
theorem dX4_set_54 : decode cX4_set 54 = .ok (.getfield 10, 3) := by decide +kernel
theorem dX4_set_57 : decode cX4_set 57 = .ok (.invokevirtual 67, 3) := by decide +kernel
theorem dX4_set_60 : decode cX4_set 60 = .ok (.aload_n 0, 1) := by decide +kernel
theorem dX4_set_61 : decode cX4_set 61 = .ok (.getfield 10, 3) := by decide +kernel
theorem dX4_set_64 : decode cX4_set 64 = .ok (.getfield 164, 3) := by decide +kernel
theorem dX4_set_67 : decode cX4_set 67 = .ok (.iload_n 1, 1) := by decide +kernel
theorem dX4_set_68 : decode cX4_set 68 = .ok (.invokestatic 130, 3) := by decide +kernel
theorem dX4_set_71 : decode cX4_set 71 = .ok (.istore_n 3, 1) := by decide +kernel
theorem dX4_set_72 : decode cX4_set 72 = .ok (.aload_n 0, 1) := by decide +kernel
theorem dX4_set_73 : decode cX4_set 73 = .ok (.getfield 10, 3) := by decide +kernel
theorem dX4_set_76 : decode cX4_set 76 = .ok (.getfield 164, 3) := by decide +kernel
theorem dX4_set_79 : decode cX4_set 79 = .ok (.iload_n 1, 1) := by decide +kernel
theorem dX4_set_80 : decode cX4_set 80 = .ok (.iload_n 2, 1) := by decide +kernel
theorem dX4_set_81 : decode cX4_set 81 = .ok (.invokestatic 148, 3) := by decide +kernel
theorem dX4_set_84 : decode cX4_set 84 = .ok (.iload_n 3, 1) := by decide +kernel
theorem dX4_set_85 : decode cX4_set 85 = .ok (.ireturn, 1) := by decide +kernel
theorem dX4_append_0 : decode cX4_append 0 = .ok (.iload_n 1, 1) := by decide +kernel
theorem dX4_append_1 : decode cX4_append 1 = .ok (.bipush 33, 2) := by decide +kernel
theorem dX4_append_3 : decode cX4_append 3 = .ok (.if_icmp .lt 9, 3) := by decide +kernel
theorem dX4_append_6 : decode cX4_append 6 = .ok (.iload_n 1, 1) := by decide +kernel
theorem dX4_append_7 : decode cX4_append 7 = .ok (.bipush 126, 2) := by decide +kernel
theorem dX4_append_9 : decode cX4_append 9 = .ok (.if_icmp .le 13, 3) := by decide +kernel
theorem dX4_append_12 : decode cX4_append 12 = .ok (.new 122, 3) := by decide +kernel
theorem dX4_append_15 : decode cX4_append 15 = .ok (.dup, 1) := by decide +kernel
theorem dX4_append_16 : decode cX4_append 16 = .ok (.ldc 167, 2) := by decide +kernel
theorem dX4_append_18 : decode cX4_append 18 = .ok (.invokespecial 126, 3) := by decide +kernel
theorem dX4_append_21 : decode cX4_append 21 = .ok (.athrow, 1) := by decide +kernel
theorem dX4_append_22 : decode cX4_append 22 = .ok (.aload_n 0, 1) := by decide +kernel
theorem dX4_append_23 : decode cX4_append 23 = .ok (.getfield 40, 3) := by decide +kernel
theorem dX4_append_26 : decode cX4_append 26 = .ok (.bipush 60, 2) := by decide +kernel
theorem dX4_append_28 : decode cX4_append 28 = .ok (.if_icmp .lt 13, 3) := by decide +kernel
theorem dX4_append_31 : decode cX4_append 31 = .ok (.new 62, 3) := by decide +kernel
theorem dX4_append_34 : decode cX4_append 34 = .ok (.dup, 1) := by decide +kernel
theorem dX4_append_35 : decode cX4_append 35 = .ok (.ldc 169, 2) := by decide +kernel
theorem dX4_append_37 : decode cX4_append 37 = .ok (.invokespecial 66, 3) := by decide +kernel
theorem dX4_append_40 : decode cX4_append 40 = .ok (.athrow, 1) := by decide +kernel
theorem dX4_append_41 : decode cX4_append 41 = .ok (.aload_n 0, 1) := by decide +kernel
theorem dX4_append_42 : decode cX4_append 42 = .ok (.getfield 36, 3) := by decide +kernel
theorem dX4_append_45 : decode cX4_append 45 = .ok (.aload_n 0, 1) := by decide +kernel
theorem dX4_append_46 : decode cX4_append 46 = .ok (.getfield 40, 3) := by decide +kernel
theorem dX4_append_49 : decode cX4_append 49 = .ok (.iload_n 1, 1) := by decide +kernel
theorem dX4_append_50 : decode cX4_append 50 = .ok (.invokestatic 148, 3) := by decide +kernel
theorem dX4_append_53 : decode cX4_append 53 = .ok (.aload_n 0, 1) := by decide +kernel
theorem dX4_append_54 : decode cX4_append 54 = .ok (.dup, 1) := by decide +kernel
theorem dX4_append_55 : decode cX4_append 55 = .ok (.getfield 40, 3) := by decide +kernel
theorem dX4_append_58 : decode cX4_append 58 = .ok (.iconst 1, 1) := by decide +kernel
theorem dX4_append_59 : decode cX4_append 59 = .ok (.iadd, 1) := by decide +kernel
theorem dX4_append_60 : decode cX4_append 60 = .ok (.putfield 40, 3) := by decide +kernel
theorem dX4_append_63 : decode cX4_append 63 = .ok (.aload_n 0, 1) := by decide +kernel
theorem dX4_append_64 : decode cX4_append 64 = .ok (.getfield 40, 3) := by decide +kernel
theorem dX4_append_67 : decode cX4_append 67 = .ok (.ireturn, 1) := by decide +kernel
theorem dX4_clearBuffer_0 : decode cX4_clearBuffer 0 = .ok (.aload_n 0, 1) := by decide +kernel
theorem dX4_clearBuffer_1 : decode cX4_clearBuffer 1 = .ok (.getfield 40, 3) := by decide +kernel
theorem dX4_clearBuffer_4 : decode cX4_clearBuffer 4 = .ok (.istore_n 1, 1) := by decide +kernel
theorem dX4_clearBuffer_5 : decode cX4_clearBuffer 5 = .ok (.aload_n 0, 1) := by decide +kernel
theorem dX4_clearBuffer_6 : decode cX4_clearBuffer 6 = .ok (.iconst 0, 1) := by decide +kernel
theorem dX4_clearBuffer_7 : decode cX4_clearBuffer 7 = .ok (.putfield 40, 3) := by decide +kernel
theorem dX4_clearBuffer_10 : decode cX4_clearBuffer 10 = .ok (.iload_n 1, 1) := by decide +kernel
theorem dX4_clearBuffer_11 : decode cX4_clearBuffer 11 = .ok (.ireturn, 1) := by decide +kernel
theorem dX4_firstError_0 : decode cX4_firstError 0 = .ok (.aload_n 0, 1) := by decide +kernel
theorem dX4_firstError_1 : decode cX4_firstError 1 = .ok (.invokevirtual 171, 3) := by decide +kernel
theorem dX4_firstError_4 : decode cX4_firstError 4 = .ok (.ireturn, 1) := by decide +kernel
theorem dX4_work_0 : decode cX4_work 0 = .ok (.aload_n 0, 1) := by decide +kernel
theorem dX4_work_1 : decode cX4_work 1 = .ok (.invokevirtual 171, 3) := by decide +kernel
theorem dX4_work_4 : decode cX4_work 4 = .ok (.aload_n 0, 1) := by decide +kernel
theorem dX4_work_5 : decode cX4_work 5 = .ok (.getfield 40, 3) := by decide +kernel
theorem dX4_work_8 : decode cX4_work 8 = .ok (.if_icmp .lt 13, 3) := by decide +kernel
theorem dX4_work_11 : decode cX4_work 11 = .ok (.aload_n 0, 1) := by decide +kernel
theorem dX4_work_12 : decode cX4_work 12 = .ok (.getfield 32, 3) := by decide +kernel
theorem dX4_work_15 : decode cX4_work 15 = .ok (.invokevirtual 174, 3) := by decide +kernel
theorem dX4_work_18 : decode cX4_work 18 = .ok (.ifCond .ne 13, 3) := by decide +kernel
theorem dX4_work_21 : decode cX4_work 21 = .ok (.new 122, 3) := by decide +kernel
theorem dX4_work_24 : decode cX4_work 24 = .ok (.dup, 1) := by decide +kernel
theorem dX4_work_25 : decode cX4_work 25 = .ok (.ldc 178, 2) := by decide +kernel
theorem dX4_work_27 : decode cX4_work 27 = .ok (.invokespecial 126, 3) := by decide +kernel
theorem dX4_work_30 : decode cX4_work 30 = .ok (.athrow, 1) := by decide +kernel
theorem dX4_work_31 : decode cX4_work 31 = .ok (.aload_n 0, 1) := by decide +kernel
theorem dX4_work_32 : decode cX4_work 32 = .ok (.getfield 25, 3) := by decide +kernel
theorem dX4_work_35 : decode cX4_work 35 = .ok (.aload_n 0, 1) := by decide +kernel
theorem dX4_work_36 : decode cX4_work 36 = .ok (.getfield 10, 3) := by decide +kernel
theorem dX4_work_39 : decode cX4_work 39 = .ok (.invokevirtual 67, 3) := by decide +kernel
theorem dX4_work_42 : decode cX4_work 42 = .ok (.aload_n 0, 1) := by decide +kernel
theorem dX4_work_43 : decode cX4_work 43 = .ok (.invokevirtual 180, 3) := by decide +kernel
theorem dX4_work_46 : decode cX4_work 46 = .ok (.istore_n 1, 1) := by decide +kernel
theorem dX4_work_47 : decode cX4_work 47 = .ok (.aload_n 0, 1) := by decide +kernel
theorem dX4_work_48 : decode cX4_work 48 = .ok (.iconst 0, 1) := by decide +kernel
theorem dX4_work_49 : decode cX4_work 49 = .ok (.putfield 40, 3) := by decide +kernel
theorem dX4_work_52 : decode cX4_work 52 = .ok (.iload_n 1, 1) := by decide +kernel
theorem dX4_work_53 : decode cX4_work 53 = .ok (.ireturn, 1) := by decide +kernel
theorem dX4_keep_0 : decode cX4_keep 0 = .ok (.aload_n 0, 1) := by decide +kernel
theorem dX4_keep_1 : decode cX4_keep 1 = .ok (.getfield 16, 3) := by decide +kernel
theorem dX4_keep_4 : decode cX4_keep 4 = .ok (.aload_n 0, 1) := by decide +kernel
theorem dX4_keep_5 : decode cX4_keep 5 = .ok (.getfield 10, 3) := by decide +kernel
theorem dX4_keep_8 : decode cX4_keep 8 = .ok (.invokevirtual 183, 3) := by decide +kernel
theorem dX4_keep_11 : decode cX4_keep 11 = .ok (.aload_n 0, 1) := by decide +kernel
theorem dX4_keep_12 : decode cX4_keep 12 = .ok (.iconst 1, 1) := by decide +kernel
theorem dX4_keep_13 : decode cX4_keep 13 = .ok (.putfield 44, 3) := by decide +kernel
theorem dX4_keep_16 : decode cX4_keep 16 = .ok (.aload_n 0, 1) := by decide +kernel
theorem dX4_keep_17 : decode cX4_keep 17 = .ok (.getfield 10, 3) := by decide +kernel
theorem dX4_keep_20 : decode cX4_keep 20 = .ok (.getfield 71, 3) := by decide +kernel
theorem dX4_keep_23 : decode cX4_keep 23 = .ok (.getfield 75, 3) := by decide +kernel
theorem dX4_keep_26 : decode cX4_keep 26 = .ok (.ireturn, 1) := by decide +kernel
theorem dX4_goBack_0 : decode cX4_goBack 0 = .ok (.aload_n 0, 1) := by decide +kernel
theorem dX4_goBack_1 : decode cX4_goBack 1 = .ok (.getfield 44, 3) := by decide +kernel
theorem dX4_goBack_4 : decode cX4_goBack 4 = .ok (.ifCond .ne 13, 3) := by decide +kernel
theorem dX4_goBack_7 : decode cX4_goBack 7 = .ok (.new 62, 3) := by decide +kernel
theorem dX4_goBack_10 : decode cX4_goBack 10 = .ok (.dup, 1) := by decide +kernel
theorem dX4_goBack_11 : decode cX4_goBack 11 = .ok (.ldc 186, 2) := by decide +kernel
theorem dX4_goBack_13 : decode cX4_goBack 13 = .ok (.invokespecial 66, 3) := by decide +kernel
theorem dX4_goBack_16 : decode cX4_goBack 16 = .ok (.athrow, 1) := by decide +kernel
theorem dX4_goBack_17 : decode cX4_goBack 17 = .ok (.aload_n 0, 1) := by decide +kernel
theorem dX4_goBack_18 : decode cX4_goBack 18 = .ok (.getfield 25, 3) := by decide +kernel
theorem dX4_goBack_21 : decode cX4_goBack 21 = .ok (.aload_n 0, 1) := by decide +kernel
theorem dX4_goBack_22 : decode cX4_goBack 22 = .ok (.getfield 10, 3) := by decide +kernel
theorem dX4_goBack_25 : decode cX4_goBack 25 = .ok (.invokevirtual 67, 3) := by decide +kernel
theorem dX4_goBack_28 : decode cX4_goBack 28 = .ok (.aload_n 0, 1) := by decide +kernel
theorem dX4_goBack_29 : decode cX4_goBack 29 = .ok (.getfield 10, 3) := by decide +kernel
theorem dX4_goBack_32 : decode cX4_goBack 32 = .ok (.aload_n 0, 1) := by decide +kernel
theorem dX4_goBack_33 : decode cX4_goBack 33 = .ok (.getfield 16, 3) := by decide +kernel
theorem dX4_goBack_36 : decode cX4_goBack 36 = .ok (.invokevirtual 183, 3) := by decide +kernel
theorem dX4_goBack_39 : decode cX4_goBack 39 = .ok (.aload_n 0, 1) := by decide +kernel
theorem dX4_goBack_40 : decode cX4_goBack 40 = .ok (.getfield 10, 3) := by decide +kernel
theorem dX4_goBack_43 : decode cX4_goBack 43 = .ok (.getfield 71, 3) := by decide +kernel
theorem dX4_goBack_46 : decode cX4_goBack 46 = .ok (.getfield 75, 3) := by decide +kernel
theorem dX4_goBack_49 : decode cX4_goBack 49 = .ok (.ireturn, 1) := by decide +kernel
theorem dX4_undo_0 : decode cX4_undo 0 = .ok (.aload_n 0, 1) := by decide +kernel
theorem dX4_undo_1 : decode cX4_undo 1 = .ok (.getfield 25, 3) := by decide +kernel
theorem dX4_undo_4 : decode cX4_undo 4 = .ok (.getfield 188, 3) := by decide +kernel
theorem dX4_undo_7 : decode cX4_undo 7 = .ok (.ifCond .ne 13, 3) := by decide +kernel
theorem dX4_undo_10 : decode cX4_undo 10 = .ok (.new 62, 3) := by decide +kernel
theorem dX4_undo_13 : decode cX4_undo 13 = .ok (.dup, 1) := by decide +kernel
theorem dX4_undo_14 : decode cX4_undo 14 = .ok (.ldc 189, 2) := by decide +kernel
theorem dX4_undo_16 : decode cX4_undo 16 = .ok (.invokespecial 66, 3) := by decide +kernel
theorem dX4_undo_19 : decode cX4_undo 19 = .ok (.athrow, 1) := by decide +kernel
theorem dX4_undo_20 : decode cX4_undo 20 = .ok (.aload_n 0, 1) := by decide +kernel
theorem dX4_undo_21 : decode cX4_undo 21 = .ok (.getfield 25, 3) := by decide +kernel
theorem dX4_undo_24 : decode cX4_undo 24 = .ok (.aload_n 0, 1) := by decide +kernel
theorem dX4_undo_25 : decode cX4_undo 25 = .ok (.getfield 10, 3) := by decide +kernel
theorem dX4_undo_28 : decode cX4_undo 28 = .ok (.invokevirtual 191, 3) := by decide +kernel
theorem dX4_undo_31 : decode cX4_undo 31 = .ok (.aload_n 0, 1) := by decide +kernel
theorem dX4_undo_32 : decode cX4_undo 32 = .ok (.getfield 25, 3) := by decide +kernel
theorem dX4_undo_35 : decode cX4_undo 35 = .ok (.getfield 188, 3) := by decide +kernel
theorem dX4_undo_38 : decode cX4_undo 38 = .ok (.ireturn, 1) := by decide +kernel
theorem dX4_sheet_0 : decode cX4_sheet 0 = .ok (.iload_n 1, 1) := by decide +kernel
theorem dX4_sheet_1 : decode cX4_sheet 1 = .ok (.ifCond .ge 13, 3) := by decide +kernel
theorem dX4_sheet_4 : decode cX4_sheet 4 = .ok (.new 52, 3) := by decide +kernel
theorem dX4_sheet_7 : decode cX4_sheet 7 = .ok (.dup, 1) := by decide +kernel
theorem dX4_sheet_8 : decode cX4_sheet 8 = .ok (.ldc 194, 2) := by decide +kernel
theorem dX4_sheet_10 : decode cX4_sheet 10 = .ok (.invokespecial 56, 3) := by decide +kernel
theorem dX4_sheet_13 : decode cX4_sheet 13 = .ok (.athrow, 1) := by decide +kernel
theorem dX4_sheet_14 : decode cX4_sheet 14 = .ok (.iload_n 2, 1) := by decide +kernel
theorem dX4_sheet_15 : decode cX4_sheet 15 = .ok (.ifCond .lt 9, 3) := by decide +kernel
theorem dX4_sheet_18 : decode cX4_sheet 18 = .ok (.iload_n 2, 1) := by decide +kernel
theorem dX4_sheet_19 : decode cX4_sheet 19 = .ok (.bipush 6, 2) := by decide +kernel
theorem dX4_sheet_21 : decode cX4_sheet 21 = .ok (.if_icmp .lt 13, 3) := by decide +kernel
theorem dX4_sheet_24 : decode cX4_sheet 24 = .ok (.new 122, 3) := by decide +kernel
theorem dX4_sheet_27 : decode cX4_sheet 27 = .ok (.dup, 1) := by decide +kernel
theorem dX4_sheet_28 : decode cX4_sheet 28 = .ok (.ldc 196, 2) := by decide +kernel
theorem dX4_sheet_30 : decode cX4_sheet 30 = .ok (.invokespecial 126, 3) := by decide +kernel
theorem dX4_sheet_33 : decode cX4_sheet 33 = .ok (.athrow, 1) := by decide +kernel
theorem dX4_sheet_34 : decode cX4_sheet 34 = .ok (.aload_n 0, 1) := by decide +kernel
theorem dX4_sheet_35 : decode cX4_sheet 35 = .ok (.getfield 10, 3) := by decide +kernel
theorem dX4_sheet_38 : decode cX4_sheet 38 = .ok (.getfield 71, 3) := by decide +kernel
theorem dX4_sheet_41 : decode cX4_sheet 41 = .ok (.iload_n 1, 1) := by decide +kernel
theorem dX4_sheet_42 : decode cX4_sheet 42 = .ok (.invokevirtual 86, 3) := by decide +kernel
theorem dX4_sheet_45 : decode cX4_sheet 45 = .ok (.ifCond .ne 5, 3) := by decide +kernel
theorem dX4_sheet_48 : decode cX4_sheet 48 = .ok (.iconst (-1), 1) := by decide +kernel
theorem dX4_sheet_49 : decode cX4_sheet 49 = .ok (.ireturn, 1) := by decide +kernel
theorem dX4_sheet_50 : decode cX4_sheet 50 = .ok (.iload_n 2, 1) := by decide +kernel
theorem dX4_sheet_51 : decode cX4_sheet 51 = .ok (.tableswitch 98 0 4 #[33, 48, 63, 72, 89], 33) := by decide +kernel
theorem dX4_sheet_84 : decode cX4_sheet 84 = .ok (.aload_n 0, 1) := by decide +kernel
theorem dX4_sheet_85 : decode cX4_sheet 85 = .ok (.getfield 10, 3) := by decide +kernel
theorem dX4_sheet_88 : decode cX4_sheet 88 = .ok (.getfield 71, 3) := by decide +kernel
theorem dX4_sheet_91 : decode cX4_sheet 91 = .ok (.getfield 198, 3) := by decide +kernel
theorem dX4_sheet_94 : decode cX4_sheet 94 = .ok (.iload_n 1, 1) := by decide +kernel
theorem dX4_sheet_95 : decode cX4_sheet 95 = .ok (.invokestatic 130, 3) := by decide +kernel
theorem dX4_sheet_98 : decode cX4_sheet 98 = .ok (.ireturn, 1) := by decide +kernel
theorem dX4_sheet_99 : decode cX4_sheet 99 = .ok (.aload_n 0, 1) := by decide +kernel
theorem dX4_sheet_100 : decode cX4_sheet 100 = .ok (.getfield 10, 3) := by decide +kernel
theorem dX4_sheet_103 : decode cX4_sheet 103 = .ok (.getfield 71, 3) := by decide +kernel
theorem dX4_sheet_106 : decode cX4_sheet 106 = .ok (.getfield 201, 3) := by decide +kernel
theorem dX4_sheet_109 : decode cX4_sheet 109 = .ok (.iload_n 1, 1) := by decide +kernel
theorem dX4_sheet_110 : decode cX4_sheet 110 = .ok (.invokestatic 130, 3) := by decide +kernel
theorem dX4_sheet_113 : decode cX4_sheet 113 = .ok (.ireturn, 1) := by decide +kernel
theorem dX4_sheet_114 : decode cX4_sheet 114 = .ok (.aload_n 0, 1) := by decide +kernel
theorem dX4_sheet_115 : decode cX4_sheet 115 = .ok (.getfield 10, 3) := by decide +kernel
theorem dX4_sheet_118 : decode cX4_sheet 118 = .ok (.iload_n 1, 1) := by decide +kernel
theorem dX4_sheet_119 : decode cX4_sheet 119 = .ok (.invokevirtual 99, 3) := by decide +kernel
theorem dX4_sheet_122 : decode cX4_sheet 122 = .ok (.ireturn, 1) := by decide +kernel
theorem dX4_sheet_123 : decode cX4_sheet 123 = .ok (.aload_n 0, 1) := by decide +kernel
theorem dX4_sheet_124 : decode cX4_sheet 124 = .ok (.getfield 10, 3) := by decide +kernel
theorem dX4_sheet_127 : decode cX4_sheet 127 = .ok (.iload_n 1, 1) := by decide +kernel
theorem dX4_sheet_128 : decode cX4_sheet 128 = .ok (.invokevirtual 204, 3) := by decide +kernel
theorem dX4_sheet_131 : decode cX4_sheet 131 = .ok (.ifCond .eq 7, 3) := by decide +kernel
theorem dX4_sheet_134 : decode cX4_sheet 134 = .ok (.iconst 1, 1) := by decide +kernel
theorem dX4_sheet_135 : decode cX4_sheet 135 = .ok (.goto 4, 3) := by decide +kernel
theorem dX4_sheet_138 : decode cX4_sheet 138 = .ok (.iconst 0, 1) := by decide +kernel
theorem dX4_sheet_139 : decode cX4_sheet 139 = .ok (.ireturn, 1) := by decide +kernel
theorem dX4_sheet_140 : decode cX4_sheet 140 = .ok (.aload_n 0, 1) := by decide +kernel
theorem dX4_sheet_141 : decode cX4_sheet 141 = .ok (.getfield 10, 3) := by decide +kernel
theorem dX4_sheet_144 : decode cX4_sheet 144 = .ok (.iload_n 1, 1) := by decide +kernel
theorem dX4_sheet_145 : decode cX4_sheet 145 = .ok (.invokevirtual 207, 3) := by decide +kernel
theorem dX4_sheet_148 : decode cX4_sheet 148 = .ok (.ireturn, 1) := by decide +kernel
theorem dX4_sheet_149 : decode cX4_sheet 149 = .ok (.aload_n 0, 1) := by decide +kernel
theorem dX4_sheet_150 : decode cX4_sheet 150 = .ok (.getfield 10, 3) := by decide +kernel
theorem dX4_sheet_153 : decode cX4_sheet 153 = .ok (.getfield 71, 3) := by decide +kernel
theorem dX4_sheet_156 : decode cX4_sheet 156 = .ok (.iload_n 1, 1) := by decide +kernel
theorem dX4_sheet_157 : decode cX4_sheet 157 = .ok (.invokevirtual 210, 3) := by decide +kernel
theorem dX4_sheet_160 : decode cX4_sheet 160 = .ok (.ireturn, 1) := by decide +kernel
theorem dX4_bin_0 : decode cX4_bin 0 = .ok (.iload_n 1, 1) := by decide +kernel
theorem dX4_bin_1 : decode cX4_bin 1 = .ok (.invokestatic 48, 3) := by decide +kernel
theorem dX4_bin_4 : decode cX4_bin 4 = .ok (.ifCond .ne 13, 3) := by decide +kernel
theorem dX4_bin_7 : decode cX4_bin 7 = .ok (.new 52, 3) := by decide +kernel
theorem dX4_bin_10 : decode cX4_bin 10 = .ok (.dup, 1) := by decide +kernel
theorem dX4_bin_11 : decode cX4_bin 11 = .ok (.ldc 54, 2) := by decide +kernel
theorem dX4_bin_13 : decode cX4_bin 13 = .ok (.invokespecial 56, 3) := by decide +kernel
theorem dX4_bin_16 : decode cX4_bin 16 = .ok (.athrow, 1) := by decide +kernel
theorem dX4_bin_17 : decode cX4_bin 17 = .ok (.iload_n 2, 1) := by decide +kernel
theorem dX4_bin_18 : decode cX4_bin 18 = .ok (.ifCond .lt 8, 3) := by decide +kernel
theorem dX4_bin_21 : decode cX4_bin 21 = .ok (.iload_n 2, 1) := by decide +kernel
theorem dX4_bin_22 : decode cX4_bin 22 = .ok (.iconst 5, 1) := by decide +kernel
theorem dX4_bin_23 : decode cX4_bin 23 = .ok (.if_icmp .lt 13, 3) := by decide +kernel
theorem dX4_bin_26 : decode cX4_bin 26 = .ok (.new 122, 3) := by decide +kernel
theorem dX4_bin_29 : decode cX4_bin 29 = .ok (.dup, 1) := by decide +kernel
theorem dX4_bin_30 : decode cX4_bin 30 = .ok (.ldc 196, 2) := by decide +kernel
theorem dX4_bin_32 : decode cX4_bin 32 = .ok (.invokespecial 126, 3) := by decide +kernel
theorem dX4_bin_35 : decode cX4_bin 35 = .ok (.athrow, 1) := by decide +kernel
theorem dX4_bin_36 : decode cX4_bin 36 = .ok (.iload_n 2, 1) := by decide +kernel
theorem dX4_bin_37 : decode cX4_bin 37 = .ok (.tableswitch 79 0 3 #[31, 43, 55, 67], 31) := by decide +kernel
theorem dX4_bin_68 : decode cX4_bin 68 = .ok (.aload_n 0, 1) := by decide +kernel
theorem dX4_bin_69 : decode cX4_bin 69 = .ok (.getfield 10, 3) := by decide +kernel
theorem dX4_bin_72 : decode cX4_bin 72 = .ok (.getfield 127, 3) := by decide +kernel
theorem dX4_bin_75 : decode cX4_bin 75 = .ok (.iload_n 1, 1) := by decide +kernel
theorem dX4_bin_76 : decode cX4_bin 76 = .ok (.invokestatic 130, 3) := by decide +kernel
theorem dX4_bin_79 : decode cX4_bin 79 = .ok (.ireturn, 1) := by decide +kernel
theorem dX4_bin_80 : decode cX4_bin 80 = .ok (.aload_n 0, 1) := by decide +kernel
theorem dX4_bin_81 : decode cX4_bin 81 = .ok (.getfield 10, 3) := by decide +kernel
theorem dX4_bin_84 : decode cX4_bin 84 = .ok (.getfield 71, 3) := by decide +kernel
theorem dX4_bin_87 : decode cX4_bin 87 = .ok (.iload_n 1, 1) := by decide +kernel
theorem dX4_bin_88 : decode cX4_bin 88 = .ok (.invokevirtual 213, 3) := by decide +kernel
theorem dX4_bin_91 : decode cX4_bin 91 = .ok (.ireturn, 1) := by decide +kernel
theorem dX4_bin_92 : decode cX4_bin 92 = .ok (.aload_n 0, 1) := by decide +kernel
theorem dX4_bin_93 : decode cX4_bin 93 = .ok (.getfield 10, 3) := by decide +kernel
theorem dX4_bin_96 : decode cX4_bin 96 = .ok (.getfield 216, 3) := by decide +kernel
theorem dX4_bin_99 : decode cX4_bin 99 = .ok (.iload_n 1, 1) := by decide +kernel
theorem dX4_bin_100 : decode cX4_bin 100 = .ok (.invokestatic 130, 3) := by decide +kernel
theorem dX4_bin_103 : decode cX4_bin 103 = .ok (.ireturn, 1) := by decide +kernel
theorem dX4_bin_104 : decode cX4_bin 104 = .ok (.aload_n 0, 1) := by decide +kernel
theorem dX4_bin_105 : decode cX4_bin 105 = .ok (.getfield 10, 3) := by decide +kernel
theorem dX4_bin_108 : decode cX4_bin 108 = .ok (.getfield 140, 3) := by decide +kernel
theorem dX4_bin_111 : decode cX4_bin 111 = .ok (.iload_n 1, 1) := by decide +kernel
theorem dX4_bin_112 : decode cX4_bin 112 = .ok (.invokestatic 130, 3) := by decide +kernel
theorem dX4_bin_115 : decode cX4_bin 115 = .ok (.ireturn, 1) := by decide +kernel
theorem dX4_bin_116 : decode cX4_bin 116 = .ok (.aload_n 0, 1) := by decide +kernel
theorem dX4_bin_117 : decode cX4_bin 117 = .ok (.getfield 10, 3) := by decide +kernel
theorem dX4_bin_120 : decode cX4_bin 120 = .ok (.getfield 145, 3) := by decide +kernel
theorem dX4_bin_123 : decode cX4_bin 123 = .ok (.iload_n 1, 1) := by decide +kernel
theorem dX4_bin_124 : decode cX4_bin 124 = .ok (.invokestatic 130, 3) := by decide +kernel
theorem dX4_bin_127 : decode cX4_bin 127 = .ok (.ireturn, 1) := by decide +kernel
theorem dX4_count_0 : decode cX4_count 0 = .ok (.iload_n 1, 1) := by decide +kernel
theorem dX4_count_1 : decode cX4_count 1 = .ok (.ifCond .lt 9, 3) := by decide +kernel
theorem dX4_count_4 : decode cX4_count 4 = .ok (.iload_n 1, 1) := by decide +kernel
theorem dX4_count_5 : decode cX4_count 5 = .ok (.bipush 16, 2) := by decide +kernel
theorem dX4_count_7 : decode cX4_count 7 = .ok (.if_icmp .lt 13, 3) := by decide +kernel
theorem dX4_count_10 : decode cX4_count 10 = .ok (.new 122, 3) := by decide +kernel
theorem dX4_count_13 : decode cX4_count 13 = .ok (.dup, 1) := by decide +kernel
theorem dX4_count_14 : decode cX4_count 14 = .ok (.ldc 196, 2) := by decide +kernel
theorem dX4_count_16 : decode cX4_count 16 = .ok (.invokespecial 126, 3) := by decide +kernel
theorem dX4_count_19 : decode cX4_count 19 = .ok (.athrow, 1) := by decide +kernel
theorem dX4_count_20 : decode cX4_count 20 = .ok (.iload_n 1, 1) := by decide +kernel
theorem dX4_count_21 : decode cX4_count 21 = .ok (.tableswitch 225 0 14 #[75, 86, 94, 102, 110, 118, 144, 155, 166, 177, 185, 193, 201, 209, 217], 75) := by decide +kernel
theorem dX4_count_96 : decode cX4_count 96 = .ok (.aload_n 0, 1) := by decide +kernel
theorem dX4_count_97 : decode cX4_count 97 = .ok (.getfield 10, 3) := by decide +kernel
theorem dX4_count_100 : decode cX4_count 100 = .ok (.getfield 71, 3) := by decide +kernel
theorem dX4_count_103 : decode cX4_count 103 = .ok (.getfield 75, 3) := by decide +kernel
theorem dX4_count_106 : decode cX4_count 106 = .ok (.ireturn, 1) := by decide +kernel
theorem dX4_count_107 : decode cX4_count 107 = .ok (.aload_n 0, 1) := by decide +kernel
theorem dX4_count_108 : decode cX4_count 108 = .ok (.getfield 10, 3) := by decide +kernel
theorem dX4_count_111 : decode cX4_count 111 = .ok (.invokevirtual 107, 3) := by decide +kernel
theorem dX4_count_114 : decode cX4_count 114 = .ok (.ireturn, 1) := by decide +kernel
theorem dX4_count_115 : decode cX4_count 115 = .ok (.aload_n 0, 1) := by decide +kernel
theorem dX4_count_116 : decode cX4_count 116 = .ok (.getfield 10, 3) := by decide +kernel
theorem dX4_count_119 : decode cX4_count 119 = .ok (.invokevirtual 111, 3) := by decide +kernel
theorem dX4_count_122 : decode cX4_count 122 = .ok (.ireturn, 1) := by decide +kernel
theorem dX4_count_123 : decode cX4_count 123 = .ok (.aload_n 0, 1) := by decide +kernel
theorem dX4_count_124 : decode cX4_count 124 = .ok (.getfield 10, 3) := by decide +kernel
theorem dX4_count_127 : decode cX4_count 127 = .ok (.invokevirtual 219, 3) := by decide +kernel
theorem dX4_count_130 : decode cX4_count 130 = .ok (.ireturn, 1) := by decide +kernel
theorem dX4_count_131 : decode cX4_count 131 = .ok (.aload_n 0, 1) := by decide +kernel
theorem dX4_count_132 : decode cX4_count 132 = .ok (.getfield 10, 3) := by decide +kernel
theorem dX4_count_135 : decode cX4_count 135 = .ok (.invokevirtual 222, 3) := by decide +kernel
theorem dX4_count_138 : decode cX4_count 138 = .ok (.ireturn, 1) := by decide +kernel
theorem dX4_count_139 : decode cX4_count 139 = .ok (.aload_n 0, 1) := by decide +kernel
theorem dX4_count_140 : decode cX4_count 140 = .ok (.getfield 10, 3) := by decide +kernel
theorem dX4_count_143 : decode cX4_count 143 = .ok (.invokevirtual 111, 3) := by decide +kernel
theorem dX4_count_146 : decode cX4_count 146 = .ok (.ifCond .eq 17, 3) := by decide +kernel
theorem dX4_count_149 : decode cX4_count 149 = .ok (.aload_n 0, 1) := by decide +kernel
theorem dX4_count_150 : decode cX4_count 150 = .ok (.getfield 10, 3) := by decide +kernel
theorem dX4_count_153 : decode cX4_count 153 = .ok (.invokevirtual 107, 3) := by decide +kernel
theorem dX4_count_156 : decode cX4_count 156 = .ok (.ifCond .ne 7, 3) := by decide +kernel
theorem dX4_count_159 : decode cX4_count 159 = .ok (.iconst 1, 1) := by decide +kernel
theorem dX4_count_160 : decode cX4_count 160 = .ok (.goto 4, 3) := by decide +kernel
theorem dX4_count_163 : decode cX4_count 163 = .ok (.iconst 0, 1) := by decide +kernel
theorem dX4_count_164 : decode cX4_count 164 = .ok (.ireturn, 1) := by decide +kernel
theorem dX4_count_165 : decode cX4_count 165 = .ok (.aload_n 0, 1) := by decide +kernel
theorem dX4_count_166 : decode cX4_count 166 = .ok (.getfield 10, 3) := by decide +kernel
theorem dX4_count_169 : decode cX4_count 169 = .ok (.getfield 71, 3) := by decide +kernel
theorem dX4_count_172 : decode cX4_count 172 = .ok (.invokevirtual 225, 3) := by decide +kernel
theorem dX4_count_175 : decode cX4_count 175 = .ok (.ireturn, 1) := by decide +kernel
theorem dX4_count_176 : decode cX4_count 176 = .ok (.aload_n 0, 1) := by decide +kernel
theorem dX4_count_177 : decode cX4_count 177 = .ok (.getfield 10, 3) := by decide +kernel
theorem dX4_count_180 : decode cX4_count 180 = .ok (.getfield 71, 3) := by decide +kernel
theorem dX4_count_183 : decode cX4_count 183 = .ok (.invokevirtual 228, 3) := by decide +kernel
theorem dX4_count_186 : decode cX4_count 186 = .ok (.ireturn, 1) := by decide +kernel
theorem dX4_count_187 : decode cX4_count 187 = .ok (.aload_n 0, 1) := by decide +kernel
theorem dX4_count_188 : decode cX4_count 188 = .ok (.getfield 10, 3) := by decide +kernel
theorem dX4_count_191 : decode cX4_count 191 = .ok (.getfield 71, 3) := by decide +kernel
theorem dX4_count_194 : decode cX4_count 194 = .ok (.invokevirtual 231, 3) := by decide +kernel
theorem dX4_count_197 : decode cX4_count 197 = .ok (.ireturn, 1) := by decide +kernel
theorem dX4_count_198 : decode cX4_count 198 = .ok (.aload_n 0, 1) := by decide +kernel
theorem dX4_count_199 : decode cX4_count 199 = .ok (.getfield 10, 3) := by decide +kernel
theorem dX4_count_202 : decode cX4_count 202 = .ok (.invokevirtual 234, 3) := by decide +kernel
theorem dX4_count_205 : decode cX4_count 205 = .ok (.ireturn, 1) := by decide +kernel
theorem dX4_count_206 : decode cX4_count 206 = .ok (.aload_n 0, 1) := by decide +kernel
theorem dX4_count_207 : decode cX4_count 207 = .ok (.getfield 10, 3) := by decide +kernel
theorem dX4_count_210 : decode cX4_count 210 = .ok (.invokevirtual 237, 3) := by decide +kernel
theorem dX4_count_213 : decode cX4_count 213 = .ok (.ireturn, 1) := by decide +kernel
theorem dX4_count_214 : decode cX4_count 214 = .ok (.aload_n 0, 1) := by decide +kernel
theorem dX4_count_215 : decode cX4_count 215 = .ok (.getfield 10, 3) := by decide +kernel
theorem dX4_count_218 : decode cX4_count 218 = .ok (.invokevirtual 240, 3) := by decide +kernel
theorem dX4_count_221 : decode cX4_count 221 = .ok (.ireturn, 1) := by decide +kernel
theorem dX4_count_222 : decode cX4_count 222 = .ok (.aload_n 0, 1) := by decide +kernel
theorem dX4_count_223 : decode cX4_count 223 = .ok (.getfield 10, 3) := by decide +kernel
theorem dX4_count_226 : decode cX4_count 226 = .ok (.getfield 119, 3) := by decide +kernel
theorem dX4_count_229 : decode cX4_count 229 = .ok (.ireturn, 1) := by decide +kernel
theorem dX4_count_230 : decode cX4_count 230 = .ok (.aload_n 0, 1) := by decide +kernel
theorem dX4_count_231 : decode cX4_count 231 = .ok (.getfield 10, 3) := by decide +kernel
theorem dX4_count_234 : decode cX4_count 234 = .ok (.invokevirtual 243, 3) := by decide +kernel
theorem dX4_count_237 : decode cX4_count 237 = .ok (.ireturn, 1) := by decide +kernel
theorem dX4_count_238 : decode cX4_count 238 = .ok (.aload_n 0, 1) := by decide +kernel
theorem dX4_count_239 : decode cX4_count 239 = .ok (.getfield 10, 3) := by decide +kernel
theorem dX4_count_242 : decode cX4_count 242 = .ok (.getfield 246, 3) := by decide +kernel
theorem dX4_count_245 : decode cX4_count 245 = .ok (.ireturn, 1) := by decide +kernel
theorem dX4_count_246 : decode cX4_count 246 = .ok (.aload_n 0, 1) := by decide +kernel
theorem dX4_count_247 : decode cX4_count 247 = .ok (.getfield 25, 3) := by decide +kernel
theorem dX4_count_250 : decode cX4_count 250 = .ok (.getfield 188, 3) := by decide +kernel
theorem dX4_count_253 : decode cX4_count 253 = .ok (.ireturn, 1) := by decide +kernel
theorem dX4_setting_0 : decode cX4_setting 0 = .ok (.iload_n 1, 1) := by decide +kernel
theorem dX4_setting_1 : decode cX4_setting 1 = .ok (.invokestatic 151, 3) := by decide +kernel
theorem dX4_setting_4 : decode cX4_setting 4 = .ok (.ifCond .ne 13, 3) := by decide +kernel
theorem dX4_setting_7 : decode cX4_setting 7 = .ok (.new 52, 3) := by decide +kernel
theorem dX4_setting_10 : decode cX4_setting 10 = .ok (.dup, 1) := by decide +kernel
theorem dX4_setting_11 : decode cX4_setting 11 = .ok (.ldc 154, 2) := by decide +kernel
theorem dX4_setting_13 : decode cX4_setting 13 = .ok (.invokespecial 56, 3) := by decide +kernel
theorem dX4_setting_16 : decode cX4_setting 16 = .ok (.athrow, 1) := by decide +kernel
theorem dX4_setting_17 : decode cX4_setting 17 = .ok (.aload_n 0, 1) := by decide +kernel
theorem dX4_setting_18 : decode cX4_setting 18 = .ok (.getfield 10, 3) := by decide +kernel
theorem dX4_setting_21 : decode cX4_setting 21 = .ok (.getfield 164, 3) := by decide +kernel
theorem dX4_setting_24 : decode cX4_setting 24 = .ok (.iload_n 1, 1) := by decide +kernel
theorem dX4_setting_25 : decode cX4_setting 25 = .ok (.invokestatic 130, 3) := by decide +kernel
theorem dX4_setting_28 : decode cX4_setting 28 = .ok (.ireturn, 1) := by decide +kernel
theorem dX4_nextMove_0 : decode cX4_nextMove 0 = .ok (.aload_n 0, 1) := by decide +kernel
theorem dX4_nextMove_1 : decode cX4_nextMove 1 = .ok (.getfield 10, 3) := by decide +kernel
theorem dX4_nextMove_4 : decode cX4_nextMove 4 = .ok (.getfield 71, 3) := by decide +kernel
theorem dX4_nextMove_7 : decode cX4_nextMove 7 = .ok (.getfield 75, 3) := by decide +kernel
theorem dX4_nextMove_10 : decode cX4_nextMove 10 = .ok (.istore_n 1, 1) := by decide +kernel
theorem dX4_nextMove_11 : decode cX4_nextMove 11 = .ok (.aload_n 0, 1) := by decide +kernel
theorem dX4_nextMove_12 : decode cX4_nextMove 12 = .ok (.getfield 10, 3) := by decide +kernel
theorem dX4_nextMove_15 : decode cX4_nextMove 15 = .ok (.getfield 71, 3) := by decide +kernel
theorem dX4_nextMove_18 : decode cX4_nextMove 18 = .ok (.invokevirtual 249, 3) := by decide +kernel
theorem dX4_nextMove_21 : decode cX4_nextMove 21 = .ok (.istore_n 2, 1) := by decide +kernel
theorem dX4_nextMove_22 : decode cX4_nextMove 22 = .ok (.iload_n 2, 1) := by decide +kernel
theorem dX4_nextMove_23 : decode cX4_nextMove 23 = .ok (.iload_n 1, 1) := by decide +kernel
theorem dX4_nextMove_24 : decode cX4_nextMove 24 = .ok (.if_icmp .lt 5, 3) := by decide +kernel
theorem dX4_nextMove_27 : decode cX4_nextMove 27 = .ok (.iconst (-1), 1) := by decide +kernel
theorem dX4_nextMove_28 : decode cX4_nextMove 28 = .ok (.ireturn, 1) := by decide +kernel
theorem dX4_nextMove_29 : decode cX4_nextMove 29 = .ok (.aload_n 0, 1) := by decide +kernel
theorem dX4_nextMove_30 : decode cX4_nextMove 30 = .ok (.getfield 19, 3) := by decide +kernel
theorem dX4_nextMove_33 : decode cX4_nextMove 33 = .ok (.getfield 71, 3) := by decide +kernel
theorem dX4_nextMove_36 : decode cX4_nextMove 36 = .ok (.astore_n 3, 1) := by decide +kernel
theorem dX4_nextMove_37 : decode cX4_nextMove 37 = .ok (.iconst 0, 1) := by decide +kernel
theorem dX4_nextMove_38 : decode cX4_nextMove 38 = .ok (.istore 4, 2) := by decide +kernel
theorem dX4_nextMove_40 : decode cX4_nextMove 40 = .ok (.iload 4, 2) := by decide +kernel
theorem dX4_nextMove_42 : decode cX4_nextMove 42 = .ok (.iload_n 1, 1) := by decide +kernel
theorem dX4_nextMove_43 : decode cX4_nextMove 43 = .ok (.if_icmp .ge 65, 3) := by decide +kernel
theorem dX4_nextMove_46 : decode cX4_nextMove 46 = .ok (.aload_n 3, 1) := by decide +kernel
theorem dX4_nextMove_47 : decode cX4_nextMove 47 = .ok (.aload_n 0, 1) := by decide +kernel
theorem dX4_nextMove_48 : decode cX4_nextMove 48 = .ok (.getfield 10, 3) := by decide +kernel
theorem dX4_nextMove_51 : decode cX4_nextMove 51 = .ok (.getfield 71, 3) := by decide +kernel
theorem dX4_nextMove_54 : decode cX4_nextMove 54 = .ok (.invokevirtual 252, 3) := by decide +kernel
theorem dX4_nextMove_57 : decode cX4_nextMove 57 = .ok (.aload_n 3, 1) := by decide +kernel
theorem dX4_nextMove_58 : decode cX4_nextMove 58 = .ok (.iload 4, 2) := by decide +kernel
theorem dX4_nextMove_60 : decode cX4_nextMove 60 = .ok (.invokevirtual 255, 3) := by decide +kernel
theorem dX4_nextMove_63 : decode cX4_nextMove 63 = .ok (.aload_n 3, 1) := by decide +kernel
theorem dX4_nextMove_64 : decode cX4_nextMove 64 = .ok (.iload_n 2, 1) := by decide +kernel
theorem dX4_nextMove_65 : decode cX4_nextMove 65 = .ok (.iconst 1, 1) := by decide +kernel
theorem dX4_nextMove_66 : decode cX4_nextMove 66 = .ok (.iadd, 1) := by decide +kernel
theorem dX4_nextMove_67 : decode cX4_nextMove 67 = .ok (.aload_n 0, 1) := by decide +kernel
theorem dX4_nextMove_68 : decode cX4_nextMove 68 = .ok (.getfield 10, 3) := by decide +kernel
theorem dX4_nextMove_71 : decode cX4_nextMove 71 = .ok (.getfield 71, 3) := by decide +kernel
theorem dX4_nextMove_74 : decode cX4_nextMove 74 = .ok (.getfield 198, 3) := by decide +kernel
theorem dX4_nextMove_77 : decode cX4_nextMove 77 = .ok (.iload 4, 2) := by decide +kernel
theorem dX4_nextMove_79 : decode cX4_nextMove 79 = .ok (.invokestatic 130, 3) := by decide +kernel
theorem dX4_nextMove_82 : decode cX4_nextMove 82 = .ok (.invokevirtual 258, 3) := by decide +kernel
theorem dX4_nextMove_85 : decode cX4_nextMove 85 = .ok (.istore 5, 2) := by decide +kernel
theorem dX4_nextMove_87 : decode cX4_nextMove 87 = .ok (.iload 5, 2) := by decide +kernel
theorem dX4_nextMove_89 : decode cX4_nextMove 89 = .ok (.iconst (-1), 1) := by decide +kernel
theorem dX4_nextMove_90 : decode cX4_nextMove 90 = .ok (.if_icmp .eq 12, 3) := by decide +kernel
theorem dX4_nextMove_93 : decode cX4_nextMove 93 = .ok (.bipush 20, 2) := by decide +kernel
theorem dX4_nextMove_95 : decode cX4_nextMove 95 = .ok (.iload 4, 2) := by decide +kernel
theorem dX4_nextMove_97 : decode cX4_nextMove 97 = .ok (.imul, 1) := by decide +kernel
theorem dX4_nextMove_98 : decode cX4_nextMove 98 = .ok (.iload 5, 2) := by decide +kernel
theorem dX4_nextMove_100 : decode cX4_nextMove 100 = .ok (.iadd, 1) := by decide +kernel
theorem dX4_nextMove_101 : decode cX4_nextMove 101 = .ok (.ireturn, 1) := by decide +kernel
theorem dX4_nextMove_102 : decode cX4_nextMove 102 = .ok (.iinc 4 1, 3) := by decide +kernel
theorem dX4_nextMove_105 : decode cX4_nextMove 105 = .ok (.goto (-65), 3) := by decide +kernel
theorem dX4_nextMove_108 : decode cX4_nextMove 108 = .ok (.iconst (-1), 1) := by decide +kernel
theorem dX4_nextMove_109 : decode cX4_nextMove 109 = .ok (.ireturn, 1) := by decide +kernel
theorem dX4_ifPulled_0 : decode cX4_ifPulled 0 = .ok (.aload_n 0, 1) := by decide +kernel
theorem dX4_ifPulled_1 : decode cX4_ifPulled 1 = .ok (.getfield 10, 3) := by decide +kernel
theorem dX4_ifPulled_4 : decode cX4_ifPulled 4 = .ok (.getfield 71, 3) := by decide +kernel
theorem dX4_ifPulled_7 : decode cX4_ifPulled 7 = .ok (.iload_n 1, 1) := by decide +kernel
theorem dX4_ifPulled_8 : decode cX4_ifPulled 8 = .ok (.invokevirtual 86, 3) := by decide +kernel
theorem dX4_ifPulled_11 : decode cX4_ifPulled 11 = .ok (.ifCond .ne 13, 3) := by decide +kernel
theorem dX4_ifPulled_14 : decode cX4_ifPulled 14 = .ok (.new 52, 3) := by decide +kernel
theorem dX4_ifPulled_17 : decode cX4_ifPulled 17 = .ok (.dup, 1) := by decide +kernel
theorem dX4_ifPulled_18 : decode cX4_ifPulled 18 = .ok (.ldc 89, 2) := by decide +kernel
theorem dX4_ifPulled_20 : decode cX4_ifPulled 20 = .ok (.invokespecial 56, 3) := by decide +kernel
theorem dX4_ifPulled_23 : decode cX4_ifPulled 23 = .ok (.athrow, 1) := by decide +kernel
theorem dX4_ifPulled_24 : decode cX4_ifPulled 24 = .ok (.iload_n 2, 1) := by decide +kernel
theorem dX4_ifPulled_25 : decode cX4_ifPulled 25 = .ok (.ifCond .lt 8, 3) := by decide +kernel
theorem dX4_ifPulled_28 : decode cX4_ifPulled 28 = .ok (.iload_n 2, 1) := by decide +kernel
theorem dX4_ifPulled_29 : decode cX4_ifPulled 29 = .ok (.iconst 4, 1) := by decide +kernel
theorem dX4_ifPulled_30 : decode cX4_ifPulled 30 = .ok (.if_icmp .lt 13, 3) := by decide +kernel
theorem dX4_ifPulled_33 : decode cX4_ifPulled 33 = .ok (.new 122, 3) := by decide +kernel
theorem dX4_ifPulled_36 : decode cX4_ifPulled 36 = .ok (.dup, 1) := by decide +kernel
theorem dX4_ifPulled_37 : decode cX4_ifPulled 37 = .ok (.ldc 196, 2) := by decide +kernel
theorem dX4_ifPulled_39 : decode cX4_ifPulled 39 = .ok (.invokespecial 126, 3) := by decide +kernel
theorem dX4_ifPulled_42 : decode cX4_ifPulled 42 = .ok (.athrow, 1) := by decide +kernel
theorem dX4_ifPulled_43 : decode cX4_ifPulled 43 = .ok (.aload_n 0, 1) := by decide +kernel
theorem dX4_ifPulled_44 : decode cX4_ifPulled 44 = .ok (.getfield 19, 3) := by decide +kernel
theorem dX4_ifPulled_47 : decode cX4_ifPulled 47 = .ok (.aload_n 0, 1) := by decide +kernel
theorem dX4_ifPulled_48 : decode cX4_ifPulled 48 = .ok (.getfield 10, 3) := by decide +kernel
theorem dX4_ifPulled_51 : decode cX4_ifPulled 51 = .ok (.invokevirtual 183, 3) := by decide +kernel
theorem dX4_ifPulled_54 : decode cX4_ifPulled 54 = .ok (.aload_n 0, 1) := by decide +kernel
theorem dX4_ifPulled_55 : decode cX4_ifPulled 55 = .ok (.getfield 19, 3) := by decide +kernel
theorem dX4_ifPulled_58 : decode cX4_ifPulled 58 = .ok (.getfield 71, 3) := by decide +kernel
theorem dX4_ifPulled_61 : decode cX4_ifPulled 61 = .ok (.iload_n 1, 1) := by decide +kernel
theorem dX4_ifPulled_62 : decode cX4_ifPulled 62 = .ok (.invokevirtual 255, 3) := by decide +kernel
theorem dX4_ifPulled_65 : decode cX4_ifPulled 65 = .ok (.iload_n 2, 1) := by decide +kernel
theorem dX4_ifPulled_66 : decode cX4_ifPulled 66 = .ok (.tableswitch 53 0 2 #[26, 34, 42], 26) := by decide +kernel
theorem dX4_ifPulled_92 : decode cX4_ifPulled 92 = .ok (.aload_n 0, 1) := by decide +kernel
theorem dX4_ifPulled_93 : decode cX4_ifPulled 93 = .ok (.getfield 19, 3) := by decide +kernel
theorem dX4_ifPulled_96 : decode cX4_ifPulled 96 = .ok (.invokevirtual 107, 3) := by decide +kernel
theorem dX4_ifPulled_99 : decode cX4_ifPulled 99 = .ok (.ireturn, 1) := by decide +kernel
theorem dX4_ifPulled_100 : decode cX4_ifPulled 100 = .ok (.aload_n 0, 1) := by decide +kernel
theorem dX4_ifPulled_101 : decode cX4_ifPulled 101 = .ok (.getfield 19, 3) := by decide +kernel
theorem dX4_ifPulled_104 : decode cX4_ifPulled 104 = .ok (.invokevirtual 111, 3) := by decide +kernel
theorem dX4_ifPulled_107 : decode cX4_ifPulled 107 = .ok (.ireturn, 1) := by decide +kernel
theorem dX4_ifPulled_108 : decode cX4_ifPulled 108 = .ok (.aload_n 0, 1) := by decide +kernel
theorem dX4_ifPulled_109 : decode cX4_ifPulled 109 = .ok (.getfield 19, 3) := by decide +kernel
theorem dX4_ifPulled_112 : decode cX4_ifPulled 112 = .ok (.getfield 71, 3) := by decide +kernel
theorem dX4_ifPulled_115 : decode cX4_ifPulled 115 = .ok (.invokevirtual 225, 3) := by decide +kernel
theorem dX4_ifPulled_118 : decode cX4_ifPulled 118 = .ok (.ireturn, 1) := by decide +kernel
theorem dX4_ifPulled_119 : decode cX4_ifPulled 119 = .ok (.aload_n 0, 1) := by decide +kernel
theorem dX4_ifPulled_120 : decode cX4_ifPulled 120 = .ok (.getfield 19, 3) := by decide +kernel
theorem dX4_ifPulled_123 : decode cX4_ifPulled 123 = .ok (.invokevirtual 234, 3) := by decide +kernel
theorem dX4_ifPulled_126 : decode cX4_ifPulled 126 = .ok (.ireturn, 1) := by decide +kernel
theorem dX4_fits_0 : decode cX4_fits 0 = .ok (.aload_n 0, 1) := by decide +kernel
theorem dX4_fits_1 : decode cX4_fits 1 = .ok (.getfield 10, 3) := by decide +kernel
theorem dX4_fits_4 : decode cX4_fits 4 = .ok (.getfield 71, 3) := by decide +kernel
theorem dX4_fits_7 : decode cX4_fits 7 = .ok (.getfield 75, 3) := by decide +kernel
theorem dX4_fits_10 : decode cX4_fits 10 = .ok (.bipush 20, 2) := by decide +kernel
theorem dX4_fits_12 : decode cX4_fits 12 = .ok (.if_icmp .lt 5, 3) := by decide +kernel
theorem dX4_fits_15 : decode cX4_fits 15 = .ok (.iconst (-1), 1) := by decide +kernel
theorem dX4_fits_16 : decode cX4_fits 16 = .ok (.ireturn, 1) := by decide +kernel
theorem dX4_fits_17 : decode cX4_fits 17 = .ok (.aload_n 0, 1) := by decide +kernel
theorem dX4_fits_18 : decode cX4_fits 18 = .ok (.getfield 10, 3) := by decide +kernel
theorem dX4_fits_21 : decode cX4_fits 21 = .ok (.aload_n 0, 1) := by decide +kernel
theorem dX4_fits_22 : decode cX4_fits 22 = .ok (.getfield 10, 3) := by decide +kernel
theorem dX4_fits_25 : decode cX4_fits 25 = .ok (.getfield 71, 3) := by decide +kernel
theorem dX4_fits_28 : decode cX4_fits 28 = .ok (.getfield 75, 3) := by decide +kernel
theorem dX4_fits_31 : decode cX4_fits 31 = .ok (.invokevirtual 262, 3) := by decide +kernel
theorem dX4_fits_34 : decode cX4_fits 34 = .ok (.istore_n 1, 1) := by decide +kernel
theorem dX4_fits_35 : decode cX4_fits 35 = .ok (.iconst 0, 1) := by decide +kernel
theorem dX4_fits_36 : decode cX4_fits 36 = .ok (.istore_n 2, 1) := by decide +kernel
theorem dX4_fits_37 : decode cX4_fits 37 = .ok (.iload_n 2, 1) := by decide +kernel
theorem dX4_fits_38 : decode cX4_fits 38 = .ok (.bipush 16, 2) := by decide +kernel
theorem dX4_fits_40 : decode cX4_fits 40 = .ok (.if_icmp .ge 37, 3) := by decide +kernel
theorem dX4_fits_43 : decode cX4_fits 43 = .ok (.aload_n 0, 1) := by decide +kernel
theorem dX4_fits_44 : decode cX4_fits 44 = .ok (.getfield 10, 3) := by decide +kernel
theorem dX4_fits_47 : decode cX4_fits 47 = .ok (.getfield 127, 3) := by decide +kernel
theorem dX4_fits_50 : decode cX4_fits 50 = .ok (.iload_n 2, 1) := by decide +kernel
theorem dX4_fits_51 : decode cX4_fits 51 = .ok (.invokestatic 130, 3) := by decide +kernel
theorem dX4_fits_54 : decode cX4_fits 54 = .ok (.ifCond .le 17, 3) := by decide +kernel
theorem dX4_fits_57 : decode cX4_fits 57 = .ok (.aload_n 0, 1) := by decide +kernel
theorem dX4_fits_58 : decode cX4_fits 58 = .ok (.getfield 10, 3) := by decide +kernel
theorem dX4_fits_61 : decode cX4_fits 61 = .ok (.iload_n 2, 1) := by decide +kernel
theorem dX4_fits_62 : decode cX4_fits 62 = .ok (.invokevirtual 265, 3) := by decide +kernel
theorem dX4_fits_65 : decode cX4_fits 65 = .ok (.iload_n 1, 1) := by decide +kernel
theorem dX4_fits_66 : decode cX4_fits 66 = .ok (.if_icmp .ne 5, 3) := by decide +kernel
theorem dX4_fits_69 : decode cX4_fits 69 = .ok (.iload_n 2, 1) := by decide +kernel
theorem dX4_fits_70 : decode cX4_fits 70 = .ok (.ireturn, 1) := by decide +kernel
theorem dX4_fits_71 : decode cX4_fits 71 = .ok (.iinc 2 1, 3) := by decide +kernel
theorem dX4_fits_74 : decode cX4_fits 74 = .ok (.goto (-37), 3) := by decide +kernel
theorem dX4_fits_77 : decode cX4_fits 77 = .ok (.iconst (-1), 1) := by decide +kernel
theorem dX4_fits_78 : decode cX4_fits 78 = .ok (.ireturn, 1) := by decide +kernel
theorem dX4_books_0 : decode cX4_books 0 = .ok (.aload_n 0, 1) := by decide +kernel
theorem dX4_books_1 : decode cX4_books 1 = .ok (.getfield 10, 3) := by decide +kernel
theorem dX4_books_4 : decode cX4_books 4 = .ok (.iconst 0, 1) := by decide +kernel
theorem dX4_books_5 : decode cX4_books 5 = .ok (.invokevirtual 268, 3) := by decide +kernel
theorem dX4_books_8 : decode cX4_books 8 = .ok (.istore_n 1, 1) := by decide +kernel
theorem dX4_books_9 : decode cX4_books 9 = .ok (.iconst 1, 1) := by decide +kernel
theorem dX4_books_10 : decode cX4_books 10 = .ok (.istore_n 2, 1) := by decide +kernel
theorem dX4_books_11 : decode cX4_books 11 = .ok (.iload_n 2, 1) := by decide +kernel
theorem dX4_books_12 : decode cX4_books 12 = .ok (.aload_n 0, 1) := by decide +kernel
theorem dX4_books_13 : decode cX4_books 13 = .ok (.getfield 10, 3) := by decide +kernel
theorem dX4_books_16 : decode cX4_books 16 = .ok (.invokevirtual 271, 3) := by decide +kernel
theorem dX4_books_19 : decode cX4_books 19 = .ok (.if_icmp .ge 22, 3) := by decide +kernel
theorem dX4_books_22 : decode cX4_books 22 = .ok (.iload_n 1, 1) := by decide +kernel
theorem dX4_books_23 : decode cX4_books 23 = .ok (.aload_n 0, 1) := by decide +kernel
theorem dX4_books_24 : decode cX4_books 24 = .ok (.getfield 10, 3) := by decide +kernel
theorem dX4_books_27 : decode cX4_books 27 = .ok (.iload_n 2, 1) := by decide +kernel
theorem dX4_books_28 : decode cX4_books 28 = .ok (.invokevirtual 268, 3) := by decide +kernel
theorem dX4_books_31 : decode cX4_books 31 = .ok (.invokestatic 274, 3) := by decide +kernel
theorem dX4_books_34 : decode cX4_books 34 = .ok (.istore_n 1, 1) := by decide +kernel
theorem dX4_books_35 : decode cX4_books 35 = .ok (.iinc 2 1, 3) := by decide +kernel
theorem dX4_books_38 : decode cX4_books 38 = .ok (.goto (-27), 3) := by decide +kernel
theorem dX4_books_41 : decode cX4_books 41 = .ok (.iload_n 1, 1) := by decide +kernel
theorem dX4_books_42 : decode cX4_books 42 = .ok (.ireturn, 1) := by decide +kernel
theorem dX4_stairShare_0 : decode cX4_stairShare 0 = .ok (.aload_n 0, 1) := by decide +kernel
theorem dX4_stairShare_1 : decode cX4_stairShare 1 = .ok (.getfield 10, 3) := by decide +kernel
theorem dX4_stairShare_4 : decode cX4_stairShare 4 = .ok (.getfield 71, 3) := by decide +kernel
theorem dX4_stairShare_7 : decode cX4_stairShare 7 = .ok (.getfield 75, 3) := by decide +kernel
theorem dX4_stairShare_10 : decode cX4_stairShare 10 = .ok (.istore_n 1, 1) := by decide +kernel
theorem dX4_stairShare_11 : decode cX4_stairShare 11 = .ok (.iload_n 1, 1) := by decide +kernel
theorem dX4_stairShare_12 : decode cX4_stairShare 12 = .ok (.ifCond .le 19, 3) := by decide +kernel
theorem dX4_stairShare_15 : decode cX4_stairShare 15 = .ok (.iload_n 1, 1) := by decide +kernel
theorem dX4_stairShare_16 : decode cX4_stairShare 16 = .ok (.aload_n 0, 1) := by decide +kernel
theorem dX4_stairShare_17 : decode cX4_stairShare 17 = .ok (.getfield 10, 3) := by decide +kernel
theorem dX4_stairShare_20 : decode cX4_stairShare 20 = .ok (.invokevirtual 107, 3) := by decide +kernel
theorem dX4_stairShare_23 : decode cX4_stairShare 23 = .ok (.isub, 1) := by decide +kernel
theorem dX4_stairShare_24 : decode cX4_stairShare 24 = .ok (.i2d, 1) := by decide +kernel
theorem dX4_stairShare_25 : decode cX4_stairShare 25 = .ok (.iload_n 1, 1) := by decide +kernel
theorem dX4_stairShare_26 : decode cX4_stairShare 26 = .ok (.i2d, 1) := by decide +kernel
theorem dX4_stairShare_27 : decode cX4_stairShare 27 = .ok (.ddiv, 1) := by decide +kernel
theorem dX4_stairShare_28 : decode cX4_stairShare 28 = .ok (.goto 4, 3) := by decide +kernel
theorem dX4_stairShare_31 : decode cX4_stairShare 31 = .ok (.dconst 1, 1) := by decide +kernel
theorem dX4_stairShare_32 : decode cX4_stairShare 32 = .ok (.dreturn, 1) := by decide +kernel
theorem dX4_meanThread_0 : decode cX4_meanThread 0 = .ok (.aload_n 0, 1) := by decide +kernel
theorem dX4_meanThread_1 : decode cX4_meanThread 1 = .ok (.getfield 10, 3) := by decide +kernel
theorem dX4_meanThread_4 : decode cX4_meanThread 4 = .ok (.getfield 71, 3) := by decide +kernel
theorem dX4_meanThread_7 : decode cX4_meanThread 7 = .ok (.getfield 75, 3) := by decide +kernel
theorem dX4_meanThread_10 : decode cX4_meanThread 10 = .ok (.istore_n 1, 1) := by decide +kernel
theorem dX4_meanThread_11 : decode cX4_meanThread 11 = .ok (.iload_n 1, 1) := by decide +kernel
theorem dX4_meanThread_12 : decode cX4_meanThread 12 = .ok (.ifCond .le 17, 3) := by decide +kernel
theorem dX4_meanThread_15 : decode cX4_meanThread 15 = .ok (.aload_n 0, 1) := by decide +kernel
theorem dX4_meanThread_16 : decode cX4_meanThread 16 = .ok (.getfield 10, 3) := by decide +kernel
theorem dX4_meanThread_19 : decode cX4_meanThread 19 = .ok (.invokevirtual 237, 3) := by decide +kernel
theorem dX4_meanThread_22 : decode cX4_meanThread 22 = .ok (.i2f, 1) := by decide +kernel
theorem dX4_meanThread_23 : decode cX4_meanThread 23 = .ok (.iload_n 1, 1) := by decide +kernel
theorem dX4_meanThread_24 : decode cX4_meanThread 24 = .ok (.i2f, 1) := by decide +kernel
theorem dX4_meanThread_25 : decode cX4_meanThread 25 = .ok (.fdiv, 1) := by decide +kernel
theorem dX4_meanThread_26 : decode cX4_meanThread 26 = .ok (.goto 4, 3) := by decide +kernel
theorem dX4_meanThread_29 : decode cX4_meanThread 29 = .ok (.fconst 0, 1) := by decide +kernel
theorem dX4_meanThread_30 : decode cX4_meanThread 30 = .ok (.freturn, 1) := by decide +kernel
theorem dX4_digest_0 : decode cX4_digest 0 = .ok (.ldc2_w 279, 3) := by decide +kernel
theorem dX4_digest_3 : decode cX4_digest 3 = .ok (.lstore_n 1, 1) := by decide +kernel
theorem dX4_digest_4 : decode cX4_digest 4 = .ok (.iconst 0, 1) := by decide +kernel
theorem dX4_digest_5 : decode cX4_digest 5 = .ok (.istore_n 3, 1) := by decide +kernel
theorem dX4_digest_6 : decode cX4_digest 6 = .ok (.iload_n 3, 1) := by decide +kernel
theorem dX4_digest_7 : decode cX4_digest 7 = .ok (.bipush 16, 2) := by decide +kernel
theorem dX4_digest_9 : decode cX4_digest 9 = .ok (.if_icmp .ge 20, 3) := by decide +kernel
theorem dX4_digest_12 : decode cX4_digest 12 = .ok (.lload_n 1, 1) := by decide +kernel
theorem dX4_digest_13 : decode cX4_digest 13 = .ok (.aload_n 0, 1) := by decide +kernel
theorem dX4_digest_14 : decode cX4_digest 14 = .ok (.iload_n 3, 1) := by decide +kernel
theorem dX4_digest_15 : decode cX4_digest 15 = .ok (.invokevirtual 281, 3) := by decide +kernel
theorem dX4_digest_18 : decode cX4_digest 18 = .ok (.i2l, 1) := by decide +kernel
theorem dX4_digest_19 : decode cX4_digest 19 = .ok (.invokestatic 284, 3) := by decide +kernel
theorem dX4_digest_22 : decode cX4_digest 22 = .ok (.lstore_n 1, 1) := by decide +kernel
theorem dX4_digest_23 : decode cX4_digest 23 = .ok (.iinc 3 1, 3) := by decide +kernel
theorem dX4_digest_26 : decode cX4_digest 26 = .ok (.goto (-20), 3) := by decide +kernel
theorem dX4_digest_29 : decode cX4_digest 29 = .ok (.iconst 0, 1) := by decide +kernel
theorem dX4_digest_30 : decode cX4_digest 30 = .ok (.istore_n 3, 1) := by decide +kernel
theorem dX4_digest_31 : decode cX4_digest 31 = .ok (.iload_n 3, 1) := by decide +kernel
theorem dX4_digest_32 : decode cX4_digest 32 = .ok (.iconst 3, 1) := by decide +kernel
theorem dX4_digest_33 : decode cX4_digest 33 = .ok (.if_icmp .ge 26, 3) := by decide +kernel
theorem dX4_digest_36 : decode cX4_digest 36 = .ok (.lload_n 1, 1) := by decide +kernel
theorem dX4_digest_37 : decode cX4_digest 37 = .ok (.aload_n 0, 1) := by decide +kernel
theorem dX4_digest_38 : decode cX4_digest 38 = .ok (.getfield 10, 3) := by decide +kernel
theorem dX4_digest_41 : decode cX4_digest 41 = .ok (.getfield 164, 3) := by decide +kernel
theorem dX4_digest_44 : decode cX4_digest 44 = .ok (.iload_n 3, 1) := by decide +kernel
theorem dX4_digest_45 : decode cX4_digest 45 = .ok (.invokestatic 130, 3) := by decide +kernel
theorem dX4_digest_48 : decode cX4_digest 48 = .ok (.i2l, 1) := by decide +kernel
theorem dX4_digest_49 : decode cX4_digest 49 = .ok (.invokestatic 284, 3) := by decide +kernel
theorem dX4_digest_52 : decode cX4_digest 52 = .ok (.lstore_n 1, 1) := by decide +kernel
theorem dX4_digest_53 : decode cX4_digest 53 = .ok (.iinc 3 1, 3) := by decide +kernel
theorem dX4_digest_56 : decode cX4_digest 56 = .ok (.goto (-25), 3) := by decide +kernel
theorem dX4_digest_59 : decode cX4_digest 59 = .ok (.iconst 0, 1) := by decide +kernel
theorem dX4_digest_60 : decode cX4_digest 60 = .ok (.istore_n 3, 1) := by decide +kernel
theorem dX4_digest_61 : decode cX4_digest 61 = .ok (.iload_n 3, 1) := by decide +kernel
theorem dX4_digest_62 : decode cX4_digest 62 = .ok (.aload_n 0, 1) := by decide +kernel
theorem dX4_digest_63 : decode cX4_digest 63 = .ok (.getfield 10, 3) := by decide +kernel
theorem dX4_digest_66 : decode cX4_digest 66 = .ok (.getfield 71, 3) := by decide +kernel
theorem dX4_digest_69 : decode cX4_digest 69 = .ok (.getfield 75, 3) := by decide +kernel
theorem dX4_digest_72 : decode cX4_digest 72 = .ok (.if_icmp .ge 66, 3) := by decide +kernel
theorem dX4_digest_75 : decode cX4_digest 75 = .ok (.iconst 0, 1) := by decide +kernel
theorem dX4_digest_76 : decode cX4_digest 76 = .ok (.istore 4, 2) := by decide +kernel
theorem dX4_digest_78 : decode cX4_digest 78 = .ok (.iload 4, 2) := by decide +kernel
theorem dX4_digest_80 : decode cX4_digest 80 = .ok (.bipush 6, 2) := by decide +kernel
theorem dX4_digest_82 : decode cX4_digest 82 = .ok (.if_icmp .ge 22, 3) := by decide +kernel
theorem dX4_digest_85 : decode cX4_digest 85 = .ok (.lload_n 1, 1) := by decide +kernel
theorem dX4_digest_86 : decode cX4_digest 86 = .ok (.aload_n 0, 1) := by decide +kernel
theorem dX4_digest_87 : decode cX4_digest 87 = .ok (.iload_n 3, 1) := by decide +kernel
theorem dX4_digest_88 : decode cX4_digest 88 = .ok (.iload 4, 2) := by decide +kernel
theorem dX4_digest_90 : decode cX4_digest 90 = .ok (.invokevirtual 288, 3) := by decide +kernel
theorem dX4_digest_93 : decode cX4_digest 93 = .ok (.i2l, 1) := by decide +kernel
theorem dX4_digest_94 : decode cX4_digest 94 = .ok (.invokestatic 284, 3) := by decide +kernel
theorem dX4_digest_97 : decode cX4_digest 97 = .ok (.lstore_n 1, 1) := by decide +kernel
theorem dX4_digest_98 : decode cX4_digest 98 = .ok (.iinc 4 1, 3) := by decide +kernel
theorem dX4_digest_101 : decode cX4_digest 101 = .ok (.goto (-23), 3) := by decide +kernel
theorem dX4_digest_104 : decode cX4_digest 104 = .ok (.iconst 0, 1) := by decide +kernel
theorem dX4_digest_105 : decode cX4_digest 105 = .ok (.istore 4, 2) := by decide +kernel
theorem dX4_digest_107 : decode cX4_digest 107 = .ok (.iload 4, 2) := by decide +kernel
theorem dX4_digest_109 : decode cX4_digest 109 = .ok (.iconst 4, 1) := by decide +kernel
theorem dX4_digest_110 : decode cX4_digest 110 = .ok (.if_icmp .ge 22, 3) := by decide +kernel
theorem dX4_digest_113 : decode cX4_digest 113 = .ok (.lload_n 1, 1) := by decide +kernel
theorem dX4_digest_114 : decode cX4_digest 114 = .ok (.aload_n 0, 1) := by decide +kernel
theorem dX4_digest_115 : decode cX4_digest 115 = .ok (.iload_n 3, 1) := by decide +kernel
theorem dX4_digest_116 : decode cX4_digest 116 = .ok (.iload 4, 2) := by decide +kernel
theorem dX4_digest_118 : decode cX4_digest 118 = .ok (.invokevirtual 291, 3) := by decide +kernel
theorem dX4_digest_121 : decode cX4_digest 121 = .ok (.i2l, 1) := by decide +kernel
theorem dX4_digest_122 : decode cX4_digest 122 = .ok (.invokestatic 284, 3) := by decide +kernel
theorem dX4_digest_125 : decode cX4_digest 125 = .ok (.lstore_n 1, 1) := by decide +kernel
theorem dX4_digest_126 : decode cX4_digest 126 = .ok (.iinc 4 1, 3) := by decide +kernel
theorem dX4_digest_129 : decode cX4_digest 129 = .ok (.goto (-22), 3) := by decide +kernel
theorem dX4_digest_132 : decode cX4_digest 132 = .ok (.iinc 3 1, 3) := by decide +kernel
theorem dX4_digest_135 : decode cX4_digest 135 = .ok (.goto (-74), 3) := by decide +kernel
theorem dX4_digest_138 : decode cX4_digest 138 = .ok (.iconst 0, 1) := by decide +kernel
theorem dX4_digest_139 : decode cX4_digest 139 = .ok (.istore_n 3, 1) := by decide +kernel
theorem dX4_digest_140 : decode cX4_digest 140 = .ok (.iload_n 3, 1) := by decide +kernel
theorem dX4_digest_141 : decode cX4_digest 141 = .ok (.bipush 16, 2) := by decide +kernel
theorem dX4_digest_143 : decode cX4_digest 143 = .ok (.if_icmp .ge 37, 3) := by decide +kernel
theorem dX4_digest_146 : decode cX4_digest 146 = .ok (.iconst 0, 1) := by decide +kernel
theorem dX4_digest_147 : decode cX4_digest 147 = .ok (.istore 4, 2) := by decide +kernel
theorem dX4_digest_149 : decode cX4_digest 149 = .ok (.iload 4, 2) := by decide +kernel
theorem dX4_digest_151 : decode cX4_digest 151 = .ok (.iconst 5, 1) := by decide +kernel
theorem dX4_digest_152 : decode cX4_digest 152 = .ok (.if_icmp .ge 22, 3) := by decide +kernel
theorem dX4_digest_155 : decode cX4_digest 155 = .ok (.lload_n 1, 1) := by decide +kernel
theorem dX4_digest_156 : decode cX4_digest 156 = .ok (.aload_n 0, 1) := by decide +kernel
theorem dX4_digest_157 : decode cX4_digest 157 = .ok (.iload_n 3, 1) := by decide +kernel
theorem dX4_digest_158 : decode cX4_digest 158 = .ok (.iload 4, 2) := by decide +kernel
theorem dX4_digest_160 : decode cX4_digest 160 = .ok (.invokevirtual 294, 3) := by decide +kernel
theorem dX4_digest_163 : decode cX4_digest 163 = .ok (.i2l, 1) := by decide +kernel
theorem dX4_digest_164 : decode cX4_digest 164 = .ok (.invokestatic 284, 3) := by decide +kernel
theorem dX4_digest_167 : decode cX4_digest 167 = .ok (.lstore_n 1, 1) := by decide +kernel
theorem dX4_digest_168 : decode cX4_digest 168 = .ok (.iinc 4 1, 3) := by decide +kernel
theorem dX4_digest_171 : decode cX4_digest 171 = .ok (.goto (-22), 3) := by decide +kernel
theorem dX4_digest_174 : decode cX4_digest 174 = .ok (.iinc 3 1, 3) := by decide +kernel
theorem dX4_digest_177 : decode cX4_digest 177 = .ok (.goto (-37), 3) := by decide +kernel
theorem dX4_digest_180 : decode cX4_digest 180 = .ok (.lload_n 1, 1) := by decide +kernel
theorem dX4_digest_181 : decode cX4_digest 181 = .ok (.aload_n 0, 1) := by decide +kernel
theorem dX4_digest_182 : decode cX4_digest 182 = .ok (.invokevirtual 297, 3) := by decide +kernel
theorem dX4_digest_185 : decode cX4_digest 185 = .ok (.i2l, 1) := by decide +kernel
theorem dX4_digest_186 : decode cX4_digest 186 = .ok (.invokestatic 284, 3) := by decide +kernel
theorem dX4_digest_189 : decode cX4_digest 189 = .ok (.lstore_n 1, 1) := by decide +kernel
theorem dX4_digest_190 : decode cX4_digest 190 = .ok (.lload_n 1, 1) := by decide +kernel
theorem dX4_digest_191 : decode cX4_digest 191 = .ok (.aload_n 0, 1) := by decide +kernel
theorem dX4_digest_192 : decode cX4_digest 192 = .ok (.invokevirtual 300, 3) := by decide +kernel
theorem dX4_digest_195 : decode cX4_digest 195 = .ok (.i2l, 1) := by decide +kernel
theorem dX4_digest_196 : decode cX4_digest 196 = .ok (.invokestatic 284, 3) := by decide +kernel
theorem dX4_digest_199 : decode cX4_digest 199 = .ok (.lstore_n 1, 1) := by decide +kernel
theorem dX4_digest_200 : decode cX4_digest 200 = .ok (.lload_n 1, 1) := by decide +kernel
theorem dX4_digest_201 : decode cX4_digest 201 = .ok (.aload_n 0, 1) := by decide +kernel
theorem dX4_digest_202 : decode cX4_digest 202 = .ok (.invokevirtual 303, 3) := by decide +kernel
theorem dX4_digest_205 : decode cX4_digest 205 = .ok (.i2l, 1) := by decide +kernel
theorem dX4_digest_206 : decode cX4_digest 206 = .ok (.invokestatic 284, 3) := by decide +kernel
theorem dX4_digest_209 : decode cX4_digest 209 = .ok (.lstore_n 1, 1) := by decide +kernel
theorem dX4_digest_210 : decode cX4_digest 210 = .ok (.lload_n 1, 1) := by decide +kernel
theorem dX4_digest_211 : decode cX4_digest 211 = .ok (.aload_n 0, 1) := by decide +kernel
theorem dX4_digest_212 : decode cX4_digest 212 = .ok (.invokevirtual 306, 3) := by decide +kernel
theorem dX4_digest_215 : decode cX4_digest 215 = .ok (.invokestatic 310, 3) := by decide +kernel
theorem dX4_digest_218 : decode cX4_digest 218 = .ok (.invokestatic 284, 3) := by decide +kernel
theorem dX4_digest_221 : decode cX4_digest 221 = .ok (.lstore_n 1, 1) := by decide +kernel
theorem dX4_digest_222 : decode cX4_digest 222 = .ok (.lload_n 1, 1) := by decide +kernel
theorem dX4_digest_223 : decode cX4_digest 223 = .ok (.aload_n 0, 1) := by decide +kernel
theorem dX4_digest_224 : decode cX4_digest 224 = .ok (.invokevirtual 314, 3) := by decide +kernel
theorem dX4_digest_227 : decode cX4_digest 227 = .ok (.invokestatic 318, 3) := by decide +kernel
theorem dX4_digest_230 : decode cX4_digest 230 = .ok (.i2l, 1) := by decide +kernel
theorem dX4_digest_231 : decode cX4_digest 231 = .ok (.invokestatic 284, 3) := by decide +kernel
theorem dX4_digest_234 : decode cX4_digest 234 = .ok (.lstore_n 1, 1) := by decide +kernel
theorem dX4_digest_235 : decode cX4_digest 235 = .ok (.lload_n 1, 1) := by decide +kernel
theorem dX4_digest_236 : decode cX4_digest 236 = .ok (.aload_n 0, 1) := by decide +kernel
theorem dX4_digest_237 : decode cX4_digest 237 = .ok (.getfield 44, 3) := by decide +kernel
theorem dX4_digest_240 : decode cX4_digest 240 = .ok (.ifCond .eq 7, 3) := by decide +kernel
theorem dX4_digest_243 : decode cX4_digest 243 = .ok (.lconst 1, 1) := by decide +kernel
theorem dX4_digest_244 : decode cX4_digest 244 = .ok (.goto 4, 3) := by decide +kernel
theorem dX4_digest_247 : decode cX4_digest 247 = .ok (.lconst 0, 1) := by decide +kernel
theorem dX4_digest_248 : decode cX4_digest 248 = .ok (.invokestatic 284, 3) := by decide +kernel
theorem dX4_digest_251 : decode cX4_digest 251 = .ok (.lstore_n 1, 1) := by decide +kernel
theorem dX4_digest_252 : decode cX4_digest 252 = .ok (.aload_n 0, 1) := by decide +kernel
theorem dX4_digest_253 : decode cX4_digest 253 = .ok (.lload_n 1, 1) := by decide +kernel
theorem dX4_digest_254 : decode cX4_digest 254 = .ok (.invokevirtual 322, 3) := by decide +kernel
theorem dX4_digest_257 : decode cX4_digest 257 = .ok (.lreturn, 1) := by decide +kernel
theorem dX4_readBuffer_0 : decode cX4_readBuffer 0 = .ok (.aload_n 0, 1) := by decide +kernel
theorem dX4_readBuffer_1 : decode cX4_readBuffer 1 = .ok (.getfield 32, 3) := by decide +kernel
theorem dX4_readBuffer_4 : decode cX4_readBuffer 4 = .ok (.invokevirtual 326, 3) := by decide +kernel
theorem dX4_readBuffer_7 : decode cX4_readBuffer 7 = .ok (.iconst 0, 1) := by decide +kernel
theorem dX4_readBuffer_8 : decode cX4_readBuffer 8 = .ok (.istore_n 1, 1) := by decide +kernel
theorem dX4_readBuffer_9 : decode cX4_readBuffer 9 = .ok (.iload_n 1, 1) := by decide +kernel
theorem dX4_readBuffer_10 : decode cX4_readBuffer 10 = .ok (.aload_n 0, 1) := by decide +kernel
theorem dX4_readBuffer_11 : decode cX4_readBuffer 11 = .ok (.getfield 40, 3) := by decide +kernel
theorem dX4_readBuffer_14 : decode cX4_readBuffer 14 = .ok (.if_icmp .ge 29, 3) := by decide +kernel
theorem dX4_readBuffer_17 : decode cX4_readBuffer 17 = .ok (.aload_n 0, 1) := by decide +kernel
theorem dX4_readBuffer_18 : decode cX4_readBuffer 18 = .ok (.getfield 32, 3) := by decide +kernel
theorem dX4_readBuffer_21 : decode cX4_readBuffer 21 = .ok (.aload_n 0, 1) := by decide +kernel
theorem dX4_readBuffer_22 : decode cX4_readBuffer 22 = .ok (.getfield 36, 3) := by decide +kernel
theorem dX4_readBuffer_25 : decode cX4_readBuffer 25 = .ok (.iload_n 1, 1) := by decide +kernel
theorem dX4_readBuffer_26 : decode cX4_readBuffer 26 = .ok (.invokestatic 130, 3) := by decide +kernel
theorem dX4_readBuffer_29 : decode cX4_readBuffer 29 = .ok (.invokevirtual 329, 3) := by decide +kernel
theorem dX4_readBuffer_32 : decode cX4_readBuffer 32 = .ok (.ifCond .ne 5, 3) := by decide +kernel
theorem dX4_readBuffer_35 : decode cX4_readBuffer 35 = .ok (.iload_n 1, 1) := by decide +kernel
theorem dX4_readBuffer_36 : decode cX4_readBuffer 36 = .ok (.ireturn, 1) := by decide +kernel
theorem dX4_readBuffer_37 : decode cX4_readBuffer 37 = .ok (.iinc 1 1, 3) := by decide +kernel
theorem dX4_readBuffer_40 : decode cX4_readBuffer 40 = .ok (.goto (-31), 3) := by decide +kernel
theorem dX4_readBuffer_43 : decode cX4_readBuffer 43 = .ok (.aload_n 0, 1) := by decide +kernel
theorem dX4_readBuffer_44 : decode cX4_readBuffer 44 = .ok (.getfield 40, 3) := by decide +kernel
theorem dX4_readBuffer_47 : decode cX4_readBuffer 47 = .ok (.ireturn, 1) := by decide +kernel
theorem dX4_doParts_0 : decode cX4_doParts 0 = .ok (.iconst 0, 1) := by decide +kernel
theorem dX4_doParts_1 : decode cX4_doParts 1 = .ok (.istore_n 1, 1) := by decide +kernel
theorem dX4_doParts_2 : decode cX4_doParts 2 = .ok (.aload_n 0, 1) := by decide +kernel
theorem dX4_doParts_3 : decode cX4_doParts 3 = .ok (.getfield 32, 3) := by decide +kernel
theorem dX4_doParts_6 : decode cX4_doParts 6 = .ok (.invokevirtual 326, 3) := by decide +kernel
theorem dX4_doParts_9 : decode cX4_doParts 9 = .ok (.iconst 0, 1) := by decide +kernel
theorem dX4_doParts_10 : decode cX4_doParts 10 = .ok (.istore_n 2, 1) := by decide +kernel
theorem dX4_doParts_11 : decode cX4_doParts 11 = .ok (.iload_n 2, 1) := by decide +kernel
theorem dX4_doParts_12 : decode cX4_doParts 12 = .ok (.aload_n 0, 1) := by decide +kernel
theorem dX4_doParts_13 : decode cX4_doParts 13 = .ok (.getfield 40, 3) := by decide +kernel
theorem dX4_doParts_16 : decode cX4_doParts 16 = .ok (.if_icmp .gt 92, 3) := by decide +kernel
theorem dX4_doParts_19 : decode cX4_doParts 19 = .ok (.iload_n 2, 1) := by decide +kernel
theorem dX4_doParts_20 : decode cX4_doParts 20 = .ok (.aload_n 0, 1) := by decide +kernel
theorem dX4_doParts_21 : decode cX4_doParts 21 = .ok (.getfield 40, 3) := by decide +kernel
theorem dX4_doParts_24 : decode cX4_doParts 24 = .ok (.if_icmp .eq 16, 3) := by decide +kernel
theorem dX4_doParts_27 : decode cX4_doParts 27 = .ok (.aload_n 0, 1) := by decide +kernel
theorem dX4_doParts_28 : decode cX4_doParts 28 = .ok (.getfield 36, 3) := by decide +kernel
theorem dX4_doParts_31 : decode cX4_doParts 31 = .ok (.iload_n 2, 1) := by decide +kernel
theorem dX4_doParts_32 : decode cX4_doParts 32 = .ok (.invokestatic 130, 3) := by decide +kernel
theorem dX4_doParts_35 : decode cX4_doParts 35 = .ok (.bipush 59, 2) := by decide +kernel
theorem dX4_doParts_37 : decode cX4_doParts 37 = .ok (.if_icmp .ne 7, 3) := by decide +kernel
theorem dX4_doParts_40 : decode cX4_doParts 40 = .ok (.iconst 1, 1) := by decide +kernel
theorem dX4_doParts_41 : decode cX4_doParts 41 = .ok (.goto 4, 3) := by decide +kernel
theorem dX4_doParts_44 : decode cX4_doParts 44 = .ok (.iconst 0, 1) := by decide +kernel
theorem dX4_doParts_45 : decode cX4_doParts 45 = .ok (.istore_n 3, 1) := by decide +kernel
theorem dX4_doParts_46 : decode cX4_doParts 46 = .ok (.iload_n 3, 1) := by decide +kernel
theorem dX4_doParts_47 : decode cX4_doParts 47 = .ok (.ifCond .eq 20, 3) := by decide +kernel
theorem dX4_doParts_50 : decode cX4_doParts 50 = .ok (.aload_n 0, 1) := by decide +kernel
theorem dX4_doParts_51 : decode cX4_doParts 51 = .ok (.invokevirtual 332, 3) := by decide +kernel
theorem dX4_doParts_54 : decode cX4_doParts 54 = .ok (.ifCond .ne 13, 3) := by decide +kernel
theorem dX4_doParts_57 : decode cX4_doParts 57 = .ok (.aload_n 0, 1) := by decide +kernel
theorem dX4_doParts_58 : decode cX4_doParts 58 = .ok (.getfield 10, 3) := by decide +kernel
theorem dX4_doParts_61 : decode cX4_doParts 61 = .ok (.iload_n 1, 1) := by decide +kernel
theorem dX4_doParts_62 : decode cX4_doParts 62 = .ok (.putfield 246, 3) := by decide +kernel
theorem dX4_doParts_65 : decode cX4_doParts 65 = .ok (.iload_n 1, 1) := by decide +kernel
theorem dX4_doParts_66 : decode cX4_doParts 66 = .ok (.ireturn, 1) := by decide +kernel
theorem dX4_doParts_67 : decode cX4_doParts 67 = .ok (.iload_n 3, 1) := by decide +kernel
theorem dX4_doParts_68 : decode cX4_doParts 68 = .ok (.ifCond .eq 10, 3) := by decide +kernel
theorem dX4_doParts_71 : decode cX4_doParts 71 = .ok (.aload_n 0, 1) := by decide +kernel
theorem dX4_doParts_72 : decode cX4_doParts 72 = .ok (.invokevirtual 335, 3) := by decide +kernel
theorem dX4_doParts_75 : decode cX4_doParts 75 = .ok (.iinc 1 1, 3) := by decide +kernel
theorem dX4_doParts_78 : decode cX4_doParts 78 = .ok (.iload_n 2, 1) := by decide +kernel
theorem dX4_doParts_79 : decode cX4_doParts 79 = .ok (.aload_n 0, 1) := by decide +kernel
theorem dX4_doParts_80 : decode cX4_doParts 80 = .ok (.getfield 40, 3) := by decide +kernel
theorem dX4_doParts_83 : decode cX4_doParts 83 = .ok (.if_icmp .ge 19, 3) := by decide +kernel
theorem dX4_doParts_86 : decode cX4_doParts 86 = .ok (.aload_n 0, 1) := by decide +kernel
theorem dX4_doParts_87 : decode cX4_doParts 87 = .ok (.getfield 32, 3) := by decide +kernel
theorem dX4_doParts_90 : decode cX4_doParts 90 = .ok (.aload_n 0, 1) := by decide +kernel
theorem dX4_doParts_91 : decode cX4_doParts 91 = .ok (.getfield 36, 3) := by decide +kernel
theorem dX4_doParts_94 : decode cX4_doParts 94 = .ok (.iload_n 2, 1) := by decide +kernel
theorem dX4_doParts_95 : decode cX4_doParts 95 = .ok (.invokestatic 130, 3) := by decide +kernel
theorem dX4_doParts_98 : decode cX4_doParts 98 = .ok (.invokevirtual 329, 3) := by decide +kernel
theorem dX4_doParts_101 : decode cX4_doParts 101 = .ok (.pop, 1) := by decide +kernel
theorem dX4_doParts_102 : decode cX4_doParts 102 = .ok (.iinc 2 1, 3) := by decide +kernel
theorem dX4_doParts_105 : decode cX4_doParts 105 = .ok (.goto (-94), 3) := by decide +kernel
theorem dX4_doParts_108 : decode cX4_doParts 108 = .ok (.aload_n 0, 1) := by decide +kernel
theorem dX4_doParts_109 : decode cX4_doParts 109 = .ok (.getfield 10, 3) := by decide +kernel
theorem dX4_doParts_112 : decode cX4_doParts 112 = .ok (.iconst (-1), 1) := by decide +kernel
theorem dX4_doParts_113 : decode cX4_doParts 113 = .ok (.putfield 246, 3) := by decide +kernel
theorem dX4_doParts_116 : decode cX4_doParts 116 = .ok (.iload_n 1, 1) := by decide +kernel
theorem dX4_doParts_117 : decode cX4_doParts 117 = .ok (.ireturn, 1) := by decide +kernel
theorem dX4_partCanBeDone_0 : decode cX4_partCanBeDone 0 = .ok (.aload_n 0, 1) := by decide +kernel
theorem dX4_partCanBeDone_1 : decode cX4_partCanBeDone 1 = .ok (.getfield 32, 3) := by decide +kernel
theorem dX4_partCanBeDone_4 : decode cX4_partCanBeDone 4 = .ok (.getfield 338, 3) := by decide +kernel
theorem dX4_partCanBeDone_7 : decode cX4_partCanBeDone 7 = .ok (.lookupswitch 120 #[(102, 56), (103, 41), (109, 74), (112, 56)], 41) := by decide +kernel
theorem dX4_partCanBeDone_48 : decode cX4_partCanBeDone 48 = .ok (.aload_n 0, 1) := by decide +kernel
theorem dX4_partCanBeDone_49 : decode cX4_partCanBeDone 49 = .ok (.getfield 10, 3) := by decide +kernel
theorem dX4_partCanBeDone_52 : decode cX4_partCanBeDone 52 = .ok (.aload_n 0, 1) := by decide +kernel
theorem dX4_partCanBeDone_53 : decode cX4_partCanBeDone 53 = .ok (.getfield 32, 3) := by decide +kernel
theorem dX4_partCanBeDone_56 : decode cX4_partCanBeDone 56 = .ok (.getfield 342, 3) := by decide +kernel
theorem dX4_partCanBeDone_59 : decode cX4_partCanBeDone 59 = .ok (.invokevirtual 59, 3) := by decide +kernel
theorem dX4_partCanBeDone_62 : decode cX4_partCanBeDone 62 = .ok (.ireturn, 1) := by decide +kernel
theorem dX4_partCanBeDone_63 : decode cX4_partCanBeDone 63 = .ok (.aload_n 0, 1) := by decide +kernel
theorem dX4_partCanBeDone_64 : decode cX4_partCanBeDone 64 = .ok (.getfield 10, 3) := by decide +kernel
theorem dX4_partCanBeDone_67 : decode cX4_partCanBeDone 67 = .ok (.getfield 71, 3) := by decide +kernel
theorem dX4_partCanBeDone_70 : decode cX4_partCanBeDone 70 = .ok (.aload_n 0, 1) := by decide +kernel
theorem dX4_partCanBeDone_71 : decode cX4_partCanBeDone 71 = .ok (.getfield 32, 3) := by decide +kernel
theorem dX4_partCanBeDone_74 : decode cX4_partCanBeDone 74 = .ok (.getfield 342, 3) := by decide +kernel
theorem dX4_partCanBeDone_77 : decode cX4_partCanBeDone 77 = .ok (.invokevirtual 86, 3) := by decide +kernel
theorem dX4_partCanBeDone_80 : decode cX4_partCanBeDone 80 = .ok (.ireturn, 1) := by decide +kernel
theorem dX4_partCanBeDone_81 : decode cX4_partCanBeDone 81 = .ok (.aload_n 0, 1) := by decide +kernel
theorem dX4_partCanBeDone_82 : decode cX4_partCanBeDone 82 = .ok (.getfield 10, 3) := by decide +kernel
theorem dX4_partCanBeDone_85 : decode cX4_partCanBeDone 85 = .ok (.getfield 71, 3) := by decide +kernel
theorem dX4_partCanBeDone_88 : decode cX4_partCanBeDone 88 = .ok (.aload_n 0, 1) := by decide +kernel
theorem dX4_partCanBeDone_89 : decode cX4_partCanBeDone 89 = .ok (.getfield 32, 3) := by decide +kernel
theorem dX4_partCanBeDone_92 : decode cX4_partCanBeDone 92 = .ok (.getfield 345, 3) := by decide +kernel
theorem dX4_partCanBeDone_95 : decode cX4_partCanBeDone 95 = .ok (.invokevirtual 86, 3) := by decide +kernel
theorem dX4_partCanBeDone_98 : decode cX4_partCanBeDone 98 = .ok (.ifCond .eq 27, 3) := by decide +kernel
theorem dX4_partCanBeDone_101 : decode cX4_partCanBeDone 101 = .ok (.aload_n 0, 1) := by decide +kernel
theorem dX4_partCanBeDone_102 : decode cX4_partCanBeDone 102 = .ok (.getfield 10, 3) := by decide +kernel
theorem dX4_partCanBeDone_105 : decode cX4_partCanBeDone 105 = .ok (.getfield 71, 3) := by decide +kernel
theorem dX4_partCanBeDone_108 : decode cX4_partCanBeDone 108 = .ok (.aload_n 0, 1) := by decide +kernel
theorem dX4_partCanBeDone_109 : decode cX4_partCanBeDone 109 = .ok (.getfield 32, 3) := by decide +kernel
theorem dX4_partCanBeDone_112 : decode cX4_partCanBeDone 112 = .ok (.getfield 342, 3) := by decide +kernel
theorem dX4_partCanBeDone_115 : decode cX4_partCanBeDone 115 = .ok (.invokevirtual 86, 3) := by decide +kernel
theorem dX4_partCanBeDone_118 : decode cX4_partCanBeDone 118 = .ok (.ifCond .eq 7, 3) := by decide +kernel
theorem dX4_partCanBeDone_121 : decode cX4_partCanBeDone 121 = .ok (.iconst 1, 1) := by decide +kernel
theorem dX4_partCanBeDone_122 : decode cX4_partCanBeDone 122 = .ok (.goto 4, 3) := by decide +kernel
theorem dX4_partCanBeDone_125 : decode cX4_partCanBeDone 125 = .ok (.iconst 0, 1) := by decide +kernel
theorem dX4_partCanBeDone_126 : decode cX4_partCanBeDone 126 = .ok (.ireturn, 1) := by decide +kernel
theorem dX4_partCanBeDone_127 : decode cX4_partCanBeDone 127 = .ok (.aload_n 0, 1) := by decide +kernel
theorem dX4_partCanBeDone_128 : decode cX4_partCanBeDone 128 = .ok (.getfield 10, 3) := by decide +kernel
theorem dX4_partCanBeDone_131 : decode cX4_partCanBeDone 131 = .ok (.invokevirtual 111, 3) := by decide +kernel
theorem dX4_partCanBeDone_134 : decode cX4_partCanBeDone 134 = .ok (.ifCond .ne 7, 3) := by decide +kernel
theorem dX4_partCanBeDone_137 : decode cX4_partCanBeDone 137 = .ok (.iconst 1, 1) := by decide +kernel
theorem dX4_partCanBeDone_138 : decode cX4_partCanBeDone 138 = .ok (.goto 4, 3) := by decide +kernel
theorem dX4_partCanBeDone_141 : decode cX4_partCanBeDone 141 = .ok (.iconst 0, 1) := by decide +kernel
theorem dX4_partCanBeDone_142 : decode cX4_partCanBeDone 142 = .ok (.ireturn, 1) := by decide +kernel
theorem dX4_doPart_0 : decode cX4_doPart 0 = .ok (.aload_n 0, 1) := by decide +kernel
theorem dX4_doPart_1 : decode cX4_doPart 1 = .ok (.getfield 32, 3) := by decide +kernel
theorem dX4_doPart_4 : decode cX4_doPart 4 = .ok (.getfield 338, 3) := by decide +kernel
theorem dX4_doPart_7 : decode cX4_doPart 7 = .ok (.lookupswitch 133 #[(102, 86), (103, 41), (109, 106), (112, 68)], 41) := by decide +kernel
theorem dX4_doPart_48 : decode cX4_doPart 48 = .ok (.aload_n 0, 1) := by decide +kernel
theorem dX4_doPart_49 : decode cX4_doPart 49 = .ok (.getfield 10, 3) := by decide +kernel
theorem dX4_doPart_52 : decode cX4_doPart 52 = .ok (.aload_n 0, 1) := by decide +kernel
theorem dX4_doPart_53 : decode cX4_doPart 53 = .ok (.getfield 10, 3) := by decide +kernel
theorem dX4_doPart_56 : decode cX4_doPart 56 = .ok (.getfield 71, 3) := by decide +kernel
theorem dX4_doPart_59 : decode cX4_doPart 59 = .ok (.getfield 75, 3) := by decide +kernel
theorem dX4_doPart_62 : decode cX4_doPart 62 = .ok (.aload_n 0, 1) := by decide +kernel
theorem dX4_doPart_63 : decode cX4_doPart 63 = .ok (.getfield 32, 3) := by decide +kernel
theorem dX4_doPart_66 : decode cX4_doPart 66 = .ok (.getfield 342, 3) := by decide +kernel
theorem dX4_doPart_69 : decode cX4_doPart 69 = .ok (.invokevirtual 80, 3) := by decide +kernel
theorem dX4_doPart_72 : decode cX4_doPart 72 = .ok (.goto 75, 3) := by decide +kernel
theorem dX4_doPart_75 : decode cX4_doPart 75 = .ok (.aload_n 0, 1) := by decide +kernel
theorem dX4_doPart_76 : decode cX4_doPart 76 = .ok (.getfield 10, 3) := by decide +kernel
theorem dX4_doPart_79 : decode cX4_doPart 79 = .ok (.aload_n 0, 1) := by decide +kernel
theorem dX4_doPart_80 : decode cX4_doPart 80 = .ok (.getfield 32, 3) := by decide +kernel
theorem dX4_doPart_83 : decode cX4_doPart 83 = .ok (.getfield 342, 3) := by decide +kernel
theorem dX4_doPart_86 : decode cX4_doPart 86 = .ok (.invokevirtual 91, 3) := by decide +kernel
theorem dX4_doPart_89 : decode cX4_doPart 89 = .ok (.pop, 1) := by decide +kernel
theorem dX4_doPart_90 : decode cX4_doPart 90 = .ok (.goto 57, 3) := by decide +kernel
theorem dX4_doPart_93 : decode cX4_doPart 93 = .ok (.aload_n 0, 1) := by decide +kernel
theorem dX4_doPart_94 : decode cX4_doPart 94 = .ok (.getfield 10, 3) := by decide +kernel
theorem dX4_doPart_97 : decode cX4_doPart 97 = .ok (.getfield 71, 3) := by decide +kernel
theorem dX4_doPart_100 : decode cX4_doPart 100 = .ok (.aload_n 0, 1) := by decide +kernel
theorem dX4_doPart_101 : decode cX4_doPart 101 = .ok (.getfield 32, 3) := by decide +kernel
theorem dX4_doPart_104 : decode cX4_doPart 104 = .ok (.getfield 342, 3) := by decide +kernel
theorem dX4_doPart_107 : decode cX4_doPart 107 = .ok (.invokevirtual 95, 3) := by decide +kernel
theorem dX4_doPart_110 : decode cX4_doPart 110 = .ok (.goto 37, 3) := by decide +kernel
theorem dX4_doPart_113 : decode cX4_doPart 113 = .ok (.aload_n 0, 1) := by decide +kernel
theorem dX4_doPart_114 : decode cX4_doPart 114 = .ok (.getfield 10, 3) := by decide +kernel
theorem dX4_doPart_117 : decode cX4_doPart 117 = .ok (.getfield 71, 3) := by decide +kernel
theorem dX4_doPart_120 : decode cX4_doPart 120 = .ok (.aload_n 0, 1) := by decide +kernel
theorem dX4_doPart_121 : decode cX4_doPart 121 = .ok (.getfield 32, 3) := by decide +kernel
theorem dX4_doPart_124 : decode cX4_doPart 124 = .ok (.getfield 345, 3) := by decide +kernel
theorem dX4_doPart_127 : decode cX4_doPart 127 = .ok (.aload_n 0, 1) := by decide +kernel
theorem dX4_doPart_128 : decode cX4_doPart 128 = .ok (.getfield 32, 3) := by decide +kernel
theorem dX4_doPart_131 : decode cX4_doPart 131 = .ok (.getfield 342, 3) := by decide +kernel
theorem dX4_doPart_134 : decode cX4_doPart 134 = .ok (.invokevirtual 104, 3) := by decide +kernel
theorem dX4_doPart_137 : decode cX4_doPart 137 = .ok (.goto 10, 3) := by decide +kernel
theorem dX4_doPart_140 : decode cX4_doPart 140 = .ok (.aload_n 0, 1) := by decide +kernel
theorem dX4_doPart_141 : decode cX4_doPart 141 = .ok (.getfield 10, 3) := by decide +kernel
theorem dX4_doPart_144 : decode cX4_doPart 144 = .ok (.invokevirtual 116, 3) := by decide +kernel
theorem dX4_doPart_147 : decode cX4_doPart 147 = .ok (.return_, 1) := by decide +kernel
theorem dX4_hashWith_0 : decode cX4_hashWith 0 = .ok (.ldc2_w 348, 3) := by decide +kernel
theorem dX4_hashWith_3 : decode cX4_hashWith 3 = .ok (.lload_n 0, 1) := by decide +kernel
theorem dX4_hashWith_4 : decode cX4_hashWith 4 = .ok (.lmul, 1) := by decide +kernel
theorem dX4_hashWith_5 : decode cX4_hashWith 5 = .ok (.lload_n 2, 1) := by decide +kernel
theorem dX4_hashWith_6 : decode cX4_hashWith 6 = .ok (.ladd, 1) := by decide +kernel
theorem dX4_hashWith_7 : decode cX4_hashWith 7 = .ok (.lreturn, 1) := by decide +kernel
theorem dX4_hashWithBuffer_0 : decode cX4_hashWithBuffer 0 = .ok (.lload_n 1, 1) := by decide +kernel
theorem dX4_hashWithBuffer_1 : decode cX4_hashWithBuffer 1 = .ok (.aload_n 0, 1) := by decide +kernel
theorem dX4_hashWithBuffer_2 : decode cX4_hashWithBuffer 2 = .ok (.getfield 40, 3) := by decide +kernel
theorem dX4_hashWithBuffer_5 : decode cX4_hashWithBuffer 5 = .ok (.i2l, 1) := by decide +kernel
theorem dX4_hashWithBuffer_6 : decode cX4_hashWithBuffer 6 = .ok (.invokestatic 284, 3) := by decide +kernel
theorem dX4_hashWithBuffer_9 : decode cX4_hashWithBuffer 9 = .ok (.lstore_n 3, 1) := by decide +kernel
theorem dX4_hashWithBuffer_10 : decode cX4_hashWithBuffer 10 = .ok (.iconst 0, 1) := by decide +kernel
theorem dX4_hashWithBuffer_11 : decode cX4_hashWithBuffer 11 = .ok (.istore 5, 2) := by decide +kernel
theorem dX4_hashWithBuffer_13 : decode cX4_hashWithBuffer 13 = .ok (.iload 5, 2) := by decide +kernel
theorem dX4_hashWithBuffer_15 : decode cX4_hashWithBuffer 15 = .ok (.aload_n 0, 1) := by decide +kernel
theorem dX4_hashWithBuffer_16 : decode cX4_hashWithBuffer 16 = .ok (.getfield 40, 3) := by decide +kernel
theorem dX4_hashWithBuffer_19 : decode cX4_hashWithBuffer 19 = .ok (.if_icmp .ge 24, 3) := by decide +kernel
theorem dX4_hashWithBuffer_22 : decode cX4_hashWithBuffer 22 = .ok (.lload_n 3, 1) := by decide +kernel
theorem dX4_hashWithBuffer_23 : decode cX4_hashWithBuffer 23 = .ok (.aload_n 0, 1) := by decide +kernel
theorem dX4_hashWithBuffer_24 : decode cX4_hashWithBuffer 24 = .ok (.getfield 36, 3) := by decide +kernel
theorem dX4_hashWithBuffer_27 : decode cX4_hashWithBuffer 27 = .ok (.iload 5, 2) := by decide +kernel
theorem dX4_hashWithBuffer_29 : decode cX4_hashWithBuffer 29 = .ok (.invokestatic 130, 3) := by decide +kernel
theorem dX4_hashWithBuffer_32 : decode cX4_hashWithBuffer 32 = .ok (.i2l, 1) := by decide +kernel
theorem dX4_hashWithBuffer_33 : decode cX4_hashWithBuffer 33 = .ok (.invokestatic 284, 3) := by decide +kernel
theorem dX4_hashWithBuffer_36 : decode cX4_hashWithBuffer 36 = .ok (.lstore_n 3, 1) := by decide +kernel
theorem dX4_hashWithBuffer_37 : decode cX4_hashWithBuffer 37 = .ok (.iinc 5 1, 3) := by decide +kernel
theorem dX4_hashWithBuffer_40 : decode cX4_hashWithBuffer 40 = .ok (.goto (-27), 3) := by decide +kernel
theorem dX4_hashWithBuffer_43 : decode cX4_hashWithBuffer 43 = .ok (.lload_n 3, 1) := by decide +kernel
theorem dX4_hashWithBuffer_44 : decode cX4_hashWithBuffer 44 = .ok (.lreturn, 1) := by decide +kernel
theorem dX4_bitsOfDouble_0 : decode cX4_bitsOfDouble 0 = .ok (.dload_n 0, 1) := by decide +kernel
theorem dX4_bitsOfDouble_1 : decode cX4_bitsOfDouble 1 = .ok (.dconst 0, 1) := by decide +kernel
theorem dX4_bitsOfDouble_2 : decode cX4_bitsOfDouble 2 = .ok (.dcmp .l, 1) := by decide +kernel
theorem dX4_bitsOfDouble_3 : decode cX4_bitsOfDouble 3 = .ok (.ifCond .gt 5, 3) := by decide +kernel
theorem dX4_bitsOfDouble_6 : decode cX4_bitsOfDouble 6 = .ok (.lconst 0, 1) := by decide +kernel
theorem dX4_bitsOfDouble_7 : decode cX4_bitsOfDouble 7 = .ok (.lreturn, 1) := by decide +kernel
theorem dX4_bitsOfDouble_8 : decode cX4_bitsOfDouble 8 = .ok (.dload_n 0, 1) := by decide +kernel
theorem dX4_bitsOfDouble_9 : decode cX4_bitsOfDouble 9 = .ok (.dstore_n 2, 1) := by decide +kernel
theorem dX4_bitsOfDouble_10 : decode cX4_bitsOfDouble 10 = .ok (.iconst 0, 1) := by decide +kernel
theorem dX4_bitsOfDouble_11 : decode cX4_bitsOfDouble 11 = .ok (.istore 4, 2) := by decide +kernel
theorem dX4_bitsOfDouble_13 : decode cX4_bitsOfDouble 13 = .ok (.dload_n 2, 1) := by decide +kernel
theorem dX4_bitsOfDouble_14 : decode cX4_bitsOfDouble 14 = .ok (.ldc2_w 350, 3) := by decide +kernel
theorem dX4_bitsOfDouble_17 : decode cX4_bitsOfDouble 17 = .ok (.dcmp .l, 1) := by decide +kernel
theorem dX4_bitsOfDouble_18 : decode cX4_bitsOfDouble 18 = .ok (.ifCond .lt 23, 3) := by decide +kernel
theorem dX4_bitsOfDouble_21 : decode cX4_bitsOfDouble 21 = .ok (.iload 4, 2) := by decide +kernel
theorem dX4_bitsOfDouble_23 : decode cX4_bitsOfDouble 23 = .ok (.sipush 1023, 3) := by decide +kernel
theorem dX4_bitsOfDouble_26 : decode cX4_bitsOfDouble 26 = .ok (.if_icmp .ge 15, 3) := by decide +kernel
theorem dX4_bitsOfDouble_29 : decode cX4_bitsOfDouble 29 = .ok (.dload_n 2, 1) := by decide +kernel
theorem dX4_bitsOfDouble_30 : decode cX4_bitsOfDouble 30 = .ok (.ldc2_w 350, 3) := by decide +kernel
theorem dX4_bitsOfDouble_33 : decode cX4_bitsOfDouble 33 = .ok (.ddiv, 1) := by decide +kernel
theorem dX4_bitsOfDouble_34 : decode cX4_bitsOfDouble 34 = .ok (.dstore_n 2, 1) := by decide +kernel
theorem dX4_bitsOfDouble_35 : decode cX4_bitsOfDouble 35 = .ok (.iinc 4 1, 3) := by decide +kernel
theorem dX4_bitsOfDouble_38 : decode cX4_bitsOfDouble 38 = .ok (.goto (-25), 3) := by decide +kernel
theorem dX4_bitsOfDouble_41 : decode cX4_bitsOfDouble 41 = .ok (.dload_n 2, 1) := by decide +kernel
theorem dX4_bitsOfDouble_42 : decode cX4_bitsOfDouble 42 = .ok (.dconst 1, 1) := by decide +kernel
theorem dX4_bitsOfDouble_43 : decode cX4_bitsOfDouble 43 = .ok (.dcmp .g, 1) := by decide +kernel
theorem dX4_bitsOfDouble_44 : decode cX4_bitsOfDouble 44 = .ok (.ifCond .ge 23, 3) := by decide +kernel
theorem dX4_bitsOfDouble_47 : decode cX4_bitsOfDouble 47 = .ok (.iload 4, 2) := by decide +kernel
theorem dX4_bitsOfDouble_49 : decode cX4_bitsOfDouble 49 = .ok (.sipush (-1022), 3) := by decide +kernel
theorem dX4_bitsOfDouble_52 : decode cX4_bitsOfDouble 52 = .ok (.if_icmp .le 15, 3) := by decide +kernel
theorem dX4_bitsOfDouble_55 : decode cX4_bitsOfDouble 55 = .ok (.dload_n 2, 1) := by decide +kernel
theorem dX4_bitsOfDouble_56 : decode cX4_bitsOfDouble 56 = .ok (.ldc2_w 350, 3) := by decide +kernel
theorem dX4_bitsOfDouble_59 : decode cX4_bitsOfDouble 59 = .ok (.dmul, 1) := by decide +kernel
theorem dX4_bitsOfDouble_60 : decode cX4_bitsOfDouble 60 = .ok (.dstore_n 2, 1) := by decide +kernel
theorem dX4_bitsOfDouble_61 : decode cX4_bitsOfDouble 61 = .ok (.iinc 4 (-1), 3) := by decide +kernel
theorem dX4_bitsOfDouble_64 : decode cX4_bitsOfDouble 64 = .ok (.goto (-23), 3) := by decide +kernel
theorem dX4_bitsOfDouble_67 : decode cX4_bitsOfDouble 67 = .ok (.dload_n 2, 1) := by decide +kernel
theorem dX4_bitsOfDouble_68 : decode cX4_bitsOfDouble 68 = .ok (.dconst 1, 1) := by decide +kernel
theorem dX4_bitsOfDouble_69 : decode cX4_bitsOfDouble 69 = .ok (.dsub, 1) := by decide +kernel
theorem dX4_bitsOfDouble_70 : decode cX4_bitsOfDouble 70 = .ok (.ldc2_w 352, 3) := by decide +kernel
theorem dX4_bitsOfDouble_73 : decode cX4_bitsOfDouble 73 = .ok (.dmul, 1) := by decide +kernel
theorem dX4_bitsOfDouble_74 : decode cX4_bitsOfDouble 74 = .ok (.d2l, 1) := by decide +kernel
theorem dX4_bitsOfDouble_75 : decode cX4_bitsOfDouble 75 = .ok (.lstore 5, 2) := by decide +kernel
theorem dX4_bitsOfDouble_77 : decode cX4_bitsOfDouble 77 = .ok (.iload 4, 2) := by decide +kernel
theorem dX4_bitsOfDouble_79 : decode cX4_bitsOfDouble 79 = .ok (.sipush 1023, 3) := by decide +kernel
theorem dX4_bitsOfDouble_82 : decode cX4_bitsOfDouble 82 = .ok (.iadd, 1) := by decide +kernel
theorem dX4_bitsOfDouble_83 : decode cX4_bitsOfDouble 83 = .ok (.i2l, 1) := by decide +kernel
theorem dX4_bitsOfDouble_84 : decode cX4_bitsOfDouble 84 = .ok (.bipush 52, 2) := by decide +kernel
theorem dX4_bitsOfDouble_86 : decode cX4_bitsOfDouble 86 = .ok (.lshl, 1) := by decide +kernel
theorem dX4_bitsOfDouble_87 : decode cX4_bitsOfDouble 87 = .ok (.lload 5, 2) := by decide +kernel
theorem dX4_bitsOfDouble_89 : decode cX4_bitsOfDouble 89 = .ok (.ladd, 1) := by decide +kernel
theorem dX4_bitsOfDouble_90 : decode cX4_bitsOfDouble 90 = .ok (.lreturn, 1) := by decide +kernel
theorem dX4_bitsOfFloat_0 : decode cX4_bitsOfFloat 0 = .ok (.fload_n 0, 1) := by decide +kernel
theorem dX4_bitsOfFloat_1 : decode cX4_bitsOfFloat 1 = .ok (.fconst 0, 1) := by decide +kernel
theorem dX4_bitsOfFloat_2 : decode cX4_bitsOfFloat 2 = .ok (.fcmp .l, 1) := by decide +kernel
theorem dX4_bitsOfFloat_3 : decode cX4_bitsOfFloat 3 = .ok (.ifCond .gt 5, 3) := by decide +kernel
theorem dX4_bitsOfFloat_6 : decode cX4_bitsOfFloat 6 = .ok (.iconst 0, 1) := by decide +kernel
theorem dX4_bitsOfFloat_7 : decode cX4_bitsOfFloat 7 = .ok (.ireturn, 1) := by decide +kernel
theorem dX4_bitsOfFloat_8 : decode cX4_bitsOfFloat 8 = .ok (.fload_n 0, 1) := by decide +kernel
theorem dX4_bitsOfFloat_9 : decode cX4_bitsOfFloat 9 = .ok (.f2d, 1) := by decide +kernel
theorem dX4_bitsOfFloat_10 : decode cX4_bitsOfFloat 10 = .ok (.invokestatic 310, 3) := by decide +kernel
theorem dX4_bitsOfFloat_13 : decode cX4_bitsOfFloat 13 = .ok (.lstore_n 1, 1) := by decide +kernel
theorem dX4_bitsOfFloat_14 : decode cX4_bitsOfFloat 14 = .ok (.lload_n 1, 1) := by decide +kernel
theorem dX4_bitsOfFloat_15 : decode cX4_bitsOfFloat 15 = .ok (.bipush 29, 2) := by decide +kernel
theorem dX4_bitsOfFloat_17 : decode cX4_bitsOfFloat 17 = .ok (.lshr, 1) := by decide +kernel
theorem dX4_bitsOfFloat_18 : decode cX4_bitsOfFloat 18 = .ok (.ldc2_w 354, 3) := by decide +kernel
theorem dX4_bitsOfFloat_21 : decode cX4_bitsOfFloat 21 = .ok (.lsub, 1) := by decide +kernel
theorem dX4_bitsOfFloat_22 : decode cX4_bitsOfFloat 22 = .ok (.l2i, 1) := by decide +kernel
theorem dX4_bitsOfFloat_23 : decode cX4_bitsOfFloat 23 = .ok (.ireturn, 1) := by decide +kernel
theorem dX4_isBin_0 : decode cX4_isBin 0 = .ok (.iload_n 0, 1) := by decide +kernel
theorem dX4_isBin_1 : decode cX4_isBin 1 = .ok (.ifCond .lt 13, 3) := by decide +kernel
theorem dX4_isBin_4 : decode cX4_isBin 4 = .ok (.iload_n 0, 1) := by decide +kernel
theorem dX4_isBin_5 : decode cX4_isBin 5 = .ok (.bipush 16, 2) := by decide +kernel
theorem dX4_isBin_7 : decode cX4_isBin 7 = .ok (.if_icmp .ge 7, 3) := by decide +kernel
theorem dX4_isBin_10 : decode cX4_isBin 10 = .ok (.iconst 1, 1) := by decide +kernel
theorem dX4_isBin_11 : decode cX4_isBin 11 = .ok (.goto 4, 3) := by decide +kernel
theorem dX4_isBin_14 : decode cX4_isBin 14 = .ok (.iconst 0, 1) := by decide +kernel
theorem dX4_isBin_15 : decode cX4_isBin 15 = .ok (.ireturn, 1) := by decide +kernel
theorem dX4_isSetting_0 : decode cX4_isSetting 0 = .ok (.iload_n 0, 1) := by decide +kernel
theorem dX4_isSetting_1 : decode cX4_isSetting 1 = .ok (.ifCond .lt 12, 3) := by decide +kernel
theorem dX4_isSetting_4 : decode cX4_isSetting 4 = .ok (.iload_n 0, 1) := by decide +kernel
theorem dX4_isSetting_5 : decode cX4_isSetting 5 = .ok (.iconst 3, 1) := by decide +kernel
theorem dX4_isSetting_6 : decode cX4_isSetting 6 = .ok (.if_icmp .ge 7, 3) := by decide +kernel
theorem dX4_isSetting_9 : decode cX4_isSetting 9 = .ok (.iconst 1, 1) := by decide +kernel
theorem dX4_isSetting_10 : decode cX4_isSetting 10 = .ok (.goto 4, 3) := by decide +kernel
theorem dX4_isSetting_13 : decode cX4_isSetting 13 = .ok (.iconst 0, 1) := by decide +kernel
theorem dX4_isSetting_14 : decode cX4_isSetting 14 = .ok (.ireturn, 1) := by decide +kernel
theorem dX4_at_0 : decode cX4_at 0 = .ok (.aload_n 0, 1) := by decide +kernel
theorem dX4_at_1 : decode cX4_at 1 = .ok (.ifnull 19, 3) := by decide +kernel
theorem dX4_at_4 : decode cX4_at 4 = .ok (.iload_n 1, 1) := by decide +kernel
theorem dX4_at_5 : decode cX4_at 5 = .ok (.ifCond .lt 15, 3) := by decide +kernel
theorem dX4_at_8 : decode cX4_at 8 = .ok (.iload_n 1, 1) := by decide +kernel
theorem dX4_at_9 : decode cX4_at 9 = .ok (.aload_n 0, 1) := by decide +kernel
theorem dX4_at_10 : decode cX4_at 10 = .ok (.arraylength, 1) := by decide +kernel
theorem dX4_at_11 : decode cX4_at 11 = .ok (.if_icmp .ge 9, 3) := by decide +kernel
theorem dX4_at_14 : decode cX4_at 14 = .ok (.aload_n 0, 1) := by decide +kernel
theorem dX4_at_15 : decode cX4_at 15 = .ok (.iload_n 1, 1) := by decide +kernel
theorem dX4_at_16 : decode cX4_at 16 = .ok (.iaload, 1) := by decide +kernel
theorem dX4_at_17 : decode cX4_at 17 = .ok (.goto 4, 3) := by decide +kernel
theorem dX4_at_20 : decode cX4_at 20 = .ok (.iconst 0, 1) := by decide +kernel
theorem dX4_at_21 : decode cX4_at 21 = .ok (.ireturn, 1) := by decide +kernel
theorem dX4_put_0 : decode cX4_put 0 = .ok (.aload_n 0, 1) := by decide +kernel
theorem dX4_put_1 : decode cX4_put 1 = .ok (.ifnull 17, 3) := by decide +kernel
theorem dX4_put_4 : decode cX4_put 4 = .ok (.iload_n 1, 1) := by decide +kernel
theorem dX4_put_5 : decode cX4_put 5 = .ok (.ifCond .lt 13, 3) := by decide +kernel
theorem dX4_put_8 : decode cX4_put 8 = .ok (.iload_n 1, 1) := by decide +kernel
theorem dX4_put_9 : decode cX4_put 9 = .ok (.aload_n 0, 1) := by decide +kernel
theorem dX4_put_10 : decode cX4_put 10 = .ok (.arraylength, 1) := by decide +kernel
theorem dX4_put_11 : decode cX4_put 11 = .ok (.if_icmp .ge 7, 3) := by decide +kernel
theorem dX4_put_14 : decode cX4_put 14 = .ok (.aload_n 0, 1) := by decide +kernel
theorem dX4_put_15 : decode cX4_put 15 = .ok (.iload_n 1, 1) := by decide +kernel
theorem dX4_put_16 : decode cX4_put 16 = .ok (.iload_n 2, 1) := by decide +kernel
theorem dX4_put_17 : decode cX4_put 17 = .ok (.iastore, 1) := by decide +kernel
theorem dX4_put_18 : decode cX4_put 18 = .ok (.return_, 1) := by decide +kernel
theorem dX4_addTo_0 : decode cX4_addTo 0 = .ok (.aload_n 0, 1) := by decide +kernel
theorem dX4_addTo_1 : decode cX4_addTo 1 = .ok (.iload_n 1, 1) := by decide +kernel
theorem dX4_addTo_2 : decode cX4_addTo 2 = .ok (.aload_n 0, 1) := by decide +kernel
theorem dX4_addTo_3 : decode cX4_addTo 3 = .ok (.iload_n 1, 1) := by decide +kernel
theorem dX4_addTo_4 : decode cX4_addTo 4 = .ok (.invokestatic 130, 3) := by decide +kernel
theorem dX4_addTo_7 : decode cX4_addTo 7 = .ok (.iload_n 2, 1) := by decide +kernel
theorem dX4_addTo_8 : decode cX4_addTo 8 = .ok (.iadd, 1) := by decide +kernel
theorem dX4_addTo_9 : decode cX4_addTo 9 = .ok (.invokestatic 148, 3) := by decide +kernel
theorem dX4_addTo_12 : decode cX4_addTo 12 = .ok (.return_, 1) := by decide +kernel
theorem dX4_copyRow_0 : decode cX4_copyRow 0 = .ok (.aload_n 0, 1) := by decide +kernel
theorem dX4_copyRow_1 : decode cX4_copyRow 1 = .ok (.ifnull 21, 3) := by decide +kernel
theorem dX4_copyRow_4 : decode cX4_copyRow 4 = .ok (.aload_n 1, 1) := by decide +kernel
theorem dX4_copyRow_5 : decode cX4_copyRow 5 = .ok (.ifnull 17, 3) := by decide +kernel
theorem dX4_copyRow_8 : decode cX4_copyRow 8 = .ok (.aload_n 0, 1) := by decide +kernel
theorem dX4_copyRow_9 : decode cX4_copyRow 9 = .ok (.iconst 0, 1) := by decide +kernel
theorem dX4_copyRow_10 : decode cX4_copyRow 10 = .ok (.aload_n 1, 1) := by decide +kernel
theorem dX4_copyRow_11 : decode cX4_copyRow 11 = .ok (.iconst 0, 1) := by decide +kernel
theorem dX4_copyRow_12 : decode cX4_copyRow 12 = .ok (.aload_n 0, 1) := by decide +kernel
theorem dX4_copyRow_13 : decode cX4_copyRow 13 = .ok (.arraylength, 1) := by decide +kernel
theorem dX4_copyRow_14 : decode cX4_copyRow 14 = .ok (.aload_n 1, 1) := by decide +kernel
theorem dX4_copyRow_15 : decode cX4_copyRow 15 = .ok (.arraylength, 1) := by decide +kernel
theorem dX4_copyRow_16 : decode cX4_copyRow 16 = .ok (.invokestatic 274, 3) := by decide +kernel
theorem dX4_copyRow_19 : decode cX4_copyRow 19 = .ok (.invokestatic 356, 3) := by decide +kernel
theorem dX4_copyRow_22 : decode cX4_copyRow 22 = .ok (.return_, 1) := by decide +kernel
theorem dX5_init_0 : decode cX5_init 0 = .ok (.aload_n 0, 1) := by decide +kernel
theorem dX5_init_1 : decode cX5_init 1 = .ok (.invokespecial 1, 3) := by decide +kernel
theorem dX5_init_4 : decode cX5_init 4 = .ok (.aload_n 0, 1) := by decide +kernel
theorem dX5_init_5 : decode cX5_init 5 = .ok (.sipush 880, 3) := by decide +kernel
theorem dX5_init_8 : decode cX5_init 8 = .ok (.newarray .int, 2) := by decide +kernel
theorem dX5_init_10 : decode cX5_init 10 = .ok (.putfield 7, 3) := by decide +kernel
theorem dX5_init_13 : decode cX5_init 13 = .ok (.aload_n 0, 1) := by decide +kernel
theorem dX5_init_14 : decode cX5_init 14 = .ok (.bipush 60, 2) := by decide +kernel
theorem dX5_init_16 : decode cX5_init 16 = .ok (.newarray .int, 2) := by decide +kernel
theorem dX5_init_18 : decode cX5_init 18 = .ok (.putfield 13, 3) := by decide +kernel
theorem dX5_init_21 : decode cX5_init 21 = .ok (.aload_n 0, 1) := by decide +kernel
theorem dX5_init_22 : decode cX5_init 22 = .ok (.bipush 21, 2) := by decide +kernel
theorem dX5_init_24 : decode cX5_init 24 = .ok (.newarray .int, 2) := by decide +kernel
theorem dX5_init_26 : decode cX5_init 26 = .ok (.putfield 16, 3) := by decide +kernel
theorem dX5_init_29 : decode cX5_init 29 = .ok (.aload_n 0, 1) := by decide +kernel
theorem dX5_init_30 : decode cX5_init 30 = .ok (.bipush 21, 2) := by decide +kernel
theorem dX5_init_32 : decode cX5_init 32 = .ok (.newarray .int, 2) := by decide +kernel
theorem dX5_init_34 : decode cX5_init 34 = .ok (.putfield 19, 3) := by decide +kernel
theorem dX5_init_37 : decode cX5_init 37 = .ok (.aload_n 0, 1) := by decide +kernel
theorem dX5_init_38 : decode cX5_init 38 = .ok (.bipush 21, 2) := by decide +kernel
theorem dX5_init_40 : decode cX5_init 40 = .ok (.newarray .int, 2) := by decide +kernel
theorem dX5_init_42 : decode cX5_init 42 = .ok (.putfield 22, 3) := by decide +kernel
theorem dX5_init_45 : decode cX5_init 45 = .ok (.aload_n 0, 1) := by decide +kernel
theorem dX5_init_46 : decode cX5_init 46 = .ok (.getfield 7, 3) := by decide +kernel
theorem dX5_init_49 : decode cX5_init 49 = .ok (.iconst 0, 1) := by decide +kernel
theorem dX5_init_50 : decode cX5_init 50 = .ok (.bipush 8, 2) := by decide +kernel
theorem dX5_init_52 : decode cX5_init 52 = .ok (.iastore, 1) := by decide +kernel
theorem dX5_init_53 : decode cX5_init 53 = .ok (.aload_n 0, 1) := by decide +kernel
theorem dX5_init_54 : decode cX5_init 54 = .ok (.getfield 7, 3) := by decide +kernel
theorem dX5_init_57 : decode cX5_init 57 = .ok (.iconst 1, 1) := by decide +kernel
theorem dX5_init_58 : decode cX5_init 58 = .ok (.iconst 5, 1) := by decide +kernel
theorem dX5_init_59 : decode cX5_init 59 = .ok (.iastore, 1) := by decide +kernel
theorem dX5_init_60 : decode cX5_init 60 = .ok (.aload_n 0, 1) := by decide +kernel
theorem dX5_init_61 : decode cX5_init 61 = .ok (.getfield 7, 3) := by decide +kernel
theorem dX5_init_64 : decode cX5_init 64 = .ok (.iconst 2, 1) := by decide +kernel
theorem dX5_init_65 : decode cX5_init 65 = .ok (.iconst 2, 1) := by decide +kernel
theorem dX5_init_66 : decode cX5_init 66 = .ok (.iastore, 1) := by decide +kernel
theorem dX5_init_67 : decode cX5_init 67 = .ok (.aload_n 0, 1) := by decide +kernel
theorem dX5_init_68 : decode cX5_init 68 = .ok (.getfield 7, 3) := by decide +kernel
theorem dX5_init_71 : decode cX5_init 71 = .ok (.iconst 5, 1) := by decide +kernel
theorem dX5_init_72 : decode cX5_init 72 = .ok (.iconst (-1), 1) := by decide +kernel
theorem dX5_init_73 : decode cX5_init 73 = .ok (.iastore, 1) := by decide +kernel
theorem dX5_init_74 : decode cX5_init 74 = .ok (.iconst 0, 1) := by decide +kernel
theorem dX5_init_75 : decode cX5_init 75 = .ok (.istore_n 1, 1) := by decide +kernel
theorem dX5_init_76 : decode cX5_init 76 = .ok (.iload_n 1, 1) := by decide +kernel
theorem dX5_init_77 : decode cX5_init 77 = .ok (.bipush 16, 2) := by decide +kernel
theorem dX5_init_79 : decode cX5_init 79 = .ok (.if_icmp .ge 40, 3) := by decide +kernel
theorem dX5_init_82 : decode cX5_init 82 = .ok (.aload_n 0, 1) := by decide +kernel
theorem dX5_init_83 : decode cX5_init 83 = .ok (.getfield 7, 3) := by decide +kernel
theorem dX5_init_86 : decode cX5_init 86 = .ok (.bipush 6, 2) := by decide +kernel
theorem dX5_init_88 : decode cX5_init 88 = .ok (.iload_n 1, 1) := by decide +kernel
theorem dX5_init_89 : decode cX5_init 89 = .ok (.iadd, 1) := by decide +kernel
theorem dX5_init_90 : decode cX5_init 90 = .ok (.iconst 2, 1) := by decide +kernel
theorem dX5_init_91 : decode cX5_init 91 = .ok (.iastore, 1) := by decide +kernel
theorem dX5_init_92 : decode cX5_init 92 = .ok (.aload_n 0, 1) := by decide +kernel
theorem dX5_init_93 : decode cX5_init 93 = .ok (.getfield 7, 3) := by decide +kernel
theorem dX5_init_96 : decode cX5_init 96 = .ok (.bipush 38, 2) := by decide +kernel
theorem dX5_init_98 : decode cX5_init 98 = .ok (.iload_n 1, 1) := by decide +kernel
theorem dX5_init_99 : decode cX5_init 99 = .ok (.iadd, 1) := by decide +kernel
theorem dX5_init_100 : decode cX5_init 100 = .ok (.iconst 2, 1) := by decide +kernel
theorem dX5_init_101 : decode cX5_init 101 = .ok (.iastore, 1) := by decide +kernel
theorem dX5_init_102 : decode cX5_init 102 = .ok (.aload_n 0, 1) := by decide +kernel
theorem dX5_init_103 : decode cX5_init 103 = .ok (.getfield 7, 3) := by decide +kernel
theorem dX5_init_106 : decode cX5_init 106 = .ok (.bipush 54, 2) := by decide +kernel
theorem dX5_init_108 : decode cX5_init 108 = .ok (.iload_n 1, 1) := by decide +kernel
theorem dX5_init_109 : decode cX5_init 109 = .ok (.iadd, 1) := by decide +kernel
theorem dX5_init_110 : decode cX5_init 110 = .ok (.bipush 31, 2) := by decide +kernel
theorem dX5_init_112 : decode cX5_init 112 = .ok (.iastore, 1) := by decide +kernel
theorem dX5_init_113 : decode cX5_init 113 = .ok (.iinc 1 1, 3) := by decide +kernel
theorem dX5_init_116 : decode cX5_init 116 = .ok (.goto (-40), 3) := by decide +kernel
theorem dX5_init_119 : decode cX5_init 119 = .ok (.return_, 1) := by decide +kernel
theorem dX5_thrown_0 : decode cX5_thrown 0 = .ok (.aload_n 0, 1) := by decide +kernel
theorem dX5_thrown_1 : decode cX5_thrown 1 = .ok (.getfield 25, 3) := by decide +kernel
theorem dX5_thrown_4 : decode cX5_thrown 4 = .ok (.ireturn, 1) := by decide +kernel
theorem dX5_in_0 : decode cX5_in 0 = .ok (.iload_n 0, 1) := by decide +kernel
theorem dX5_in_1 : decode cX5_in 1 = .ok (.iload_n 1, 1) := by decide +kernel
theorem dX5_in_2 : decode cX5_in 2 = .ok (.if_icmp .lt 12, 3) := by decide +kernel
theorem dX5_in_5 : decode cX5_in 5 = .ok (.iload_n 0, 1) := by decide +kernel
theorem dX5_in_6 : decode cX5_in 6 = .ok (.iload_n 2, 1) := by decide +kernel
theorem dX5_in_7 : decode cX5_in 7 = .ok (.if_icmp .gt 7, 3) := by decide +kernel
theorem dX5_in_10 : decode cX5_in 10 = .ok (.iconst 1, 1) := by decide +kernel
theorem dX5_in_11 : decode cX5_in 11 = .ok (.goto 4, 3) := by decide +kernel
theorem dX5_in_14 : decode cX5_in 14 = .ok (.iconst 0, 1) := by decide +kernel
theorem dX5_in_15 : decode cX5_in 15 = .ok (.ireturn, 1) := by decide +kernel
theorem dX5_holds_0 : decode cX5_holds 0 = .ok (.aload_n 0, 1) := by decide +kernel
theorem dX5_holds_1 : decode cX5_holds 1 = .ok (.iload_n 1, 1) := by decide +kernel
theorem dX5_holds_2 : decode cX5_holds 2 = .ok (.putfield 25, 3) := by decide +kernel
theorem dX5_holds_5 : decode cX5_holds 5 = .ok (.iload_n 1, 1) := by decide +kernel
theorem dX5_holds_6 : decode cX5_holds 6 = .ok (.ifCond .ne 7, 3) := by decide +kernel
theorem dX5_holds_9 : decode cX5_holds 9 = .ok (.iconst 1, 1) := by decide +kernel
theorem dX5_holds_10 : decode cX5_holds 10 = .ok (.goto 4, 3) := by decide +kernel
theorem dX5_holds_13 : decode cX5_holds 13 = .ok (.iconst 0, 1) := by decide +kernel
theorem dX5_holds_14 : decode cX5_holds 14 = .ok (.ireturn, 1) := by decide +kernel
theorem dX5_isBin_0 : decode cX5_isBin 0 = .ok (.iload_n 0, 1) := by decide +kernel
theorem dX5_isBin_1 : decode cX5_isBin 1 = .ok (.iconst 0, 1) := by decide +kernel
theorem dX5_isBin_2 : decode cX5_isBin 2 = .ok (.bipush 15, 2) := by decide +kernel
theorem dX5_isBin_4 : decode cX5_isBin 4 = .ok (.invokestatic 29, 3) := by decide +kernel
theorem dX5_isBin_7 : decode cX5_isBin 7 = .ok (.ireturn, 1) := by decide +kernel
theorem dX5_isPlace_0 : decode cX5_isPlace 0 = .ok (.iload_n 1, 1) := by decide +kernel
theorem dX5_isPlace_1 : decode cX5_isPlace 1 = .ok (.iconst 0, 1) := by decide +kernel
theorem dX5_isPlace_2 : decode cX5_isPlace 2 = .ok (.aload_n 0, 1) := by decide +kernel
theorem dX5_isPlace_3 : decode cX5_isPlace 3 = .ok (.getfield 7, 3) := by decide +kernel
theorem dX5_isPlace_6 : decode cX5_isPlace 6 = .ok (.iconst 3, 1) := by decide +kernel
theorem dX5_isPlace_7 : decode cX5_isPlace 7 = .ok (.iaload, 1) := by decide +kernel
theorem dX5_isPlace_8 : decode cX5_isPlace 8 = .ok (.iconst 1, 1) := by decide +kernel
theorem dX5_isPlace_9 : decode cX5_isPlace 9 = .ok (.isub, 1) := by decide +kernel
theorem dX5_isPlace_10 : decode cX5_isPlace 10 = .ok (.invokestatic 29, 3) := by decide +kernel
theorem dX5_isPlace_13 : decode cX5_isPlace 13 = .ok (.ireturn, 1) := by decide +kernel
theorem dX5_laysOut_0 : decode cX5_laysOut 0 = .ok (.aload_n 0, 1) := by decide +kernel
theorem dX5_laysOut_1 : decode cX5_laysOut 1 = .ok (.iconst 0, 1) := by decide +kernel
theorem dX5_laysOut_2 : decode cX5_laysOut 2 = .ok (.putfield 33, 3) := by decide +kernel
theorem dX5_laysOut_5 : decode cX5_laysOut 5 = .ok (.iconst 0, 1) := by decide +kernel
theorem dX5_laysOut_6 : decode cX5_laysOut 6 = .ok (.istore_n 2, 1) := by decide +kernel
theorem dX5_laysOut_7 : decode cX5_laysOut 7 = .ok (.iload_n 2, 1) := by decide +kernel
theorem dX5_laysOut_8 : decode cX5_laysOut 8 = .ok (.aload_n 0, 1) := by decide +kernel
theorem dX5_laysOut_9 : decode cX5_laysOut 9 = .ok (.getfield 7, 3) := by decide +kernel
theorem dX5_laysOut_12 : decode cX5_laysOut 12 = .ok (.iconst 3, 1) := by decide +kernel
theorem dX5_laysOut_13 : decode cX5_laysOut 13 = .ok (.iaload, 1) := by decide +kernel
theorem dX5_laysOut_14 : decode cX5_laysOut 14 = .ok (.if_icmp .ge 60, 3) := by decide +kernel
theorem dX5_laysOut_17 : decode cX5_laysOut 17 = .ok (.iload_n 2, 1) := by decide +kernel
theorem dX5_laysOut_18 : decode cX5_laysOut 18 = .ok (.iload_n 1, 1) := by decide +kernel
theorem dX5_laysOut_19 : decode cX5_laysOut 19 = .ok (.if_icmp .eq 49, 3) := by decide +kernel
theorem dX5_laysOut_22 : decode cX5_laysOut 22 = .ok (.aload_n 0, 1) := by decide +kernel
theorem dX5_laysOut_23 : decode cX5_laysOut 23 = .ok (.getfield 16, 3) := by decide +kernel
theorem dX5_laysOut_26 : decode cX5_laysOut 26 = .ok (.aload_n 0, 1) := by decide +kernel
theorem dX5_laysOut_27 : decode cX5_laysOut 27 = .ok (.getfield 33, 3) := by decide +kernel
theorem dX5_laysOut_30 : decode cX5_laysOut 30 = .ok (.aload_n 0, 1) := by decide +kernel
theorem dX5_laysOut_31 : decode cX5_laysOut 31 = .ok (.getfield 7, 3) := by decide +kernel
theorem dX5_laysOut_34 : decode cX5_laysOut 34 = .ok (.bipush 70, 2) := by decide +kernel
theorem dX5_laysOut_36 : decode cX5_laysOut 36 = .ok (.iload_n 2, 1) := by decide +kernel
theorem dX5_laysOut_37 : decode cX5_laysOut 37 = .ok (.iadd, 1) := by decide +kernel
theorem dX5_laysOut_38 : decode cX5_laysOut 38 = .ok (.iaload, 1) := by decide +kernel
theorem dX5_laysOut_39 : decode cX5_laysOut 39 = .ok (.iastore, 1) := by decide +kernel
theorem dX5_laysOut_40 : decode cX5_laysOut 40 = .ok (.aload_n 0, 1) := by decide +kernel
theorem dX5_laysOut_41 : decode cX5_laysOut 41 = .ok (.getfield 19, 3) := by decide +kernel
theorem dX5_laysOut_44 : decode cX5_laysOut 44 = .ok (.aload_n 0, 1) := by decide +kernel
theorem dX5_laysOut_45 : decode cX5_laysOut 45 = .ok (.getfield 33, 3) := by decide +kernel
theorem dX5_laysOut_48 : decode cX5_laysOut 48 = .ok (.aload_n 0, 1) := by decide +kernel
theorem dX5_laysOut_49 : decode cX5_laysOut 49 = .ok (.getfield 7, 3) := by decide +kernel
theorem dX5_laysOut_52 : decode cX5_laysOut 52 = .ok (.bipush 90, 2) := by decide +kernel
theorem dX5_laysOut_54 : decode cX5_laysOut 54 = .ok (.iload_n 2, 1) := by decide +kernel
theorem dX5_laysOut_55 : decode cX5_laysOut 55 = .ok (.iadd, 1) := by decide +kernel
theorem dX5_laysOut_56 : decode cX5_laysOut 56 = .ok (.iaload, 1) := by decide +kernel
theorem dX5_laysOut_57 : decode cX5_laysOut 57 = .ok (.iastore, 1) := by decide +kernel
theorem dX5_laysOut_58 : decode cX5_laysOut 58 = .ok (.aload_n 0, 1) := by decide +kernel
theorem dX5_laysOut_59 : decode cX5_laysOut 59 = .ok (.dup, 1) := by decide +kernel
theorem dX5_laysOut_60 : decode cX5_laysOut 60 = .ok (.getfield 33, 3) := by decide +kernel
theorem dX5_laysOut_63 : decode cX5_laysOut 63 = .ok (.iconst 1, 1) := by decide +kernel
theorem dX5_laysOut_64 : decode cX5_laysOut 64 = .ok (.iadd, 1) := by decide +kernel
theorem dX5_laysOut_65 : decode cX5_laysOut 65 = .ok (.putfield 33, 3) := by decide +kernel
theorem dX5_laysOut_68 : decode cX5_laysOut 68 = .ok (.iinc 2 1, 3) := by decide +kernel
theorem dX5_laysOut_71 : decode cX5_laysOut 71 = .ok (.goto (-64), 3) := by decide +kernel
theorem dX5_laysOut_74 : decode cX5_laysOut 74 = .ok (.return_, 1) := by decide +kernel
theorem dX5_mark_0 : decode cX5_mark 0 = .ok (.iload_n 1, 1) := by decide +kernel
theorem dX5_mark_1 : decode cX5_mark 1 = .ok (.aload_n 0, 1) := by decide +kernel
theorem dX5_mark_2 : decode cX5_mark 2 = .ok (.getfield 7, 3) := by decide +kernel
theorem dX5_mark_5 : decode cX5_mark 5 = .ok (.iconst 1, 1) := by decide +kernel
theorem dX5_mark_6 : decode cX5_mark 6 = .ok (.iaload, 1) := by decide +kernel
theorem dX5_mark_7 : decode cX5_mark 7 = .ok (.irem, 1) := by decide +kernel
theorem dX5_mark_8 : decode cX5_mark 8 = .ok (.istore_n 3, 1) := by decide +kernel
theorem dX5_mark_9 : decode cX5_mark 9 = .ok (.iload_n 2, 1) := by decide +kernel
theorem dX5_mark_10 : decode cX5_mark 10 = .ok (.iconst 1, 1) := by decide +kernel
theorem dX5_mark_11 : decode cX5_mark 11 = .ok (.if_icmp .ne 16, 3) := by decide +kernel
theorem dX5_mark_14 : decode cX5_mark 14 = .ok (.aload_n 0, 1) := by decide +kernel
theorem dX5_mark_15 : decode cX5_mark 15 = .ok (.getfield 7, 3) := by decide +kernel
theorem dX5_mark_18 : decode cX5_mark 18 = .ok (.iconst 1, 1) := by decide +kernel
theorem dX5_mark_19 : decode cX5_mark 19 = .ok (.iaload, 1) := by decide +kernel
theorem dX5_mark_20 : decode cX5_mark 20 = .ok (.iconst 1, 1) := by decide +kernel
theorem dX5_mark_21 : decode cX5_mark 21 = .ok (.isub, 1) := by decide +kernel
theorem dX5_mark_22 : decode cX5_mark 22 = .ok (.iload_n 3, 1) := by decide +kernel
theorem dX5_mark_23 : decode cX5_mark 23 = .ok (.isub, 1) := by decide +kernel
theorem dX5_mark_24 : decode cX5_mark 24 = .ok (.goto 4, 3) := by decide +kernel
theorem dX5_mark_27 : decode cX5_mark 27 = .ok (.iload_n 3, 1) := by decide +kernel
theorem dX5_mark_28 : decode cX5_mark 28 = .ok (.ireturn, 1) := by decide +kernel
theorem dX5_breaksAt_0 : decode cX5_breaksAt 0 = .ok (.iload_n 1, 1) := by decide +kernel
theorem dX5_breaksAt_1 : decode cX5_breaksAt 1 = .ok (.ifCond .ne 7, 3) := by decide +kernel
theorem dX5_breaksAt_4 : decode cX5_breaksAt 4 = .ok (.iconst 0, 1) := by decide +kernel
theorem dX5_breaksAt_5 : decode cX5_breaksAt 5 = .ok (.goto 32, 3) := by decide +kernel
theorem dX5_breaksAt_8 : decode cX5_breaksAt 8 = .ok (.aload_n 0, 1) := by decide +kernel
theorem dX5_breaksAt_9 : decode cX5_breaksAt 9 = .ok (.aload_n 0, 1) := by decide +kernel
theorem dX5_breaksAt_10 : decode cX5_breaksAt 10 = .ok (.getfield 16, 3) := by decide +kernel
theorem dX5_breaksAt_13 : decode cX5_breaksAt 13 = .ok (.iload_n 1, 1) := by decide +kernel
theorem dX5_breaksAt_14 : decode cX5_breaksAt 14 = .ok (.iconst 1, 1) := by decide +kernel
theorem dX5_breaksAt_15 : decode cX5_breaksAt 15 = .ok (.isub, 1) := by decide +kernel
theorem dX5_breaksAt_16 : decode cX5_breaksAt 16 = .ok (.iaload, 1) := by decide +kernel
theorem dX5_breaksAt_17 : decode cX5_breaksAt 17 = .ok (.aload_n 0, 1) := by decide +kernel
theorem dX5_breaksAt_18 : decode cX5_breaksAt 18 = .ok (.getfield 19, 3) := by decide +kernel
theorem dX5_breaksAt_21 : decode cX5_breaksAt 21 = .ok (.iload_n 1, 1) := by decide +kernel
theorem dX5_breaksAt_22 : decode cX5_breaksAt 22 = .ok (.iconst 1, 1) := by decide +kernel
theorem dX5_breaksAt_23 : decode cX5_breaksAt 23 = .ok (.isub, 1) := by decide +kernel
theorem dX5_breaksAt_24 : decode cX5_breaksAt 24 = .ok (.iaload, 1) := by decide +kernel
theorem dX5_breaksAt_25 : decode cX5_breaksAt 25 = .ok (.invokevirtual 36, 3) := by decide +kernel
theorem dX5_breaksAt_28 : decode cX5_breaksAt 28 = .ok (.iconst 1, 1) := by decide +kernel
theorem dX5_breaksAt_29 : decode cX5_breaksAt 29 = .ok (.iadd, 1) := by decide +kernel
theorem dX5_breaksAt_30 : decode cX5_breaksAt 30 = .ok (.aload_n 0, 1) := by decide +kernel
theorem dX5_breaksAt_31 : decode cX5_breaksAt 31 = .ok (.getfield 7, 3) := by decide +kernel
theorem dX5_breaksAt_34 : decode cX5_breaksAt 34 = .ok (.iconst 1, 1) := by decide +kernel
theorem dX5_breaksAt_35 : decode cX5_breaksAt 35 = .ok (.iaload, 1) := by decide +kernel
theorem dX5_breaksAt_36 : decode cX5_breaksAt 36 = .ok (.irem, 1) := by decide +kernel
theorem dX5_breaksAt_37 : decode cX5_breaksAt 37 = .ok (.istore_n 2, 1) := by decide +kernel
theorem dX5_breaksAt_38 : decode cX5_breaksAt 38 = .ok (.aload_n 0, 1) := by decide +kernel
theorem dX5_breaksAt_39 : decode cX5_breaksAt 39 = .ok (.aload_n 0, 1) := by decide +kernel
theorem dX5_breaksAt_40 : decode cX5_breaksAt 40 = .ok (.getfield 16, 3) := by decide +kernel
theorem dX5_breaksAt_43 : decode cX5_breaksAt 43 = .ok (.iload_n 1, 1) := by decide +kernel
theorem dX5_breaksAt_44 : decode cX5_breaksAt 44 = .ok (.iaload, 1) := by decide +kernel
theorem dX5_breaksAt_45 : decode cX5_breaksAt 45 = .ok (.aload_n 0, 1) := by decide +kernel
theorem dX5_breaksAt_46 : decode cX5_breaksAt 46 = .ok (.getfield 19, 3) := by decide +kernel
theorem dX5_breaksAt_49 : decode cX5_breaksAt 49 = .ok (.iload_n 1, 1) := by decide +kernel
theorem dX5_breaksAt_50 : decode cX5_breaksAt 50 = .ok (.iaload, 1) := by decide +kernel
theorem dX5_breaksAt_51 : decode cX5_breaksAt 51 = .ok (.invokevirtual 36, 3) := by decide +kernel
theorem dX5_breaksAt_54 : decode cX5_breaksAt 54 = .ok (.iload_n 2, 1) := by decide +kernel
theorem dX5_breaksAt_55 : decode cX5_breaksAt 55 = .ok (.if_icmp .eq 7, 3) := by decide +kernel
theorem dX5_breaksAt_58 : decode cX5_breaksAt 58 = .ok (.iconst 1, 1) := by decide +kernel
theorem dX5_breaksAt_59 : decode cX5_breaksAt 59 = .ok (.goto 4, 3) := by decide +kernel
theorem dX5_breaksAt_62 : decode cX5_breaksAt 62 = .ok (.iconst 0, 1) := by decide +kernel
theorem dX5_breaksAt_63 : decode cX5_breaksAt 63 = .ok (.ireturn, 1) := by decide +kernel
theorem dX5_breaks_0 : decode cX5_breaks 0 = .ok (.iconst 0, 1) := by decide +kernel
theorem dX5_breaks_1 : decode cX5_breaks 1 = .ok (.istore_n 1, 1) := by decide +kernel
theorem dX5_breaks_2 : decode cX5_breaks 2 = .ok (.iconst 0, 1) := by decide +kernel
theorem dX5_breaks_3 : decode cX5_breaks 3 = .ok (.istore_n 2, 1) := by decide +kernel
theorem dX5_breaks_4 : decode cX5_breaks 4 = .ok (.iload_n 2, 1) := by decide +kernel
theorem dX5_breaks_5 : decode cX5_breaks 5 = .ok (.aload_n 0, 1) := by decide +kernel
theorem dX5_breaks_6 : decode cX5_breaks 6 = .ok (.getfield 33, 3) := by decide +kernel
theorem dX5_breaks_9 : decode cX5_breaks 9 = .ok (.if_icmp .ge 25, 3) := by decide +kernel
theorem dX5_breaks_12 : decode cX5_breaks 12 = .ok (.iload_n 1, 1) := by decide +kernel
theorem dX5_breaks_13 : decode cX5_breaks 13 = .ok (.aload_n 0, 1) := by decide +kernel
theorem dX5_breaks_14 : decode cX5_breaks 14 = .ok (.iload_n 2, 1) := by decide +kernel
theorem dX5_breaks_15 : decode cX5_breaks 15 = .ok (.invokevirtual 40, 3) := by decide +kernel
theorem dX5_breaks_18 : decode cX5_breaks 18 = .ok (.ifCond .eq 7, 3) := by decide +kernel
theorem dX5_breaks_21 : decode cX5_breaks 21 = .ok (.iconst 1, 1) := by decide +kernel
theorem dX5_breaks_22 : decode cX5_breaks 22 = .ok (.goto 4, 3) := by decide +kernel
theorem dX5_breaks_25 : decode cX5_breaks 25 = .ok (.iconst 0, 1) := by decide +kernel
theorem dX5_breaks_26 : decode cX5_breaks 26 = .ok (.iadd, 1) := by decide +kernel
theorem dX5_breaks_27 : decode cX5_breaks 27 = .ok (.istore_n 1, 1) := by decide +kernel
theorem dX5_breaks_28 : decode cX5_breaks 28 = .ok (.iinc 2 1, 3) := by decide +kernel
theorem dX5_breaks_31 : decode cX5_breaks 31 = .ok (.goto (-27), 3) := by decide +kernel
theorem dX5_breaks_34 : decode cX5_breaks 34 = .ok (.iload_n 1, 1) := by decide +kernel
theorem dX5_breaks_35 : decode cX5_breaks 35 = .ok (.ireturn, 1) := by decide +kernel
theorem dX5_isAhead_0 : decode cX5_isAhead 0 = .ok (.iconst 0, 1) := by decide +kernel
theorem dX5_isAhead_1 : decode cX5_isAhead 1 = .ok (.istore_n 2, 1) := by decide +kernel
theorem dX5_isAhead_2 : decode cX5_isAhead 2 = .ok (.iconst 0, 1) := by decide +kernel
theorem dX5_isAhead_3 : decode cX5_isAhead 3 = .ok (.istore_n 3, 1) := by decide +kernel
theorem dX5_isAhead_4 : decode cX5_isAhead 4 = .ok (.iload_n 3, 1) := by decide +kernel
theorem dX5_isAhead_5 : decode cX5_isAhead 5 = .ok (.iload_n 1, 1) := by decide +kernel
theorem dX5_isAhead_6 : decode cX5_isAhead 6 = .ok (.if_icmp .ge 34, 3) := by decide +kernel
theorem dX5_isAhead_9 : decode cX5_isAhead 9 = .ok (.iload_n 2, 1) := by decide +kernel
theorem dX5_isAhead_10 : decode cX5_isAhead 10 = .ok (.ifCond .ne 18, 3) := by decide +kernel
theorem dX5_isAhead_13 : decode cX5_isAhead 13 = .ok (.aload_n 0, 1) := by decide +kernel
theorem dX5_isAhead_14 : decode cX5_isAhead 14 = .ok (.getfield 16, 3) := by decide +kernel
theorem dX5_isAhead_17 : decode cX5_isAhead 17 = .ok (.iload_n 3, 1) := by decide +kernel
end
section
theorem dX5_isAhead_18 : decode cX5_isAhead 18 = .ok (.iaload, 1) := by decide +kernel
theorem dX5_isAhead_19 : decode cX5_isAhead 19 = .ok (.aload_n 0, 1) := by decide +kernel
theorem dX5_isAhead_20 : decode cX5_isAhead 20 = .ok (.getfield 16, 3) := by decide +kernel
theorem dX5_isAhead_23 : decode cX5_isAhead 23 = .ok (.iload_n 1, 1) := by decide +kernel
theorem dX5_isAhead_24 : decode cX5_isAhead 24 = .ok (.iaload, 1) := by decide +kernel
theorem dX5_isAhead_25 : decode cX5_isAhead 25 = .ok (.if_icmp .ne 7, 3) := by decide +kernel
theorem dX5_isAhead_28 : decode cX5_isAhead 28 = .ok (.iconst 1, 1) := by decide +kernel
theorem dX5_isAhead_29 : decode cX5_isAhead 29 = .ok (.goto 4, 3) := by decide +kernel
theorem dX5_isAhead_32 : decode cX5_isAhead 32 = .ok (.iconst 0, 1) := by decide +kernel
theorem dX5_isAhead_33 : decode cX5_isAhead 33 = .ok (.istore_n 2, 1) := by decide +kernel
theorem dX5_isAhead_34 : decode cX5_isAhead 34 = .ok (.iinc 3 1, 3) := by decide +kernel
theorem dX5_isAhead_37 : decode cX5_isAhead 37 = .ok (.goto (-33), 3) := by decide +kernel
theorem dX5_isAhead_40 : decode cX5_isAhead 40 = .ok (.iload_n 2, 1) := by decide +kernel
theorem dX5_isAhead_41 : decode cX5_isAhead 41 = .ok (.ireturn, 1) := by decide +kernel
theorem dX5_isFault_0 : decode cX5_isFault 0 = .ok (.iload_n 2, 1) := by decide +kernel
theorem dX5_isFault_1 : decode cX5_isFault 1 = .ok (.tableswitch 70 2 4 #[27, 43, 64], 27) := by decide +kernel
theorem dX5_isFault_28 : decode cX5_isFault 28 = .ok (.aload_n 0, 1) := by decide +kernel
theorem dX5_isFault_29 : decode cX5_isFault 29 = .ok (.getfield 19, 3) := by decide +kernel
theorem dX5_isFault_32 : decode cX5_isFault 32 = .ok (.iload_n 1, 1) := by decide +kernel
theorem dX5_isFault_33 : decode cX5_isFault 33 = .ok (.iaload, 1) := by decide +kernel
theorem dX5_isFault_34 : decode cX5_isFault 34 = .ok (.iconst 1, 1) := by decide +kernel
theorem dX5_isFault_35 : decode cX5_isFault 35 = .ok (.if_icmp .ne 7, 3) := by decide +kernel
theorem dX5_isFault_38 : decode cX5_isFault 38 = .ok (.iconst 1, 1) := by decide +kernel
theorem dX5_isFault_39 : decode cX5_isFault 39 = .ok (.goto 4, 3) := by decide +kernel
theorem dX5_isFault_42 : decode cX5_isFault 42 = .ok (.iconst 0, 1) := by decide +kernel
theorem dX5_isFault_43 : decode cX5_isFault 43 = .ok (.ireturn, 1) := by decide +kernel
theorem dX5_isFault_44 : decode cX5_isFault 44 = .ok (.aload_n 0, 1) := by decide +kernel
theorem dX5_isFault_45 : decode cX5_isFault 45 = .ok (.getfield 16, 3) := by decide +kernel
theorem dX5_isFault_48 : decode cX5_isFault 48 = .ok (.iload_n 1, 1) := by decide +kernel
theorem dX5_isFault_49 : decode cX5_isFault 49 = .ok (.iaload, 1) := by decide +kernel
theorem dX5_isFault_50 : decode cX5_isFault 50 = .ok (.aload_n 0, 1) := by decide +kernel
theorem dX5_isFault_51 : decode cX5_isFault 51 = .ok (.getfield 7, 3) := by decide +kernel
theorem dX5_isFault_54 : decode cX5_isFault 54 = .ok (.iconst 0, 1) := by decide +kernel
theorem dX5_isFault_55 : decode cX5_isFault 55 = .ok (.iaload, 1) := by decide +kernel
theorem dX5_isFault_56 : decode cX5_isFault 56 = .ok (.if_icmp .lt 7, 3) := by decide +kernel
theorem dX5_isFault_59 : decode cX5_isFault 59 = .ok (.iconst 1, 1) := by decide +kernel
theorem dX5_isFault_60 : decode cX5_isFault 60 = .ok (.goto 4, 3) := by decide +kernel
theorem dX5_isFault_63 : decode cX5_isFault 63 = .ok (.iconst 0, 1) := by decide +kernel
theorem dX5_isFault_64 : decode cX5_isFault 64 = .ok (.ireturn, 1) := by decide +kernel
theorem dX5_isFault_65 : decode cX5_isFault 65 = .ok (.aload_n 0, 1) := by decide +kernel
theorem dX5_isFault_66 : decode cX5_isFault 66 = .ok (.iload_n 1, 1) := by decide +kernel
theorem dX5_isFault_67 : decode cX5_isFault 67 = .ok (.invokevirtual 44, 3) := by decide +kernel
theorem dX5_isFault_70 : decode cX5_isFault 70 = .ok (.ireturn, 1) := by decide +kernel
theorem dX5_isFault_71 : decode cX5_isFault 71 = .ok (.iload_n 1, 1) := by decide +kernel
theorem dX5_isFault_72 : decode cX5_isFault 72 = .ok (.ifCond .le 24, 3) := by decide +kernel
theorem dX5_isFault_75 : decode cX5_isFault 75 = .ok (.aload_n 0, 1) := by decide +kernel
theorem dX5_isFault_76 : decode cX5_isFault 76 = .ok (.getfield 16, 3) := by decide +kernel
theorem dX5_isFault_79 : decode cX5_isFault 79 = .ok (.iload_n 1, 1) := by decide +kernel
theorem dX5_isFault_80 : decode cX5_isFault 80 = .ok (.iaload, 1) := by decide +kernel
theorem dX5_isFault_81 : decode cX5_isFault 81 = .ok (.aload_n 0, 1) := by decide +kernel
theorem dX5_isFault_82 : decode cX5_isFault 82 = .ok (.getfield 16, 3) := by decide +kernel
theorem dX5_isFault_85 : decode cX5_isFault 85 = .ok (.iload_n 1, 1) := by decide +kernel
theorem dX5_isFault_86 : decode cX5_isFault 86 = .ok (.iconst 1, 1) := by decide +kernel
theorem dX5_isFault_87 : decode cX5_isFault 87 = .ok (.isub, 1) := by decide +kernel
theorem dX5_isFault_88 : decode cX5_isFault 88 = .ok (.iaload, 1) := by decide +kernel
theorem dX5_isFault_89 : decode cX5_isFault 89 = .ok (.if_icmp .ge 7, 3) := by decide +kernel
theorem dX5_isFault_92 : decode cX5_isFault 92 = .ok (.iconst 1, 1) := by decide +kernel
theorem dX5_isFault_93 : decode cX5_isFault 93 = .ok (.goto 4, 3) := by decide +kernel
theorem dX5_isFault_96 : decode cX5_isFault 96 = .ok (.iconst 0, 1) := by decide +kernel
theorem dX5_isFault_97 : decode cX5_isFault 97 = .ok (.ireturn, 1) := by decide +kernel
theorem dX5_placeOf_0 : decode cX5_placeOf 0 = .ok (.iconst 0, 1) := by decide +kernel
theorem dX5_placeOf_1 : decode cX5_placeOf 1 = .ok (.istore_n 2, 1) := by decide +kernel
theorem dX5_placeOf_2 : decode cX5_placeOf 2 = .ok (.iload_n 2, 1) := by decide +kernel
theorem dX5_placeOf_3 : decode cX5_placeOf 3 = .ok (.aload_n 0, 1) := by decide +kernel
theorem dX5_placeOf_4 : decode cX5_placeOf 4 = .ok (.getfield 33, 3) := by decide +kernel
theorem dX5_placeOf_7 : decode cX5_placeOf 7 = .ok (.if_icmp .ge 20, 3) := by decide +kernel
theorem dX5_placeOf_10 : decode cX5_placeOf 10 = .ok (.aload_n 0, 1) := by decide +kernel
theorem dX5_placeOf_11 : decode cX5_placeOf 11 = .ok (.iload_n 2, 1) := by decide +kernel
theorem dX5_placeOf_12 : decode cX5_placeOf 12 = .ok (.iload_n 1, 1) := by decide +kernel
theorem dX5_placeOf_13 : decode cX5_placeOf 13 = .ok (.invokevirtual 47, 3) := by decide +kernel
theorem dX5_placeOf_16 : decode cX5_placeOf 16 = .ok (.ifCond .eq 5, 3) := by decide +kernel
theorem dX5_placeOf_19 : decode cX5_placeOf 19 = .ok (.iload_n 2, 1) := by decide +kernel
theorem dX5_placeOf_20 : decode cX5_placeOf 20 = .ok (.ireturn, 1) := by decide +kernel
theorem dX5_placeOf_21 : decode cX5_placeOf 21 = .ok (.iinc 2 1, 3) := by decide +kernel
theorem dX5_placeOf_24 : decode cX5_placeOf 24 = .ok (.goto (-22), 3) := by decide +kernel
theorem dX5_placeOf_27 : decode cX5_placeOf 27 = .ok (.iconst (-1), 1) := by decide +kernel
theorem dX5_placeOf_28 : decode cX5_placeOf 28 = .ok (.ireturn, 1) := by decide +kernel
theorem dX5_missing_0 : decode cX5_missing 0 = .ok (.iconst 0, 1) := by decide +kernel
theorem dX5_missing_1 : decode cX5_missing 1 = .ok (.istore_n 1, 1) := by decide +kernel
theorem dX5_missing_2 : decode cX5_missing 2 = .ok (.iload_n 1, 1) := by decide +kernel
theorem dX5_missing_3 : decode cX5_missing 3 = .ok (.aload_n 0, 1) := by decide +kernel
theorem dX5_missing_4 : decode cX5_missing 4 = .ok (.getfield 7, 3) := by decide +kernel
theorem dX5_missing_7 : decode cX5_missing 7 = .ok (.iconst 0, 1) := by decide +kernel
theorem dX5_missing_8 : decode cX5_missing 8 = .ok (.iaload, 1) := by decide +kernel
theorem dX5_missing_9 : decode cX5_missing 9 = .ok (.if_icmp .ge 53, 3) := by decide +kernel
theorem dX5_missing_12 : decode cX5_missing 12 = .ok (.iconst 0, 1) := by decide +kernel
theorem dX5_missing_13 : decode cX5_missing 13 = .ok (.istore_n 2, 1) := by decide +kernel
theorem dX5_missing_14 : decode cX5_missing 14 = .ok (.iconst 0, 1) := by decide +kernel
theorem dX5_missing_15 : decode cX5_missing 15 = .ok (.istore_n 3, 1) := by decide +kernel
theorem dX5_missing_16 : decode cX5_missing 16 = .ok (.iload_n 3, 1) := by decide +kernel
theorem dX5_missing_17 : decode cX5_missing 17 = .ok (.aload_n 0, 1) := by decide +kernel
theorem dX5_missing_18 : decode cX5_missing 18 = .ok (.getfield 33, 3) := by decide +kernel
theorem dX5_missing_21 : decode cX5_missing 21 = .ok (.if_icmp .ge 29, 3) := by decide +kernel
theorem dX5_missing_24 : decode cX5_missing 24 = .ok (.iload_n 2, 1) := by decide +kernel
theorem dX5_missing_25 : decode cX5_missing 25 = .ok (.ifCond .ne 13, 3) := by decide +kernel
theorem dX5_missing_28 : decode cX5_missing 28 = .ok (.aload_n 0, 1) := by decide +kernel
theorem dX5_missing_29 : decode cX5_missing 29 = .ok (.getfield 16, 3) := by decide +kernel
theorem dX5_missing_32 : decode cX5_missing 32 = .ok (.iload_n 3, 1) := by decide +kernel
theorem dX5_missing_33 : decode cX5_missing 33 = .ok (.iaload, 1) := by decide +kernel
theorem dX5_missing_34 : decode cX5_missing 34 = .ok (.iload_n 1, 1) := by decide +kernel
theorem dX5_missing_35 : decode cX5_missing 35 = .ok (.if_icmp .ne 7, 3) := by decide +kernel
theorem dX5_missing_38 : decode cX5_missing 38 = .ok (.iconst 1, 1) := by decide +kernel
theorem dX5_missing_39 : decode cX5_missing 39 = .ok (.goto 4, 3) := by decide +kernel
theorem dX5_missing_42 : decode cX5_missing 42 = .ok (.iconst 0, 1) := by decide +kernel
theorem dX5_missing_43 : decode cX5_missing 43 = .ok (.istore_n 2, 1) := by decide +kernel
theorem dX5_missing_44 : decode cX5_missing 44 = .ok (.iinc 3 1, 3) := by decide +kernel
theorem dX5_missing_47 : decode cX5_missing 47 = .ok (.goto (-31), 3) := by decide +kernel
theorem dX5_missing_50 : decode cX5_missing 50 = .ok (.iload_n 2, 1) := by decide +kernel
theorem dX5_missing_51 : decode cX5_missing 51 = .ok (.ifCond .ne 5, 3) := by decide +kernel
theorem dX5_missing_54 : decode cX5_missing 54 = .ok (.iload_n 1, 1) := by decide +kernel
theorem dX5_missing_55 : decode cX5_missing 55 = .ok (.ireturn, 1) := by decide +kernel
theorem dX5_missing_56 : decode cX5_missing 56 = .ok (.iinc 1 1, 3) := by decide +kernel
theorem dX5_missing_59 : decode cX5_missing 59 = .ok (.goto (-57), 3) := by decide +kernel
theorem dX5_missing_62 : decode cX5_missing 62 = .ok (.iconst (-1), 1) := by decide +kernel
theorem dX5_missing_63 : decode cX5_missing 63 = .ok (.ireturn, 1) := by decide +kernel
theorem dX5_fault_0 : decode cX5_fault 0 = .ok (.aload_n 0, 1) := by decide +kernel
theorem dX5_fault_1 : decode cX5_fault 1 = .ok (.getfield 33, 3) := by decide +kernel
theorem dX5_fault_4 : decode cX5_fault 4 = .ok (.ifCond .ne 5, 3) := by decide +kernel
theorem dX5_fault_7 : decode cX5_fault 7 = .ok (.iconst 1, 1) := by decide +kernel
theorem dX5_fault_8 : decode cX5_fault 8 = .ok (.ireturn, 1) := by decide +kernel
theorem dX5_fault_9 : decode cX5_fault 9 = .ok (.iconst 2, 1) := by decide +kernel
theorem dX5_fault_10 : decode cX5_fault 10 = .ok (.istore_n 1, 1) := by decide +kernel
theorem dX5_fault_11 : decode cX5_fault 11 = .ok (.iload_n 1, 1) := by decide +kernel
theorem dX5_fault_12 : decode cX5_fault 12 = .ok (.bipush 7, 2) := by decide +kernel
theorem dX5_fault_14 : decode cX5_fault 14 = .ok (.if_icmp .ge 51, 3) := by decide +kernel
theorem dX5_fault_17 : decode cX5_fault 17 = .ok (.iload_n 1, 1) := by decide +kernel
theorem dX5_fault_18 : decode cX5_fault 18 = .ok (.iconst 5, 1) := by decide +kernel
theorem dX5_fault_19 : decode cX5_fault 19 = .ok (.if_icmp .ne 19, 3) := by decide +kernel
theorem dX5_fault_22 : decode cX5_fault 22 = .ok (.aload_n 0, 1) := by decide +kernel
theorem dX5_fault_23 : decode cX5_fault 23 = .ok (.invokevirtual 51, 3) := by decide +kernel
theorem dX5_fault_26 : decode cX5_fault 26 = .ok (.iconst (-1), 1) := by decide +kernel
theorem dX5_fault_27 : decode cX5_fault 27 = .ok (.if_icmp .eq 7, 3) := by decide +kernel
theorem dX5_fault_30 : decode cX5_fault 30 = .ok (.iconst 1, 1) := by decide +kernel
theorem dX5_fault_31 : decode cX5_fault 31 = .ok (.goto 21, 3) := by decide +kernel
theorem dX5_fault_34 : decode cX5_fault 34 = .ok (.iconst 0, 1) := by decide +kernel
theorem dX5_fault_35 : decode cX5_fault 35 = .ok (.goto 17, 3) := by decide +kernel
theorem dX5_fault_38 : decode cX5_fault 38 = .ok (.aload_n 0, 1) := by decide +kernel
theorem dX5_fault_39 : decode cX5_fault 39 = .ok (.iload_n 1, 1) := by decide +kernel
theorem dX5_fault_40 : decode cX5_fault 40 = .ok (.invokevirtual 55, 3) := by decide +kernel
theorem dX5_fault_43 : decode cX5_fault 43 = .ok (.iconst (-1), 1) := by decide +kernel
theorem dX5_fault_44 : decode cX5_fault 44 = .ok (.if_icmp .eq 7, 3) := by decide +kernel
theorem dX5_fault_47 : decode cX5_fault 47 = .ok (.iconst 1, 1) := by decide +kernel
theorem dX5_fault_48 : decode cX5_fault 48 = .ok (.goto 4, 3) := by decide +kernel
theorem dX5_fault_51 : decode cX5_fault 51 = .ok (.iconst 0, 1) := by decide +kernel
theorem dX5_fault_52 : decode cX5_fault 52 = .ok (.istore_n 2, 1) := by decide +kernel
theorem dX5_fault_53 : decode cX5_fault 53 = .ok (.iload_n 2, 1) := by decide +kernel
theorem dX5_fault_54 : decode cX5_fault 54 = .ok (.ifCond .eq 5, 3) := by decide +kernel
theorem dX5_fault_57 : decode cX5_fault 57 = .ok (.iload_n 1, 1) := by decide +kernel
theorem dX5_fault_58 : decode cX5_fault 58 = .ok (.ireturn, 1) := by decide +kernel
theorem dX5_fault_59 : decode cX5_fault 59 = .ok (.iinc 1 1, 3) := by decide +kernel
theorem dX5_fault_62 : decode cX5_fault 62 = .ok (.goto (-51), 3) := by decide +kernel
theorem dX5_fault_65 : decode cX5_fault 65 = .ok (.iconst 0, 1) := by decide +kernel
theorem dX5_fault_66 : decode cX5_fault 66 = .ok (.ireturn, 1) := by decide +kernel
theorem dX5_fewest_0 : decode cX5_fewest 0 = .ok (.iconst 0, 1) := by decide +kernel
theorem dX5_fewest_1 : decode cX5_fewest 1 = .ok (.istore_n 1, 1) := by decide +kernel
theorem dX5_fewest_2 : decode cX5_fewest 2 = .ok (.iconst 0, 1) := by decide +kernel
theorem dX5_fewest_3 : decode cX5_fewest 3 = .ok (.istore_n 2, 1) := by decide +kernel
theorem dX5_fewest_4 : decode cX5_fewest 4 = .ok (.iload_n 2, 1) := by decide +kernel
theorem dX5_fewest_5 : decode cX5_fewest 5 = .ok (.aload_n 0, 1) := by decide +kernel
theorem dX5_fewest_6 : decode cX5_fewest 6 = .ok (.getfield 33, 3) := by decide +kernel
theorem dX5_fewest_9 : decode cX5_fewest 9 = .ok (.if_icmp .ge 103, 3) := by decide +kernel
theorem dX5_fewest_12 : decode cX5_fewest 12 = .ok (.aload_n 0, 1) := by decide +kernel
theorem dX5_fewest_13 : decode cX5_fewest 13 = .ok (.getfield 22, 3) := by decide +kernel
theorem dX5_fewest_16 : decode cX5_fewest 16 = .ok (.iload_n 2, 1) := by decide +kernel
theorem dX5_fewest_17 : decode cX5_fewest 17 = .ok (.iconst 1, 1) := by decide +kernel
theorem dX5_fewest_18 : decode cX5_fewest 18 = .ok (.iastore, 1) := by decide +kernel
theorem dX5_fewest_19 : decode cX5_fewest 19 = .ok (.iconst 0, 1) := by decide +kernel
theorem dX5_fewest_20 : decode cX5_fewest 20 = .ok (.istore_n 3, 1) := by decide +kernel
theorem dX5_fewest_21 : decode cX5_fewest 21 = .ok (.iload_n 3, 1) := by decide +kernel
theorem dX5_fewest_22 : decode cX5_fewest 22 = .ok (.iload_n 2, 1) := by decide +kernel
theorem dX5_fewest_23 : decode cX5_fewest 23 = .ok (.if_icmp .ge 62, 3) := by decide +kernel
theorem dX5_fewest_26 : decode cX5_fewest 26 = .ok (.aload_n 0, 1) := by decide +kernel
theorem dX5_fewest_27 : decode cX5_fewest 27 = .ok (.getfield 22, 3) := by decide +kernel
theorem dX5_fewest_30 : decode cX5_fewest 30 = .ok (.iload_n 2, 1) := by decide +kernel
theorem dX5_fewest_31 : decode cX5_fewest 31 = .ok (.aload_n 0, 1) := by decide +kernel
theorem dX5_fewest_32 : decode cX5_fewest 32 = .ok (.getfield 16, 3) := by decide +kernel
theorem dX5_fewest_35 : decode cX5_fewest 35 = .ok (.iload_n 3, 1) := by decide +kernel
theorem dX5_fewest_36 : decode cX5_fewest 36 = .ok (.iaload, 1) := by decide +kernel
theorem dX5_fewest_37 : decode cX5_fewest 37 = .ok (.aload_n 0, 1) := by decide +kernel
theorem dX5_fewest_38 : decode cX5_fewest 38 = .ok (.getfield 16, 3) := by decide +kernel
theorem dX5_fewest_41 : decode cX5_fewest 41 = .ok (.iload_n 2, 1) := by decide +kernel
theorem dX5_fewest_42 : decode cX5_fewest 42 = .ok (.iaload, 1) := by decide +kernel
theorem dX5_fewest_43 : decode cX5_fewest 43 = .ok (.if_icmp .gt 29, 3) := by decide +kernel
theorem dX5_fewest_46 : decode cX5_fewest 46 = .ok (.aload_n 0, 1) := by decide +kernel
theorem dX5_fewest_47 : decode cX5_fewest 47 = .ok (.getfield 22, 3) := by decide +kernel
theorem dX5_fewest_50 : decode cX5_fewest 50 = .ok (.iload_n 3, 1) := by decide +kernel
theorem dX5_fewest_51 : decode cX5_fewest 51 = .ok (.iaload, 1) := by decide +kernel
theorem dX5_fewest_52 : decode cX5_fewest 52 = .ok (.aload_n 0, 1) := by decide +kernel
theorem dX5_fewest_53 : decode cX5_fewest 53 = .ok (.getfield 22, 3) := by decide +kernel
theorem dX5_fewest_56 : decode cX5_fewest 56 = .ok (.iload_n 2, 1) := by decide +kernel
theorem dX5_fewest_57 : decode cX5_fewest 57 = .ok (.iaload, 1) := by decide +kernel
theorem dX5_fewest_58 : decode cX5_fewest 58 = .ok (.if_icmp .lt 14, 3) := by decide +kernel
theorem dX5_fewest_61 : decode cX5_fewest 61 = .ok (.aload_n 0, 1) := by decide +kernel
theorem dX5_fewest_62 : decode cX5_fewest 62 = .ok (.getfield 22, 3) := by decide +kernel
theorem dX5_fewest_65 : decode cX5_fewest 65 = .ok (.iload_n 3, 1) := by decide +kernel
theorem dX5_fewest_66 : decode cX5_fewest 66 = .ok (.iaload, 1) := by decide +kernel
theorem dX5_fewest_67 : decode cX5_fewest 67 = .ok (.iconst 1, 1) := by decide +kernel
theorem dX5_fewest_68 : decode cX5_fewest 68 = .ok (.iadd, 1) := by decide +kernel
theorem dX5_fewest_69 : decode cX5_fewest 69 = .ok (.goto 9, 3) := by decide +kernel
theorem dX5_fewest_72 : decode cX5_fewest 72 = .ok (.aload_n 0, 1) := by decide +kernel
theorem dX5_fewest_73 : decode cX5_fewest 73 = .ok (.getfield 22, 3) := by decide +kernel
theorem dX5_fewest_76 : decode cX5_fewest 76 = .ok (.iload_n 2, 1) := by decide +kernel
theorem dX5_fewest_77 : decode cX5_fewest 77 = .ok (.iaload, 1) := by decide +kernel
theorem dX5_fewest_78 : decode cX5_fewest 78 = .ok (.iastore, 1) := by decide +kernel
theorem dX5_fewest_79 : decode cX5_fewest 79 = .ok (.iinc 3 1, 3) := by decide +kernel
theorem dX5_fewest_82 : decode cX5_fewest 82 = .ok (.goto (-61), 3) := by decide +kernel
theorem dX5_fewest_85 : decode cX5_fewest 85 = .ok (.aload_n 0, 1) := by decide +kernel
theorem dX5_fewest_86 : decode cX5_fewest 86 = .ok (.getfield 22, 3) := by decide +kernel
theorem dX5_fewest_89 : decode cX5_fewest 89 = .ok (.iload_n 2, 1) := by decide +kernel
theorem dX5_fewest_90 : decode cX5_fewest 90 = .ok (.iaload, 1) := by decide +kernel
theorem dX5_fewest_91 : decode cX5_fewest 91 = .ok (.iload_n 1, 1) := by decide +kernel
theorem dX5_fewest_92 : decode cX5_fewest 92 = .ok (.if_icmp .le 12, 3) := by decide +kernel
theorem dX5_fewest_95 : decode cX5_fewest 95 = .ok (.aload_n 0, 1) := by decide +kernel
theorem dX5_fewest_96 : decode cX5_fewest 96 = .ok (.getfield 22, 3) := by decide +kernel
theorem dX5_fewest_99 : decode cX5_fewest 99 = .ok (.iload_n 2, 1) := by decide +kernel
theorem dX5_fewest_100 : decode cX5_fewest 100 = .ok (.iaload, 1) := by decide +kernel
theorem dX5_fewest_101 : decode cX5_fewest 101 = .ok (.goto 4, 3) := by decide +kernel
theorem dX5_fewest_104 : decode cX5_fewest 104 = .ok (.iload_n 1, 1) := by decide +kernel
theorem dX5_fewest_105 : decode cX5_fewest 105 = .ok (.istore_n 1, 1) := by decide +kernel
theorem dX5_fewest_106 : decode cX5_fewest 106 = .ok (.iinc 2 1, 3) := by decide +kernel
theorem dX5_fewest_109 : decode cX5_fewest 109 = .ok (.goto (-105), 3) := by decide +kernel
theorem dX5_fewest_112 : decode cX5_fewest 112 = .ok (.aload_n 0, 1) := by decide +kernel
theorem dX5_fewest_113 : decode cX5_fewest 113 = .ok (.getfield 33, 3) := by decide +kernel
theorem dX5_fewest_116 : decode cX5_fewest 116 = .ok (.iload_n 1, 1) := by decide +kernel
theorem dX5_fewest_117 : decode cX5_fewest 117 = .ok (.isub, 1) := by decide +kernel
theorem dX5_fewest_118 : decode cX5_fewest 118 = .ok (.ireturn, 1) := by decide +kernel
theorem dX5_greaterAhead_0 : decode cX5_greaterAhead 0 = .ok (.iconst 0, 1) := by decide +kernel
theorem dX5_greaterAhead_1 : decode cX5_greaterAhead 1 = .ok (.istore_n 2, 1) := by decide +kernel
theorem dX5_greaterAhead_2 : decode cX5_greaterAhead 2 = .ok (.iconst 0, 1) := by decide +kernel
theorem dX5_greaterAhead_3 : decode cX5_greaterAhead 3 = .ok (.istore_n 3, 1) := by decide +kernel
theorem dX5_greaterAhead_4 : decode cX5_greaterAhead 4 = .ok (.iload_n 3, 1) := by decide +kernel
theorem dX5_greaterAhead_5 : decode cX5_greaterAhead 5 = .ok (.iload_n 1, 1) := by decide +kernel
theorem dX5_greaterAhead_6 : decode cX5_greaterAhead 6 = .ok (.if_icmp .ge 32, 3) := by decide +kernel
theorem dX5_greaterAhead_9 : decode cX5_greaterAhead 9 = .ok (.iload_n 2, 1) := by decide +kernel
theorem dX5_greaterAhead_10 : decode cX5_greaterAhead 10 = .ok (.aload_n 0, 1) := by decide +kernel
theorem dX5_greaterAhead_11 : decode cX5_greaterAhead 11 = .ok (.getfield 16, 3) := by decide +kernel
theorem dX5_greaterAhead_14 : decode cX5_greaterAhead 14 = .ok (.iload_n 3, 1) := by decide +kernel
theorem dX5_greaterAhead_15 : decode cX5_greaterAhead 15 = .ok (.iaload, 1) := by decide +kernel
theorem dX5_greaterAhead_16 : decode cX5_greaterAhead 16 = .ok (.aload_n 0, 1) := by decide +kernel
theorem dX5_greaterAhead_17 : decode cX5_greaterAhead 17 = .ok (.getfield 16, 3) := by decide +kernel
theorem dX5_greaterAhead_20 : decode cX5_greaterAhead 20 = .ok (.iload_n 1, 1) := by decide +kernel
theorem dX5_greaterAhead_21 : decode cX5_greaterAhead 21 = .ok (.iaload, 1) := by decide +kernel
theorem dX5_greaterAhead_22 : decode cX5_greaterAhead 22 = .ok (.if_icmp .le 7, 3) := by decide +kernel
theorem dX5_greaterAhead_25 : decode cX5_greaterAhead 25 = .ok (.iconst 1, 1) := by decide +kernel
theorem dX5_greaterAhead_26 : decode cX5_greaterAhead 26 = .ok (.goto 4, 3) := by decide +kernel
theorem dX5_greaterAhead_29 : decode cX5_greaterAhead 29 = .ok (.iconst 0, 1) := by decide +kernel
theorem dX5_greaterAhead_30 : decode cX5_greaterAhead 30 = .ok (.iadd, 1) := by decide +kernel
theorem dX5_greaterAhead_31 : decode cX5_greaterAhead 31 = .ok (.istore_n 2, 1) := by decide +kernel
theorem dX5_greaterAhead_32 : decode cX5_greaterAhead 32 = .ok (.iinc 3 1, 3) := by decide +kernel
theorem dX5_greaterAhead_35 : decode cX5_greaterAhead 35 = .ok (.goto (-31), 3) := by decide +kernel
theorem dX5_greaterAhead_38 : decode cX5_greaterAhead 38 = .ok (.iload_n 2, 1) := by decide +kernel
theorem dX5_greaterAhead_39 : decode cX5_greaterAhead 39 = .ok (.ireturn, 1) := by decide +kernel
theorem dX5_pairs_0 : decode cX5_pairs 0 = .ok (.iconst 0, 1) := by decide +kernel
theorem dX5_pairs_1 : decode cX5_pairs 1 = .ok (.istore_n 1, 1) := by decide +kernel
theorem dX5_pairs_2 : decode cX5_pairs 2 = .ok (.iconst 0, 1) := by decide +kernel
theorem dX5_pairs_3 : decode cX5_pairs 3 = .ok (.istore_n 2, 1) := by decide +kernel
theorem dX5_pairs_4 : decode cX5_pairs 4 = .ok (.iload_n 2, 1) := by decide +kernel
theorem dX5_pairs_5 : decode cX5_pairs 5 = .ok (.aload_n 0, 1) := by decide +kernel
theorem dX5_pairs_6 : decode cX5_pairs 6 = .ok (.getfield 33, 3) := by decide +kernel
theorem dX5_pairs_9 : decode cX5_pairs 9 = .ok (.if_icmp .ge 17, 3) := by decide +kernel
theorem dX5_pairs_12 : decode cX5_pairs 12 = .ok (.iload_n 1, 1) := by decide +kernel
theorem dX5_pairs_13 : decode cX5_pairs 13 = .ok (.aload_n 0, 1) := by decide +kernel
theorem dX5_pairs_14 : decode cX5_pairs 14 = .ok (.iload_n 2, 1) := by decide +kernel
theorem dX5_pairs_15 : decode cX5_pairs 15 = .ok (.invokevirtual 59, 3) := by decide +kernel
theorem dX5_pairs_18 : decode cX5_pairs 18 = .ok (.iadd, 1) := by decide +kernel
theorem dX5_pairs_19 : decode cX5_pairs 19 = .ok (.istore_n 1, 1) := by decide +kernel
theorem dX5_pairs_20 : decode cX5_pairs 20 = .ok (.iinc 2 1, 3) := by decide +kernel
theorem dX5_pairs_23 : decode cX5_pairs 23 = .ok (.goto (-19), 3) := by decide +kernel
theorem dX5_pairs_26 : decode cX5_pairs 26 = .ok (.iload_n 1, 1) := by decide +kernel
theorem dX5_pairs_27 : decode cX5_pairs 27 = .ok (.ireturn, 1) := by decide +kernel
theorem dX5_stitchesAt_0 : decode cX5_stitchesAt 0 = .ok (.iload_n 1, 1) := by decide +kernel
theorem dX5_stitchesAt_1 : decode cX5_stitchesAt 1 = .ok (.ifCond .ne 7, 3) := by decide +kernel
theorem dX5_stitchesAt_4 : decode cX5_stitchesAt 4 = .ok (.iconst 0, 1) := by decide +kernel
theorem dX5_stitchesAt_5 : decode cX5_stitchesAt 5 = .ok (.goto 34, 3) := by decide +kernel
theorem dX5_stitchesAt_8 : decode cX5_stitchesAt 8 = .ok (.aload_n 0, 1) := by decide +kernel
theorem dX5_stitchesAt_9 : decode cX5_stitchesAt 9 = .ok (.getfield 7, 3) := by decide +kernel
theorem dX5_stitchesAt_12 : decode cX5_stitchesAt 12 = .ok (.bipush 54, 2) := by decide +kernel
theorem dX5_stitchesAt_14 : decode cX5_stitchesAt 14 = .ok (.aload_n 0, 1) := by decide +kernel
theorem dX5_stitchesAt_15 : decode cX5_stitchesAt 15 = .ok (.getfield 16, 3) := by decide +kernel
theorem dX5_stitchesAt_18 : decode cX5_stitchesAt 18 = .ok (.iload_n 1, 1) := by decide +kernel
theorem dX5_stitchesAt_19 : decode cX5_stitchesAt 19 = .ok (.iconst 1, 1) := by decide +kernel
theorem dX5_stitchesAt_20 : decode cX5_stitchesAt 20 = .ok (.isub, 1) := by decide +kernel
theorem dX5_stitchesAt_21 : decode cX5_stitchesAt 21 = .ok (.iaload, 1) := by decide +kernel
theorem dX5_stitchesAt_22 : decode cX5_stitchesAt 22 = .ok (.iadd, 1) := by decide +kernel
theorem dX5_stitchesAt_23 : decode cX5_stitchesAt 23 = .ok (.iaload, 1) := by decide +kernel
theorem dX5_stitchesAt_24 : decode cX5_stitchesAt 24 = .ok (.aload_n 0, 1) := by decide +kernel
theorem dX5_stitchesAt_25 : decode cX5_stitchesAt 25 = .ok (.getfield 7, 3) := by decide +kernel
theorem dX5_stitchesAt_28 : decode cX5_stitchesAt 28 = .ok (.bipush 54, 2) := by decide +kernel
theorem dX5_stitchesAt_30 : decode cX5_stitchesAt 30 = .ok (.aload_n 0, 1) := by decide +kernel
theorem dX5_stitchesAt_31 : decode cX5_stitchesAt 31 = .ok (.getfield 16, 3) := by decide +kernel
theorem dX5_stitchesAt_34 : decode cX5_stitchesAt 34 = .ok (.iload_n 1, 1) := by decide +kernel
theorem dX5_stitchesAt_35 : decode cX5_stitchesAt 35 = .ok (.iaload, 1) := by decide +kernel
theorem dX5_stitchesAt_36 : decode cX5_stitchesAt 36 = .ok (.iadd, 1) := by decide +kernel
theorem dX5_stitchesAt_37 : decode cX5_stitchesAt 37 = .ok (.iaload, 1) := by decide +kernel
theorem dX5_stitchesAt_38 : decode cX5_stitchesAt 38 = .ok (.iand, 1) := by decide +kernel
theorem dX5_stitchesAt_39 : decode cX5_stitchesAt 39 = .ok (.istore_n 2, 1) := by decide +kernel
theorem dX5_stitchesAt_40 : decode cX5_stitchesAt 40 = .ok (.iconst 0, 1) := by decide +kernel
theorem dX5_stitchesAt_41 : decode cX5_stitchesAt 41 = .ok (.istore_n 3, 1) := by decide +kernel
theorem dX5_stitchesAt_42 : decode cX5_stitchesAt 42 = .ok (.iconst 0, 1) := by decide +kernel
theorem dX5_stitchesAt_43 : decode cX5_stitchesAt 43 = .ok (.istore 4, 2) := by decide +kernel
theorem dX5_stitchesAt_45 : decode cX5_stitchesAt 45 = .ok (.iload 4, 2) := by decide +kernel
theorem dX5_stitchesAt_47 : decode cX5_stitchesAt 47 = .ok (.iconst 5, 1) := by decide +kernel
theorem dX5_stitchesAt_48 : decode cX5_stitchesAt 48 = .ok (.if_icmp .ge 18, 3) := by decide +kernel
theorem dX5_stitchesAt_51 : decode cX5_stitchesAt 51 = .ok (.iload_n 3, 1) := by decide +kernel
theorem dX5_stitchesAt_52 : decode cX5_stitchesAt 52 = .ok (.iload_n 2, 1) := by decide +kernel
theorem dX5_stitchesAt_53 : decode cX5_stitchesAt 53 = .ok (.iload 4, 2) := by decide +kernel
theorem dX5_stitchesAt_55 : decode cX5_stitchesAt 55 = .ok (.ishr, 1) := by decide +kernel
theorem dX5_stitchesAt_56 : decode cX5_stitchesAt 56 = .ok (.iconst 1, 1) := by decide +kernel
theorem dX5_stitchesAt_57 : decode cX5_stitchesAt 57 = .ok (.iand, 1) := by decide +kernel
theorem dX5_stitchesAt_58 : decode cX5_stitchesAt 58 = .ok (.iadd, 1) := by decide +kernel
theorem dX5_stitchesAt_59 : decode cX5_stitchesAt 59 = .ok (.istore_n 3, 1) := by decide +kernel
theorem dX5_stitchesAt_60 : decode cX5_stitchesAt 60 = .ok (.iinc 4 1, 3) := by decide +kernel
theorem dX5_stitchesAt_63 : decode cX5_stitchesAt 63 = .ok (.goto (-18), 3) := by decide +kernel
theorem dX5_stitchesAt_66 : decode cX5_stitchesAt 66 = .ok (.iload_n 3, 1) := by decide +kernel
theorem dX5_stitchesAt_67 : decode cX5_stitchesAt 67 = .ok (.ireturn, 1) := by decide +kernel
theorem dX5_stitches_0 : decode cX5_stitches 0 = .ok (.iconst 0, 1) := by decide +kernel
theorem dX5_stitches_1 : decode cX5_stitches 1 = .ok (.istore_n 1, 1) := by decide +kernel
theorem dX5_stitches_2 : decode cX5_stitches 2 = .ok (.iconst 1, 1) := by decide +kernel
theorem dX5_stitches_3 : decode cX5_stitches 3 = .ok (.istore_n 2, 1) := by decide +kernel
theorem dX5_stitches_4 : decode cX5_stitches 4 = .ok (.iload_n 2, 1) := by decide +kernel
theorem dX5_stitches_5 : decode cX5_stitches 5 = .ok (.aload_n 0, 1) := by decide +kernel
theorem dX5_stitches_6 : decode cX5_stitches 6 = .ok (.getfield 33, 3) := by decide +kernel
theorem dX5_stitches_9 : decode cX5_stitches 9 = .ok (.if_icmp .ge 17, 3) := by decide +kernel
theorem dX5_stitches_12 : decode cX5_stitches 12 = .ok (.iload_n 1, 1) := by decide +kernel
theorem dX5_stitches_13 : decode cX5_stitches 13 = .ok (.aload_n 0, 1) := by decide +kernel
theorem dX5_stitches_14 : decode cX5_stitches 14 = .ok (.iload_n 2, 1) := by decide +kernel
theorem dX5_stitches_15 : decode cX5_stitches 15 = .ok (.invokevirtual 62, 3) := by decide +kernel
theorem dX5_stitches_18 : decode cX5_stitches 18 = .ok (.iadd, 1) := by decide +kernel
theorem dX5_stitches_19 : decode cX5_stitches 19 = .ok (.istore_n 1, 1) := by decide +kernel
theorem dX5_stitches_20 : decode cX5_stitches 20 = .ok (.iinc 2 1, 3) := by decide +kernel
theorem dX5_stitches_23 : decode cX5_stitches 23 = .ok (.goto (-19), 3) := by decide +kernel
theorem dX5_stitches_26 : decode cX5_stitches 26 = .ok (.iload_n 1, 1) := by decide +kernel
theorem dX5_stitches_27 : decode cX5_stitches 27 = .ok (.ireturn, 1) := by decide +kernel
theorem dX5_loose_0 : decode cX5_loose 0 = .ok (.iconst 0, 1) := by decide +kernel
theorem dX5_loose_1 : decode cX5_loose 1 = .ok (.istore_n 1, 1) := by decide +kernel
theorem dX5_loose_2 : decode cX5_loose 2 = .ok (.iconst 1, 1) := by decide +kernel
theorem dX5_loose_3 : decode cX5_loose 3 = .ok (.istore_n 2, 1) := by decide +kernel
theorem dX5_loose_4 : decode cX5_loose 4 = .ok (.iload_n 2, 1) := by decide +kernel
theorem dX5_loose_5 : decode cX5_loose 5 = .ok (.aload_n 0, 1) := by decide +kernel
theorem dX5_loose_6 : decode cX5_loose 6 = .ok (.getfield 33, 3) := by decide +kernel
theorem dX5_loose_9 : decode cX5_loose 9 = .ok (.if_icmp .ge 25, 3) := by decide +kernel
theorem dX5_loose_12 : decode cX5_loose 12 = .ok (.iload_n 1, 1) := by decide +kernel
theorem dX5_loose_13 : decode cX5_loose 13 = .ok (.aload_n 0, 1) := by decide +kernel
theorem dX5_loose_14 : decode cX5_loose 14 = .ok (.iload_n 2, 1) := by decide +kernel
theorem dX5_loose_15 : decode cX5_loose 15 = .ok (.invokevirtual 62, 3) := by decide +kernel
theorem dX5_loose_18 : decode cX5_loose 18 = .ok (.ifCond .ne 7, 3) := by decide +kernel
theorem dX5_loose_21 : decode cX5_loose 21 = .ok (.iconst 1, 1) := by decide +kernel
theorem dX5_loose_22 : decode cX5_loose 22 = .ok (.goto 4, 3) := by decide +kernel
theorem dX5_loose_25 : decode cX5_loose 25 = .ok (.iconst 0, 1) := by decide +kernel
theorem dX5_loose_26 : decode cX5_loose 26 = .ok (.iadd, 1) := by decide +kernel
theorem dX5_loose_27 : decode cX5_loose 27 = .ok (.istore_n 1, 1) := by decide +kernel
theorem dX5_loose_28 : decode cX5_loose 28 = .ok (.iinc 2 1, 3) := by decide +kernel
theorem dX5_loose_31 : decode cX5_loose 31 = .ok (.goto (-27), 3) := by decide +kernel
theorem dX5_loose_34 : decode cX5_loose 34 = .ok (.iload_n 1, 1) := by decide +kernel
theorem dX5_loose_35 : decode cX5_loose 35 = .ok (.ireturn, 1) := by decide +kernel
theorem dX5_span_0 : decode cX5_span 0 = .ok (.iconst 0, 1) := by decide +kernel
theorem dX5_span_1 : decode cX5_span 1 = .ok (.istore_n 1, 1) := by decide +kernel
theorem dX5_span_2 : decode cX5_span 2 = .ok (.iconst 4, 1) := by decide +kernel
theorem dX5_span_3 : decode cX5_span 3 = .ok (.istore_n 2, 1) := by decide +kernel
theorem dX5_span_4 : decode cX5_span 4 = .ok (.iload_n 0, 1) := by decide +kernel
theorem dX5_span_5 : decode cX5_span 5 = .ok (.iload_n 1, 1) := by decide +kernel
theorem dX5_span_6 : decode cX5_span 6 = .ok (.ishr, 1) := by decide +kernel
theorem dX5_span_7 : decode cX5_span 7 = .ok (.iconst 1, 1) := by decide +kernel
theorem dX5_span_8 : decode cX5_span 8 = .ok (.iand, 1) := by decide +kernel
theorem dX5_span_9 : decode cX5_span 9 = .ok (.ifCond .ne 9, 3) := by decide +kernel
theorem dX5_span_12 : decode cX5_span 12 = .ok (.iinc 1 1, 3) := by decide +kernel
theorem dX5_span_15 : decode cX5_span 15 = .ok (.goto (-11), 3) := by decide +kernel
theorem dX5_span_18 : decode cX5_span 18 = .ok (.iload_n 0, 1) := by decide +kernel
theorem dX5_span_19 : decode cX5_span 19 = .ok (.iload_n 2, 1) := by decide +kernel
theorem dX5_span_20 : decode cX5_span 20 = .ok (.ishr, 1) := by decide +kernel
theorem dX5_span_21 : decode cX5_span 21 = .ok (.iconst 1, 1) := by decide +kernel
theorem dX5_span_22 : decode cX5_span 22 = .ok (.iand, 1) := by decide +kernel
theorem dX5_span_23 : decode cX5_span 23 = .ok (.ifCond .ne 9, 3) := by decide +kernel
theorem dX5_span_26 : decode cX5_span 26 = .ok (.iinc 2 (-1), 3) := by decide +kernel
theorem dX5_span_29 : decode cX5_span 29 = .ok (.goto (-11), 3) := by decide +kernel
theorem dX5_span_32 : decode cX5_span 32 = .ok (.iload_n 2, 1) := by decide +kernel
theorem dX5_span_33 : decode cX5_span 33 = .ok (.iload_n 1, 1) := by decide +kernel
theorem dX5_span_34 : decode cX5_span 34 = .ok (.isub, 1) := by decide +kernel
theorem dX5_span_35 : decode cX5_span 35 = .ok (.ireturn, 1) := by decide +kernel
theorem dX5_thread_0 : decode cX5_thread 0 = .ok (.aload_n 0, 1) := by decide +kernel
theorem dX5_thread_1 : decode cX5_thread 1 = .ok (.getfield 7, 3) := by decide +kernel
theorem dX5_thread_4 : decode cX5_thread 4 = .ok (.iconst 2, 1) := by decide +kernel
theorem dX5_thread_5 : decode cX5_thread 5 = .ok (.iaload, 1) := by decide +kernel
theorem dX5_thread_6 : decode cX5_thread 6 = .ok (.aload_n 0, 1) := by decide +kernel
theorem dX5_thread_7 : decode cX5_thread 7 = .ok (.invokevirtual 65, 3) := by decide +kernel
theorem dX5_thread_10 : decode cX5_thread 10 = .ok (.imul, 1) := by decide +kernel
theorem dX5_thread_11 : decode cX5_thread 11 = .ok (.istore_n 1, 1) := by decide +kernel
theorem dX5_thread_12 : decode cX5_thread 12 = .ok (.iconst 0, 1) := by decide +kernel
theorem dX5_thread_13 : decode cX5_thread 13 = .ok (.istore_n 2, 1) := by decide +kernel
theorem dX5_thread_14 : decode cX5_thread 14 = .ok (.iload_n 2, 1) := by decide +kernel
theorem dX5_thread_15 : decode cX5_thread 15 = .ok (.aload_n 0, 1) := by decide +kernel
theorem dX5_thread_16 : decode cX5_thread 16 = .ok (.getfield 33, 3) := by decide +kernel
theorem dX5_thread_19 : decode cX5_thread 19 = .ok (.if_icmp .ge 29, 3) := by decide +kernel
theorem dX5_thread_22 : decode cX5_thread 22 = .ok (.iload_n 1, 1) := by decide +kernel
theorem dX5_thread_23 : decode cX5_thread 23 = .ok (.aload_n 0, 1) := by decide +kernel
theorem dX5_thread_24 : decode cX5_thread 24 = .ok (.getfield 7, 3) := by decide +kernel
theorem dX5_thread_27 : decode cX5_thread 27 = .ok (.bipush 54, 2) := by decide +kernel
theorem dX5_thread_29 : decode cX5_thread 29 = .ok (.aload_n 0, 1) := by decide +kernel
theorem dX5_thread_30 : decode cX5_thread 30 = .ok (.getfield 16, 3) := by decide +kernel
theorem dX5_thread_33 : decode cX5_thread 33 = .ok (.iload_n 2, 1) := by decide +kernel
theorem dX5_thread_34 : decode cX5_thread 34 = .ok (.iaload, 1) := by decide +kernel
theorem dX5_thread_35 : decode cX5_thread 35 = .ok (.iadd, 1) := by decide +kernel
theorem dX5_thread_36 : decode cX5_thread 36 = .ok (.iaload, 1) := by decide +kernel
theorem dX5_thread_37 : decode cX5_thread 37 = .ok (.invokestatic 68, 3) := by decide +kernel
theorem dX5_thread_40 : decode cX5_thread 40 = .ok (.iadd, 1) := by decide +kernel
theorem dX5_thread_41 : decode cX5_thread 41 = .ok (.istore_n 1, 1) := by decide +kernel
theorem dX5_thread_42 : decode cX5_thread 42 = .ok (.iinc 2 1, 3) := by decide +kernel
theorem dX5_thread_45 : decode cX5_thread 45 = .ok (.goto (-31), 3) := by decide +kernel
theorem dX5_thread_48 : decode cX5_thread 48 = .ok (.iload_n 1, 1) := by decide +kernel
theorem dX5_thread_49 : decode cX5_thread 49 = .ok (.ireturn, 1) := by decide +kernel
theorem dX5_canGather_0 : decode cX5_canGather 0 = .ok (.aload_n 0, 1) := by decide +kernel
theorem dX5_canGather_1 : decode cX5_canGather 1 = .ok (.getfield 7, 3) := by decide +kernel
theorem dX5_canGather_4 : decode cX5_canGather 4 = .ok (.bipush 6, 2) := by decide +kernel
theorem dX5_canGather_6 : decode cX5_canGather 6 = .ok (.iload_n 1, 1) := by decide +kernel
theorem dX5_canGather_7 : decode cX5_canGather 7 = .ok (.iadd, 1) := by decide +kernel
theorem dX5_canGather_8 : decode cX5_canGather 8 = .ok (.iaload, 1) := by decide +kernel
theorem dX5_canGather_9 : decode cX5_canGather 9 = .ok (.ifCond .le 18, 3) := by decide +kernel
theorem dX5_canGather_12 : decode cX5_canGather 12 = .ok (.aload_n 0, 1) := by decide +kernel
theorem dX5_canGather_13 : decode cX5_canGather 13 = .ok (.getfield 7, 3) := by decide +kernel
theorem dX5_canGather_16 : decode cX5_canGather 16 = .ok (.iconst 3, 1) := by decide +kernel
theorem dX5_canGather_17 : decode cX5_canGather 17 = .ok (.iaload, 1) := by decide +kernel
theorem dX5_canGather_18 : decode cX5_canGather 18 = .ok (.bipush 20, 2) := by decide +kernel
theorem dX5_canGather_20 : decode cX5_canGather 20 = .ok (.if_icmp .ge 7, 3) := by decide +kernel
theorem dX5_canGather_23 : decode cX5_canGather 23 = .ok (.iconst 1, 1) := by decide +kernel
theorem dX5_canGather_24 : decode cX5_canGather 24 = .ok (.goto 4, 3) := by decide +kernel
theorem dX5_canGather_27 : decode cX5_canGather 27 = .ok (.iconst 0, 1) := by decide +kernel
theorem dX5_canGather_28 : decode cX5_canGather 28 = .ok (.ireturn, 1) := by decide +kernel
theorem dX5_inserts_0 : decode cX5_inserts 0 = .ok (.aload_n 0, 1) := by decide +kernel
theorem dX5_inserts_1 : decode cX5_inserts 1 = .ok (.getfield 7, 3) := by decide +kernel
theorem dX5_inserts_4 : decode cX5_inserts 4 = .ok (.iconst 3, 1) := by decide +kernel
theorem dX5_inserts_5 : decode cX5_inserts 5 = .ok (.iaload, 1) := by decide +kernel
theorem dX5_inserts_6 : decode cX5_inserts 6 = .ok (.istore_n 3, 1) := by decide +kernel
theorem dX5_inserts_7 : decode cX5_inserts 7 = .ok (.iload_n 3, 1) := by decide +kernel
theorem dX5_inserts_8 : decode cX5_inserts 8 = .ok (.iload_n 1, 1) := by decide +kernel
theorem dX5_inserts_9 : decode cX5_inserts 9 = .ok (.if_icmp .le 49, 3) := by decide +kernel
theorem dX5_inserts_12 : decode cX5_inserts 12 = .ok (.aload_n 0, 1) := by decide +kernel
theorem dX5_inserts_13 : decode cX5_inserts 13 = .ok (.getfield 7, 3) := by decide +kernel
theorem dX5_inserts_16 : decode cX5_inserts 16 = .ok (.bipush 70, 2) := by decide +kernel
theorem dX5_inserts_18 : decode cX5_inserts 18 = .ok (.iload_n 3, 1) := by decide +kernel
theorem dX5_inserts_19 : decode cX5_inserts 19 = .ok (.iadd, 1) := by decide +kernel
theorem dX5_inserts_20 : decode cX5_inserts 20 = .ok (.aload_n 0, 1) := by decide +kernel
theorem dX5_inserts_21 : decode cX5_inserts 21 = .ok (.getfield 7, 3) := by decide +kernel
theorem dX5_inserts_24 : decode cX5_inserts 24 = .ok (.bipush 70, 2) := by decide +kernel
theorem dX5_inserts_26 : decode cX5_inserts 26 = .ok (.iload_n 3, 1) := by decide +kernel
theorem dX5_inserts_27 : decode cX5_inserts 27 = .ok (.iadd, 1) := by decide +kernel
theorem dX5_inserts_28 : decode cX5_inserts 28 = .ok (.iconst 1, 1) := by decide +kernel
theorem dX5_inserts_29 : decode cX5_inserts 29 = .ok (.isub, 1) := by decide +kernel
theorem dX5_inserts_30 : decode cX5_inserts 30 = .ok (.iaload, 1) := by decide +kernel
theorem dX5_inserts_31 : decode cX5_inserts 31 = .ok (.iastore, 1) := by decide +kernel
theorem dX5_inserts_32 : decode cX5_inserts 32 = .ok (.aload_n 0, 1) := by decide +kernel
theorem dX5_inserts_33 : decode cX5_inserts 33 = .ok (.getfield 7, 3) := by decide +kernel
theorem dX5_inserts_36 : decode cX5_inserts 36 = .ok (.bipush 90, 2) := by decide +kernel
theorem dX5_inserts_38 : decode cX5_inserts 38 = .ok (.iload_n 3, 1) := by decide +kernel
theorem dX5_inserts_39 : decode cX5_inserts 39 = .ok (.iadd, 1) := by decide +kernel
theorem dX5_inserts_40 : decode cX5_inserts 40 = .ok (.aload_n 0, 1) := by decide +kernel
theorem dX5_inserts_41 : decode cX5_inserts 41 = .ok (.getfield 7, 3) := by decide +kernel
theorem dX5_inserts_44 : decode cX5_inserts 44 = .ok (.bipush 90, 2) := by decide +kernel
theorem dX5_inserts_46 : decode cX5_inserts 46 = .ok (.iload_n 3, 1) := by decide +kernel
theorem dX5_inserts_47 : decode cX5_inserts 47 = .ok (.iadd, 1) := by decide +kernel
theorem dX5_inserts_48 : decode cX5_inserts 48 = .ok (.iconst 1, 1) := by decide +kernel
theorem dX5_inserts_49 : decode cX5_inserts 49 = .ok (.isub, 1) := by decide +kernel
theorem dX5_inserts_50 : decode cX5_inserts 50 = .ok (.iaload, 1) := by decide +kernel
theorem dX5_inserts_51 : decode cX5_inserts 51 = .ok (.iastore, 1) := by decide +kernel
theorem dX5_inserts_52 : decode cX5_inserts 52 = .ok (.iinc 3 (-1), 3) := by decide +kernel
theorem dX5_inserts_55 : decode cX5_inserts 55 = .ok (.goto (-48), 3) := by decide +kernel
theorem dX5_inserts_58 : decode cX5_inserts 58 = .ok (.aload_n 0, 1) := by decide +kernel
theorem dX5_inserts_59 : decode cX5_inserts 59 = .ok (.getfield 7, 3) := by decide +kernel
theorem dX5_inserts_62 : decode cX5_inserts 62 = .ok (.bipush 70, 2) := by decide +kernel
theorem dX5_inserts_64 : decode cX5_inserts 64 = .ok (.iload_n 1, 1) := by decide +kernel
theorem dX5_inserts_65 : decode cX5_inserts 65 = .ok (.iadd, 1) := by decide +kernel
theorem dX5_inserts_66 : decode cX5_inserts 66 = .ok (.iload_n 2, 1) := by decide +kernel
theorem dX5_inserts_67 : decode cX5_inserts 67 = .ok (.iastore, 1) := by decide +kernel
theorem dX5_inserts_68 : decode cX5_inserts 68 = .ok (.aload_n 0, 1) := by decide +kernel
theorem dX5_inserts_69 : decode cX5_inserts 69 = .ok (.getfield 7, 3) := by decide +kernel
theorem dX5_inserts_72 : decode cX5_inserts 72 = .ok (.bipush 90, 2) := by decide +kernel
theorem dX5_inserts_74 : decode cX5_inserts 74 = .ok (.iload_n 1, 1) := by decide +kernel
theorem dX5_inserts_75 : decode cX5_inserts 75 = .ok (.iadd, 1) := by decide +kernel
theorem dX5_inserts_76 : decode cX5_inserts 76 = .ok (.iconst 0, 1) := by decide +kernel
theorem dX5_inserts_77 : decode cX5_inserts 77 = .ok (.iastore, 1) := by decide +kernel
theorem dX5_inserts_78 : decode cX5_inserts 78 = .ok (.aload_n 0, 1) := by decide +kernel
theorem dX5_inserts_79 : decode cX5_inserts 79 = .ok (.getfield 7, 3) := by decide +kernel
theorem dX5_inserts_82 : decode cX5_inserts 82 = .ok (.bipush 6, 2) := by decide +kernel
theorem dX5_inserts_84 : decode cX5_inserts 84 = .ok (.iload_n 2, 1) := by decide +kernel
theorem dX5_inserts_85 : decode cX5_inserts 85 = .ok (.iadd, 1) := by decide +kernel
theorem dX5_inserts_86 : decode cX5_inserts 86 = .ok (.dup2, 1) := by decide +kernel
theorem dX5_inserts_87 : decode cX5_inserts 87 = .ok (.iaload, 1) := by decide +kernel
theorem dX5_inserts_88 : decode cX5_inserts 88 = .ok (.iconst 1, 1) := by decide +kernel
theorem dX5_inserts_89 : decode cX5_inserts 89 = .ok (.isub, 1) := by decide +kernel
theorem dX5_inserts_90 : decode cX5_inserts 90 = .ok (.iastore, 1) := by decide +kernel
theorem dX5_inserts_91 : decode cX5_inserts 91 = .ok (.aload_n 0, 1) := by decide +kernel
theorem dX5_inserts_92 : decode cX5_inserts 92 = .ok (.getfield 7, 3) := by decide +kernel
theorem dX5_inserts_95 : decode cX5_inserts 95 = .ok (.iconst 3, 1) := by decide +kernel
theorem dX5_inserts_96 : decode cX5_inserts 96 = .ok (.dup2, 1) := by decide +kernel
theorem dX5_inserts_97 : decode cX5_inserts 97 = .ok (.iaload, 1) := by decide +kernel
theorem dX5_inserts_98 : decode cX5_inserts 98 = .ok (.iconst 1, 1) := by decide +kernel
theorem dX5_inserts_99 : decode cX5_inserts 99 = .ok (.iadd, 1) := by decide +kernel
theorem dX5_inserts_100 : decode cX5_inserts 100 = .ok (.iastore, 1) := by decide +kernel
theorem dX5_inserts_101 : decode cX5_inserts 101 = .ok (.aload_n 0, 1) := by decide +kernel
theorem dX5_inserts_102 : decode cX5_inserts 102 = .ok (.getfield 7, 3) := by decide +kernel
theorem dX5_inserts_105 : decode cX5_inserts 105 = .ok (.iconst 3, 1) := by decide +kernel
theorem dX5_inserts_106 : decode cX5_inserts 106 = .ok (.iaload, 1) := by decide +kernel
theorem dX5_inserts_107 : decode cX5_inserts 107 = .ok (.ireturn, 1) := by decide +kernel
theorem dX5_pulls_0 : decode cX5_pulls 0 = .ok (.aload_n 0, 1) := by decide +kernel
theorem dX5_pulls_1 : decode cX5_pulls 1 = .ok (.getfield 7, 3) := by decide +kernel
theorem dX5_pulls_4 : decode cX5_pulls 4 = .ok (.bipush 70, 2) := by decide +kernel
theorem dX5_pulls_6 : decode cX5_pulls 6 = .ok (.iload_n 1, 1) := by decide +kernel
theorem dX5_pulls_7 : decode cX5_pulls 7 = .ok (.iadd, 1) := by decide +kernel
theorem dX5_pulls_8 : decode cX5_pulls 8 = .ok (.iaload, 1) := by decide +kernel
theorem dX5_pulls_9 : decode cX5_pulls 9 = .ok (.istore_n 2, 1) := by decide +kernel
theorem dX5_pulls_10 : decode cX5_pulls 10 = .ok (.aload_n 0, 1) := by decide +kernel
theorem dX5_pulls_11 : decode cX5_pulls 11 = .ok (.getfield 7, 3) := by decide +kernel
theorem dX5_pulls_14 : decode cX5_pulls 14 = .ok (.iconst 3, 1) := by decide +kernel
theorem dX5_pulls_15 : decode cX5_pulls 15 = .ok (.dup2, 1) := by decide +kernel
theorem dX5_pulls_16 : decode cX5_pulls 16 = .ok (.iaload, 1) := by decide +kernel
theorem dX5_pulls_17 : decode cX5_pulls 17 = .ok (.iconst 1, 1) := by decide +kernel
theorem dX5_pulls_18 : decode cX5_pulls 18 = .ok (.isub, 1) := by decide +kernel
theorem dX5_pulls_19 : decode cX5_pulls 19 = .ok (.iastore, 1) := by decide +kernel
theorem dX5_pulls_20 : decode cX5_pulls 20 = .ok (.iload_n 1, 1) := by decide +kernel
theorem dX5_pulls_21 : decode cX5_pulls 21 = .ok (.istore_n 3, 1) := by decide +kernel
theorem dX5_pulls_22 : decode cX5_pulls 22 = .ok (.iload_n 3, 1) := by decide +kernel
theorem dX5_pulls_23 : decode cX5_pulls 23 = .ok (.aload_n 0, 1) := by decide +kernel
theorem dX5_pulls_24 : decode cX5_pulls 24 = .ok (.getfield 7, 3) := by decide +kernel
theorem dX5_pulls_27 : decode cX5_pulls 27 = .ok (.iconst 3, 1) := by decide +kernel
theorem dX5_pulls_28 : decode cX5_pulls 28 = .ok (.iaload, 1) := by decide +kernel
theorem dX5_pulls_29 : decode cX5_pulls 29 = .ok (.if_icmp .ge 49, 3) := by decide +kernel
theorem dX5_pulls_32 : decode cX5_pulls 32 = .ok (.aload_n 0, 1) := by decide +kernel
theorem dX5_pulls_33 : decode cX5_pulls 33 = .ok (.getfield 7, 3) := by decide +kernel
theorem dX5_pulls_36 : decode cX5_pulls 36 = .ok (.bipush 70, 2) := by decide +kernel
theorem dX5_pulls_38 : decode cX5_pulls 38 = .ok (.iload_n 3, 1) := by decide +kernel
theorem dX5_pulls_39 : decode cX5_pulls 39 = .ok (.iadd, 1) := by decide +kernel
theorem dX5_pulls_40 : decode cX5_pulls 40 = .ok (.aload_n 0, 1) := by decide +kernel
theorem dX5_pulls_41 : decode cX5_pulls 41 = .ok (.getfield 7, 3) := by decide +kernel
theorem dX5_pulls_44 : decode cX5_pulls 44 = .ok (.bipush 70, 2) := by decide +kernel
theorem dX5_pulls_46 : decode cX5_pulls 46 = .ok (.iload_n 3, 1) := by decide +kernel
theorem dX5_pulls_47 : decode cX5_pulls 47 = .ok (.iadd, 1) := by decide +kernel
theorem dX5_pulls_48 : decode cX5_pulls 48 = .ok (.iconst 1, 1) := by decide +kernel
theorem dX5_pulls_49 : decode cX5_pulls 49 = .ok (.iadd, 1) := by decide +kernel
theorem dX5_pulls_50 : decode cX5_pulls 50 = .ok (.iaload, 1) := by decide +kernel
theorem dX5_pulls_51 : decode cX5_pulls 51 = .ok (.iastore, 1) := by decide +kernel
theorem dX5_pulls_52 : decode cX5_pulls 52 = .ok (.aload_n 0, 1) := by decide +kernel
theorem dX5_pulls_53 : decode cX5_pulls 53 = .ok (.getfield 7, 3) := by decide +kernel
theorem dX5_pulls_56 : decode cX5_pulls 56 = .ok (.bipush 90, 2) := by decide +kernel
theorem dX5_pulls_58 : decode cX5_pulls 58 = .ok (.iload_n 3, 1) := by decide +kernel
theorem dX5_pulls_59 : decode cX5_pulls 59 = .ok (.iadd, 1) := by decide +kernel
theorem dX5_pulls_60 : decode cX5_pulls 60 = .ok (.aload_n 0, 1) := by decide +kernel
theorem dX5_pulls_61 : decode cX5_pulls 61 = .ok (.getfield 7, 3) := by decide +kernel
theorem dX5_pulls_64 : decode cX5_pulls 64 = .ok (.bipush 90, 2) := by decide +kernel
theorem dX5_pulls_66 : decode cX5_pulls 66 = .ok (.iload_n 3, 1) := by decide +kernel
theorem dX5_pulls_67 : decode cX5_pulls 67 = .ok (.iadd, 1) := by decide +kernel
theorem dX5_pulls_68 : decode cX5_pulls 68 = .ok (.iconst 1, 1) := by decide +kernel
theorem dX5_pulls_69 : decode cX5_pulls 69 = .ok (.iadd, 1) := by decide +kernel
theorem dX5_pulls_70 : decode cX5_pulls 70 = .ok (.iaload, 1) := by decide +kernel
theorem dX5_pulls_71 : decode cX5_pulls 71 = .ok (.iastore, 1) := by decide +kernel
theorem dX5_pulls_72 : decode cX5_pulls 72 = .ok (.iinc 3 1, 3) := by decide +kernel
theorem dX5_pulls_75 : decode cX5_pulls 75 = .ok (.goto (-53), 3) := by decide +kernel
theorem dX5_pulls_78 : decode cX5_pulls 78 = .ok (.aload_n 0, 1) := by decide +kernel
theorem dX5_pulls_79 : decode cX5_pulls 79 = .ok (.getfield 7, 3) := by decide +kernel
theorem dX5_pulls_82 : decode cX5_pulls 82 = .ok (.bipush 6, 2) := by decide +kernel
theorem dX5_pulls_84 : decode cX5_pulls 84 = .ok (.iload_n 2, 1) := by decide +kernel
theorem dX5_pulls_85 : decode cX5_pulls 85 = .ok (.iadd, 1) := by decide +kernel
theorem dX5_pulls_86 : decode cX5_pulls 86 = .ok (.dup2, 1) := by decide +kernel
theorem dX5_pulls_87 : decode cX5_pulls 87 = .ok (.iaload, 1) := by decide +kernel
theorem dX5_pulls_88 : decode cX5_pulls 88 = .ok (.iconst 1, 1) := by decide +kernel
theorem dX5_pulls_89 : decode cX5_pulls 89 = .ok (.iadd, 1) := by decide +kernel
theorem dX5_pulls_90 : decode cX5_pulls 90 = .ok (.iastore, 1) := by decide +kernel
theorem dX5_pulls_91 : decode cX5_pulls 91 = .ok (.iload_n 2, 1) := by decide +kernel
theorem dX5_pulls_92 : decode cX5_pulls 92 = .ok (.ireturn, 1) := by decide +kernel
theorem dX5_flips_0 : decode cX5_flips 0 = .ok (.aload_n 0, 1) := by decide +kernel
theorem dX5_flips_1 : decode cX5_flips 1 = .ok (.getfield 7, 3) := by decide +kernel
theorem dX5_flips_4 : decode cX5_flips 4 = .ok (.bipush 90, 2) := by decide +kernel
theorem dX5_flips_6 : decode cX5_flips 6 = .ok (.iload_n 1, 1) := by decide +kernel
theorem dX5_flips_7 : decode cX5_flips 7 = .ok (.iadd, 1) := by decide +kernel
theorem dX5_flips_8 : decode cX5_flips 8 = .ok (.iconst 1, 1) := by decide +kernel
theorem dX5_flips_9 : decode cX5_flips 9 = .ok (.aload_n 0, 1) := by decide +kernel
theorem dX5_flips_10 : decode cX5_flips 10 = .ok (.getfield 7, 3) := by decide +kernel
theorem dX5_flips_13 : decode cX5_flips 13 = .ok (.bipush 90, 2) := by decide +kernel
theorem dX5_flips_15 : decode cX5_flips 15 = .ok (.iload_n 1, 1) := by decide +kernel
theorem dX5_flips_16 : decode cX5_flips 16 = .ok (.iadd, 1) := by decide +kernel
theorem dX5_flips_17 : decode cX5_flips 17 = .ok (.iaload, 1) := by decide +kernel
theorem dX5_flips_18 : decode cX5_flips 18 = .ok (.isub, 1) := by decide +kernel
theorem dX5_flips_19 : decode cX5_flips 19 = .ok (.iastore, 1) := by decide +kernel
theorem dX5_flips_20 : decode cX5_flips 20 = .ok (.aload_n 0, 1) := by decide +kernel
theorem dX5_flips_21 : decode cX5_flips 21 = .ok (.aload_n 0, 1) := by decide +kernel
theorem dX5_flips_22 : decode cX5_flips 22 = .ok (.getfield 7, 3) := by decide +kernel
theorem dX5_flips_25 : decode cX5_flips 25 = .ok (.bipush 70, 2) := by decide +kernel
theorem dX5_flips_27 : decode cX5_flips 27 = .ok (.iload_n 1, 1) := by decide +kernel
theorem dX5_flips_28 : decode cX5_flips 28 = .ok (.iadd, 1) := by decide +kernel
theorem dX5_flips_29 : decode cX5_flips 29 = .ok (.iaload, 1) := by decide +kernel
theorem dX5_flips_30 : decode cX5_flips 30 = .ok (.aload_n 0, 1) := by decide +kernel
theorem dX5_flips_31 : decode cX5_flips 31 = .ok (.getfield 7, 3) := by decide +kernel
theorem dX5_flips_34 : decode cX5_flips 34 = .ok (.bipush 90, 2) := by decide +kernel
theorem dX5_flips_36 : decode cX5_flips 36 = .ok (.iload_n 1, 1) := by decide +kernel
theorem dX5_flips_37 : decode cX5_flips 37 = .ok (.iadd, 1) := by decide +kernel
theorem dX5_flips_38 : decode cX5_flips 38 = .ok (.iaload, 1) := by decide +kernel
theorem dX5_flips_39 : decode cX5_flips 39 = .ok (.invokevirtual 36, 3) := by decide +kernel
theorem dX5_flips_42 : decode cX5_flips 42 = .ok (.ireturn, 1) := by decide +kernel
theorem dX5_moves_0 : decode cX5_moves 0 = .ok (.aload_n 0, 1) := by decide +kernel
theorem dX5_moves_1 : decode cX5_moves 1 = .ok (.getfield 7, 3) := by decide +kernel
theorem dX5_moves_4 : decode cX5_moves 4 = .ok (.bipush 70, 2) := by decide +kernel
theorem dX5_moves_6 : decode cX5_moves 6 = .ok (.iload_n 1, 1) := by decide +kernel
theorem dX5_moves_7 : decode cX5_moves 7 = .ok (.iadd, 1) := by decide +kernel
theorem dX5_moves_8 : decode cX5_moves 8 = .ok (.iaload, 1) := by decide +kernel
theorem dX5_moves_9 : decode cX5_moves 9 = .ok (.istore_n 3, 1) := by decide +kernel
theorem dX5_moves_10 : decode cX5_moves 10 = .ok (.aload_n 0, 1) := by decide +kernel
theorem dX5_moves_11 : decode cX5_moves 11 = .ok (.getfield 7, 3) := by decide +kernel
theorem dX5_moves_14 : decode cX5_moves 14 = .ok (.bipush 90, 2) := by decide +kernel
theorem dX5_moves_16 : decode cX5_moves 16 = .ok (.iload_n 1, 1) := by decide +kernel
theorem dX5_moves_17 : decode cX5_moves 17 = .ok (.iadd, 1) := by decide +kernel
theorem dX5_moves_18 : decode cX5_moves 18 = .ok (.iaload, 1) := by decide +kernel
theorem dX5_moves_19 : decode cX5_moves 19 = .ok (.istore 4, 2) := by decide +kernel
theorem dX5_moves_21 : decode cX5_moves 21 = .ok (.iload_n 2, 1) := by decide +kernel
theorem dX5_moves_22 : decode cX5_moves 22 = .ok (.iload_n 1, 1) := by decide +kernel
theorem dX5_moves_23 : decode cX5_moves 23 = .ok (.if_icmp .le 7, 3) := by decide +kernel
theorem dX5_moves_26 : decode cX5_moves 26 = .ok (.iconst 1, 1) := by decide +kernel
theorem dX5_moves_27 : decode cX5_moves 27 = .ok (.goto 4, 3) := by decide +kernel
theorem dX5_moves_30 : decode cX5_moves 30 = .ok (.iconst (-1), 1) := by decide +kernel
theorem dX5_moves_31 : decode cX5_moves 31 = .ok (.istore 5, 2) := by decide +kernel
theorem dX5_moves_33 : decode cX5_moves 33 = .ok (.iload_n 1, 1) := by decide +kernel
theorem dX5_moves_34 : decode cX5_moves 34 = .ok (.istore 6, 2) := by decide +kernel
theorem dX5_moves_36 : decode cX5_moves 36 = .ok (.iload 6, 2) := by decide +kernel
theorem dX5_moves_38 : decode cX5_moves 38 = .ok (.iload_n 2, 1) := by decide +kernel
theorem dX5_moves_39 : decode cX5_moves 39 = .ok (.if_icmp .eq 59, 3) := by decide +kernel
theorem dX5_moves_42 : decode cX5_moves 42 = .ok (.aload_n 0, 1) := by decide +kernel
theorem dX5_moves_43 : decode cX5_moves 43 = .ok (.getfield 7, 3) := by decide +kernel
theorem dX5_moves_46 : decode cX5_moves 46 = .ok (.bipush 70, 2) := by decide +kernel
theorem dX5_moves_48 : decode cX5_moves 48 = .ok (.iload 6, 2) := by decide +kernel
theorem dX5_moves_50 : decode cX5_moves 50 = .ok (.iadd, 1) := by decide +kernel
theorem dX5_moves_51 : decode cX5_moves 51 = .ok (.aload_n 0, 1) := by decide +kernel
theorem dX5_moves_52 : decode cX5_moves 52 = .ok (.getfield 7, 3) := by decide +kernel
theorem dX5_moves_55 : decode cX5_moves 55 = .ok (.bipush 70, 2) := by decide +kernel
theorem dX5_moves_57 : decode cX5_moves 57 = .ok (.iload 6, 2) := by decide +kernel
theorem dX5_moves_59 : decode cX5_moves 59 = .ok (.iadd, 1) := by decide +kernel
theorem dX5_moves_60 : decode cX5_moves 60 = .ok (.iload 5, 2) := by decide +kernel
theorem dX5_moves_62 : decode cX5_moves 62 = .ok (.iadd, 1) := by decide +kernel
theorem dX5_moves_63 : decode cX5_moves 63 = .ok (.iaload, 1) := by decide +kernel
theorem dX5_moves_64 : decode cX5_moves 64 = .ok (.iastore, 1) := by decide +kernel
theorem dX5_moves_65 : decode cX5_moves 65 = .ok (.aload_n 0, 1) := by decide +kernel
theorem dX5_moves_66 : decode cX5_moves 66 = .ok (.getfield 7, 3) := by decide +kernel
theorem dX5_moves_69 : decode cX5_moves 69 = .ok (.bipush 90, 2) := by decide +kernel
theorem dX5_moves_71 : decode cX5_moves 71 = .ok (.iload 6, 2) := by decide +kernel
theorem dX5_moves_73 : decode cX5_moves 73 = .ok (.iadd, 1) := by decide +kernel
theorem dX5_moves_74 : decode cX5_moves 74 = .ok (.aload_n 0, 1) := by decide +kernel
theorem dX5_moves_75 : decode cX5_moves 75 = .ok (.getfield 7, 3) := by decide +kernel
theorem dX5_moves_78 : decode cX5_moves 78 = .ok (.bipush 90, 2) := by decide +kernel
theorem dX5_moves_80 : decode cX5_moves 80 = .ok (.iload 6, 2) := by decide +kernel
theorem dX5_moves_82 : decode cX5_moves 82 = .ok (.iadd, 1) := by decide +kernel
theorem dX5_moves_83 : decode cX5_moves 83 = .ok (.iload 5, 2) := by decide +kernel
theorem dX5_moves_85 : decode cX5_moves 85 = .ok (.iadd, 1) := by decide +kernel
theorem dX5_moves_86 : decode cX5_moves 86 = .ok (.iaload, 1) := by decide +kernel
theorem dX5_moves_87 : decode cX5_moves 87 = .ok (.iastore, 1) := by decide +kernel
theorem dX5_moves_88 : decode cX5_moves 88 = .ok (.iload 6, 2) := by decide +kernel
theorem dX5_moves_90 : decode cX5_moves 90 = .ok (.iload 5, 2) := by decide +kernel
theorem dX5_moves_92 : decode cX5_moves 92 = .ok (.iadd, 1) := by decide +kernel
theorem dX5_moves_93 : decode cX5_moves 93 = .ok (.istore 6, 2) := by decide +kernel
theorem dX5_moves_95 : decode cX5_moves 95 = .ok (.goto (-59), 3) := by decide +kernel
theorem dX5_moves_98 : decode cX5_moves 98 = .ok (.aload_n 0, 1) := by decide +kernel
theorem dX5_moves_99 : decode cX5_moves 99 = .ok (.getfield 7, 3) := by decide +kernel
theorem dX5_moves_102 : decode cX5_moves 102 = .ok (.bipush 70, 2) := by decide +kernel
theorem dX5_moves_104 : decode cX5_moves 104 = .ok (.iload_n 2, 1) := by decide +kernel
theorem dX5_moves_105 : decode cX5_moves 105 = .ok (.iadd, 1) := by decide +kernel
theorem dX5_moves_106 : decode cX5_moves 106 = .ok (.iload_n 3, 1) := by decide +kernel
theorem dX5_moves_107 : decode cX5_moves 107 = .ok (.iastore, 1) := by decide +kernel
theorem dX5_moves_108 : decode cX5_moves 108 = .ok (.aload_n 0, 1) := by decide +kernel
theorem dX5_moves_109 : decode cX5_moves 109 = .ok (.getfield 7, 3) := by decide +kernel
theorem dX5_moves_112 : decode cX5_moves 112 = .ok (.bipush 90, 2) := by decide +kernel
theorem dX5_moves_114 : decode cX5_moves 114 = .ok (.iload_n 2, 1) := by decide +kernel
theorem dX5_moves_115 : decode cX5_moves 115 = .ok (.iadd, 1) := by decide +kernel
theorem dX5_moves_116 : decode cX5_moves 116 = .ok (.iload 4, 2) := by decide +kernel
theorem dX5_moves_118 : decode cX5_moves 118 = .ok (.iastore, 1) := by decide +kernel
theorem dX5_moves_119 : decode cX5_moves 119 = .ok (.aload_n 0, 1) := by decide +kernel
theorem dX5_moves_120 : decode cX5_moves 120 = .ok (.iconst (-1), 1) := by decide +kernel
theorem dX5_moves_121 : decode cX5_moves 121 = .ok (.invokevirtual 71, 3) := by decide +kernel
theorem dX5_moves_124 : decode cX5_moves 124 = .ok (.aload_n 0, 1) := by decide +kernel
theorem dX5_moves_125 : decode cX5_moves 125 = .ok (.invokevirtual 75, 3) := by decide +kernel
theorem dX5_moves_128 : decode cX5_moves 128 = .ok (.ireturn, 1) := by decide +kernel
theorem dX5_canBind_0 : decode cX5_canBind 0 = .ok (.aload_n 0, 1) := by decide +kernel
theorem dX5_canBind_1 : decode cX5_canBind 1 = .ok (.iconst (-1), 1) := by decide +kernel
theorem dX5_canBind_2 : decode cX5_canBind 2 = .ok (.invokevirtual 71, 3) := by decide +kernel
theorem dX5_canBind_5 : decode cX5_canBind 5 = .ok (.aload_n 0, 1) := by decide +kernel
theorem dX5_canBind_6 : decode cX5_canBind 6 = .ok (.invokevirtual 78, 3) := by decide +kernel
theorem dX5_canBind_9 : decode cX5_canBind 9 = .ok (.ifCond .ne 7, 3) := by decide +kernel
theorem dX5_canBind_12 : decode cX5_canBind 12 = .ok (.iconst 1, 1) := by decide +kernel
theorem dX5_canBind_13 : decode cX5_canBind 13 = .ok (.goto 4, 3) := by decide +kernel
theorem dX5_canBind_16 : decode cX5_canBind 16 = .ok (.iconst 0, 1) := by decide +kernel
theorem dX5_canBind_17 : decode cX5_canBind 17 = .ok (.ireturn, 1) := by decide +kernel
theorem dX5_binds_0 : decode cX5_binds 0 = .ok (.iconst 0, 1) := by decide +kernel
theorem dX5_binds_1 : decode cX5_binds 1 = .ok (.istore_n 1, 1) := by decide +kernel
theorem dX5_binds_2 : decode cX5_binds 2 = .ok (.iload_n 1, 1) := by decide +kernel
theorem dX5_binds_3 : decode cX5_binds 3 = .ok (.aload_n 0, 1) := by decide +kernel
theorem dX5_binds_4 : decode cX5_binds 4 = .ok (.getfield 7, 3) := by decide +kernel
theorem dX5_binds_7 : decode cX5_binds 7 = .ok (.iconst 3, 1) := by decide +kernel
theorem dX5_binds_8 : decode cX5_binds 8 = .ok (.iaload, 1) := by decide +kernel
theorem dX5_binds_9 : decode cX5_binds 9 = .ok (.if_icmp .ge 30, 3) := by decide +kernel
theorem dX5_binds_12 : decode cX5_binds 12 = .ok (.aload_n 0, 1) := by decide +kernel
theorem dX5_binds_13 : decode cX5_binds 13 = .ok (.getfield 7, 3) := by decide +kernel
theorem dX5_binds_16 : decode cX5_binds 16 = .ok (.bipush 22, 2) := by decide +kernel
theorem dX5_binds_18 : decode cX5_binds 18 = .ok (.aload_n 0, 1) := by decide +kernel
theorem dX5_binds_19 : decode cX5_binds 19 = .ok (.getfield 7, 3) := by decide +kernel
theorem dX5_binds_22 : decode cX5_binds 22 = .ok (.bipush 70, 2) := by decide +kernel
theorem dX5_binds_24 : decode cX5_binds 24 = .ok (.iload_n 1, 1) := by decide +kernel
theorem dX5_binds_25 : decode cX5_binds 25 = .ok (.iadd, 1) := by decide +kernel
theorem dX5_binds_26 : decode cX5_binds 26 = .ok (.iaload, 1) := by decide +kernel
theorem dX5_binds_27 : decode cX5_binds 27 = .ok (.iadd, 1) := by decide +kernel
theorem dX5_binds_28 : decode cX5_binds 28 = .ok (.dup2, 1) := by decide +kernel
theorem dX5_binds_29 : decode cX5_binds 29 = .ok (.iaload, 1) := by decide +kernel
theorem dX5_binds_30 : decode cX5_binds 30 = .ok (.iconst 1, 1) := by decide +kernel
theorem dX5_binds_31 : decode cX5_binds 31 = .ok (.iadd, 1) := by decide +kernel
theorem dX5_binds_32 : decode cX5_binds 32 = .ok (.iastore, 1) := by decide +kernel
theorem dX5_binds_33 : decode cX5_binds 33 = .ok (.iinc 1 1, 3) := by decide +kernel
theorem dX5_binds_36 : decode cX5_binds 36 = .ok (.goto (-34), 3) := by decide +kernel
theorem dX5_binds_39 : decode cX5_binds 39 = .ok (.aload_n 0, 1) := by decide +kernel
theorem dX5_binds_40 : decode cX5_binds 40 = .ok (.getfield 7, 3) := by decide +kernel
theorem dX5_binds_43 : decode cX5_binds 43 = .ok (.iconst 3, 1) := by decide +kernel
theorem dX5_binds_44 : decode cX5_binds 44 = .ok (.iconst 0, 1) := by decide +kernel
theorem dX5_binds_45 : decode cX5_binds 45 = .ok (.iastore, 1) := by decide +kernel
theorem dX5_binds_46 : decode cX5_binds 46 = .ok (.aload_n 0, 1) := by decide +kernel
theorem dX5_binds_47 : decode cX5_binds 47 = .ok (.getfield 7, 3) := by decide +kernel
theorem dX5_binds_50 : decode cX5_binds 50 = .ok (.iconst 4, 1) := by decide +kernel
theorem dX5_binds_51 : decode cX5_binds 51 = .ok (.dup2, 1) := by decide +kernel
theorem dX5_binds_52 : decode cX5_binds 52 = .ok (.iaload, 1) := by decide +kernel
theorem dX5_binds_53 : decode cX5_binds 53 = .ok (.iconst 1, 1) := by decide +kernel
theorem dX5_binds_54 : decode cX5_binds 54 = .ok (.iadd, 1) := by decide +kernel
theorem dX5_binds_55 : decode cX5_binds 55 = .ok (.iastore, 1) := by decide +kernel
theorem dX5_binds_56 : decode cX5_binds 56 = .ok (.aload_n 0, 1) := by decide +kernel
theorem dX5_binds_57 : decode cX5_binds 57 = .ok (.getfield 7, 3) := by decide +kernel
theorem dX5_binds_60 : decode cX5_binds 60 = .ok (.iconst 4, 1) := by decide +kernel
theorem dX5_binds_61 : decode cX5_binds 61 = .ok (.iaload, 1) := by decide +kernel
theorem dX5_binds_62 : decode cX5_binds 62 = .ok (.ireturn, 1) := by decide +kernel
theorem dX5_copies_0 : decode cX5_copies 0 = .ok (.iconst 0, 1) := by decide +kernel
theorem dX5_copies_1 : decode cX5_copies 1 = .ok (.istore_n 3, 1) := by decide +kernel
theorem dX5_copies_2 : decode cX5_copies 2 = .ok (.iload_n 3, 1) := by decide +kernel
theorem dX5_copies_3 : decode cX5_copies 3 = .ok (.bipush 110, 2) := by decide +kernel
theorem dX5_copies_5 : decode cX5_copies 5 = .ok (.if_icmp .ge 31, 3) := by decide +kernel
theorem dX5_copies_8 : decode cX5_copies 8 = .ok (.aload_n 0, 1) := by decide +kernel
theorem dX5_copies_9 : decode cX5_copies 9 = .ok (.getfield 7, 3) := by decide +kernel
theorem dX5_copies_12 : decode cX5_copies 12 = .ok (.bipush 110, 2) := by decide +kernel
theorem dX5_copies_14 : decode cX5_copies 14 = .ok (.iload_n 2, 1) := by decide +kernel
theorem dX5_copies_15 : decode cX5_copies 15 = .ok (.imul, 1) := by decide +kernel
theorem dX5_copies_16 : decode cX5_copies 16 = .ok (.iload_n 3, 1) := by decide +kernel
theorem dX5_copies_17 : decode cX5_copies 17 = .ok (.iadd, 1) := by decide +kernel
theorem dX5_copies_18 : decode cX5_copies 18 = .ok (.aload_n 0, 1) := by decide +kernel
theorem dX5_copies_19 : decode cX5_copies 19 = .ok (.getfield 7, 3) := by decide +kernel
theorem dX5_copies_22 : decode cX5_copies 22 = .ok (.bipush 110, 2) := by decide +kernel
theorem dX5_copies_24 : decode cX5_copies 24 = .ok (.iload_n 1, 1) := by decide +kernel
theorem dX5_copies_25 : decode cX5_copies 25 = .ok (.imul, 1) := by decide +kernel
theorem dX5_copies_26 : decode cX5_copies 26 = .ok (.iload_n 3, 1) := by decide +kernel
theorem dX5_copies_27 : decode cX5_copies 27 = .ok (.iadd, 1) := by decide +kernel
theorem dX5_copies_28 : decode cX5_copies 28 = .ok (.iaload, 1) := by decide +kernel
theorem dX5_copies_29 : decode cX5_copies 29 = .ok (.iastore, 1) := by decide +kernel
theorem dX5_copies_30 : decode cX5_copies 30 = .ok (.iinc 3 1, 3) := by decide +kernel
theorem dX5_copies_33 : decode cX5_copies 33 = .ok (.goto (-31), 3) := by decide +kernel
theorem dX5_copies_36 : decode cX5_copies 36 = .ok (.return_, 1) := by decide +kernel
theorem dX5_save_0 : decode cX5_save 0 = .ok (.iconst 1, 1) := by decide +kernel
theorem dX5_save_1 : decode cX5_save 1 = .ok (.istore_n 1, 1) := by decide +kernel
theorem dX5_save_2 : decode cX5_save 2 = .ok (.iload_n 1, 1) := by decide +kernel
theorem dX5_save_3 : decode cX5_save 3 = .ok (.bipush 6, 2) := by decide +kernel
theorem dX5_save_5 : decode cX5_save 5 = .ok (.if_icmp .ge 26, 3) := by decide +kernel
theorem dX5_save_8 : decode cX5_save 8 = .ok (.aload_n 0, 1) := by decide +kernel
theorem dX5_save_9 : decode cX5_save 9 = .ok (.getfield 81, 3) := by decide +kernel
theorem dX5_save_12 : decode cX5_save 12 = .ok (.bipush 6, 2) := by decide +kernel
theorem dX5_save_14 : decode cX5_save 14 = .ok (.if_icmp .ne 17, 3) := by decide +kernel
theorem dX5_save_17 : decode cX5_save 17 = .ok (.aload_n 0, 1) := by decide +kernel
theorem dX5_save_18 : decode cX5_save 18 = .ok (.iload_n 1, 1) := by decide +kernel
theorem dX5_save_19 : decode cX5_save 19 = .ok (.iconst 1, 1) := by decide +kernel
theorem dX5_save_20 : decode cX5_save 20 = .ok (.iadd, 1) := by decide +kernel
theorem dX5_save_21 : decode cX5_save 21 = .ok (.iload_n 1, 1) := by decide +kernel
theorem dX5_save_22 : decode cX5_save 22 = .ok (.invokevirtual 84, 3) := by decide +kernel
theorem dX5_save_25 : decode cX5_save 25 = .ok (.iinc 1 1, 3) := by decide +kernel
theorem dX5_save_28 : decode cX5_save 28 = .ok (.goto (-26), 3) := by decide +kernel
theorem dX5_save_31 : decode cX5_save 31 = .ok (.aload_n 0, 1) := by decide +kernel
theorem dX5_save_32 : decode cX5_save 32 = .ok (.dup, 1) := by decide +kernel
theorem dX5_save_33 : decode cX5_save 33 = .ok (.getfield 81, 3) := by decide +kernel
theorem dX5_save_36 : decode cX5_save 36 = .ok (.aload_n 0, 1) := by decide +kernel
theorem dX5_save_37 : decode cX5_save 37 = .ok (.getfield 81, 3) := by decide +kernel
theorem dX5_save_40 : decode cX5_save 40 = .ok (.bipush 6, 2) := by decide +kernel
theorem dX5_save_42 : decode cX5_save 42 = .ok (.if_icmp .ge 7, 3) := by decide +kernel
theorem dX5_save_45 : decode cX5_save 45 = .ok (.iconst 1, 1) := by decide +kernel
theorem dX5_save_46 : decode cX5_save 46 = .ok (.goto 4, 3) := by decide +kernel
theorem dX5_save_49 : decode cX5_save 49 = .ok (.iconst 0, 1) := by decide +kernel
theorem dX5_save_50 : decode cX5_save 50 = .ok (.iadd, 1) := by decide +kernel
theorem dX5_save_51 : decode cX5_save 51 = .ok (.putfield 81, 3) := by decide +kernel
theorem dX5_save_54 : decode cX5_save 54 = .ok (.aload_n 0, 1) := by decide +kernel
theorem dX5_save_55 : decode cX5_save 55 = .ok (.iconst 0, 1) := by decide +kernel
theorem dX5_save_56 : decode cX5_save 56 = .ok (.aload_n 0, 1) := by decide +kernel
theorem dX5_save_57 : decode cX5_save 57 = .ok (.getfield 81, 3) := by decide +kernel
theorem dX5_save_60 : decode cX5_save 60 = .ok (.invokevirtual 84, 3) := by decide +kernel
theorem dX5_save_63 : decode cX5_save 63 = .ok (.return_, 1) := by decide +kernel
theorem dX5_gather_0 : decode cX5_gather 0 = .ok (.iload_n 1, 1) := by decide +kernel
theorem dX5_gather_1 : decode cX5_gather 1 = .ok (.invokestatic 88, 3) := by decide +kernel
theorem dX5_gather_4 : decode cX5_gather 4 = .ok (.istore_n 2, 1) := by decide +kernel
theorem dX5_gather_5 : decode cX5_gather 5 = .ok (.aload_n 0, 1) := by decide +kernel
theorem dX5_gather_6 : decode cX5_gather 6 = .ok (.iload_n 2, 1) := by decide +kernel
theorem dX5_gather_7 : decode cX5_gather 7 = .ok (.ifCond .ne 7, 3) := by decide +kernel
theorem dX5_gather_10 : decode cX5_gather 10 = .ok (.iconst 1, 1) := by decide +kernel
theorem dX5_gather_11 : decode cX5_gather 11 = .ok (.goto 16, 3) := by decide +kernel
theorem dX5_gather_14 : decode cX5_gather 14 = .ok (.aload_n 0, 1) := by decide +kernel
theorem dX5_gather_15 : decode cX5_gather 15 = .ok (.iload_n 1, 1) := by decide +kernel
theorem dX5_gather_16 : decode cX5_gather 16 = .ok (.invokevirtual 91, 3) := by decide +kernel
theorem dX5_gather_19 : decode cX5_gather 19 = .ok (.ifCond .ne 7, 3) := by decide +kernel
theorem dX5_gather_22 : decode cX5_gather 22 = .ok (.iconst 2, 1) := by decide +kernel
theorem dX5_gather_23 : decode cX5_gather 23 = .ok (.goto 4, 3) := by decide +kernel
theorem dX5_gather_26 : decode cX5_gather 26 = .ok (.iconst 0, 1) := by decide +kernel
theorem dX5_gather_27 : decode cX5_gather 27 = .ok (.invokevirtual 94, 3) := by decide +kernel
theorem dX5_gather_30 : decode cX5_gather 30 = .ok (.ifCond .ne 5, 3) := by decide +kernel
theorem dX5_gather_33 : decode cX5_gather 33 = .ok (.iconst 0, 1) := by decide +kernel
theorem dX5_gather_34 : decode cX5_gather 34 = .ok (.ireturn, 1) := by decide +kernel
theorem dX5_gather_35 : decode cX5_gather 35 = .ok (.aload_n 0, 1) := by decide +kernel
theorem dX5_gather_36 : decode cX5_gather 36 = .ok (.invokevirtual 97, 3) := by decide +kernel
theorem dX5_gather_39 : decode cX5_gather 39 = .ok (.aload_n 0, 1) := by decide +kernel
theorem dX5_gather_40 : decode cX5_gather 40 = .ok (.aload_n 0, 1) := by decide +kernel
theorem dX5_gather_41 : decode cX5_gather 41 = .ok (.getfield 7, 3) := by decide +kernel
theorem dX5_gather_44 : decode cX5_gather 44 = .ok (.iconst 3, 1) := by decide +kernel
theorem dX5_gather_45 : decode cX5_gather 45 = .ok (.iaload, 1) := by decide +kernel
theorem dX5_gather_46 : decode cX5_gather 46 = .ok (.iload_n 1, 1) := by decide +kernel
theorem dX5_gather_47 : decode cX5_gather 47 = .ok (.invokevirtual 100, 3) := by decide +kernel
theorem dX5_gather_50 : decode cX5_gather 50 = .ok (.ireturn, 1) := by decide +kernel
theorem dX5_insert_0 : decode cX5_insert 0 = .ok (.iload_n 1, 1) := by decide +kernel
theorem dX5_insert_1 : decode cX5_insert 1 = .ok (.iconst 0, 1) := by decide +kernel
theorem dX5_insert_2 : decode cX5_insert 2 = .ok (.aload_n 0, 1) := by decide +kernel
theorem dX5_insert_3 : decode cX5_insert 3 = .ok (.getfield 7, 3) := by decide +kernel
theorem dX5_insert_6 : decode cX5_insert 6 = .ok (.iconst 3, 1) := by decide +kernel
theorem dX5_insert_7 : decode cX5_insert 7 = .ok (.iaload, 1) := by decide +kernel
theorem dX5_insert_8 : decode cX5_insert 8 = .ok (.invokestatic 29, 3) := by decide +kernel
theorem dX5_insert_11 : decode cX5_insert 11 = .ok (.ifCond .eq 14, 3) := by decide +kernel
theorem dX5_insert_14 : decode cX5_insert 14 = .ok (.iload_n 2, 1) := by decide +kernel
theorem dX5_insert_15 : decode cX5_insert 15 = .ok (.invokestatic 88, 3) := by decide +kernel
theorem dX5_insert_18 : decode cX5_insert 18 = .ok (.ifCond .eq 7, 3) := by decide +kernel
theorem dX5_insert_21 : decode cX5_insert 21 = .ok (.iconst 1, 1) := by decide +kernel
theorem dX5_insert_22 : decode cX5_insert 22 = .ok (.goto 4, 3) := by decide +kernel
theorem dX5_insert_25 : decode cX5_insert 25 = .ok (.iconst 0, 1) := by decide +kernel
theorem dX5_insert_26 : decode cX5_insert 26 = .ok (.istore_n 3, 1) := by decide +kernel
theorem dX5_insert_27 : decode cX5_insert 27 = .ok (.aload_n 0, 1) := by decide +kernel
theorem dX5_insert_28 : decode cX5_insert 28 = .ok (.iload_n 3, 1) := by decide +kernel
theorem dX5_insert_29 : decode cX5_insert 29 = .ok (.ifCond .ne 7, 3) := by decide +kernel
theorem dX5_insert_32 : decode cX5_insert 32 = .ok (.iconst 1, 1) := by decide +kernel
theorem dX5_insert_33 : decode cX5_insert 33 = .ok (.goto 16, 3) := by decide +kernel
theorem dX5_insert_36 : decode cX5_insert 36 = .ok (.aload_n 0, 1) := by decide +kernel
theorem dX5_insert_37 : decode cX5_insert 37 = .ok (.iload_n 2, 1) := by decide +kernel
theorem dX5_insert_38 : decode cX5_insert 38 = .ok (.invokevirtual 91, 3) := by decide +kernel
theorem dX5_insert_41 : decode cX5_insert 41 = .ok (.ifCond .ne 7, 3) := by decide +kernel
theorem dX5_insert_44 : decode cX5_insert 44 = .ok (.iconst 2, 1) := by decide +kernel
theorem dX5_insert_45 : decode cX5_insert 45 = .ok (.goto 4, 3) := by decide +kernel
theorem dX5_insert_48 : decode cX5_insert 48 = .ok (.iconst 0, 1) := by decide +kernel
theorem dX5_insert_49 : decode cX5_insert 49 = .ok (.invokevirtual 94, 3) := by decide +kernel
theorem dX5_insert_52 : decode cX5_insert 52 = .ok (.ifCond .ne 5, 3) := by decide +kernel
theorem dX5_insert_55 : decode cX5_insert 55 = .ok (.iconst 0, 1) := by decide +kernel
theorem dX5_insert_56 : decode cX5_insert 56 = .ok (.ireturn, 1) := by decide +kernel
theorem dX5_insert_57 : decode cX5_insert 57 = .ok (.aload_n 0, 1) := by decide +kernel
theorem dX5_insert_58 : decode cX5_insert 58 = .ok (.invokevirtual 97, 3) := by decide +kernel
theorem dX5_insert_61 : decode cX5_insert 61 = .ok (.aload_n 0, 1) := by decide +kernel
theorem dX5_insert_62 : decode cX5_insert 62 = .ok (.iload_n 1, 1) := by decide +kernel
theorem dX5_insert_63 : decode cX5_insert 63 = .ok (.iload_n 2, 1) := by decide +kernel
theorem dX5_insert_64 : decode cX5_insert 64 = .ok (.invokevirtual 100, 3) := by decide +kernel
theorem dX5_insert_67 : decode cX5_insert 67 = .ok (.ireturn, 1) := by decide +kernel
theorem dX5_pull_0 : decode cX5_pull 0 = .ok (.aload_n 0, 1) := by decide +kernel
theorem dX5_pull_1 : decode cX5_pull 1 = .ok (.aload_n 0, 1) := by decide +kernel
theorem dX5_pull_2 : decode cX5_pull 2 = .ok (.iload_n 1, 1) := by decide +kernel
theorem dX5_pull_3 : decode cX5_pull 3 = .ok (.invokevirtual 103, 3) := by decide +kernel
theorem dX5_pull_6 : decode cX5_pull 6 = .ok (.ifCond .eq 7, 3) := by decide +kernel
theorem dX5_pull_9 : decode cX5_pull 9 = .ok (.iconst 0, 1) := by decide +kernel
theorem dX5_pull_10 : decode cX5_pull 10 = .ok (.goto 4, 3) := by decide +kernel
theorem dX5_pull_13 : decode cX5_pull 13 = .ok (.iconst 1, 1) := by decide +kernel
theorem dX5_pull_14 : decode cX5_pull 14 = .ok (.invokevirtual 94, 3) := by decide +kernel
theorem dX5_pull_17 : decode cX5_pull 17 = .ok (.ifCond .ne 5, 3) := by decide +kernel
theorem dX5_pull_20 : decode cX5_pull 20 = .ok (.iconst 0, 1) := by decide +kernel
theorem dX5_pull_21 : decode cX5_pull 21 = .ok (.ireturn, 1) := by decide +kernel
theorem dX5_pull_22 : decode cX5_pull 22 = .ok (.aload_n 0, 1) := by decide +kernel
theorem dX5_pull_23 : decode cX5_pull 23 = .ok (.invokevirtual 97, 3) := by decide +kernel
theorem dX5_pull_26 : decode cX5_pull 26 = .ok (.aload_n 0, 1) := by decide +kernel
theorem dX5_pull_27 : decode cX5_pull 27 = .ok (.iload_n 1, 1) := by decide +kernel
theorem dX5_pull_28 : decode cX5_pull 28 = .ok (.invokevirtual 106, 3) := by decide +kernel
theorem dX5_pull_31 : decode cX5_pull 31 = .ok (.ireturn, 1) := by decide +kernel
theorem dX5_flip_0 : decode cX5_flip 0 = .ok (.aload_n 0, 1) := by decide +kernel
theorem dX5_flip_1 : decode cX5_flip 1 = .ok (.aload_n 0, 1) := by decide +kernel
theorem dX5_flip_2 : decode cX5_flip 2 = .ok (.iload_n 1, 1) := by decide +kernel
theorem dX5_flip_3 : decode cX5_flip 3 = .ok (.invokevirtual 103, 3) := by decide +kernel
theorem dX5_flip_6 : decode cX5_flip 6 = .ok (.ifCond .eq 7, 3) := by decide +kernel
theorem dX5_flip_9 : decode cX5_flip 9 = .ok (.iconst 0, 1) := by decide +kernel
theorem dX5_flip_10 : decode cX5_flip 10 = .ok (.goto 4, 3) := by decide +kernel
theorem dX5_flip_13 : decode cX5_flip 13 = .ok (.iconst 1, 1) := by decide +kernel
theorem dX5_flip_14 : decode cX5_flip 14 = .ok (.invokevirtual 94, 3) := by decide +kernel
theorem dX5_flip_17 : decode cX5_flip 17 = .ok (.ifCond .ne 5, 3) := by decide +kernel
theorem dX5_flip_20 : decode cX5_flip 20 = .ok (.iconst 0, 1) := by decide +kernel
theorem dX5_flip_21 : decode cX5_flip 21 = .ok (.ireturn, 1) := by decide +kernel
theorem dX5_flip_22 : decode cX5_flip 22 = .ok (.aload_n 0, 1) := by decide +kernel
theorem dX5_flip_23 : decode cX5_flip 23 = .ok (.invokevirtual 97, 3) := by decide +kernel
theorem dX5_flip_26 : decode cX5_flip 26 = .ok (.aload_n 0, 1) := by decide +kernel
theorem dX5_flip_27 : decode cX5_flip 27 = .ok (.iload_n 1, 1) := by decide +kernel
theorem dX5_flip_28 : decode cX5_flip 28 = .ok (.invokevirtual 109, 3) := by decide +kernel
theorem dX5_flip_31 : decode cX5_flip 31 = .ok (.ireturn, 1) := by decide +kernel
theorem dX5_move_0 : decode cX5_move 0 = .ok (.aload_n 0, 1) := by decide +kernel
theorem dX5_move_1 : decode cX5_move 1 = .ok (.aload_n 0, 1) := by decide +kernel
theorem dX5_move_2 : decode cX5_move 2 = .ok (.iload_n 1, 1) := by decide +kernel
theorem dX5_move_3 : decode cX5_move 3 = .ok (.invokevirtual 103, 3) := by decide +kernel
theorem dX5_move_6 : decode cX5_move 6 = .ok (.ifCond .eq 15, 3) := by decide +kernel
theorem dX5_move_9 : decode cX5_move 9 = .ok (.aload_n 0, 1) := by decide +kernel
theorem dX5_move_10 : decode cX5_move 10 = .ok (.iload_n 2, 1) := by decide +kernel
theorem dX5_move_11 : decode cX5_move 11 = .ok (.invokevirtual 103, 3) := by decide +kernel
theorem dX5_move_14 : decode cX5_move 14 = .ok (.ifCond .eq 7, 3) := by decide +kernel
theorem dX5_move_17 : decode cX5_move 17 = .ok (.iconst 0, 1) := by decide +kernel
theorem dX5_move_18 : decode cX5_move 18 = .ok (.goto 4, 3) := by decide +kernel
theorem dX5_move_21 : decode cX5_move 21 = .ok (.iconst 1, 1) := by decide +kernel
theorem dX5_move_22 : decode cX5_move 22 = .ok (.invokevirtual 94, 3) := by decide +kernel
theorem dX5_move_25 : decode cX5_move 25 = .ok (.ifCond .ne 5, 3) := by decide +kernel
theorem dX5_move_28 : decode cX5_move 28 = .ok (.iconst 0, 1) := by decide +kernel
theorem dX5_move_29 : decode cX5_move 29 = .ok (.ireturn, 1) := by decide +kernel
theorem dX5_move_30 : decode cX5_move 30 = .ok (.aload_n 0, 1) := by decide +kernel
theorem dX5_move_31 : decode cX5_move 31 = .ok (.invokevirtual 97, 3) := by decide +kernel
theorem dX5_move_34 : decode cX5_move 34 = .ok (.aload_n 0, 1) := by decide +kernel
theorem dX5_move_35 : decode cX5_move 35 = .ok (.iload_n 1, 1) := by decide +kernel
theorem dX5_move_36 : decode cX5_move 36 = .ok (.iload_n 2, 1) := by decide +kernel
theorem dX5_move_37 : decode cX5_move 37 = .ok (.invokevirtual 112, 3) := by decide +kernel
theorem dX5_move_40 : decode cX5_move 40 = .ok (.ireturn, 1) := by decide +kernel
theorem dX5_bind_0 : decode cX5_bind 0 = .ok (.aload_n 0, 1) := by decide +kernel
theorem dX5_bind_1 : decode cX5_bind 1 = .ok (.aload_n 0, 1) := by decide +kernel
theorem dX5_bind_2 : decode cX5_bind 2 = .ok (.invokevirtual 115, 3) := by decide +kernel
theorem dX5_bind_5 : decode cX5_bind 5 = .ok (.ifCond .eq 7, 3) := by decide +kernel
theorem dX5_bind_8 : decode cX5_bind 8 = .ok (.iconst 0, 1) := by decide +kernel
theorem dX5_bind_9 : decode cX5_bind 9 = .ok (.goto 4, 3) := by decide +kernel
theorem dX5_bind_12 : decode cX5_bind 12 = .ok (.iconst 1, 1) := by decide +kernel
theorem dX5_bind_13 : decode cX5_bind 13 = .ok (.invokevirtual 94, 3) := by decide +kernel
theorem dX5_bind_16 : decode cX5_bind 16 = .ok (.ifCond .ne 5, 3) := by decide +kernel
theorem dX5_bind_19 : decode cX5_bind 19 = .ok (.iconst 0, 1) := by decide +kernel
theorem dX5_bind_20 : decode cX5_bind 20 = .ok (.ireturn, 1) := by decide +kernel
theorem dX5_bind_21 : decode cX5_bind 21 = .ok (.aload_n 0, 1) := by decide +kernel
theorem dX5_bind_22 : decode cX5_bind 22 = .ok (.invokevirtual 97, 3) := by decide +kernel
theorem dX5_bind_25 : decode cX5_bind 25 = .ok (.aload_n 0, 1) := by decide +kernel
theorem dX5_bind_26 : decode cX5_bind 26 = .ok (.invokevirtual 119, 3) := by decide +kernel
theorem dX5_bind_29 : decode cX5_bind 29 = .ok (.ireturn, 1) := by decide +kernel
theorem dX5_print_0 : decode cX5_print 0 = .ok (.iload_n 1, 1) := by decide +kernel
theorem dX5_print_1 : decode cX5_print 1 = .ok (.invokestatic 88, 3) := by decide +kernel
theorem dX5_print_4 : decode cX5_print 4 = .ok (.istore_n 3, 1) := by decide +kernel
theorem dX5_print_5 : decode cX5_print 5 = .ok (.aload_n 0, 1) := by decide +kernel
theorem dX5_print_6 : decode cX5_print 6 = .ok (.iload_n 3, 1) := by decide +kernel
theorem dX5_print_7 : decode cX5_print 7 = .ok (.ifCond .ne 7, 3) := by decide +kernel
theorem dX5_print_10 : decode cX5_print 10 = .ok (.iconst 1, 1) := by decide +kernel
theorem dX5_print_11 : decode cX5_print 11 = .ok (.goto 38, 3) := by decide +kernel
theorem dX5_print_14 : decode cX5_print 14 = .ok (.iload_n 2, 1) := by decide +kernel
theorem dX5_print_15 : decode cX5_print 15 = .ok (.iconst 1, 1) := by decide +kernel
theorem dX5_print_16 : decode cX5_print 16 = .ok (.bipush 20, 2) := by decide +kernel
theorem dX5_print_18 : decode cX5_print 18 = .ok (.invokestatic 29, 3) := by decide +kernel
theorem dX5_print_21 : decode cX5_print 21 = .ok (.ifCond .ne 7, 3) := by decide +kernel
theorem dX5_print_24 : decode cX5_print 24 = .ok (.iconst 2, 1) := by decide +kernel
theorem dX5_print_25 : decode cX5_print 25 = .ok (.goto 24, 3) := by decide +kernel
theorem dX5_print_28 : decode cX5_print 28 = .ok (.aload_n 0, 1) := by decide +kernel
theorem dX5_print_29 : decode cX5_print 29 = .ok (.getfield 7, 3) := by decide +kernel
theorem dX5_print_32 : decode cX5_print 32 = .ok (.bipush 6, 2) := by decide +kernel
theorem dX5_print_34 : decode cX5_print 34 = .ok (.iload_n 1, 1) := by decide +kernel
theorem dX5_print_35 : decode cX5_print 35 = .ok (.iadd, 1) := by decide +kernel
theorem dX5_print_36 : decode cX5_print 36 = .ok (.iaload, 1) := by decide +kernel
theorem dX5_print_37 : decode cX5_print 37 = .ok (.iload_n 2, 1) := by decide +kernel
theorem dX5_print_38 : decode cX5_print 38 = .ok (.iadd, 1) := by decide +kernel
theorem dX5_print_39 : decode cX5_print 39 = .ok (.bipush 99, 2) := by decide +kernel
theorem dX5_print_41 : decode cX5_print 41 = .ok (.if_icmp .le 7, 3) := by decide +kernel
theorem dX5_print_44 : decode cX5_print 44 = .ok (.iconst 3, 1) := by decide +kernel
theorem dX5_print_45 : decode cX5_print 45 = .ok (.goto 4, 3) := by decide +kernel
theorem dX5_print_48 : decode cX5_print 48 = .ok (.iconst 0, 1) := by decide +kernel
theorem dX5_print_49 : decode cX5_print 49 = .ok (.invokevirtual 94, 3) := by decide +kernel
theorem dX5_print_52 : decode cX5_print 52 = .ok (.ifCond .ne 5, 3) := by decide +kernel
theorem dX5_print_55 : decode cX5_print 55 = .ok (.iconst 0, 1) := by decide +kernel
theorem dX5_print_56 : decode cX5_print 56 = .ok (.ireturn, 1) := by decide +kernel
theorem dX5_print_57 : decode cX5_print 57 = .ok (.aload_n 0, 1) := by decide +kernel
theorem dX5_print_58 : decode cX5_print 58 = .ok (.invokevirtual 97, 3) := by decide +kernel
theorem dX5_print_61 : decode cX5_print 61 = .ok (.aload_n 0, 1) := by decide +kernel
theorem dX5_print_62 : decode cX5_print 62 = .ok (.getfield 7, 3) := by decide +kernel
theorem dX5_print_65 : decode cX5_print 65 = .ok (.bipush 6, 2) := by decide +kernel
theorem dX5_print_67 : decode cX5_print 67 = .ok (.iload_n 1, 1) := by decide +kernel
theorem dX5_print_68 : decode cX5_print 68 = .ok (.iadd, 1) := by decide +kernel
theorem dX5_print_69 : decode cX5_print 69 = .ok (.dup2, 1) := by decide +kernel
theorem dX5_print_70 : decode cX5_print 70 = .ok (.iaload, 1) := by decide +kernel
theorem dX5_print_71 : decode cX5_print 71 = .ok (.iload_n 2, 1) := by decide +kernel
theorem dX5_print_72 : decode cX5_print 72 = .ok (.iadd, 1) := by decide +kernel
theorem dX5_print_73 : decode cX5_print 73 = .ok (.iastore, 1) := by decide +kernel
theorem dX5_print_74 : decode cX5_print 74 = .ok (.aload_n 0, 1) := by decide +kernel
theorem dX5_print_75 : decode cX5_print 75 = .ok (.getfield 7, 3) := by decide +kernel
theorem dX5_print_78 : decode cX5_print 78 = .ok (.bipush 38, 2) := by decide +kernel
theorem dX5_print_80 : decode cX5_print 80 = .ok (.iload_n 1, 1) := by decide +kernel
theorem dX5_print_81 : decode cX5_print 81 = .ok (.iadd, 1) := by decide +kernel
theorem dX5_print_82 : decode cX5_print 82 = .ok (.dup2, 1) := by decide +kernel
theorem dX5_print_83 : decode cX5_print 83 = .ok (.iaload, 1) := by decide +kernel
theorem dX5_print_84 : decode cX5_print 84 = .ok (.iload_n 2, 1) := by decide +kernel
theorem dX5_print_85 : decode cX5_print 85 = .ok (.iadd, 1) := by decide +kernel
theorem dX5_print_86 : decode cX5_print 86 = .ok (.iastore, 1) := by decide +kernel
theorem dX5_print_87 : decode cX5_print 87 = .ok (.aload_n 0, 1) := by decide +kernel
theorem dX5_print_88 : decode cX5_print 88 = .ok (.getfield 7, 3) := by decide +kernel
theorem dX5_print_91 : decode cX5_print 91 = .ok (.bipush 6, 2) := by decide +kernel
theorem dX5_print_93 : decode cX5_print 93 = .ok (.iload_n 1, 1) := by decide +kernel
theorem dX5_print_94 : decode cX5_print 94 = .ok (.iadd, 1) := by decide +kernel
theorem dX5_print_95 : decode cX5_print 95 = .ok (.iaload, 1) := by decide +kernel
theorem dX5_print_96 : decode cX5_print 96 = .ok (.ireturn, 1) := by decide +kernel
theorem dX5_changed_0 : decode cX5_changed 0 = .ok (.aload_n 0, 1) := by decide +kernel
theorem dX5_changed_1 : decode cX5_changed 1 = .ok (.invokevirtual 97, 3) := by decide +kernel
theorem dX5_changed_4 : decode cX5_changed 4 = .ok (.aload_n 0, 1) := by decide +kernel
theorem dX5_changed_5 : decode cX5_changed 5 = .ok (.getfield 7, 3) := by decide +kernel
theorem dX5_changed_8 : decode cX5_changed 8 = .ok (.iload_n 1, 1) := by decide +kernel
theorem dX5_changed_9 : decode cX5_changed 9 = .ok (.iaload, 1) := by decide +kernel
theorem dX5_changed_10 : decode cX5_changed 10 = .ok (.istore_n 3, 1) := by decide +kernel
theorem dX5_changed_11 : decode cX5_changed 11 = .ok (.aload_n 0, 1) := by decide +kernel
theorem dX5_changed_12 : decode cX5_changed 12 = .ok (.getfield 7, 3) := by decide +kernel
theorem dX5_changed_15 : decode cX5_changed 15 = .ok (.iload_n 1, 1) := by decide +kernel
theorem dX5_changed_16 : decode cX5_changed 16 = .ok (.iload_n 2, 1) := by decide +kernel
theorem dX5_changed_17 : decode cX5_changed 17 = .ok (.iastore, 1) := by decide +kernel
theorem dX5_changed_18 : decode cX5_changed 18 = .ok (.iload_n 3, 1) := by decide +kernel
theorem dX5_changed_19 : decode cX5_changed 19 = .ok (.ireturn, 1) := by decide +kernel
theorem dX5_punch_0 : decode cX5_punch 0 = .ok (.aload_n 0, 1) := by decide +kernel
theorem dX5_punch_1 : decode cX5_punch 1 = .ok (.iload_n 1, 1) := by decide +kernel
theorem dX5_punch_2 : decode cX5_punch 2 = .ok (.invokestatic 88, 3) := by decide +kernel
theorem dX5_punch_5 : decode cX5_punch 5 = .ok (.ifCond .ne 7, 3) := by decide +kernel
theorem dX5_punch_8 : decode cX5_punch 8 = .ok (.iconst 1, 1) := by decide +kernel
theorem dX5_punch_9 : decode cX5_punch 9 = .ok (.goto 18, 3) := by decide +kernel
theorem dX5_punch_12 : decode cX5_punch 12 = .ok (.iload_n 2, 1) := by decide +kernel
theorem dX5_punch_13 : decode cX5_punch 13 = .ok (.iconst 1, 1) := by decide +kernel
theorem dX5_punch_14 : decode cX5_punch 14 = .ok (.bipush 31, 2) := by decide +kernel
theorem dX5_punch_16 : decode cX5_punch 16 = .ok (.invokestatic 29, 3) := by decide +kernel
theorem dX5_punch_19 : decode cX5_punch 19 = .ok (.ifCond .ne 7, 3) := by decide +kernel
theorem dX5_punch_22 : decode cX5_punch 22 = .ok (.iconst 2, 1) := by decide +kernel
theorem dX5_punch_23 : decode cX5_punch 23 = .ok (.goto 4, 3) := by decide +kernel
theorem dX5_punch_26 : decode cX5_punch 26 = .ok (.iconst 0, 1) := by decide +kernel
theorem dX5_punch_27 : decode cX5_punch 27 = .ok (.invokevirtual 94, 3) := by decide +kernel
theorem dX5_punch_30 : decode cX5_punch 30 = .ok (.ifCond .eq 15, 3) := by decide +kernel
theorem dX5_punch_33 : decode cX5_punch 33 = .ok (.aload_n 0, 1) := by decide +kernel
theorem dX5_punch_34 : decode cX5_punch 34 = .ok (.bipush 54, 2) := by decide +kernel
theorem dX5_punch_36 : decode cX5_punch 36 = .ok (.iload_n 1, 1) := by decide +kernel
theorem dX5_punch_37 : decode cX5_punch 37 = .ok (.iadd, 1) := by decide +kernel
theorem dX5_punch_38 : decode cX5_punch 38 = .ok (.iload_n 2, 1) := by decide +kernel
theorem dX5_punch_39 : decode cX5_punch 39 = .ok (.invokevirtual 122, 3) := by decide +kernel
theorem dX5_punch_42 : decode cX5_punch 42 = .ok (.goto 4, 3) := by decide +kernel
theorem dX5_punch_45 : decode cX5_punch 45 = .ok (.iconst 0, 1) := by decide +kernel
theorem dX5_punch_46 : decode cX5_punch 46 = .ok (.ireturn, 1) := by decide +kernel
theorem dX5_set_0 : decode cX5_set 0 = .ok (.iload_n 1, 1) := by decide +kernel
theorem dX5_set_1 : decode cX5_set 1 = .ok (.iconst 0, 1) := by decide +kernel
theorem dX5_set_2 : decode cX5_set 2 = .ok (.iconst 2, 1) := by decide +kernel
theorem dX5_set_3 : decode cX5_set 3 = .ok (.invokestatic 29, 3) := by decide +kernel
theorem dX5_set_6 : decode cX5_set 6 = .ok (.istore_n 3, 1) := by decide +kernel
theorem dX5_set_7 : decode cX5_set 7 = .ok (.iload_n 2, 1) := by decide +kernel
theorem dX5_set_8 : decode cX5_set 8 = .ok (.iload_n 1, 1) := by decide +kernel
theorem dX5_set_9 : decode cX5_set 9 = .ok (.iconst 1, 1) := by decide +kernel
theorem dX5_set_10 : decode cX5_set 10 = .ok (.if_icmp .ne 7, 3) := by decide +kernel
theorem dX5_set_13 : decode cX5_set 13 = .ok (.iconst 2, 1) := by decide +kernel
theorem dX5_set_14 : decode cX5_set 14 = .ok (.goto 4, 3) := by decide +kernel
theorem dX5_set_17 : decode cX5_set 17 = .ok (.iconst 1, 1) := by decide +kernel
theorem dX5_set_18 : decode cX5_set 18 = .ok (.iload_n 1, 1) := by decide +kernel
theorem dX5_set_19 : decode cX5_set 19 = .ok (.ifCond .ne 8, 3) := by decide +kernel
theorem dX5_set_22 : decode cX5_set 22 = .ok (.bipush 16, 2) := by decide +kernel
theorem dX5_set_24 : decode cX5_set 24 = .ok (.goto 15, 3) := by decide +kernel
theorem dX5_set_27 : decode cX5_set 27 = .ok (.iload_n 1, 1) := by decide +kernel
theorem dX5_set_28 : decode cX5_set 28 = .ok (.iconst 1, 1) := by decide +kernel
theorem dX5_set_29 : decode cX5_set 29 = .ok (.if_icmp .ne 8, 3) := by decide +kernel
theorem dX5_set_32 : decode cX5_set 32 = .ok (.bipush 8, 2) := by decide +kernel
theorem dX5_set_34 : decode cX5_set 34 = .ok (.goto 5, 3) := by decide +kernel
theorem dX5_set_37 : decode cX5_set 37 = .ok (.bipush 9, 2) := by decide +kernel
theorem dX5_set_39 : decode cX5_set 39 = .ok (.invokestatic 29, 3) := by decide +kernel
theorem dX5_set_42 : decode cX5_set 42 = .ok (.istore 4, 2) := by decide +kernel
theorem dX5_set_44 : decode cX5_set 44 = .ok (.aload_n 0, 1) := by decide +kernel
theorem dX5_set_45 : decode cX5_set 45 = .ok (.iload_n 3, 1) := by decide +kernel
theorem dX5_set_46 : decode cX5_set 46 = .ok (.ifCond .ne 7, 3) := by decide +kernel
theorem dX5_set_49 : decode cX5_set 49 = .ok (.iconst 1, 1) := by decide +kernel
theorem dX5_set_50 : decode cX5_set 50 = .ok (.goto 13, 3) := by decide +kernel
theorem dX5_set_53 : decode cX5_set 53 = .ok (.iload 4, 2) := by decide +kernel
theorem dX5_set_55 : decode cX5_set 55 = .ok (.ifCond .ne 7, 3) := by decide +kernel
theorem dX5_set_58 : decode cX5_set 58 = .ok (.iconst 2, 1) := by decide +kernel
theorem dX5_set_59 : decode cX5_set 59 = .ok (.goto 4, 3) := by decide +kernel
theorem dX5_set_62 : decode cX5_set 62 = .ok (.iconst 0, 1) := by decide +kernel
theorem dX5_set_63 : decode cX5_set 63 = .ok (.invokevirtual 94, 3) := by decide +kernel
theorem dX5_set_66 : decode cX5_set 66 = .ok (.ifCond .eq 14, 3) := by decide +kernel
theorem dX5_set_69 : decode cX5_set 69 = .ok (.aload_n 0, 1) := by decide +kernel
theorem dX5_set_70 : decode cX5_set 70 = .ok (.iconst 0, 1) := by decide +kernel
theorem dX5_set_71 : decode cX5_set 71 = .ok (.iload_n 1, 1) := by decide +kernel
theorem dX5_set_72 : decode cX5_set 72 = .ok (.iadd, 1) := by decide +kernel
theorem dX5_set_73 : decode cX5_set 73 = .ok (.iload_n 2, 1) := by decide +kernel
theorem dX5_set_74 : decode cX5_set 74 = .ok (.invokevirtual 122, 3) := by decide +kernel
theorem dX5_set_77 : decode cX5_set 77 = .ok (.goto 4, 3) := by decide +kernel
theorem dX5_set_80 : decode cX5_set 80 = .ok (.iconst 0, 1) := by decide +kernel
theorem dX5_set_81 : decode cX5_set 81 = .ok (.ireturn, 1) := by decide +kernel
theorem dX5_append_0 : decode cX5_append 0 = .ok (.aload_n 0, 1) := by decide +kernel
theorem dX5_append_1 : decode cX5_append 1 = .ok (.iload_n 1, 1) := by decide +kernel
theorem dX5_append_2 : decode cX5_append 2 = .ok (.bipush 33, 2) := by decide +kernel
theorem dX5_append_4 : decode cX5_append 4 = .ok (.bipush 126, 2) := by decide +kernel
theorem dX5_append_6 : decode cX5_append 6 = .ok (.invokestatic 29, 3) := by decide +kernel
theorem dX5_append_9 : decode cX5_append 9 = .ok (.ifCond .ne 7, 3) := by decide +kernel
theorem dX5_append_12 : decode cX5_append 12 = .ok (.iconst 1, 1) := by decide +kernel
theorem dX5_append_13 : decode cX5_append 13 = .ok (.goto 17, 3) := by decide +kernel
theorem dX5_append_16 : decode cX5_append 16 = .ok (.aload_n 0, 1) := by decide +kernel
theorem dX5_append_17 : decode cX5_append 17 = .ok (.getfield 125, 3) := by decide +kernel
theorem dX5_append_20 : decode cX5_append 20 = .ok (.bipush 60, 2) := by decide +kernel
theorem dX5_append_22 : decode cX5_append 22 = .ok (.if_icmp .ne 7, 3) := by decide +kernel
theorem dX5_append_25 : decode cX5_append 25 = .ok (.iconst 2, 1) := by decide +kernel
theorem dX5_append_26 : decode cX5_append 26 = .ok (.goto 4, 3) := by decide +kernel
theorem dX5_append_29 : decode cX5_append 29 = .ok (.iconst 0, 1) := by decide +kernel
theorem dX5_append_30 : decode cX5_append 30 = .ok (.invokevirtual 94, 3) := by decide +kernel
theorem dX5_append_33 : decode cX5_append 33 = .ok (.ifCond .ne 5, 3) := by decide +kernel
theorem dX5_append_36 : decode cX5_append 36 = .ok (.iconst 0, 1) := by decide +kernel
theorem dX5_append_37 : decode cX5_append 37 = .ok (.ireturn, 1) := by decide +kernel
theorem dX5_append_38 : decode cX5_append 38 = .ok (.aload_n 0, 1) := by decide +kernel
theorem dX5_append_39 : decode cX5_append 39 = .ok (.getfield 13, 3) := by decide +kernel
theorem dX5_append_42 : decode cX5_append 42 = .ok (.aload_n 0, 1) := by decide +kernel
theorem dX5_append_43 : decode cX5_append 43 = .ok (.getfield 125, 3) := by decide +kernel
theorem dX5_append_46 : decode cX5_append 46 = .ok (.iload_n 1, 1) := by decide +kernel
theorem dX5_append_47 : decode cX5_append 47 = .ok (.iastore, 1) := by decide +kernel
theorem dX5_append_48 : decode cX5_append 48 = .ok (.aload_n 0, 1) := by decide +kernel
theorem dX5_append_49 : decode cX5_append 49 = .ok (.dup, 1) := by decide +kernel
theorem dX5_append_50 : decode cX5_append 50 = .ok (.getfield 125, 3) := by decide +kernel
theorem dX5_append_53 : decode cX5_append 53 = .ok (.iconst 1, 1) := by decide +kernel
theorem dX5_append_54 : decode cX5_append 54 = .ok (.iadd, 1) := by decide +kernel
theorem dX5_append_55 : decode cX5_append 55 = .ok (.putfield 125, 3) := by decide +kernel
theorem dX5_append_58 : decode cX5_append 58 = .ok (.aload_n 0, 1) := by decide +kernel
theorem dX5_append_59 : decode cX5_append 59 = .ok (.getfield 125, 3) := by decide +kernel
theorem dX5_append_62 : decode cX5_append 62 = .ok (.ireturn, 1) := by decide +kernel
theorem dX5_clearBuffer_0 : decode cX5_clearBuffer 0 = .ok (.aload_n 0, 1) := by decide +kernel
theorem dX5_clearBuffer_1 : decode cX5_clearBuffer 1 = .ok (.iconst 0, 1) := by decide +kernel
theorem dX5_clearBuffer_2 : decode cX5_clearBuffer 2 = .ok (.putfield 25, 3) := by decide +kernel
theorem dX5_clearBuffer_5 : decode cX5_clearBuffer 5 = .ok (.aload_n 0, 1) := by decide +kernel
theorem dX5_clearBuffer_6 : decode cX5_clearBuffer 6 = .ok (.getfield 125, 3) := by decide +kernel
theorem dX5_clearBuffer_9 : decode cX5_clearBuffer 9 = .ok (.istore_n 1, 1) := by decide +kernel
theorem dX5_clearBuffer_10 : decode cX5_clearBuffer 10 = .ok (.aload_n 0, 1) := by decide +kernel
theorem dX5_clearBuffer_11 : decode cX5_clearBuffer 11 = .ok (.iconst 0, 1) := by decide +kernel
theorem dX5_clearBuffer_12 : decode cX5_clearBuffer 12 = .ok (.putfield 125, 3) := by decide +kernel
theorem dX5_clearBuffer_15 : decode cX5_clearBuffer 15 = .ok (.iload_n 1, 1) := by decide +kernel
theorem dX5_clearBuffer_16 : decode cX5_clearBuffer 16 = .ok (.ireturn, 1) := by decide +kernel
theorem dX5_sign_0 : decode cX5_sign 0 = .ok (.aload_n 0, 1) := by decide +kernel
theorem dX5_sign_1 : decode cX5_sign 1 = .ok (.getfield 128, 3) := by decide +kernel
theorem dX5_sign_4 : decode cX5_sign 4 = .ok (.aload_n 0, 1) := by decide +kernel
theorem dX5_sign_5 : decode cX5_sign 5 = .ok (.getfield 125, 3) := by decide +kernel
theorem dX5_sign_8 : decode cX5_sign 8 = .ok (.if_icmp .ge 15, 3) := by decide +kernel
theorem dX5_sign_11 : decode cX5_sign 11 = .ok (.aload_n 0, 1) := by decide +kernel
theorem dX5_sign_12 : decode cX5_sign 12 = .ok (.getfield 13, 3) := by decide +kernel
theorem dX5_sign_15 : decode cX5_sign 15 = .ok (.aload_n 0, 1) := by decide +kernel
theorem dX5_sign_16 : decode cX5_sign 16 = .ok (.getfield 128, 3) := by decide +kernel
theorem dX5_sign_19 : decode cX5_sign 19 = .ok (.iaload, 1) := by decide +kernel
theorem dX5_sign_20 : decode cX5_sign 20 = .ok (.goto 4, 3) := by decide +kernel
theorem dX5_sign_23 : decode cX5_sign 23 = .ok (.iconst 0, 1) := by decide +kernel
theorem dX5_sign_24 : decode cX5_sign 24 = .ok (.ireturn, 1) := by decide +kernel
theorem dX5_takes_0 : decode cX5_takes 0 = .ok (.aload_n 0, 1) := by decide +kernel
theorem dX5_takes_1 : decode cX5_takes 1 = .ok (.invokevirtual 131, 3) := by decide +kernel
theorem dX5_takes_4 : decode cX5_takes 4 = .ok (.iload_n 1, 1) := by decide +kernel
theorem dX5_takes_5 : decode cX5_takes 5 = .ok (.if_icmp .ne 7, 3) := by decide +kernel
theorem dX5_takes_8 : decode cX5_takes 8 = .ok (.iconst 1, 1) := by decide +kernel
theorem dX5_takes_9 : decode cX5_takes 9 = .ok (.goto 4, 3) := by decide +kernel
theorem dX5_takes_12 : decode cX5_takes 12 = .ok (.iconst 0, 1) := by decide +kernel
theorem dX5_takes_13 : decode cX5_takes 13 = .ok (.istore_n 2, 1) := by decide +kernel
theorem dX5_takes_14 : decode cX5_takes 14 = .ok (.aload_n 0, 1) := by decide +kernel
theorem dX5_takes_15 : decode cX5_takes 15 = .ok (.dup, 1) := by decide +kernel
theorem dX5_takes_16 : decode cX5_takes 16 = .ok (.getfield 128, 3) := by decide +kernel
theorem dX5_takes_19 : decode cX5_takes 19 = .ok (.iload_n 2, 1) := by decide +kernel
theorem dX5_takes_20 : decode cX5_takes 20 = .ok (.ifCond .eq 7, 3) := by decide +kernel
theorem dX5_takes_23 : decode cX5_takes 23 = .ok (.iconst 1, 1) := by decide +kernel
theorem dX5_takes_24 : decode cX5_takes 24 = .ok (.goto 4, 3) := by decide +kernel
theorem dX5_takes_27 : decode cX5_takes 27 = .ok (.iconst 0, 1) := by decide +kernel
theorem dX5_takes_28 : decode cX5_takes 28 = .ok (.iadd, 1) := by decide +kernel
theorem dX5_takes_29 : decode cX5_takes 29 = .ok (.putfield 128, 3) := by decide +kernel
theorem dX5_takes_32 : decode cX5_takes 32 = .ok (.iload_n 2, 1) := by decide +kernel
theorem dX5_takes_33 : decode cX5_takes 33 = .ok (.ireturn, 1) := by decide +kernel
theorem dX5_number_0 : decode cX5_number 0 = .ok (.aload_n 0, 1) := by decide +kernel
theorem dX5_number_1 : decode cX5_number 1 = .ok (.invokevirtual 131, 3) := by decide +kernel
theorem dX5_number_4 : decode cX5_number 4 = .ok (.bipush 48, 2) := by decide +kernel
theorem dX5_number_6 : decode cX5_number 6 = .ok (.bipush 57, 2) := by decide +kernel
theorem dX5_number_8 : decode cX5_number 8 = .ok (.invokestatic 29, 3) := by decide +kernel
theorem dX5_number_11 : decode cX5_number 11 = .ok (.ifCond .eq 13, 3) := by decide +kernel
theorem dX5_number_14 : decode cX5_number 14 = .ok (.aload_n 0, 1) := by decide +kernel
theorem dX5_number_15 : decode cX5_number 15 = .ok (.invokevirtual 131, 3) := by decide +kernel
theorem dX5_number_18 : decode cX5_number 18 = .ok (.bipush 48, 2) := by decide +kernel
theorem dX5_number_20 : decode cX5_number 20 = .ok (.isub, 1) := by decide +kernel
theorem dX5_number_21 : decode cX5_number 21 = .ok (.goto 4, 3) := by decide +kernel
theorem dX5_number_24 : decode cX5_number 24 = .ok (.iconst (-1), 1) := by decide +kernel
theorem dX5_number_25 : decode cX5_number 25 = .ok (.istore_n 2, 1) := by decide +kernel
theorem dX5_number_26 : decode cX5_number 26 = .ok (.aload_n 0, 1) := by decide +kernel
theorem dX5_number_27 : decode cX5_number 27 = .ok (.dup, 1) := by decide +kernel
theorem dX5_number_28 : decode cX5_number 28 = .ok (.getfield 128, 3) := by decide +kernel
theorem dX5_number_31 : decode cX5_number 31 = .ok (.iload_n 2, 1) := by decide +kernel
theorem dX5_number_32 : decode cX5_number 32 = .ok (.iconst (-1), 1) := by decide +kernel
theorem dX5_number_33 : decode cX5_number 33 = .ok (.if_icmp .ne 7, 3) := by decide +kernel
theorem dX5_number_36 : decode cX5_number 36 = .ok (.iconst 0, 1) := by decide +kernel
theorem dX5_number_37 : decode cX5_number 37 = .ok (.goto 4, 3) := by decide +kernel
theorem dX5_number_40 : decode cX5_number 40 = .ok (.iconst 1, 1) := by decide +kernel
theorem dX5_number_41 : decode cX5_number 41 = .ok (.iadd, 1) := by decide +kernel
theorem dX5_number_42 : decode cX5_number 42 = .ok (.putfield 128, 3) := by decide +kernel
theorem dX5_number_45 : decode cX5_number 45 = .ok (.iload_n 2, 1) := by decide +kernel
theorem dX5_number_46 : decode cX5_number 46 = .ok (.iconst 1, 1) := by decide +kernel
theorem dX5_number_47 : decode cX5_number 47 = .ok (.if_icmp .ne 43, 3) := by decide +kernel
theorem dX5_number_50 : decode cX5_number 50 = .ok (.aload_n 0, 1) := by decide +kernel
theorem dX5_number_51 : decode cX5_number 51 = .ok (.invokevirtual 131, 3) := by decide +kernel
theorem dX5_number_54 : decode cX5_number 54 = .ok (.bipush 48, 2) := by decide +kernel
theorem dX5_number_56 : decode cX5_number 56 = .ok (.bipush 48, 2) := by decide +kernel
theorem dX5_number_58 : decode cX5_number 58 = .ok (.iload_n 1, 1) := by decide +kernel
theorem dX5_number_59 : decode cX5_number 59 = .ok (.iadd, 1) := by decide +kernel
theorem dX5_number_60 : decode cX5_number 60 = .ok (.bipush 10, 2) := by decide +kernel
theorem dX5_number_62 : decode cX5_number 62 = .ok (.isub, 1) := by decide +kernel
theorem dX5_number_63 : decode cX5_number 63 = .ok (.invokestatic 29, 3) := by decide +kernel
theorem dX5_number_66 : decode cX5_number 66 = .ok (.ifCond .eq 24, 3) := by decide +kernel
theorem dX5_number_69 : decode cX5_number 69 = .ok (.bipush 10, 2) := by decide +kernel
theorem dX5_number_71 : decode cX5_number 71 = .ok (.aload_n 0, 1) := by decide +kernel
theorem dX5_number_72 : decode cX5_number 72 = .ok (.invokevirtual 131, 3) := by decide +kernel
theorem dX5_number_75 : decode cX5_number 75 = .ok (.iadd, 1) := by decide +kernel
theorem dX5_number_76 : decode cX5_number 76 = .ok (.bipush 48, 2) := by decide +kernel
theorem dX5_number_78 : decode cX5_number 78 = .ok (.isub, 1) := by decide +kernel
theorem dX5_number_79 : decode cX5_number 79 = .ok (.istore_n 2, 1) := by decide +kernel
theorem dX5_number_80 : decode cX5_number 80 = .ok (.aload_n 0, 1) := by decide +kernel
theorem dX5_number_81 : decode cX5_number 81 = .ok (.dup, 1) := by decide +kernel
theorem dX5_number_82 : decode cX5_number 82 = .ok (.getfield 128, 3) := by decide +kernel
theorem dX5_number_85 : decode cX5_number 85 = .ok (.iconst 1, 1) := by decide +kernel
theorem dX5_number_86 : decode cX5_number 86 = .ok (.iadd, 1) := by decide +kernel
theorem dX5_number_87 : decode cX5_number 87 = .ok (.putfield 128, 3) := by decide +kernel
theorem dX5_number_90 : decode cX5_number 90 = .ok (.iload_n 2, 1) := by decide +kernel
theorem dX5_number_91 : decode cX5_number 91 = .ok (.ireturn, 1) := by decide +kernel
theorem dX5_readsPart_0 : decode cX5_readsPart 0 = .ok (.aload_n 0, 1) := by decide +kernel
theorem dX5_readsPart_1 : decode cX5_readsPart 1 = .ok (.aload_n 0, 1) := by decide +kernel
theorem dX5_readsPart_2 : decode cX5_readsPart 2 = .ok (.invokevirtual 131, 3) := by decide +kernel
theorem dX5_readsPart_5 : decode cX5_readsPart 5 = .ok (.putfield 134, 3) := by decide +kernel
theorem dX5_readsPart_8 : decode cX5_readsPart 8 = .ok (.aload_n 0, 1) := by decide +kernel
theorem dX5_readsPart_9 : decode cX5_readsPart 9 = .ok (.bipush 98, 2) := by decide +kernel
theorem dX5_readsPart_11 : decode cX5_readsPart 11 = .ok (.invokevirtual 137, 3) := by decide +kernel
theorem dX5_readsPart_14 : decode cX5_readsPart 14 = .ok (.ifCond .eq 5, 3) := by decide +kernel
theorem dX5_readsPart_17 : decode cX5_readsPart 17 = .ok (.iconst 1, 1) := by decide +kernel
theorem dX5_readsPart_18 : decode cX5_readsPart 18 = .ok (.ireturn, 1) := by decide +kernel
theorem dX5_readsPart_19 : decode cX5_readsPart 19 = .ok (.aload_n 0, 1) := by decide +kernel
theorem dX5_readsPart_20 : decode cX5_readsPart 20 = .ok (.bipush 103, 2) := by decide +kernel
theorem dX5_readsPart_22 : decode cX5_readsPart 22 = .ok (.invokevirtual 137, 3) := by decide +kernel
theorem dX5_readsPart_25 : decode cX5_readsPart 25 = .ok (.ifCond .eq 27, 3) := by decide +kernel
theorem dX5_readsPart_28 : decode cX5_readsPart 28 = .ok (.aload_n 0, 1) := by decide +kernel
theorem dX5_readsPart_29 : decode cX5_readsPart 29 = .ok (.aload_n 0, 1) := by decide +kernel
theorem dX5_readsPart_30 : decode cX5_readsPart 30 = .ok (.bipush 15, 2) := by decide +kernel
theorem dX5_readsPart_32 : decode cX5_readsPart 32 = .ok (.invokevirtual 140, 3) := by decide +kernel
theorem dX5_readsPart_35 : decode cX5_readsPart 35 = .ok (.putfield 143, 3) := by decide +kernel
theorem dX5_readsPart_38 : decode cX5_readsPart 38 = .ok (.aload_n 0, 1) := by decide +kernel
theorem dX5_readsPart_39 : decode cX5_readsPart 39 = .ok (.getfield 143, 3) := by decide +kernel
theorem dX5_readsPart_42 : decode cX5_readsPart 42 = .ok (.iconst (-1), 1) := by decide +kernel
theorem dX5_readsPart_43 : decode cX5_readsPart 43 = .ok (.if_icmp .eq 7, 3) := by decide +kernel
theorem dX5_readsPart_46 : decode cX5_readsPart 46 = .ok (.iconst 1, 1) := by decide +kernel
theorem dX5_readsPart_47 : decode cX5_readsPart 47 = .ok (.goto 4, 3) := by decide +kernel
theorem dX5_readsPart_50 : decode cX5_readsPart 50 = .ok (.iconst 0, 1) := by decide +kernel
theorem dX5_readsPart_51 : decode cX5_readsPart 51 = .ok (.ireturn, 1) := by decide +kernel
theorem dX5_readsPart_52 : decode cX5_readsPart 52 = .ok (.aload_n 0, 1) := by decide +kernel
theorem dX5_readsPart_53 : decode cX5_readsPart 53 = .ok (.bipush 112, 2) := by decide +kernel
theorem dX5_readsPart_55 : decode cX5_readsPart 55 = .ok (.invokevirtual 137, 3) := by decide +kernel
theorem dX5_readsPart_58 : decode cX5_readsPart 58 = .ok (.ifCond .ne 12, 3) := by decide +kernel
theorem dX5_readsPart_61 : decode cX5_readsPart 61 = .ok (.aload_n 0, 1) := by decide +kernel
theorem dX5_readsPart_62 : decode cX5_readsPart 62 = .ok (.bipush 102, 2) := by decide +kernel
theorem dX5_readsPart_64 : decode cX5_readsPart 64 = .ok (.invokevirtual 137, 3) := by decide +kernel
theorem dX5_readsPart_67 : decode cX5_readsPart 67 = .ok (.ifCond .eq 27, 3) := by decide +kernel
theorem dX5_readsPart_70 : decode cX5_readsPart 70 = .ok (.aload_n 0, 1) := by decide +kernel
theorem dX5_readsPart_71 : decode cX5_readsPart 71 = .ok (.aload_n 0, 1) := by decide +kernel
theorem dX5_readsPart_72 : decode cX5_readsPart 72 = .ok (.bipush 19, 2) := by decide +kernel
theorem dX5_readsPart_74 : decode cX5_readsPart 74 = .ok (.invokevirtual 140, 3) := by decide +kernel
theorem dX5_readsPart_77 : decode cX5_readsPart 77 = .ok (.putfield 143, 3) := by decide +kernel
theorem dX5_readsPart_80 : decode cX5_readsPart 80 = .ok (.aload_n 0, 1) := by decide +kernel
theorem dX5_readsPart_81 : decode cX5_readsPart 81 = .ok (.getfield 143, 3) := by decide +kernel
theorem dX5_readsPart_84 : decode cX5_readsPart 84 = .ok (.iconst (-1), 1) := by decide +kernel
theorem dX5_readsPart_85 : decode cX5_readsPart 85 = .ok (.if_icmp .eq 7, 3) := by decide +kernel
theorem dX5_readsPart_88 : decode cX5_readsPart 88 = .ok (.iconst 1, 1) := by decide +kernel
theorem dX5_readsPart_89 : decode cX5_readsPart 89 = .ok (.goto 4, 3) := by decide +kernel
theorem dX5_readsPart_92 : decode cX5_readsPart 92 = .ok (.iconst 0, 1) := by decide +kernel
theorem dX5_readsPart_93 : decode cX5_readsPart 93 = .ok (.ireturn, 1) := by decide +kernel
theorem dX5_readsPart_94 : decode cX5_readsPart 94 = .ok (.aload_n 0, 1) := by decide +kernel
theorem dX5_readsPart_95 : decode cX5_readsPart 95 = .ok (.aload_n 0, 1) := by decide +kernel
theorem dX5_readsPart_96 : decode cX5_readsPart 96 = .ok (.bipush 109, 2) := by decide +kernel
theorem dX5_readsPart_98 : decode cX5_readsPart 98 = .ok (.invokevirtual 137, 3) := by decide +kernel
theorem dX5_readsPart_101 : decode cX5_readsPart 101 = .ok (.ifCond .eq 12, 3) := by decide +kernel
theorem dX5_readsPart_104 : decode cX5_readsPart 104 = .ok (.aload_n 0, 1) := by decide +kernel
theorem dX5_readsPart_105 : decode cX5_readsPart 105 = .ok (.bipush 19, 2) := by decide +kernel
theorem dX5_readsPart_107 : decode cX5_readsPart 107 = .ok (.invokevirtual 140, 3) := by decide +kernel
theorem dX5_readsPart_110 : decode cX5_readsPart 110 = .ok (.goto 4, 3) := by decide +kernel
theorem dX5_readsPart_113 : decode cX5_readsPart 113 = .ok (.iconst (-1), 1) := by decide +kernel
theorem dX5_readsPart_114 : decode cX5_readsPart 114 = .ok (.putfield 143, 3) := by decide +kernel
theorem dX5_readsPart_117 : decode cX5_readsPart 117 = .ok (.aload_n 0, 1) := by decide +kernel
theorem dX5_readsPart_118 : decode cX5_readsPart 118 = .ok (.aload_n 0, 1) := by decide +kernel
theorem dX5_readsPart_119 : decode cX5_readsPart 119 = .ok (.getfield 143, 3) := by decide +kernel
theorem dX5_readsPart_122 : decode cX5_readsPart 122 = .ok (.iconst (-1), 1) := by decide +kernel
theorem dX5_readsPart_123 : decode cX5_readsPart 123 = .ok (.if_icmp .eq 21, 3) := by decide +kernel
theorem dX5_readsPart_126 : decode cX5_readsPart 126 = .ok (.aload_n 0, 1) := by decide +kernel
theorem dX5_readsPart_127 : decode cX5_readsPart 127 = .ok (.bipush 62, 2) := by decide +kernel
theorem dX5_readsPart_129 : decode cX5_readsPart 129 = .ok (.invokevirtual 137, 3) := by decide +kernel
theorem dX5_readsPart_132 : decode cX5_readsPart 132 = .ok (.ifCond .eq 12, 3) := by decide +kernel
theorem dX5_readsPart_135 : decode cX5_readsPart 135 = .ok (.aload_n 0, 1) := by decide +kernel
theorem dX5_readsPart_136 : decode cX5_readsPart 136 = .ok (.bipush 19, 2) := by decide +kernel
theorem dX5_readsPart_138 : decode cX5_readsPart 138 = .ok (.invokevirtual 140, 3) := by decide +kernel
theorem dX5_readsPart_141 : decode cX5_readsPart 141 = .ok (.goto 4, 3) := by decide +kernel
theorem dX5_readsPart_144 : decode cX5_readsPart 144 = .ok (.iconst (-1), 1) := by decide +kernel
theorem dX5_readsPart_145 : decode cX5_readsPart 145 = .ok (.putfield 146, 3) := by decide +kernel
theorem dX5_readsPart_148 : decode cX5_readsPart 148 = .ok (.aload_n 0, 1) := by decide +kernel
theorem dX5_readsPart_149 : decode cX5_readsPart 149 = .ok (.getfield 146, 3) := by decide +kernel
theorem dX5_readsPart_152 : decode cX5_readsPart 152 = .ok (.iconst (-1), 1) := by decide +kernel
theorem dX5_readsPart_153 : decode cX5_readsPart 153 = .ok (.if_icmp .eq 7, 3) := by decide +kernel
theorem dX5_readsPart_156 : decode cX5_readsPart 156 = .ok (.iconst 1, 1) := by decide +kernel
theorem dX5_readsPart_157 : decode cX5_readsPart 157 = .ok (.goto 4, 3) := by decide +kernel
theorem dX5_readsPart_160 : decode cX5_readsPart 160 = .ok (.iconst 0, 1) := by decide +kernel
theorem dX5_readsPart_161 : decode cX5_readsPart 161 = .ok (.ireturn, 1) := by decide +kernel
theorem dX5_isWork_0 : decode cX5_isWork 0 = .ok (.aload_n 0, 1) := by decide +kernel
theorem dX5_isWork_1 : decode cX5_isWork 1 = .ok (.iconst 0, 1) := by decide +kernel
theorem dX5_isWork_2 : decode cX5_isWork 2 = .ok (.putfield 128, 3) := by decide +kernel
theorem dX5_isWork_5 : decode cX5_isWork 5 = .ok (.aload_n 0, 1) := by decide +kernel
theorem dX5_isWork_6 : decode cX5_isWork 6 = .ok (.invokevirtual 149, 3) := by decide +kernel
theorem dX5_isWork_9 : decode cX5_isWork 9 = .ok (.ifCond .eq 27, 3) := by decide +kernel
theorem dX5_isWork_12 : decode cX5_isWork 12 = .ok (.aload_n 0, 1) := by decide +kernel
theorem dX5_isWork_13 : decode cX5_isWork 13 = .ok (.getfield 128, 3) := by decide +kernel
theorem dX5_isWork_16 : decode cX5_isWork 16 = .ok (.aload_n 0, 1) := by decide +kernel
theorem dX5_isWork_17 : decode cX5_isWork 17 = .ok (.getfield 125, 3) := by decide +kernel
theorem dX5_isWork_20 : decode cX5_isWork 20 = .ok (.if_icmp .ne 5, 3) := by decide +kernel
theorem dX5_isWork_23 : decode cX5_isWork 23 = .ok (.iconst 1, 1) := by decide +kernel
theorem dX5_isWork_24 : decode cX5_isWork 24 = .ok (.ireturn, 1) := by decide +kernel
theorem dX5_isWork_25 : decode cX5_isWork 25 = .ok (.aload_n 0, 1) := by decide +kernel
theorem dX5_isWork_26 : decode cX5_isWork 26 = .ok (.bipush 59, 2) := by decide +kernel
theorem dX5_isWork_28 : decode cX5_isWork 28 = .ok (.invokevirtual 137, 3) := by decide +kernel
theorem dX5_isWork_31 : decode cX5_isWork 31 = .ok (.ifCond .ne (-26), 3) := by decide +kernel
theorem dX5_isWork_34 : decode cX5_isWork 34 = .ok (.iconst 0, 1) := by decide +kernel
theorem dX5_isWork_35 : decode cX5_isWork 35 = .ok (.ireturn, 1) := by decide +kernel
theorem dX5_isWork_36 : decode cX5_isWork 36 = .ok (.iconst 0, 1) := by decide +kernel
theorem dX5_isWork_37 : decode cX5_isWork 37 = .ok (.ireturn, 1) := by decide +kernel
theorem dX5_firstError_0 : decode cX5_firstError 0 = .ok (.aload_n 0, 1) := by decide +kernel
theorem dX5_firstError_1 : decode cX5_firstError 1 = .ok (.iconst 0, 1) := by decide +kernel
theorem dX5_firstError_2 : decode cX5_firstError 2 = .ok (.putfield 25, 3) := by decide +kernel
theorem dX5_firstError_5 : decode cX5_firstError 5 = .ok (.aload_n 0, 1) := by decide +kernel
theorem dX5_firstError_6 : decode cX5_firstError 6 = .ok (.invokevirtual 152, 3) := by decide +kernel
theorem dX5_firstError_9 : decode cX5_firstError 9 = .ok (.pop, 1) := by decide +kernel
theorem dX5_firstError_10 : decode cX5_firstError 10 = .ok (.aload_n 0, 1) := by decide +kernel
theorem dX5_firstError_11 : decode cX5_firstError 11 = .ok (.getfield 128, 3) := by decide +kernel
theorem dX5_firstError_14 : decode cX5_firstError 14 = .ok (.ireturn, 1) := by decide +kernel
theorem dX5_isDone_0 : decode cX5_isDone 0 = .ok (.aload_n 0, 1) := by decide +kernel
theorem dX5_isDone_1 : decode cX5_isDone 1 = .ok (.getfield 134, 3) := by decide +kernel
theorem dX5_isDone_4 : decode cX5_isDone 4 = .ok (.lookupswitch 177 #[(102, 106), (103, 44), (109, 134), (112, 78)], 44) := by decide +kernel
theorem dX5_isDone_48 : decode cX5_isDone 48 = .ok (.aload_n 0, 1) := by decide +kernel
theorem dX5_isDone_49 : decode cX5_isDone 49 = .ok (.aload_n 0, 1) := by decide +kernel
theorem dX5_isDone_50 : decode cX5_isDone 50 = .ok (.getfield 143, 3) := by decide +kernel
theorem dX5_isDone_53 : decode cX5_isDone 53 = .ok (.invokevirtual 91, 3) := by decide +kernel
theorem dX5_isDone_56 : decode cX5_isDone 56 = .ok (.ifCond .eq 24, 3) := by decide +kernel
theorem dX5_isDone_59 : decode cX5_isDone 59 = .ok (.aload_n 0, 1) := by decide +kernel
theorem dX5_isDone_60 : decode cX5_isDone 60 = .ok (.aload_n 0, 1) := by decide +kernel
theorem dX5_isDone_61 : decode cX5_isDone 61 = .ok (.getfield 7, 3) := by decide +kernel
theorem dX5_isDone_64 : decode cX5_isDone 64 = .ok (.iconst 3, 1) := by decide +kernel
theorem dX5_isDone_65 : decode cX5_isDone 65 = .ok (.iaload, 1) := by decide +kernel
theorem dX5_isDone_66 : decode cX5_isDone 66 = .ok (.aload_n 0, 1) := by decide +kernel
theorem dX5_isDone_67 : decode cX5_isDone 67 = .ok (.getfield 143, 3) := by decide +kernel
theorem dX5_isDone_70 : decode cX5_isDone 70 = .ok (.invokevirtual 100, 3) := by decide +kernel
theorem dX5_isDone_73 : decode cX5_isDone 73 = .ok (.ifCond .le 7, 3) := by decide +kernel
theorem dX5_isDone_76 : decode cX5_isDone 76 = .ok (.iconst 1, 1) := by decide +kernel
theorem dX5_isDone_77 : decode cX5_isDone 77 = .ok (.goto 4, 3) := by decide +kernel
theorem dX5_isDone_80 : decode cX5_isDone 80 = .ok (.iconst 0, 1) := by decide +kernel
theorem dX5_isDone_81 : decode cX5_isDone 81 = .ok (.ireturn, 1) := by decide +kernel
theorem dX5_isDone_82 : decode cX5_isDone 82 = .ok (.aload_n 0, 1) := by decide +kernel
theorem dX5_isDone_83 : decode cX5_isDone 83 = .ok (.aload_n 0, 1) := by decide +kernel
theorem dX5_isDone_84 : decode cX5_isDone 84 = .ok (.getfield 143, 3) := by decide +kernel
theorem dX5_isDone_87 : decode cX5_isDone 87 = .ok (.invokevirtual 103, 3) := by decide +kernel
theorem dX5_isDone_90 : decode cX5_isDone 90 = .ok (.ifCond .eq 18, 3) := by decide +kernel
theorem dX5_isDone_93 : decode cX5_isDone 93 = .ok (.aload_n 0, 1) := by decide +kernel
theorem dX5_isDone_94 : decode cX5_isDone 94 = .ok (.aload_n 0, 1) := by decide +kernel
theorem dX5_isDone_95 : decode cX5_isDone 95 = .ok (.getfield 143, 3) := by decide +kernel
theorem dX5_isDone_98 : decode cX5_isDone 98 = .ok (.invokevirtual 106, 3) := by decide +kernel
theorem dX5_isDone_101 : decode cX5_isDone 101 = .ok (.ifCond .lt 7, 3) := by decide +kernel
theorem dX5_isDone_104 : decode cX5_isDone 104 = .ok (.iconst 1, 1) := by decide +kernel
theorem dX5_isDone_105 : decode cX5_isDone 105 = .ok (.goto 4, 3) := by decide +kernel
theorem dX5_isDone_108 : decode cX5_isDone 108 = .ok (.iconst 0, 1) := by decide +kernel
theorem dX5_isDone_109 : decode cX5_isDone 109 = .ok (.ireturn, 1) := by decide +kernel
theorem dX5_isDone_110 : decode cX5_isDone 110 = .ok (.aload_n 0, 1) := by decide +kernel
theorem dX5_isDone_111 : decode cX5_isDone 111 = .ok (.aload_n 0, 1) := by decide +kernel
theorem dX5_isDone_112 : decode cX5_isDone 112 = .ok (.getfield 143, 3) := by decide +kernel
theorem dX5_isDone_115 : decode cX5_isDone 115 = .ok (.invokevirtual 103, 3) := by decide +kernel
theorem dX5_isDone_118 : decode cX5_isDone 118 = .ok (.ifCond .eq 18, 3) := by decide +kernel
theorem dX5_isDone_121 : decode cX5_isDone 121 = .ok (.aload_n 0, 1) := by decide +kernel
theorem dX5_isDone_122 : decode cX5_isDone 122 = .ok (.aload_n 0, 1) := by decide +kernel
theorem dX5_isDone_123 : decode cX5_isDone 123 = .ok (.getfield 143, 3) := by decide +kernel
theorem dX5_isDone_126 : decode cX5_isDone 126 = .ok (.invokevirtual 109, 3) := by decide +kernel
theorem dX5_isDone_129 : decode cX5_isDone 129 = .ok (.ifCond .lt 7, 3) := by decide +kernel
theorem dX5_isDone_132 : decode cX5_isDone 132 = .ok (.iconst 1, 1) := by decide +kernel
theorem dX5_isDone_133 : decode cX5_isDone 133 = .ok (.goto 4, 3) := by decide +kernel
theorem dX5_isDone_136 : decode cX5_isDone 136 = .ok (.iconst 0, 1) := by decide +kernel
theorem dX5_isDone_137 : decode cX5_isDone 137 = .ok (.ireturn, 1) := by decide +kernel
theorem dX5_isDone_138 : decode cX5_isDone 138 = .ok (.aload_n 0, 1) := by decide +kernel
theorem dX5_isDone_139 : decode cX5_isDone 139 = .ok (.aload_n 0, 1) := by decide +kernel
theorem dX5_isDone_140 : decode cX5_isDone 140 = .ok (.getfield 143, 3) := by decide +kernel
theorem dX5_isDone_143 : decode cX5_isDone 143 = .ok (.invokevirtual 103, 3) := by decide +kernel
theorem dX5_isDone_146 : decode cX5_isDone 146 = .ok (.ifCond .eq 33, 3) := by decide +kernel
theorem dX5_isDone_149 : decode cX5_isDone 149 = .ok (.aload_n 0, 1) := by decide +kernel
theorem dX5_isDone_150 : decode cX5_isDone 150 = .ok (.aload_n 0, 1) := by decide +kernel
theorem dX5_isDone_151 : decode cX5_isDone 151 = .ok (.getfield 146, 3) := by decide +kernel
theorem dX5_isDone_154 : decode cX5_isDone 154 = .ok (.invokevirtual 103, 3) := by decide +kernel
theorem dX5_isDone_157 : decode cX5_isDone 157 = .ok (.ifCond .eq 22, 3) := by decide +kernel
theorem dX5_isDone_160 : decode cX5_isDone 160 = .ok (.aload_n 0, 1) := by decide +kernel
theorem dX5_isDone_161 : decode cX5_isDone 161 = .ok (.aload_n 0, 1) := by decide +kernel
theorem dX5_isDone_162 : decode cX5_isDone 162 = .ok (.getfield 143, 3) := by decide +kernel
theorem dX5_isDone_165 : decode cX5_isDone 165 = .ok (.aload_n 0, 1) := by decide +kernel
theorem dX5_isDone_166 : decode cX5_isDone 166 = .ok (.getfield 146, 3) := by decide +kernel
theorem dX5_isDone_169 : decode cX5_isDone 169 = .ok (.invokevirtual 112, 3) := by decide +kernel
theorem dX5_isDone_172 : decode cX5_isDone 172 = .ok (.ifCond .lt 7, 3) := by decide +kernel
theorem dX5_isDone_175 : decode cX5_isDone 175 = .ok (.iconst 1, 1) := by decide +kernel
theorem dX5_isDone_176 : decode cX5_isDone 176 = .ok (.goto 4, 3) := by decide +kernel
theorem dX5_isDone_179 : decode cX5_isDone 179 = .ok (.iconst 0, 1) := by decide +kernel
theorem dX5_isDone_180 : decode cX5_isDone 180 = .ok (.ireturn, 1) := by decide +kernel
theorem dX5_isDone_181 : decode cX5_isDone 181 = .ok (.aload_n 0, 1) := by decide +kernel
theorem dX5_isDone_182 : decode cX5_isDone 182 = .ok (.invokevirtual 115, 3) := by decide +kernel
theorem dX5_isDone_185 : decode cX5_isDone 185 = .ok (.ifCond .eq 14, 3) := by decide +kernel
theorem dX5_isDone_188 : decode cX5_isDone 188 = .ok (.aload_n 0, 1) := by decide +kernel
theorem dX5_isDone_189 : decode cX5_isDone 189 = .ok (.invokevirtual 119, 3) := by decide +kernel
theorem dX5_isDone_192 : decode cX5_isDone 192 = .ok (.ifCond .le 7, 3) := by decide +kernel
theorem dX5_isDone_195 : decode cX5_isDone 195 = .ok (.iconst 1, 1) := by decide +kernel
theorem dX5_isDone_196 : decode cX5_isDone 196 = .ok (.goto 4, 3) := by decide +kernel
theorem dX5_isDone_199 : decode cX5_isDone 199 = .ok (.iconst 0, 1) := by decide +kernel
theorem dX5_isDone_200 : decode cX5_isDone 200 = .ok (.ireturn, 1) := by decide +kernel
theorem dX5_work_0 : decode cX5_work 0 = .ok (.aload_n 0, 1) := by decide +kernel
theorem dX5_work_1 : decode cX5_work 1 = .ok (.aload_n 0, 1) := by decide +kernel
theorem dX5_work_2 : decode cX5_work 2 = .ok (.invokevirtual 152, 3) := by decide +kernel
theorem dX5_work_5 : decode cX5_work 5 = .ok (.ifCond .eq 7, 3) := by decide +kernel
theorem dX5_work_8 : decode cX5_work 8 = .ok (.iconst 0, 1) := by decide +kernel
theorem dX5_work_9 : decode cX5_work 9 = .ok (.goto 4, 3) := by decide +kernel
theorem dX5_work_12 : decode cX5_work 12 = .ok (.iconst 1, 1) := by decide +kernel
theorem dX5_work_13 : decode cX5_work 13 = .ok (.invokevirtual 94, 3) := by decide +kernel
theorem dX5_work_16 : decode cX5_work 16 = .ok (.ifCond .ne 5, 3) := by decide +kernel
theorem dX5_work_19 : decode cX5_work 19 = .ok (.iconst 0, 1) := by decide +kernel
theorem dX5_work_20 : decode cX5_work 20 = .ok (.ireturn, 1) := by decide +kernel
theorem dX5_work_21 : decode cX5_work 21 = .ok (.aload_n 0, 1) := by decide +kernel
theorem dX5_work_22 : decode cX5_work 22 = .ok (.invokevirtual 97, 3) := by decide +kernel
theorem dX5_work_25 : decode cX5_work 25 = .ok (.aload_n 0, 1) := by decide +kernel
theorem dX5_work_26 : decode cX5_work 26 = .ok (.getfield 7, 3) := by decide +kernel
theorem dX5_work_29 : decode cX5_work 29 = .ok (.iconst 5, 1) := by decide +kernel
theorem dX5_work_30 : decode cX5_work 30 = .ok (.iconst (-1), 1) := by decide +kernel
theorem dX5_work_31 : decode cX5_work 31 = .ok (.iastore, 1) := by decide +kernel
theorem dX5_work_32 : decode cX5_work 32 = .ok (.aload_n 0, 1) := by decide +kernel
theorem dX5_work_33 : decode cX5_work 33 = .ok (.iconst 0, 1) := by decide +kernel
theorem dX5_work_34 : decode cX5_work 34 = .ok (.putfield 128, 3) := by decide +kernel
theorem dX5_work_37 : decode cX5_work 37 = .ok (.iconst 0, 1) := by decide +kernel
theorem dX5_work_38 : decode cX5_work 38 = .ok (.istore_n 1, 1) := by decide +kernel
theorem dX5_work_39 : decode cX5_work 39 = .ok (.aload_n 0, 1) := by decide +kernel
theorem dX5_work_40 : decode cX5_work 40 = .ok (.getfield 7, 3) := by decide +kernel
theorem dX5_work_43 : decode cX5_work 43 = .ok (.iconst 5, 1) := by decide +kernel
theorem dX5_work_44 : decode cX5_work 44 = .ok (.iaload, 1) := by decide +kernel
theorem dX5_work_45 : decode cX5_work 45 = .ok (.iconst (-1), 1) := by decide +kernel
theorem dX5_work_46 : decode cX5_work 46 = .ok (.if_icmp .ne 52, 3) := by decide +kernel
theorem dX5_work_49 : decode cX5_work 49 = .ok (.aload_n 0, 1) := by decide +kernel
theorem dX5_work_50 : decode cX5_work 50 = .ok (.invokevirtual 149, 3) := by decide +kernel
theorem dX5_work_53 : decode cX5_work 53 = .ok (.ifCond .eq 45, 3) := by decide +kernel
theorem dX5_work_56 : decode cX5_work 56 = .ok (.aload_n 0, 1) := by decide +kernel
theorem dX5_work_57 : decode cX5_work 57 = .ok (.invokevirtual 155, 3) := by decide +kernel
theorem dX5_work_60 : decode cX5_work 60 = .ok (.istore_n 2, 1) := by decide +kernel
theorem dX5_work_61 : decode cX5_work 61 = .ok (.aload_n 0, 1) := by decide +kernel
theorem dX5_work_62 : decode cX5_work 62 = .ok (.getfield 7, 3) := by decide +kernel
theorem dX5_work_65 : decode cX5_work 65 = .ok (.iconst 5, 1) := by decide +kernel
theorem dX5_work_66 : decode cX5_work 66 = .ok (.iload_n 2, 1) := by decide +kernel
theorem dX5_work_67 : decode cX5_work 67 = .ok (.ifCond .eq 7, 3) := by decide +kernel
theorem dX5_work_70 : decode cX5_work 70 = .ok (.iconst (-1), 1) := by decide +kernel
theorem dX5_work_71 : decode cX5_work 71 = .ok (.goto 4, 3) := by decide +kernel
theorem dX5_work_74 : decode cX5_work 74 = .ok (.iload_n 1, 1) := by decide +kernel
theorem dX5_work_75 : decode cX5_work 75 = .ok (.iastore, 1) := by decide +kernel
theorem dX5_work_76 : decode cX5_work 76 = .ok (.iload_n 1, 1) := by decide +kernel
theorem dX5_work_77 : decode cX5_work 77 = .ok (.iload_n 2, 1) := by decide +kernel
theorem dX5_work_78 : decode cX5_work 78 = .ok (.ifCond .eq 7, 3) := by decide +kernel
theorem dX5_work_81 : decode cX5_work 81 = .ok (.iconst 1, 1) := by decide +kernel
theorem dX5_work_82 : decode cX5_work 82 = .ok (.goto 4, 3) := by decide +kernel
theorem dX5_work_85 : decode cX5_work 85 = .ok (.iconst 0, 1) := by decide +kernel
theorem dX5_work_86 : decode cX5_work 86 = .ok (.iadd, 1) := by decide +kernel
theorem dX5_work_87 : decode cX5_work 87 = .ok (.istore_n 1, 1) := by decide +kernel
theorem dX5_work_88 : decode cX5_work 88 = .ok (.aload_n 0, 1) := by decide +kernel
theorem dX5_work_89 : decode cX5_work 89 = .ok (.bipush 59, 2) := by decide +kernel
theorem dX5_work_91 : decode cX5_work 91 = .ok (.invokevirtual 137, 3) := by decide +kernel
theorem dX5_work_94 : decode cX5_work 94 = .ok (.pop, 1) := by decide +kernel
theorem dX5_work_95 : decode cX5_work 95 = .ok (.goto (-56), 3) := by decide +kernel
theorem dX5_work_98 : decode cX5_work 98 = .ok (.aload_n 0, 1) := by decide +kernel
theorem dX5_work_99 : decode cX5_work 99 = .ok (.iconst 0, 1) := by decide +kernel
theorem dX5_work_100 : decode cX5_work 100 = .ok (.putfield 125, 3) := by decide +kernel
theorem dX5_work_103 : decode cX5_work 103 = .ok (.iload_n 1, 1) := by decide +kernel
theorem dX5_work_104 : decode cX5_work 104 = .ok (.ireturn, 1) := by decide +kernel
theorem dX5_keep_0 : decode cX5_keep 0 = .ok (.aload_n 0, 1) := by decide +kernel
theorem dX5_keep_1 : decode cX5_keep 1 = .ok (.iconst 0, 1) := by decide +kernel
theorem dX5_keep_2 : decode cX5_keep 2 = .ok (.putfield 25, 3) := by decide +kernel
theorem dX5_keep_5 : decode cX5_keep 5 = .ok (.aload_n 0, 1) := by decide +kernel
theorem dX5_keep_6 : decode cX5_keep 6 = .ok (.iconst 0, 1) := by decide +kernel
theorem dX5_keep_7 : decode cX5_keep 7 = .ok (.bipush 7, 2) := by decide +kernel
theorem dX5_keep_9 : decode cX5_keep 9 = .ok (.invokevirtual 84, 3) := by decide +kernel
theorem dX5_keep_12 : decode cX5_keep 12 = .ok (.aload_n 0, 1) := by decide +kernel
theorem dX5_keep_13 : decode cX5_keep 13 = .ok (.iconst 1, 1) := by decide +kernel
theorem dX5_keep_14 : decode cX5_keep 14 = .ok (.putfield 158, 3) := by decide +kernel
theorem dX5_keep_17 : decode cX5_keep 17 = .ok (.aload_n 0, 1) := by decide +kernel
theorem dX5_keep_18 : decode cX5_keep 18 = .ok (.getfield 7, 3) := by decide +kernel
theorem dX5_keep_21 : decode cX5_keep 21 = .ok (.iconst 3, 1) := by decide +kernel
theorem dX5_keep_22 : decode cX5_keep 22 = .ok (.iaload, 1) := by decide +kernel
theorem dX5_keep_23 : decode cX5_keep 23 = .ok (.ireturn, 1) := by decide +kernel
theorem dX5_goBack_0 : decode cX5_goBack 0 = .ok (.aload_n 0, 1) := by decide +kernel
theorem dX5_goBack_1 : decode cX5_goBack 1 = .ok (.aload_n 0, 1) := by decide +kernel
theorem dX5_goBack_2 : decode cX5_goBack 2 = .ok (.getfield 158, 3) := by decide +kernel
theorem dX5_goBack_5 : decode cX5_goBack 5 = .ok (.ifCond .eq 7, 3) := by decide +kernel
theorem dX5_goBack_8 : decode cX5_goBack 8 = .ok (.iconst 0, 1) := by decide +kernel
theorem dX5_goBack_9 : decode cX5_goBack 9 = .ok (.goto 4, 3) := by decide +kernel
theorem dX5_goBack_12 : decode cX5_goBack 12 = .ok (.iconst 1, 1) := by decide +kernel
theorem dX5_goBack_13 : decode cX5_goBack 13 = .ok (.invokevirtual 94, 3) := by decide +kernel
theorem dX5_goBack_16 : decode cX5_goBack 16 = .ok (.ifCond .ne 5, 3) := by decide +kernel
theorem dX5_goBack_19 : decode cX5_goBack 19 = .ok (.iconst 0, 1) := by decide +kernel
theorem dX5_goBack_20 : decode cX5_goBack 20 = .ok (.ireturn, 1) := by decide +kernel
theorem dX5_goBack_21 : decode cX5_goBack 21 = .ok (.aload_n 0, 1) := by decide +kernel
theorem dX5_goBack_22 : decode cX5_goBack 22 = .ok (.invokevirtual 97, 3) := by decide +kernel
theorem dX5_goBack_25 : decode cX5_goBack 25 = .ok (.aload_n 0, 1) := by decide +kernel
theorem dX5_goBack_26 : decode cX5_goBack 26 = .ok (.bipush 7, 2) := by decide +kernel
theorem dX5_goBack_28 : decode cX5_goBack 28 = .ok (.iconst 0, 1) := by decide +kernel
theorem dX5_goBack_29 : decode cX5_goBack 29 = .ok (.invokevirtual 84, 3) := by decide +kernel
theorem dX5_goBack_32 : decode cX5_goBack 32 = .ok (.aload_n 0, 1) := by decide +kernel
theorem dX5_goBack_33 : decode cX5_goBack 33 = .ok (.getfield 7, 3) := by decide +kernel
theorem dX5_goBack_36 : decode cX5_goBack 36 = .ok (.iconst 3, 1) := by decide +kernel
theorem dX5_goBack_37 : decode cX5_goBack 37 = .ok (.iaload, 1) := by decide +kernel
theorem dX5_goBack_38 : decode cX5_goBack 38 = .ok (.ireturn, 1) := by decide +kernel
theorem dX5_undo_0 : decode cX5_undo 0 = .ok (.aload_n 0, 1) := by decide +kernel
theorem dX5_undo_1 : decode cX5_undo 1 = .ok (.aload_n 0, 1) := by decide +kernel
theorem dX5_undo_2 : decode cX5_undo 2 = .ok (.getfield 81, 3) := by decide +kernel
theorem dX5_undo_5 : decode cX5_undo 5 = .ok (.ifCond .le 7, 3) := by decide +kernel
theorem dX5_undo_8 : decode cX5_undo 8 = .ok (.iconst 0, 1) := by decide +kernel
end
section
theorem dX5_undo_9 : decode cX5_undo 9 = .ok (.goto 4, 3) := by decide +kernel
theorem dX5_undo_12 : decode cX5_undo 12 = .ok (.iconst 1, 1) := by decide +kernel
theorem dX5_undo_13 : decode cX5_undo 13 = .ok (.invokevirtual 94, 3) := by decide +kernel
theorem dX5_undo_16 : decode cX5_undo 16 = .ok (.ifCond .ne 5, 3) := by decide +kernel
theorem dX5_undo_19 : decode cX5_undo 19 = .ok (.iconst 0, 1) := by decide +kernel
theorem dX5_undo_20 : decode cX5_undo 20 = .ok (.ireturn, 1) := by decide +kernel
theorem dX5_undo_21 : decode cX5_undo 21 = .ok (.aload_n 0, 1) := by decide +kernel
theorem dX5_undo_22 : decode cX5_undo 22 = .ok (.aload_n 0, 1) := by decide +kernel
theorem dX5_undo_23 : decode cX5_undo 23 = .ok (.getfield 81, 3) := by decide +kernel
theorem dX5_undo_26 : decode cX5_undo 26 = .ok (.iconst 0, 1) := by decide +kernel
theorem dX5_undo_27 : decode cX5_undo 27 = .ok (.invokevirtual 84, 3) := by decide +kernel
theorem dX5_undo_30 : decode cX5_undo 30 = .ok (.aload_n 0, 1) := by decide +kernel
theorem dX5_undo_31 : decode cX5_undo 31 = .ok (.dup, 1) := by decide +kernel
theorem dX5_undo_32 : decode cX5_undo 32 = .ok (.getfield 81, 3) := by decide +kernel
theorem dX5_undo_35 : decode cX5_undo 35 = .ok (.iconst 1, 1) := by decide +kernel
theorem dX5_undo_36 : decode cX5_undo 36 = .ok (.isub, 1) := by decide +kernel
theorem dX5_undo_37 : decode cX5_undo 37 = .ok (.putfield 81, 3) := by decide +kernel
theorem dX5_undo_40 : decode cX5_undo 40 = .ok (.aload_n 0, 1) := by decide +kernel
theorem dX5_undo_41 : decode cX5_undo 41 = .ok (.getfield 81, 3) := by decide +kernel
theorem dX5_undo_44 : decode cX5_undo 44 = .ok (.ireturn, 1) := by decide +kernel
theorem dX5_ofSheet_0 : decode cX5_ofSheet 0 = .ok (.aload_n 0, 1) := by decide +kernel
theorem dX5_ofSheet_1 : decode cX5_ofSheet 1 = .ok (.iconst (-1), 1) := by decide +kernel
theorem dX5_ofSheet_2 : decode cX5_ofSheet 2 = .ok (.invokevirtual 71, 3) := by decide +kernel
theorem dX5_ofSheet_5 : decode cX5_ofSheet 5 = .ok (.iload_n 2, 1) := by decide +kernel
theorem dX5_ofSheet_6 : decode cX5_ofSheet 6 = .ok (.tableswitch 85 0 4 #[34, 41, 48, 65, 79], 34) := by decide +kernel
theorem dX5_ofSheet_40 : decode cX5_ofSheet 40 = .ok (.aload_n 0, 1) := by decide +kernel
theorem dX5_ofSheet_41 : decode cX5_ofSheet 41 = .ok (.getfield 16, 3) := by decide +kernel
theorem dX5_ofSheet_44 : decode cX5_ofSheet 44 = .ok (.iload_n 1, 1) := by decide +kernel
theorem dX5_ofSheet_45 : decode cX5_ofSheet 45 = .ok (.iaload, 1) := by decide +kernel
theorem dX5_ofSheet_46 : decode cX5_ofSheet 46 = .ok (.ireturn, 1) := by decide +kernel
theorem dX5_ofSheet_47 : decode cX5_ofSheet 47 = .ok (.aload_n 0, 1) := by decide +kernel
theorem dX5_ofSheet_48 : decode cX5_ofSheet 48 = .ok (.getfield 19, 3) := by decide +kernel
theorem dX5_ofSheet_51 : decode cX5_ofSheet 51 = .ok (.iload_n 1, 1) := by decide +kernel
theorem dX5_ofSheet_52 : decode cX5_ofSheet 52 = .ok (.iaload, 1) := by decide +kernel
theorem dX5_ofSheet_53 : decode cX5_ofSheet 53 = .ok (.ireturn, 1) := by decide +kernel
theorem dX5_ofSheet_54 : decode cX5_ofSheet 54 = .ok (.aload_n 0, 1) := by decide +kernel
theorem dX5_ofSheet_55 : decode cX5_ofSheet 55 = .ok (.aload_n 0, 1) := by decide +kernel
theorem dX5_ofSheet_56 : decode cX5_ofSheet 56 = .ok (.getfield 16, 3) := by decide +kernel
theorem dX5_ofSheet_59 : decode cX5_ofSheet 59 = .ok (.iload_n 1, 1) := by decide +kernel
theorem dX5_ofSheet_60 : decode cX5_ofSheet 60 = .ok (.iaload, 1) := by decide +kernel
theorem dX5_ofSheet_61 : decode cX5_ofSheet 61 = .ok (.aload_n 0, 1) := by decide +kernel
theorem dX5_ofSheet_62 : decode cX5_ofSheet 62 = .ok (.getfield 19, 3) := by decide +kernel
theorem dX5_ofSheet_65 : decode cX5_ofSheet 65 = .ok (.iload_n 1, 1) := by decide +kernel
theorem dX5_ofSheet_66 : decode cX5_ofSheet 66 = .ok (.iaload, 1) := by decide +kernel
theorem dX5_ofSheet_67 : decode cX5_ofSheet 67 = .ok (.invokevirtual 36, 3) := by decide +kernel
theorem dX5_ofSheet_70 : decode cX5_ofSheet 70 = .ok (.ireturn, 1) := by decide +kernel
theorem dX5_ofSheet_71 : decode cX5_ofSheet 71 = .ok (.aload_n 0, 1) := by decide +kernel
theorem dX5_ofSheet_72 : decode cX5_ofSheet 72 = .ok (.iload_n 1, 1) := by decide +kernel
theorem dX5_ofSheet_73 : decode cX5_ofSheet 73 = .ok (.invokevirtual 40, 3) := by decide +kernel
theorem dX5_ofSheet_76 : decode cX5_ofSheet 76 = .ok (.ifCond .eq 7, 3) := by decide +kernel
theorem dX5_ofSheet_79 : decode cX5_ofSheet 79 = .ok (.iconst 1, 1) := by decide +kernel
theorem dX5_ofSheet_80 : decode cX5_ofSheet 80 = .ok (.goto 4, 3) := by decide +kernel
theorem dX5_ofSheet_83 : decode cX5_ofSheet 83 = .ok (.iconst 0, 1) := by decide +kernel
theorem dX5_ofSheet_84 : decode cX5_ofSheet 84 = .ok (.ireturn, 1) := by decide +kernel
theorem dX5_ofSheet_85 : decode cX5_ofSheet 85 = .ok (.aload_n 0, 1) := by decide +kernel
theorem dX5_ofSheet_86 : decode cX5_ofSheet 86 = .ok (.iload_n 1, 1) := by decide +kernel
theorem dX5_ofSheet_87 : decode cX5_ofSheet 87 = .ok (.invokevirtual 62, 3) := by decide +kernel
theorem dX5_ofSheet_90 : decode cX5_ofSheet 90 = .ok (.ireturn, 1) := by decide +kernel
theorem dX5_ofSheet_91 : decode cX5_ofSheet 91 = .ok (.aload_n 0, 1) := by decide +kernel
theorem dX5_ofSheet_92 : decode cX5_ofSheet 92 = .ok (.iload_n 1, 1) := by decide +kernel
theorem dX5_ofSheet_93 : decode cX5_ofSheet 93 = .ok (.invokevirtual 59, 3) := by decide +kernel
theorem dX5_ofSheet_96 : decode cX5_ofSheet 96 = .ok (.ireturn, 1) := by decide +kernel
theorem dX5_sheet_0 : decode cX5_sheet 0 = .ok (.aload_n 0, 1) := by decide +kernel
theorem dX5_sheet_1 : decode cX5_sheet 1 = .ok (.iload_n 1, 1) := by decide +kernel
theorem dX5_sheet_2 : decode cX5_sheet 2 = .ok (.ifCond .ge 7, 3) := by decide +kernel
theorem dX5_sheet_5 : decode cX5_sheet 5 = .ok (.iconst 1, 1) := by decide +kernel
theorem dX5_sheet_6 : decode cX5_sheet 6 = .ok (.goto 17, 3) := by decide +kernel
theorem dX5_sheet_9 : decode cX5_sheet 9 = .ok (.iload_n 2, 1) := by decide +kernel
theorem dX5_sheet_10 : decode cX5_sheet 10 = .ok (.iconst 0, 1) := by decide +kernel
theorem dX5_sheet_11 : decode cX5_sheet 11 = .ok (.iconst 5, 1) := by decide +kernel
theorem dX5_sheet_12 : decode cX5_sheet 12 = .ok (.invokestatic 29, 3) := by decide +kernel
theorem dX5_sheet_15 : decode cX5_sheet 15 = .ok (.ifCond .ne 7, 3) := by decide +kernel
theorem dX5_sheet_18 : decode cX5_sheet 18 = .ok (.iconst 2, 1) := by decide +kernel
theorem dX5_sheet_19 : decode cX5_sheet 19 = .ok (.goto 4, 3) := by decide +kernel
theorem dX5_sheet_22 : decode cX5_sheet 22 = .ok (.iconst 0, 1) := by decide +kernel
theorem dX5_sheet_23 : decode cX5_sheet 23 = .ok (.invokevirtual 94, 3) := by decide +kernel
theorem dX5_sheet_26 : decode cX5_sheet 26 = .ok (.ifCond .ne 5, 3) := by decide +kernel
theorem dX5_sheet_29 : decode cX5_sheet 29 = .ok (.iconst 0, 1) := by decide +kernel
theorem dX5_sheet_30 : decode cX5_sheet 30 = .ok (.ireturn, 1) := by decide +kernel
theorem dX5_sheet_31 : decode cX5_sheet 31 = .ok (.aload_n 0, 1) := by decide +kernel
theorem dX5_sheet_32 : decode cX5_sheet 32 = .ok (.iload_n 1, 1) := by decide +kernel
theorem dX5_sheet_33 : decode cX5_sheet 33 = .ok (.invokevirtual 103, 3) := by decide +kernel
theorem dX5_sheet_36 : decode cX5_sheet 36 = .ok (.ifCond .eq 12, 3) := by decide +kernel
theorem dX5_sheet_39 : decode cX5_sheet 39 = .ok (.aload_n 0, 1) := by decide +kernel
theorem dX5_sheet_40 : decode cX5_sheet 40 = .ok (.iload_n 1, 1) := by decide +kernel
theorem dX5_sheet_41 : decode cX5_sheet 41 = .ok (.iload_n 2, 1) := by decide +kernel
theorem dX5_sheet_42 : decode cX5_sheet 42 = .ok (.invokevirtual 162, 3) := by decide +kernel
theorem dX5_sheet_45 : decode cX5_sheet 45 = .ok (.goto 4, 3) := by decide +kernel
theorem dX5_sheet_48 : decode cX5_sheet 48 = .ok (.iconst (-1), 1) := by decide +kernel
theorem dX5_sheet_49 : decode cX5_sheet 49 = .ok (.ireturn, 1) := by decide +kernel
theorem dX5_inBlock_0 : decode cX5_inBlock 0 = .ok (.iconst 0, 1) := by decide +kernel
theorem dX5_inBlock_1 : decode cX5_inBlock 1 = .ok (.istore_n 2, 1) := by decide +kernel
theorem dX5_inBlock_2 : decode cX5_inBlock 2 = .ok (.iconst 0, 1) := by decide +kernel
theorem dX5_inBlock_3 : decode cX5_inBlock 3 = .ok (.istore_n 3, 1) := by decide +kernel
theorem dX5_inBlock_4 : decode cX5_inBlock 4 = .ok (.iload_n 3, 1) := by decide +kernel
theorem dX5_inBlock_5 : decode cX5_inBlock 5 = .ok (.aload_n 0, 1) := by decide +kernel
theorem dX5_inBlock_6 : decode cX5_inBlock 6 = .ok (.getfield 7, 3) := by decide +kernel
theorem dX5_inBlock_9 : decode cX5_inBlock 9 = .ok (.iconst 3, 1) := by decide +kernel
theorem dX5_inBlock_10 : decode cX5_inBlock 10 = .ok (.iaload, 1) := by decide +kernel
theorem dX5_inBlock_11 : decode cX5_inBlock 11 = .ok (.if_icmp .ge 30, 3) := by decide +kernel
theorem dX5_inBlock_14 : decode cX5_inBlock 14 = .ok (.iload_n 2, 1) := by decide +kernel
theorem dX5_inBlock_15 : decode cX5_inBlock 15 = .ok (.aload_n 0, 1) := by decide +kernel
theorem dX5_inBlock_16 : decode cX5_inBlock 16 = .ok (.getfield 7, 3) := by decide +kernel
theorem dX5_inBlock_19 : decode cX5_inBlock 19 = .ok (.bipush 70, 2) := by decide +kernel
theorem dX5_inBlock_21 : decode cX5_inBlock 21 = .ok (.iload_n 3, 1) := by decide +kernel
theorem dX5_inBlock_22 : decode cX5_inBlock 22 = .ok (.iadd, 1) := by decide +kernel
theorem dX5_inBlock_23 : decode cX5_inBlock 23 = .ok (.iaload, 1) := by decide +kernel
theorem dX5_inBlock_24 : decode cX5_inBlock 24 = .ok (.iload_n 1, 1) := by decide +kernel
theorem dX5_inBlock_25 : decode cX5_inBlock 25 = .ok (.if_icmp .ne 7, 3) := by decide +kernel
theorem dX5_inBlock_28 : decode cX5_inBlock 28 = .ok (.iconst 1, 1) := by decide +kernel
theorem dX5_inBlock_29 : decode cX5_inBlock 29 = .ok (.goto 4, 3) := by decide +kernel
theorem dX5_inBlock_32 : decode cX5_inBlock 32 = .ok (.iconst 0, 1) := by decide +kernel
theorem dX5_inBlock_33 : decode cX5_inBlock 33 = .ok (.iadd, 1) := by decide +kernel
theorem dX5_inBlock_34 : decode cX5_inBlock 34 = .ok (.istore_n 2, 1) := by decide +kernel
theorem dX5_inBlock_35 : decode cX5_inBlock 35 = .ok (.iinc 3 1, 3) := by decide +kernel
theorem dX5_inBlock_38 : decode cX5_inBlock 38 = .ok (.goto (-34), 3) := by decide +kernel
theorem dX5_inBlock_41 : decode cX5_inBlock 41 = .ok (.iload_n 2, 1) := by decide +kernel
theorem dX5_inBlock_42 : decode cX5_inBlock 42 = .ok (.ireturn, 1) := by decide +kernel
theorem dX5_ofBin_0 : decode cX5_ofBin 0 = .ok (.iload_n 2, 1) := by decide +kernel
theorem dX5_ofBin_1 : decode cX5_ofBin 1 = .ok (.tableswitch 67 0 3 #[31, 41, 47, 57], 31) := by decide +kernel
theorem dX5_ofBin_32 : decode cX5_ofBin 32 = .ok (.aload_n 0, 1) := by decide +kernel
theorem dX5_ofBin_33 : decode cX5_ofBin 33 = .ok (.getfield 7, 3) := by decide +kernel
theorem dX5_ofBin_36 : decode cX5_ofBin 36 = .ok (.bipush 6, 2) := by decide +kernel
theorem dX5_ofBin_38 : decode cX5_ofBin 38 = .ok (.iload_n 1, 1) := by decide +kernel
theorem dX5_ofBin_39 : decode cX5_ofBin 39 = .ok (.iadd, 1) := by decide +kernel
theorem dX5_ofBin_40 : decode cX5_ofBin 40 = .ok (.iaload, 1) := by decide +kernel
theorem dX5_ofBin_41 : decode cX5_ofBin 41 = .ok (.ireturn, 1) := by decide +kernel
theorem dX5_ofBin_42 : decode cX5_ofBin 42 = .ok (.aload_n 0, 1) := by decide +kernel
theorem dX5_ofBin_43 : decode cX5_ofBin 43 = .ok (.iload_n 1, 1) := by decide +kernel
theorem dX5_ofBin_44 : decode cX5_ofBin 44 = .ok (.invokevirtual 165, 3) := by decide +kernel
theorem dX5_ofBin_47 : decode cX5_ofBin 47 = .ok (.ireturn, 1) := by decide +kernel
theorem dX5_ofBin_48 : decode cX5_ofBin 48 = .ok (.aload_n 0, 1) := by decide +kernel
theorem dX5_ofBin_49 : decode cX5_ofBin 49 = .ok (.getfield 7, 3) := by decide +kernel
theorem dX5_ofBin_52 : decode cX5_ofBin 52 = .ok (.bipush 22, 2) := by decide +kernel
theorem dX5_ofBin_54 : decode cX5_ofBin 54 = .ok (.iload_n 1, 1) := by decide +kernel
theorem dX5_ofBin_55 : decode cX5_ofBin 55 = .ok (.iadd, 1) := by decide +kernel
theorem dX5_ofBin_56 : decode cX5_ofBin 56 = .ok (.iaload, 1) := by decide +kernel
theorem dX5_ofBin_57 : decode cX5_ofBin 57 = .ok (.ireturn, 1) := by decide +kernel
theorem dX5_ofBin_58 : decode cX5_ofBin 58 = .ok (.aload_n 0, 1) := by decide +kernel
theorem dX5_ofBin_59 : decode cX5_ofBin 59 = .ok (.getfield 7, 3) := by decide +kernel
theorem dX5_ofBin_62 : decode cX5_ofBin 62 = .ok (.bipush 38, 2) := by decide +kernel
theorem dX5_ofBin_64 : decode cX5_ofBin 64 = .ok (.iload_n 1, 1) := by decide +kernel
theorem dX5_ofBin_65 : decode cX5_ofBin 65 = .ok (.iadd, 1) := by decide +kernel
theorem dX5_ofBin_66 : decode cX5_ofBin 66 = .ok (.iaload, 1) := by decide +kernel
theorem dX5_ofBin_67 : decode cX5_ofBin 67 = .ok (.ireturn, 1) := by decide +kernel
theorem dX5_ofBin_68 : decode cX5_ofBin 68 = .ok (.aload_n 0, 1) := by decide +kernel
theorem dX5_ofBin_69 : decode cX5_ofBin 69 = .ok (.getfield 7, 3) := by decide +kernel
theorem dX5_ofBin_72 : decode cX5_ofBin 72 = .ok (.bipush 54, 2) := by decide +kernel
theorem dX5_ofBin_74 : decode cX5_ofBin 74 = .ok (.iload_n 1, 1) := by decide +kernel
theorem dX5_ofBin_75 : decode cX5_ofBin 75 = .ok (.iadd, 1) := by decide +kernel
theorem dX5_ofBin_76 : decode cX5_ofBin 76 = .ok (.iaload, 1) := by decide +kernel
theorem dX5_ofBin_77 : decode cX5_ofBin 77 = .ok (.ireturn, 1) := by decide +kernel
theorem dX5_bin_0 : decode cX5_bin 0 = .ok (.aload_n 0, 1) := by decide +kernel
theorem dX5_bin_1 : decode cX5_bin 1 = .ok (.iload_n 1, 1) := by decide +kernel
theorem dX5_bin_2 : decode cX5_bin 2 = .ok (.invokestatic 88, 3) := by decide +kernel
theorem dX5_bin_5 : decode cX5_bin 5 = .ok (.ifCond .ne 7, 3) := by decide +kernel
theorem dX5_bin_8 : decode cX5_bin 8 = .ok (.iconst 1, 1) := by decide +kernel
theorem dX5_bin_9 : decode cX5_bin 9 = .ok (.goto 17, 3) := by decide +kernel
theorem dX5_bin_12 : decode cX5_bin 12 = .ok (.iload_n 2, 1) := by decide +kernel
theorem dX5_bin_13 : decode cX5_bin 13 = .ok (.iconst 0, 1) := by decide +kernel
theorem dX5_bin_14 : decode cX5_bin 14 = .ok (.iconst 4, 1) := by decide +kernel
theorem dX5_bin_15 : decode cX5_bin 15 = .ok (.invokestatic 29, 3) := by decide +kernel
theorem dX5_bin_18 : decode cX5_bin 18 = .ok (.ifCond .ne 7, 3) := by decide +kernel
theorem dX5_bin_21 : decode cX5_bin 21 = .ok (.iconst 2, 1) := by decide +kernel
theorem dX5_bin_22 : decode cX5_bin 22 = .ok (.goto 4, 3) := by decide +kernel
theorem dX5_bin_25 : decode cX5_bin 25 = .ok (.iconst 0, 1) := by decide +kernel
theorem dX5_bin_26 : decode cX5_bin 26 = .ok (.invokevirtual 94, 3) := by decide +kernel
theorem dX5_bin_29 : decode cX5_bin 29 = .ok (.ifCond .eq 12, 3) := by decide +kernel
theorem dX5_bin_32 : decode cX5_bin 32 = .ok (.aload_n 0, 1) := by decide +kernel
theorem dX5_bin_33 : decode cX5_bin 33 = .ok (.iload_n 1, 1) := by decide +kernel
theorem dX5_bin_34 : decode cX5_bin 34 = .ok (.iload_n 2, 1) := by decide +kernel
theorem dX5_bin_35 : decode cX5_bin 35 = .ok (.invokevirtual 168, 3) := by decide +kernel
theorem dX5_bin_38 : decode cX5_bin 38 = .ok (.goto 4, 3) := by decide +kernel
theorem dX5_bin_41 : decode cX5_bin 41 = .ok (.iconst 0, 1) := by decide +kernel
theorem dX5_bin_42 : decode cX5_bin 42 = .ok (.ireturn, 1) := by decide +kernel
theorem dX5_faultPlace_0 : decode cX5_faultPlace 0 = .ok (.aload_n 0, 1) := by decide +kernel
theorem dX5_faultPlace_1 : decode cX5_faultPlace 1 = .ok (.invokevirtual 78, 3) := by decide +kernel
theorem dX5_faultPlace_4 : decode cX5_faultPlace 4 = .ok (.istore_n 1, 1) := by decide +kernel
theorem dX5_faultPlace_5 : decode cX5_faultPlace 5 = .ok (.iload_n 1, 1) := by decide +kernel
theorem dX5_faultPlace_6 : decode cX5_faultPlace 6 = .ok (.iconst 2, 1) := by decide +kernel
theorem dX5_faultPlace_7 : decode cX5_faultPlace 7 = .ok (.if_icmp .lt 8, 3) := by decide +kernel
theorem dX5_faultPlace_10 : decode cX5_faultPlace 10 = .ok (.iload_n 1, 1) := by decide +kernel
theorem dX5_faultPlace_11 : decode cX5_faultPlace 11 = .ok (.iconst 5, 1) := by decide +kernel
theorem dX5_faultPlace_12 : decode cX5_faultPlace 12 = .ok (.if_icmp .ne 7, 3) := by decide +kernel
theorem dX5_faultPlace_15 : decode cX5_faultPlace 15 = .ok (.iconst (-1), 1) := by decide +kernel
theorem dX5_faultPlace_16 : decode cX5_faultPlace 16 = .ok (.goto 8, 3) := by decide +kernel
theorem dX5_faultPlace_19 : decode cX5_faultPlace 19 = .ok (.aload_n 0, 1) := by decide +kernel
theorem dX5_faultPlace_20 : decode cX5_faultPlace 20 = .ok (.iload_n 1, 1) := by decide +kernel
theorem dX5_faultPlace_21 : decode cX5_faultPlace 21 = .ok (.invokevirtual 55, 3) := by decide +kernel
theorem dX5_faultPlace_24 : decode cX5_faultPlace 24 = .ok (.ireturn, 1) := by decide +kernel
theorem dX5_boundSheets_0 : decode cX5_boundSheets 0 = .ok (.iconst 0, 1) := by decide +kernel
theorem dX5_boundSheets_1 : decode cX5_boundSheets 1 = .ok (.istore_n 1, 1) := by decide +kernel
theorem dX5_boundSheets_2 : decode cX5_boundSheets 2 = .ok (.iconst 0, 1) := by decide +kernel
theorem dX5_boundSheets_3 : decode cX5_boundSheets 3 = .ok (.istore_n 2, 1) := by decide +kernel
theorem dX5_boundSheets_4 : decode cX5_boundSheets 4 = .ok (.iload_n 2, 1) := by decide +kernel
theorem dX5_boundSheets_5 : decode cX5_boundSheets 5 = .ok (.bipush 16, 2) := by decide +kernel
theorem dX5_boundSheets_7 : decode cX5_boundSheets 7 = .ok (.if_icmp .ge 21, 3) := by decide +kernel
theorem dX5_boundSheets_10 : decode cX5_boundSheets 10 = .ok (.iload_n 1, 1) := by decide +kernel
theorem dX5_boundSheets_11 : decode cX5_boundSheets 11 = .ok (.aload_n 0, 1) := by decide +kernel
theorem dX5_boundSheets_12 : decode cX5_boundSheets 12 = .ok (.getfield 7, 3) := by decide +kernel
theorem dX5_boundSheets_15 : decode cX5_boundSheets 15 = .ok (.bipush 22, 2) := by decide +kernel
theorem dX5_boundSheets_17 : decode cX5_boundSheets 17 = .ok (.iload_n 2, 1) := by decide +kernel
theorem dX5_boundSheets_18 : decode cX5_boundSheets 18 = .ok (.iadd, 1) := by decide +kernel
theorem dX5_boundSheets_19 : decode cX5_boundSheets 19 = .ok (.iaload, 1) := by decide +kernel
theorem dX5_boundSheets_20 : decode cX5_boundSheets 20 = .ok (.iadd, 1) := by decide +kernel
theorem dX5_boundSheets_21 : decode cX5_boundSheets 21 = .ok (.istore_n 1, 1) := by decide +kernel
theorem dX5_boundSheets_22 : decode cX5_boundSheets 22 = .ok (.iinc 2 1, 3) := by decide +kernel
theorem dX5_boundSheets_25 : decode cX5_boundSheets 25 = .ok (.goto (-21), 3) := by decide +kernel
theorem dX5_boundSheets_28 : decode cX5_boundSheets 28 = .ok (.iload_n 1, 1) := by decide +kernel
theorem dX5_boundSheets_29 : decode cX5_boundSheets 29 = .ok (.ireturn, 1) := by decide +kernel
theorem dX5_counted_0 : decode cX5_counted 0 = .ok (.aload_n 0, 1) := by decide +kernel
theorem dX5_counted_1 : decode cX5_counted 1 = .ok (.iconst (-1), 1) := by decide +kernel
theorem dX5_counted_2 : decode cX5_counted 2 = .ok (.invokevirtual 71, 3) := by decide +kernel
theorem dX5_counted_5 : decode cX5_counted 5 = .ok (.iload_n 1, 1) := by decide +kernel
theorem dX5_counted_6 : decode cX5_counted 6 = .ok (.tableswitch 163 0 14 #[74, 79, 84, 89, 94, 99, 119, 119, 124, 129, 134, 139, 144, 151, 156], 74) := by decide +kernel
theorem dX5_counted_80 : decode cX5_counted 80 = .ok (.aload_n 0, 1) := by decide +kernel
theorem dX5_counted_81 : decode cX5_counted 81 = .ok (.getfield 33, 3) := by decide +kernel
theorem dX5_counted_84 : decode cX5_counted 84 = .ok (.ireturn, 1) := by decide +kernel
theorem dX5_counted_85 : decode cX5_counted 85 = .ok (.aload_n 0, 1) := by decide +kernel
theorem dX5_counted_86 : decode cX5_counted 86 = .ok (.invokevirtual 75, 3) := by decide +kernel
theorem dX5_counted_89 : decode cX5_counted 89 = .ok (.ireturn, 1) := by decide +kernel
theorem dX5_counted_90 : decode cX5_counted 90 = .ok (.aload_n 0, 1) := by decide +kernel
theorem dX5_counted_91 : decode cX5_counted 91 = .ok (.invokevirtual 78, 3) := by decide +kernel
theorem dX5_counted_94 : decode cX5_counted 94 = .ok (.ireturn, 1) := by decide +kernel
theorem dX5_counted_95 : decode cX5_counted 95 = .ok (.aload_n 0, 1) := by decide +kernel
theorem dX5_counted_96 : decode cX5_counted 96 = .ok (.invokevirtual 171, 3) := by decide +kernel
theorem dX5_counted_99 : decode cX5_counted 99 = .ok (.ireturn, 1) := by decide +kernel
theorem dX5_counted_100 : decode cX5_counted 100 = .ok (.aload_n 0, 1) := by decide +kernel
theorem dX5_counted_101 : decode cX5_counted 101 = .ok (.invokevirtual 51, 3) := by decide +kernel
theorem dX5_counted_104 : decode cX5_counted 104 = .ok (.ireturn, 1) := by decide +kernel
theorem dX5_counted_105 : decode cX5_counted 105 = .ok (.aload_n 0, 1) := by decide +kernel
theorem dX5_counted_106 : decode cX5_counted 106 = .ok (.invokevirtual 78, 3) := by decide +kernel
theorem dX5_counted_109 : decode cX5_counted 109 = .ok (.ifCond .le 14, 3) := by decide +kernel
theorem dX5_counted_112 : decode cX5_counted 112 = .ok (.aload_n 0, 1) := by decide +kernel
theorem dX5_counted_113 : decode cX5_counted 113 = .ok (.invokevirtual 75, 3) := by decide +kernel
theorem dX5_counted_116 : decode cX5_counted 116 = .ok (.ifCond .ne 7, 3) := by decide +kernel
theorem dX5_counted_119 : decode cX5_counted 119 = .ok (.iconst 1, 1) := by decide +kernel
theorem dX5_counted_120 : decode cX5_counted 120 = .ok (.goto 4, 3) := by decide +kernel
theorem dX5_counted_123 : decode cX5_counted 123 = .ok (.iconst 0, 1) := by decide +kernel
theorem dX5_counted_124 : decode cX5_counted 124 = .ok (.ireturn, 1) := by decide +kernel
theorem dX5_counted_125 : decode cX5_counted 125 = .ok (.aload_n 0, 1) := by decide +kernel
theorem dX5_counted_126 : decode cX5_counted 126 = .ok (.invokevirtual 174, 3) := by decide +kernel
theorem dX5_counted_129 : decode cX5_counted 129 = .ok (.ireturn, 1) := by decide +kernel
theorem dX5_counted_130 : decode cX5_counted 130 = .ok (.aload_n 0, 1) := by decide +kernel
theorem dX5_counted_131 : decode cX5_counted 131 = .ok (.invokevirtual 177, 3) := by decide +kernel
theorem dX5_counted_134 : decode cX5_counted 134 = .ok (.ireturn, 1) := by decide +kernel
theorem dX5_counted_135 : decode cX5_counted 135 = .ok (.aload_n 0, 1) := by decide +kernel
theorem dX5_counted_136 : decode cX5_counted 136 = .ok (.invokevirtual 65, 3) := by decide +kernel
theorem dX5_counted_139 : decode cX5_counted 139 = .ok (.ireturn, 1) := by decide +kernel
theorem dX5_counted_140 : decode cX5_counted 140 = .ok (.aload_n 0, 1) := by decide +kernel
theorem dX5_counted_141 : decode cX5_counted 141 = .ok (.invokevirtual 180, 3) := by decide +kernel
theorem dX5_counted_144 : decode cX5_counted 144 = .ok (.ireturn, 1) := by decide +kernel
theorem dX5_counted_145 : decode cX5_counted 145 = .ok (.aload_n 0, 1) := by decide +kernel
theorem dX5_counted_146 : decode cX5_counted 146 = .ok (.invokevirtual 183, 3) := by decide +kernel
theorem dX5_counted_149 : decode cX5_counted 149 = .ok (.ireturn, 1) := by decide +kernel
theorem dX5_counted_150 : decode cX5_counted 150 = .ok (.aload_n 0, 1) := by decide +kernel
theorem dX5_counted_151 : decode cX5_counted 151 = .ok (.getfield 7, 3) := by decide +kernel
theorem dX5_counted_154 : decode cX5_counted 154 = .ok (.iconst 4, 1) := by decide +kernel
theorem dX5_counted_155 : decode cX5_counted 155 = .ok (.iaload, 1) := by decide +kernel
theorem dX5_counted_156 : decode cX5_counted 156 = .ok (.ireturn, 1) := by decide +kernel
theorem dX5_counted_157 : decode cX5_counted 157 = .ok (.aload_n 0, 1) := by decide +kernel
theorem dX5_counted_158 : decode cX5_counted 158 = .ok (.invokevirtual 186, 3) := by decide +kernel
theorem dX5_counted_161 : decode cX5_counted 161 = .ok (.ireturn, 1) := by decide +kernel
theorem dX5_counted_162 : decode cX5_counted 162 = .ok (.aload_n 0, 1) := by decide +kernel
theorem dX5_counted_163 : decode cX5_counted 163 = .ok (.getfield 7, 3) := by decide +kernel
theorem dX5_counted_166 : decode cX5_counted 166 = .ok (.iconst 5, 1) := by decide +kernel
theorem dX5_counted_167 : decode cX5_counted 167 = .ok (.iaload, 1) := by decide +kernel
theorem dX5_counted_168 : decode cX5_counted 168 = .ok (.ireturn, 1) := by decide +kernel
theorem dX5_counted_169 : decode cX5_counted 169 = .ok (.aload_n 0, 1) := by decide +kernel
theorem dX5_counted_170 : decode cX5_counted 170 = .ok (.getfield 81, 3) := by decide +kernel
theorem dX5_counted_173 : decode cX5_counted 173 = .ok (.ireturn, 1) := by decide +kernel
theorem dX5_count_0 : decode cX5_count 0 = .ok (.aload_n 0, 1) := by decide +kernel
theorem dX5_count_1 : decode cX5_count 1 = .ok (.iload_n 1, 1) := by decide +kernel
theorem dX5_count_2 : decode cX5_count 2 = .ok (.iconst 0, 1) := by decide +kernel
theorem dX5_count_3 : decode cX5_count 3 = .ok (.bipush 15, 2) := by decide +kernel
theorem dX5_count_5 : decode cX5_count 5 = .ok (.invokestatic 29, 3) := by decide +kernel
theorem dX5_count_8 : decode cX5_count 8 = .ok (.ifCond .eq 7, 3) := by decide +kernel
theorem dX5_count_11 : decode cX5_count 11 = .ok (.iconst 0, 1) := by decide +kernel
theorem dX5_count_12 : decode cX5_count 12 = .ok (.goto 4, 3) := by decide +kernel
theorem dX5_count_15 : decode cX5_count 15 = .ok (.iconst 1, 1) := by decide +kernel
theorem dX5_count_16 : decode cX5_count 16 = .ok (.invokevirtual 94, 3) := by decide +kernel
theorem dX5_count_19 : decode cX5_count 19 = .ok (.ifCond .eq 11, 3) := by decide +kernel
theorem dX5_count_22 : decode cX5_count 22 = .ok (.aload_n 0, 1) := by decide +kernel
theorem dX5_count_23 : decode cX5_count 23 = .ok (.iload_n 1, 1) := by decide +kernel
theorem dX5_count_24 : decode cX5_count 24 = .ok (.invokevirtual 189, 3) := by decide +kernel
theorem dX5_count_27 : decode cX5_count 27 = .ok (.goto 4, 3) := by decide +kernel
theorem dX5_count_30 : decode cX5_count 30 = .ok (.iconst 0, 1) := by decide +kernel
theorem dX5_count_31 : decode cX5_count 31 = .ok (.ireturn, 1) := by decide +kernel
theorem dX5_setting_0 : decode cX5_setting 0 = .ok (.aload_n 0, 1) := by decide +kernel
theorem dX5_setting_1 : decode cX5_setting 1 = .ok (.iload_n 1, 1) := by decide +kernel
theorem dX5_setting_2 : decode cX5_setting 2 = .ok (.iconst 0, 1) := by decide +kernel
theorem dX5_setting_3 : decode cX5_setting 3 = .ok (.iconst 2, 1) := by decide +kernel
theorem dX5_setting_4 : decode cX5_setting 4 = .ok (.invokestatic 29, 3) := by decide +kernel
theorem dX5_setting_7 : decode cX5_setting 7 = .ok (.ifCond .eq 7, 3) := by decide +kernel
theorem dX5_setting_10 : decode cX5_setting 10 = .ok (.iconst 0, 1) := by decide +kernel
theorem dX5_setting_11 : decode cX5_setting 11 = .ok (.goto 4, 3) := by decide +kernel
theorem dX5_setting_14 : decode cX5_setting 14 = .ok (.iconst 1, 1) := by decide +kernel
theorem dX5_setting_15 : decode cX5_setting 15 = .ok (.invokevirtual 94, 3) := by decide +kernel
theorem dX5_setting_18 : decode cX5_setting 18 = .ok (.ifCond .eq 14, 3) := by decide +kernel
theorem dX5_setting_21 : decode cX5_setting 21 = .ok (.aload_n 0, 1) := by decide +kernel
theorem dX5_setting_22 : decode cX5_setting 22 = .ok (.getfield 7, 3) := by decide +kernel
theorem dX5_setting_25 : decode cX5_setting 25 = .ok (.iconst 0, 1) := by decide +kernel
theorem dX5_setting_26 : decode cX5_setting 26 = .ok (.iload_n 1, 1) := by decide +kernel
theorem dX5_setting_27 : decode cX5_setting 27 = .ok (.iadd, 1) := by decide +kernel
theorem dX5_setting_28 : decode cX5_setting 28 = .ok (.iaload, 1) := by decide +kernel
theorem dX5_setting_29 : decode cX5_setting 29 = .ok (.goto 4, 3) := by decide +kernel
theorem dX5_setting_32 : decode cX5_setting 32 = .ok (.iconst 0, 1) := by decide +kernel
theorem dX5_setting_33 : decode cX5_setting 33 = .ok (.ireturn, 1) := by decide +kernel
theorem dX5_fewestBehind_0 : decode cX5_fewestBehind 0 = .ok (.aload_n 0, 1) := by decide +kernel
theorem dX5_fewestBehind_1 : decode cX5_fewestBehind 1 = .ok (.iload_n 1, 1) := by decide +kernel
theorem dX5_fewestBehind_2 : decode cX5_fewestBehind 2 = .ok (.invokevirtual 71, 3) := by decide +kernel
theorem dX5_fewestBehind_5 : decode cX5_fewestBehind 5 = .ok (.aload_n 0, 1) := by decide +kernel
theorem dX5_fewestBehind_6 : decode cX5_fewestBehind 6 = .ok (.getfield 33, 3) := by decide +kernel
theorem dX5_fewestBehind_9 : decode cX5_fewestBehind 9 = .ok (.istore_n 3, 1) := by decide +kernel
theorem dX5_fewestBehind_10 : decode cX5_fewestBehind 10 = .ok (.iload_n 3, 1) := by decide +kernel
theorem dX5_fewestBehind_11 : decode cX5_fewestBehind 11 = .ok (.iload_n 2, 1) := by decide +kernel
theorem dX5_fewestBehind_12 : decode cX5_fewestBehind 12 = .ok (.if_icmp .le 23, 3) := by decide +kernel
theorem dX5_fewestBehind_15 : decode cX5_fewestBehind 15 = .ok (.aload_n 0, 1) := by decide +kernel
theorem dX5_fewestBehind_16 : decode cX5_fewestBehind 16 = .ok (.getfield 16, 3) := by decide +kernel
theorem dX5_fewestBehind_19 : decode cX5_fewestBehind 19 = .ok (.iload_n 3, 1) := by decide +kernel
theorem dX5_fewestBehind_20 : decode cX5_fewestBehind 20 = .ok (.aload_n 0, 1) := by decide +kernel
theorem dX5_fewestBehind_21 : decode cX5_fewestBehind 21 = .ok (.getfield 16, 3) := by decide +kernel
theorem dX5_fewestBehind_24 : decode cX5_fewestBehind 24 = .ok (.iload_n 3, 1) := by decide +kernel
theorem dX5_fewestBehind_25 : decode cX5_fewestBehind 25 = .ok (.iconst 1, 1) := by decide +kernel
theorem dX5_fewestBehind_26 : decode cX5_fewestBehind 26 = .ok (.isub, 1) := by decide +kernel
theorem dX5_fewestBehind_27 : decode cX5_fewestBehind 27 = .ok (.iaload, 1) := by decide +kernel
theorem dX5_fewestBehind_28 : decode cX5_fewestBehind 28 = .ok (.iastore, 1) := by decide +kernel
theorem dX5_fewestBehind_29 : decode cX5_fewestBehind 29 = .ok (.iinc 3 (-1), 3) := by decide +kernel
theorem dX5_fewestBehind_32 : decode cX5_fewestBehind 32 = .ok (.goto (-22), 3) := by decide +kernel
theorem dX5_fewestBehind_35 : decode cX5_fewestBehind 35 = .ok (.aload_n 0, 1) := by decide +kernel
theorem dX5_fewestBehind_36 : decode cX5_fewestBehind 36 = .ok (.getfield 16, 3) := by decide +kernel
theorem dX5_fewestBehind_39 : decode cX5_fewestBehind 39 = .ok (.iload_n 2, 1) := by decide +kernel
theorem dX5_fewestBehind_40 : decode cX5_fewestBehind 40 = .ok (.aload_n 0, 1) := by decide +kernel
theorem dX5_fewestBehind_41 : decode cX5_fewestBehind 41 = .ok (.getfield 7, 3) := by decide +kernel
theorem dX5_fewestBehind_44 : decode cX5_fewestBehind 44 = .ok (.bipush 70, 2) := by decide +kernel
theorem dX5_fewestBehind_46 : decode cX5_fewestBehind 46 = .ok (.iload_n 1, 1) := by decide +kernel
theorem dX5_fewestBehind_47 : decode cX5_fewestBehind 47 = .ok (.iadd, 1) := by decide +kernel
theorem dX5_fewestBehind_48 : decode cX5_fewestBehind 48 = .ok (.iaload, 1) := by decide +kernel
theorem dX5_fewestBehind_49 : decode cX5_fewestBehind 49 = .ok (.iastore, 1) := by decide +kernel
theorem dX5_fewestBehind_50 : decode cX5_fewestBehind 50 = .ok (.aload_n 0, 1) := by decide +kernel
theorem dX5_fewestBehind_51 : decode cX5_fewestBehind 51 = .ok (.dup, 1) := by decide +kernel
theorem dX5_fewestBehind_52 : decode cX5_fewestBehind 52 = .ok (.getfield 33, 3) := by decide +kernel
theorem dX5_fewestBehind_55 : decode cX5_fewestBehind 55 = .ok (.iconst 1, 1) := by decide +kernel
theorem dX5_fewestBehind_56 : decode cX5_fewestBehind 56 = .ok (.iadd, 1) := by decide +kernel
theorem dX5_fewestBehind_57 : decode cX5_fewestBehind 57 = .ok (.putfield 33, 3) := by decide +kernel
theorem dX5_fewestBehind_60 : decode cX5_fewestBehind 60 = .ok (.aload_n 0, 1) := by decide +kernel
theorem dX5_fewestBehind_61 : decode cX5_fewestBehind 61 = .ok (.invokevirtual 174, 3) := by decide +kernel
theorem dX5_fewestBehind_64 : decode cX5_fewestBehind 64 = .ok (.ireturn, 1) := by decide +kernel
theorem dX5_moveNext_0 : decode cX5_moveNext 0 = .ok (.aload_n 0, 1) := by decide +kernel
theorem dX5_moveNext_1 : decode cX5_moveNext 1 = .ok (.iconst (-1), 1) := by decide +kernel
theorem dX5_moveNext_2 : decode cX5_moveNext 2 = .ok (.invokevirtual 71, 3) := by decide +kernel
theorem dX5_moveNext_5 : decode cX5_moveNext 5 = .ok (.aload_n 0, 1) := by decide +kernel
theorem dX5_moveNext_6 : decode cX5_moveNext 6 = .ok (.invokevirtual 174, 3) := by decide +kernel
theorem dX5_moveNext_9 : decode cX5_moveNext 9 = .ok (.istore_n 1, 1) := by decide +kernel
theorem dX5_moveNext_10 : decode cX5_moveNext 10 = .ok (.aload_n 0, 1) := by decide +kernel
theorem dX5_moveNext_11 : decode cX5_moveNext 11 = .ok (.getfield 7, 3) := by decide +kernel
theorem dX5_moveNext_14 : decode cX5_moveNext 14 = .ok (.iconst 3, 1) := by decide +kernel
theorem dX5_moveNext_15 : decode cX5_moveNext 15 = .ok (.iaload, 1) := by decide +kernel
theorem dX5_moveNext_16 : decode cX5_moveNext 16 = .ok (.istore_n 2, 1) := by decide +kernel
theorem dX5_moveNext_17 : decode cX5_moveNext 17 = .ok (.iconst 0, 1) := by decide +kernel
theorem dX5_moveNext_18 : decode cX5_moveNext 18 = .ok (.istore_n 3, 1) := by decide +kernel
theorem dX5_moveNext_19 : decode cX5_moveNext 19 = .ok (.iload_n 3, 1) := by decide +kernel
theorem dX5_moveNext_20 : decode cX5_moveNext 20 = .ok (.iload_n 2, 1) := by decide +kernel
theorem dX5_moveNext_21 : decode cX5_moveNext 21 = .ok (.iload_n 2, 1) := by decide +kernel
theorem dX5_moveNext_22 : decode cX5_moveNext 22 = .ok (.imul, 1) := by decide +kernel
theorem dX5_moveNext_23 : decode cX5_moveNext 23 = .ok (.if_icmp .ge 40, 3) := by decide +kernel
theorem dX5_moveNext_26 : decode cX5_moveNext 26 = .ok (.iload_n 1, 1) := by decide +kernel
theorem dX5_moveNext_27 : decode cX5_moveNext 27 = .ok (.ifCond .le 36, 3) := by decide +kernel
theorem dX5_moveNext_30 : decode cX5_moveNext 30 = .ok (.aload_n 0, 1) := by decide +kernel
theorem dX5_moveNext_31 : decode cX5_moveNext 31 = .ok (.iload_n 3, 1) := by decide +kernel
theorem dX5_moveNext_32 : decode cX5_moveNext 32 = .ok (.iload_n 2, 1) := by decide +kernel
theorem dX5_moveNext_33 : decode cX5_moveNext 33 = .ok (.idiv, 1) := by decide +kernel
theorem dX5_moveNext_34 : decode cX5_moveNext 34 = .ok (.iload_n 3, 1) := by decide +kernel
theorem dX5_moveNext_35 : decode cX5_moveNext 35 = .ok (.iload_n 2, 1) := by decide +kernel
theorem dX5_moveNext_36 : decode cX5_moveNext 36 = .ok (.irem, 1) := by decide +kernel
theorem dX5_moveNext_37 : decode cX5_moveNext 37 = .ok (.invokevirtual 192, 3) := by decide +kernel
theorem dX5_moveNext_40 : decode cX5_moveNext 40 = .ok (.iload_n 1, 1) := by decide +kernel
theorem dX5_moveNext_41 : decode cX5_moveNext 41 = .ok (.iconst 1, 1) := by decide +kernel
theorem dX5_moveNext_42 : decode cX5_moveNext 42 = .ok (.isub, 1) := by decide +kernel
theorem dX5_moveNext_43 : decode cX5_moveNext 43 = .ok (.if_icmp .ne 14, 3) := by decide +kernel
theorem dX5_moveNext_46 : decode cX5_moveNext 46 = .ok (.bipush 20, 2) := by decide +kernel
theorem dX5_moveNext_48 : decode cX5_moveNext 48 = .ok (.iload_n 3, 1) := by decide +kernel
theorem dX5_moveNext_49 : decode cX5_moveNext 49 = .ok (.iload_n 2, 1) := by decide +kernel
theorem dX5_moveNext_50 : decode cX5_moveNext 50 = .ok (.idiv, 1) := by decide +kernel
theorem dX5_moveNext_51 : decode cX5_moveNext 51 = .ok (.imul, 1) := by decide +kernel
theorem dX5_moveNext_52 : decode cX5_moveNext 52 = .ok (.iload_n 3, 1) := by decide +kernel
theorem dX5_moveNext_53 : decode cX5_moveNext 53 = .ok (.iload_n 2, 1) := by decide +kernel
theorem dX5_moveNext_54 : decode cX5_moveNext 54 = .ok (.irem, 1) := by decide +kernel
theorem dX5_moveNext_55 : decode cX5_moveNext 55 = .ok (.iadd, 1) := by decide +kernel
theorem dX5_moveNext_56 : decode cX5_moveNext 56 = .ok (.ireturn, 1) := by decide +kernel
theorem dX5_moveNext_57 : decode cX5_moveNext 57 = .ok (.iinc 3 1, 3) := by decide +kernel
theorem dX5_moveNext_60 : decode cX5_moveNext 60 = .ok (.goto (-41), 3) := by decide +kernel
theorem dX5_moveNext_63 : decode cX5_moveNext 63 = .ok (.iconst (-1), 1) := by decide +kernel
theorem dX5_moveNext_64 : decode cX5_moveNext 64 = .ok (.ireturn, 1) := by decide +kernel
theorem dX5_nextMove_0 : decode cX5_nextMove 0 = .ok (.aload_n 0, 1) := by decide +kernel
theorem dX5_nextMove_1 : decode cX5_nextMove 1 = .ok (.iconst 0, 1) := by decide +kernel
theorem dX5_nextMove_2 : decode cX5_nextMove 2 = .ok (.putfield 25, 3) := by decide +kernel
theorem dX5_nextMove_5 : decode cX5_nextMove 5 = .ok (.aload_n 0, 1) := by decide +kernel
theorem dX5_nextMove_6 : decode cX5_nextMove 6 = .ok (.invokevirtual 195, 3) := by decide +kernel
theorem dX5_nextMove_9 : decode cX5_nextMove 9 = .ok (.ireturn, 1) := by decide +kernel
theorem dX5_without_0 : decode cX5_without 0 = .ok (.aload_n 0, 1) := by decide +kernel
theorem dX5_without_1 : decode cX5_without 1 = .ok (.iload_n 1, 1) := by decide +kernel
theorem dX5_without_2 : decode cX5_without 2 = .ok (.invokevirtual 71, 3) := by decide +kernel
theorem dX5_without_5 : decode cX5_without 5 = .ok (.iload_n 2, 1) := by decide +kernel
theorem dX5_without_6 : decode cX5_without 6 = .ok (.ifCond .ne 10, 3) := by decide +kernel
theorem dX5_without_9 : decode cX5_without 9 = .ok (.aload_n 0, 1) := by decide +kernel
theorem dX5_without_10 : decode cX5_without 10 = .ok (.invokevirtual 75, 3) := by decide +kernel
theorem dX5_without_13 : decode cX5_without 13 = .ok (.goto 31, 3) := by decide +kernel
theorem dX5_without_16 : decode cX5_without 16 = .ok (.iload_n 2, 1) := by decide +kernel
theorem dX5_without_17 : decode cX5_without 17 = .ok (.iconst 1, 1) := by decide +kernel
theorem dX5_without_18 : decode cX5_without 18 = .ok (.if_icmp .ne 10, 3) := by decide +kernel
theorem dX5_without_21 : decode cX5_without 21 = .ok (.aload_n 0, 1) := by decide +kernel
theorem dX5_without_22 : decode cX5_without 22 = .ok (.invokevirtual 78, 3) := by decide +kernel
theorem dX5_without_25 : decode cX5_without 25 = .ok (.goto 19, 3) := by decide +kernel
theorem dX5_without_28 : decode cX5_without 28 = .ok (.iload_n 2, 1) := by decide +kernel
theorem dX5_without_29 : decode cX5_without 29 = .ok (.iconst 2, 1) := by decide +kernel
theorem dX5_without_30 : decode cX5_without 30 = .ok (.if_icmp .ne 10, 3) := by decide +kernel
theorem dX5_without_33 : decode cX5_without 33 = .ok (.aload_n 0, 1) := by decide +kernel
theorem dX5_without_34 : decode cX5_without 34 = .ok (.invokevirtual 174, 3) := by decide +kernel
theorem dX5_without_37 : decode cX5_without 37 = .ok (.goto 7, 3) := by decide +kernel
theorem dX5_without_40 : decode cX5_without 40 = .ok (.aload_n 0, 1) := by decide +kernel
theorem dX5_without_41 : decode cX5_without 41 = .ok (.invokevirtual 65, 3) := by decide +kernel
theorem dX5_without_44 : decode cX5_without 44 = .ok (.ireturn, 1) := by decide +kernel
theorem dX5_ifPulled_0 : decode cX5_ifPulled 0 = .ok (.aload_n 0, 1) := by decide +kernel
theorem dX5_ifPulled_1 : decode cX5_ifPulled 1 = .ok (.aload_n 0, 1) := by decide +kernel
theorem dX5_ifPulled_2 : decode cX5_ifPulled 2 = .ok (.iload_n 1, 1) := by decide +kernel
theorem dX5_ifPulled_3 : decode cX5_ifPulled 3 = .ok (.invokevirtual 103, 3) := by decide +kernel
theorem dX5_ifPulled_6 : decode cX5_ifPulled 6 = .ok (.ifCond .ne 7, 3) := by decide +kernel
theorem dX5_ifPulled_9 : decode cX5_ifPulled 9 = .ok (.iconst 1, 1) := by decide +kernel
theorem dX5_ifPulled_10 : decode cX5_ifPulled 10 = .ok (.goto 17, 3) := by decide +kernel
theorem dX5_ifPulled_13 : decode cX5_ifPulled 13 = .ok (.iload_n 2, 1) := by decide +kernel
theorem dX5_ifPulled_14 : decode cX5_ifPulled 14 = .ok (.iconst 0, 1) := by decide +kernel
theorem dX5_ifPulled_15 : decode cX5_ifPulled 15 = .ok (.iconst 3, 1) := by decide +kernel
theorem dX5_ifPulled_16 : decode cX5_ifPulled 16 = .ok (.invokestatic 29, 3) := by decide +kernel
theorem dX5_ifPulled_19 : decode cX5_ifPulled 19 = .ok (.ifCond .ne 7, 3) := by decide +kernel
theorem dX5_ifPulled_22 : decode cX5_ifPulled 22 = .ok (.iconst 2, 1) := by decide +kernel
theorem dX5_ifPulled_23 : decode cX5_ifPulled 23 = .ok (.goto 4, 3) := by decide +kernel
theorem dX5_ifPulled_26 : decode cX5_ifPulled 26 = .ok (.iconst 0, 1) := by decide +kernel
theorem dX5_ifPulled_27 : decode cX5_ifPulled 27 = .ok (.invokevirtual 94, 3) := by decide +kernel
theorem dX5_ifPulled_30 : decode cX5_ifPulled 30 = .ok (.ifCond .eq 12, 3) := by decide +kernel
theorem dX5_ifPulled_33 : decode cX5_ifPulled 33 = .ok (.aload_n 0, 1) := by decide +kernel
theorem dX5_ifPulled_34 : decode cX5_ifPulled 34 = .ok (.iload_n 1, 1) := by decide +kernel
theorem dX5_ifPulled_35 : decode cX5_ifPulled 35 = .ok (.iload_n 2, 1) := by decide +kernel
theorem dX5_ifPulled_36 : decode cX5_ifPulled 36 = .ok (.invokevirtual 198, 3) := by decide +kernel
theorem dX5_ifPulled_39 : decode cX5_ifPulled 39 = .ok (.goto 4, 3) := by decide +kernel
theorem dX5_ifPulled_42 : decode cX5_ifPulled 42 = .ok (.iconst 0, 1) := by decide +kernel
theorem dX5_ifPulled_43 : decode cX5_ifPulled 43 = .ok (.ireturn, 1) := by decide +kernel
theorem dX5_fitting_0 : decode cX5_fitting 0 = .ok (.aload_n 0, 1) := by decide +kernel
theorem dX5_fitting_1 : decode cX5_fitting 1 = .ok (.iconst (-1), 1) := by decide +kernel
theorem dX5_fitting_2 : decode cX5_fitting 2 = .ok (.invokevirtual 71, 3) := by decide +kernel
theorem dX5_fitting_5 : decode cX5_fitting 5 = .ok (.aload_n 0, 1) := by decide +kernel
theorem dX5_fitting_6 : decode cX5_fitting 6 = .ok (.dup, 1) := by decide +kernel
theorem dX5_fitting_7 : decode cX5_fitting 7 = .ok (.getfield 33, 3) := by decide +kernel
theorem dX5_fitting_10 : decode cX5_fitting 10 = .ok (.iconst 1, 1) := by decide +kernel
theorem dX5_fitting_11 : decode cX5_fitting 11 = .ok (.iadd, 1) := by decide +kernel
theorem dX5_fitting_12 : decode cX5_fitting 12 = .ok (.putfield 33, 3) := by decide +kernel
theorem dX5_fitting_15 : decode cX5_fitting 15 = .ok (.iconst 0, 1) := by decide +kernel
theorem dX5_fitting_16 : decode cX5_fitting 16 = .ok (.istore_n 1, 1) := by decide +kernel
theorem dX5_fitting_17 : decode cX5_fitting 17 = .ok (.iload_n 1, 1) := by decide +kernel
theorem dX5_fitting_18 : decode cX5_fitting 18 = .ok (.bipush 16, 2) := by decide +kernel
theorem dX5_fitting_20 : decode cX5_fitting 20 = .ok (.if_icmp .ge 71, 3) := by decide +kernel
theorem dX5_fitting_23 : decode cX5_fitting 23 = .ok (.aload_n 0, 1) := by decide +kernel
theorem dX5_fitting_24 : decode cX5_fitting 24 = .ok (.getfield 7, 3) := by decide +kernel
theorem dX5_fitting_27 : decode cX5_fitting 27 = .ok (.iconst 3, 1) := by decide +kernel
theorem dX5_fitting_28 : decode cX5_fitting 28 = .ok (.iaload, 1) := by decide +kernel
theorem dX5_fitting_29 : decode cX5_fitting 29 = .ok (.bipush 20, 2) := by decide +kernel
theorem dX5_fitting_31 : decode cX5_fitting 31 = .ok (.if_icmp .ge 60, 3) := by decide +kernel
theorem dX5_fitting_34 : decode cX5_fitting 34 = .ok (.aload_n 0, 1) := by decide +kernel
theorem dX5_fitting_35 : decode cX5_fitting 35 = .ok (.getfield 16, 3) := by decide +kernel
theorem dX5_fitting_38 : decode cX5_fitting 38 = .ok (.aload_n 0, 1) := by decide +kernel
theorem dX5_fitting_39 : decode cX5_fitting 39 = .ok (.getfield 33, 3) := by decide +kernel
theorem dX5_fitting_42 : decode cX5_fitting 42 = .ok (.iconst 1, 1) := by decide +kernel
theorem dX5_fitting_43 : decode cX5_fitting 43 = .ok (.isub, 1) := by decide +kernel
theorem dX5_fitting_44 : decode cX5_fitting 44 = .ok (.iload_n 1, 1) := by decide +kernel
theorem dX5_fitting_45 : decode cX5_fitting 45 = .ok (.iastore, 1) := by decide +kernel
theorem dX5_fitting_46 : decode cX5_fitting 46 = .ok (.aload_n 0, 1) := by decide +kernel
theorem dX5_fitting_47 : decode cX5_fitting 47 = .ok (.getfield 19, 3) := by decide +kernel
theorem dX5_fitting_50 : decode cX5_fitting 50 = .ok (.aload_n 0, 1) := by decide +kernel
theorem dX5_fitting_51 : decode cX5_fitting 51 = .ok (.getfield 33, 3) := by decide +kernel
theorem dX5_fitting_54 : decode cX5_fitting 54 = .ok (.iconst 1, 1) := by decide +kernel
theorem dX5_fitting_55 : decode cX5_fitting 55 = .ok (.isub, 1) := by decide +kernel
theorem dX5_fitting_56 : decode cX5_fitting 56 = .ok (.iconst 0, 1) := by decide +kernel
theorem dX5_fitting_57 : decode cX5_fitting 57 = .ok (.iastore, 1) := by decide +kernel
theorem dX5_fitting_58 : decode cX5_fitting 58 = .ok (.aload_n 0, 1) := by decide +kernel
theorem dX5_fitting_59 : decode cX5_fitting 59 = .ok (.getfield 7, 3) := by decide +kernel
theorem dX5_fitting_62 : decode cX5_fitting 62 = .ok (.bipush 6, 2) := by decide +kernel
theorem dX5_fitting_64 : decode cX5_fitting 64 = .ok (.iload_n 1, 1) := by decide +kernel
theorem dX5_fitting_65 : decode cX5_fitting 65 = .ok (.iadd, 1) := by decide +kernel
theorem dX5_fitting_66 : decode cX5_fitting 66 = .ok (.iaload, 1) := by decide +kernel
theorem dX5_fitting_67 : decode cX5_fitting 67 = .ok (.ifCond .le 18, 3) := by decide +kernel
theorem dX5_fitting_70 : decode cX5_fitting 70 = .ok (.aload_n 0, 1) := by decide +kernel
theorem dX5_fitting_71 : decode cX5_fitting 71 = .ok (.aload_n 0, 1) := by decide +kernel
theorem dX5_fitting_72 : decode cX5_fitting 72 = .ok (.getfield 33, 3) := by decide +kernel
theorem dX5_fitting_75 : decode cX5_fitting 75 = .ok (.iconst 1, 1) := by decide +kernel
theorem dX5_fitting_76 : decode cX5_fitting 76 = .ok (.isub, 1) := by decide +kernel
theorem dX5_fitting_77 : decode cX5_fitting 77 = .ok (.invokevirtual 40, 3) := by decide +kernel
theorem dX5_fitting_80 : decode cX5_fitting 80 = .ok (.ifCond .ne 5, 3) := by decide +kernel
theorem dX5_fitting_83 : decode cX5_fitting 83 = .ok (.iload_n 1, 1) := by decide +kernel
theorem dX5_fitting_84 : decode cX5_fitting 84 = .ok (.ireturn, 1) := by decide +kernel
theorem dX5_fitting_85 : decode cX5_fitting 85 = .ok (.iinc 1 1, 3) := by decide +kernel
theorem dX5_fitting_88 : decode cX5_fitting 88 = .ok (.goto (-71), 3) := by decide +kernel
theorem dX5_fitting_91 : decode cX5_fitting 91 = .ok (.iconst (-1), 1) := by decide +kernel
theorem dX5_fitting_92 : decode cX5_fitting 92 = .ok (.ireturn, 1) := by decide +kernel
theorem dX5_fits_0 : decode cX5_fits 0 = .ok (.aload_n 0, 1) := by decide +kernel
theorem dX5_fits_1 : decode cX5_fits 1 = .ok (.iconst 0, 1) := by decide +kernel
theorem dX5_fits_2 : decode cX5_fits 2 = .ok (.putfield 25, 3) := by decide +kernel
theorem dX5_fits_5 : decode cX5_fits 5 = .ok (.aload_n 0, 1) := by decide +kernel
theorem dX5_fits_6 : decode cX5_fits 6 = .ok (.invokevirtual 201, 3) := by decide +kernel
theorem dX5_fits_9 : decode cX5_fits 9 = .ok (.ireturn, 1) := by decide +kernel
theorem dX5_possible_0 : decode cX5_possible 0 = .ok (.aload_n 0, 1) := by decide +kernel
theorem dX5_possible_1 : decode cX5_possible 1 = .ok (.getfield 7, 3) := by decide +kernel
theorem dX5_possible_4 : decode cX5_possible 4 = .ok (.bipush 6, 2) := by decide +kernel
theorem dX5_possible_6 : decode cX5_possible 6 = .ok (.iaload, 1) := by decide +kernel
theorem dX5_possible_7 : decode cX5_possible 7 = .ok (.aload_n 0, 1) := by decide +kernel
theorem dX5_possible_8 : decode cX5_possible 8 = .ok (.iconst 0, 1) := by decide +kernel
theorem dX5_possible_9 : decode cX5_possible 9 = .ok (.invokevirtual 165, 3) := by decide +kernel
theorem dX5_possible_12 : decode cX5_possible 12 = .ok (.iadd, 1) := by decide +kernel
theorem dX5_possible_13 : decode cX5_possible 13 = .ok (.istore_n 1, 1) := by decide +kernel
theorem dX5_possible_14 : decode cX5_possible 14 = .ok (.iconst 1, 1) := by decide +kernel
theorem dX5_possible_15 : decode cX5_possible 15 = .ok (.istore_n 2, 1) := by decide +kernel
theorem dX5_possible_16 : decode cX5_possible 16 = .ok (.iload_n 2, 1) := by decide +kernel
theorem dX5_possible_17 : decode cX5_possible 17 = .ok (.aload_n 0, 1) := by decide +kernel
theorem dX5_possible_18 : decode cX5_possible 18 = .ok (.getfield 7, 3) := by decide +kernel
theorem dX5_possible_21 : decode cX5_possible 21 = .ok (.iconst 0, 1) := by decide +kernel
theorem dX5_possible_22 : decode cX5_possible 22 = .ok (.iaload, 1) := by decide +kernel
theorem dX5_possible_23 : decode cX5_possible 23 = .ok (.if_icmp .ge 36, 3) := by decide +kernel
theorem dX5_possible_26 : decode cX5_possible 26 = .ok (.aload_n 0, 1) := by decide +kernel
theorem dX5_possible_27 : decode cX5_possible 27 = .ok (.getfield 7, 3) := by decide +kernel
theorem dX5_possible_30 : decode cX5_possible 30 = .ok (.bipush 6, 2) := by decide +kernel
theorem dX5_possible_32 : decode cX5_possible 32 = .ok (.iload_n 2, 1) := by decide +kernel
theorem dX5_possible_33 : decode cX5_possible 33 = .ok (.iadd, 1) := by decide +kernel
theorem dX5_possible_34 : decode cX5_possible 34 = .ok (.iaload, 1) := by decide +kernel
theorem dX5_possible_35 : decode cX5_possible 35 = .ok (.aload_n 0, 1) := by decide +kernel
theorem dX5_possible_36 : decode cX5_possible 36 = .ok (.iload_n 2, 1) := by decide +kernel
theorem dX5_possible_37 : decode cX5_possible 37 = .ok (.invokevirtual 165, 3) := by decide +kernel
theorem dX5_possible_40 : decode cX5_possible 40 = .ok (.iadd, 1) := by decide +kernel
theorem dX5_possible_41 : decode cX5_possible 41 = .ok (.istore_n 3, 1) := by decide +kernel
theorem dX5_possible_42 : decode cX5_possible 42 = .ok (.iload_n 3, 1) := by decide +kernel
theorem dX5_possible_43 : decode cX5_possible 43 = .ok (.iload_n 1, 1) := by decide +kernel
theorem dX5_possible_44 : decode cX5_possible 44 = .ok (.if_icmp .ge 7, 3) := by decide +kernel
theorem dX5_possible_47 : decode cX5_possible 47 = .ok (.iload_n 3, 1) := by decide +kernel
theorem dX5_possible_48 : decode cX5_possible 48 = .ok (.goto 4, 3) := by decide +kernel
theorem dX5_possible_51 : decode cX5_possible 51 = .ok (.iload_n 1, 1) := by decide +kernel
theorem dX5_possible_52 : decode cX5_possible 52 = .ok (.istore_n 1, 1) := by decide +kernel
theorem dX5_possible_53 : decode cX5_possible 53 = .ok (.iinc 2 1, 3) := by decide +kernel
theorem dX5_possible_56 : decode cX5_possible 56 = .ok (.goto (-40), 3) := by decide +kernel
theorem dX5_possible_59 : decode cX5_possible 59 = .ok (.iload_n 1, 1) := by decide +kernel
theorem dX5_possible_60 : decode cX5_possible 60 = .ok (.ireturn, 1) := by decide +kernel
theorem dX5_books_0 : decode cX5_books 0 = .ok (.aload_n 0, 1) := by decide +kernel
theorem dX5_books_1 : decode cX5_books 1 = .ok (.iconst 0, 1) := by decide +kernel
theorem dX5_books_2 : decode cX5_books 2 = .ok (.putfield 25, 3) := by decide +kernel
theorem dX5_books_5 : decode cX5_books 5 = .ok (.aload_n 0, 1) := by decide +kernel
theorem dX5_books_6 : decode cX5_books 6 = .ok (.invokevirtual 204, 3) := by decide +kernel
theorem dX5_books_9 : decode cX5_books 9 = .ok (.ireturn, 1) := by decide +kernel
theorem dX5_share_0 : decode cX5_share 0 = .ok (.aload_n 0, 1) := by decide +kernel
theorem dX5_share_1 : decode cX5_share 1 = .ok (.getfield 7, 3) := by decide +kernel
theorem dX5_share_4 : decode cX5_share 4 = .ok (.iconst 3, 1) := by decide +kernel
theorem dX5_share_5 : decode cX5_share 5 = .ok (.iaload, 1) := by decide +kernel
theorem dX5_share_6 : decode cX5_share 6 = .ok (.ifCond .ne 7, 3) := by decide +kernel
theorem dX5_share_9 : decode cX5_share 9 = .ok (.dconst 1, 1) := by decide +kernel
theorem dX5_share_10 : decode cX5_share 10 = .ok (.goto 24, 3) := by decide +kernel
theorem dX5_share_13 : decode cX5_share 13 = .ok (.aload_n 0, 1) := by decide +kernel
theorem dX5_share_14 : decode cX5_share 14 = .ok (.getfield 7, 3) := by decide +kernel
theorem dX5_share_17 : decode cX5_share 17 = .ok (.iconst 3, 1) := by decide +kernel
theorem dX5_share_18 : decode cX5_share 18 = .ok (.iaload, 1) := by decide +kernel
theorem dX5_share_19 : decode cX5_share 19 = .ok (.aload_n 0, 1) := by decide +kernel
theorem dX5_share_20 : decode cX5_share 20 = .ok (.iconst 1, 1) := by decide +kernel
theorem dX5_share_21 : decode cX5_share 21 = .ok (.invokevirtual 189, 3) := by decide +kernel
theorem dX5_share_24 : decode cX5_share 24 = .ok (.isub, 1) := by decide +kernel
theorem dX5_share_25 : decode cX5_share 25 = .ok (.i2d, 1) := by decide +kernel
theorem dX5_share_26 : decode cX5_share 26 = .ok (.aload_n 0, 1) := by decide +kernel
theorem dX5_share_27 : decode cX5_share 27 = .ok (.getfield 7, 3) := by decide +kernel
theorem dX5_share_30 : decode cX5_share 30 = .ok (.iconst 3, 1) := by decide +kernel
theorem dX5_share_31 : decode cX5_share 31 = .ok (.iaload, 1) := by decide +kernel
theorem dX5_share_32 : decode cX5_share 32 = .ok (.i2d, 1) := by decide +kernel
theorem dX5_share_33 : decode cX5_share 33 = .ok (.ddiv, 1) := by decide +kernel
theorem dX5_share_34 : decode cX5_share 34 = .ok (.dreturn, 1) := by decide +kernel
theorem dX5_stairShare_0 : decode cX5_stairShare 0 = .ok (.aload_n 0, 1) := by decide +kernel
theorem dX5_stairShare_1 : decode cX5_stairShare 1 = .ok (.iconst 0, 1) := by decide +kernel
theorem dX5_stairShare_2 : decode cX5_stairShare 2 = .ok (.putfield 25, 3) := by decide +kernel
theorem dX5_stairShare_5 : decode cX5_stairShare 5 = .ok (.aload_n 0, 1) := by decide +kernel
theorem dX5_stairShare_6 : decode cX5_stairShare 6 = .ok (.invokevirtual 207, 3) := by decide +kernel
theorem dX5_stairShare_9 : decode cX5_stairShare 9 = .ok (.dreturn, 1) := by decide +kernel
theorem dX5_mean_0 : decode cX5_mean 0 = .ok (.aload_n 0, 1) := by decide +kernel
theorem dX5_mean_1 : decode cX5_mean 1 = .ok (.getfield 7, 3) := by decide +kernel
theorem dX5_mean_4 : decode cX5_mean 4 = .ok (.iconst 3, 1) := by decide +kernel
theorem dX5_mean_5 : decode cX5_mean 5 = .ok (.iaload, 1) := by decide +kernel
theorem dX5_mean_6 : decode cX5_mean 6 = .ok (.ifCond .ne 7, 3) := by decide +kernel
theorem dX5_mean_9 : decode cX5_mean 9 = .ok (.fconst 0, 1) := by decide +kernel
theorem dX5_mean_10 : decode cX5_mean 10 = .ok (.goto 18, 3) := by decide +kernel
theorem dX5_mean_13 : decode cX5_mean 13 = .ok (.aload_n 0, 1) := by decide +kernel
theorem dX5_mean_14 : decode cX5_mean 14 = .ok (.bipush 10, 2) := by decide +kernel
theorem dX5_mean_16 : decode cX5_mean 16 = .ok (.invokevirtual 189, 3) := by decide +kernel
theorem dX5_mean_19 : decode cX5_mean 19 = .ok (.i2f, 1) := by decide +kernel
theorem dX5_mean_20 : decode cX5_mean 20 = .ok (.aload_n 0, 1) := by decide +kernel
theorem dX5_mean_21 : decode cX5_mean 21 = .ok (.getfield 7, 3) := by decide +kernel
theorem dX5_mean_24 : decode cX5_mean 24 = .ok (.iconst 3, 1) := by decide +kernel
theorem dX5_mean_25 : decode cX5_mean 25 = .ok (.iaload, 1) := by decide +kernel
theorem dX5_mean_26 : decode cX5_mean 26 = .ok (.i2f, 1) := by decide +kernel
theorem dX5_mean_27 : decode cX5_mean 27 = .ok (.fdiv, 1) := by decide +kernel
theorem dX5_mean_28 : decode cX5_mean 28 = .ok (.freturn, 1) := by decide +kernel
theorem dX5_meanThread_0 : decode cX5_meanThread 0 = .ok (.aload_n 0, 1) := by decide +kernel
theorem dX5_meanThread_1 : decode cX5_meanThread 1 = .ok (.iconst 0, 1) := by decide +kernel
theorem dX5_meanThread_2 : decode cX5_meanThread 2 = .ok (.putfield 25, 3) := by decide +kernel
theorem dX5_meanThread_5 : decode cX5_meanThread 5 = .ok (.aload_n 0, 1) := by decide +kernel
theorem dX5_meanThread_6 : decode cX5_meanThread 6 = .ok (.invokevirtual 211, 3) := by decide +kernel
theorem dX5_meanThread_9 : decode cX5_meanThread 9 = .ok (.freturn, 1) := by decide +kernel
theorem dX5_mix_0 : decode cX5_mix 0 = .ok (.aload_n 0, 1) := by decide +kernel
theorem dX5_mix_1 : decode cX5_mix 1 = .ok (.ldc2_w 215, 3) := by decide +kernel
theorem dX5_mix_4 : decode cX5_mix 4 = .ok (.aload_n 0, 1) := by decide +kernel
theorem dX5_mix_5 : decode cX5_mix 5 = .ok (.getfield 217, 3) := by decide +kernel
theorem dX5_mix_8 : decode cX5_mix 8 = .ok (.lmul, 1) := by decide +kernel
theorem dX5_mix_9 : decode cX5_mix 9 = .ok (.lload_n 1, 1) := by decide +kernel
theorem dX5_mix_10 : decode cX5_mix 10 = .ok (.ladd, 1) := by decide +kernel
theorem dX5_mix_11 : decode cX5_mix 11 = .ok (.putfield 217, 3) := by decide +kernel
theorem dX5_mix_14 : decode cX5_mix 14 = .ok (.return_, 1) := by decide +kernel
theorem dX5_bits_0 : decode cX5_bits 0 = .ok (.dload_n 0, 1) := by decide +kernel
theorem dX5_bits_1 : decode cX5_bits 1 = .ok (.dconst 0, 1) := by decide +kernel
theorem dX5_bits_2 : decode cX5_bits 2 = .ok (.dcmp .l, 1) := by decide +kernel
theorem dX5_bits_3 : decode cX5_bits 3 = .ok (.ifCond .ne 5, 3) := by decide +kernel
theorem dX5_bits_6 : decode cX5_bits 6 = .ok (.lconst 0, 1) := by decide +kernel
theorem dX5_bits_7 : decode cX5_bits 7 = .ok (.lreturn, 1) := by decide +kernel
theorem dX5_bits_8 : decode cX5_bits 8 = .ok (.dload_n 0, 1) := by decide +kernel
theorem dX5_bits_9 : decode cX5_bits 9 = .ok (.dstore_n 2, 1) := by decide +kernel
theorem dX5_bits_10 : decode cX5_bits 10 = .ok (.ldc2_w 221, 3) := by decide +kernel
theorem dX5_bits_13 : decode cX5_bits 13 = .ok (.lstore 4, 2) := by decide +kernel
theorem dX5_bits_15 : decode cX5_bits 15 = .ok (.dload_n 2, 1) := by decide +kernel
theorem dX5_bits_16 : decode cX5_bits 16 = .ok (.dconst 1, 1) := by decide +kernel
theorem dX5_bits_17 : decode cX5_bits 17 = .ok (.dcmp .g, 1) := by decide +kernel
theorem dX5_bits_18 : decode cX5_bits 18 = .ok (.ifCond .ge 18, 3) := by decide +kernel
theorem dX5_bits_21 : decode cX5_bits 21 = .ok (.dload_n 2, 1) := by decide +kernel
theorem dX5_bits_22 : decode cX5_bits 22 = .ok (.ldc2_w 223, 3) := by decide +kernel
theorem dX5_bits_25 : decode cX5_bits 25 = .ok (.dmul, 1) := by decide +kernel
theorem dX5_bits_26 : decode cX5_bits 26 = .ok (.dstore_n 2, 1) := by decide +kernel
theorem dX5_bits_27 : decode cX5_bits 27 = .ok (.lload 4, 2) := by decide +kernel
theorem dX5_bits_29 : decode cX5_bits 29 = .ok (.lconst 1, 1) := by decide +kernel
theorem dX5_bits_30 : decode cX5_bits 30 = .ok (.lsub, 1) := by decide +kernel
theorem dX5_bits_31 : decode cX5_bits 31 = .ok (.lstore 4, 2) := by decide +kernel
theorem dX5_bits_33 : decode cX5_bits 33 = .ok (.goto (-18), 3) := by decide +kernel
theorem dX5_bits_36 : decode cX5_bits 36 = .ok (.lload 4, 2) := by decide +kernel
theorem dX5_bits_38 : decode cX5_bits 38 = .ok (.ldc2_w 225, 3) := by decide +kernel
theorem dX5_bits_41 : decode cX5_bits 41 = .ok (.lmul, 1) := by decide +kernel
theorem dX5_bits_42 : decode cX5_bits 42 = .ok (.dload_n 2, 1) := by decide +kernel
theorem dX5_bits_43 : decode cX5_bits 43 = .ok (.dconst 1, 1) := by decide +kernel
theorem dX5_bits_44 : decode cX5_bits 44 = .ok (.dsub, 1) := by decide +kernel
theorem dX5_bits_45 : decode cX5_bits 45 = .ok (.ldc2_w 227, 3) := by decide +kernel
theorem dX5_bits_48 : decode cX5_bits 48 = .ok (.dmul, 1) := by decide +kernel
theorem dX5_bits_49 : decode cX5_bits 49 = .ok (.d2l, 1) := by decide +kernel
theorem dX5_bits_50 : decode cX5_bits 50 = .ok (.ladd, 1) := by decide +kernel
theorem dX5_bits_51 : decode cX5_bits 51 = .ok (.lreturn, 1) := by decide +kernel
theorem dX5_floatBits_0 : decode cX5_floatBits 0 = .ok (.fload_n 0, 1) := by decide +kernel
theorem dX5_floatBits_1 : decode cX5_floatBits 1 = .ok (.fconst 0, 1) := by decide +kernel
theorem dX5_floatBits_2 : decode cX5_floatBits 2 = .ok (.fcmp .l, 1) := by decide +kernel
theorem dX5_floatBits_3 : decode cX5_floatBits 3 = .ok (.ifCond .ne 5, 3) := by decide +kernel
theorem dX5_floatBits_6 : decode cX5_floatBits 6 = .ok (.iconst 0, 1) := by decide +kernel
theorem dX5_floatBits_7 : decode cX5_floatBits 7 = .ok (.ireturn, 1) := by decide +kernel
theorem dX5_floatBits_8 : decode cX5_floatBits 8 = .ok (.fload_n 0, 1) := by decide +kernel
theorem dX5_floatBits_9 : decode cX5_floatBits 9 = .ok (.fstore_n 1, 1) := by decide +kernel
theorem dX5_floatBits_10 : decode cX5_floatBits 10 = .ok (.bipush 127, 2) := by decide +kernel
theorem dX5_floatBits_12 : decode cX5_floatBits 12 = .ok (.istore_n 2, 1) := by decide +kernel
theorem dX5_floatBits_13 : decode cX5_floatBits 13 = .ok (.fload_n 1, 1) := by decide +kernel
theorem dX5_floatBits_14 : decode cX5_floatBits 14 = .ok (.fconst 2, 1) := by decide +kernel
theorem dX5_floatBits_15 : decode cX5_floatBits 15 = .ok (.fcmp .l, 1) := by decide +kernel
theorem dX5_floatBits_16 : decode cX5_floatBits 16 = .ok (.ifCond .lt 13, 3) := by decide +kernel
theorem dX5_floatBits_19 : decode cX5_floatBits 19 = .ok (.fload_n 1, 1) := by decide +kernel
theorem dX5_floatBits_20 : decode cX5_floatBits 20 = .ok (.fconst 2, 1) := by decide +kernel
theorem dX5_floatBits_21 : decode cX5_floatBits 21 = .ok (.fdiv, 1) := by decide +kernel
theorem dX5_floatBits_22 : decode cX5_floatBits 22 = .ok (.fstore_n 1, 1) := by decide +kernel
theorem dX5_floatBits_23 : decode cX5_floatBits 23 = .ok (.iinc 2 1, 3) := by decide +kernel
theorem dX5_floatBits_26 : decode cX5_floatBits 26 = .ok (.goto (-13), 3) := by decide +kernel
theorem dX5_floatBits_29 : decode cX5_floatBits 29 = .ok (.fload_n 1, 1) := by decide +kernel
theorem dX5_floatBits_30 : decode cX5_floatBits 30 = .ok (.fconst 1, 1) := by decide +kernel
theorem dX5_floatBits_31 : decode cX5_floatBits 31 = .ok (.fcmp .g, 1) := by decide +kernel
theorem dX5_floatBits_32 : decode cX5_floatBits 32 = .ok (.ifCond .ge 13, 3) := by decide +kernel
theorem dX5_floatBits_35 : decode cX5_floatBits 35 = .ok (.fload_n 1, 1) := by decide +kernel
theorem dX5_floatBits_36 : decode cX5_floatBits 36 = .ok (.fconst 2, 1) := by decide +kernel
theorem dX5_floatBits_37 : decode cX5_floatBits 37 = .ok (.fmul, 1) := by decide +kernel
theorem dX5_floatBits_38 : decode cX5_floatBits 38 = .ok (.fstore_n 1, 1) := by decide +kernel
theorem dX5_floatBits_39 : decode cX5_floatBits 39 = .ok (.iinc 2 (-1), 3) := by decide +kernel
theorem dX5_floatBits_42 : decode cX5_floatBits 42 = .ok (.goto (-13), 3) := by decide +kernel
theorem dX5_floatBits_45 : decode cX5_floatBits 45 = .ok (.iload_n 2, 1) := by decide +kernel
theorem dX5_floatBits_46 : decode cX5_floatBits 46 = .ok (.ldc 229, 2) := by decide +kernel
theorem dX5_floatBits_48 : decode cX5_floatBits 48 = .ok (.imul, 1) := by decide +kernel
theorem dX5_floatBits_49 : decode cX5_floatBits 49 = .ok (.fload_n 1, 1) := by decide +kernel
theorem dX5_floatBits_50 : decode cX5_floatBits 50 = .ok (.fconst 1, 1) := by decide +kernel
theorem dX5_floatBits_51 : decode cX5_floatBits 51 = .ok (.fsub, 1) := by decide +kernel
theorem dX5_floatBits_52 : decode cX5_floatBits 52 = .ok (.ldc 230, 2) := by decide +kernel
theorem dX5_floatBits_54 : decode cX5_floatBits 54 = .ok (.fmul, 1) := by decide +kernel
theorem dX5_floatBits_55 : decode cX5_floatBits 55 = .ok (.f2i, 1) := by decide +kernel
theorem dX5_floatBits_56 : decode cX5_floatBits 56 = .ok (.iadd, 1) := by decide +kernel
theorem dX5_floatBits_57 : decode cX5_floatBits 57 = .ok (.ireturn, 1) := by decide +kernel
theorem dX5_digest_0 : decode cX5_digest 0 = .ok (.aload_n 0, 1) := by decide +kernel
theorem dX5_digest_1 : decode cX5_digest 1 = .ok (.iconst 0, 1) := by decide +kernel
theorem dX5_digest_2 : decode cX5_digest 2 = .ok (.putfield 25, 3) := by decide +kernel
theorem dX5_digest_5 : decode cX5_digest 5 = .ok (.aload_n 0, 1) := by decide +kernel
theorem dX5_digest_6 : decode cX5_digest 6 = .ok (.ldc2_w 231, 3) := by decide +kernel
theorem dX5_digest_9 : decode cX5_digest 9 = .ok (.putfield 217, 3) := by decide +kernel
theorem dX5_digest_12 : decode cX5_digest 12 = .ok (.iconst 0, 1) := by decide +kernel
theorem dX5_digest_13 : decode cX5_digest 13 = .ok (.istore_n 1, 1) := by decide +kernel
theorem dX5_digest_14 : decode cX5_digest 14 = .ok (.iload_n 1, 1) := by decide +kernel
theorem dX5_digest_15 : decode cX5_digest 15 = .ok (.bipush 16, 2) := by decide +kernel
theorem dX5_digest_17 : decode cX5_digest 17 = .ok (.if_icmp .ge 19, 3) := by decide +kernel
theorem dX5_digest_20 : decode cX5_digest 20 = .ok (.aload_n 0, 1) := by decide +kernel
theorem dX5_digest_21 : decode cX5_digest 21 = .ok (.aload_n 0, 1) := by decide +kernel
theorem dX5_digest_22 : decode cX5_digest 22 = .ok (.iload_n 1, 1) := by decide +kernel
theorem dX5_digest_23 : decode cX5_digest 23 = .ok (.invokevirtual 189, 3) := by decide +kernel
theorem dX5_digest_26 : decode cX5_digest 26 = .ok (.i2l, 1) := by decide +kernel
theorem dX5_digest_27 : decode cX5_digest 27 = .ok (.invokevirtual 233, 3) := by decide +kernel
theorem dX5_digest_30 : decode cX5_digest 30 = .ok (.iinc 1 1, 3) := by decide +kernel
theorem dX5_digest_33 : decode cX5_digest 33 = .ok (.goto (-19), 3) := by decide +kernel
theorem dX5_digest_36 : decode cX5_digest 36 = .ok (.iconst 0, 1) := by decide +kernel
theorem dX5_digest_37 : decode cX5_digest 37 = .ok (.istore_n 1, 1) := by decide +kernel
theorem dX5_digest_38 : decode cX5_digest 38 = .ok (.iload_n 1, 1) := by decide +kernel
theorem dX5_digest_39 : decode cX5_digest 39 = .ok (.iconst 3, 1) := by decide +kernel
theorem dX5_digest_40 : decode cX5_digest 40 = .ok (.if_icmp .ge 22, 3) := by decide +kernel
theorem dX5_digest_43 : decode cX5_digest 43 = .ok (.aload_n 0, 1) := by decide +kernel
theorem dX5_digest_44 : decode cX5_digest 44 = .ok (.aload_n 0, 1) := by decide +kernel
theorem dX5_digest_45 : decode cX5_digest 45 = .ok (.getfield 7, 3) := by decide +kernel
theorem dX5_digest_48 : decode cX5_digest 48 = .ok (.iconst 0, 1) := by decide +kernel
theorem dX5_digest_49 : decode cX5_digest 49 = .ok (.iload_n 1, 1) := by decide +kernel
theorem dX5_digest_50 : decode cX5_digest 50 = .ok (.iadd, 1) := by decide +kernel
theorem dX5_digest_51 : decode cX5_digest 51 = .ok (.iaload, 1) := by decide +kernel
theorem dX5_digest_52 : decode cX5_digest 52 = .ok (.i2l, 1) := by decide +kernel
theorem dX5_digest_53 : decode cX5_digest 53 = .ok (.invokevirtual 233, 3) := by decide +kernel
theorem dX5_digest_56 : decode cX5_digest 56 = .ok (.iinc 1 1, 3) := by decide +kernel
theorem dX5_digest_59 : decode cX5_digest 59 = .ok (.goto (-21), 3) := by decide +kernel
theorem dX5_digest_62 : decode cX5_digest 62 = .ok (.iconst 0, 1) := by decide +kernel
theorem dX5_digest_63 : decode cX5_digest 63 = .ok (.istore_n 1, 1) := by decide +kernel
theorem dX5_digest_64 : decode cX5_digest 64 = .ok (.iload_n 1, 1) := by decide +kernel
theorem dX5_digest_65 : decode cX5_digest 65 = .ok (.aload_n 0, 1) := by decide +kernel
theorem dX5_digest_66 : decode cX5_digest 66 = .ok (.getfield 7, 3) := by decide +kernel
theorem dX5_digest_69 : decode cX5_digest 69 = .ok (.iconst 3, 1) := by decide +kernel
theorem dX5_digest_70 : decode cX5_digest 70 = .ok (.iaload, 1) := by decide +kernel
theorem dX5_digest_71 : decode cX5_digest 71 = .ok (.if_icmp .ge 58, 3) := by decide +kernel
theorem dX5_digest_74 : decode cX5_digest 74 = .ok (.iconst 0, 1) := by decide +kernel
theorem dX5_digest_75 : decode cX5_digest 75 = .ok (.istore_n 2, 1) := by decide +kernel
theorem dX5_digest_76 : decode cX5_digest 76 = .ok (.iload_n 2, 1) := by decide +kernel
theorem dX5_digest_77 : decode cX5_digest 77 = .ok (.bipush 6, 2) := by decide +kernel
theorem dX5_digest_79 : decode cX5_digest 79 = .ok (.if_icmp .ge 20, 3) := by decide +kernel
theorem dX5_digest_82 : decode cX5_digest 82 = .ok (.aload_n 0, 1) := by decide +kernel
theorem dX5_digest_83 : decode cX5_digest 83 = .ok (.aload_n 0, 1) := by decide +kernel
theorem dX5_digest_84 : decode cX5_digest 84 = .ok (.iload_n 1, 1) := by decide +kernel
theorem dX5_digest_85 : decode cX5_digest 85 = .ok (.iload_n 2, 1) := by decide +kernel
theorem dX5_digest_86 : decode cX5_digest 86 = .ok (.invokevirtual 162, 3) := by decide +kernel
theorem dX5_digest_89 : decode cX5_digest 89 = .ok (.i2l, 1) := by decide +kernel
theorem dX5_digest_90 : decode cX5_digest 90 = .ok (.invokevirtual 233, 3) := by decide +kernel
theorem dX5_digest_93 : decode cX5_digest 93 = .ok (.iinc 2 1, 3) := by decide +kernel
theorem dX5_digest_96 : decode cX5_digest 96 = .ok (.goto (-20), 3) := by decide +kernel
theorem dX5_digest_99 : decode cX5_digest 99 = .ok (.iconst 0, 1) := by decide +kernel
theorem dX5_digest_100 : decode cX5_digest 100 = .ok (.istore_n 2, 1) := by decide +kernel
theorem dX5_digest_101 : decode cX5_digest 101 = .ok (.iload_n 2, 1) := by decide +kernel
theorem dX5_digest_102 : decode cX5_digest 102 = .ok (.iconst 4, 1) := by decide +kernel
theorem dX5_digest_103 : decode cX5_digest 103 = .ok (.if_icmp .ge 20, 3) := by decide +kernel
theorem dX5_digest_106 : decode cX5_digest 106 = .ok (.aload_n 0, 1) := by decide +kernel
theorem dX5_digest_107 : decode cX5_digest 107 = .ok (.aload_n 0, 1) := by decide +kernel
theorem dX5_digest_108 : decode cX5_digest 108 = .ok (.iload_n 1, 1) := by decide +kernel
theorem dX5_digest_109 : decode cX5_digest 109 = .ok (.iload_n 2, 1) := by decide +kernel
theorem dX5_digest_110 : decode cX5_digest 110 = .ok (.invokevirtual 198, 3) := by decide +kernel
theorem dX5_digest_113 : decode cX5_digest 113 = .ok (.i2l, 1) := by decide +kernel
theorem dX5_digest_114 : decode cX5_digest 114 = .ok (.invokevirtual 233, 3) := by decide +kernel
theorem dX5_digest_117 : decode cX5_digest 117 = .ok (.iinc 2 1, 3) := by decide +kernel
theorem dX5_digest_120 : decode cX5_digest 120 = .ok (.goto (-19), 3) := by decide +kernel
theorem dX5_digest_123 : decode cX5_digest 123 = .ok (.iinc 1 1, 3) := by decide +kernel
theorem dX5_digest_126 : decode cX5_digest 126 = .ok (.goto (-62), 3) := by decide +kernel
theorem dX5_digest_129 : decode cX5_digest 129 = .ok (.iconst 0, 1) := by decide +kernel
theorem dX5_digest_130 : decode cX5_digest 130 = .ok (.istore_n 1, 1) := by decide +kernel
theorem dX5_digest_131 : decode cX5_digest 131 = .ok (.iload_n 1, 1) := by decide +kernel
theorem dX5_digest_132 : decode cX5_digest 132 = .ok (.bipush 80, 2) := by decide +kernel
theorem dX5_digest_134 : decode cX5_digest 134 = .ok (.if_icmp .ge 24, 3) := by decide +kernel
theorem dX5_digest_137 : decode cX5_digest 137 = .ok (.aload_n 0, 1) := by decide +kernel
theorem dX5_digest_138 : decode cX5_digest 138 = .ok (.aload_n 0, 1) := by decide +kernel
theorem dX5_digest_139 : decode cX5_digest 139 = .ok (.iload_n 1, 1) := by decide +kernel
theorem dX5_digest_140 : decode cX5_digest 140 = .ok (.iconst 5, 1) := by decide +kernel
theorem dX5_digest_141 : decode cX5_digest 141 = .ok (.idiv, 1) := by decide +kernel
theorem dX5_digest_142 : decode cX5_digest 142 = .ok (.iload_n 1, 1) := by decide +kernel
theorem dX5_digest_143 : decode cX5_digest 143 = .ok (.iconst 5, 1) := by decide +kernel
theorem dX5_digest_144 : decode cX5_digest 144 = .ok (.irem, 1) := by decide +kernel
theorem dX5_digest_145 : decode cX5_digest 145 = .ok (.invokevirtual 168, 3) := by decide +kernel
theorem dX5_digest_148 : decode cX5_digest 148 = .ok (.i2l, 1) := by decide +kernel
theorem dX5_digest_149 : decode cX5_digest 149 = .ok (.invokevirtual 233, 3) := by decide +kernel
theorem dX5_digest_152 : decode cX5_digest 152 = .ok (.iinc 1 1, 3) := by decide +kernel
theorem dX5_digest_155 : decode cX5_digest 155 = .ok (.goto (-24), 3) := by decide +kernel
theorem dX5_digest_158 : decode cX5_digest 158 = .ok (.aload_n 0, 1) := by decide +kernel
theorem dX5_digest_159 : decode cX5_digest 159 = .ok (.aload_n 0, 1) := by decide +kernel
theorem dX5_digest_160 : decode cX5_digest 160 = .ok (.invokevirtual 195, 3) := by decide +kernel
theorem dX5_digest_163 : decode cX5_digest 163 = .ok (.i2l, 1) := by decide +kernel
theorem dX5_digest_164 : decode cX5_digest 164 = .ok (.invokevirtual 233, 3) := by decide +kernel
theorem dX5_digest_167 : decode cX5_digest 167 = .ok (.aload_n 0, 1) := by decide +kernel
theorem dX5_digest_168 : decode cX5_digest 168 = .ok (.aload_n 0, 1) := by decide +kernel
theorem dX5_digest_169 : decode cX5_digest 169 = .ok (.invokevirtual 201, 3) := by decide +kernel
theorem dX5_digest_172 : decode cX5_digest 172 = .ok (.i2l, 1) := by decide +kernel
theorem dX5_digest_173 : decode cX5_digest 173 = .ok (.invokevirtual 233, 3) := by decide +kernel
theorem dX5_digest_176 : decode cX5_digest 176 = .ok (.aload_n 0, 1) := by decide +kernel
theorem dX5_digest_177 : decode cX5_digest 177 = .ok (.aload_n 0, 1) := by decide +kernel
theorem dX5_digest_178 : decode cX5_digest 178 = .ok (.invokevirtual 204, 3) := by decide +kernel
theorem dX5_digest_181 : decode cX5_digest 181 = .ok (.i2l, 1) := by decide +kernel
theorem dX5_digest_182 : decode cX5_digest 182 = .ok (.invokevirtual 233, 3) := by decide +kernel
theorem dX5_digest_185 : decode cX5_digest 185 = .ok (.aload_n 0, 1) := by decide +kernel
theorem dX5_digest_186 : decode cX5_digest 186 = .ok (.aload_n 0, 1) := by decide +kernel
theorem dX5_digest_187 : decode cX5_digest 187 = .ok (.invokevirtual 207, 3) := by decide +kernel
theorem dX5_digest_190 : decode cX5_digest 190 = .ok (.invokestatic 237, 3) := by decide +kernel
theorem dX5_digest_193 : decode cX5_digest 193 = .ok (.invokevirtual 233, 3) := by decide +kernel
theorem dX5_digest_196 : decode cX5_digest 196 = .ok (.aload_n 0, 1) := by decide +kernel
theorem dX5_digest_197 : decode cX5_digest 197 = .ok (.aload_n 0, 1) := by decide +kernel
theorem dX5_digest_198 : decode cX5_digest 198 = .ok (.invokevirtual 211, 3) := by decide +kernel
theorem dX5_digest_201 : decode cX5_digest 201 = .ok (.invokestatic 241, 3) := by decide +kernel
theorem dX5_digest_204 : decode cX5_digest 204 = .ok (.i2l, 1) := by decide +kernel
theorem dX5_digest_205 : decode cX5_digest 205 = .ok (.invokevirtual 233, 3) := by decide +kernel
theorem dX5_digest_208 : decode cX5_digest 208 = .ok (.aload_n 0, 1) := by decide +kernel
theorem dX5_digest_209 : decode cX5_digest 209 = .ok (.aload_n 0, 1) := by decide +kernel
theorem dX5_digest_210 : decode cX5_digest 210 = .ok (.getfield 158, 3) := by decide +kernel
theorem dX5_digest_213 : decode cX5_digest 213 = .ok (.ifCond .eq 7, 3) := by decide +kernel
theorem dX5_digest_216 : decode cX5_digest 216 = .ok (.lconst 1, 1) := by decide +kernel
theorem dX5_digest_217 : decode cX5_digest 217 = .ok (.goto 4, 3) := by decide +kernel
theorem dX5_digest_220 : decode cX5_digest 220 = .ok (.lconst 0, 1) := by decide +kernel
theorem dX5_digest_221 : decode cX5_digest 221 = .ok (.invokevirtual 233, 3) := by decide +kernel
theorem dX5_digest_224 : decode cX5_digest 224 = .ok (.aload_n 0, 1) := by decide +kernel
theorem dX5_digest_225 : decode cX5_digest 225 = .ok (.aload_n 0, 1) := by decide +kernel
theorem dX5_digest_226 : decode cX5_digest 226 = .ok (.getfield 125, 3) := by decide +kernel
theorem dX5_digest_229 : decode cX5_digest 229 = .ok (.i2l, 1) := by decide +kernel
theorem dX5_digest_230 : decode cX5_digest 230 = .ok (.invokevirtual 233, 3) := by decide +kernel
theorem dX5_digest_233 : decode cX5_digest 233 = .ok (.iconst 0, 1) := by decide +kernel
theorem dX5_digest_234 : decode cX5_digest 234 = .ok (.istore_n 1, 1) := by decide +kernel
theorem dX5_digest_235 : decode cX5_digest 235 = .ok (.iload_n 1, 1) := by decide +kernel
theorem dX5_digest_236 : decode cX5_digest 236 = .ok (.aload_n 0, 1) := by decide +kernel
theorem dX5_digest_237 : decode cX5_digest 237 = .ok (.getfield 125, 3) := by decide +kernel
theorem dX5_digest_240 : decode cX5_digest 240 = .ok (.if_icmp .ge 20, 3) := by decide +kernel
theorem dX5_digest_243 : decode cX5_digest 243 = .ok (.aload_n 0, 1) := by decide +kernel
theorem dX5_digest_244 : decode cX5_digest 244 = .ok (.aload_n 0, 1) := by decide +kernel
theorem dX5_digest_245 : decode cX5_digest 245 = .ok (.getfield 13, 3) := by decide +kernel
theorem dX5_digest_248 : decode cX5_digest 248 = .ok (.iload_n 1, 1) := by decide +kernel
theorem dX5_digest_249 : decode cX5_digest 249 = .ok (.iaload, 1) := by decide +kernel
theorem dX5_digest_250 : decode cX5_digest 250 = .ok (.i2l, 1) := by decide +kernel
theorem dX5_digest_251 : decode cX5_digest 251 = .ok (.invokevirtual 233, 3) := by decide +kernel
theorem dX5_digest_254 : decode cX5_digest 254 = .ok (.iinc 1 1, 3) := by decide +kernel
theorem dX5_digest_257 : decode cX5_digest 257 = .ok (.goto (-22), 3) := by decide +kernel
theorem dX5_digest_260 : decode cX5_digest 260 = .ok (.aload_n 0, 1) := by decide +kernel
theorem dX5_digest_261 : decode cX5_digest 261 = .ok (.getfield 217, 3) := by decide +kernel
theorem dX5_digest_264 : decode cX5_digest 264 = .ok (.lreturn, 1) := by decide +kernel
theorem dJ6_bitCount_0f7a4_0 : decode cJ6_bitCount_0f7a4 0 = .ok (.iload_n 0, 1) := by decide +kernel
theorem dJ6_bitCount_0f7a4_1 : decode cJ6_bitCount_0f7a4 1 = .ok (.iload_n 0, 1) := by decide +kernel
theorem dJ6_bitCount_0f7a4_2 : decode cJ6_bitCount_0f7a4 2 = .ok (.iconst 1, 1) := by decide +kernel
theorem dJ6_bitCount_0f7a4_3 : decode cJ6_bitCount_0f7a4 3 = .ok (.iushr, 1) := by decide +kernel
theorem dJ6_bitCount_0f7a4_4 : decode cJ6_bitCount_0f7a4 4 = .ok (.ldc_w 265, 3) := by decide +kernel
theorem dJ6_bitCount_0f7a4_7 : decode cJ6_bitCount_0f7a4 7 = .ok (.iand, 1) := by decide +kernel
theorem dJ6_bitCount_0f7a4_8 : decode cJ6_bitCount_0f7a4 8 = .ok (.isub, 1) := by decide +kernel
theorem dJ6_bitCount_0f7a4_9 : decode cJ6_bitCount_0f7a4 9 = .ok (.istore_n 0, 1) := by decide +kernel
theorem dJ6_bitCount_0f7a4_10 : decode cJ6_bitCount_0f7a4 10 = .ok (.iload_n 0, 1) := by decide +kernel
theorem dJ6_bitCount_0f7a4_11 : decode cJ6_bitCount_0f7a4 11 = .ok (.ldc_w 266, 3) := by decide +kernel
theorem dJ6_bitCount_0f7a4_14 : decode cJ6_bitCount_0f7a4 14 = .ok (.iand, 1) := by decide +kernel
theorem dJ6_bitCount_0f7a4_15 : decode cJ6_bitCount_0f7a4 15 = .ok (.iload_n 0, 1) := by decide +kernel
theorem dJ6_bitCount_0f7a4_16 : decode cJ6_bitCount_0f7a4 16 = .ok (.iconst 2, 1) := by decide +kernel
theorem dJ6_bitCount_0f7a4_17 : decode cJ6_bitCount_0f7a4 17 = .ok (.iushr, 1) := by decide +kernel
theorem dJ6_bitCount_0f7a4_18 : decode cJ6_bitCount_0f7a4 18 = .ok (.ldc_w 266, 3) := by decide +kernel
theorem dJ6_bitCount_0f7a4_21 : decode cJ6_bitCount_0f7a4 21 = .ok (.iand, 1) := by decide +kernel
theorem dJ6_bitCount_0f7a4_22 : decode cJ6_bitCount_0f7a4 22 = .ok (.iadd, 1) := by decide +kernel
theorem dJ6_bitCount_0f7a4_23 : decode cJ6_bitCount_0f7a4 23 = .ok (.istore_n 0, 1) := by decide +kernel
theorem dJ6_bitCount_0f7a4_24 : decode cJ6_bitCount_0f7a4 24 = .ok (.iload_n 0, 1) := by decide +kernel
theorem dJ6_bitCount_0f7a4_25 : decode cJ6_bitCount_0f7a4 25 = .ok (.iload_n 0, 1) := by decide +kernel
theorem dJ6_bitCount_0f7a4_26 : decode cJ6_bitCount_0f7a4 26 = .ok (.iconst 4, 1) := by decide +kernel
theorem dJ6_bitCount_0f7a4_27 : decode cJ6_bitCount_0f7a4 27 = .ok (.iushr, 1) := by decide +kernel
theorem dJ6_bitCount_0f7a4_28 : decode cJ6_bitCount_0f7a4 28 = .ok (.iadd, 1) := by decide +kernel
theorem dJ6_bitCount_0f7a4_29 : decode cJ6_bitCount_0f7a4 29 = .ok (.ldc_w 267, 3) := by decide +kernel
theorem dJ6_bitCount_0f7a4_32 : decode cJ6_bitCount_0f7a4 32 = .ok (.iand, 1) := by decide +kernel
theorem dJ6_bitCount_0f7a4_33 : decode cJ6_bitCount_0f7a4 33 = .ok (.istore_n 0, 1) := by decide +kernel
theorem dJ6_bitCount_0f7a4_34 : decode cJ6_bitCount_0f7a4 34 = .ok (.iload_n 0, 1) := by decide +kernel
theorem dJ6_bitCount_0f7a4_35 : decode cJ6_bitCount_0f7a4 35 = .ok (.iload_n 0, 1) := by decide +kernel
theorem dJ6_bitCount_0f7a4_36 : decode cJ6_bitCount_0f7a4 36 = .ok (.bipush 8, 2) := by decide +kernel
theorem dJ6_bitCount_0f7a4_38 : decode cJ6_bitCount_0f7a4 38 = .ok (.iushr, 1) := by decide +kernel
theorem dJ6_bitCount_0f7a4_39 : decode cJ6_bitCount_0f7a4 39 = .ok (.iadd, 1) := by decide +kernel
theorem dJ6_bitCount_0f7a4_40 : decode cJ6_bitCount_0f7a4 40 = .ok (.istore_n 0, 1) := by decide +kernel
theorem dJ6_bitCount_0f7a4_41 : decode cJ6_bitCount_0f7a4 41 = .ok (.iload_n 0, 1) := by decide +kernel
theorem dJ6_bitCount_0f7a4_42 : decode cJ6_bitCount_0f7a4 42 = .ok (.iload_n 0, 1) := by decide +kernel
theorem dJ6_bitCount_0f7a4_43 : decode cJ6_bitCount_0f7a4 43 = .ok (.bipush 16, 2) := by decide +kernel
theorem dJ6_bitCount_0f7a4_45 : decode cJ6_bitCount_0f7a4 45 = .ok (.iushr, 1) := by decide +kernel
theorem dJ6_bitCount_0f7a4_46 : decode cJ6_bitCount_0f7a4 46 = .ok (.iadd, 1) := by decide +kernel
theorem dJ6_bitCount_0f7a4_47 : decode cJ6_bitCount_0f7a4 47 = .ok (.istore_n 0, 1) := by decide +kernel
theorem dJ6_bitCount_0f7a4_48 : decode cJ6_bitCount_0f7a4 48 = .ok (.iload_n 0, 1) := by decide +kernel
theorem dJ6_bitCount_0f7a4_49 : decode cJ6_bitCount_0f7a4 49 = .ok (.bipush 63, 2) := by decide +kernel
theorem dJ6_bitCount_0f7a4_51 : decode cJ6_bitCount_0f7a4 51 = .ok (.iand, 1) := by decide +kernel
theorem dJ6_bitCount_0f7a4_52 : decode cJ6_bitCount_0f7a4 52 = .ok (.ireturn, 1) := by decide +kernel
theorem dJ9_max_7cf53_0 : decode cJ9_max_7cf53 0 = .ok (.iload_n 0, 1) := by decide +kernel
theorem dJ9_max_7cf53_1 : decode cJ9_max_7cf53 1 = .ok (.iload_n 1, 1) := by decide +kernel
theorem dJ9_max_7cf53_2 : decode cJ9_max_7cf53 2 = .ok (.if_icmp .lt 7, 3) := by decide +kernel
theorem dJ9_max_7cf53_5 : decode cJ9_max_7cf53 5 = .ok (.iload_n 0, 1) := by decide +kernel
theorem dJ9_max_7cf53_6 : decode cJ9_max_7cf53 6 = .ok (.goto 4, 3) := by decide +kernel
theorem dJ9_max_7cf53_9 : decode cJ9_max_7cf53 9 = .ok (.iload_n 1, 1) := by decide +kernel
theorem dJ9_max_7cf53_10 : decode cJ9_max_7cf53 10 = .ok (.ireturn, 1) := by decide +kernel
theorem dJ9_min_7cf53_0 : decode cJ9_min_7cf53 0 = .ok (.iload_n 0, 1) := by decide +kernel
theorem dJ9_min_7cf53_1 : decode cJ9_min_7cf53 1 = .ok (.iload_n 1, 1) := by decide +kernel
theorem dJ9_min_7cf53_2 : decode cJ9_min_7cf53 2 = .ok (.if_icmp .gt 7, 3) := by decide +kernel
theorem dJ9_min_7cf53_5 : decode cJ9_min_7cf53 5 = .ok (.iload_n 0, 1) := by decide +kernel
theorem dJ9_min_7cf53_6 : decode cJ9_min_7cf53 6 = .ok (.goto 4, 3) := by decide +kernel
theorem dJ9_min_7cf53_9 : decode cJ9_min_7cf53 9 = .ok (.iload_n 1, 1) := by decide +kernel
theorem dJ9_min_7cf53_10 : decode cJ9_min_7cf53 10 = .ok (.ireturn, 1) := by decide +kernel
theorem dJ7_fill_53178_0 : decode cJ7_fill_53178 0 = .ok (.iconst 0, 1) := by decide +kernel
theorem dJ7_fill_53178_1 : decode cJ7_fill_53178 1 = .ok (.istore_n 2, 1) := by decide +kernel
theorem dJ7_fill_53178_2 : decode cJ7_fill_53178 2 = .ok (.aload_n 0, 1) := by decide +kernel
theorem dJ7_fill_53178_3 : decode cJ7_fill_53178 3 = .ok (.arraylength, 1) := by decide +kernel
theorem dJ7_fill_53178_4 : decode cJ7_fill_53178 4 = .ok (.istore_n 3, 1) := by decide +kernel
theorem dJ7_fill_53178_5 : decode cJ7_fill_53178 5 = .ok (.iload_n 2, 1) := by decide +kernel
theorem dJ7_fill_53178_6 : decode cJ7_fill_53178 6 = .ok (.iload_n 3, 1) := by decide +kernel
theorem dJ7_fill_53178_7 : decode cJ7_fill_53178 7 = .ok (.if_icmp .ge 13, 3) := by decide +kernel
theorem dJ7_fill_53178_10 : decode cJ7_fill_53178 10 = .ok (.aload_n 0, 1) := by decide +kernel
theorem dJ7_fill_53178_11 : decode cJ7_fill_53178 11 = .ok (.iload_n 2, 1) := by decide +kernel
theorem dJ7_fill_53178_12 : decode cJ7_fill_53178 12 = .ok (.iload_n 1, 1) := by decide +kernel
theorem dJ7_fill_53178_13 : decode cJ7_fill_53178 13 = .ok (.iastore, 1) := by decide +kernel
theorem dJ7_fill_53178_14 : decode cJ7_fill_53178 14 = .ok (.iinc 2 1, 3) := by decide +kernel
theorem dJ7_fill_53178_17 : decode cJ7_fill_53178 17 = .ok (.goto (-12), 3) := by decide +kernel
theorem dJ7_fill_53178_20 : decode cJ7_fill_53178 20 = .ok (.return_, 1) := by decide +kernel
theorem dL_gather_0 : decode cL_gather 0 = .ok (.aload_n 2, 1) := by decide +kernel
theorem dL_gather_1 : decode cL_gather 1 = .ok (.iconst 0, 1) := by decide +kernel
theorem dL_gather_2 : decode cL_gather 2 = .ok (.aload_n 0, 1) := by decide +kernel
theorem dL_gather_3 : decode cL_gather 3 = .ok (.iload_n 1, 1) := by decide +kernel
theorem dL_gather_4 : decode cL_gather 4 = .ok (.invokevirtual 7, 3) := by decide +kernel
theorem dL_gather_7 : decode cL_gather 7 = .ok (.i2l, 1) := by decide +kernel
theorem dL_gather_8 : decode cL_gather 8 = .ok (.lastore, 1) := by decide +kernel
theorem dL_gather_9 : decode cL_gather 9 = .ok (.goto 9, 3) := by decide +kernel
theorem dL_gather_12 : decode cL_gather 12 = .ok (.astore_n 3, 1) := by decide +kernel
theorem dL_gather_13 : decode cL_gather 13 = .ok (.iconst 1, 1) := by decide +kernel
theorem dL_gather_14 : decode cL_gather 14 = .ok (.ireturn, 1) := by decide +kernel
theorem dL_gather_15 : decode cL_gather 15 = .ok (.astore_n 3, 1) := by decide +kernel
theorem dL_gather_16 : decode cL_gather 16 = .ok (.iconst 2, 1) := by decide +kernel
theorem dL_gather_17 : decode cL_gather 17 = .ok (.ireturn, 1) := by decide +kernel
theorem dL_gather_18 : decode cL_gather 18 = .ok (.iconst 0, 1) := by decide +kernel
theorem dL_gather_19 : decode cL_gather 19 = .ok (.ireturn, 1) := by decide +kernel
theorem dL_insert_0 : decode cL_insert 0 = .ok (.aload_n 3, 1) := by decide +kernel
theorem dL_insert_1 : decode cL_insert 1 = .ok (.iconst 0, 1) := by decide +kernel
theorem dL_insert_2 : decode cL_insert 2 = .ok (.aload_n 0, 1) := by decide +kernel
theorem dL_insert_3 : decode cL_insert 3 = .ok (.iload_n 1, 1) := by decide +kernel
theorem dL_insert_4 : decode cL_insert 4 = .ok (.iload_n 2, 1) := by decide +kernel
theorem dL_insert_5 : decode cL_insert 5 = .ok (.invokevirtual 17, 3) := by decide +kernel
theorem dL_insert_8 : decode cL_insert 8 = .ok (.i2l, 1) := by decide +kernel
theorem dL_insert_9 : decode cL_insert 9 = .ok (.lastore, 1) := by decide +kernel
theorem dL_insert_10 : decode cL_insert 10 = .ok (.goto 11, 3) := by decide +kernel
theorem dL_insert_13 : decode cL_insert 13 = .ok (.astore 4, 2) := by decide +kernel
theorem dL_insert_15 : decode cL_insert 15 = .ok (.iconst 1, 1) := by decide +kernel
theorem dL_insert_16 : decode cL_insert 16 = .ok (.ireturn, 1) := by decide +kernel
theorem dL_insert_17 : decode cL_insert 17 = .ok (.astore 4, 2) := by decide +kernel
theorem dL_insert_19 : decode cL_insert 19 = .ok (.iconst 2, 1) := by decide +kernel
theorem dL_insert_20 : decode cL_insert 20 = .ok (.ireturn, 1) := by decide +kernel
theorem dL_insert_21 : decode cL_insert 21 = .ok (.iconst 0, 1) := by decide +kernel
theorem dL_insert_22 : decode cL_insert 22 = .ok (.ireturn, 1) := by decide +kernel
theorem dL_pull_0 : decode cL_pull 0 = .ok (.aload_n 2, 1) := by decide +kernel
theorem dL_pull_1 : decode cL_pull 1 = .ok (.iconst 0, 1) := by decide +kernel
theorem dL_pull_2 : decode cL_pull 2 = .ok (.aload_n 0, 1) := by decide +kernel
theorem dL_pull_3 : decode cL_pull 3 = .ok (.iload_n 1, 1) := by decide +kernel
theorem dL_pull_4 : decode cL_pull 4 = .ok (.invokevirtual 21, 3) := by decide +kernel
theorem dL_pull_7 : decode cL_pull 7 = .ok (.i2l, 1) := by decide +kernel
theorem dL_pull_8 : decode cL_pull 8 = .ok (.lastore, 1) := by decide +kernel
theorem dL_pull_9 : decode cL_pull 9 = .ok (.goto 6, 3) := by decide +kernel
theorem dL_pull_12 : decode cL_pull 12 = .ok (.astore_n 3, 1) := by decide +kernel
theorem dL_pull_13 : decode cL_pull 13 = .ok (.iconst 1, 1) := by decide +kernel
theorem dL_pull_14 : decode cL_pull 14 = .ok (.ireturn, 1) := by decide +kernel
theorem dL_pull_15 : decode cL_pull 15 = .ok (.iconst 0, 1) := by decide +kernel
theorem dL_pull_16 : decode cL_pull 16 = .ok (.ireturn, 1) := by decide +kernel
theorem dL_flip_0 : decode cL_flip 0 = .ok (.aload_n 2, 1) := by decide +kernel
theorem dL_flip_1 : decode cL_flip 1 = .ok (.iconst 0, 1) := by decide +kernel
theorem dL_flip_2 : decode cL_flip 2 = .ok (.aload_n 0, 1) := by decide +kernel
theorem dL_flip_3 : decode cL_flip 3 = .ok (.iload_n 1, 1) := by decide +kernel
theorem dL_flip_4 : decode cL_flip 4 = .ok (.invokevirtual 24, 3) := by decide +kernel
theorem dL_flip_7 : decode cL_flip 7 = .ok (.i2l, 1) := by decide +kernel
theorem dL_flip_8 : decode cL_flip 8 = .ok (.lastore, 1) := by decide +kernel
theorem dL_flip_9 : decode cL_flip 9 = .ok (.goto 6, 3) := by decide +kernel
theorem dL_flip_12 : decode cL_flip 12 = .ok (.astore_n 3, 1) := by decide +kernel
theorem dL_flip_13 : decode cL_flip 13 = .ok (.iconst 1, 1) := by decide +kernel
theorem dL_flip_14 : decode cL_flip 14 = .ok (.ireturn, 1) := by decide +kernel
theorem dL_flip_15 : decode cL_flip 15 = .ok (.iconst 0, 1) := by decide +kernel
theorem dL_flip_16 : decode cL_flip 16 = .ok (.ireturn, 1) := by decide +kernel
theorem dL_move_0 : decode cL_move 0 = .ok (.aload_n 3, 1) := by decide +kernel
theorem dL_move_1 : decode cL_move 1 = .ok (.iconst 0, 1) := by decide +kernel
theorem dL_move_2 : decode cL_move 2 = .ok (.aload_n 0, 1) := by decide +kernel
theorem dL_move_3 : decode cL_move 3 = .ok (.iload_n 1, 1) := by decide +kernel
theorem dL_move_4 : decode cL_move 4 = .ok (.iload_n 2, 1) := by decide +kernel
theorem dL_move_5 : decode cL_move 5 = .ok (.invokevirtual 27, 3) := by decide +kernel
theorem dL_move_8 : decode cL_move 8 = .ok (.i2l, 1) := by decide +kernel
theorem dL_move_9 : decode cL_move 9 = .ok (.lastore, 1) := by decide +kernel
theorem dL_move_10 : decode cL_move 10 = .ok (.goto 7, 3) := by decide +kernel
theorem dL_move_13 : decode cL_move 13 = .ok (.astore 4, 2) := by decide +kernel
theorem dL_move_15 : decode cL_move 15 = .ok (.iconst 1, 1) := by decide +kernel
theorem dL_move_16 : decode cL_move 16 = .ok (.ireturn, 1) := by decide +kernel
theorem dL_move_17 : decode cL_move 17 = .ok (.iconst 0, 1) := by decide +kernel
theorem dL_move_18 : decode cL_move 18 = .ok (.ireturn, 1) := by decide +kernel
theorem dL_bind_0 : decode cL_bind 0 = .ok (.aload_n 1, 1) := by decide +kernel
theorem dL_bind_1 : decode cL_bind 1 = .ok (.iconst 0, 1) := by decide +kernel
theorem dL_bind_2 : decode cL_bind 2 = .ok (.aload_n 0, 1) := by decide +kernel
theorem dL_bind_3 : decode cL_bind 3 = .ok (.invokevirtual 30, 3) := by decide +kernel
theorem dL_bind_6 : decode cL_bind 6 = .ok (.i2l, 1) := by decide +kernel
theorem dL_bind_7 : decode cL_bind 7 = .ok (.lastore, 1) := by decide +kernel
theorem dL_bind_8 : decode cL_bind 8 = .ok (.goto 6, 3) := by decide +kernel
theorem dL_bind_11 : decode cL_bind 11 = .ok (.astore_n 2, 1) := by decide +kernel
theorem dL_bind_12 : decode cL_bind 12 = .ok (.iconst 1, 1) := by decide +kernel
theorem dL_bind_13 : decode cL_bind 13 = .ok (.ireturn, 1) := by decide +kernel
theorem dL_bind_14 : decode cL_bind 14 = .ok (.iconst 0, 1) := by decide +kernel
theorem dL_bind_15 : decode cL_bind 15 = .ok (.ireturn, 1) := by decide +kernel
theorem dL_print_0 : decode cL_print 0 = .ok (.aload_n 3, 1) := by decide +kernel
theorem dL_print_1 : decode cL_print 1 = .ok (.iconst 0, 1) := by decide +kernel
theorem dL_print_2 : decode cL_print 2 = .ok (.aload_n 0, 1) := by decide +kernel
theorem dL_print_3 : decode cL_print 3 = .ok (.iload_n 1, 1) := by decide +kernel
theorem dL_print_4 : decode cL_print 4 = .ok (.iload_n 2, 1) := by decide +kernel
theorem dL_print_5 : decode cL_print 5 = .ok (.invokevirtual 34, 3) := by decide +kernel
theorem dL_print_8 : decode cL_print 8 = .ok (.i2l, 1) := by decide +kernel
theorem dL_print_9 : decode cL_print 9 = .ok (.lastore, 1) := by decide +kernel
theorem dL_print_10 : decode cL_print 10 = .ok (.goto 15, 3) := by decide +kernel
theorem dL_print_13 : decode cL_print 13 = .ok (.astore 4, 2) := by decide +kernel
theorem dL_print_15 : decode cL_print 15 = .ok (.iconst 1, 1) := by decide +kernel
theorem dL_print_16 : decode cL_print 16 = .ok (.ireturn, 1) := by decide +kernel
theorem dL_print_17 : decode cL_print 17 = .ok (.astore 4, 2) := by decide +kernel
theorem dL_print_19 : decode cL_print 19 = .ok (.iconst 2, 1) := by decide +kernel
theorem dL_print_20 : decode cL_print 20 = .ok (.ireturn, 1) := by decide +kernel
theorem dL_print_21 : decode cL_print 21 = .ok (.astore 4, 2) := by decide +kernel
theorem dL_print_23 : decode cL_print 23 = .ok (.iconst 3, 1) := by decide +kernel
theorem dL_print_24 : decode cL_print 24 = .ok (.ireturn, 1) := by decide +kernel
theorem dL_print_25 : decode cL_print 25 = .ok (.iconst 0, 1) := by decide +kernel
theorem dL_print_26 : decode cL_print 26 = .ok (.ireturn, 1) := by decide +kernel
theorem dL_punch_0 : decode cL_punch 0 = .ok (.aload_n 3, 1) := by decide +kernel
theorem dL_punch_1 : decode cL_punch 1 = .ok (.iconst 0, 1) := by decide +kernel
theorem dL_punch_2 : decode cL_punch 2 = .ok (.aload_n 0, 1) := by decide +kernel
theorem dL_punch_3 : decode cL_punch 3 = .ok (.iload_n 1, 1) := by decide +kernel
theorem dL_punch_4 : decode cL_punch 4 = .ok (.iload_n 2, 1) := by decide +kernel
theorem dL_punch_5 : decode cL_punch 5 = .ok (.invokevirtual 39, 3) := by decide +kernel
theorem dL_punch_8 : decode cL_punch 8 = .ok (.i2l, 1) := by decide +kernel
theorem dL_punch_9 : decode cL_punch 9 = .ok (.lastore, 1) := by decide +kernel
theorem dL_punch_10 : decode cL_punch 10 = .ok (.goto 11, 3) := by decide +kernel
theorem dL_punch_13 : decode cL_punch 13 = .ok (.astore 4, 2) := by decide +kernel
theorem dL_punch_15 : decode cL_punch 15 = .ok (.iconst 1, 1) := by decide +kernel
theorem dL_punch_16 : decode cL_punch 16 = .ok (.ireturn, 1) := by decide +kernel
theorem dL_punch_17 : decode cL_punch 17 = .ok (.astore 4, 2) := by decide +kernel
theorem dL_punch_19 : decode cL_punch 19 = .ok (.iconst 2, 1) := by decide +kernel
theorem dL_punch_20 : decode cL_punch 20 = .ok (.ireturn, 1) := by decide +kernel
theorem dL_punch_21 : decode cL_punch 21 = .ok (.iconst 0, 1) := by decide +kernel
theorem dL_punch_22 : decode cL_punch 22 = .ok (.ireturn, 1) := by decide +kernel
theorem dL_set_0 : decode cL_set 0 = .ok (.aload_n 3, 1) := by decide +kernel
theorem dL_set_1 : decode cL_set 1 = .ok (.iconst 0, 1) := by decide +kernel
theorem dL_set_2 : decode cL_set 2 = .ok (.aload_n 0, 1) := by decide +kernel
theorem dL_set_3 : decode cL_set 3 = .ok (.iload_n 1, 1) := by decide +kernel
theorem dL_set_4 : decode cL_set 4 = .ok (.iload_n 2, 1) := by decide +kernel
theorem dL_set_5 : decode cL_set 5 = .ok (.invokevirtual 42, 3) := by decide +kernel
theorem dL_set_8 : decode cL_set 8 = .ok (.i2l, 1) := by decide +kernel
theorem dL_set_9 : decode cL_set 9 = .ok (.lastore, 1) := by decide +kernel
theorem dL_set_10 : decode cL_set 10 = .ok (.goto 11, 3) := by decide +kernel
theorem dL_set_13 : decode cL_set 13 = .ok (.astore 4, 2) := by decide +kernel
theorem dL_set_15 : decode cL_set 15 = .ok (.iconst 1, 1) := by decide +kernel
theorem dL_set_16 : decode cL_set 16 = .ok (.ireturn, 1) := by decide +kernel
theorem dL_set_17 : decode cL_set 17 = .ok (.astore 4, 2) := by decide +kernel
theorem dL_set_19 : decode cL_set 19 = .ok (.iconst 2, 1) := by decide +kernel
theorem dL_set_20 : decode cL_set 20 = .ok (.ireturn, 1) := by decide +kernel
theorem dL_set_21 : decode cL_set 21 = .ok (.iconst 0, 1) := by decide +kernel
theorem dL_set_22 : decode cL_set 22 = .ok (.ireturn, 1) := by decide +kernel
theorem dL_append_0 : decode cL_append 0 = .ok (.aload_n 2, 1) := by decide +kernel
theorem dL_append_1 : decode cL_append 1 = .ok (.iconst 0, 1) := by decide +kernel
theorem dL_append_2 : decode cL_append 2 = .ok (.aload_n 0, 1) := by decide +kernel
theorem dL_append_3 : decode cL_append 3 = .ok (.iload_n 1, 1) := by decide +kernel
theorem dL_append_4 : decode cL_append 4 = .ok (.invokevirtual 45, 3) := by decide +kernel
theorem dL_append_7 : decode cL_append 7 = .ok (.i2l, 1) := by decide +kernel
theorem dL_append_8 : decode cL_append 8 = .ok (.lastore, 1) := by decide +kernel
theorem dL_append_9 : decode cL_append 9 = .ok (.goto 9, 3) := by decide +kernel
theorem dL_append_12 : decode cL_append 12 = .ok (.astore_n 3, 1) := by decide +kernel
theorem dL_append_13 : decode cL_append 13 = .ok (.iconst 1, 1) := by decide +kernel
theorem dL_append_14 : decode cL_append 14 = .ok (.ireturn, 1) := by decide +kernel
theorem dL_append_15 : decode cL_append 15 = .ok (.astore_n 3, 1) := by decide +kernel
theorem dL_append_16 : decode cL_append 16 = .ok (.iconst 2, 1) := by decide +kernel
theorem dL_append_17 : decode cL_append 17 = .ok (.ireturn, 1) := by decide +kernel
theorem dL_append_18 : decode cL_append 18 = .ok (.iconst 0, 1) := by decide +kernel
theorem dL_append_19 : decode cL_append 19 = .ok (.ireturn, 1) := by decide +kernel
theorem dL_work_0 : decode cL_work 0 = .ok (.aload_n 1, 1) := by decide +kernel
theorem dL_work_1 : decode cL_work 1 = .ok (.iconst 0, 1) := by decide +kernel
theorem dL_work_2 : decode cL_work 2 = .ok (.aload_n 0, 1) := by decide +kernel
theorem dL_work_3 : decode cL_work 3 = .ok (.invokevirtual 48, 3) := by decide +kernel
theorem dL_work_6 : decode cL_work 6 = .ok (.i2l, 1) := by decide +kernel
theorem dL_work_7 : decode cL_work 7 = .ok (.lastore, 1) := by decide +kernel
theorem dL_work_8 : decode cL_work 8 = .ok (.goto 6, 3) := by decide +kernel
theorem dL_work_11 : decode cL_work 11 = .ok (.astore_n 2, 1) := by decide +kernel
theorem dL_work_12 : decode cL_work 12 = .ok (.iconst 1, 1) := by decide +kernel
theorem dL_work_13 : decode cL_work 13 = .ok (.ireturn, 1) := by decide +kernel
theorem dL_work_14 : decode cL_work 14 = .ok (.iconst 0, 1) := by decide +kernel
theorem dL_work_15 : decode cL_work 15 = .ok (.ireturn, 1) := by decide +kernel
theorem dL_goBack_0 : decode cL_goBack 0 = .ok (.aload_n 1, 1) := by decide +kernel
theorem dL_goBack_1 : decode cL_goBack 1 = .ok (.iconst 0, 1) := by decide +kernel
theorem dL_goBack_2 : decode cL_goBack 2 = .ok (.aload_n 0, 1) := by decide +kernel
theorem dL_goBack_3 : decode cL_goBack 3 = .ok (.invokevirtual 51, 3) := by decide +kernel
theorem dL_goBack_6 : decode cL_goBack 6 = .ok (.i2l, 1) := by decide +kernel
theorem dL_goBack_7 : decode cL_goBack 7 = .ok (.lastore, 1) := by decide +kernel
theorem dL_goBack_8 : decode cL_goBack 8 = .ok (.goto 6, 3) := by decide +kernel
theorem dL_goBack_11 : decode cL_goBack 11 = .ok (.astore_n 2, 1) := by decide +kernel
theorem dL_goBack_12 : decode cL_goBack 12 = .ok (.iconst 1, 1) := by decide +kernel
theorem dL_goBack_13 : decode cL_goBack 13 = .ok (.ireturn, 1) := by decide +kernel
theorem dL_goBack_14 : decode cL_goBack 14 = .ok (.iconst 0, 1) := by decide +kernel
theorem dL_goBack_15 : decode cL_goBack 15 = .ok (.ireturn, 1) := by decide +kernel
theorem dL_undo_0 : decode cL_undo 0 = .ok (.aload_n 1, 1) := by decide +kernel
theorem dL_undo_1 : decode cL_undo 1 = .ok (.iconst 0, 1) := by decide +kernel
theorem dL_undo_2 : decode cL_undo 2 = .ok (.aload_n 0, 1) := by decide +kernel
theorem dL_undo_3 : decode cL_undo 3 = .ok (.invokevirtual 54, 3) := by decide +kernel
theorem dL_undo_6 : decode cL_undo 6 = .ok (.i2l, 1) := by decide +kernel
theorem dL_undo_7 : decode cL_undo 7 = .ok (.lastore, 1) := by decide +kernel
theorem dL_undo_8 : decode cL_undo 8 = .ok (.goto 6, 3) := by decide +kernel
theorem dL_undo_11 : decode cL_undo 11 = .ok (.astore_n 2, 1) := by decide +kernel
theorem dL_undo_12 : decode cL_undo 12 = .ok (.iconst 1, 1) := by decide +kernel
theorem dL_undo_13 : decode cL_undo 13 = .ok (.ireturn, 1) := by decide +kernel
theorem dL_undo_14 : decode cL_undo 14 = .ok (.iconst 0, 1) := by decide +kernel
theorem dL_undo_15 : decode cL_undo 15 = .ok (.ireturn, 1) := by decide +kernel
theorem dL_sheet_0 : decode cL_sheet 0 = .ok (.aload_n 3, 1) := by decide +kernel
theorem dL_sheet_1 : decode cL_sheet 1 = .ok (.iconst 0, 1) := by decide +kernel
theorem dL_sheet_2 : decode cL_sheet 2 = .ok (.aload_n 0, 1) := by decide +kernel
theorem dL_sheet_3 : decode cL_sheet 3 = .ok (.iload_n 1, 1) := by decide +kernel
theorem dL_sheet_4 : decode cL_sheet 4 = .ok (.iload_n 2, 1) := by decide +kernel
theorem dL_sheet_5 : decode cL_sheet 5 = .ok (.invokevirtual 57, 3) := by decide +kernel
theorem dL_sheet_8 : decode cL_sheet 8 = .ok (.i2l, 1) := by decide +kernel
theorem dL_sheet_9 : decode cL_sheet 9 = .ok (.lastore, 1) := by decide +kernel
theorem dL_sheet_10 : decode cL_sheet 10 = .ok (.goto 11, 3) := by decide +kernel
theorem dL_sheet_13 : decode cL_sheet 13 = .ok (.astore 4, 2) := by decide +kernel
theorem dL_sheet_15 : decode cL_sheet 15 = .ok (.iconst 1, 1) := by decide +kernel
theorem dL_sheet_16 : decode cL_sheet 16 = .ok (.ireturn, 1) := by decide +kernel
theorem dL_sheet_17 : decode cL_sheet 17 = .ok (.astore 4, 2) := by decide +kernel
theorem dL_sheet_19 : decode cL_sheet 19 = .ok (.iconst 2, 1) := by decide +kernel
theorem dL_sheet_20 : decode cL_sheet 20 = .ok (.ireturn, 1) := by decide +kernel
theorem dL_sheet_21 : decode cL_sheet 21 = .ok (.iconst 0, 1) := by decide +kernel
theorem dL_sheet_22 : decode cL_sheet 22 = .ok (.ireturn, 1) := by decide +kernel
theorem dL_bin_0 : decode cL_bin 0 = .ok (.aload_n 3, 1) := by decide +kernel
theorem dL_bin_1 : decode cL_bin 1 = .ok (.iconst 0, 1) := by decide +kernel
theorem dL_bin_2 : decode cL_bin 2 = .ok (.aload_n 0, 1) := by decide +kernel
theorem dL_bin_3 : decode cL_bin 3 = .ok (.iload_n 1, 1) := by decide +kernel
theorem dL_bin_4 : decode cL_bin 4 = .ok (.iload_n 2, 1) := by decide +kernel
theorem dL_bin_5 : decode cL_bin 5 = .ok (.invokevirtual 60, 3) := by decide +kernel
theorem dL_bin_8 : decode cL_bin 8 = .ok (.i2l, 1) := by decide +kernel
theorem dL_bin_9 : decode cL_bin 9 = .ok (.lastore, 1) := by decide +kernel
theorem dL_bin_10 : decode cL_bin 10 = .ok (.goto 11, 3) := by decide +kernel
theorem dL_bin_13 : decode cL_bin 13 = .ok (.astore 4, 2) := by decide +kernel
theorem dL_bin_15 : decode cL_bin 15 = .ok (.iconst 1, 1) := by decide +kernel
theorem dL_bin_16 : decode cL_bin 16 = .ok (.ireturn, 1) := by decide +kernel
theorem dL_bin_17 : decode cL_bin 17 = .ok (.astore 4, 2) := by decide +kernel
theorem dL_bin_19 : decode cL_bin 19 = .ok (.iconst 2, 1) := by decide +kernel
theorem dL_bin_20 : decode cL_bin 20 = .ok (.ireturn, 1) := by decide +kernel
theorem dL_bin_21 : decode cL_bin 21 = .ok (.iconst 0, 1) := by decide +kernel
theorem dL_bin_22 : decode cL_bin 22 = .ok (.ireturn, 1) := by decide +kernel
theorem dL_count_0 : decode cL_count 0 = .ok (.aload_n 2, 1) := by decide +kernel
theorem dL_count_1 : decode cL_count 1 = .ok (.iconst 0, 1) := by decide +kernel
theorem dL_count_2 : decode cL_count 2 = .ok (.aload_n 0, 1) := by decide +kernel
theorem dL_count_3 : decode cL_count 3 = .ok (.iload_n 1, 1) := by decide +kernel
theorem dL_count_4 : decode cL_count 4 = .ok (.invokevirtual 63, 3) := by decide +kernel
theorem dL_count_7 : decode cL_count 7 = .ok (.i2l, 1) := by decide +kernel
theorem dL_count_8 : decode cL_count 8 = .ok (.lastore, 1) := by decide +kernel
theorem dL_count_9 : decode cL_count 9 = .ok (.goto 6, 3) := by decide +kernel
theorem dL_count_12 : decode cL_count 12 = .ok (.astore_n 3, 1) := by decide +kernel
theorem dL_count_13 : decode cL_count 13 = .ok (.iconst 1, 1) := by decide +kernel
theorem dL_count_14 : decode cL_count 14 = .ok (.ireturn, 1) := by decide +kernel
theorem dL_count_15 : decode cL_count 15 = .ok (.iconst 0, 1) := by decide +kernel
theorem dL_count_16 : decode cL_count 16 = .ok (.ireturn, 1) := by decide +kernel
theorem dL_setting_0 : decode cL_setting 0 = .ok (.aload_n 2, 1) := by decide +kernel
theorem dL_setting_1 : decode cL_setting 1 = .ok (.iconst 0, 1) := by decide +kernel
theorem dL_setting_2 : decode cL_setting 2 = .ok (.aload_n 0, 1) := by decide +kernel
theorem dL_setting_3 : decode cL_setting 3 = .ok (.iload_n 1, 1) := by decide +kernel
theorem dL_setting_4 : decode cL_setting 4 = .ok (.invokevirtual 66, 3) := by decide +kernel
theorem dL_setting_7 : decode cL_setting 7 = .ok (.i2l, 1) := by decide +kernel
theorem dL_setting_8 : decode cL_setting 8 = .ok (.lastore, 1) := by decide +kernel
theorem dL_setting_9 : decode cL_setting 9 = .ok (.goto 6, 3) := by decide +kernel
theorem dL_setting_12 : decode cL_setting 12 = .ok (.astore_n 3, 1) := by decide +kernel
theorem dL_setting_13 : decode cL_setting 13 = .ok (.iconst 1, 1) := by decide +kernel
theorem dL_setting_14 : decode cL_setting 14 = .ok (.ireturn, 1) := by decide +kernel
theorem dL_setting_15 : decode cL_setting 15 = .ok (.iconst 0, 1) := by decide +kernel
theorem dL_setting_16 : decode cL_setting 16 = .ok (.ireturn, 1) := by decide +kernel
theorem dL_ifPulled_0 : decode cL_ifPulled 0 = .ok (.aload_n 3, 1) := by decide +kernel
theorem dL_ifPulled_1 : decode cL_ifPulled 1 = .ok (.iconst 0, 1) := by decide +kernel
theorem dL_ifPulled_2 : decode cL_ifPulled 2 = .ok (.aload_n 0, 1) := by decide +kernel
theorem dL_ifPulled_3 : decode cL_ifPulled 3 = .ok (.iload_n 1, 1) := by decide +kernel
theorem dL_ifPulled_4 : decode cL_ifPulled 4 = .ok (.iload_n 2, 1) := by decide +kernel
theorem dL_ifPulled_5 : decode cL_ifPulled 5 = .ok (.invokevirtual 69, 3) := by decide +kernel
theorem dL_ifPulled_8 : decode cL_ifPulled 8 = .ok (.i2l, 1) := by decide +kernel
theorem dL_ifPulled_9 : decode cL_ifPulled 9 = .ok (.lastore, 1) := by decide +kernel
theorem dL_ifPulled_10 : decode cL_ifPulled 10 = .ok (.goto 11, 3) := by decide +kernel
theorem dL_ifPulled_13 : decode cL_ifPulled 13 = .ok (.astore 4, 2) := by decide +kernel
theorem dL_ifPulled_15 : decode cL_ifPulled 15 = .ok (.iconst 1, 1) := by decide +kernel
theorem dL_ifPulled_16 : decode cL_ifPulled 16 = .ok (.ireturn, 1) := by decide +kernel
theorem dL_ifPulled_17 : decode cL_ifPulled 17 = .ok (.astore 4, 2) := by decide +kernel
theorem dL_ifPulled_19 : decode cL_ifPulled 19 = .ok (.iconst 2, 1) := by decide +kernel
theorem dL_ifPulled_20 : decode cL_ifPulled 20 = .ok (.ireturn, 1) := by decide +kernel
theorem dL_ifPulled_21 : decode cL_ifPulled 21 = .ok (.iconst 0, 1) := by decide +kernel
theorem dL_ifPulled_22 : decode cL_ifPulled 22 = .ok (.ireturn, 1) := by decide +kernel
theorem dL_law_0 : decode cL_law 0 = .ok (.new 8, 3) := by decide +kernel
theorem dL_law_3 : decode cL_law 3 = .ok (.dup, 1) := by decide +kernel
theorem dL_law_4 : decode cL_law 4 = .ok (.invokespecial 72, 3) := by decide +kernel
theorem dL_law_7 : decode cL_law 7 = .ok (.astore_n 1, 1) := by decide +kernel
theorem dL_law_8 : decode cL_law 8 = .ok (.new 73, 3) := by decide +kernel
theorem dL_law_11 : decode cL_law 11 = .ok (.dup, 1) := by decide +kernel
theorem dL_law_12 : decode cL_law 12 = .ok (.invokespecial 75, 3) := by decide +kernel
theorem dL_law_15 : decode cL_law 15 = .ok (.astore_n 2, 1) := by decide +kernel
theorem dL_law_16 : decode cL_law 16 = .ok (.iconst 1, 1) := by decide +kernel
theorem dL_law_17 : decode cL_law 17 = .ok (.newarray .long, 2) := by decide +kernel
theorem dL_law_19 : decode cL_law 19 = .ok (.astore_n 3, 1) := by decide +kernel
theorem dL_law_20 : decode cL_law 20 = .ok (.iconst 0, 1) := by decide +kernel
theorem dL_law_21 : decode cL_law 21 = .ok (.istore 4, 2) := by decide +kernel
theorem dL_law_23 : decode cL_law 23 = .ok (.iload 4, 2) := by decide +kernel
theorem dL_law_25 : decode cL_law 25 = .ok (.aload_n 0, 1) := by decide +kernel
theorem dL_law_26 : decode cL_law 26 = .ok (.arraylength, 1) := by decide +kernel
theorem dL_law_27 : decode cL_law 27 = .ok (.iconst 3, 1) := by decide +kernel
theorem dL_law_28 : decode cL_law 28 = .ok (.isub, 1) := by decide +kernel
theorem dL_law_29 : decode cL_law 29 = .ok (.if_icmp .gt 1369, 3) := by decide +kernel
theorem dL_law_32 : decode cL_law 32 = .ok (.aload_n 0, 1) := by decide +kernel
theorem dL_law_33 : decode cL_law 33 = .ok (.iload 4, 2) := by decide +kernel
theorem dL_law_35 : decode cL_law 35 = .ok (.iaload, 1) := by decide +kernel
theorem dL_law_36 : decode cL_law 36 = .ok (.bipush 31, 2) := by decide +kernel
theorem dL_law_38 : decode cL_law 38 = .ok (.iand, 1) := by decide +kernel
theorem dL_law_39 : decode cL_law 39 = .ok (.tableswitch 1353 0 26 #[121, 177, 245, 301, 357, 425, 469, 537, 605, 673, 729, 742, 755, 799, 812, 856, 900, 968, 1036, 1092, 1148, 1161, 1229, 1242, 1255, 1296, 1339], 121) := by decide +kernel
theorem dL_law_160 : decode cL_law 160 = .ok (.aload_n 1, 1) := by decide +kernel
theorem dL_law_161 : decode cL_law 161 = .ok (.aload_n 0, 1) := by decide +kernel
theorem dL_law_162 : decode cL_law 162 = .ok (.iload 4, 2) := by decide +kernel
theorem dL_law_164 : decode cL_law 164 = .ok (.iconst 1, 1) := by decide +kernel
theorem dL_law_165 : decode cL_law 165 = .ok (.iadd, 1) := by decide +kernel
theorem dL_law_166 : decode cL_law 166 = .ok (.iaload, 1) := by decide +kernel
theorem dL_law_167 : decode cL_law 167 = .ok (.aload_n 3, 1) := by decide +kernel
theorem dL_law_168 : decode cL_law 168 = .ok (.invokestatic 76, 3) := by decide +kernel
theorem dL_law_171 : decode cL_law 171 = .ok (.istore 5, 2) := by decide +kernel
theorem dL_law_173 : decode cL_law 173 = .ok (.aload_n 2, 1) := by decide +kernel
theorem dL_law_174 : decode cL_law 174 = .ok (.aload_n 0, 1) := by decide +kernel
theorem dL_law_175 : decode cL_law 175 = .ok (.iload 4, 2) := by decide +kernel
theorem dL_law_177 : decode cL_law 177 = .ok (.iconst 1, 1) := by decide +kernel
theorem dL_law_178 : decode cL_law 178 = .ok (.iadd, 1) := by decide +kernel
theorem dL_law_179 : decode cL_law 179 = .ok (.iaload, 1) := by decide +kernel
theorem dL_law_180 : decode cL_law 180 = .ok (.invokevirtual 81, 3) := by decide +kernel
theorem dL_law_183 : decode cL_law 183 = .ok (.istore 6, 2) := by decide +kernel
theorem dL_law_185 : decode cL_law 185 = .ok (.aload_n 2, 1) := by decide +kernel
theorem dL_law_186 : decode cL_law 186 = .ok (.invokevirtual 82, 3) := by decide +kernel
theorem dL_law_189 : decode cL_law 189 = .ok (.iload 5, 2) := by decide +kernel
theorem dL_law_191 : decode cL_law 191 = .ok (.if_icmp .eq 5, 3) := by decide +kernel
theorem dL_law_194 : decode cL_law 194 = .ok (.iconst 0, 1) := by decide +kernel
theorem dL_law_195 : decode cL_law 195 = .ok (.ireturn, 1) := by decide +kernel
theorem dL_law_196 : decode cL_law 196 = .ok (.iload 5, 2) := by decide +kernel
theorem dL_law_198 : decode cL_law 198 = .ok (.ifCond .ne 15, 3) := by decide +kernel
theorem dL_law_201 : decode cL_law 201 = .ok (.aload_n 3, 1) := by decide +kernel
theorem dL_law_202 : decode cL_law 202 = .ok (.iconst 0, 1) := by decide +kernel
theorem dL_law_203 : decode cL_law 203 = .ok (.laload, 1) := by decide +kernel
theorem dL_law_204 : decode cL_law 204 = .ok (.iload 6, 2) := by decide +kernel
theorem dL_law_206 : decode cL_law 206 = .ok (.i2l, 1) := by decide +kernel
theorem dL_law_207 : decode cL_law 207 = .ok (.lcmp, 1) := by decide +kernel
theorem dL_law_208 : decode cL_law 208 = .ok (.ifCond .eq 5, 3) := by decide +kernel
theorem dL_law_211 : decode cL_law 211 = .ok (.iconst 0, 1) := by decide +kernel
theorem dL_law_212 : decode cL_law 212 = .ok (.ireturn, 1) := by decide +kernel
theorem dL_law_213 : decode cL_law 213 = .ok (.goto 1179, 3) := by decide +kernel
theorem dL_law_216 : decode cL_law 216 = .ok (.aload_n 1, 1) := by decide +kernel
theorem dL_law_217 : decode cL_law 217 = .ok (.aload_n 0, 1) := by decide +kernel
theorem dL_law_218 : decode cL_law 218 = .ok (.iload 4, 2) := by decide +kernel
theorem dL_law_220 : decode cL_law 220 = .ok (.iconst 1, 1) := by decide +kernel
theorem dL_law_221 : decode cL_law 221 = .ok (.iadd, 1) := by decide +kernel
theorem dL_law_222 : decode cL_law 222 = .ok (.iaload, 1) := by decide +kernel
theorem dL_law_223 : decode cL_law 223 = .ok (.aload_n 0, 1) := by decide +kernel
theorem dL_law_224 : decode cL_law 224 = .ok (.iload 4, 2) := by decide +kernel
theorem dL_law_226 : decode cL_law 226 = .ok (.iconst 2, 1) := by decide +kernel
theorem dL_law_227 : decode cL_law 227 = .ok (.iadd, 1) := by decide +kernel
theorem dL_law_228 : decode cL_law 228 = .ok (.iaload, 1) := by decide +kernel
theorem dL_law_229 : decode cL_law 229 = .ok (.aload_n 3, 1) := by decide +kernel
theorem dL_law_230 : decode cL_law 230 = .ok (.invokestatic 85, 3) := by decide +kernel
theorem dL_law_233 : decode cL_law 233 = .ok (.istore 5, 2) := by decide +kernel
theorem dL_law_235 : decode cL_law 235 = .ok (.aload_n 2, 1) := by decide +kernel
theorem dL_law_236 : decode cL_law 236 = .ok (.aload_n 0, 1) := by decide +kernel
theorem dL_law_237 : decode cL_law 237 = .ok (.iload 4, 2) := by decide +kernel
theorem dL_law_239 : decode cL_law 239 = .ok (.iconst 1, 1) := by decide +kernel
theorem dL_law_240 : decode cL_law 240 = .ok (.iadd, 1) := by decide +kernel
theorem dL_law_241 : decode cL_law 241 = .ok (.iaload, 1) := by decide +kernel
theorem dL_law_242 : decode cL_law 242 = .ok (.aload_n 0, 1) := by decide +kernel
theorem dL_law_243 : decode cL_law 243 = .ok (.iload 4, 2) := by decide +kernel
theorem dL_law_245 : decode cL_law 245 = .ok (.iconst 2, 1) := by decide +kernel
theorem dL_law_246 : decode cL_law 246 = .ok (.iadd, 1) := by decide +kernel
theorem dL_law_247 : decode cL_law 247 = .ok (.iaload, 1) := by decide +kernel
theorem dL_law_248 : decode cL_law 248 = .ok (.invokevirtual 88, 3) := by decide +kernel
theorem dL_law_251 : decode cL_law 251 = .ok (.istore 6, 2) := by decide +kernel
theorem dL_law_253 : decode cL_law 253 = .ok (.aload_n 2, 1) := by decide +kernel
theorem dL_law_254 : decode cL_law 254 = .ok (.invokevirtual 82, 3) := by decide +kernel
theorem dL_law_257 : decode cL_law 257 = .ok (.iload 5, 2) := by decide +kernel
theorem dL_law_259 : decode cL_law 259 = .ok (.if_icmp .eq 5, 3) := by decide +kernel
theorem dL_law_262 : decode cL_law 262 = .ok (.iconst 0, 1) := by decide +kernel
theorem dL_law_263 : decode cL_law 263 = .ok (.ireturn, 1) := by decide +kernel
theorem dL_law_264 : decode cL_law 264 = .ok (.iload 5, 2) := by decide +kernel
theorem dL_law_266 : decode cL_law 266 = .ok (.ifCond .ne 15, 3) := by decide +kernel
theorem dL_law_269 : decode cL_law 269 = .ok (.aload_n 3, 1) := by decide +kernel
theorem dL_law_270 : decode cL_law 270 = .ok (.iconst 0, 1) := by decide +kernel
theorem dL_law_271 : decode cL_law 271 = .ok (.laload, 1) := by decide +kernel
theorem dL_law_272 : decode cL_law 272 = .ok (.iload 6, 2) := by decide +kernel
theorem dL_law_274 : decode cL_law 274 = .ok (.i2l, 1) := by decide +kernel
theorem dL_law_275 : decode cL_law 275 = .ok (.lcmp, 1) := by decide +kernel
theorem dL_law_276 : decode cL_law 276 = .ok (.ifCond .eq 5, 3) := by decide +kernel
theorem dL_law_279 : decode cL_law 279 = .ok (.iconst 0, 1) := by decide +kernel
theorem dL_law_280 : decode cL_law 280 = .ok (.ireturn, 1) := by decide +kernel
theorem dL_law_281 : decode cL_law 281 = .ok (.goto 1111, 3) := by decide +kernel
theorem dL_law_284 : decode cL_law 284 = .ok (.aload_n 1, 1) := by decide +kernel
theorem dL_law_285 : decode cL_law 285 = .ok (.aload_n 0, 1) := by decide +kernel
theorem dL_law_286 : decode cL_law 286 = .ok (.iload 4, 2) := by decide +kernel
theorem dL_law_288 : decode cL_law 288 = .ok (.iconst 1, 1) := by decide +kernel
theorem dL_law_289 : decode cL_law 289 = .ok (.iadd, 1) := by decide +kernel
theorem dL_law_290 : decode cL_law 290 = .ok (.iaload, 1) := by decide +kernel
theorem dL_law_291 : decode cL_law 291 = .ok (.aload_n 3, 1) := by decide +kernel
theorem dL_law_292 : decode cL_law 292 = .ok (.invokestatic 89, 3) := by decide +kernel
theorem dL_law_295 : decode cL_law 295 = .ok (.istore 5, 2) := by decide +kernel
theorem dL_law_297 : decode cL_law 297 = .ok (.aload_n 2, 1) := by decide +kernel
theorem dL_law_298 : decode cL_law 298 = .ok (.aload_n 0, 1) := by decide +kernel
theorem dL_law_299 : decode cL_law 299 = .ok (.iload 4, 2) := by decide +kernel
theorem dL_law_301 : decode cL_law 301 = .ok (.iconst 1, 1) := by decide +kernel
theorem dL_law_302 : decode cL_law 302 = .ok (.iadd, 1) := by decide +kernel
theorem dL_law_303 : decode cL_law 303 = .ok (.iaload, 1) := by decide +kernel
theorem dL_law_304 : decode cL_law 304 = .ok (.invokevirtual 91, 3) := by decide +kernel
theorem dL_law_307 : decode cL_law 307 = .ok (.istore 6, 2) := by decide +kernel
theorem dL_law_309 : decode cL_law 309 = .ok (.aload_n 2, 1) := by decide +kernel
theorem dL_law_310 : decode cL_law 310 = .ok (.invokevirtual 82, 3) := by decide +kernel
theorem dL_law_313 : decode cL_law 313 = .ok (.iload 5, 2) := by decide +kernel
theorem dL_law_315 : decode cL_law 315 = .ok (.if_icmp .eq 5, 3) := by decide +kernel
theorem dL_law_318 : decode cL_law 318 = .ok (.iconst 0, 1) := by decide +kernel
theorem dL_law_319 : decode cL_law 319 = .ok (.ireturn, 1) := by decide +kernel
theorem dL_law_320 : decode cL_law 320 = .ok (.iload 5, 2) := by decide +kernel
theorem dL_law_322 : decode cL_law 322 = .ok (.ifCond .ne 15, 3) := by decide +kernel
theorem dL_law_325 : decode cL_law 325 = .ok (.aload_n 3, 1) := by decide +kernel
theorem dL_law_326 : decode cL_law 326 = .ok (.iconst 0, 1) := by decide +kernel
theorem dL_law_327 : decode cL_law 327 = .ok (.laload, 1) := by decide +kernel
theorem dL_law_328 : decode cL_law 328 = .ok (.iload 6, 2) := by decide +kernel
theorem dL_law_330 : decode cL_law 330 = .ok (.i2l, 1) := by decide +kernel
theorem dL_law_331 : decode cL_law 331 = .ok (.lcmp, 1) := by decide +kernel
theorem dL_law_332 : decode cL_law 332 = .ok (.ifCond .eq 5, 3) := by decide +kernel
theorem dL_law_335 : decode cL_law 335 = .ok (.iconst 0, 1) := by decide +kernel
theorem dL_law_336 : decode cL_law 336 = .ok (.ireturn, 1) := by decide +kernel
theorem dL_law_337 : decode cL_law 337 = .ok (.goto 1055, 3) := by decide +kernel
theorem dL_law_340 : decode cL_law 340 = .ok (.aload_n 1, 1) := by decide +kernel
theorem dL_law_341 : decode cL_law 341 = .ok (.aload_n 0, 1) := by decide +kernel
theorem dL_law_342 : decode cL_law 342 = .ok (.iload 4, 2) := by decide +kernel
theorem dL_law_344 : decode cL_law 344 = .ok (.iconst 1, 1) := by decide +kernel
theorem dL_law_345 : decode cL_law 345 = .ok (.iadd, 1) := by decide +kernel
theorem dL_law_346 : decode cL_law 346 = .ok (.iaload, 1) := by decide +kernel
theorem dL_law_347 : decode cL_law 347 = .ok (.aload_n 3, 1) := by decide +kernel
theorem dL_law_348 : decode cL_law 348 = .ok (.invokestatic 92, 3) := by decide +kernel
theorem dL_law_351 : decode cL_law 351 = .ok (.istore 5, 2) := by decide +kernel
theorem dL_law_353 : decode cL_law 353 = .ok (.aload_n 2, 1) := by decide +kernel
theorem dL_law_354 : decode cL_law 354 = .ok (.aload_n 0, 1) := by decide +kernel
theorem dL_law_355 : decode cL_law 355 = .ok (.iload 4, 2) := by decide +kernel
theorem dL_law_357 : decode cL_law 357 = .ok (.iconst 1, 1) := by decide +kernel
theorem dL_law_358 : decode cL_law 358 = .ok (.iadd, 1) := by decide +kernel
theorem dL_law_359 : decode cL_law 359 = .ok (.iaload, 1) := by decide +kernel
theorem dL_law_360 : decode cL_law 360 = .ok (.invokevirtual 94, 3) := by decide +kernel
theorem dL_law_363 : decode cL_law 363 = .ok (.istore 6, 2) := by decide +kernel
theorem dL_law_365 : decode cL_law 365 = .ok (.aload_n 2, 1) := by decide +kernel
theorem dL_law_366 : decode cL_law 366 = .ok (.invokevirtual 82, 3) := by decide +kernel
theorem dL_law_369 : decode cL_law 369 = .ok (.iload 5, 2) := by decide +kernel
theorem dL_law_371 : decode cL_law 371 = .ok (.if_icmp .eq 5, 3) := by decide +kernel
theorem dL_law_374 : decode cL_law 374 = .ok (.iconst 0, 1) := by decide +kernel
theorem dL_law_375 : decode cL_law 375 = .ok (.ireturn, 1) := by decide +kernel
theorem dL_law_376 : decode cL_law 376 = .ok (.iload 5, 2) := by decide +kernel
theorem dL_law_378 : decode cL_law 378 = .ok (.ifCond .ne 15, 3) := by decide +kernel
theorem dL_law_381 : decode cL_law 381 = .ok (.aload_n 3, 1) := by decide +kernel
theorem dL_law_382 : decode cL_law 382 = .ok (.iconst 0, 1) := by decide +kernel
theorem dL_law_383 : decode cL_law 383 = .ok (.laload, 1) := by decide +kernel
theorem dL_law_384 : decode cL_law 384 = .ok (.iload 6, 2) := by decide +kernel
theorem dL_law_386 : decode cL_law 386 = .ok (.i2l, 1) := by decide +kernel
theorem dL_law_387 : decode cL_law 387 = .ok (.lcmp, 1) := by decide +kernel
theorem dL_law_388 : decode cL_law 388 = .ok (.ifCond .eq 5, 3) := by decide +kernel
theorem dL_law_391 : decode cL_law 391 = .ok (.iconst 0, 1) := by decide +kernel
theorem dL_law_392 : decode cL_law 392 = .ok (.ireturn, 1) := by decide +kernel
theorem dL_law_393 : decode cL_law 393 = .ok (.goto 999, 3) := by decide +kernel
theorem dL_law_396 : decode cL_law 396 = .ok (.aload_n 1, 1) := by decide +kernel
theorem dL_law_397 : decode cL_law 397 = .ok (.aload_n 0, 1) := by decide +kernel
theorem dL_law_398 : decode cL_law 398 = .ok (.iload 4, 2) := by decide +kernel
theorem dL_law_400 : decode cL_law 400 = .ok (.iconst 1, 1) := by decide +kernel
theorem dL_law_401 : decode cL_law 401 = .ok (.iadd, 1) := by decide +kernel
theorem dL_law_402 : decode cL_law 402 = .ok (.iaload, 1) := by decide +kernel
theorem dL_law_403 : decode cL_law 403 = .ok (.aload_n 0, 1) := by decide +kernel
theorem dL_law_404 : decode cL_law 404 = .ok (.iload 4, 2) := by decide +kernel
theorem dL_law_406 : decode cL_law 406 = .ok (.iconst 2, 1) := by decide +kernel
theorem dL_law_407 : decode cL_law 407 = .ok (.iadd, 1) := by decide +kernel
theorem dL_law_408 : decode cL_law 408 = .ok (.iaload, 1) := by decide +kernel
theorem dL_law_409 : decode cL_law 409 = .ok (.aload_n 3, 1) := by decide +kernel
theorem dL_law_410 : decode cL_law 410 = .ok (.invokestatic 95, 3) := by decide +kernel
theorem dL_law_413 : decode cL_law 413 = .ok (.istore 5, 2) := by decide +kernel
theorem dL_law_415 : decode cL_law 415 = .ok (.aload_n 2, 1) := by decide +kernel
theorem dL_law_416 : decode cL_law 416 = .ok (.aload_n 0, 1) := by decide +kernel
theorem dL_law_417 : decode cL_law 417 = .ok (.iload 4, 2) := by decide +kernel
theorem dL_law_419 : decode cL_law 419 = .ok (.iconst 1, 1) := by decide +kernel
theorem dL_law_420 : decode cL_law 420 = .ok (.iadd, 1) := by decide +kernel
theorem dL_law_421 : decode cL_law 421 = .ok (.iaload, 1) := by decide +kernel
theorem dL_law_422 : decode cL_law 422 = .ok (.aload_n 0, 1) := by decide +kernel
theorem dL_law_423 : decode cL_law 423 = .ok (.iload 4, 2) := by decide +kernel
theorem dL_law_425 : decode cL_law 425 = .ok (.iconst 2, 1) := by decide +kernel
theorem dL_law_426 : decode cL_law 426 = .ok (.iadd, 1) := by decide +kernel
theorem dL_law_427 : decode cL_law 427 = .ok (.iaload, 1) := by decide +kernel
theorem dL_law_428 : decode cL_law 428 = .ok (.invokevirtual 97, 3) := by decide +kernel
theorem dL_law_431 : decode cL_law 431 = .ok (.istore 6, 2) := by decide +kernel
theorem dL_law_433 : decode cL_law 433 = .ok (.aload_n 2, 1) := by decide +kernel
theorem dL_law_434 : decode cL_law 434 = .ok (.invokevirtual 82, 3) := by decide +kernel
theorem dL_law_437 : decode cL_law 437 = .ok (.iload 5, 2) := by decide +kernel
theorem dL_law_439 : decode cL_law 439 = .ok (.if_icmp .eq 5, 3) := by decide +kernel
theorem dL_law_442 : decode cL_law 442 = .ok (.iconst 0, 1) := by decide +kernel
theorem dL_law_443 : decode cL_law 443 = .ok (.ireturn, 1) := by decide +kernel
theorem dL_law_444 : decode cL_law 444 = .ok (.iload 5, 2) := by decide +kernel
theorem dL_law_446 : decode cL_law 446 = .ok (.ifCond .ne 15, 3) := by decide +kernel
theorem dL_law_449 : decode cL_law 449 = .ok (.aload_n 3, 1) := by decide +kernel
theorem dL_law_450 : decode cL_law 450 = .ok (.iconst 0, 1) := by decide +kernel
theorem dL_law_451 : decode cL_law 451 = .ok (.laload, 1) := by decide +kernel
theorem dL_law_452 : decode cL_law 452 = .ok (.iload 6, 2) := by decide +kernel
theorem dL_law_454 : decode cL_law 454 = .ok (.i2l, 1) := by decide +kernel
theorem dL_law_455 : decode cL_law 455 = .ok (.lcmp, 1) := by decide +kernel
theorem dL_law_456 : decode cL_law 456 = .ok (.ifCond .eq 5, 3) := by decide +kernel
theorem dL_law_459 : decode cL_law 459 = .ok (.iconst 0, 1) := by decide +kernel
theorem dL_law_460 : decode cL_law 460 = .ok (.ireturn, 1) := by decide +kernel
theorem dL_law_461 : decode cL_law 461 = .ok (.goto 931, 3) := by decide +kernel
theorem dL_law_464 : decode cL_law 464 = .ok (.aload_n 1, 1) := by decide +kernel
theorem dL_law_465 : decode cL_law 465 = .ok (.aload_n 3, 1) := by decide +kernel
theorem dL_law_466 : decode cL_law 466 = .ok (.invokestatic 98, 3) := by decide +kernel
theorem dL_law_469 : decode cL_law 469 = .ok (.istore 5, 2) := by decide +kernel
theorem dL_law_471 : decode cL_law 471 = .ok (.aload_n 2, 1) := by decide +kernel
theorem dL_law_472 : decode cL_law 472 = .ok (.invokevirtual 101, 3) := by decide +kernel
theorem dL_law_475 : decode cL_law 475 = .ok (.istore 6, 2) := by decide +kernel
theorem dL_law_477 : decode cL_law 477 = .ok (.aload_n 2, 1) := by decide +kernel
theorem dL_law_478 : decode cL_law 478 = .ok (.invokevirtual 82, 3) := by decide +kernel
theorem dL_law_481 : decode cL_law 481 = .ok (.iload 5, 2) := by decide +kernel
theorem dL_law_483 : decode cL_law 483 = .ok (.if_icmp .eq 5, 3) := by decide +kernel
theorem dL_law_486 : decode cL_law 486 = .ok (.iconst 0, 1) := by decide +kernel
theorem dL_law_487 : decode cL_law 487 = .ok (.ireturn, 1) := by decide +kernel
theorem dL_law_488 : decode cL_law 488 = .ok (.iload 5, 2) := by decide +kernel
theorem dL_law_490 : decode cL_law 490 = .ok (.ifCond .ne 15, 3) := by decide +kernel
theorem dL_law_493 : decode cL_law 493 = .ok (.aload_n 3, 1) := by decide +kernel
theorem dL_law_494 : decode cL_law 494 = .ok (.iconst 0, 1) := by decide +kernel
theorem dL_law_495 : decode cL_law 495 = .ok (.laload, 1) := by decide +kernel
theorem dL_law_496 : decode cL_law 496 = .ok (.iload 6, 2) := by decide +kernel
theorem dL_law_498 : decode cL_law 498 = .ok (.i2l, 1) := by decide +kernel
theorem dL_law_499 : decode cL_law 499 = .ok (.lcmp, 1) := by decide +kernel
theorem dL_law_500 : decode cL_law 500 = .ok (.ifCond .eq 5, 3) := by decide +kernel
theorem dL_law_503 : decode cL_law 503 = .ok (.iconst 0, 1) := by decide +kernel
theorem dL_law_504 : decode cL_law 504 = .ok (.ireturn, 1) := by decide +kernel
theorem dL_law_505 : decode cL_law 505 = .ok (.goto 887, 3) := by decide +kernel
theorem dL_law_508 : decode cL_law 508 = .ok (.aload_n 1, 1) := by decide +kernel
theorem dL_law_509 : decode cL_law 509 = .ok (.aload_n 0, 1) := by decide +kernel
theorem dL_law_510 : decode cL_law 510 = .ok (.iload 4, 2) := by decide +kernel
theorem dL_law_512 : decode cL_law 512 = .ok (.iconst 1, 1) := by decide +kernel
theorem dL_law_513 : decode cL_law 513 = .ok (.iadd, 1) := by decide +kernel
theorem dL_law_514 : decode cL_law 514 = .ok (.iaload, 1) := by decide +kernel
theorem dL_law_515 : decode cL_law 515 = .ok (.aload_n 0, 1) := by decide +kernel
theorem dL_law_516 : decode cL_law 516 = .ok (.iload 4, 2) := by decide +kernel
theorem dL_law_518 : decode cL_law 518 = .ok (.iconst 2, 1) := by decide +kernel
theorem dL_law_519 : decode cL_law 519 = .ok (.iadd, 1) := by decide +kernel
theorem dL_law_520 : decode cL_law 520 = .ok (.iaload, 1) := by decide +kernel
theorem dL_law_521 : decode cL_law 521 = .ok (.aload_n 3, 1) := by decide +kernel
theorem dL_law_522 : decode cL_law 522 = .ok (.invokestatic 102, 3) := by decide +kernel
theorem dL_law_525 : decode cL_law 525 = .ok (.istore 5, 2) := by decide +kernel
theorem dL_law_527 : decode cL_law 527 = .ok (.aload_n 2, 1) := by decide +kernel
theorem dL_law_528 : decode cL_law 528 = .ok (.aload_n 0, 1) := by decide +kernel
theorem dL_law_529 : decode cL_law 529 = .ok (.iload 4, 2) := by decide +kernel
theorem dL_law_531 : decode cL_law 531 = .ok (.iconst 1, 1) := by decide +kernel
theorem dL_law_532 : decode cL_law 532 = .ok (.iadd, 1) := by decide +kernel
theorem dL_law_533 : decode cL_law 533 = .ok (.iaload, 1) := by decide +kernel
theorem dL_law_534 : decode cL_law 534 = .ok (.aload_n 0, 1) := by decide +kernel
theorem dL_law_535 : decode cL_law 535 = .ok (.iload 4, 2) := by decide +kernel
theorem dL_law_537 : decode cL_law 537 = .ok (.iconst 2, 1) := by decide +kernel
theorem dL_law_538 : decode cL_law 538 = .ok (.iadd, 1) := by decide +kernel
theorem dL_law_539 : decode cL_law 539 = .ok (.iaload, 1) := by decide +kernel
theorem dL_law_540 : decode cL_law 540 = .ok (.invokevirtual 104, 3) := by decide +kernel
theorem dL_law_543 : decode cL_law 543 = .ok (.istore 6, 2) := by decide +kernel
theorem dL_law_545 : decode cL_law 545 = .ok (.aload_n 2, 1) := by decide +kernel
theorem dL_law_546 : decode cL_law 546 = .ok (.invokevirtual 82, 3) := by decide +kernel
theorem dL_law_549 : decode cL_law 549 = .ok (.iload 5, 2) := by decide +kernel
theorem dL_law_551 : decode cL_law 551 = .ok (.if_icmp .eq 5, 3) := by decide +kernel
theorem dL_law_554 : decode cL_law 554 = .ok (.iconst 0, 1) := by decide +kernel
theorem dL_law_555 : decode cL_law 555 = .ok (.ireturn, 1) := by decide +kernel
theorem dL_law_556 : decode cL_law 556 = .ok (.iload 5, 2) := by decide +kernel
theorem dL_law_558 : decode cL_law 558 = .ok (.ifCond .ne 15, 3) := by decide +kernel
theorem dL_law_561 : decode cL_law 561 = .ok (.aload_n 3, 1) := by decide +kernel
theorem dL_law_562 : decode cL_law 562 = .ok (.iconst 0, 1) := by decide +kernel
theorem dL_law_563 : decode cL_law 563 = .ok (.laload, 1) := by decide +kernel
theorem dL_law_564 : decode cL_law 564 = .ok (.iload 6, 2) := by decide +kernel
theorem dL_law_566 : decode cL_law 566 = .ok (.i2l, 1) := by decide +kernel
theorem dL_law_567 : decode cL_law 567 = .ok (.lcmp, 1) := by decide +kernel
theorem dL_law_568 : decode cL_law 568 = .ok (.ifCond .eq 5, 3) := by decide +kernel
theorem dL_law_571 : decode cL_law 571 = .ok (.iconst 0, 1) := by decide +kernel
theorem dL_law_572 : decode cL_law 572 = .ok (.ireturn, 1) := by decide +kernel
theorem dL_law_573 : decode cL_law 573 = .ok (.goto 819, 3) := by decide +kernel
theorem dL_law_576 : decode cL_law 576 = .ok (.aload_n 1, 1) := by decide +kernel
theorem dL_law_577 : decode cL_law 577 = .ok (.aload_n 0, 1) := by decide +kernel
theorem dL_law_578 : decode cL_law 578 = .ok (.iload 4, 2) := by decide +kernel
theorem dL_law_580 : decode cL_law 580 = .ok (.iconst 1, 1) := by decide +kernel
theorem dL_law_581 : decode cL_law 581 = .ok (.iadd, 1) := by decide +kernel
theorem dL_law_582 : decode cL_law 582 = .ok (.iaload, 1) := by decide +kernel
theorem dL_law_583 : decode cL_law 583 = .ok (.aload_n 0, 1) := by decide +kernel
theorem dL_law_584 : decode cL_law 584 = .ok (.iload 4, 2) := by decide +kernel
theorem dL_law_586 : decode cL_law 586 = .ok (.iconst 2, 1) := by decide +kernel
theorem dL_law_587 : decode cL_law 587 = .ok (.iadd, 1) := by decide +kernel
theorem dL_law_588 : decode cL_law 588 = .ok (.iaload, 1) := by decide +kernel
theorem dL_law_589 : decode cL_law 589 = .ok (.aload_n 3, 1) := by decide +kernel
theorem dL_law_590 : decode cL_law 590 = .ok (.invokestatic 105, 3) := by decide +kernel
theorem dL_law_593 : decode cL_law 593 = .ok (.istore 5, 2) := by decide +kernel
theorem dL_law_595 : decode cL_law 595 = .ok (.aload_n 2, 1) := by decide +kernel
theorem dL_law_596 : decode cL_law 596 = .ok (.aload_n 0, 1) := by decide +kernel
theorem dL_law_597 : decode cL_law 597 = .ok (.iload 4, 2) := by decide +kernel
theorem dL_law_599 : decode cL_law 599 = .ok (.iconst 1, 1) := by decide +kernel
theorem dL_law_600 : decode cL_law 600 = .ok (.iadd, 1) := by decide +kernel
theorem dL_law_601 : decode cL_law 601 = .ok (.iaload, 1) := by decide +kernel
theorem dL_law_602 : decode cL_law 602 = .ok (.aload_n 0, 1) := by decide +kernel
theorem dL_law_603 : decode cL_law 603 = .ok (.iload 4, 2) := by decide +kernel
theorem dL_law_605 : decode cL_law 605 = .ok (.iconst 2, 1) := by decide +kernel
theorem dL_law_606 : decode cL_law 606 = .ok (.iadd, 1) := by decide +kernel
theorem dL_law_607 : decode cL_law 607 = .ok (.iaload, 1) := by decide +kernel
theorem dL_law_608 : decode cL_law 608 = .ok (.invokevirtual 107, 3) := by decide +kernel
theorem dL_law_611 : decode cL_law 611 = .ok (.istore 6, 2) := by decide +kernel
theorem dL_law_613 : decode cL_law 613 = .ok (.aload_n 2, 1) := by decide +kernel
theorem dL_law_614 : decode cL_law 614 = .ok (.invokevirtual 82, 3) := by decide +kernel
theorem dL_law_617 : decode cL_law 617 = .ok (.iload 5, 2) := by decide +kernel
theorem dL_law_619 : decode cL_law 619 = .ok (.if_icmp .eq 5, 3) := by decide +kernel
theorem dL_law_622 : decode cL_law 622 = .ok (.iconst 0, 1) := by decide +kernel
end
section
theorem dL_law_623 : decode cL_law 623 = .ok (.ireturn, 1) := by decide +kernel
theorem dL_law_624 : decode cL_law 624 = .ok (.iload 5, 2) := by decide +kernel
theorem dL_law_626 : decode cL_law 626 = .ok (.ifCond .ne 15, 3) := by decide +kernel
theorem dL_law_629 : decode cL_law 629 = .ok (.aload_n 3, 1) := by decide +kernel
theorem dL_law_630 : decode cL_law 630 = .ok (.iconst 0, 1) := by decide +kernel
theorem dL_law_631 : decode cL_law 631 = .ok (.laload, 1) := by decide +kernel
theorem dL_law_632 : decode cL_law 632 = .ok (.iload 6, 2) := by decide +kernel
theorem dL_law_634 : decode cL_law 634 = .ok (.i2l, 1) := by decide +kernel
theorem dL_law_635 : decode cL_law 635 = .ok (.lcmp, 1) := by decide +kernel
theorem dL_law_636 : decode cL_law 636 = .ok (.ifCond .eq 5, 3) := by decide +kernel
theorem dL_law_639 : decode cL_law 639 = .ok (.iconst 0, 1) := by decide +kernel
theorem dL_law_640 : decode cL_law 640 = .ok (.ireturn, 1) := by decide +kernel
theorem dL_law_641 : decode cL_law 641 = .ok (.goto 751, 3) := by decide +kernel
theorem dL_law_644 : decode cL_law 644 = .ok (.aload_n 1, 1) := by decide +kernel
theorem dL_law_645 : decode cL_law 645 = .ok (.aload_n 0, 1) := by decide +kernel
theorem dL_law_646 : decode cL_law 646 = .ok (.iload 4, 2) := by decide +kernel
theorem dL_law_648 : decode cL_law 648 = .ok (.iconst 1, 1) := by decide +kernel
theorem dL_law_649 : decode cL_law 649 = .ok (.iadd, 1) := by decide +kernel
theorem dL_law_650 : decode cL_law 650 = .ok (.iaload, 1) := by decide +kernel
theorem dL_law_651 : decode cL_law 651 = .ok (.aload_n 0, 1) := by decide +kernel
theorem dL_law_652 : decode cL_law 652 = .ok (.iload 4, 2) := by decide +kernel
theorem dL_law_654 : decode cL_law 654 = .ok (.iconst 2, 1) := by decide +kernel
theorem dL_law_655 : decode cL_law 655 = .ok (.iadd, 1) := by decide +kernel
theorem dL_law_656 : decode cL_law 656 = .ok (.iaload, 1) := by decide +kernel
theorem dL_law_657 : decode cL_law 657 = .ok (.aload_n 3, 1) := by decide +kernel
theorem dL_law_658 : decode cL_law 658 = .ok (.invokestatic 108, 3) := by decide +kernel
theorem dL_law_661 : decode cL_law 661 = .ok (.istore 5, 2) := by decide +kernel
theorem dL_law_663 : decode cL_law 663 = .ok (.aload_n 2, 1) := by decide +kernel
theorem dL_law_664 : decode cL_law 664 = .ok (.aload_n 0, 1) := by decide +kernel
theorem dL_law_665 : decode cL_law 665 = .ok (.iload 4, 2) := by decide +kernel
theorem dL_law_667 : decode cL_law 667 = .ok (.iconst 1, 1) := by decide +kernel
theorem dL_law_668 : decode cL_law 668 = .ok (.iadd, 1) := by decide +kernel
theorem dL_law_669 : decode cL_law 669 = .ok (.iaload, 1) := by decide +kernel
theorem dL_law_670 : decode cL_law 670 = .ok (.aload_n 0, 1) := by decide +kernel
theorem dL_law_671 : decode cL_law 671 = .ok (.iload 4, 2) := by decide +kernel
theorem dL_law_673 : decode cL_law 673 = .ok (.iconst 2, 1) := by decide +kernel
theorem dL_law_674 : decode cL_law 674 = .ok (.iadd, 1) := by decide +kernel
theorem dL_law_675 : decode cL_law 675 = .ok (.iaload, 1) := by decide +kernel
theorem dL_law_676 : decode cL_law 676 = .ok (.invokevirtual 110, 3) := by decide +kernel
theorem dL_law_679 : decode cL_law 679 = .ok (.istore 6, 2) := by decide +kernel
theorem dL_law_681 : decode cL_law 681 = .ok (.aload_n 2, 1) := by decide +kernel
theorem dL_law_682 : decode cL_law 682 = .ok (.invokevirtual 82, 3) := by decide +kernel
theorem dL_law_685 : decode cL_law 685 = .ok (.iload 5, 2) := by decide +kernel
theorem dL_law_687 : decode cL_law 687 = .ok (.if_icmp .eq 5, 3) := by decide +kernel
theorem dL_law_690 : decode cL_law 690 = .ok (.iconst 0, 1) := by decide +kernel
theorem dL_law_691 : decode cL_law 691 = .ok (.ireturn, 1) := by decide +kernel
theorem dL_law_692 : decode cL_law 692 = .ok (.iload 5, 2) := by decide +kernel
theorem dL_law_694 : decode cL_law 694 = .ok (.ifCond .ne 15, 3) := by decide +kernel
theorem dL_law_697 : decode cL_law 697 = .ok (.aload_n 3, 1) := by decide +kernel
theorem dL_law_698 : decode cL_law 698 = .ok (.iconst 0, 1) := by decide +kernel
theorem dL_law_699 : decode cL_law 699 = .ok (.laload, 1) := by decide +kernel
theorem dL_law_700 : decode cL_law 700 = .ok (.iload 6, 2) := by decide +kernel
theorem dL_law_702 : decode cL_law 702 = .ok (.i2l, 1) := by decide +kernel
theorem dL_law_703 : decode cL_law 703 = .ok (.lcmp, 1) := by decide +kernel
theorem dL_law_704 : decode cL_law 704 = .ok (.ifCond .eq 5, 3) := by decide +kernel
theorem dL_law_707 : decode cL_law 707 = .ok (.iconst 0, 1) := by decide +kernel
theorem dL_law_708 : decode cL_law 708 = .ok (.ireturn, 1) := by decide +kernel
theorem dL_law_709 : decode cL_law 709 = .ok (.goto 683, 3) := by decide +kernel
theorem dL_law_712 : decode cL_law 712 = .ok (.aload_n 1, 1) := by decide +kernel
theorem dL_law_713 : decode cL_law 713 = .ok (.aload_n 0, 1) := by decide +kernel
theorem dL_law_714 : decode cL_law 714 = .ok (.iload 4, 2) := by decide +kernel
theorem dL_law_716 : decode cL_law 716 = .ok (.iconst 1, 1) := by decide +kernel
theorem dL_law_717 : decode cL_law 717 = .ok (.iadd, 1) := by decide +kernel
theorem dL_law_718 : decode cL_law 718 = .ok (.iaload, 1) := by decide +kernel
theorem dL_law_719 : decode cL_law 719 = .ok (.aload_n 3, 1) := by decide +kernel
theorem dL_law_720 : decode cL_law 720 = .ok (.invokestatic 111, 3) := by decide +kernel
theorem dL_law_723 : decode cL_law 723 = .ok (.istore 5, 2) := by decide +kernel
theorem dL_law_725 : decode cL_law 725 = .ok (.aload_n 2, 1) := by decide +kernel
theorem dL_law_726 : decode cL_law 726 = .ok (.aload_n 0, 1) := by decide +kernel
theorem dL_law_727 : decode cL_law 727 = .ok (.iload 4, 2) := by decide +kernel
theorem dL_law_729 : decode cL_law 729 = .ok (.iconst 1, 1) := by decide +kernel
theorem dL_law_730 : decode cL_law 730 = .ok (.iadd, 1) := by decide +kernel
theorem dL_law_731 : decode cL_law 731 = .ok (.iaload, 1) := by decide +kernel
theorem dL_law_732 : decode cL_law 732 = .ok (.invokevirtual 113, 3) := by decide +kernel
theorem dL_law_735 : decode cL_law 735 = .ok (.istore 6, 2) := by decide +kernel
theorem dL_law_737 : decode cL_law 737 = .ok (.aload_n 2, 1) := by decide +kernel
theorem dL_law_738 : decode cL_law 738 = .ok (.invokevirtual 82, 3) := by decide +kernel
theorem dL_law_741 : decode cL_law 741 = .ok (.iload 5, 2) := by decide +kernel
theorem dL_law_743 : decode cL_law 743 = .ok (.if_icmp .eq 5, 3) := by decide +kernel
theorem dL_law_746 : decode cL_law 746 = .ok (.iconst 0, 1) := by decide +kernel
theorem dL_law_747 : decode cL_law 747 = .ok (.ireturn, 1) := by decide +kernel
theorem dL_law_748 : decode cL_law 748 = .ok (.iload 5, 2) := by decide +kernel
theorem dL_law_750 : decode cL_law 750 = .ok (.ifCond .ne 15, 3) := by decide +kernel
theorem dL_law_753 : decode cL_law 753 = .ok (.aload_n 3, 1) := by decide +kernel
theorem dL_law_754 : decode cL_law 754 = .ok (.iconst 0, 1) := by decide +kernel
theorem dL_law_755 : decode cL_law 755 = .ok (.laload, 1) := by decide +kernel
theorem dL_law_756 : decode cL_law 756 = .ok (.iload 6, 2) := by decide +kernel
theorem dL_law_758 : decode cL_law 758 = .ok (.i2l, 1) := by decide +kernel
theorem dL_law_759 : decode cL_law 759 = .ok (.lcmp, 1) := by decide +kernel
theorem dL_law_760 : decode cL_law 760 = .ok (.ifCond .eq 5, 3) := by decide +kernel
theorem dL_law_763 : decode cL_law 763 = .ok (.iconst 0, 1) := by decide +kernel
theorem dL_law_764 : decode cL_law 764 = .ok (.ireturn, 1) := by decide +kernel
theorem dL_law_765 : decode cL_law 765 = .ok (.goto 627, 3) := by decide +kernel
theorem dL_law_768 : decode cL_law 768 = .ok (.aload_n 1, 1) := by decide +kernel
theorem dL_law_769 : decode cL_law 769 = .ok (.invokevirtual 114, 3) := by decide +kernel
theorem dL_law_772 : decode cL_law 772 = .ok (.aload_n 2, 1) := by decide +kernel
theorem dL_law_773 : decode cL_law 773 = .ok (.invokevirtual 117, 3) := by decide +kernel
theorem dL_law_776 : decode cL_law 776 = .ok (.if_icmp .eq 616, 3) := by decide +kernel
theorem dL_law_779 : decode cL_law 779 = .ok (.iconst 0, 1) := by decide +kernel
theorem dL_law_780 : decode cL_law 780 = .ok (.ireturn, 1) := by decide +kernel
theorem dL_law_781 : decode cL_law 781 = .ok (.aload_n 1, 1) := by decide +kernel
theorem dL_law_782 : decode cL_law 782 = .ok (.invokevirtual 118, 3) := by decide +kernel
theorem dL_law_785 : decode cL_law 785 = .ok (.aload_n 2, 1) := by decide +kernel
theorem dL_law_786 : decode cL_law 786 = .ok (.invokevirtual 121, 3) := by decide +kernel
theorem dL_law_789 : decode cL_law 789 = .ok (.if_icmp .eq 603, 3) := by decide +kernel
theorem dL_law_792 : decode cL_law 792 = .ok (.iconst 0, 1) := by decide +kernel
theorem dL_law_793 : decode cL_law 793 = .ok (.ireturn, 1) := by decide +kernel
theorem dL_law_794 : decode cL_law 794 = .ok (.aload_n 1, 1) := by decide +kernel
theorem dL_law_795 : decode cL_law 795 = .ok (.aload_n 3, 1) := by decide +kernel
theorem dL_law_796 : decode cL_law 796 = .ok (.invokestatic 122, 3) := by decide +kernel
theorem dL_law_799 : decode cL_law 799 = .ok (.istore 5, 2) := by decide +kernel
theorem dL_law_801 : decode cL_law 801 = .ok (.aload_n 2, 1) := by decide +kernel
theorem dL_law_802 : decode cL_law 802 = .ok (.invokevirtual 124, 3) := by decide +kernel
theorem dL_law_805 : decode cL_law 805 = .ok (.istore 6, 2) := by decide +kernel
theorem dL_law_807 : decode cL_law 807 = .ok (.aload_n 2, 1) := by decide +kernel
theorem dL_law_808 : decode cL_law 808 = .ok (.invokevirtual 82, 3) := by decide +kernel
theorem dL_law_811 : decode cL_law 811 = .ok (.iload 5, 2) := by decide +kernel
theorem dL_law_813 : decode cL_law 813 = .ok (.if_icmp .eq 5, 3) := by decide +kernel
theorem dL_law_816 : decode cL_law 816 = .ok (.iconst 0, 1) := by decide +kernel
theorem dL_law_817 : decode cL_law 817 = .ok (.ireturn, 1) := by decide +kernel
theorem dL_law_818 : decode cL_law 818 = .ok (.iload 5, 2) := by decide +kernel
theorem dL_law_820 : decode cL_law 820 = .ok (.ifCond .ne 15, 3) := by decide +kernel
theorem dL_law_823 : decode cL_law 823 = .ok (.aload_n 3, 1) := by decide +kernel
theorem dL_law_824 : decode cL_law 824 = .ok (.iconst 0, 1) := by decide +kernel
theorem dL_law_825 : decode cL_law 825 = .ok (.laload, 1) := by decide +kernel
theorem dL_law_826 : decode cL_law 826 = .ok (.iload 6, 2) := by decide +kernel
theorem dL_law_828 : decode cL_law 828 = .ok (.i2l, 1) := by decide +kernel
theorem dL_law_829 : decode cL_law 829 = .ok (.lcmp, 1) := by decide +kernel
theorem dL_law_830 : decode cL_law 830 = .ok (.ifCond .eq 5, 3) := by decide +kernel
theorem dL_law_833 : decode cL_law 833 = .ok (.iconst 0, 1) := by decide +kernel
theorem dL_law_834 : decode cL_law 834 = .ok (.ireturn, 1) := by decide +kernel
theorem dL_law_835 : decode cL_law 835 = .ok (.goto 557, 3) := by decide +kernel
theorem dL_law_838 : decode cL_law 838 = .ok (.aload_n 1, 1) := by decide +kernel
theorem dL_law_839 : decode cL_law 839 = .ok (.invokevirtual 125, 3) := by decide +kernel
theorem dL_law_842 : decode cL_law 842 = .ok (.aload_n 2, 1) := by decide +kernel
theorem dL_law_843 : decode cL_law 843 = .ok (.invokevirtual 128, 3) := by decide +kernel
theorem dL_law_846 : decode cL_law 846 = .ok (.if_icmp .eq 546, 3) := by decide +kernel
theorem dL_law_849 : decode cL_law 849 = .ok (.iconst 0, 1) := by decide +kernel
theorem dL_law_850 : decode cL_law 850 = .ok (.ireturn, 1) := by decide +kernel
theorem dL_law_851 : decode cL_law 851 = .ok (.aload_n 1, 1) := by decide +kernel
theorem dL_law_852 : decode cL_law 852 = .ok (.aload_n 3, 1) := by decide +kernel
theorem dL_law_853 : decode cL_law 853 = .ok (.invokestatic 129, 3) := by decide +kernel
theorem dL_law_856 : decode cL_law 856 = .ok (.istore 5, 2) := by decide +kernel
theorem dL_law_858 : decode cL_law 858 = .ok (.aload_n 2, 1) := by decide +kernel
theorem dL_law_859 : decode cL_law 859 = .ok (.invokevirtual 131, 3) := by decide +kernel
theorem dL_law_862 : decode cL_law 862 = .ok (.istore 6, 2) := by decide +kernel
theorem dL_law_864 : decode cL_law 864 = .ok (.aload_n 2, 1) := by decide +kernel
theorem dL_law_865 : decode cL_law 865 = .ok (.invokevirtual 82, 3) := by decide +kernel
theorem dL_law_868 : decode cL_law 868 = .ok (.iload 5, 2) := by decide +kernel
theorem dL_law_870 : decode cL_law 870 = .ok (.if_icmp .eq 5, 3) := by decide +kernel
theorem dL_law_873 : decode cL_law 873 = .ok (.iconst 0, 1) := by decide +kernel
theorem dL_law_874 : decode cL_law 874 = .ok (.ireturn, 1) := by decide +kernel
theorem dL_law_875 : decode cL_law 875 = .ok (.iload 5, 2) := by decide +kernel
theorem dL_law_877 : decode cL_law 877 = .ok (.ifCond .ne 15, 3) := by decide +kernel
theorem dL_law_880 : decode cL_law 880 = .ok (.aload_n 3, 1) := by decide +kernel
theorem dL_law_881 : decode cL_law 881 = .ok (.iconst 0, 1) := by decide +kernel
theorem dL_law_882 : decode cL_law 882 = .ok (.laload, 1) := by decide +kernel
theorem dL_law_883 : decode cL_law 883 = .ok (.iload 6, 2) := by decide +kernel
theorem dL_law_885 : decode cL_law 885 = .ok (.i2l, 1) := by decide +kernel
theorem dL_law_886 : decode cL_law 886 = .ok (.lcmp, 1) := by decide +kernel
theorem dL_law_887 : decode cL_law 887 = .ok (.ifCond .eq 5, 3) := by decide +kernel
theorem dL_law_890 : decode cL_law 890 = .ok (.iconst 0, 1) := by decide +kernel
theorem dL_law_891 : decode cL_law 891 = .ok (.ireturn, 1) := by decide +kernel
theorem dL_law_892 : decode cL_law 892 = .ok (.goto 500, 3) := by decide +kernel
theorem dL_law_895 : decode cL_law 895 = .ok (.aload_n 1, 1) := by decide +kernel
theorem dL_law_896 : decode cL_law 896 = .ok (.aload_n 3, 1) := by decide +kernel
theorem dL_law_897 : decode cL_law 897 = .ok (.invokestatic 132, 3) := by decide +kernel
theorem dL_law_900 : decode cL_law 900 = .ok (.istore 5, 2) := by decide +kernel
theorem dL_law_902 : decode cL_law 902 = .ok (.aload_n 2, 1) := by decide +kernel
theorem dL_law_903 : decode cL_law 903 = .ok (.invokevirtual 134, 3) := by decide +kernel
theorem dL_law_906 : decode cL_law 906 = .ok (.istore 6, 2) := by decide +kernel
theorem dL_law_908 : decode cL_law 908 = .ok (.aload_n 2, 1) := by decide +kernel
theorem dL_law_909 : decode cL_law 909 = .ok (.invokevirtual 82, 3) := by decide +kernel
theorem dL_law_912 : decode cL_law 912 = .ok (.iload 5, 2) := by decide +kernel
theorem dL_law_914 : decode cL_law 914 = .ok (.if_icmp .eq 5, 3) := by decide +kernel
theorem dL_law_917 : decode cL_law 917 = .ok (.iconst 0, 1) := by decide +kernel
theorem dL_law_918 : decode cL_law 918 = .ok (.ireturn, 1) := by decide +kernel
theorem dL_law_919 : decode cL_law 919 = .ok (.iload 5, 2) := by decide +kernel
theorem dL_law_921 : decode cL_law 921 = .ok (.ifCond .ne 15, 3) := by decide +kernel
theorem dL_law_924 : decode cL_law 924 = .ok (.aload_n 3, 1) := by decide +kernel
theorem dL_law_925 : decode cL_law 925 = .ok (.iconst 0, 1) := by decide +kernel
theorem dL_law_926 : decode cL_law 926 = .ok (.laload, 1) := by decide +kernel
theorem dL_law_927 : decode cL_law 927 = .ok (.iload 6, 2) := by decide +kernel
theorem dL_law_929 : decode cL_law 929 = .ok (.i2l, 1) := by decide +kernel
theorem dL_law_930 : decode cL_law 930 = .ok (.lcmp, 1) := by decide +kernel
theorem dL_law_931 : decode cL_law 931 = .ok (.ifCond .eq 5, 3) := by decide +kernel
theorem dL_law_934 : decode cL_law 934 = .ok (.iconst 0, 1) := by decide +kernel
theorem dL_law_935 : decode cL_law 935 = .ok (.ireturn, 1) := by decide +kernel
theorem dL_law_936 : decode cL_law 936 = .ok (.goto 456, 3) := by decide +kernel
theorem dL_law_939 : decode cL_law 939 = .ok (.aload_n 1, 1) := by decide +kernel
theorem dL_law_940 : decode cL_law 940 = .ok (.aload_n 0, 1) := by decide +kernel
theorem dL_law_941 : decode cL_law 941 = .ok (.iload 4, 2) := by decide +kernel
theorem dL_law_943 : decode cL_law 943 = .ok (.iconst 1, 1) := by decide +kernel
theorem dL_law_944 : decode cL_law 944 = .ok (.iadd, 1) := by decide +kernel
theorem dL_law_945 : decode cL_law 945 = .ok (.iaload, 1) := by decide +kernel
theorem dL_law_946 : decode cL_law 946 = .ok (.aload_n 0, 1) := by decide +kernel
theorem dL_law_947 : decode cL_law 947 = .ok (.iload 4, 2) := by decide +kernel
theorem dL_law_949 : decode cL_law 949 = .ok (.iconst 2, 1) := by decide +kernel
theorem dL_law_950 : decode cL_law 950 = .ok (.iadd, 1) := by decide +kernel
theorem dL_law_951 : decode cL_law 951 = .ok (.iaload, 1) := by decide +kernel
theorem dL_law_952 : decode cL_law 952 = .ok (.aload_n 3, 1) := by decide +kernel
theorem dL_law_953 : decode cL_law 953 = .ok (.invokestatic 135, 3) := by decide +kernel
theorem dL_law_956 : decode cL_law 956 = .ok (.istore 5, 2) := by decide +kernel
theorem dL_law_958 : decode cL_law 958 = .ok (.aload_n 2, 1) := by decide +kernel
theorem dL_law_959 : decode cL_law 959 = .ok (.aload_n 0, 1) := by decide +kernel
theorem dL_law_960 : decode cL_law 960 = .ok (.iload 4, 2) := by decide +kernel
theorem dL_law_962 : decode cL_law 962 = .ok (.iconst 1, 1) := by decide +kernel
theorem dL_law_963 : decode cL_law 963 = .ok (.iadd, 1) := by decide +kernel
theorem dL_law_964 : decode cL_law 964 = .ok (.iaload, 1) := by decide +kernel
theorem dL_law_965 : decode cL_law 965 = .ok (.aload_n 0, 1) := by decide +kernel
theorem dL_law_966 : decode cL_law 966 = .ok (.iload 4, 2) := by decide +kernel
theorem dL_law_968 : decode cL_law 968 = .ok (.iconst 2, 1) := by decide +kernel
theorem dL_law_969 : decode cL_law 969 = .ok (.iadd, 1) := by decide +kernel
theorem dL_law_970 : decode cL_law 970 = .ok (.iaload, 1) := by decide +kernel
theorem dL_law_971 : decode cL_law 971 = .ok (.invokevirtual 137, 3) := by decide +kernel
theorem dL_law_974 : decode cL_law 974 = .ok (.istore 6, 2) := by decide +kernel
theorem dL_law_976 : decode cL_law 976 = .ok (.aload_n 2, 1) := by decide +kernel
theorem dL_law_977 : decode cL_law 977 = .ok (.invokevirtual 82, 3) := by decide +kernel
theorem dL_law_980 : decode cL_law 980 = .ok (.iload 5, 2) := by decide +kernel
theorem dL_law_982 : decode cL_law 982 = .ok (.if_icmp .eq 5, 3) := by decide +kernel
theorem dL_law_985 : decode cL_law 985 = .ok (.iconst 0, 1) := by decide +kernel
theorem dL_law_986 : decode cL_law 986 = .ok (.ireturn, 1) := by decide +kernel
theorem dL_law_987 : decode cL_law 987 = .ok (.iload 5, 2) := by decide +kernel
theorem dL_law_989 : decode cL_law 989 = .ok (.ifCond .ne 15, 3) := by decide +kernel
theorem dL_law_992 : decode cL_law 992 = .ok (.aload_n 3, 1) := by decide +kernel
theorem dL_law_993 : decode cL_law 993 = .ok (.iconst 0, 1) := by decide +kernel
theorem dL_law_994 : decode cL_law 994 = .ok (.laload, 1) := by decide +kernel
theorem dL_law_995 : decode cL_law 995 = .ok (.iload 6, 2) := by decide +kernel
theorem dL_law_997 : decode cL_law 997 = .ok (.i2l, 1) := by decide +kernel
theorem dL_law_998 : decode cL_law 998 = .ok (.lcmp, 1) := by decide +kernel
theorem dL_law_999 : decode cL_law 999 = .ok (.ifCond .eq 5, 3) := by decide +kernel
theorem dL_law_1002 : decode cL_law 1002 = .ok (.iconst 0, 1) := by decide +kernel
theorem dL_law_1003 : decode cL_law 1003 = .ok (.ireturn, 1) := by decide +kernel
theorem dL_law_1004 : decode cL_law 1004 = .ok (.goto 388, 3) := by decide +kernel
theorem dL_law_1007 : decode cL_law 1007 = .ok (.aload_n 1, 1) := by decide +kernel
theorem dL_law_1008 : decode cL_law 1008 = .ok (.aload_n 0, 1) := by decide +kernel
theorem dL_law_1009 : decode cL_law 1009 = .ok (.iload 4, 2) := by decide +kernel
theorem dL_law_1011 : decode cL_law 1011 = .ok (.iconst 1, 1) := by decide +kernel
theorem dL_law_1012 : decode cL_law 1012 = .ok (.iadd, 1) := by decide +kernel
theorem dL_law_1013 : decode cL_law 1013 = .ok (.iaload, 1) := by decide +kernel
theorem dL_law_1014 : decode cL_law 1014 = .ok (.aload_n 0, 1) := by decide +kernel
theorem dL_law_1015 : decode cL_law 1015 = .ok (.iload 4, 2) := by decide +kernel
theorem dL_law_1017 : decode cL_law 1017 = .ok (.iconst 2, 1) := by decide +kernel
theorem dL_law_1018 : decode cL_law 1018 = .ok (.iadd, 1) := by decide +kernel
theorem dL_law_1019 : decode cL_law 1019 = .ok (.iaload, 1) := by decide +kernel
theorem dL_law_1020 : decode cL_law 1020 = .ok (.aload_n 3, 1) := by decide +kernel
theorem dL_law_1021 : decode cL_law 1021 = .ok (.invokestatic 138, 3) := by decide +kernel
theorem dL_law_1024 : decode cL_law 1024 = .ok (.istore 5, 2) := by decide +kernel
theorem dL_law_1026 : decode cL_law 1026 = .ok (.aload_n 2, 1) := by decide +kernel
theorem dL_law_1027 : decode cL_law 1027 = .ok (.aload_n 0, 1) := by decide +kernel
theorem dL_law_1028 : decode cL_law 1028 = .ok (.iload 4, 2) := by decide +kernel
theorem dL_law_1030 : decode cL_law 1030 = .ok (.iconst 1, 1) := by decide +kernel
theorem dL_law_1031 : decode cL_law 1031 = .ok (.iadd, 1) := by decide +kernel
theorem dL_law_1032 : decode cL_law 1032 = .ok (.iaload, 1) := by decide +kernel
theorem dL_law_1033 : decode cL_law 1033 = .ok (.aload_n 0, 1) := by decide +kernel
theorem dL_law_1034 : decode cL_law 1034 = .ok (.iload 4, 2) := by decide +kernel
theorem dL_law_1036 : decode cL_law 1036 = .ok (.iconst 2, 1) := by decide +kernel
theorem dL_law_1037 : decode cL_law 1037 = .ok (.iadd, 1) := by decide +kernel
theorem dL_law_1038 : decode cL_law 1038 = .ok (.iaload, 1) := by decide +kernel
theorem dL_law_1039 : decode cL_law 1039 = .ok (.invokevirtual 140, 3) := by decide +kernel
theorem dL_law_1042 : decode cL_law 1042 = .ok (.istore 6, 2) := by decide +kernel
theorem dL_law_1044 : decode cL_law 1044 = .ok (.aload_n 2, 1) := by decide +kernel
theorem dL_law_1045 : decode cL_law 1045 = .ok (.invokevirtual 82, 3) := by decide +kernel
theorem dL_law_1048 : decode cL_law 1048 = .ok (.iload 5, 2) := by decide +kernel
theorem dL_law_1050 : decode cL_law 1050 = .ok (.if_icmp .eq 5, 3) := by decide +kernel
theorem dL_law_1053 : decode cL_law 1053 = .ok (.iconst 0, 1) := by decide +kernel
theorem dL_law_1054 : decode cL_law 1054 = .ok (.ireturn, 1) := by decide +kernel
theorem dL_law_1055 : decode cL_law 1055 = .ok (.iload 5, 2) := by decide +kernel
theorem dL_law_1057 : decode cL_law 1057 = .ok (.ifCond .ne 15, 3) := by decide +kernel
theorem dL_law_1060 : decode cL_law 1060 = .ok (.aload_n 3, 1) := by decide +kernel
theorem dL_law_1061 : decode cL_law 1061 = .ok (.iconst 0, 1) := by decide +kernel
theorem dL_law_1062 : decode cL_law 1062 = .ok (.laload, 1) := by decide +kernel
theorem dL_law_1063 : decode cL_law 1063 = .ok (.iload 6, 2) := by decide +kernel
theorem dL_law_1065 : decode cL_law 1065 = .ok (.i2l, 1) := by decide +kernel
theorem dL_law_1066 : decode cL_law 1066 = .ok (.lcmp, 1) := by decide +kernel
theorem dL_law_1067 : decode cL_law 1067 = .ok (.ifCond .eq 5, 3) := by decide +kernel
theorem dL_law_1070 : decode cL_law 1070 = .ok (.iconst 0, 1) := by decide +kernel
theorem dL_law_1071 : decode cL_law 1071 = .ok (.ireturn, 1) := by decide +kernel
theorem dL_law_1072 : decode cL_law 1072 = .ok (.goto 320, 3) := by decide +kernel
theorem dL_law_1075 : decode cL_law 1075 = .ok (.aload_n 1, 1) := by decide +kernel
theorem dL_law_1076 : decode cL_law 1076 = .ok (.aload_n 0, 1) := by decide +kernel
theorem dL_law_1077 : decode cL_law 1077 = .ok (.iload 4, 2) := by decide +kernel
theorem dL_law_1079 : decode cL_law 1079 = .ok (.iconst 1, 1) := by decide +kernel
theorem dL_law_1080 : decode cL_law 1080 = .ok (.iadd, 1) := by decide +kernel
theorem dL_law_1081 : decode cL_law 1081 = .ok (.iaload, 1) := by decide +kernel
theorem dL_law_1082 : decode cL_law 1082 = .ok (.aload_n 3, 1) := by decide +kernel
theorem dL_law_1083 : decode cL_law 1083 = .ok (.invokestatic 141, 3) := by decide +kernel
theorem dL_law_1086 : decode cL_law 1086 = .ok (.istore 5, 2) := by decide +kernel
theorem dL_law_1088 : decode cL_law 1088 = .ok (.aload_n 2, 1) := by decide +kernel
theorem dL_law_1089 : decode cL_law 1089 = .ok (.aload_n 0, 1) := by decide +kernel
theorem dL_law_1090 : decode cL_law 1090 = .ok (.iload 4, 2) := by decide +kernel
theorem dL_law_1092 : decode cL_law 1092 = .ok (.iconst 1, 1) := by decide +kernel
theorem dL_law_1093 : decode cL_law 1093 = .ok (.iadd, 1) := by decide +kernel
theorem dL_law_1094 : decode cL_law 1094 = .ok (.iaload, 1) := by decide +kernel
theorem dL_law_1095 : decode cL_law 1095 = .ok (.invokevirtual 143, 3) := by decide +kernel
theorem dL_law_1098 : decode cL_law 1098 = .ok (.istore 6, 2) := by decide +kernel
theorem dL_law_1100 : decode cL_law 1100 = .ok (.aload_n 2, 1) := by decide +kernel
theorem dL_law_1101 : decode cL_law 1101 = .ok (.invokevirtual 82, 3) := by decide +kernel
theorem dL_law_1104 : decode cL_law 1104 = .ok (.iload 5, 2) := by decide +kernel
theorem dL_law_1106 : decode cL_law 1106 = .ok (.if_icmp .eq 5, 3) := by decide +kernel
theorem dL_law_1109 : decode cL_law 1109 = .ok (.iconst 0, 1) := by decide +kernel
theorem dL_law_1110 : decode cL_law 1110 = .ok (.ireturn, 1) := by decide +kernel
theorem dL_law_1111 : decode cL_law 1111 = .ok (.iload 5, 2) := by decide +kernel
theorem dL_law_1113 : decode cL_law 1113 = .ok (.ifCond .ne 15, 3) := by decide +kernel
theorem dL_law_1116 : decode cL_law 1116 = .ok (.aload_n 3, 1) := by decide +kernel
theorem dL_law_1117 : decode cL_law 1117 = .ok (.iconst 0, 1) := by decide +kernel
theorem dL_law_1118 : decode cL_law 1118 = .ok (.laload, 1) := by decide +kernel
theorem dL_law_1119 : decode cL_law 1119 = .ok (.iload 6, 2) := by decide +kernel
theorem dL_law_1121 : decode cL_law 1121 = .ok (.i2l, 1) := by decide +kernel
theorem dL_law_1122 : decode cL_law 1122 = .ok (.lcmp, 1) := by decide +kernel
theorem dL_law_1123 : decode cL_law 1123 = .ok (.ifCond .eq 5, 3) := by decide +kernel
theorem dL_law_1126 : decode cL_law 1126 = .ok (.iconst 0, 1) := by decide +kernel
theorem dL_law_1127 : decode cL_law 1127 = .ok (.ireturn, 1) := by decide +kernel
theorem dL_law_1128 : decode cL_law 1128 = .ok (.goto 264, 3) := by decide +kernel
theorem dL_law_1131 : decode cL_law 1131 = .ok (.aload_n 1, 1) := by decide +kernel
theorem dL_law_1132 : decode cL_law 1132 = .ok (.aload_n 0, 1) := by decide +kernel
theorem dL_law_1133 : decode cL_law 1133 = .ok (.iload 4, 2) := by decide +kernel
theorem dL_law_1135 : decode cL_law 1135 = .ok (.iconst 1, 1) := by decide +kernel
theorem dL_law_1136 : decode cL_law 1136 = .ok (.iadd, 1) := by decide +kernel
theorem dL_law_1137 : decode cL_law 1137 = .ok (.iaload, 1) := by decide +kernel
theorem dL_law_1138 : decode cL_law 1138 = .ok (.aload_n 3, 1) := by decide +kernel
theorem dL_law_1139 : decode cL_law 1139 = .ok (.invokestatic 144, 3) := by decide +kernel
theorem dL_law_1142 : decode cL_law 1142 = .ok (.istore 5, 2) := by decide +kernel
theorem dL_law_1144 : decode cL_law 1144 = .ok (.aload_n 2, 1) := by decide +kernel
theorem dL_law_1145 : decode cL_law 1145 = .ok (.aload_n 0, 1) := by decide +kernel
theorem dL_law_1146 : decode cL_law 1146 = .ok (.iload 4, 2) := by decide +kernel
theorem dL_law_1148 : decode cL_law 1148 = .ok (.iconst 1, 1) := by decide +kernel
theorem dL_law_1149 : decode cL_law 1149 = .ok (.iadd, 1) := by decide +kernel
theorem dL_law_1150 : decode cL_law 1150 = .ok (.iaload, 1) := by decide +kernel
theorem dL_law_1151 : decode cL_law 1151 = .ok (.invokevirtual 146, 3) := by decide +kernel
theorem dL_law_1154 : decode cL_law 1154 = .ok (.istore 6, 2) := by decide +kernel
theorem dL_law_1156 : decode cL_law 1156 = .ok (.aload_n 2, 1) := by decide +kernel
theorem dL_law_1157 : decode cL_law 1157 = .ok (.invokevirtual 82, 3) := by decide +kernel
theorem dL_law_1160 : decode cL_law 1160 = .ok (.iload 5, 2) := by decide +kernel
theorem dL_law_1162 : decode cL_law 1162 = .ok (.if_icmp .eq 5, 3) := by decide +kernel
theorem dL_law_1165 : decode cL_law 1165 = .ok (.iconst 0, 1) := by decide +kernel
theorem dL_law_1166 : decode cL_law 1166 = .ok (.ireturn, 1) := by decide +kernel
theorem dL_law_1167 : decode cL_law 1167 = .ok (.iload 5, 2) := by decide +kernel
theorem dL_law_1169 : decode cL_law 1169 = .ok (.ifCond .ne 15, 3) := by decide +kernel
theorem dL_law_1172 : decode cL_law 1172 = .ok (.aload_n 3, 1) := by decide +kernel
theorem dL_law_1173 : decode cL_law 1173 = .ok (.iconst 0, 1) := by decide +kernel
theorem dL_law_1174 : decode cL_law 1174 = .ok (.laload, 1) := by decide +kernel
theorem dL_law_1175 : decode cL_law 1175 = .ok (.iload 6, 2) := by decide +kernel
theorem dL_law_1177 : decode cL_law 1177 = .ok (.i2l, 1) := by decide +kernel
theorem dL_law_1178 : decode cL_law 1178 = .ok (.lcmp, 1) := by decide +kernel
theorem dL_law_1179 : decode cL_law 1179 = .ok (.ifCond .eq 5, 3) := by decide +kernel
theorem dL_law_1182 : decode cL_law 1182 = .ok (.iconst 0, 1) := by decide +kernel
theorem dL_law_1183 : decode cL_law 1183 = .ok (.ireturn, 1) := by decide +kernel
theorem dL_law_1184 : decode cL_law 1184 = .ok (.goto 208, 3) := by decide +kernel
theorem dL_law_1187 : decode cL_law 1187 = .ok (.aload_n 1, 1) := by decide +kernel
theorem dL_law_1188 : decode cL_law 1188 = .ok (.invokevirtual 147, 3) := by decide +kernel
theorem dL_law_1191 : decode cL_law 1191 = .ok (.aload_n 2, 1) := by decide +kernel
theorem dL_law_1192 : decode cL_law 1192 = .ok (.invokevirtual 150, 3) := by decide +kernel
theorem dL_law_1195 : decode cL_law 1195 = .ok (.if_icmp .eq 197, 3) := by decide +kernel
theorem dL_law_1198 : decode cL_law 1198 = .ok (.iconst 0, 1) := by decide +kernel
theorem dL_law_1199 : decode cL_law 1199 = .ok (.ireturn, 1) := by decide +kernel
theorem dL_law_1200 : decode cL_law 1200 = .ok (.aload_n 1, 1) := by decide +kernel
theorem dL_law_1201 : decode cL_law 1201 = .ok (.aload_n 0, 1) := by decide +kernel
theorem dL_law_1202 : decode cL_law 1202 = .ok (.iload 4, 2) := by decide +kernel
theorem dL_law_1204 : decode cL_law 1204 = .ok (.iconst 1, 1) := by decide +kernel
theorem dL_law_1205 : decode cL_law 1205 = .ok (.iadd, 1) := by decide +kernel
theorem dL_law_1206 : decode cL_law 1206 = .ok (.iaload, 1) := by decide +kernel
theorem dL_law_1207 : decode cL_law 1207 = .ok (.aload_n 0, 1) := by decide +kernel
theorem dL_law_1208 : decode cL_law 1208 = .ok (.iload 4, 2) := by decide +kernel
theorem dL_law_1210 : decode cL_law 1210 = .ok (.iconst 2, 1) := by decide +kernel
theorem dL_law_1211 : decode cL_law 1211 = .ok (.iadd, 1) := by decide +kernel
theorem dL_law_1212 : decode cL_law 1212 = .ok (.iaload, 1) := by decide +kernel
theorem dL_law_1213 : decode cL_law 1213 = .ok (.aload_n 3, 1) := by decide +kernel
theorem dL_law_1214 : decode cL_law 1214 = .ok (.invokestatic 151, 3) := by decide +kernel
theorem dL_law_1217 : decode cL_law 1217 = .ok (.istore 5, 2) := by decide +kernel
theorem dL_law_1219 : decode cL_law 1219 = .ok (.aload_n 2, 1) := by decide +kernel
theorem dL_law_1220 : decode cL_law 1220 = .ok (.aload_n 0, 1) := by decide +kernel
theorem dL_law_1221 : decode cL_law 1221 = .ok (.iload 4, 2) := by decide +kernel
theorem dL_law_1223 : decode cL_law 1223 = .ok (.iconst 1, 1) := by decide +kernel
theorem dL_law_1224 : decode cL_law 1224 = .ok (.iadd, 1) := by decide +kernel
theorem dL_law_1225 : decode cL_law 1225 = .ok (.iaload, 1) := by decide +kernel
theorem dL_law_1226 : decode cL_law 1226 = .ok (.aload_n 0, 1) := by decide +kernel
theorem dL_law_1227 : decode cL_law 1227 = .ok (.iload 4, 2) := by decide +kernel
theorem dL_law_1229 : decode cL_law 1229 = .ok (.iconst 2, 1) := by decide +kernel
theorem dL_law_1230 : decode cL_law 1230 = .ok (.iadd, 1) := by decide +kernel
theorem dL_law_1231 : decode cL_law 1231 = .ok (.iaload, 1) := by decide +kernel
theorem dL_law_1232 : decode cL_law 1232 = .ok (.invokevirtual 153, 3) := by decide +kernel
theorem dL_law_1235 : decode cL_law 1235 = .ok (.istore 6, 2) := by decide +kernel
theorem dL_law_1237 : decode cL_law 1237 = .ok (.aload_n 2, 1) := by decide +kernel
theorem dL_law_1238 : decode cL_law 1238 = .ok (.invokevirtual 82, 3) := by decide +kernel
theorem dL_law_1241 : decode cL_law 1241 = .ok (.iload 5, 2) := by decide +kernel
theorem dL_law_1243 : decode cL_law 1243 = .ok (.if_icmp .eq 5, 3) := by decide +kernel
theorem dL_law_1246 : decode cL_law 1246 = .ok (.iconst 0, 1) := by decide +kernel
theorem dL_law_1247 : decode cL_law 1247 = .ok (.ireturn, 1) := by decide +kernel
theorem dL_law_1248 : decode cL_law 1248 = .ok (.iload 5, 2) := by decide +kernel
theorem dL_law_1250 : decode cL_law 1250 = .ok (.ifCond .ne 15, 3) := by decide +kernel
theorem dL_law_1253 : decode cL_law 1253 = .ok (.aload_n 3, 1) := by decide +kernel
theorem dL_law_1254 : decode cL_law 1254 = .ok (.iconst 0, 1) := by decide +kernel
theorem dL_law_1255 : decode cL_law 1255 = .ok (.laload, 1) := by decide +kernel
theorem dL_law_1256 : decode cL_law 1256 = .ok (.iload 6, 2) := by decide +kernel
theorem dL_law_1258 : decode cL_law 1258 = .ok (.i2l, 1) := by decide +kernel
theorem dL_law_1259 : decode cL_law 1259 = .ok (.lcmp, 1) := by decide +kernel
theorem dL_law_1260 : decode cL_law 1260 = .ok (.ifCond .eq 5, 3) := by decide +kernel
theorem dL_law_1263 : decode cL_law 1263 = .ok (.iconst 0, 1) := by decide +kernel
theorem dL_law_1264 : decode cL_law 1264 = .ok (.ireturn, 1) := by decide +kernel
theorem dL_law_1265 : decode cL_law 1265 = .ok (.goto 127, 3) := by decide +kernel
theorem dL_law_1268 : decode cL_law 1268 = .ok (.aload_n 1, 1) := by decide +kernel
theorem dL_law_1269 : decode cL_law 1269 = .ok (.invokevirtual 154, 3) := by decide +kernel
theorem dL_law_1272 : decode cL_law 1272 = .ok (.aload_n 2, 1) := by decide +kernel
theorem dL_law_1273 : decode cL_law 1273 = .ok (.invokevirtual 157, 3) := by decide +kernel
theorem dL_law_1276 : decode cL_law 1276 = .ok (.if_icmp .eq 116, 3) := by decide +kernel
theorem dL_law_1279 : decode cL_law 1279 = .ok (.iconst 0, 1) := by decide +kernel
theorem dL_law_1280 : decode cL_law 1280 = .ok (.ireturn, 1) := by decide +kernel
theorem dL_law_1281 : decode cL_law 1281 = .ok (.aload_n 1, 1) := by decide +kernel
theorem dL_law_1282 : decode cL_law 1282 = .ok (.invokevirtual 158, 3) := by decide +kernel
theorem dL_law_1285 : decode cL_law 1285 = .ok (.aload_n 2, 1) := by decide +kernel
theorem dL_law_1286 : decode cL_law 1286 = .ok (.invokevirtual 161, 3) := by decide +kernel
theorem dL_law_1289 : decode cL_law 1289 = .ok (.if_icmp .eq 103, 3) := by decide +kernel
theorem dL_law_1292 : decode cL_law 1292 = .ok (.iconst 0, 1) := by decide +kernel
theorem dL_law_1293 : decode cL_law 1293 = .ok (.ireturn, 1) := by decide +kernel
theorem dL_law_1294 : decode cL_law 1294 = .ok (.aload_n 1, 1) := by decide +kernel
theorem dL_law_1295 : decode cL_law 1295 = .ok (.invokevirtual 162, 3) := by decide +kernel
theorem dL_law_1298 : decode cL_law 1298 = .ok (.dstore 5, 2) := by decide +kernel
theorem dL_law_1300 : decode cL_law 1300 = .ok (.aload_n 2, 1) := by decide +kernel
theorem dL_law_1301 : decode cL_law 1301 = .ok (.invokevirtual 166, 3) := by decide +kernel
theorem dL_law_1304 : decode cL_law 1304 = .ok (.dstore 7, 2) := by decide +kernel
theorem dL_law_1306 : decode cL_law 1306 = .ok (.dload 5, 2) := by decide +kernel
theorem dL_law_1308 : decode cL_law 1308 = .ok (.dload 7, 2) := by decide +kernel
theorem dL_law_1310 : decode cL_law 1310 = .ok (.dcmp .l, 1) := by decide +kernel
theorem dL_law_1311 : decode cL_law 1311 = .ok (.ifCond .eq 21, 3) := by decide +kernel
theorem dL_law_1314 : decode cL_law 1314 = .ok (.dload 5, 2) := by decide +kernel
theorem dL_law_1316 : decode cL_law 1316 = .ok (.dload 5, 2) := by decide +kernel
theorem dL_law_1318 : decode cL_law 1318 = .ok (.dcmp .l, 1) := by decide +kernel
theorem dL_law_1319 : decode cL_law 1319 = .ok (.ifCond .eq 11, 3) := by decide +kernel
theorem dL_law_1322 : decode cL_law 1322 = .ok (.dload 7, 2) := by decide +kernel
theorem dL_law_1324 : decode cL_law 1324 = .ok (.dload 7, 2) := by decide +kernel
theorem dL_law_1326 : decode cL_law 1326 = .ok (.dcmp .l, 1) := by decide +kernel
theorem dL_law_1327 : decode cL_law 1327 = .ok (.ifCond .ne 5, 3) := by decide +kernel
theorem dL_law_1330 : decode cL_law 1330 = .ok (.iconst 0, 1) := by decide +kernel
theorem dL_law_1331 : decode cL_law 1331 = .ok (.ireturn, 1) := by decide +kernel
theorem dL_law_1332 : decode cL_law 1332 = .ok (.goto 60, 3) := by decide +kernel
theorem dL_law_1335 : decode cL_law 1335 = .ok (.aload_n 1, 1) := by decide +kernel
theorem dL_law_1336 : decode cL_law 1336 = .ok (.invokevirtual 167, 3) := by decide +kernel
theorem dL_law_1339 : decode cL_law 1339 = .ok (.f2d, 1) := by decide +kernel
theorem dL_law_1340 : decode cL_law 1340 = .ok (.dstore 5, 2) := by decide +kernel
theorem dL_law_1342 : decode cL_law 1342 = .ok (.aload_n 2, 1) := by decide +kernel
theorem dL_law_1343 : decode cL_law 1343 = .ok (.invokevirtual 171, 3) := by decide +kernel
theorem dL_law_1346 : decode cL_law 1346 = .ok (.f2d, 1) := by decide +kernel
theorem dL_law_1347 : decode cL_law 1347 = .ok (.dstore 7, 2) := by decide +kernel
theorem dL_law_1349 : decode cL_law 1349 = .ok (.dload 5, 2) := by decide +kernel
theorem dL_law_1351 : decode cL_law 1351 = .ok (.dload 7, 2) := by decide +kernel
theorem dL_law_1353 : decode cL_law 1353 = .ok (.dcmp .l, 1) := by decide +kernel
theorem dL_law_1354 : decode cL_law 1354 = .ok (.ifCond .eq 21, 3) := by decide +kernel
theorem dL_law_1357 : decode cL_law 1357 = .ok (.dload 5, 2) := by decide +kernel
theorem dL_law_1359 : decode cL_law 1359 = .ok (.dload 5, 2) := by decide +kernel
theorem dL_law_1361 : decode cL_law 1361 = .ok (.dcmp .l, 1) := by decide +kernel
theorem dL_law_1362 : decode cL_law 1362 = .ok (.ifCond .eq 11, 3) := by decide +kernel
theorem dL_law_1365 : decode cL_law 1365 = .ok (.dload 7, 2) := by decide +kernel
theorem dL_law_1367 : decode cL_law 1367 = .ok (.dload 7, 2) := by decide +kernel
theorem dL_law_1369 : decode cL_law 1369 = .ok (.dcmp .l, 1) := by decide +kernel
theorem dL_law_1370 : decode cL_law 1370 = .ok (.ifCond .ne 5, 3) := by decide +kernel
theorem dL_law_1373 : decode cL_law 1373 = .ok (.iconst 0, 1) := by decide +kernel
theorem dL_law_1374 : decode cL_law 1374 = .ok (.ireturn, 1) := by decide +kernel
theorem dL_law_1375 : decode cL_law 1375 = .ok (.goto 17, 3) := by decide +kernel
theorem dL_law_1378 : decode cL_law 1378 = .ok (.aload_n 1, 1) := by decide +kernel
theorem dL_law_1379 : decode cL_law 1379 = .ok (.invokevirtual 172, 3) := by decide +kernel
theorem dL_law_1382 : decode cL_law 1382 = .ok (.aload_n 2, 1) := by decide +kernel
theorem dL_law_1383 : decode cL_law 1383 = .ok (.invokevirtual 176, 3) := by decide +kernel
theorem dL_law_1386 : decode cL_law 1386 = .ok (.lcmp, 1) := by decide +kernel
theorem dL_law_1387 : decode cL_law 1387 = .ok (.ifCond .eq 5, 3) := by decide +kernel
theorem dL_law_1390 : decode cL_law 1390 = .ok (.iconst 0, 1) := by decide +kernel
theorem dL_law_1391 : decode cL_law 1391 = .ok (.ireturn, 1) := by decide +kernel
theorem dL_law_1392 : decode cL_law 1392 = .ok (.iinc 4 3, 3) := by decide +kernel
theorem dL_law_1395 : decode cL_law 1395 = .ok (.goto (-1372), 3) := by decide +kernel
theorem dL_law_1398 : decode cL_law 1398 = .ok (.iconst 1, 1) := by decide +kernel
theorem dL_law_1399 : decode cL_law 1399 = .ok (.ireturn, 1) := by decide +kernel
end
