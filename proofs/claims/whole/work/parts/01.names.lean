-- ===== PART A: goes FIRST, ahead of the names: the tables' words, and 'selects' of the private methods out of them =====
/-- a private method of a class that the tables say can be made, by its rows of tables_1 -/
def lw_okq (q : MethodName × Nat) : Prop := (q.1.cls ≠ "java/lang/invoke/MethodHandle" ∧ q.1.cls ≠ "java/lang/invoke/VarHandle") ∧ Cond.instantiable q.1.cls q.2 ∈ tables_1 ∧ Cond.privateMethod q.1 ∈ tables_1 ∧ Cond.instanceMethod q.1 ∈ tables_1
theorem lw_p0 : lw_okq (⟨"java/util/ArrayList", "add", "(Ljava/lang/Object;[Ljava/lang/Object;I)V"⟩, 3) := ⟨⟨by decide +kernel, by decide +kernel⟩, List.mem_of_getElem? (i := 49) (by decide +kernel), List.mem_of_getElem? (i := 296) (by decide +kernel), List.mem_of_getElem? (i := 297) (by decide +kernel)⟩
theorem lw_p1 : lw_okq (⟨"java/util/ArrayList", "grow", "()[Ljava/lang/Object;"⟩, 3) := ⟨⟨by decide +kernel, by decide +kernel⟩, List.mem_of_getElem? (i := 49) (by decide +kernel), List.mem_of_getElem? (i := 300) (by decide +kernel), List.mem_of_getElem? (i := 301) (by decide +kernel)⟩
theorem lw_p2 : lw_okq (⟨"java/util/ArrayList", "grow", "(I)[Ljava/lang/Object;"⟩, 3) := ⟨⟨by decide +kernel, by decide +kernel⟩, List.mem_of_getElem? (i := 49) (by decide +kernel), List.mem_of_getElem? (i := 304) (by decide +kernel), List.mem_of_getElem? (i := 305) (by decide +kernel)⟩
theorem lw_p3 : lw_okq (⟨"ShadowBand", "pieceAt", "(I)LShadowBand$Piece;"⟩, 6) := ⟨⟨by decide +kernel, by decide +kernel⟩, List.mem_of_getElem? (i := 20) (by decide +kernel), List.mem_of_getElem? (i := 350) (by decide +kernel), List.mem_of_getElem? (i := 351) (by decide +kernel)⟩
theorem lw_p4 : lw_okq (⟨"ShadowBand$Piece", "findWays", "()V"⟩, 14) := ⟨⟨by decide +kernel, by decide +kernel⟩, List.mem_of_getElem? (i := 234) (by decide +kernel), List.mem_of_getElem? (i := 372) (by decide +kernel), List.mem_of_getElem? (i := 373) (by decide +kernel)⟩
theorem lw_p5 : lw_okq (⟨"ShadowBand$Piece", "fewestFrom", "(II)I"⟩, 14) := ⟨⟨by decide +kernel, by decide +kernel⟩, List.mem_of_getElem? (i := 234) (by decide +kernel), List.mem_of_getElem? (i := 376) (by decide +kernel), List.mem_of_getElem? (i := 377) (by decide +kernel)⟩
theorem lw_p6 : lw_okq (⟨"ShadowBand$Piece", "nextOf", "(I)I"⟩, 14) := ⟨⟨by decide +kernel, by decide +kernel⟩, List.mem_of_getElem? (i := 234) (by decide +kernel), List.mem_of_getElem? (i := 389) (by decide +kernel), List.mem_of_getElem? (i := 390) (by decide +kernel)⟩
theorem lw_p7 : lw_okq (⟨"ShadowBand$Piece", "fewestAmong", "(II)I"⟩, 14) := ⟨⟨by decide +kernel, by decide +kernel⟩, List.mem_of_getElem? (i := 234) (by decide +kernel), List.mem_of_getElem? (i := 393) (by decide +kernel), List.mem_of_getElem? (i := 394) (by decide +kernel)⟩
theorem lw_p8 : lw_okq (⟨"ShadowBand$Piece", "leader", "(II)I"⟩, 14) := ⟨⟨by decide +kernel, by decide +kernel⟩, List.mem_of_getElem? (i := 234) (by decide +kernel), List.mem_of_getElem? (i := 397) (by decide +kernel), List.mem_of_getElem? (i := 398) (by decide +kernel)⟩
theorem lw_p9 : lw_okq (⟨"ShadowBand$Planner", "fitPieces", "(IILjava/util/ArrayList;)V"⟩, 13) := ⟨⟨by decide +kernel, by decide +kernel⟩, List.mem_of_getElem? (i := 75) (by decide +kernel), List.mem_of_getElem? (i := 486) (by decide +kernel), List.mem_of_getElem? (i := 487) (by decide +kernel)⟩
theorem lw_p10 : lw_okq (⟨"ShadowBand$Planner", "weighJoins", "(Ljava/util/ArrayList;)V"⟩, 13) := ⟨⟨by decide +kernel, by decide +kernel⟩, List.mem_of_getElem? (i := 75) (by decide +kernel), List.mem_of_getElem? (i := 498) (by decide +kernel), List.mem_of_getElem? (i := 499) (by decide +kernel)⟩
theorem lw_p11 : lw_okq (⟨"ShadowBand$Planner", "shareBits", "(Ljava/util/ArrayList;)V"⟩, 13) := ⟨⟨by decide +kernel, by decide +kernel⟩, List.mem_of_getElem? (i := 75) (by decide +kernel), List.mem_of_getElem? (i := 504) (by decide +kernel), List.mem_of_getElem? (i := 505) (by decide +kernel)⟩
theorem lw_p12 : lw_okq (⟨"ShadowBand$Planner", "canBePlayed", "(I)Z"⟩, 13) := ⟨⟨by decide +kernel, by decide +kernel⟩, List.mem_of_getElem? (i := 75) (by decide +kernel), List.mem_of_getElem? (i := 508) (by decide +kernel), List.mem_of_getElem? (i := 509) (by decide +kernel)⟩
theorem lw_p13 : lw_okq (⟨"ShadowBand$Planner", "makeRoom", "()V"⟩, 13) := ⟨⟨by decide +kernel, by decide +kernel⟩, List.mem_of_getElem? (i := 75) (by decide +kernel), List.mem_of_getElem? (i := 512) (by decide +kernel), List.mem_of_getElem? (i := 513) (by decide +kernel)⟩
theorem lw_p14 : lw_okq (⟨"ShadowBand$Planner", "leastFrom", "(III)I"⟩, 13) := ⟨⟨by decide +kernel, by decide +kernel⟩, List.mem_of_getElem? (i := 75) (by decide +kernel), List.mem_of_getElem? (i := 521) (by decide +kernel), List.mem_of_getElem? (i := 522) (by decide +kernel)⟩
theorem lw_p15 : lw_okq (⟨"ShadowBand$Planner", "placeOf", "(III)I"⟩, 13) := ⟨⟨by decide +kernel, by decide +kernel⟩, List.mem_of_getElem? (i := 75) (by decide +kernel), List.mem_of_getElem? (i := 525) (by decide +kernel), List.mem_of_getElem? (i := 526) (by decide +kernel)⟩
def lw_privs_1 : List (MethodName × Nat) := [(⟨"java/util/ArrayList", "add", "(Ljava/lang/Object;[Ljava/lang/Object;I)V"⟩, 3), (⟨"java/util/ArrayList", "grow", "()[Ljava/lang/Object;"⟩, 3), (⟨"java/util/ArrayList", "grow", "(I)[Ljava/lang/Object;"⟩, 3), (⟨"ShadowBand", "pieceAt", "(I)LShadowBand$Piece;"⟩, 6), (⟨"ShadowBand$Piece", "findWays", "()V"⟩, 14), (⟨"ShadowBand$Piece", "fewestFrom", "(II)I"⟩, 14), (⟨"ShadowBand$Piece", "nextOf", "(I)I"⟩, 14), (⟨"ShadowBand$Piece", "fewestAmong", "(II)I"⟩, 14), (⟨"ShadowBand$Piece", "leader", "(II)I"⟩, 14), (⟨"ShadowBand$Planner", "fitPieces", "(IILjava/util/ArrayList;)V"⟩, 13), (⟨"ShadowBand$Planner", "weighJoins", "(Ljava/util/ArrayList;)V"⟩, 13), (⟨"ShadowBand$Planner", "shareBits", "(Ljava/util/ArrayList;)V"⟩, 13), (⟨"ShadowBand$Planner", "canBePlayed", "(I)Z"⟩, 13), (⟨"ShadowBand$Planner", "makeRoom", "()V"⟩, 13), (⟨"ShadowBand$Planner", "leastFrom", "(III)I"⟩, 13), (⟨"ShadowBand$Planner", "placeOf", "(III)I"⟩, 13)]
theorem lw_r1 : ∀ q ∈ lw_privs_1, lw_okq q := List.forall_mem_cons.mpr ⟨lw_p0, List.forall_mem_cons.mpr ⟨lw_p1, List.forall_mem_cons.mpr ⟨lw_p2, List.forall_mem_cons.mpr ⟨lw_p3, List.forall_mem_cons.mpr ⟨lw_p4, List.forall_mem_cons.mpr ⟨lw_p5, List.forall_mem_cons.mpr ⟨lw_p6, List.forall_mem_cons.mpr ⟨lw_p7, List.forall_mem_cons.mpr ⟨lw_p8, List.forall_mem_cons.mpr ⟨lw_p9, List.forall_mem_cons.mpr ⟨lw_p10, List.forall_mem_cons.mpr ⟨lw_p11, List.forall_mem_cons.mpr ⟨lw_p12, List.forall_mem_cons.mpr ⟨lw_p13, List.forall_mem_cons.mpr ⟨lw_p14, List.forall_mem_cons.mpr ⟨lw_p15, fun _ h => absurd h List.not_mem_nil⟩⟩⟩⟩⟩⟩⟩⟩⟩⟩⟩⟩⟩⟩⟩⟩
theorem lw_p16 : lw_okq (⟨"ShadowBand$Planner", "costWith", "(IIII)I"⟩, 13) := ⟨⟨by decide +kernel, by decide +kernel⟩, List.mem_of_getElem? (i := 75) (by decide +kernel), List.mem_of_getElem? (i := 530) (by decide +kernel), List.mem_of_getElem? (i := 531) (by decide +kernel)⟩
theorem lw_p17 : lw_okq (⟨"ShadowBand$Planner", "firstOfLeast", "(III)I"⟩, 13) := ⟨⟨by decide +kernel, by decide +kernel⟩, List.mem_of_getElem? (i := 75) (by decide +kernel), List.mem_of_getElem? (i := 539) (by decide +kernel), List.mem_of_getElem? (i := 540) (by decide +kernel)⟩
theorem lw_p18 : lw_okq (⟨"ShadowBand$Night", "enter", "(LShadowBand$Part;)V"⟩, 13) := ⟨⟨by decide +kernel, by decide +kernel⟩, List.mem_of_getElem? (i := 605) (by decide +kernel), List.mem_of_getElem? (i := 611) (by decide +kernel), List.mem_of_getElem? (i := 612) (by decide +kernel)⟩
theorem lw_p19 : lw_okq (⟨"ShadowBand$Night", "tick", "()V"⟩, 13) := ⟨⟨by decide +kernel, by decide +kernel⟩, List.mem_of_getElem? (i := 605) (by decide +kernel), List.mem_of_getElem? (i := 675) (by decide +kernel), List.mem_of_getElem? (i := 676) (by decide +kernel)⟩
theorem lw_p20 : lw_okq (⟨"ShadowBand$Night", "beatsDone", "()I"⟩, 13) := ⟨⟨by decide +kernel, by decide +kernel⟩, List.mem_of_getElem? (i := 605) (by decide +kernel), List.mem_of_getElem? (i := 679) (by decide +kernel), List.mem_of_getElem? (i := 680) (by decide +kernel)⟩
theorem lw_p21 : lw_okq (⟨"ShadowBand$Night", "turn", "()V"⟩, 13) := ⟨⟨by decide +kernel, by decide +kernel⟩, List.mem_of_getElem? (i := 605) (by decide +kernel), List.mem_of_getElem? (i := 687) (by decide +kernel), List.mem_of_getElem? (i := 688) (by decide +kernel)⟩
theorem lw_p22 : lw_okq (⟨"ShadowBand$Night", "takeCue", "()V"⟩, 13) := ⟨⟨by decide +kernel, by decide +kernel⟩, List.mem_of_getElem? (i := 605) (by decide +kernel), List.mem_of_getElem? (i := 695) (by decide +kernel), List.mem_of_getElem? (i := 696) (by decide +kernel)⟩
theorem lw_p23 : lw_okq (⟨"ShadowBand$Drummer", "isEnoughWithout", "(I)Z"⟩, 5) := ⟨⟨by decide +kernel, by decide +kernel⟩, List.mem_of_getElem? (i := 121) (by decide +kernel), List.mem_of_getElem? (i := 790) (by decide +kernel), List.mem_of_getElem? (i := 791) (by decide +kernel)⟩
theorem lw_p24 : lw_okq (⟨"ShadowBand", "allBlocks", "()I"⟩, 6) := ⟨⟨by decide +kernel, by decide +kernel⟩, List.mem_of_getElem? (i := 20) (by decide +kernel), List.mem_of_getElem? (i := 798) (by decide +kernel), List.mem_of_getElem? (i := 799) (by decide +kernel)⟩
theorem lw_p25 : lw_okq (⟨"ShadowBand", "allPlays", "()I"⟩, 6) := ⟨⟨by decide +kernel, by decide +kernel⟩, List.mem_of_getElem? (i := 20) (by decide +kernel), List.mem_of_getElem? (i := 806) (by decide +kernel), List.mem_of_getElem? (i := 807) (by decide +kernel)⟩
theorem lw_p26 : lw_okq (⟨"ShadowBandModel", "firstOf", "(I)I"⟩, 58) := ⟨⟨by decide +kernel, by decide +kernel⟩, List.mem_of_getElem? (i := 810) (by decide +kernel), List.mem_of_getElem? (i := 1011) (by decide +kernel), List.mem_of_getElem? (i := 1012) (by decide +kernel)⟩
theorem lw_p27 : lw_okq (⟨"ShadowBandModel", "framesOf", "(I)I"⟩, 58) := ⟨⟨by decide +kernel, by decide +kernel⟩, List.mem_of_getElem? (i := 810) (by decide +kernel), List.mem_of_getElem? (i := 1015) (by decide +kernel), List.mem_of_getElem? (i := 1016) (by decide +kernel)⟩
theorem lw_p28 : lw_okq (⟨"ShadowBandModel", "allFrames", "()I"⟩, 58) := ⟨⟨by decide +kernel, by decide +kernel⟩, List.mem_of_getElem? (i := 810) (by decide +kernel), List.mem_of_getElem? (i := 1023) (by decide +kernel), List.mem_of_getElem? (i := 1024) (by decide +kernel)⟩
theorem lw_p29 : lw_okq (⟨"ShadowBandModel", "isPiece", "(I)Z"⟩, 58) := ⟨⟨by decide +kernel, by decide +kernel⟩, List.mem_of_getElem? (i := 810) (by decide +kernel), List.mem_of_getElem? (i := 1036) (by decide +kernel), List.mem_of_getElem? (i := 1037) (by decide +kernel)⟩
theorem lw_p30 : lw_okq (⟨"ShadowBandModel", "findWays", "(I)V"⟩, 58) := ⟨⟨by decide +kernel, by decide +kernel⟩, List.mem_of_getElem? (i := 810) (by decide +kernel), List.mem_of_getElem? (i := 1044) (by decide +kernel), List.mem_of_getElem? (i := 1045) (by decide +kernel)⟩
theorem lw_p31 : lw_okq (⟨"ShadowBandModel", "wayFor", "(II)I"⟩, 58) := ⟨⟨by decide +kernel, by decide +kernel⟩, List.mem_of_getElem? (i := 810) (by decide +kernel), List.mem_of_getElem? (i := 1051) (by decide +kernel), List.mem_of_getElem? (i := 1052) (by decide +kernel)⟩
def lw_privs_2 : List (MethodName × Nat) := [(⟨"ShadowBand$Planner", "costWith", "(IIII)I"⟩, 13), (⟨"ShadowBand$Planner", "firstOfLeast", "(III)I"⟩, 13), (⟨"ShadowBand$Night", "enter", "(LShadowBand$Part;)V"⟩, 13), (⟨"ShadowBand$Night", "tick", "()V"⟩, 13), (⟨"ShadowBand$Night", "beatsDone", "()I"⟩, 13), (⟨"ShadowBand$Night", "turn", "()V"⟩, 13), (⟨"ShadowBand$Night", "takeCue", "()V"⟩, 13), (⟨"ShadowBand$Drummer", "isEnoughWithout", "(I)Z"⟩, 5), (⟨"ShadowBand", "allBlocks", "()I"⟩, 6), (⟨"ShadowBand", "allPlays", "()I"⟩, 6), (⟨"ShadowBandModel", "firstOf", "(I)I"⟩, 58), (⟨"ShadowBandModel", "framesOf", "(I)I"⟩, 58), (⟨"ShadowBandModel", "allFrames", "()I"⟩, 58), (⟨"ShadowBandModel", "isPiece", "(I)Z"⟩, 58), (⟨"ShadowBandModel", "findWays", "(I)V"⟩, 58), (⟨"ShadowBandModel", "wayFor", "(II)I"⟩, 58)]
theorem lw_r2 : ∀ q ∈ lw_privs_2, lw_okq q := List.forall_mem_cons.mpr ⟨lw_p16, List.forall_mem_cons.mpr ⟨lw_p17, List.forall_mem_cons.mpr ⟨lw_p18, List.forall_mem_cons.mpr ⟨lw_p19, List.forall_mem_cons.mpr ⟨lw_p20, List.forall_mem_cons.mpr ⟨lw_p21, List.forall_mem_cons.mpr ⟨lw_p22, List.forall_mem_cons.mpr ⟨lw_p23, List.forall_mem_cons.mpr ⟨lw_p24, List.forall_mem_cons.mpr ⟨lw_p25, List.forall_mem_cons.mpr ⟨lw_p26, List.forall_mem_cons.mpr ⟨lw_p27, List.forall_mem_cons.mpr ⟨lw_p28, List.forall_mem_cons.mpr ⟨lw_p29, List.forall_mem_cons.mpr ⟨lw_p30, List.forall_mem_cons.mpr ⟨lw_p31, fun _ h => absurd h List.not_mem_nil⟩⟩⟩⟩⟩⟩⟩⟩⟩⟩⟩⟩⟩⟩⟩⟩
theorem lw_p32 : lw_okq (⟨"ShadowBandModel", "begins", "(II)Z"⟩, 58) := ⟨⟨by decide +kernel, by decide +kernel⟩, List.mem_of_getElem? (i := 810) (by decide +kernel), List.mem_of_getElem? (i := 1055) (by decide +kernel), List.mem_of_getElem? (i := 1056) (by decide +kernel)⟩
theorem lw_p33 : lw_okq (⟨"ShadowBandModel", "misfitOf", "(III)I"⟩, 58) := ⟨⟨by decide +kernel, by decide +kernel⟩, List.mem_of_getElem? (i := 810) (by decide +kernel), List.mem_of_getElem? (i := 1068) (by decide +kernel), List.mem_of_getElem? (i := 1069) (by decide +kernel)⟩
theorem lw_p34 : lw_okq (⟨"ShadowBandModel", "shortest", "(II)I"⟩, 58) := ⟨⟨by decide +kernel, by decide +kernel⟩, List.mem_of_getElem? (i := 810) (by decide +kernel), List.mem_of_getElem? (i := 1072) (by decide +kernel), List.mem_of_getElem? (i := 1073) (by decide +kernel)⟩
theorem lw_p35 : lw_okq (⟨"ShadowBandModel", "longest", "(II)I"⟩, 58) := ⟨⟨by decide +kernel, by decide +kernel⟩, List.mem_of_getElem? (i := 810) (by decide +kernel), List.mem_of_getElem? (i := 1076) (by decide +kernel), List.mem_of_getElem? (i := 1077) (by decide +kernel)⟩
theorem lw_p36 : lw_okq (⟨"ShadowBandModel", "bestFor", "(II)I"⟩, 58) := ⟨⟨by decide +kernel, by decide +kernel⟩, List.mem_of_getElem? (i := 810) (by decide +kernel), List.mem_of_getElem? (i := 1087) (by decide +kernel), List.mem_of_getElem? (i := 1088) (by decide +kernel)⟩
theorem lw_p37 : lw_okq (⟨"ShadowBandModel", "hasWay", "(II)Z"⟩, 58) := ⟨⟨by decide +kernel, by decide +kernel⟩, List.mem_of_getElem? (i := 810) (by decide +kernel), List.mem_of_getElem? (i := 1091) (by decide +kernel), List.mem_of_getElem? (i := 1092) (by decide +kernel)⟩
theorem lw_p38 : lw_okq (⟨"ShadowBandModel", "mayBe", "(I)Z"⟩, 58) := ⟨⟨by decide +kernel, by decide +kernel⟩, List.mem_of_getElem? (i := 810) (by decide +kernel), List.mem_of_getElem? (i := 1111) (by decide +kernel), List.mem_of_getElem? (i := 1112) (by decide +kernel)⟩
theorem lw_p39 : lw_okq (⟨"ShadowBandModel", "costTo", "(I)I"⟩, 58) := ⟨⟨by decide +kernel, by decide +kernel⟩, List.mem_of_getElem? (i := 810) (by decide +kernel), List.mem_of_getElem? (i := 1115) (by decide +kernel), List.mem_of_getElem? (i := 1116) (by decide +kernel)⟩
theorem lw_p40 : lw_okq (⟨"ShadowBandModel", "beginPiece", "(I)V"⟩, 58) := ⟨⟨by decide +kernel, by decide +kernel⟩, List.mem_of_getElem? (i := 810) (by decide +kernel), List.mem_of_getElem? (i := 1127) (by decide +kernel), List.mem_of_getElem? (i := 1128) (by decide +kernel)⟩
theorem lw_p41 : lw_okq (⟨"ShadowBandModel", "tenth", "()V"⟩, 58) := ⟨⟨by decide +kernel, by decide +kernel⟩, List.mem_of_getElem? (i := 810) (by decide +kernel), List.mem_of_getElem? (i := 1135) (by decide +kernel), List.mem_of_getElem? (i := 1136) (by decide +kernel)⟩
theorem lw_p42 : lw_okq (⟨"ShadowBandModel", "doneBeats", "()I"⟩, 58) := ⟨⟨by decide +kernel, by decide +kernel⟩, List.mem_of_getElem? (i := 810) (by decide +kernel), List.mem_of_getElem? (i := 1139) (by decide +kernel), List.mem_of_getElem? (i := 1140) (by decide +kernel)⟩
theorem lw_p43 : lw_okq (⟨"ShadowBandModel", "endBlock", "()V"⟩, 58) := ⟨⟨by decide +kernel, by decide +kernel⟩, List.mem_of_getElem? (i := 810) (by decide +kernel), List.mem_of_getElem? (i := 1143) (by decide +kernel), List.mem_of_getElem? (i := 1144) (by decide +kernel)⟩
theorem lw_p44 : lw_okq (⟨"ShadowBandModel", "blockNow", "()I"⟩, 58) := ⟨⟨by decide +kernel, by decide +kernel⟩, List.mem_of_getElem? (i := 810) (by decide +kernel), List.mem_of_getElem? (i := 1147) (by decide +kernel), List.mem_of_getElem? (i := 1148) (by decide +kernel)⟩
theorem lw_p45 : lw_okq (⟨"ShadowBandModel", "freeIn", "(II)I"⟩, 58) := ⟨⟨by decide +kernel, by decide +kernel⟩, List.mem_of_getElem? (i := 810) (by decide +kernel), List.mem_of_getElem? (i := 1184) (by decide +kernel), List.mem_of_getElem? (i := 1185) (by decide +kernel)⟩
def lw_privs_3 : List (MethodName × Nat) := [(⟨"ShadowBandModel", "begins", "(II)Z"⟩, 58), (⟨"ShadowBandModel", "misfitOf", "(III)I"⟩, 58), (⟨"ShadowBandModel", "shortest", "(II)I"⟩, 58), (⟨"ShadowBandModel", "longest", "(II)I"⟩, 58), (⟨"ShadowBandModel", "bestFor", "(II)I"⟩, 58), (⟨"ShadowBandModel", "hasWay", "(II)Z"⟩, 58), (⟨"ShadowBandModel", "mayBe", "(I)Z"⟩, 58), (⟨"ShadowBandModel", "costTo", "(I)I"⟩, 58), (⟨"ShadowBandModel", "beginPiece", "(I)V"⟩, 58), (⟨"ShadowBandModel", "tenth", "()V"⟩, 58), (⟨"ShadowBandModel", "doneBeats", "()I"⟩, 58), (⟨"ShadowBandModel", "endBlock", "()V"⟩, 58), (⟨"ShadowBandModel", "blockNow", "()I"⟩, 58), (⟨"ShadowBandModel", "freeIn", "(II)I"⟩, 58)]
theorem lw_r3 : ∀ q ∈ lw_privs_3, lw_okq q := List.forall_mem_cons.mpr ⟨lw_p32, List.forall_mem_cons.mpr ⟨lw_p33, List.forall_mem_cons.mpr ⟨lw_p34, List.forall_mem_cons.mpr ⟨lw_p35, List.forall_mem_cons.mpr ⟨lw_p36, List.forall_mem_cons.mpr ⟨lw_p37, List.forall_mem_cons.mpr ⟨lw_p38, List.forall_mem_cons.mpr ⟨lw_p39, List.forall_mem_cons.mpr ⟨lw_p40, List.forall_mem_cons.mpr ⟨lw_p41, List.forall_mem_cons.mpr ⟨lw_p42, List.forall_mem_cons.mpr ⟨lw_p43, List.forall_mem_cons.mpr ⟨lw_p44, List.forall_mem_cons.mpr ⟨lw_p45, fun _ h => absurd h List.not_mem_nil⟩⟩⟩⟩⟩⟩⟩⟩⟩⟩⟩⟩⟩⟩
def lw_privs : List (MethodName × Nat) := lw_privs_1 ++ (lw_privs_2 ++ (lw_privs_3))
def lw_tbl : List Cond := k2_sels lw_privs ++ tables_1
theorem lw_privs_ok : ∀ q ∈ lw_privs, lw_okq q := by
  show ∀ q ∈ lw_privs_1 ++ (lw_privs_2 ++ (lw_privs_3)), lw_okq q
  exact List.forall_mem_append.mpr ⟨lw_r1, List.forall_mem_append.mpr ⟨lw_r2, lw_r3⟩⟩
def RX0 : String := "ShadowBand$Drummer"
def TX0 : u_T := fun k => match k with
  | 0 => ("ShadowBand$Drummer", "from", "[I", true)
  | 1 => ("ShadowBand$Drummer", "to", "[I", true)
  | 2 => ("ShadowBand$Drummer", "needs", "[I", true)
  | 3 => ("ShadowBand$Drummer", "effects", "I", false)
  | _ => ("ShadowBand$Drummer", "ownHands", "I", false)
def tyX0 : Nat → FieldType := fun k => match k with
  | 0 => .array .int
  | 1 => .array .int
  | 2 => .array .int
  | 3 => .int
  | _ => .int
abbrev wsX00 : List Cond := u_ws RX0 TX0 5
theorem nmX0 : ∀ a, a < 5 → ∀ b, b < 5 → a ≠ b → (TX0 a).2.1 ≠ (TX0 b).2.1 := by decide +kernel
theorem tyX0_ok : ∀ k, k < 5 → parseFieldDescriptor (TX0 k).2.2.1 = some (tyX0 k) := by decide +kernel
abbrev cX0_init : ByteArray := prog_2_method_1_code
def yX0_init : MethodName := ⟨RX0, "<init>", "()V"⟩
abbrev cX0_add : ByteArray := prog_2_method_2_code
def yX0_add : MethodName := ⟨RX0, "add", "(III)I"⟩
abbrev cX0_effectCount : ByteArray := prog_2_method_3_code
def yX0_effectCount : MethodName := ⟨RX0, "effectCount", "()I"⟩
abbrev cX0_changeHands : ByteArray := prog_2_method_4_code
def yX0_changeHands : MethodName := ⟨RX0, "changeHands", "(I)I"⟩
abbrev cX0_freeHands : ByteArray := prog_2_method_5_code
def yX0_freeHands : MethodName := ⟨RX0, "freeHands", "(II)I"⟩
abbrev cX0_firstClash : ByteArray := prog_2_method_6_code
def yX0_firstClash : MethodName := ⟨RX0, "firstClash", "()I"⟩
abbrev cX0_leastLeftOut : ByteArray := prog_2_method_7_code
def yX0_leastLeftOut : MethodName := ⟨RX0, "leastLeftOut", "()I"⟩
abbrev cX0_isAhead : ByteArray := prog_2_method_8_code
def yX0_isAhead : MethodName := ⟨RX0, "isAhead", "(II)Z"⟩
abbrev cX0_isEnoughWithout : ByteArray := prog_2_method_9_code
def yX0_isEnoughWithout : MethodName := ⟨RX0, "isEnoughWithout", "(I)Z"⟩
def RX1 : String := "ShadowBand$Film"
def TX1 : u_T := fun k => match k with
  | 0 => ("ShadowBand$Film", "frames", "[I", true)
  | 1 => ("ShadowBand$Film", "moods", "[I", true)
  | 2 => ("ShadowBand$Film", "cues", "[Z", true)
  | _ => ("ShadowBand$Film", "shots", "I", false)
def tyX1 : Nat → FieldType := fun k => match k with
  | 0 => .array .int
  | 1 => .array .int
  | 2 => .array .boolean
  | _ => .int
abbrev wsX10 : List Cond := u_ws RX1 TX1 4
theorem nmX1 : ∀ a, a < 4 → ∀ b, b < 4 → a ≠ b → (TX1 a).2.1 ≠ (TX1 b).2.1 := by decide +kernel
theorem tyX1_ok : ∀ k, k < 4 → parseFieldDescriptor (TX1 k).2.2.1 = some (tyX1 k) := by decide +kernel
abbrev cX1_init : ByteArray := prog_3_method_1_code
def yX1_init : MethodName := ⟨RX1, "<init>", "()V"⟩
abbrev cX1_add : ByteArray := prog_3_method_2_code
def yX1_add : MethodName := ⟨RX1, "add", "(II)I"⟩
abbrev cX1_shotCount : ByteArray := prog_3_method_3_code
def yX1_shotCount : MethodName := ⟨RX1, "shotCount", "()I"⟩
abbrev cX1_mark : ByteArray := prog_3_method_4_code
def yX1_mark : MethodName := ⟨RX1, "mark", "(II)I"⟩
abbrev cX1_stretchCount : ByteArray := prog_3_method_5_code
def yX1_stretchCount : MethodName := ⟨RX1, "stretchCount", "()I"⟩
abbrev cX1_firstShot : ByteArray := prog_3_method_6_code
def yX1_firstShot : MethodName := ⟨RX1, "firstShot", "(I)I"⟩
abbrev cX1_lastShot : ByteArray := prog_3_method_7_code
def yX1_lastShot : MethodName := ⟨RX1, "lastShot", "(I)I"⟩
abbrev cX1_framesFrom : ByteArray := prog_3_method_8_code
def yX1_framesFrom : MethodName := ⟨RX1, "framesFrom", "(II)I"⟩
abbrev cX1_tenthsFrom : ByteArray := prog_3_method_9_code
def yX1_tenthsFrom : MethodName := ⟨RX1, "tenthsFrom", "(III)I"⟩
abbrev cX1_moodOf : ByteArray := prog_3_method_10_code
def yX1_moodOf : MethodName := ⟨RX1, "moodOf", "(I)I"⟩
def RX2 : String := "ShadowBand$Night"
def TX2 : u_T := fun k => match k with
  | 0 => ("ShadowBand$Night", "parts", "Ljava/util/ArrayList;", true)
  | 1 => ("ShadowBand$Night", "seenAt", "[I", true)
  | 2 => ("ShadowBand$Night", "part", "LShadowBand$Part;", false)
  | 3 => ("ShadowBand$Night", "stretch", "I", false)
  | 4 => ("ShadowBand$Night", "start", "I", false)
  | 5 => ("ShadowBand$Night", "place", "I", false)
  | 6 => ("ShadowBand$Night", "blockEnd", "I", false)
  | 7 => ("ShadowBand$Night", "clock", "I", false)
  | 8 => ("ShadowBand$Night", "vamps", "I", false)
  | 9 => ("ShadowBand$Night", "late", "I", false)
  | 10 => ("ShadowBand$Night", "cuesSeen", "I", false)
  | 11 => ("ShadowBand$Night", "ended", "Z", false)
  | _ => ("ShadowBand$Night", "broken", "Z", false)
def tyX2 : Nat → FieldType := fun k => match k with
  | 0 => .object "java/util/ArrayList"
  | 1 => .array .int
  | 2 => .object "ShadowBand$Part"
  | 3 => .int
  | 4 => .int
  | 5 => .int
  | 6 => .int
  | 7 => .int
  | 8 => .int
  | 9 => .int
  | 10 => .int
  | 11 => .boolean
  | _ => .boolean
abbrev wsX20 : List Cond := u_ws RX2 TX2 13
theorem nmX2 : ∀ a, a < 13 → ∀ b, b < 13 → a ≠ b → (TX2 a).2.1 ≠ (TX2 b).2.1 := by decide +kernel
theorem tyX2_ok : ∀ k, k < 13 → parseFieldDescriptor (TX2 k).2.2.1 = some (tyX2 k) := by decide +kernel
abbrev cX2_init : ByteArray := prog_4_method_1_code
def yX2_init : MethodName := ⟨RX2, "<init>", "(Ljava/util/ArrayList;LShadowBand$Part;)V"⟩
abbrev cX2_enter : ByteArray := prog_4_method_2_code
def yX2_enter : MethodName := ⟨RX2, "enter", "(LShadowBand$Part;)V"⟩
abbrev cX2_hasEnded : ByteArray := prog_4_method_3_code
def yX2_hasEnded : MethodName := ⟨RX2, "hasEnded", "()Z"⟩
abbrev cX2_run : ByteArray := prog_4_method_4_code
def yX2_run : MethodName := ⟨RX2, "run", "(I)I"⟩
abbrev cX2_tick : ByteArray := prog_4_method_5_code
def yX2_tick : MethodName := ⟨RX2, "tick", "()V"⟩
abbrev cX2_beatsDone : ByteArray := prog_4_method_6_code
def yX2_beatsDone : MethodName := ⟨RX2, "beatsDone", "()I"⟩
abbrev cX2_turn : ByteArray := prog_4_method_7_code
def yX2_turn : MethodName := ⟨RX2, "turn", "()V"⟩
abbrev cX2_takeCue : ByteArray := prog_4_method_8_code
def yX2_takeCue : MethodName := ⟨RX2, "takeCue", "()V"⟩
abbrev cX2_seeCue : ByteArray := prog_4_method_9_code
def yX2_seeCue : MethodName := ⟨RX2, "seeCue", "()I"⟩
abbrev cX2_breakReel : ByteArray := prog_4_method_10_code
def yX2_breakReel : MethodName := ⟨RX2, "breakReel", "(I)I"⟩
abbrev cX2_tell : ByteArray := prog_4_method_11_code
def yX2_tell : MethodName := ⟨RX2, "tell", "(I)I"⟩
def RX3 : String := "ShadowBand$Part"
def TX3 : u_T := fun k => match k with
  | 0 => ("ShadowBand$Part", "piece", "LShadowBand$Piece;", true)
  | 1 => ("ShadowBand$Part", "number", "I", true)
  | 2 => ("ShadowBand$Part", "beats", "I", true)
  | 3 => ("ShadowBand$Part", "missed", "I", true)
  | 4 => ("ShadowBand$Part", "stepOn", "I", true)
  | 5 => ("ShadowBand$Part", "span", "I", true)
  | 6 => ("ShadowBand$Part", "row", "[I", true)
  | 7 => ("ShadowBand$Part", "rowBeats", "[I", true)
  | _ => ("ShadowBand$Part", "exits", "I", true)
def tyX3 : Nat → FieldType := fun k => match k with
  | 0 => .object "ShadowBand$Piece"
  | 1 => .int
  | 2 => .int
  | 3 => .int
  | 4 => .int
  | 5 => .int
  | 6 => .array .int
  | 7 => .array .int
  | _ => .int
abbrev wsX30 : List Cond := u_ws RX3 TX3 9
theorem nmX3 : ∀ a, a < 9 → ∀ b, b < 9 → a ≠ b → (TX3 a).2.1 ≠ (TX3 b).2.1 := by decide +kernel
theorem tyX3_ok : ∀ k, k < 9 → parseFieldDescriptor (TX3 k).2.2.1 = some (tyX3 k) := by decide +kernel
abbrev cX3_init : ByteArray := prog_5_method_1_code
def yX3_init : MethodName := ⟨RX3, "<init>", "(LShadowBand$Piece;IIII)V"⟩
abbrev cX3_beatsAfter : ByteArray := prog_5_method_2_code
def yX3_beatsAfter : MethodName := ⟨RX3, "beatsAfter", "(I)I"⟩
abbrev cX3_hasPlace : ByteArray := prog_5_method_3_code
def yX3_hasPlace : MethodName := ⟨RX3, "hasPlace", "(I)Z"⟩
abbrev cX3_blockAt : ByteArray := prog_5_method_4_code
def yX3_blockAt : MethodName := ⟨RX3, "blockAt", "(I)I"⟩
abbrev cX3_beatsAt : ByteArray := prog_5_method_5_code
def yX3_beatsAt : MethodName := ⟨RX3, "beatsAt", "(I)I"⟩
abbrev cX3_isExitAt : ByteArray := prog_5_method_6_code
def yX3_isExitAt : MethodName := ⟨RX3, "isExitAt", "(I)Z"⟩
def RX4 : String := "ShadowBand$Piece"
def TX4 : u_T := fun k => match k with
  | 0 => ("ShadowBand$Piece", "key", "I", true)
  | 1 => ("ShadowBand$Piece", "moods", "I", true)
  | 2 => ("ShadowBand$Piece", "theme", "Z", true)
  | 3 => ("ShadowBand$Piece", "fee", "I", true)
  | 4 => ("ShadowBand$Piece", "blocks", "I", false)
  | 5 => ("ShadowBand$Piece", "plays", "I", false)
  | 6 => ("ShadowBand$Piece", "slow", "I", true)
  | 7 => ("ShadowBand$Piece", "fast", "I", true)
  | 8 => ("ShadowBand$Piece", "beats", "[I", true)
  | 9 => ("ShadowBand$Piece", "next", "[I", true)
  | 10 => ("ShadowBand$Piece", "entries", "I", false)
  | 11 => ("ShadowBand$Piece", "exits", "I", false)
  | 12 => ("ShadowBand$Piece", "fewest", "[I", true)
  | _ => ("ShadowBand$Piece", "lengths", "[I", true)
def tyX4 : Nat → FieldType := fun k => match k with
  | 0 => .int
  | 1 => .int
  | 2 => .boolean
  | 3 => .int
  | 4 => .int
  | 5 => .int
  | 6 => .int
  | 7 => .int
  | 8 => .array .int
  | 9 => .array .int
  | 10 => .int
  | 11 => .int
  | 12 => .array .int
  | _ => .array .int
abbrev wsX40 : List Cond := u_ws RX4 TX4 14
theorem nmX4 : ∀ a, a < 14 → ∀ b, b < 14 → a ≠ b → (TX4 a).2.1 ≠ (TX4 b).2.1 := by decide +kernel
theorem tyX4_ok : ∀ k, k < 14 → parseFieldDescriptor (TX4 k).2.2.1 = some (tyX4 k) := by decide +kernel
abbrev cX4_init : ByteArray := prog_6_method_1_code
def yX4_init : MethodName := ⟨RX4, "<init>", "(IIIIZI)V"⟩
abbrev cX4_add : ByteArray := prog_6_method_2_code
def yX4_add : MethodName := ⟨RX4, "add", "(III)I"⟩
abbrev cX4_beatsOf : ByteArray := prog_6_method_3_code
def yX4_beatsOf : MethodName := ⟨RX4, "beatsOf", "(I)I"⟩
abbrev cX4_isExit : ByteArray := prog_6_method_4_code
def yX4_isExit : MethodName := ⟨RX4, "isExit", "(I)Z"⟩
abbrev cX4_hasMood : ByteArray := prog_6_method_5_code
def yX4_hasMood : MethodName := ⟨RX4, "hasMood", "(I)Z"⟩
abbrev cX4_wayLength : ByteArray := prog_6_method_6_code
def yX4_wayLength : MethodName := ⟨RX4, "wayLength", "(I)I"⟩
abbrev cX4_wayFor : ByteArray := prog_6_method_7_code
def yX4_wayFor : MethodName := ⟨RX4, "wayFor", "(I)[I"⟩
abbrev cX4_nextOf : ByteArray := prog_6_method_8_code
def yX4_nextOf : MethodName := ⟨RX4, "nextOf", "(I)I"⟩
abbrev cX4_findWays : ByteArray := prog_6_method_9_code
def yX4_findWays : MethodName := ⟨RX4, "findWays", "()V"⟩
abbrev cX4_fewestFrom : ByteArray := prog_6_method_10_code
def yX4_fewestFrom : MethodName := ⟨RX4, "fewestFrom", "(II)I"⟩
abbrev cX4_fewestAmong : ByteArray := prog_6_method_11_code
def yX4_fewestAmong : MethodName := ⟨RX4, "fewestAmong", "(II)I"⟩
abbrev cX4_leader : ByteArray := prog_6_method_12_code
def yX4_leader : MethodName := ⟨RX4, "leader", "(II)I"⟩
abbrev cX4_held : ByteArray := prog_6_method_13_code
def yX4_held : MethodName := ⟨RX4, "held", "(II)I"⟩
abbrev cX4_misses : ByteArray := prog_6_method_14_code
def yX4_misses : MethodName := ⟨RX4, "misses", "(II)I"⟩
abbrev cX4_bestBeats : ByteArray := prog_6_method_15_code
def yX4_bestBeats : MethodName := ⟨RX4, "bestBeats", "(I)I"⟩
def RX5 : String := "ShadowBand$Planner"
def TX5 : u_T := fun k => match k with
  | 0 => ("ShadowBand$Planner", "weight", "I", false)
  | 1 => ("ShadowBand$Planner", "most", "I", false)
  | 2 => ("ShadowBand$Planner", "stretchCount", "I", false)
  | 3 => ("ShadowBand$Planner", "pieceCount", "I", false)
  | 4 => ("ShadowBand$Planner", "spans", "[I", true)
  | 5 => ("ShadowBand$Planner", "beats", "[I", true)
  | 6 => ("ShadowBand$Planner", "misfits", "[I", true)
  | 7 => ("ShadowBand$Planner", "joins", "[I", true)
  | 8 => ("ShadowBand$Planner", "bits", "[I", true)
  | 9 => ("ShadowBand$Planner", "sets", "I", false)
  | 10 => ("ShadowBand$Planner", "setTellsStretch", "Z", false)
  | 11 => ("ShadowBand$Planner", "search", "I", false)
  | _ => ("ShadowBand$Planner", "known", "[I", false)
def tyX5 : Nat → FieldType := fun k => match k with
  | 0 => .int
  | 1 => .int
  | 2 => .int
  | 3 => .int
  | 4 => .array .int
  | 5 => .array .int
  | 6 => .array .int
  | 7 => .array .int
  | 8 => .array .int
  | 9 => .int
  | 10 => .boolean
  | 11 => .int
  | _ => .array .int
abbrev wsX50 : List Cond := u_ws RX5 TX5 13
theorem nmX5 : ∀ a, a < 13 → ∀ b, b < 13 → a ≠ b → (TX5 a).2.1 ≠ (TX5 b).2.1 := by decide +kernel
theorem tyX5_ok : ∀ k, k < 13 → parseFieldDescriptor (TX5 k).2.2.1 = some (tyX5 k) := by decide +kernel
abbrev cX5_init : ByteArray := prog_7_method_1_code
def yX5_init : MethodName := ⟨RX5, "<init>", "()V"⟩
abbrev cX5_changeWeight : ByteArray := prog_7_method_2_code
def yX5_changeWeight : MethodName := ⟨RX5, "changeWeight", "(I)I"⟩
abbrev cX5_changeMost : ByteArray := prog_7_method_3_code
def yX5_changeMost : MethodName := ⟨RX5, "changeMost", "(I)I"⟩
abbrev cX5_prepare : ByteArray := prog_7_method_4_code
def yX5_prepare : MethodName := ⟨RX5, "prepare", "(LShadowBand$Film;Ljava/util/ArrayList;I)V"⟩
abbrev cX5_fitPieces : ByteArray := prog_7_method_5_code
def yX5_fitPieces : MethodName := ⟨RX5, "fitPieces", "(IILjava/util/ArrayList;)V"⟩
abbrev cX5_weighJoins : ByteArray := prog_7_method_6_code
def yX5_weighJoins : MethodName := ⟨RX5, "weighJoins", "(Ljava/util/ArrayList;)V"⟩
abbrev cX5_shareBits : ByteArray := prog_7_method_7_code
def yX5_shareBits : MethodName := ⟨RX5, "shareBits", "(Ljava/util/ArrayList;)V"⟩
abbrev cX5_canBePlayed : ByteArray := prog_7_method_8_code
def yX5_canBePlayed : MethodName := ⟨RX5, "canBePlayed", "(I)Z"⟩
abbrev cX5_makeRoom : ByteArray := prog_7_method_9_code
def yX5_makeRoom : MethodName := ⟨RX5, "makeRoom", "()V"⟩
abbrev cX5_leastCost : ByteArray := prog_7_method_10_code
def yX5_leastCost : MethodName := ⟨RX5, "leastCost", "()I"⟩
abbrev cX5_leastFrom : ByteArray := prog_7_method_11_code
def yX5_leastFrom : MethodName := ⟨RX5, "leastFrom", "(III)I"⟩
abbrev cX5_placeOf : ByteArray := prog_7_method_12_code
def yX5_placeOf : MethodName := ⟨RX5, "placeOf", "(III)I"⟩
abbrev cX5_costWith : ByteArray := prog_7_method_13_code
def yX5_costWith : MethodName := ⟨RX5, "costWith", "(IIII)I"⟩
abbrev cX5_choose : ByteArray := prog_7_method_14_code
def yX5_choose : MethodName := ⟨RX5, "choose", "()[I"⟩
abbrev cX5_parts : ByteArray := prog_7_method_15_code
def yX5_parts : MethodName := ⟨RX5, "parts", "(Ljava/util/ArrayList;[I)Ljava/util/ArrayList;"⟩
abbrev cX5_firstOfLeast : ByteArray := prog_7_method_16_code
def yX5_firstOfLeast : MethodName := ⟨RX5, "firstOfLeast", "(III)I"⟩
def RX6 : String := "ShadowBand"
def TX6 : u_T := fun k => match k with
  | 0 => ("ShadowBand", "film", "LShadowBand$Film;", true)
  | 1 => ("ShadowBand", "pieces", "Ljava/util/ArrayList;", true)
  | 2 => ("ShadowBand", "planner", "LShadowBand$Planner;", true)
  | 3 => ("ShadowBand", "drummer", "LShadowBand$Drummer;", true)
  | 4 => ("ShadowBand", "found", "Ljava/util/ArrayList;", false)
  | _ => ("ShadowBand", "night", "LShadowBand$Night;", false)
def tyX6 : Nat → FieldType := fun k => match k with
  | 0 => .object "ShadowBand$Film"
  | 1 => .object "java/util/ArrayList"
  | 2 => .object "ShadowBand$Planner"
  | 3 => .object "ShadowBand$Drummer"
  | 4 => .object "java/util/ArrayList"
  | _ => .object "ShadowBand$Night"
abbrev wsX60 : List Cond := u_ws RX6 TX6 6
theorem nmX6 : ∀ a, a < 6 → ∀ b, b < 6 → a ≠ b → (TX6 a).2.1 ≠ (TX6 b).2.1 := by decide +kernel
theorem tyX6_ok : ∀ k, k < 6 → parseFieldDescriptor (TX6 k).2.2.1 = some (tyX6 k) := by decide +kernel
abbrev cX6_init : ByteArray := prog_1_method_1_code
def yX6_init : MethodName := ⟨RX6, "<init>", "()V"⟩
abbrev cX6_shot : ByteArray := prog_1_method_2_code
def yX6_shot : MethodName := ⟨RX6, "shot", "(II)I"⟩
abbrev cX6_cue : ByteArray := prog_1_method_3_code
def yX6_cue : MethodName := ⟨RX6, "cue", "(II)I"⟩
abbrev cX6_stretches : ByteArray := prog_1_method_4_code
def yX6_stretches : MethodName := ⟨RX6, "stretches", "()I"⟩
abbrev cX6_stretch : ByteArray := prog_1_method_5_code
def yX6_stretch : MethodName := ⟨RX6, "stretch", "(II)I"⟩
abbrev cX6_tenths : ByteArray := prog_1_method_6_code
def yX6_tenths : MethodName := ⟨RX6, "tenths", "(II)I"⟩
abbrev cX6_piece : ByteArray := prog_1_method_7_code
def yX6_piece : MethodName := ⟨RX6, "piece", "(IIII)I"⟩
abbrev cX6_block : ByteArray := prog_1_method_8_code
def yX6_block : MethodName := ⟨RX6, "block", "(IIII)I"⟩
abbrev cX6_way : ByteArray := prog_1_method_9_code
def yX6_way : MethodName := ⟨RX6, "way", "(II)I"⟩
abbrev cX6_along : ByteArray := prog_1_method_10_code
def yX6_along : MethodName := ⟨RX6, "along", "(III)I"⟩
abbrev cX6_misfit : ByteArray := prog_1_method_11_code
def yX6_misfit : MethodName := ⟨RX6, "misfit", "(III)I"⟩
abbrev cX6_best : ByteArray := prog_1_method_12_code
def yX6_best : MethodName := ⟨RX6, "best", "(II)I"⟩
abbrev cX6_step : ByteArray := prog_1_method_13_code
def yX6_step : MethodName := ⟨RX6, "step", "(II)I"⟩
abbrev cX6_rule : ByteArray := prog_1_method_14_code
def yX6_rule : MethodName := ⟨RX6, "rule", "(II)I"⟩
abbrev cX6_programme : ByteArray := prog_1_method_15_code
def yX6_programme : MethodName := ⟨RX6, "programme", "(I)I"⟩
abbrev cX6_given : ByteArray := prog_1_method_16_code
def yX6_given : MethodName := ⟨RX6, "given", "(II)I"⟩
abbrev cX6_begin : ByteArray := prog_1_method_17_code
def yX6_begin : MethodName := ⟨RX6, "begin", "()I"⟩
abbrev cX6_go : ByteArray := prog_1_method_18_code
def yX6_go : MethodName := ⟨RX6, "go", "(I)I"⟩
abbrev cX6_seen : ByteArray := prog_1_method_19_code
def yX6_seen : MethodName := ⟨RX6, "seen", "()I"⟩
abbrev cX6_reel : ByteArray := prog_1_method_20_code
def yX6_reel : MethodName := ⟨RX6, "reel", "(I)I"⟩
abbrev cX6_now : ByteArray := prog_1_method_21_code
def yX6_now : MethodName := ⟨RX6, "now", "(I)I"⟩
abbrev cX6_played : ByteArray := prog_1_method_22_code
def yX6_played : MethodName := ⟨RX6, "played", "(I)I"⟩
abbrev cX6_fees : ByteArray := prog_1_method_23_code
def yX6_fees : MethodName := ⟨RX6, "fees", "()I"⟩
abbrev cX6_effect : ByteArray := prog_1_method_24_code
def yX6_effect : MethodName := ⟨RX6, "effect", "(III)I"⟩
abbrev cX6_hands : ByteArray := prog_1_method_25_code
def yX6_hands : MethodName := ⟨RX6, "hands", "(I)I"⟩
abbrev cX6_free : ByteArray := prog_1_method_26_code
def yX6_free : MethodName := ⟨RX6, "free", "(I)I"⟩
abbrev cX6_clash : ByteArray := prog_1_method_27_code
def yX6_clash : MethodName := ⟨RX6, "clash", "()I"⟩
abbrev cX6_left : ByteArray := prog_1_method_28_code
def yX6_left : MethodName := ⟨RX6, "left", "()I"⟩
abbrev cX6_count : ByteArray := prog_1_method_29_code
def yX6_count : MethodName := ⟨RX6, "count", "(I)I"⟩
abbrev cX6_allBlocks : ByteArray := prog_1_method_30_code
def yX6_allBlocks : MethodName := ⟨RX6, "allBlocks", "()I"⟩
abbrev cX6_allPlays : ByteArray := prog_1_method_31_code
def yX6_allPlays : MethodName := ⟨RX6, "allPlays", "()I"⟩
abbrev cX6_pieceAt : ByteArray := prog_1_method_32_code
def yX6_pieceAt : MethodName := ⟨RX6, "pieceAt", "(I)LShadowBand$Piece;"⟩
abbrev cX6_within : ByteArray := prog_1_method_33_code
def yX6_within : MethodName := ⟨RX6, "within", "(III)Z"⟩
abbrev cX6_fifthsBetween : ByteArray := prog_1_method_34_code
def yX6_fifthsBetween : MethodName := ⟨RX6, "fifthsBetween", "(II)I"⟩
def RX7 : String := "ShadowBandModel"
def TX7 : u_T := fun k => match k with
  | 0 => ("ShadowBandModel", "code", "I", false)
  | 1 => ("ShadowBandModel", "shots", "I", false)
  | 2 => ("ShadowBandModel", "frames", "[I", true)
  | 3 => ("ShadowBandModel", "mood", "[I", true)
  | 4 => ("ShadowBandModel", "isCue", "[Z", true)
  | 5 => ("ShadowBandModel", "pieces", "I", false)
  | 6 => ("ShadowBandModel", "key", "[I", true)
  | 7 => ("ShadowBandModel", "moods", "[I", true)
  | 8 => ("ShadowBandModel", "slow", "[I", true)
  | 9 => ("ShadowBandModel", "fast", "[I", true)
  | 10 => ("ShadowBandModel", "isTheme", "[Z", true)
  | 11 => ("ShadowBandModel", "fee", "[I", true)
  | 12 => ("ShadowBandModel", "blocks", "[I", true)
  | 13 => ("ShadowBandModel", "beats", "[I", true)
  | 14 => ("ShadowBandModel", "how", "[I", true)
  | 15 => ("ShadowBandModel", "nexts", "[I", true)
  | 16 => ("ShadowBandModel", "ends", "[Z", true)
  | 17 => ("ShadowBandModel", "row", "[I", true)
  | 18 => ("ShadowBandModel", "rowMany", "I", false)
  | 19 => ("ShadowBandModel", "weight", "I", false)
  | 20 => ("ShadowBandModel", "mostStep", "I", false)
  | 21 => ("ShadowBandModel", "fits", "[I", true)
  | 22 => ("ShadowBandModel", "miss", "[I", true)
  | 23 => ("ShadowBandModel", "rest", "[I", true)
  | 24 => ("ShadowBandModel", "trial", "[I", true)
  | 25 => ("ShadowBandModel", "givenMany", "I", false)
  | 26 => ("ShadowBandModel", "given", "[I", true)
  | 27 => ("ShadowBandModel", "givenBeats", "[I", true)
  | 28 => ("ShadowBandModel", "givenMiss", "[I", true)
  | 29 => ("ShadowBandModel", "givenTenths", "[I", true)
  | 30 => ("ShadowBandModel", "givenBlocks", "[I", true)
  | 31 => ("ShadowBandModel", "givenWay", "[I", true)
  | 32 => ("ShadowBandModel", "hasNight", "Z", false)
  | 33 => ("ShadowBandModel", "ended", "Z", false)
  | 34 => ("ShadowBandModel", "broken", "Z", false)
  | 35 => ("ShadowBandModel", "nightMany", "I", false)
  | 36 => ("ShadowBandModel", "nightPiece", "[I", true)
  | 37 => ("ShadowBandModel", "nightBeats", "[I", true)
  | 38 => ("ShadowBandModel", "nightTenths", "[I", true)
  | 39 => ("ShadowBandModel", "nightBlocks", "[I", true)
  | 40 => ("ShadowBandModel", "nightWay", "[I", true)
  | 41 => ("ShadowBandModel", "clock", "I", false)
  | 42 => ("ShadowBandModel", "playing", "I", false)
  | 43 => ("ShadowBandModel", "since", "I", false)
  | 44 => ("ShadowBandModel", "place", "I", false)
  | 45 => ("ShadowBandModel", "dueBeats", "I", false)
  | 46 => ("ShadowBandModel", "vamps", "I", false)
  | 47 => ("ShadowBandModel", "late", "I", false)
  | 48 => ("ShadowBandModel", "cues", "I", false)
  | 49 => ("ShadowBandModel", "cueAt", "[I", true)
  | 50 => ("ShadowBandModel", "played", "[I", true)
  | 51 => ("ShadowBandModel", "fees", "I", false)
  | 52 => ("ShadowBandModel", "playedAll", "I", false)
  | 53 => ("ShadowBandModel", "effects", "I", false)
  | 54 => ("ShadowBandModel", "from", "[I", true)
  | 55 => ("ShadowBandModel", "to", "[I", true)
  | 56 => ("ShadowBandModel", "needs", "[I", true)
  | _ => ("ShadowBandModel", "drummer", "I", false)
def tyX7 : Nat → FieldType := fun k => match k with
  | 0 => .int
  | 1 => .int
  | 2 => .array .int
  | 3 => .array .int
  | 4 => .array .boolean
  | 5 => .int
  | 6 => .array .int
  | 7 => .array .int
  | 8 => .array .int
  | 9 => .array .int
  | 10 => .array .boolean
  | 11 => .array .int
  | 12 => .array .int
  | 13 => .array .int
  | 14 => .array .int
  | 15 => .array .int
  | 16 => .array .boolean
  | 17 => .array .int
  | 18 => .int
  | 19 => .int
  | 20 => .int
  | 21 => .array .int
  | 22 => .array .int
  | 23 => .array .int
  | 24 => .array .int
  | 25 => .int
  | 26 => .array .int
  | 27 => .array .int
  | 28 => .array .int
  | 29 => .array .int
  | 30 => .array .int
  | 31 => .array .int
  | 32 => .boolean
  | 33 => .boolean
  | 34 => .boolean
  | 35 => .int
  | 36 => .array .int
  | 37 => .array .int
  | 38 => .array .int
  | 39 => .array .int
  | 40 => .array .int
  | 41 => .int
  | 42 => .int
  | 43 => .int
  | 44 => .int
  | 45 => .int
  | 46 => .int
  | 47 => .int
  | 48 => .int
  | 49 => .array .int
  | 50 => .array .int
  | 51 => .int
  | 52 => .int
  | 53 => .int
  | 54 => .array .int
  | 55 => .array .int
  | 56 => .array .int
  | _ => .int
abbrev wsX70 : List Cond := u_ws RX7 TX7 58
theorem nmX7 : ∀ a, a < 58 → ∀ b, b < 58 → a ≠ b → (TX7 a).2.1 ≠ (TX7 b).2.1 := by decide +kernel
theorem tyX7_ok : ∀ k, k < 58 → parseFieldDescriptor (TX7 k).2.2.1 = some (tyX7 k) := by decide +kernel
abbrev cX7_init : ByteArray := prog_9_method_1_code
def yX7_init : MethodName := ⟨RX7, "<init>", "()V"⟩
abbrev cX7_in : ByteArray := prog_9_method_3_code
def yX7_in : MethodName := ⟨RX7, "in", "(III)Z"⟩
abbrev cX7_shot : ByteArray := prog_9_method_4_code
def yX7_shot : MethodName := ⟨RX7, "shot", "(II)I"⟩
abbrev cX7_cue : ByteArray := prog_9_method_5_code
def yX7_cue : MethodName := ⟨RX7, "cue", "(II)I"⟩
abbrev cX7_stretches : ByteArray := prog_9_method_6_code
def yX7_stretches : MethodName := ⟨RX7, "stretches", "()I"⟩
abbrev cX7_firstOf : ByteArray := prog_9_method_7_code
def yX7_firstOf : MethodName := ⟨RX7, "firstOf", "(I)I"⟩
abbrev cX7_framesOf : ByteArray := prog_9_method_8_code
def yX7_framesOf : MethodName := ⟨RX7, "framesOf", "(I)I"⟩
abbrev cX7_allFrames : ByteArray := prog_9_method_9_code
def yX7_allFrames : MethodName := ⟨RX7, "allFrames", "()I"⟩
abbrev cX7_stretch : ByteArray := prog_9_method_10_code
def yX7_stretch : MethodName := ⟨RX7, "stretch", "(II)I"⟩
abbrev cX7_tenths : ByteArray := prog_9_method_11_code
def yX7_tenths : MethodName := ⟨RX7, "tenths", "(II)I"⟩
abbrev cX7_isPiece : ByteArray := prog_9_method_12_code
def yX7_isPiece : MethodName := ⟨RX7, "isPiece", "(I)Z"⟩
abbrev cX7_piece : ByteArray := prog_9_method_13_code
def yX7_piece : MethodName := ⟨RX7, "piece", "(IIII)I"⟩
abbrev cX7_block : ByteArray := prog_9_method_14_code
def yX7_block : MethodName := ⟨RX7, "block", "(IIII)I"⟩
abbrev cX7_at : ByteArray := prog_9_method_15_code
def yX7_at : MethodName := ⟨RX7, "at", "(III)I"⟩
abbrev cX7_findWays : ByteArray := prog_9_method_16_code
def yX7_findWays : MethodName := ⟨RX7, "findWays", "(I)V"⟩
abbrev cX7_begins : ByteArray := prog_9_method_17_code
def yX7_begins : MethodName := ⟨RX7, "begins", "(II)Z"⟩
abbrev cX7_wayFor : ByteArray := prog_9_method_18_code
def yX7_wayFor : MethodName := ⟨RX7, "wayFor", "(II)I"⟩
abbrev cX7_hasWay : ByteArray := prog_9_method_19_code
def yX7_hasWay : MethodName := ⟨RX7, "hasWay", "(II)Z"⟩
abbrev cX7_way : ByteArray := prog_9_method_20_code
def yX7_way : MethodName := ⟨RX7, "way", "(II)I"⟩
abbrev cX7_along : ByteArray := prog_9_method_21_code
def yX7_along : MethodName := ⟨RX7, "along", "(III)I"⟩
abbrev cX7_shortest : ByteArray := prog_9_method_22_code
def yX7_shortest : MethodName := ⟨RX7, "shortest", "(II)I"⟩
abbrev cX7_longest : ByteArray := prog_9_method_23_code
def yX7_longest : MethodName := ⟨RX7, "longest", "(II)I"⟩
abbrev cX7_off : ByteArray := prog_9_method_24_code
def yX7_off : MethodName := ⟨RX7, "off", "(II)I"⟩
abbrev cX7_misfitOf : ByteArray := prog_9_method_25_code
def yX7_misfitOf : MethodName := ⟨RX7, "misfitOf", "(III)I"⟩
abbrev cX7_misfit : ByteArray := prog_9_method_26_code
def yX7_misfit : MethodName := ⟨RX7, "misfit", "(III)I"⟩
abbrev cX7_bestFor : ByteArray := prog_9_method_27_code
def yX7_bestFor : MethodName := ⟨RX7, "bestFor", "(II)I"⟩
abbrev cX7_best : ByteArray := prog_9_method_28_code
def yX7_best : MethodName := ⟨RX7, "best", "(II)I"⟩
abbrev cX7_stepOf : ByteArray := prog_9_method_29_code
def yX7_stepOf : MethodName := ⟨RX7, "stepOf", "(II)I"⟩
abbrev cX7_step : ByteArray := prog_9_method_30_code
def yX7_step : MethodName := ⟨RX7, "step", "(II)I"⟩
abbrev cX7_rule : ByteArray := prog_9_method_31_code
def yX7_rule : MethodName := ⟨RX7, "rule", "(II)I"⟩
abbrev cX7_mayBe : ByteArray := prog_9_method_32_code
def yX7_mayBe : MethodName := ⟨RX7, "mayBe", "(I)Z"⟩
abbrev cX7_costTo : ByteArray := prog_9_method_33_code
def yX7_costTo : MethodName := ⟨RX7, "costTo", "(I)I"⟩
abbrev cX7_programme : ByteArray := prog_9_method_34_code
def yX7_programme : MethodName := ⟨RX7, "programme", "(I)I"⟩
abbrev cX7_given : ByteArray := prog_9_method_35_code
def yX7_given : MethodName := ⟨RX7, "given", "(II)I"⟩
abbrev cX7_beginPiece : ByteArray := prog_9_method_36_code
def yX7_beginPiece : MethodName := ⟨RX7, "beginPiece", "(I)V"⟩
abbrev cX7_begin : ByteArray := prog_9_method_37_code
def yX7_begin : MethodName := ⟨RX7, "begin", "()I"⟩
abbrev cX7_doneBeats : ByteArray := prog_9_method_38_code
def yX7_doneBeats : MethodName := ⟨RX7, "doneBeats", "()I"⟩
abbrev cX7_blockNow : ByteArray := prog_9_method_39_code
def yX7_blockNow : MethodName := ⟨RX7, "blockNow", "()I"⟩
abbrev cX7_tenth : ByteArray := prog_9_method_40_code
def yX7_tenth : MethodName := ⟨RX7, "tenth", "()V"⟩
abbrev cX7_endBlock : ByteArray := prog_9_method_41_code
def yX7_endBlock : MethodName := ⟨RX7, "endBlock", "()V"⟩
abbrev cX7_go : ByteArray := prog_9_method_42_code
def yX7_go : MethodName := ⟨RX7, "go", "(I)I"⟩
abbrev cX7_seen : ByteArray := prog_9_method_43_code
def yX7_seen : MethodName := ⟨RX7, "seen", "()I"⟩
abbrev cX7_reel : ByteArray := prog_9_method_44_code
def yX7_reel : MethodName := ⟨RX7, "reel", "(I)I"⟩
abbrev cX7_now : ByteArray := prog_9_method_45_code
def yX7_now : MethodName := ⟨RX7, "now", "(I)I"⟩
abbrev cX7_played : ByteArray := prog_9_method_46_code
def yX7_played : MethodName := ⟨RX7, "played", "(I)I"⟩
abbrev cX7_fees : ByteArray := prog_9_method_47_code
def yX7_fees : MethodName := ⟨RX7, "fees", "()I"⟩
abbrev cX7_effect : ByteArray := prog_9_method_48_code
def yX7_effect : MethodName := ⟨RX7, "effect", "(III)I"⟩
abbrev cX7_hands : ByteArray := prog_9_method_49_code
def yX7_hands : MethodName := ⟨RX7, "hands", "(I)I"⟩
abbrev cX7_freeIn : ByteArray := prog_9_method_50_code
def yX7_freeIn : MethodName := ⟨RX7, "freeIn", "(II)I"⟩
abbrev cX7_free : ByteArray := prog_9_method_51_code
def yX7_free : MethodName := ⟨RX7, "free", "(I)I"⟩
abbrev cX7_clash : ByteArray := prog_9_method_52_code
def yX7_clash : MethodName := ⟨RX7, "clash", "()I"⟩
abbrev cX7_bitsOf : ByteArray := prog_9_method_53_code
def yX7_bitsOf : MethodName := ⟨RX7, "bitsOf", "(I)I"⟩
abbrev cX7_left : ByteArray := prog_9_method_54_code
def yX7_left : MethodName := ⟨RX7, "left", "()I"⟩
abbrev cX7_count : ByteArray := prog_9_method_55_code
def yX7_count : MethodName := ⟨RX7, "count", "(I)I"⟩
def RJx145de : String := "java/io/Serializable"
def RJx8e188 : String := "java/lang/Cloneable"
def RJ6 : String := "java/lang/Integer"
abbrev cJ6_bitCount_0f7a4 : ByteArray := prog_12_method_49_code
def yJ6_bitCount_0f7a4 : MethodName := ⟨RJ6, "bitCount", "(I)I"⟩
def RJxab1ab : String := "java/lang/Iterable"
def RJ9 : String := "java/lang/Math"
abbrev cJ9_floorMod_7cf53 : ByteArray := prog_14_method_50_code
def yJ9_floorMod_7cf53 : MethodName := ⟨RJ9, "floorMod", "(II)I"⟩
abbrev cJ9_abs_0f7a4 : ByteArray := prog_14_method_59_code
def yJ9_abs_0f7a4 : MethodName := ⟨RJ9, "abs", "(I)I"⟩
abbrev cJ9_max_7cf53 : ByteArray := prog_14_method_65_code
def yJ9_max_7cf53 : MethodName := ⟨RJ9, "max", "(II)I"⟩
abbrev cJ9_min_7cf53 : ByteArray := prog_14_method_69_code
def yJ9_min_7cf53 : MethodName := ⟨RJ9, "min", "(II)I"⟩
def RJ10 : String := "java/lang/System"
def RJxa1e45 : String := "java/util/AbstractCollection"
abbrev cJxa1e45_init_da8c8 : ByteArray := prog_16_method_1_code
def yJxa1e45_init_da8c8 : MethodName := ⟨RJxa1e45, "<init>", "()V"⟩
def RJxc12de : String := "java/util/AbstractList"
abbrev cJxc12de_init_da8c8 : ByteArray := prog_17_method_1_code
def yJxc12de_init_da8c8 : MethodName := ⟨RJxc12de, "<init>", "()V"⟩
def RJx4a65c : String := "java/util/ArrayList"
def TJx4a65c : u_T := fun k => match k with
  | 0 => ("java/util/AbstractList", "modCount", "I", false)
  | 1 => ("java/util/ArrayList", "elementData", "[Ljava/lang/Object;", false)
  | _ => ("java/util/ArrayList", "size", "I", false)
def tyJx4a65c : Nat → FieldType := fun k => match k with
  | 0 => .int
  | 1 => .array (.object "java/lang/Object")
  | _ => .int
abbrev wsJx4a65c0 : List Cond := u_ws RJx4a65c TJx4a65c 3
theorem nmJx4a65c : ∀ a, a < 3 → ∀ b, b < 3 → a ≠ b → (TJx4a65c a).2.1 ≠ (TJx4a65c b).2.1 := by decide +kernel
theorem tyJx4a65c_ok : ∀ k, k < 3 → parseFieldDescriptor (TJx4a65c k).2.2.1 = some (tyJx4a65c k) := by decide +kernel
abbrev cJx4a65c_init_da8c8 : ByteArray := prog_18_method_2_code
def yJx4a65c_init_da8c8 : MethodName := ⟨RJx4a65c, "<init>", "()V"⟩
abbrev cJx4a65c_grow_92f84 : ByteArray := prog_18_method_6_code
def yJx4a65c_grow_92f84 : MethodName := ⟨RJx4a65c, "grow", "(I)[Ljava/lang/Object;"⟩
abbrev cJx4a65c_grow_d5877 : ByteArray := prog_18_method_7_code
def yJx4a65c_grow_d5877 : MethodName := ⟨RJx4a65c, "grow", "()[Ljava/lang/Object;"⟩
abbrev cJx4a65c_size_8abf5 : ByteArray := prog_18_method_8_code
def yJx4a65c_size_8abf5 : MethodName := ⟨RJx4a65c, "size", "()I"⟩
abbrev cJx4a65c_isEmpty_aae02 : ByteArray := prog_18_method_9_code
def yJx4a65c_isEmpty_aae02 : MethodName := ⟨RJx4a65c, "isEmpty", "()Z"⟩
abbrev cJx4a65c_elementData_915e3 : ByteArray := prog_18_method_18_code
def yJx4a65c_elementData_915e3 : MethodName := ⟨RJx4a65c, "elementData", "(I)Ljava/lang/Object;"⟩
abbrev cJx4a65c_get_915e3 : ByteArray := prog_18_method_20_code
def yJx4a65c_get_915e3 : MethodName := ⟨RJx4a65c, "get", "(I)Ljava/lang/Object;"⟩
abbrev cJx4a65c_add_72be8 : ByteArray := prog_18_method_24_code
def yJx4a65c_add_72be8 : MethodName := ⟨RJx4a65c, "add", "(Ljava/lang/Object;[Ljava/lang/Object;I)V"⟩
abbrev cJx4a65c_add_9ea2d : ByteArray := prog_18_method_25_code
def yJx4a65c_add_9ea2d : MethodName := ⟨RJx4a65c, "add", "(Ljava/lang/Object;)Z"⟩
def RJ7 : String := "java/util/Arrays"
abbrev cJ7_fill_53178 : ByteArray := prog_19_method_103_code
def yJ7_fill_53178 : MethodName := ⟨RJ7, "fill", "([II)V"⟩
abbrev cJ7_copyOf_1904c : ByteArray := prog_19_method_119_code
def yJ7_copyOf_1904c : MethodName := ⟨RJ7, "copyOf", "([Ljava/lang/Object;I)[Ljava/lang/Object;"⟩
abbrev cJ7_copyOf_6403c : ByteArray := prog_19_method_120_code
def yJ7_copyOf_6403c : MethodName := ⟨RJ7, "copyOf", "([Ljava/lang/Object;ILjava/lang/Class;)[Ljava/lang/Object;"⟩
def RJx5ef63 : String := "java/util/Collection"
def RJxbd725 : String := "java/util/List"
def RJ15 : String := "java/util/Objects"
abbrev cJ15_checkIndex_7cf53 : ByteArray := prog_22_method_17_code
def yJ15_checkIndex_7cf53 : MethodName := ⟨RJ15, "checkIndex", "(II)I"⟩
def RJxf0a74 : String := "java/util/RandomAccess"
def RJxa66e6 : String := "java/util/SequencedCollection"
def RJ8 : String := "jdk/internal/util/ArraysSupport"
abbrev cJ8_newLength_cabcc : ByteArray := prog_25_method_27_code
def yJ8_newLength_cabcc : MethodName := ⟨RJ8, "newLength", "(III)I"⟩
abbrev cJ8_hugeLength_7cf53 : ByteArray := prog_25_method_28_code
def yJ8_hugeLength_7cf53 : MethodName := ⟨RJ8, "hugeLength", "(II)I"⟩
def RJ3 : String := "jdk/internal/util/Preconditions"
abbrev cJ3_checkIndex_8e157 : ByteArray := prog_26_method_11_code
def yJ3_checkIndex_8e157 : MethodName := ⟨RJ3, "checkIndex", "(IILjava/util/function/BiFunction;)I"⟩
def RL : String := "ShadowBandLaw"
abbrev cL_law : ByteArray := code
def yL_law : MethodName := ⟨RL, "law", "([I)Z"⟩
