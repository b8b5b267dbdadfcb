section
-- ===== PART A: goes FIRST, ahead of the names: the tables' words, and 'selects' of the private methods out of them =====
/-- a private method of a class that the tables say can be made, by its rows of tables_1 -/
def lw_okq (q : MethodName × Nat) : Prop := (q.1.cls ≠ "java/lang/invoke/MethodHandle" ∧ q.1.cls ≠ "java/lang/invoke/VarHandle") ∧ Cond.instantiable q.1.cls q.2 ∈ tables_1 ∧ Cond.privateMethod q.1 ∈ tables_1 ∧ Cond.instanceMethod q.1 ∈ tables_1
theorem lw_p0 : lw_okq (⟨"TouchedLamps", "rowAt", "(I)LTouchedLamps$Row;"⟩, 14) := ⟨⟨by decide +kernel, by decide +kernel⟩, List.mem_of_getElem? (i := 12) (by decide +kernel), List.mem_of_getElem? (i := 144) (by decide +kernel), List.mem_of_getElem? (i := 145) (by decide +kernel)⟩
theorem lw_p1 : lw_okq (⟨"TouchedLamps", "makeAnew", "(LTouchedLamps$Row;III)I"⟩, 14) := ⟨⟨by decide +kernel, by decide +kernel⟩, List.mem_of_getElem? (i := 12) (by decide +kernel), List.mem_of_getElem? (i := 148) (by decide +kernel), List.mem_of_getElem? (i := 149) (by decide +kernel)⟩
theorem lw_p2 : lw_okq (⟨"TouchedLamps", "found", "(I)I"⟩, 14) := ⟨⟨by decide +kernel, by decide +kernel⟩, List.mem_of_getElem? (i := 12) (by decide +kernel), List.mem_of_getElem? (i := 152) (by decide +kernel), List.mem_of_getElem? (i := 153) (by decide +kernel)⟩
theorem lw_p3 : lw_okq (⟨"TouchedLamps", "refusalOfPlace", "(LTouchedLamps$Row;I)I"⟩, 14) := ⟨⟨by decide +kernel, by decide +kernel⟩, List.mem_of_getElem? (i := 12) (by decide +kernel), List.mem_of_getElem? (i := 164) (by decide +kernel), List.mem_of_getElem? (i := 165) (by decide +kernel)⟩
theorem lw_p4 : lw_okq (⟨"TouchedLamps", "refusalOfMissing", "(LTouchedLamps$Row;)I"⟩, 14) := ⟨⟨by decide +kernel, by decide +kernel⟩, List.mem_of_getElem? (i := 12) (by decide +kernel), List.mem_of_getElem? (i := 168) (by decide +kernel), List.mem_of_getElem? (i := 169) (by decide +kernel)⟩
theorem lw_p5 : lw_okq (⟨"TouchedLamps", "tellAsked", "(I)I"⟩, 14) := ⟨⟨by decide +kernel, by decide +kernel⟩, List.mem_of_getElem? (i := 12) (by decide +kernel), List.mem_of_getElem? (i := 189) (by decide +kernel), List.mem_of_getElem? (i := 190) (by decide +kernel)⟩
theorem lw_p6 : lw_okq (⟨"TouchedLamps", "textAt", "(I)LTouchedLamps$Row;"⟩, 14) := ⟨⟨by decide +kernel, by decide +kernel⟩, List.mem_of_getElem? (i := 12) (by decide +kernel), List.mem_of_getElem? (i := 238) (by decide +kernel), List.mem_of_getElem? (i := 239) (by decide +kernel)⟩
theorem lw_p7 : lw_okq (⟨"TouchedLamps", "isLamp", "(I)Z"⟩, 14) := ⟨⟨by decide +kernel, by decide +kernel⟩, List.mem_of_getElem? (i := 12) (by decide +kernel), List.mem_of_getElem? (i := 307) (by decide +kernel), List.mem_of_getElem? (i := 308) (by decide +kernel)⟩
theorem lw_p8 : lw_okq (⟨"TouchedLamps", "toldOfLamp", "(II)I"⟩, 14) := ⟨⟨by decide +kernel, by decide +kernel⟩, List.mem_of_getElem? (i := 12) (by decide +kernel), List.mem_of_getElem? (i := 315) (by decide +kernel), List.mem_of_getElem? (i := 316) (by decide +kernel)⟩
theorem lw_p9 : lw_okq (⟨"TouchedLamps", "doPress", "(I)V"⟩, 14) := ⟨⟨by decide +kernel, by decide +kernel⟩, List.mem_of_getElem? (i := 12) (by decide +kernel), List.mem_of_getElem? (i := 376) (by decide +kernel), List.mem_of_getElem? (i := 377) (by decide +kernel)⟩
theorem lw_p10 : lw_okq (⟨"TouchedLamps", "hasStep", "(II)Z"⟩, 14) := ⟨⟨by decide +kernel, by decide +kernel⟩, List.mem_of_getElem? (i := 12) (by decide +kernel), List.mem_of_getElem? (i := 396) (by decide +kernel), List.mem_of_getElem? (i := 397) (by decide +kernel)⟩
theorem lw_p11 : lw_okq (⟨"TouchedLamps", "doSet", "(II)V"⟩, 14) := ⟨⟨by decide +kernel, by decide +kernel⟩, List.mem_of_getElem? (i := 12) (by decide +kernel), List.mem_of_getElem? (i := 401) (by decide +kernel), List.mem_of_getElem? (i := 402) (by decide +kernel)⟩
theorem lw_p12 : lw_okq (⟨"TouchedLamps", "doCrack", "(I)V"⟩, 14) := ⟨⟨by decide +kernel, by decide +kernel⟩, List.mem_of_getElem? (i := 12) (by decide +kernel), List.mem_of_getElem? (i := 410) (by decide +kernel), List.mem_of_getElem? (i := 411) (by decide +kernel)⟩
theorem lw_p13 : lw_okq (⟨"TouchedLamps", "keptAt", "(I)LTouchedLamps$Past;"⟩, 14) := ⟨⟨by decide +kernel, by decide +kernel⟩, List.mem_of_getElem? (i := 12) (by decide +kernel), List.mem_of_getElem? (i := 434) (by decide +kernel), List.mem_of_getElem? (i := 435) (by decide +kernel)⟩
theorem lw_p14 : lw_okq (⟨"TouchedLamps", "showingBehind", "(I)I"⟩, 14) := ⟨⟨by decide +kernel, by decide +kernel⟩, List.mem_of_getElem? (i := 12) (by decide +kernel), List.mem_of_getElem? (i := 458) (by decide +kernel), List.mem_of_getElem? (i := 459) (by decide +kernel)⟩
theorem lw_p15 : lw_okq (⟨"TouchedLamps", "refusalOfSet", "(I)I"⟩, 14) := ⟨⟨by decide +kernel, by decide +kernel⟩, List.mem_of_getElem? (i := 12) (by decide +kernel), List.mem_of_getElem? (i := 466) (by decide +kernel), List.mem_of_getElem? (i := 467) (by decide +kernel)⟩
def lw_privs_1 : List (MethodName × Nat) := [(⟨"TouchedLamps", "rowAt", "(I)LTouchedLamps$Row;"⟩, 14), (⟨"TouchedLamps", "makeAnew", "(LTouchedLamps$Row;III)I"⟩, 14), (⟨"TouchedLamps", "found", "(I)I"⟩, 14), (⟨"TouchedLamps", "refusalOfPlace", "(LTouchedLamps$Row;I)I"⟩, 14), (⟨"TouchedLamps", "refusalOfMissing", "(LTouchedLamps$Row;)I"⟩, 14), (⟨"TouchedLamps", "tellAsked", "(I)I"⟩, 14), (⟨"TouchedLamps", "textAt", "(I)LTouchedLamps$Row;"⟩, 14), (⟨"TouchedLamps", "isLamp", "(I)Z"⟩, 14), (⟨"TouchedLamps", "toldOfLamp", "(II)I"⟩, 14), (⟨"TouchedLamps", "doPress", "(I)V"⟩, 14), (⟨"TouchedLamps", "hasStep", "(II)Z"⟩, 14), (⟨"TouchedLamps", "doSet", "(II)V"⟩, 14), (⟨"TouchedLamps", "doCrack", "(I)V"⟩, 14), (⟨"TouchedLamps", "keptAt", "(I)LTouchedLamps$Past;"⟩, 14), (⟨"TouchedLamps", "showingBehind", "(I)I"⟩, 14), (⟨"TouchedLamps", "refusalOfSet", "(I)I"⟩, 14)]
theorem lw_r1 : ∀ q ∈ lw_privs_1, lw_okq q := List.forall_mem_cons.mpr ⟨lw_p0, List.forall_mem_cons.mpr ⟨lw_p1, List.forall_mem_cons.mpr ⟨lw_p2, List.forall_mem_cons.mpr ⟨lw_p3, List.forall_mem_cons.mpr ⟨lw_p4, List.forall_mem_cons.mpr ⟨lw_p5, List.forall_mem_cons.mpr ⟨lw_p6, List.forall_mem_cons.mpr ⟨lw_p7, List.forall_mem_cons.mpr ⟨lw_p8, List.forall_mem_cons.mpr ⟨lw_p9, List.forall_mem_cons.mpr ⟨lw_p10, List.forall_mem_cons.mpr ⟨lw_p11, List.forall_mem_cons.mpr ⟨lw_p12, List.forall_mem_cons.mpr ⟨lw_p13, List.forall_mem_cons.mpr ⟨lw_p14, List.forall_mem_cons.mpr ⟨lw_p15, fun _ h => absurd h List.not_mem_nil⟩⟩⟩⟩⟩⟩⟩⟩⟩⟩⟩⟩⟩⟩⟩⟩
theorem lw_p16 : lw_okq (⟨"TouchedLamps", "fillBehindSets", "()V"⟩, 14) := ⟨⟨by decide +kernel, by decide +kernel⟩, List.mem_of_getElem? (i := 12) (by decide +kernel), List.mem_of_getElem? (i := 477) (by decide +kernel), List.mem_of_getElem? (i := 478) (by decide +kernel)⟩
theorem lw_p17 : lw_okq (⟨"TouchedLamps", "tellParts", "(JJ)V"⟩, 14) := ⟨⟨by decide +kernel, by decide +kernel⟩, List.mem_of_getElem? (i := 12) (by decide +kernel), List.mem_of_getElem? (i := 481) (by decide +kernel), List.mem_of_getElem? (i := 482) (by decide +kernel)⟩
theorem lw_p18 : lw_okq (⟨"TouchedLamps", "refusalOfPairs", "(ILTouchedLamps$Row;)I"⟩, 14) := ⟨⟨by decide +kernel, by decide +kernel⟩, List.mem_of_getElem? (i := 12) (by decide +kernel), List.mem_of_getElem? (i := 500) (by decide +kernel), List.mem_of_getElem? (i := 501) (by decide +kernel)⟩
theorem lw_p19 : lw_okq (⟨"TouchedLamps", "kindsBy", "(ILTouchedLamps$Row;)I"⟩, 14) := ⟨⟨by decide +kernel, by decide +kernel⟩, List.mem_of_getElem? (i := 12) (by decide +kernel), List.mem_of_getElem? (i := 504) (by decide +kernel), List.mem_of_getElem? (i := 505) (by decide +kernel)⟩
theorem lw_p20 : lw_okq (⟨"TouchedLamps", "fits", "(IILTouchedLamps$Row;)Z"⟩, 14) := ⟨⟨by decide +kernel, by decide +kernel⟩, List.mem_of_getElem? (i := 12) (by decide +kernel), List.mem_of_getElem? (i := 508) (by decide +kernel), List.mem_of_getElem? (i := 509) (by decide +kernel)⟩
theorem lw_p21 : lw_okq (⟨"TouchedLamps", "shownAs", "(III)I"⟩, 14) := ⟨⟨by decide +kernel, by decide +kernel⟩, List.mem_of_getElem? (i := 12) (by decide +kernel), List.mem_of_getElem? (i := 512) (by decide +kernel), List.mem_of_getElem? (i := 513) (by decide +kernel)⟩
theorem lw_p22 : lw_okq (⟨"TouchedLamps", "greatestPart", "(III)I"⟩, 14) := ⟨⟨by decide +kernel, by decide +kernel⟩, List.mem_of_getElem? (i := 12) (by decide +kernel), List.mem_of_getElem? (i := 521) (by decide +kernel), List.mem_of_getElem? (i := 522) (by decide +kernel)⟩
theorem lw_p23 : lw_okq (⟨"TouchedLamps", "doByLot", "(II)V"⟩, 14) := ⟨⟨by decide +kernel, by decide +kernel⟩, List.mem_of_getElem? (i := 12) (by decide +kernel), List.mem_of_getElem? (i := 565) (by decide +kernel), List.mem_of_getElem? (i := 566) (by decide +kernel)⟩
theorem lw_p24 : lw_okq (⟨"TouchedLamps", "counted", "(I)I"⟩, 14) := ⟨⟨by decide +kernel, by decide +kernel⟩, List.mem_of_getElem? (i := 12) (by decide +kernel), List.mem_of_getElem? (i := 585) (by decide +kernel), List.mem_of_getElem? (i := 586) (by decide +kernel)⟩
theorem lw_p25 : lw_okq (⟨"TouchedLamps", "countKept", "()I"⟩, 14) := ⟨⟨by decide +kernel, by decide +kernel⟩, List.mem_of_getElem? (i := 12) (by decide +kernel), List.mem_of_getElem? (i := 592) (by decide +kernel), List.mem_of_getElem? (i := 593) (by decide +kernel)⟩
theorem lw_p26 : lw_okq (⟨"TouchedLamps", "countedOfWall", "(I)I"⟩, 14) := ⟨⟨by decide +kernel, by decide +kernel⟩, List.mem_of_getElem? (i := 12) (by decide +kernel), List.mem_of_getElem? (i := 596) (by decide +kernel), List.mem_of_getElem? (i := 597) (by decide +kernel)⟩
theorem lw_p27 : lw_okq (⟨"TouchedLampsModel", "find", "(I)I"⟩, 19) := ⟨⟨by decide +kernel, by decide +kernel⟩, List.mem_of_getElem? (i := 619) (by decide +kernel), List.mem_of_getElem? (i := 694) (by decide +kernel), List.mem_of_getElem? (i := 695) (by decide +kernel)⟩
theorem lw_p28 : lw_okq (⟨"TouchedLampsModel", "told", "(I)I"⟩, 19) := ⟨⟨by decide +kernel, by decide +kernel⟩, List.mem_of_getElem? (i := 619) (by decide +kernel), List.mem_of_getElem? (i := 702) (by decide +kernel), List.mem_of_getElem? (i := 703) (by decide +kernel)⟩
theorem lw_p29 : lw_okq (⟨"TouchedLampsModel", "read", "(I)I"⟩, 19) := ⟨⟨by decide +kernel, by decide +kernel⟩, List.mem_of_getElem? (i := 619) (by decide +kernel), List.mem_of_getElem? (i := 737) (by decide +kernel), List.mem_of_getElem? (i := 738) (by decide +kernel)⟩
theorem lw_p30 : lw_okq (⟨"TouchedLampsModel", "isLamp", "(I)Z"⟩, 19) := ⟨⟨by decide +kernel, by decide +kernel⟩, List.mem_of_getElem? (i := 619) (by decide +kernel), List.mem_of_getElem? (i := 758) (by decide +kernel), List.mem_of_getElem? (i := 759) (by decide +kernel)⟩
theorem lw_p31 : lw_okq (⟨"TouchedLampsModel", "factOf", "(II)I"⟩, 19) := ⟨⟨by decide +kernel, by decide +kernel⟩, List.mem_of_getElem? (i := 619) (by decide +kernel), List.mem_of_getElem? (i := 762) (by decide +kernel), List.mem_of_getElem? (i := 763) (by decide +kernel)⟩
def lw_privs_2 : List (MethodName × Nat) := [(⟨"TouchedLamps", "fillBehindSets", "()V"⟩, 14), (⟨"TouchedLamps", "tellParts", "(JJ)V"⟩, 14), (⟨"TouchedLamps", "refusalOfPairs", "(ILTouchedLamps$Row;)I"⟩, 14), (⟨"TouchedLamps", "kindsBy", "(ILTouchedLamps$Row;)I"⟩, 14), (⟨"TouchedLamps", "fits", "(IILTouchedLamps$Row;)Z"⟩, 14), (⟨"TouchedLamps", "shownAs", "(III)I"⟩, 14), (⟨"TouchedLamps", "greatestPart", "(III)I"⟩, 14), (⟨"TouchedLamps", "doByLot", "(II)V"⟩, 14), (⟨"TouchedLamps", "counted", "(I)I"⟩, 14), (⟨"TouchedLamps", "countKept", "()I"⟩, 14), (⟨"TouchedLamps", "countedOfWall", "(I)I"⟩, 14), (⟨"TouchedLampsModel", "find", "(I)I"⟩, 19), (⟨"TouchedLampsModel", "told", "(I)I"⟩, 19), (⟨"TouchedLampsModel", "read", "(I)I"⟩, 19), (⟨"TouchedLampsModel", "isLamp", "(I)Z"⟩, 19), (⟨"TouchedLampsModel", "factOf", "(II)I"⟩, 19)]
theorem lw_r2 : ∀ q ∈ lw_privs_2, lw_okq q := List.forall_mem_cons.mpr ⟨lw_p16, List.forall_mem_cons.mpr ⟨lw_p17, List.forall_mem_cons.mpr ⟨lw_p18, List.forall_mem_cons.mpr ⟨lw_p19, List.forall_mem_cons.mpr ⟨lw_p20, List.forall_mem_cons.mpr ⟨lw_p21, List.forall_mem_cons.mpr ⟨lw_p22, List.forall_mem_cons.mpr ⟨lw_p23, List.forall_mem_cons.mpr ⟨lw_p24, List.forall_mem_cons.mpr ⟨lw_p25, List.forall_mem_cons.mpr ⟨lw_p26, List.forall_mem_cons.mpr ⟨lw_p27, List.forall_mem_cons.mpr ⟨lw_p28, List.forall_mem_cons.mpr ⟨lw_p29, List.forall_mem_cons.mpr ⟨lw_p30, List.forall_mem_cons.mpr ⟨lw_p31, fun _ h => absurd h List.not_mem_nil⟩⟩⟩⟩⟩⟩⟩⟩⟩⟩⟩⟩⟩⟩⟩⟩
theorem lw_p32 : lw_okq (⟨"TouchedLampsModel", "now", "(I)I"⟩, 19) := ⟨⟨by decide +kernel, by decide +kernel⟩, List.mem_of_getElem? (i := 619) (by decide +kernel), List.mem_of_getElem? (i := 766) (by decide +kernel), List.mem_of_getElem? (i := 767) (by decide +kernel)⟩
theorem lw_p33 : lw_okq (⟨"TouchedLampsModel", "shown", "()I"⟩, 19) := ⟨⟨by decide +kernel, by decide +kernel⟩, List.mem_of_getElem? (i := 619) (by decide +kernel), List.mem_of_getElem? (i := 770) (by decide +kernel), List.mem_of_getElem? (i := 771) (by decide +kernel)⟩
theorem lw_p34 : lw_okq (⟨"TouchedLampsModel", "shownBy", "([II)I"⟩, 19) := ⟨⟨by decide +kernel, by decide +kernel⟩, List.mem_of_getElem? (i := 619) (by decide +kernel), List.mem_of_getElem? (i := 774) (by decide +kernel), List.mem_of_getElem? (i := 775) (by decide +kernel)⟩
theorem lw_p35 : lw_okq (⟨"TouchedLampsModel", "begin", "()V"⟩, 19) := ⟨⟨by decide +kernel, by decide +kernel⟩, List.mem_of_getElem? (i := 619) (by decide +kernel), List.mem_of_getElem? (i := 807) (by decide +kernel), List.mem_of_getElem? (i := 808) (by decide +kernel)⟩
theorem lw_p36 : lw_okq (⟨"TouchedLampsModel", "pressOn", "([IIII)V"⟩, 19) := ⟨⟨by decide +kernel, by decide +kernel⟩, List.mem_of_getElem? (i := 619) (by decide +kernel), List.mem_of_getElem? (i := 811) (by decide +kernel), List.mem_of_getElem? (i := 812) (by decide +kernel)⟩
theorem lw_p37 : lw_okq (⟨"TouchedLampsModel", "take", "()V"⟩, 19) := ⟨⟨by decide +kernel, by decide +kernel⟩, List.mem_of_getElem? (i := 619) (by decide +kernel), List.mem_of_getElem? (i := 846) (by decide +kernel), List.mem_of_getElem? (i := 847) (by decide +kernel)⟩
theorem lw_p38 : lw_okq (⟨"TouchedLampsModel", "shownBehind", "(I)I"⟩, 19) := ⟨⟨by decide +kernel, by decide +kernel⟩, List.mem_of_getElem? (i := 619) (by decide +kernel), List.mem_of_getElem? (i := 854) (by decide +kernel), List.mem_of_getElem? (i := 855) (by decide +kernel)⟩
theorem lw_p39 : lw_okq (⟨"TouchedLampsModel", "shownByCode", "(II)I"⟩, 19) := ⟨⟨by decide +kernel, by decide +kernel⟩, List.mem_of_getElem? (i := 619) (by decide +kernel), List.mem_of_getElem? (i := 865) (by decide +kernel), List.mem_of_getElem? (i := 866) (by decide +kernel)⟩
theorem lw_p40 : lw_okq (⟨"TouchedLampsModel", "isBy", "(II)Z"⟩, 19) := ⟨⟨by decide +kernel, by decide +kernel⟩, List.mem_of_getElem? (i := 619) (by decide +kernel), List.mem_of_getElem? (i := 874) (by decide +kernel), List.mem_of_getElem? (i := 875) (by decide +kernel)⟩
theorem lw_p41 : lw_okq (⟨"TouchedLampsModel", "pairs", "(I)I"⟩, 19) := ⟨⟨by decide +kernel, by decide +kernel⟩, List.mem_of_getElem? (i := 619) (by decide +kernel), List.mem_of_getElem? (i := 890) (by decide +kernel), List.mem_of_getElem? (i := 891) (by decide +kernel)⟩
theorem lw_p42 : lw_okq (⟨"TouchedLampsModel", "kindsBy", "(II)I"⟩, 19) := ⟨⟨by decide +kernel, by decide +kernel⟩, List.mem_of_getElem? (i := 619) (by decide +kernel), List.mem_of_getElem? (i := 894) (by decide +kernel), List.mem_of_getElem? (i := 895) (by decide +kernel)⟩
theorem lw_p43 : lw_okq (⟨"TouchedLampsModel", "wouldShow", "(III)Z"⟩, 19) := ⟨⟨by decide +kernel, by decide +kernel⟩, List.mem_of_getElem? (i := 619) (by decide +kernel), List.mem_of_getElem? (i := 898) (by decide +kernel), List.mem_of_getElem? (i := 899) (by decide +kernel)⟩
theorem lw_p44 : lw_okq (⟨"TouchedLampsModel", "worthOf", "(III)I"⟩, 19) := ⟨⟨by decide +kernel, by decide +kernel⟩, List.mem_of_getElem? (i := 619) (by decide +kernel), List.mem_of_getElem? (i := 914) (by decide +kernel), List.mem_of_getElem? (i := 915) (by decide +kernel)⟩
theorem lw_p45 : lw_okq (⟨"TouchedLampsModel", "waysOf", "(III)J"⟩, 19) := ⟨⟨by decide +kernel, by decide +kernel⟩, List.mem_of_getElem? (i := 619) (by decide +kernel), List.mem_of_getElem? (i := 922) (by decide +kernel), List.mem_of_getElem? (i := 923) (by decide +kernel)⟩
theorem lw_p46 : lw_okq (⟨"TouchedLampsModel", "shownBut", "(II)I"⟩, 19) := ⟨⟨by decide +kernel, by decide +kernel⟩, List.mem_of_getElem? (i := 619) (by decide +kernel), List.mem_of_getElem? (i := 927) (by decide +kernel), List.mem_of_getElem? (i := 928) (by decide +kernel)⟩
theorem lw_p47 : lw_okq (⟨"TouchedLampsModel", "allWays", "(I)J"⟩, 19) := ⟨⟨by decide +kernel, by decide +kernel⟩, List.mem_of_getElem? (i := 619) (by decide +kernel), List.mem_of_getElem? (i := 931) (by decide +kernel), List.mem_of_getElem? (i := 932) (by decide +kernel)⟩
def lw_privs_3 : List (MethodName × Nat) := [(⟨"TouchedLampsModel", "now", "(I)I"⟩, 19), (⟨"TouchedLampsModel", "shown", "()I"⟩, 19), (⟨"TouchedLampsModel", "shownBy", "([II)I"⟩, 19), (⟨"TouchedLampsModel", "begin", "()V"⟩, 19), (⟨"TouchedLampsModel", "pressOn", "([IIII)V"⟩, 19), (⟨"TouchedLampsModel", "take", "()V"⟩, 19), (⟨"TouchedLampsModel", "shownBehind", "(I)I"⟩, 19), (⟨"TouchedLampsModel", "shownByCode", "(II)I"⟩, 19), (⟨"TouchedLampsModel", "isBy", "(II)Z"⟩, 19), (⟨"TouchedLampsModel", "pairs", "(I)I"⟩, 19), (⟨"TouchedLampsModel", "kindsBy", "(II)I"⟩, 19), (⟨"TouchedLampsModel", "wouldShow", "(III)Z"⟩, 19), (⟨"TouchedLampsModel", "worthOf", "(III)I"⟩, 19), (⟨"TouchedLampsModel", "waysOf", "(III)J"⟩, 19), (⟨"TouchedLampsModel", "shownBut", "(II)I"⟩, 19), (⟨"TouchedLampsModel", "allWays", "(I)J"⟩, 19)]
theorem lw_r3 : ∀ q ∈ lw_privs_3, lw_okq q := List.forall_mem_cons.mpr ⟨lw_p32, List.forall_mem_cons.mpr ⟨lw_p33, List.forall_mem_cons.mpr ⟨lw_p34, List.forall_mem_cons.mpr ⟨lw_p35, List.forall_mem_cons.mpr ⟨lw_p36, List.forall_mem_cons.mpr ⟨lw_p37, List.forall_mem_cons.mpr ⟨lw_p38, List.forall_mem_cons.mpr ⟨lw_p39, List.forall_mem_cons.mpr ⟨lw_p40, List.forall_mem_cons.mpr ⟨lw_p41, List.forall_mem_cons.mpr ⟨lw_p42, List.forall_mem_cons.mpr ⟨lw_p43, List.forall_mem_cons.mpr ⟨lw_p44, List.forall_mem_cons.mpr ⟨lw_p45, List.forall_mem_cons.mpr ⟨lw_p46, List.forall_mem_cons.mpr ⟨lw_p47, fun _ h => absurd h List.not_mem_nil⟩⟩⟩⟩⟩⟩⟩⟩⟩⟩⟩⟩⟩⟩⟩⟩
theorem lw_p48 : lw_okq (⟨"TouchedLampsModel", "fraction", "(JJ)I"⟩, 19) := ⟨⟨by decide +kernel, by decide +kernel⟩, List.mem_of_getElem? (i := 619) (by decide +kernel), List.mem_of_getElem? (i := 935) (by decide +kernel), List.mem_of_getElem? (i := 936) (by decide +kernel)⟩
theorem lw_p49 : lw_okq (⟨"TouchedLampsModel", "lot", "(II)V"⟩, 19) := ⟨⟨by decide +kernel, by decide +kernel⟩, List.mem_of_getElem? (i := 619) (by decide +kernel), List.mem_of_getElem? (i := 953) (by decide +kernel), List.mem_of_getElem? (i := 954) (by decide +kernel)⟩
theorem lw_p50 : lw_okq (⟨"TouchedLampsModel", "sumOf", "(I)I"⟩, 19) := ⟨⟨by decide +kernel, by decide +kernel⟩, List.mem_of_getElem? (i := 619) (by decide +kernel), List.mem_of_getElem? (i := 973) (by decide +kernel), List.mem_of_getElem? (i := 974) (by decide +kernel)⟩
theorem lw_p51 : lw_okq (⟨"TouchedLampsModel", "thereAre", "(I)I"⟩, 19) := ⟨⟨by decide +kernel, by decide +kernel⟩, List.mem_of_getElem? (i := 619) (by decide +kernel), List.mem_of_getElem? (i := 977) (by decide +kernel), List.mem_of_getElem? (i := 978) (by decide +kernel)⟩
def lw_privs_4 : List (MethodName × Nat) := [(⟨"TouchedLampsModel", "fraction", "(JJ)I"⟩, 19), (⟨"TouchedLampsModel", "lot", "(II)V"⟩, 19), (⟨"TouchedLampsModel", "sumOf", "(I)I"⟩, 19), (⟨"TouchedLampsModel", "thereAre", "(I)I"⟩, 19)]
theorem lw_r4 : ∀ q ∈ lw_privs_4, lw_okq q := List.forall_mem_cons.mpr ⟨lw_p48, List.forall_mem_cons.mpr ⟨lw_p49, List.forall_mem_cons.mpr ⟨lw_p50, List.forall_mem_cons.mpr ⟨lw_p51, fun _ h => absurd h List.not_mem_nil⟩⟩⟩⟩
def lw_privs : List (MethodName × Nat) := lw_privs_1 ++ (lw_privs_2 ++ (lw_privs_3 ++ (lw_privs_4)))
def lw_tbl : List Cond := k2_sels lw_privs ++ tables_1
theorem lw_privs_ok : ∀ q ∈ lw_privs, lw_okq q := by
  show ∀ q ∈ lw_privs_1 ++ (lw_privs_2 ++ (lw_privs_3 ++ (lw_privs_4))), lw_okq q
  exact List.forall_mem_append.mpr ⟨lw_r1, List.forall_mem_append.mpr ⟨lw_r2, List.forall_mem_append.mpr ⟨lw_r3, lw_r4⟩⟩⟩
end
section
def RX0 : String := "TouchedLamps$Kinds"
def TX0 : u_T := fun k => match k with
  | 0 => ("TouchedLamps$Kinds", "threes", "I", false)
  | 1 => ("TouchedLamps$Kinds", "stucks", "I", false)
  | 2 => ("TouchedLamps$Kinds", "shys", "I", false)
  | 3 => ("TouchedLamps$Kinds", "slows", "I", false)
  | _ => ("TouchedLamps$Kinds", "falses", "I", false)
def tyX0 : Nat → FieldType := fun k => match k with
  | 0 => .int
  | 1 => .int
  | 2 => .int
  | 3 => .int
  | _ => .int
abbrev wsX00 : List Cond := u_ws RX0 TX0 5
theorem nmX0 : ∀ a, a < 5 → ∀ b, b < 5 → a ≠ b → (TX0 a).2.1 ≠ (TX0 b).2.1 := by decide +kernel
theorem tyX0_ok : ∀ k, k < 5 → parseFieldDescriptor (TX0 k).2.2.1 = some (tyX0 k) := by decide +kernel
abbrev cX0_init : ByteArray := prog_2_method_1_code
def yX0_init : MethodName := ⟨RX0, "<init>", "()V"⟩
abbrev cX0_isA : ByteArray := prog_2_method_2_code
def yX0_isA : MethodName := ⟨RX0, "isA", "(II)Z"⟩
abbrev cX0_lastStep : ByteArray := prog_2_method_3_code
def yX0_lastStep : MethodName := ⟨RX0, "lastStep", "(I)I"⟩
abbrev cX0_takeFrom : ByteArray := prog_2_method_4_code
def yX0_takeFrom : MethodName := ⟨RX0, "takeFrom", "(LTouchedLamps$Kinds;)V"⟩
abbrev cX0_become : ByteArray := prog_2_method_5_code
def yX0_become : MethodName := ⟨RX0, "become", "(II)V"⟩
abbrev cX0_changed : ByteArray := prog_2_method_6_code
def yX0_changed : MethodName := ⟨RX0, "changed", "(IIZ)I"⟩
abbrev cX0_kindOf : ByteArray := prog_2_method_7_code
def yX0_kindOf : MethodName := ⟨RX0, "kindOf", "(I)I"⟩
abbrev cX0_showing : ByteArray := prog_2_method_8_code
def yX0_showing : MethodName := ⟨RX0, "showing", "(I)I"⟩
abbrev cX0_behindPress : ByteArray := prog_2_method_9_code
def yX0_behindPress : MethodName := ⟨RX0, "behindPress", "(III)I"⟩
abbrev cX0_behindTouch : ByteArray := prog_2_method_10_code
def yX0_behindTouch : MethodName := ⟨RX0, "behindTouch", "(IIII)I"⟩
def RX1 : String := "TouchedLamps$Past"
def TX1 : u_T := fun k => match k with
  | 0 => ("TouchedLamps$Past", "states", "[I", true)
  | 1 => ("TouchedLamps$Past", "numbers", "[I", true)
  | _ => ("TouchedLamps$Past", "deeds", "I", false)
def tyX1 : Nat → FieldType := fun k => match k with
  | 0 => .array .int
  | 1 => .array .int
  | _ => .int
abbrev wsX10 : List Cond := u_ws RX1 TX1 3
theorem nmX1 : ∀ a, a < 3 → ∀ b, b < 3 → a ≠ b → (TX1 a).2.1 ≠ (TX1 b).2.1 := by decide +kernel
theorem tyX1_ok : ∀ k, k < 3 → parseFieldDescriptor (TX1 k).2.2.1 = some (tyX1 k) := by decide +kernel
abbrev cX1_init : ByteArray := prog_3_method_1_code
def yX1_init : MethodName := ⟨RX1, "<init>", "()V"⟩
abbrev cX1_isThere : ByteArray := prog_3_method_2_code
def yX1_isThere : MethodName := ⟨RX1, "isThere", "()Z"⟩
abbrev cX1_deeds : ByteArray := prog_3_method_3_code
def yX1_deeds : MethodName := ⟨RX1, "deeds", "()I"⟩
abbrev cX1_room : ByteArray := prog_3_method_4_code
def yX1_room : MethodName := ⟨RX1, "room", "()I"⟩
abbrev cX1_state : ByteArray := prog_3_method_5_code
def yX1_state : MethodName := ⟨RX1, "state", "()I"⟩
abbrev cX1_number : ByteArray := prog_3_method_6_code
def yX1_number : MethodName := ⟨RX1, "number", "()I"⟩
abbrev cX1_forget : ByteArray := prog_3_method_7_code
def yX1_forget : MethodName := ⟨RX1, "forget", "()V"⟩
abbrev cX1_begin : ByteArray := prog_3_method_8_code
def yX1_begin : MethodName := ⟨RX1, "begin", "(I)V"⟩
abbrev cX1_go : ByteArray := prog_3_method_9_code
def yX1_go : MethodName := ⟨RX1, "go", "(II)V"⟩
abbrev cX1_goBack : ByteArray := prog_3_method_10_code
def yX1_goBack : MethodName := ⟨RX1, "goBack", "(I)V"⟩
abbrev cX1_takeFrom : ByteArray := prog_3_method_11_code
def yX1_takeFrom : MethodName := ⟨RX1, "takeFrom", "(LTouchedLamps$Past;)V"⟩
def RX2 : String := "TouchedLamps$Reader"
def TX2 : u_T := fun k => match k with
  | 0 => ("TouchedLamps$Reader", "kinds", "LTouchedLamps$Kinds;", true)
  | _ => ("TouchedLamps$Reader", "state", "I", false)
def tyX2 : Nat → FieldType := fun k => match k with
  | 0 => .object "TouchedLamps$Kinds"
  | _ => .int
abbrev wsX20 : List Cond := u_ws RX2 TX2 2
theorem nmX2 : ∀ a, a < 2 → ∀ b, b < 2 → a ≠ b → (TX2 a).2.1 ≠ (TX2 b).2.1 := by decide +kernel
theorem tyX2_ok : ∀ k, k < 2 → parseFieldDescriptor (TX2 k).2.2.1 = some (tyX2 k) := by decide +kernel
abbrev cX2_init : ByteArray := prog_4_method_1_code
def yX2_init : MethodName := ⟨RX2, "<init>", "()V"⟩
abbrev cX2_faultOf : ByteArray := prog_4_method_2_code
def yX2_faultOf : MethodName := ⟨RX2, "faultOf", "(LTouchedLamps$Row;)I"⟩
abbrev cX2_kindBy : ByteArray := prog_4_method_3_code
def yX2_kindBy : MethodName := ⟨RX2, "kindBy", "(I)I"⟩
def RX3 : String := "TouchedLamps$Row"
def TX3 : u_T := fun k => match k with
  | 0 => ("TouchedLamps$Row", "values", "[I", true)
  | _ => ("TouchedLamps$Row", "size", "I", false)
def tyX3 : Nat → FieldType := fun k => match k with
  | 0 => .array .int
  | _ => .int
abbrev wsX30 : List Cond := u_ws RX3 TX3 2
theorem nmX3 : ∀ a, a < 2 → ∀ b, b < 2 → a ≠ b → (TX3 a).2.1 ≠ (TX3 b).2.1 := by decide +kernel
theorem tyX3_ok : ∀ k, k < 2 → parseFieldDescriptor (TX3 k).2.2.1 = some (tyX3 k) := by decide +kernel
abbrev cX3_init : ByteArray := prog_5_method_1_code
def yX3_init : MethodName := ⟨RX3, "<init>", "(I)V"⟩
abbrev cX3_isThere : ByteArray := prog_5_method_2_code
def yX3_isThere : MethodName := ⟨RX3, "isThere", "()Z"⟩
abbrev cX3_size : ByteArray := prog_5_method_3_code
def yX3_size : MethodName := ⟨RX3, "size", "()I"⟩
abbrev cX3_has : ByteArray := prog_5_method_4_code
def yX3_has : MethodName := ⟨RX3, "has", "(I)Z"⟩
abbrev cX3_hasRun : ByteArray := prog_5_method_5_code
def yX3_hasRun : MethodName := ⟨RX3, "hasRun", "(II)Z"⟩
abbrev cX3_valueAt : ByteArray := prog_5_method_6_code
def yX3_valueAt : MethodName := ⟨RX3, "valueAt", "(I)I"⟩
abbrev cX3_change : ByteArray := prog_5_method_7_code
def yX3_change : MethodName := ⟨RX3, "change", "(II)V"⟩
abbrev cX3_make : ByteArray := prog_5_method_8_code
def yX3_make : MethodName := ⟨RX3, "make", "(II)V"⟩
abbrev cX3_remove : ByteArray := prog_5_method_9_code
def yX3_remove : MethodName := ⟨RX3, "remove", "()V"⟩
abbrev cX3_takeRun : ByteArray := prog_5_method_10_code
def yX3_takeRun : MethodName := ⟨RX3, "takeRun", "(LTouchedLamps$Row;III)V"⟩
abbrev cX3_total : ByteArray := prog_5_method_11_code
def yX3_total : MethodName := ⟨RX3, "total", "()J"⟩
abbrev cX3_mixedInto : ByteArray := prog_5_method_12_code
def yX3_mixedInto : MethodName := ⟨RX3, "mixedInto", "(J)J"⟩
def RX4 : String := "TouchedLamps$Steps"
def TX4 : u_T := fun k => match k with
  | _ => ("", "", "", false)
def tyX4 : Nat → FieldType := fun k => match k with
  | _ => .int
abbrev wsX40 : List Cond := u_ws RX4 TX4 0
theorem nmX4 : ∀ a, a < 0 → ∀ b, b < 0 → a ≠ b → (TX4 a).2.1 ≠ (TX4 b).2.1 := by decide +kernel
theorem tyX4_ok : ∀ k, k < 0 → parseFieldDescriptor (TX4 k).2.2.1 = some (tyX4 k) := by decide +kernel
abbrev cX4_join : ByteArray := prog_6_method_2_code
def yX4_join : MethodName := ⟨RX4, "join", "(III)I"⟩
abbrev cX4_ones : ByteArray := prog_6_method_3_code
def yX4_ones : MethodName := ⟨RX4, "ones", "(I)I"⟩
abbrev cX4_twos : ByteArray := prog_6_method_4_code
def yX4_twos : MethodName := ⟨RX4, "twos", "(I)I"⟩
abbrev cX4_broken : ByteArray := prog_6_method_5_code
def yX4_broken : MethodName := ⟨RX4, "broken", "(I)I"⟩
abbrev cX4_above : ByteArray := prog_6_method_6_code
def yX4_above : MethodName := ⟨RX4, "above", "(I)I"⟩
abbrev cX4_of : ByteArray := prog_6_method_7_code
def yX4_of : MethodName := ⟨RX4, "of", "(II)I"⟩
abbrev cX4_with : ByteArray := prog_6_method_8_code
def yX4_with : MethodName := ⟨RX4, "with", "(III)I"⟩
abbrev cX4_withBroken : ByteArray := prog_6_method_9_code
def yX4_withBroken : MethodName := ⟨RX4, "withBroken", "(II)I"⟩
abbrev cX4_total : ByteArray := prog_6_method_10_code
def yX4_total : MethodName := ⟨RX4, "total", "(II)I"⟩
def RX5 : String := "TouchedLamps"
def TX5 : u_T := fun k => match k with
  | 0 => ("TouchedLamps", "rows", "[LTouchedLamps$Row;", true)
  | 1 => ("TouchedLamps", "texts", "[LTouchedLamps$Row;", true)
  | 2 => ("TouchedLamps", "kept", "[LTouchedLamps$Past;", true)
  | 3 => ("TouchedLamps", "now", "LTouchedLamps$Past;", true)
  | 4 => ("TouchedLamps", "kinds", "LTouchedLamps$Kinds;", true)
  | 5 => ("TouchedLamps", "trial", "LTouchedLamps$Kinds;", true)
  | 6 => ("TouchedLamps", "reader", "LTouchedLamps$Reader;", true)
  | 7 => ("TouchedLamps", "behindSets", "[I", true)
  | 8 => ("TouchedLamps", "path", "[I", true)
  | 9 => ("TouchedLamps", "findings", "[I", true)
  | 10 => ("TouchedLamps", "finding", "I", false)
  | 11 => ("TouchedLamps", "asked", "I", false)
  | 12 => ("TouchedLamps", "upper", "J", false)
  | _ => ("TouchedLamps", "lower", "J", false)
def tyX5 : Nat → FieldType := fun k => match k with
  | 0 => .array (.object "TouchedLamps$Row")
  | 1 => .array (.object "TouchedLamps$Row")
  | 2 => .array (.object "TouchedLamps$Past")
  | 3 => .object "TouchedLamps$Past"
  | 4 => .object "TouchedLamps$Kinds"
  | 5 => .object "TouchedLamps$Kinds"
  | 6 => .object "TouchedLamps$Reader"
  | 7 => .array .int
  | 8 => .array .int
  | 9 => .array .int
  | 10 => .int
  | 11 => .int
  | 12 => .long
  | _ => .long
abbrev wsX50 : List Cond := u_ws RX5 TX5 14
theorem nmX5 : ∀ a, a < 14 → ∀ b, b < 14 → a ≠ b → (TX5 a).2.1 ≠ (TX5 b).2.1 := by decide +kernel
theorem tyX5_ok : ∀ k, k < 14 → parseFieldDescriptor (TX5 k).2.2.1 = some (tyX5 k) := by decide +kernel
abbrev cX5_init : ByteArray := prog_1_method_1_code
def yX5_init : MethodName := ⟨RX5, "<init>", "()V"⟩
abbrev cX5_row : ByteArray := prog_1_method_2_code
def yX5_row : MethodName := ⟨RX5, "row", "(II)I"⟩
abbrev cX5_lay : ByteArray := prog_1_method_3_code
def yX5_lay : MethodName := ⟨RX5, "lay", "(III)I"⟩
abbrev cX5_at : ByteArray := prog_1_method_4_code
def yX5_at : MethodName := ⟨RX5, "at", "(II)I"⟩
abbrev cX5_tear : ByteArray := prog_1_method_5_code
def yX5_tear : MethodName := ⟨RX5, "tear", "(I)I"⟩
abbrev cX5_copy : ByteArray := prog_1_method_6_code
def yX5_copy : MethodName := ⟨RX5, "copy", "(IIIII)I"⟩
abbrev cX5_mean : ByteArray := prog_1_method_7_code
def yX5_mean : MethodName := ⟨RX5, "mean", "(I)I"⟩
abbrev cX5_text : ByteArray := prog_1_method_8_code
def yX5_text : MethodName := ⟨RX5, "text", "(II)I"⟩
abbrev cX5_put : ByteArray := prog_1_method_9_code
def yX5_put : MethodName := ⟨RX5, "put", "(III)I"⟩
abbrev cX5_fault : ByteArray := prog_1_method_10_code
def yX5_fault : MethodName := ⟨RX5, "fault", "(I)I"⟩
abbrev cX5_wall : ByteArray := prog_1_method_11_code
def yX5_wall : MethodName := ⟨RX5, "wall", "(I)I"⟩
abbrev cX5_lamp : ByteArray := prog_1_method_12_code
def yX5_lamp : MethodName := ⟨RX5, "lamp", "(II)I"⟩
abbrev cX5_mark : ByteArray := prog_1_method_13_code
def yX5_mark : MethodName := ⟨RX5, "mark", "(II)I"⟩
abbrev cX5_press : ByteArray := prog_1_method_14_code
def yX5_press : MethodName := ⟨RX5, "press", "(I)I"⟩
abbrev cX5_set : ByteArray := prog_1_method_15_code
def yX5_set : MethodName := ⟨RX5, "set", "(II)I"⟩
abbrev cX5_crack : ByteArray := prog_1_method_16_code
def yX5_crack : MethodName := ⟨RX5, "crack", "(I)I"⟩
abbrev cX5_undo : ByteArray := prog_1_method_17_code
def yX5_undo : MethodName := ⟨RX5, "undo", "(I)I"⟩
abbrev cX5_keep : ByteArray := prog_1_method_18_code
def yX5_keep : MethodName := ⟨RX5, "keep", "(I)I"⟩
abbrev cX5_on : ByteArray := prog_1_method_19_code
def yX5_on : MethodName := ⟨RX5, "on", "(I)I"⟩
abbrev cX5_touched : ByteArray := prog_1_method_20_code
def yX5_touched : MethodName := ⟨RX5, "touched", "(IIII)I"⟩
abbrev cX5_shows : ByteArray := prog_1_method_21_code
def yX5_shows : MethodName := ⟨RX5, "shows", "(I)I"⟩
abbrev cX5_most : ByteArray := prog_1_method_22_code
def yX5_most : MethodName := ⟨RX5, "most", "()I"⟩
abbrev cX5_fewest : ByteArray := prog_1_method_23_code
def yX5_fewest : MethodName := ⟨RX5, "fewest", "(II)I"⟩
abbrev cX5_ways : ByteArray := prog_1_method_24_code
def yX5_ways : MethodName := ⟨RX5, "ways", "(I)I"⟩
abbrev cX5_sure : ByteArray := prog_1_method_25_code
def yX5_sure : MethodName := ⟨RX5, "sure", "(I)I"⟩
abbrev cX5_which : ByteArray := prog_1_method_26_code
def yX5_which : MethodName := ⟨RX5, "which", "(I)I"⟩
abbrev cX5_kinds : ByteArray := prog_1_method_27_code
def yX5_kinds : MethodName := ⟨RX5, "kinds", "(II)I"⟩
abbrev cX5_next : ByteArray := prog_1_method_28_code
def yX5_next : MethodName := ⟨RX5, "next", "(II)I"⟩
abbrev cX5_sums : ByteArray := prog_1_method_29_code
def yX5_sums : MethodName := ⟨RX5, "sums", "(I)I"⟩
abbrev cX5_duel : ByteArray := prog_1_method_30_code
def yX5_duel : MethodName := ⟨RX5, "duel", "(II)I"⟩
abbrev cX5_odds : ByteArray := prog_1_method_31_code
def yX5_odds : MethodName := ⟨RX5, "odds", "(III)I"⟩
abbrev cX5_mid : ByteArray := prog_1_method_32_code
def yX5_mid : MethodName := ⟨RX5, "mid", "(II)I"⟩
abbrev cX5_lots : ByteArray := prog_1_method_33_code
def yX5_lots : MethodName := ⟨RX5, "lots", "(II)I"⟩
abbrev cX5_asked : ByteArray := prog_1_method_34_code
def yX5_asked : MethodName := ⟨RX5, "asked", "()I"⟩
abbrev cX5_upper : ByteArray := prog_1_method_35_code
def yX5_upper : MethodName := ⟨RX5, "upper", "()J"⟩
abbrev cX5_lower : ByteArray := prog_1_method_36_code
def yX5_lower : MethodName := ⟨RX5, "lower", "()J"⟩
abbrev cX5_count : ByteArray := prog_1_method_37_code
def yX5_count : MethodName := ⟨RX5, "count", "(I)I"⟩
abbrev cX5_finding : ByteArray := prog_1_method_38_code
def yX5_finding : MethodName := ⟨RX5, "finding", "()I"⟩
abbrev cX5_findings : ByteArray := prog_1_method_39_code
def yX5_findings : MethodName := ⟨RX5, "findings", "(I)I"⟩
abbrev cX5_digest : ByteArray := prog_1_method_40_code
def yX5_digest : MethodName := ⟨RX5, "digest", "()J"⟩
abbrev cX5_found : ByteArray := prog_1_method_41_code
def yX5_found : MethodName := ⟨RX5, "found", "(I)I"⟩
abbrev cX5_refusalOfMissing : ByteArray := prog_1_method_42_code
def yX5_refusalOfMissing : MethodName := ⟨RX5, "refusalOfMissing", "(LTouchedLamps$Row;)I"⟩
abbrev cX5_refusalOfPlace : ByteArray := prog_1_method_43_code
def yX5_refusalOfPlace : MethodName := ⟨RX5, "refusalOfPlace", "(LTouchedLamps$Row;I)I"⟩
abbrev cX5_refusalOfSet : ByteArray := prog_1_method_44_code
def yX5_refusalOfSet : MethodName := ⟨RX5, "refusalOfSet", "(I)I"⟩
abbrev cX5_refusalOfPairs : ByteArray := prog_1_method_45_code
def yX5_refusalOfPairs : MethodName := ⟨RX5, "refusalOfPairs", "(ILTouchedLamps$Row;)I"⟩
abbrev cX5_rowAt : ByteArray := prog_1_method_46_code
def yX5_rowAt : MethodName := ⟨RX5, "rowAt", "(I)LTouchedLamps$Row;"⟩
abbrev cX5_textAt : ByteArray := prog_1_method_47_code
def yX5_textAt : MethodName := ⟨RX5, "textAt", "(I)LTouchedLamps$Row;"⟩
abbrev cX5_keptAt : ByteArray := prog_1_method_48_code
def yX5_keptAt : MethodName := ⟨RX5, "keptAt", "(I)LTouchedLamps$Past;"⟩
abbrev cX5_isLamp : ByteArray := prog_1_method_49_code
def yX5_isLamp : MethodName := ⟨RX5, "isLamp", "(I)Z"⟩
abbrev cX5_hasStep : ByteArray := prog_1_method_50_code
def yX5_hasStep : MethodName := ⟨RX5, "hasStep", "(II)Z"⟩
abbrev cX5_touchedBy : ByteArray := prog_1_method_51_code
def yX5_touchedBy : MethodName := ⟨RX5, "touchedBy", "(I)I"⟩
abbrev cX5_makeAnew : ByteArray := prog_1_method_52_code
def yX5_makeAnew : MethodName := ⟨RX5, "makeAnew", "(LTouchedLamps$Row;III)I"⟩
abbrev cX5_tellAsked : ByteArray := prog_1_method_53_code
def yX5_tellAsked : MethodName := ⟨RX5, "tellAsked", "(I)I"⟩
abbrev cX5_tellParts : ByteArray := prog_1_method_54_code
def yX5_tellParts : MethodName := ⟨RX5, "tellParts", "(JJ)V"⟩
abbrev cX5_commonDivisor : ByteArray := prog_1_method_55_code
def yX5_commonDivisor : MethodName := ⟨RX5, "commonDivisor", "(JJ)J"⟩
abbrev cX5_toldOfLamp : ByteArray := prog_1_method_56_code
def yX5_toldOfLamp : MethodName := ⟨RX5, "toldOfLamp", "(II)I"⟩
abbrev cX5_counted : ByteArray := prog_1_method_57_code
def yX5_counted : MethodName := ⟨RX5, "counted", "(I)I"⟩
abbrev cX5_countedOfWall : ByteArray := prog_1_method_58_code
def yX5_countedOfWall : MethodName := ⟨RX5, "countedOfWall", "(I)I"⟩
abbrev cX5_countRows : ByteArray := prog_1_method_59_code
def yX5_countRows : MethodName := ⟨RX5, "countRows", "([LTouchedLamps$Row;I)I"⟩
abbrev cX5_countKept : ByteArray := prog_1_method_60_code
def yX5_countKept : MethodName := ⟨RX5, "countKept", "()I"⟩
abbrev cX5_doPress : ByteArray := prog_1_method_61_code
def yX5_doPress : MethodName := ⟨RX5, "doPress", "(I)V"⟩
abbrev cX5_doSet : ByteArray := prog_1_method_62_code
def yX5_doSet : MethodName := ⟨RX5, "doSet", "(II)V"⟩
abbrev cX5_doCrack : ByteArray := prog_1_method_63_code
def yX5_doCrack : MethodName := ⟨RX5, "doCrack", "(I)V"⟩
abbrev cX5_doByLot : ByteArray := prog_1_method_64_code
def yX5_doByLot : MethodName := ⟨RX5, "doByLot", "(II)V"⟩
abbrev cX5_showingBehind : ByteArray := prog_1_method_65_code
def yX5_showingBehind : MethodName := ⟨RX5, "showingBehind", "(I)I"⟩
abbrev cX5_reaches : ByteArray := prog_1_method_66_code
def yX5_reaches : MethodName := ⟨RX5, "reaches", "(LTouchedLamps$Kinds;II[IIII)Z"⟩
abbrev cX5_fillBehindSets : ByteArray := prog_1_method_67_code
def yX5_fillBehindSets : MethodName := ⟨RX5, "fillBehindSets", "()V"⟩
abbrev cX5_kindsBy : ByteArray := prog_1_method_68_code
def yX5_kindsBy : MethodName := ⟨RX5, "kindsBy", "(ILTouchedLamps$Row;)I"⟩
abbrev cX5_fits : ByteArray := prog_1_method_69_code
def yX5_fits : MethodName := ⟨RX5, "fits", "(IILTouchedLamps$Row;)Z"⟩
abbrev cX5_shownAs : ByteArray := prog_1_method_70_code
def yX5_shownAs : MethodName := ⟨RX5, "shownAs", "(III)I"⟩
abbrev cX5_greatestPart : ByteArray := prog_1_method_71_code
def yX5_greatestPart : MethodName := ⟨RX5, "greatestPart", "(III)I"⟩
abbrev cX5_wonBy : ByteArray := prog_1_method_72_code
def yX5_wonBy : MethodName := ⟨RX5, "wonBy", "(LTouchedLamps$Kinds;IIIIII)I"⟩
abbrev cX5_twelfths : ByteArray := prog_1_method_73_code
def yX5_twelfths : MethodName := ⟨RX5, "twelfths", "(IIII)I"⟩
def RX6 : String := "TouchedLampsModel"
def TX6 : u_T := fun k => match k with
  | 0 => ("TouchedLampsModel", "latest", "I", false)
  | 1 => ("TouchedLampsModel", "found", "[I", true)
  | 2 => ("TouchedLampsModel", "asked", "I", false)
  | 3 => ("TouchedLampsModel", "upper", "J", false)
  | 4 => ("TouchedLampsModel", "lower", "J", false)
  | 5 => ("TouchedLampsModel", "wide", "[I", true)
  | 6 => ("TouchedLampsModel", "rows", "[I", true)
  | 7 => ("TouchedLampsModel", "far", "[I", true)
  | 8 => ("TouchedLampsModel", "texts", "[B", true)
  | 9 => ("TouchedLampsModel", "moved", "[I", true)
  | 10 => ("TouchedLampsModel", "lamps", "I", false)
  | 11 => ("TouchedLampsModel", "kind", "[I", true)
  | 12 => ("TouchedLampsModel", "first", "[I", true)
  | 13 => ("TouchedLampsModel", "all", "[I", true)
  | 14 => ("TouchedLampsModel", "deeds", "I", false)
  | 15 => ("TouchedLampsModel", "kept", "[I", true)
  | 16 => ("TouchedLampsModel", "keptDeeds", "[I", true)
  | 17 => ("TouchedLampsModel", "tried", "[I", true)
  | _ => ("TouchedLampsModel", "worths", "[I", true)
def tyX6 : Nat → FieldType := fun k => match k with
  | 0 => .int
  | 1 => .array .int
  | 2 => .int
  | 3 => .long
  | 4 => .long
  | 5 => .array .int
  | 6 => .array .int
  | 7 => .array .int
  | 8 => .array .byte
  | 9 => .array .int
  | 10 => .int
  | 11 => .array .int
  | 12 => .array .int
  | 13 => .array .int
  | 14 => .int
  | 15 => .array .int
  | 16 => .array .int
  | 17 => .array .int
  | _ => .array .int
abbrev wsX60 : List Cond := u_ws RX6 TX6 19
theorem nmX6 : ∀ a, a < 19 → ∀ b, b < 19 → a ≠ b → (TX6 a).2.1 ≠ (TX6 b).2.1 := by decide +kernel
theorem tyX6_ok : ∀ k, k < 19 → parseFieldDescriptor (TX6 k).2.2.1 = some (tyX6 k) := by decide +kernel
abbrev cX6_init : ByteArray := prog_8_method_1_code
def yX6_init : MethodName := ⟨RX6, "<init>", "()V"⟩
abbrev cX6_in : ByteArray := prog_8_method_3_code
def yX6_in : MethodName := ⟨RX6, "in", "(III)Z"⟩
abbrev cX6_has : ByteArray := prog_8_method_4_code
def yX6_has : MethodName := ⟨RX6, "has", "(II)Z"⟩
abbrev cX6_bitsOf : ByteArray := prog_8_method_5_code
def yX6_bitsOf : MethodName := ⟨RX6, "bitsOf", "(I)I"⟩
abbrev cX6_find : ByteArray := prog_8_method_6_code
def yX6_find : MethodName := ⟨RX6, "find", "(I)I"⟩
abbrev cX6_told : ByteArray := prog_8_method_7_code
def yX6_told : MethodName := ⟨RX6, "told", "(I)I"⟩
abbrev cX6_fraction : ByteArray := prog_8_method_8_code
def yX6_fraction : MethodName := ⟨RX6, "fraction", "(JJ)I"⟩
abbrev cX6_isRow : ByteArray := prog_8_method_9_code
def yX6_isRow : MethodName := ⟨RX6, "isRow", "(I)Z"⟩
abbrev cX6_isText : ByteArray := prog_8_method_10_code
def yX6_isText : MethodName := ⟨RX6, "isText", "(I)Z"⟩
abbrev cX6_row : ByteArray := prog_8_method_11_code
def yX6_row : MethodName := ⟨RX6, "row", "(II)I"⟩
abbrev cX6_lay : ByteArray := prog_8_method_12_code
def yX6_lay : MethodName := ⟨RX6, "lay", "(III)I"⟩
abbrev cX6_at : ByteArray := prog_8_method_13_code
def yX6_at : MethodName := ⟨RX6, "at", "(II)I"⟩
abbrev cX6_tear : ByteArray := prog_8_method_14_code
def yX6_tear : MethodName := ⟨RX6, "tear", "(I)I"⟩
abbrev cX6_copy : ByteArray := prog_8_method_15_code
def yX6_copy : MethodName := ⟨RX6, "copy", "(IIIII)I"⟩
abbrev cX6_mean : ByteArray := prog_8_method_16_code
def yX6_mean : MethodName := ⟨RX6, "mean", "(I)I"⟩
abbrev cX6_text : ByteArray := prog_8_method_17_code
def yX6_text : MethodName := ⟨RX6, "text", "(II)I"⟩
abbrev cX6_put : ByteArray := prog_8_method_18_code
def yX6_put : MethodName := ⟨RX6, "put", "(III)I"⟩
abbrev cX6_kindOf : ByteArray := prog_8_method_19_code
def yX6_kindOf : MethodName := ⟨RX6, "kindOf", "(I)I"⟩
abbrev cX6_isThree : ByteArray := prog_8_method_20_code
def yX6_isThree : MethodName := ⟨RX6, "isThree", "(I)Z"⟩
abbrev cX6_stepsOf : ByteArray := prog_8_method_21_code
def yX6_stepsOf : MethodName := ⟨RX6, "stepsOf", "(I)I"⟩
abbrev cX6_read : ByteArray := prog_8_method_22_code
def yX6_read : MethodName := ⟨RX6, "read", "(I)I"⟩
abbrev cX6_fault : ByteArray := prog_8_method_23_code
def yX6_fault : MethodName := ⟨RX6, "fault", "(I)I"⟩
abbrev cX6_wall : ByteArray := prog_8_method_24_code
def yX6_wall : MethodName := ⟨RX6, "wall", "(I)I"⟩
abbrev cX6_now : ByteArray := prog_8_method_25_code
def yX6_now : MethodName := ⟨RX6, "now", "(I)I"⟩
abbrev cX6_take : ByteArray := prog_8_method_26_code
def yX6_take : MethodName := ⟨RX6, "take", "()V"⟩
abbrev cX6_isLamp : ByteArray := prog_8_method_27_code
def yX6_isLamp : MethodName := ⟨RX6, "isLamp", "(I)Z"⟩
abbrev cX6_isButton : ByteArray := prog_8_method_28_code
def yX6_isButton : MethodName := ⟨RX6, "isButton", "(I)Z"⟩
abbrev cX6_isPicture : ByteArray := prog_8_method_29_code
def yX6_isPicture : MethodName := ⟨RX6, "isPicture", "(I)Z"⟩
abbrev cX6_doesTouch : ByteArray := prog_8_method_30_code
def yX6_doesTouch : MethodName := ⟨RX6, "doesTouch", "(II)Z"⟩
abbrev cX6_touchedBy : ByteArray := prog_8_method_31_code
def yX6_touchedBy : MethodName := ⟨RX6, "touchedBy", "(I)I"⟩
abbrev cX6_after : ByteArray := prog_8_method_32_code
def yX6_after : MethodName := ⟨RX6, "after", "(IIZI)I"⟩
abbrev cX6_doesShow : ByteArray := prog_8_method_33_code
def yX6_doesShow : MethodName := ⟨RX6, "doesShow", "(II)Z"⟩
abbrev cX6_shownBy : ByteArray := prog_8_method_34_code
def yX6_shownBy : MethodName := ⟨RX6, "shownBy", "([II)I"⟩
abbrev cX6_shown : ByteArray := prog_8_method_35_code
def yX6_shown : MethodName := ⟨RX6, "shown", "()I"⟩
abbrev cX6_pressOn : ByteArray := prog_8_method_36_code
def yX6_pressOn : MethodName := ⟨RX6, "pressOn", "([IIII)V"⟩
abbrev cX6_factOf : ByteArray := prog_8_method_37_code
def yX6_factOf : MethodName := ⟨RX6, "factOf", "(II)I"⟩
abbrev cX6_lamp : ByteArray := prog_8_method_38_code
def yX6_lamp : MethodName := ⟨RX6, "lamp", "(II)I"⟩
abbrev cX6_mark : ByteArray := prog_8_method_39_code
def yX6_mark : MethodName := ⟨RX6, "mark", "(II)I"⟩
abbrev cX6_begin : ByteArray := prog_8_method_40_code
def yX6_begin : MethodName := ⟨RX6, "begin", "()V"⟩
abbrev cX6_press : ByteArray := prog_8_method_41_code
def yX6_press : MethodName := ⟨RX6, "press", "(I)I"⟩
abbrev cX6_set : ByteArray := prog_8_method_42_code
def yX6_set : MethodName := ⟨RX6, "set", "(II)I"⟩
abbrev cX6_crack : ByteArray := prog_8_method_43_code
def yX6_crack : MethodName := ⟨RX6, "crack", "(I)I"⟩
abbrev cX6_flipped : ByteArray := prog_8_method_44_code
def yX6_flipped : MethodName := ⟨RX6, "flipped", "(II)I"⟩
abbrev cX6_undo : ByteArray := prog_8_method_45_code
def yX6_undo : MethodName := ⟨RX6, "undo", "(I)I"⟩
abbrev cX6_keep : ByteArray := prog_8_method_46_code
def yX6_keep : MethodName := ⟨RX6, "keep", "(I)I"⟩
abbrev cX6_on : ByteArray := prog_8_method_47_code
def yX6_on : MethodName := ⟨RX6, "on", "(I)I"⟩
abbrev cX6_touched : ByteArray := prog_8_method_48_code
def yX6_touched : MethodName := ⟨RX6, "touched", "(IIII)I"⟩
abbrev cX6_shows : ByteArray := prog_8_method_49_code
def yX6_shows : MethodName := ⟨RX6, "shows", "(I)I"⟩
abbrev cX6_shownBehind : ByteArray := prog_8_method_50_code
def yX6_shownBehind : MethodName := ⟨RX6, "shownBehind", "(I)I"⟩
abbrev cX6_most : ByteArray := prog_8_method_51_code
def yX6_most : MethodName := ⟨RX6, "most", "()I"⟩
abbrev cX6_shownByCode : ByteArray := prog_8_method_52_code
def yX6_shownByCode : MethodName := ⟨RX6, "shownByCode", "(II)I"⟩
abbrev cX6_fewest : ByteArray := prog_8_method_53_code
def yX6_fewest : MethodName := ⟨RX6, "fewest", "(II)I"⟩
abbrev cX6_isBy : ByteArray := prog_8_method_54_code
def yX6_isBy : MethodName := ⟨RX6, "isBy", "(II)Z"⟩
abbrev cX6_ways : ByteArray := prog_8_method_55_code
def yX6_ways : MethodName := ⟨RX6, "ways", "(I)I"⟩
abbrev cX6_sure : ByteArray := prog_8_method_56_code
def yX6_sure : MethodName := ⟨RX6, "sure", "(I)I"⟩
abbrev cX6_which : ByteArray := prog_8_method_57_code
def yX6_which : MethodName := ⟨RX6, "which", "(I)I"⟩
abbrev cX6_wouldShow : ByteArray := prog_8_method_58_code
def yX6_wouldShow : MethodName := ⟨RX6, "wouldShow", "(III)Z"⟩
abbrev cX6_pairs : ByteArray := prog_8_method_59_code
def yX6_pairs : MethodName := ⟨RX6, "pairs", "(I)I"⟩
abbrev cX6_kindsBy : ByteArray := prog_8_method_60_code
def yX6_kindsBy : MethodName := ⟨RX6, "kindsBy", "(II)I"⟩
abbrev cX6_kinds : ByteArray := prog_8_method_61_code
def yX6_kinds : MethodName := ⟨RX6, "kinds", "(II)I"⟩
abbrev cX6_next : ByteArray := prog_8_method_62_code
def yX6_next : MethodName := ⟨RX6, "next", "(II)I"⟩
abbrev cX6_sums : ByteArray := prog_8_method_63_code
def yX6_sums : MethodName := ⟨RX6, "sums", "(I)I"⟩
abbrev cX6_worthOf : ByteArray := prog_8_method_64_code
def yX6_worthOf : MethodName := ⟨RX6, "worthOf", "(III)I"⟩
abbrev cX6_duel : ByteArray := prog_8_method_65_code
def yX6_duel : MethodName := ⟨RX6, "duel", "(II)I"⟩
abbrev cX6_waysOf : ByteArray := prog_8_method_66_code
def yX6_waysOf : MethodName := ⟨RX6, "waysOf", "(III)J"⟩
abbrev cX6_allWays : ByteArray := prog_8_method_67_code
def yX6_allWays : MethodName := ⟨RX6, "allWays", "(I)J"⟩
abbrev cX6_shownBut : ByteArray := prog_8_method_68_code
def yX6_shownBut : MethodName := ⟨RX6, "shownBut", "(II)I"⟩
abbrev cX6_odds : ByteArray := prog_8_method_69_code
def yX6_odds : MethodName := ⟨RX6, "odds", "(III)I"⟩
abbrev cX6_mid : ByteArray := prog_8_method_70_code
def yX6_mid : MethodName := ⟨RX6, "mid", "(II)I"⟩
abbrev cX6_lot : ByteArray := prog_8_method_71_code
def yX6_lot : MethodName := ⟨RX6, "lot", "(II)V"⟩
abbrev cX6_lots : ByteArray := prog_8_method_72_code
def yX6_lots : MethodName := ⟨RX6, "lots", "(II)I"⟩
abbrev cX6_asked : ByteArray := prog_8_method_73_code
def yX6_asked : MethodName := ⟨RX6, "asked", "()I"⟩
abbrev cX6_upper : ByteArray := prog_8_method_74_code
def yX6_upper : MethodName := ⟨RX6, "upper", "()J"⟩
abbrev cX6_lower : ByteArray := prog_8_method_75_code
def yX6_lower : MethodName := ⟨RX6, "lower", "()J"⟩
abbrev cX6_thereAre : ByteArray := prog_8_method_76_code
def yX6_thereAre : MethodName := ⟨RX6, "thereAre", "(I)I"⟩
abbrev cX6_sumOf : ByteArray := prog_8_method_77_code
def yX6_sumOf : MethodName := ⟨RX6, "sumOf", "(I)I"⟩
abbrev cX6_count : ByteArray := prog_8_method_78_code
def yX6_count : MethodName := ⟨RX6, "count", "(I)I"⟩
abbrev cX6_finding : ByteArray := prog_8_method_79_code
def yX6_finding : MethodName := ⟨RX6, "finding", "()I"⟩
abbrev cX6_findings : ByteArray := prog_8_method_80_code
def yX6_findings : MethodName := ⟨RX6, "findings", "(I)I"⟩
abbrev cX6_digest : ByteArray := prog_8_method_81_code
def yX6_digest : MethodName := ⟨RX6, "digest", "()J"⟩
def RJ6 : String := "java/lang/Integer"
def TJ6 : u_T := fun k => match k with
  | _ => ("", "", "", false)
def tyJ6 : Nat → FieldType := fun k => match k with
  | _ => .int
abbrev wsJ60 : List Cond := u_ws RJ6 TJ6 0
theorem nmJ6 : ∀ a, a < 0 → ∀ b, b < 0 → a ≠ b → (TJ6 a).2.1 ≠ (TJ6 b).2.1 := by decide +kernel
theorem tyJ6_ok : ∀ k, k < 0 → parseFieldDescriptor (TJ6 k).2.2.1 = some (tyJ6 k) := by decide +kernel
abbrev cJ6_bitCount_0f7a4 : ByteArray := prog_9_method_49_code
def yJ6_bitCount_0f7a4 : MethodName := ⟨RJ6, "bitCount", "(I)I"⟩
def RJ9 : String := "java/lang/Math"
def TJ9 : u_T := fun k => match k with
  | _ => ("", "", "", false)
def tyJ9 : Nat → FieldType := fun k => match k with
  | _ => .int
abbrev wsJ90 : List Cond := u_ws RJ9 TJ9 0
theorem nmJ9 : ∀ a, a < 0 → ∀ b, b < 0 → a ≠ b → (TJ9 a).2.1 ≠ (TJ9 b).2.1 := by decide +kernel
theorem tyJ9_ok : ∀ k, k < 0 → parseFieldDescriptor (TJ9 k).2.2.1 = some (tyJ9 k) := by decide +kernel
abbrev cJ9_max_7cf53 : ByteArray := prog_10_method_65_code
def yJ9_max_7cf53 : MethodName := ⟨RJ9, "max", "(II)I"⟩
abbrev cJ9_min_7cf53 : ByteArray := prog_10_method_69_code
def yJ9_min_7cf53 : MethodName := ⟨RJ9, "min", "(II)I"⟩
def RJ10 : String := "java/lang/System"
def TJ10 : u_T := fun k => match k with
  | _ => ("", "", "", false)
def tyJ10 : Nat → FieldType := fun k => match k with
  | _ => .int
abbrev wsJ100 : List Cond := u_ws RJ10 TJ10 0
theorem nmJ10 : ∀ a, a < 0 → ∀ b, b < 0 → a ≠ b → (TJ10 a).2.1 ≠ (TJ10 b).2.1 := by decide +kernel
theorem tyJ10_ok : ∀ k, k < 0 → parseFieldDescriptor (TJ10 k).2.2.1 = some (tyJ10 k) := by decide +kernel
def RL : String := "TouchedLampsLaw"
abbrev cL_law : ByteArray := code
def yL_law : MethodName := ⟨RL, "law", "([I)Z"⟩
abbrev vwCl : List vw_C := [(RX0, TX0, 5), (RX1, TX1, 3), (RX2, TX2, 2), (RX3, TX3, 2), (RX5, TX5, 14), (RX6, TX6, 19)]
end
section
theorem dX0_init_0 : decode cX0_init 0 = .ok (.aload_n 0, 1) := by decide +kernel
theorem dX0_init_1 : decode cX0_init 1 = .ok (.invokespecial 3, 3) := by decide +kernel
theorem dX0_init_4 : decode cX0_init 4 = .ok (.return_, 1) := by decide +kernel
theorem dX0_isA_0 : decode cX0_isA 0 = .ok (.iload_n 0, 1) := by decide +kernel
theorem dX0_isA_1 : decode cX0_isA 1 = .ok (.iload_n 1, 1) := by decide +kernel
theorem dX0_isA_2 : decode cX0_isA 2 = .ok (.if_icmp .eq 27, 3) := by decide +kernel
theorem dX0_isA_5 : decode cX0_isA 5 = .ok (.iload_n 1, 1) := by decide +kernel
theorem dX0_isA_6 : decode cX0_isA 6 = .ok (.ifCond .eq 23, 3) := by decide +kernel
theorem dX0_isA_9 : decode cX0_isA 9 = .ok (.iload_n 0, 1) := by decide +kernel
theorem dX0_isA_10 : decode cX0_isA 10 = .ok (.iconst 4, 1) := by decide +kernel
theorem dX0_isA_11 : decode cX0_isA 11 = .ok (.if_icmp .ne 8, 3) := by decide +kernel
theorem dX0_isA_14 : decode cX0_isA 14 = .ok (.iload_n 1, 1) := by decide +kernel
theorem dX0_isA_15 : decode cX0_isA 15 = .ok (.iconst 1, 1) := by decide +kernel
theorem dX0_isA_16 : decode cX0_isA 16 = .ok (.if_icmp .eq 13, 3) := by decide +kernel
theorem dX0_isA_19 : decode cX0_isA 19 = .ok (.iload_n 0, 1) := by decide +kernel
theorem dX0_isA_20 : decode cX0_isA 20 = .ok (.iconst 5, 1) := by decide +kernel
theorem dX0_isA_21 : decode cX0_isA 21 = .ok (.if_icmp .ne 12, 3) := by decide +kernel
theorem dX0_isA_24 : decode cX0_isA 24 = .ok (.iload_n 1, 1) := by decide +kernel
theorem dX0_isA_25 : decode cX0_isA 25 = .ok (.iconst 3, 1) := by decide +kernel
theorem dX0_isA_26 : decode cX0_isA 26 = .ok (.if_icmp .ne 7, 3) := by decide +kernel
theorem dX0_isA_29 : decode cX0_isA 29 = .ok (.iconst 1, 1) := by decide +kernel
theorem dX0_isA_30 : decode cX0_isA 30 = .ok (.goto 4, 3) := by decide +kernel
theorem dX0_isA_33 : decode cX0_isA 33 = .ok (.iconst 0, 1) := by decide +kernel
theorem dX0_isA_34 : decode cX0_isA 34 = .ok (.ireturn, 1) := by decide +kernel
theorem dX0_lastStep_0 : decode cX0_lastStep 0 = .ok (.iload_n 0, 1) := by decide +kernel
theorem dX0_lastStep_1 : decode cX0_lastStep 1 = .ok (.iconst 1, 1) := by decide +kernel
theorem dX0_lastStep_2 : decode cX0_lastStep 2 = .ok (.invokestatic 9, 3) := by decide +kernel
theorem dX0_lastStep_5 : decode cX0_lastStep 5 = .ok (.ifCond .eq 7, 3) := by decide +kernel
theorem dX0_lastStep_8 : decode cX0_lastStep 8 = .ok (.iconst 2, 1) := by decide +kernel
theorem dX0_lastStep_9 : decode cX0_lastStep 9 = .ok (.goto 4, 3) := by decide +kernel
theorem dX0_lastStep_12 : decode cX0_lastStep 12 = .ok (.iconst 1, 1) := by decide +kernel
theorem dX0_lastStep_13 : decode cX0_lastStep 13 = .ok (.ireturn, 1) := by decide +kernel
theorem dX0_takeFrom_0 : decode cX0_takeFrom 0 = .ok (.aload_n 0, 1) := by decide +kernel
theorem dX0_takeFrom_1 : decode cX0_takeFrom 1 = .ok (.aload_n 1, 1) := by decide +kernel
theorem dX0_takeFrom_2 : decode cX0_takeFrom 2 = .ok (.getfield 15, 3) := by decide +kernel
theorem dX0_takeFrom_5 : decode cX0_takeFrom 5 = .ok (.putfield 15, 3) := by decide +kernel
theorem dX0_takeFrom_8 : decode cX0_takeFrom 8 = .ok (.aload_n 0, 1) := by decide +kernel
theorem dX0_takeFrom_9 : decode cX0_takeFrom 9 = .ok (.aload_n 1, 1) := by decide +kernel
theorem dX0_takeFrom_10 : decode cX0_takeFrom 10 = .ok (.getfield 19, 3) := by decide +kernel
theorem dX0_takeFrom_13 : decode cX0_takeFrom 13 = .ok (.putfield 19, 3) := by decide +kernel
theorem dX0_takeFrom_16 : decode cX0_takeFrom 16 = .ok (.aload_n 0, 1) := by decide +kernel
theorem dX0_takeFrom_17 : decode cX0_takeFrom 17 = .ok (.aload_n 1, 1) := by decide +kernel
theorem dX0_takeFrom_18 : decode cX0_takeFrom 18 = .ok (.getfield 22, 3) := by decide +kernel
theorem dX0_takeFrom_21 : decode cX0_takeFrom 21 = .ok (.putfield 22, 3) := by decide +kernel
theorem dX0_takeFrom_24 : decode cX0_takeFrom 24 = .ok (.aload_n 0, 1) := by decide +kernel
theorem dX0_takeFrom_25 : decode cX0_takeFrom 25 = .ok (.aload_n 1, 1) := by decide +kernel
theorem dX0_takeFrom_26 : decode cX0_takeFrom 26 = .ok (.getfield 25, 3) := by decide +kernel
theorem dX0_takeFrom_29 : decode cX0_takeFrom 29 = .ok (.putfield 25, 3) := by decide +kernel
theorem dX0_takeFrom_32 : decode cX0_takeFrom 32 = .ok (.aload_n 0, 1) := by decide +kernel
theorem dX0_takeFrom_33 : decode cX0_takeFrom 33 = .ok (.aload_n 1, 1) := by decide +kernel
theorem dX0_takeFrom_34 : decode cX0_takeFrom 34 = .ok (.getfield 28, 3) := by decide +kernel
theorem dX0_takeFrom_37 : decode cX0_takeFrom 37 = .ok (.putfield 28, 3) := by decide +kernel
theorem dX0_takeFrom_40 : decode cX0_takeFrom 40 = .ok (.return_, 1) := by decide +kernel
theorem dX0_become_0 : decode cX0_become 0 = .ok (.aload_n 0, 1) := by decide +kernel
theorem dX0_become_1 : decode cX0_become 1 = .ok (.aload_n 0, 1) := by decide +kernel
theorem dX0_become_2 : decode cX0_become 2 = .ok (.getfield 15, 3) := by decide +kernel
theorem dX0_become_5 : decode cX0_become 5 = .ok (.iload_n 1, 1) := by decide +kernel
theorem dX0_become_6 : decode cX0_become 6 = .ok (.iload_n 2, 1) := by decide +kernel
theorem dX0_become_7 : decode cX0_become 7 = .ok (.iconst 1, 1) := by decide +kernel
theorem dX0_become_8 : decode cX0_become 8 = .ok (.invokestatic 9, 3) := by decide +kernel
theorem dX0_become_11 : decode cX0_become 11 = .ok (.invokestatic 31, 3) := by decide +kernel
theorem dX0_become_14 : decode cX0_become 14 = .ok (.putfield 15, 3) := by decide +kernel
theorem dX0_become_17 : decode cX0_become 17 = .ok (.aload_n 0, 1) := by decide +kernel
theorem dX0_become_18 : decode cX0_become 18 = .ok (.aload_n 0, 1) := by decide +kernel
theorem dX0_become_19 : decode cX0_become 19 = .ok (.getfield 19, 3) := by decide +kernel
theorem dX0_become_22 : decode cX0_become 22 = .ok (.iload_n 1, 1) := by decide +kernel
theorem dX0_become_23 : decode cX0_become 23 = .ok (.iload_n 2, 1) := by decide +kernel
theorem dX0_become_24 : decode cX0_become 24 = .ok (.iconst 2, 1) := by decide +kernel
theorem dX0_become_25 : decode cX0_become 25 = .ok (.invokestatic 9, 3) := by decide +kernel
theorem dX0_become_28 : decode cX0_become 28 = .ok (.invokestatic 31, 3) := by decide +kernel
theorem dX0_become_31 : decode cX0_become 31 = .ok (.putfield 19, 3) := by decide +kernel
theorem dX0_become_34 : decode cX0_become 34 = .ok (.aload_n 0, 1) := by decide +kernel
theorem dX0_become_35 : decode cX0_become 35 = .ok (.aload_n 0, 1) := by decide +kernel
theorem dX0_become_36 : decode cX0_become 36 = .ok (.getfield 22, 3) := by decide +kernel
theorem dX0_become_39 : decode cX0_become 39 = .ok (.iload_n 1, 1) := by decide +kernel
theorem dX0_become_40 : decode cX0_become 40 = .ok (.iload_n 2, 1) := by decide +kernel
theorem dX0_become_41 : decode cX0_become 41 = .ok (.iconst 3, 1) := by decide +kernel
theorem dX0_become_42 : decode cX0_become 42 = .ok (.invokestatic 9, 3) := by decide +kernel
theorem dX0_become_45 : decode cX0_become 45 = .ok (.invokestatic 31, 3) := by decide +kernel
theorem dX0_become_48 : decode cX0_become 48 = .ok (.putfield 22, 3) := by decide +kernel
theorem dX0_become_51 : decode cX0_become 51 = .ok (.aload_n 0, 1) := by decide +kernel
theorem dX0_become_52 : decode cX0_become 52 = .ok (.aload_n 0, 1) := by decide +kernel
theorem dX0_become_53 : decode cX0_become 53 = .ok (.getfield 25, 3) := by decide +kernel
theorem dX0_become_56 : decode cX0_become 56 = .ok (.iload_n 1, 1) := by decide +kernel
theorem dX0_become_57 : decode cX0_become 57 = .ok (.iload_n 2, 1) := by decide +kernel
theorem dX0_become_58 : decode cX0_become 58 = .ok (.iconst 4, 1) := by decide +kernel
theorem dX0_become_59 : decode cX0_become 59 = .ok (.invokestatic 9, 3) := by decide +kernel
theorem dX0_become_62 : decode cX0_become 62 = .ok (.invokestatic 31, 3) := by decide +kernel
theorem dX0_become_65 : decode cX0_become 65 = .ok (.putfield 25, 3) := by decide +kernel
theorem dX0_become_68 : decode cX0_become 68 = .ok (.aload_n 0, 1) := by decide +kernel
theorem dX0_become_69 : decode cX0_become 69 = .ok (.aload_n 0, 1) := by decide +kernel
theorem dX0_become_70 : decode cX0_become 70 = .ok (.getfield 28, 3) := by decide +kernel
theorem dX0_become_73 : decode cX0_become 73 = .ok (.iload_n 1, 1) := by decide +kernel
theorem dX0_become_74 : decode cX0_become 74 = .ok (.iload_n 2, 1) := by decide +kernel
theorem dX0_become_75 : decode cX0_become 75 = .ok (.iconst 5, 1) := by decide +kernel
theorem dX0_become_76 : decode cX0_become 76 = .ok (.invokestatic 9, 3) := by decide +kernel
theorem dX0_become_79 : decode cX0_become 79 = .ok (.invokestatic 31, 3) := by decide +kernel
theorem dX0_become_82 : decode cX0_become 82 = .ok (.putfield 28, 3) := by decide +kernel
theorem dX0_become_85 : decode cX0_become 85 = .ok (.return_, 1) := by decide +kernel
theorem dX0_changed_0 : decode cX0_changed 0 = .ok (.iload_n 2, 1) := by decide +kernel
theorem dX0_changed_1 : decode cX0_changed 1 = .ok (.ifCond .eq 11, 3) := by decide +kernel
theorem dX0_changed_4 : decode cX0_changed 4 = .ok (.iload_n 0, 1) := by decide +kernel
theorem dX0_changed_5 : decode cX0_changed 5 = .ok (.iconst 1, 1) := by decide +kernel
theorem dX0_changed_6 : decode cX0_changed 6 = .ok (.iload_n 1, 1) := by decide +kernel
theorem dX0_changed_7 : decode cX0_changed 7 = .ok (.ishl, 1) := by decide +kernel
theorem dX0_changed_8 : decode cX0_changed 8 = .ok (.ior, 1) := by decide +kernel
theorem dX0_changed_9 : decode cX0_changed 9 = .ok (.goto 10, 3) := by decide +kernel
theorem dX0_changed_12 : decode cX0_changed 12 = .ok (.iload_n 0, 1) := by decide +kernel
theorem dX0_changed_13 : decode cX0_changed 13 = .ok (.iconst 1, 1) := by decide +kernel
theorem dX0_changed_14 : decode cX0_changed 14 = .ok (.iload_n 1, 1) := by decide +kernel
theorem dX0_changed_15 : decode cX0_changed 15 = .ok (.ishl, 1) := by decide +kernel
theorem dX0_changed_16 : decode cX0_changed 16 = .ok (.iconst (-1), 1) := by decide +kernel
theorem dX0_changed_17 : decode cX0_changed 17 = .ok (.ixor, 1) := by decide +kernel
theorem dX0_changed_18 : decode cX0_changed 18 = .ok (.iand, 1) := by decide +kernel
theorem dX0_changed_19 : decode cX0_changed 19 = .ok (.ireturn, 1) := by decide +kernel
theorem dX0_kindOf_0 : decode cX0_kindOf 0 = .ok (.iconst 1, 1) := by decide +kernel
theorem dX0_kindOf_1 : decode cX0_kindOf 1 = .ok (.iload_n 1, 1) := by decide +kernel
theorem dX0_kindOf_2 : decode cX0_kindOf 2 = .ok (.ishl, 1) := by decide +kernel
theorem dX0_kindOf_3 : decode cX0_kindOf 3 = .ok (.istore_n 2, 1) := by decide +kernel
theorem dX0_kindOf_4 : decode cX0_kindOf 4 = .ok (.aload_n 0, 1) := by decide +kernel
theorem dX0_kindOf_5 : decode cX0_kindOf 5 = .ok (.getfield 15, 3) := by decide +kernel
theorem dX0_kindOf_8 : decode cX0_kindOf 8 = .ok (.iload_n 2, 1) := by decide +kernel
theorem dX0_kindOf_9 : decode cX0_kindOf 9 = .ok (.iand, 1) := by decide +kernel
theorem dX0_kindOf_10 : decode cX0_kindOf 10 = .ok (.ifCond .eq 18, 3) := by decide +kernel
theorem dX0_kindOf_13 : decode cX0_kindOf 13 = .ok (.aload_n 0, 1) := by decide +kernel
theorem dX0_kindOf_14 : decode cX0_kindOf 14 = .ok (.getfield 25, 3) := by decide +kernel
theorem dX0_kindOf_17 : decode cX0_kindOf 17 = .ok (.iload_n 2, 1) := by decide +kernel
theorem dX0_kindOf_18 : decode cX0_kindOf 18 = .ok (.iand, 1) := by decide +kernel
theorem dX0_kindOf_19 : decode cX0_kindOf 19 = .ok (.ifCond .eq 7, 3) := by decide +kernel
theorem dX0_kindOf_22 : decode cX0_kindOf 22 = .ok (.iconst 4, 1) := by decide +kernel
theorem dX0_kindOf_23 : decode cX0_kindOf 23 = .ok (.goto 4, 3) := by decide +kernel
theorem dX0_kindOf_26 : decode cX0_kindOf 26 = .ok (.iconst 1, 1) := by decide +kernel
theorem dX0_kindOf_27 : decode cX0_kindOf 27 = .ok (.ireturn, 1) := by decide +kernel
theorem dX0_kindOf_28 : decode cX0_kindOf 28 = .ok (.aload_n 0, 1) := by decide +kernel
theorem dX0_kindOf_29 : decode cX0_kindOf 29 = .ok (.getfield 22, 3) := by decide +kernel
theorem dX0_kindOf_32 : decode cX0_kindOf 32 = .ok (.iload_n 2, 1) := by decide +kernel
theorem dX0_kindOf_33 : decode cX0_kindOf 33 = .ok (.iand, 1) := by decide +kernel
theorem dX0_kindOf_34 : decode cX0_kindOf 34 = .ok (.ifCond .eq 18, 3) := by decide +kernel
theorem dX0_kindOf_37 : decode cX0_kindOf 37 = .ok (.aload_n 0, 1) := by decide +kernel
theorem dX0_kindOf_38 : decode cX0_kindOf 38 = .ok (.getfield 28, 3) := by decide +kernel
theorem dX0_kindOf_41 : decode cX0_kindOf 41 = .ok (.iload_n 2, 1) := by decide +kernel
theorem dX0_kindOf_42 : decode cX0_kindOf 42 = .ok (.iand, 1) := by decide +kernel
theorem dX0_kindOf_43 : decode cX0_kindOf 43 = .ok (.ifCond .eq 7, 3) := by decide +kernel
theorem dX0_kindOf_46 : decode cX0_kindOf 46 = .ok (.iconst 5, 1) := by decide +kernel
theorem dX0_kindOf_47 : decode cX0_kindOf 47 = .ok (.goto 4, 3) := by decide +kernel
theorem dX0_kindOf_50 : decode cX0_kindOf 50 = .ok (.iconst 3, 1) := by decide +kernel
theorem dX0_kindOf_51 : decode cX0_kindOf 51 = .ok (.ireturn, 1) := by decide +kernel
theorem dX0_kindOf_52 : decode cX0_kindOf 52 = .ok (.aload_n 0, 1) := by decide +kernel
theorem dX0_kindOf_53 : decode cX0_kindOf 53 = .ok (.getfield 19, 3) := by decide +kernel
theorem dX0_kindOf_56 : decode cX0_kindOf 56 = .ok (.iload_n 2, 1) := by decide +kernel
theorem dX0_kindOf_57 : decode cX0_kindOf 57 = .ok (.iand, 1) := by decide +kernel
theorem dX0_kindOf_58 : decode cX0_kindOf 58 = .ok (.ifCond .eq 7, 3) := by decide +kernel
theorem dX0_kindOf_61 : decode cX0_kindOf 61 = .ok (.iconst 2, 1) := by decide +kernel
theorem dX0_kindOf_62 : decode cX0_kindOf 62 = .ok (.goto 4, 3) := by decide +kernel
theorem dX0_kindOf_65 : decode cX0_kindOf 65 = .ok (.iconst 0, 1) := by decide +kernel
theorem dX0_kindOf_66 : decode cX0_kindOf 66 = .ok (.ireturn, 1) := by decide +kernel
theorem dX0_showing_0 : decode cX0_showing 0 = .ok (.iload_n 1, 1) := by decide +kernel
theorem dX0_showing_1 : decode cX0_showing 1 = .ok (.invokestatic 35, 3) := by decide +kernel
theorem dX0_showing_4 : decode cX0_showing 4 = .ok (.aload_n 0, 1) := by decide +kernel
theorem dX0_showing_5 : decode cX0_showing 5 = .ok (.getfield 28, 3) := by decide +kernel
theorem dX0_showing_8 : decode cX0_showing 8 = .ok (.ixor, 1) := by decide +kernel
theorem dX0_showing_9 : decode cX0_showing 9 = .ok (.iload_n 1, 1) := by decide +kernel
theorem dX0_showing_10 : decode cX0_showing 10 = .ok (.invokestatic 41, 3) := by decide +kernel
theorem dX0_showing_13 : decode cX0_showing 13 = .ok (.iconst (-1), 1) := by decide +kernel
theorem dX0_showing_14 : decode cX0_showing 14 = .ok (.ixor, 1) := by decide +kernel
theorem dX0_showing_15 : decode cX0_showing 15 = .ok (.iand, 1) := by decide +kernel
theorem dX0_showing_16 : decode cX0_showing 16 = .ok (.ireturn, 1) := by decide +kernel
theorem dX0_behindPress_0 : decode cX0_behindPress 0 = .ok (.aload_n 0, 1) := by decide +kernel
theorem dX0_behindPress_1 : decode cX0_behindPress 1 = .ok (.iload_n 1, 1) := by decide +kernel
theorem dX0_behindPress_2 : decode cX0_behindPress 2 = .ok (.iload_n 2, 1) := by decide +kernel
theorem dX0_behindPress_3 : decode cX0_behindPress 3 = .ok (.invokestatic 44, 3) := by decide +kernel
theorem dX0_behindPress_6 : decode cX0_behindPress 6 = .ok (.iload_n 1, 1) := by decide +kernel
theorem dX0_behindPress_7 : decode cX0_behindPress 7 = .ok (.invokestatic 41, 3) := by decide +kernel
theorem dX0_behindPress_10 : decode cX0_behindPress 10 = .ok (.iconst (-1), 1) := by decide +kernel
theorem dX0_behindPress_11 : decode cX0_behindPress 11 = .ok (.ixor, 1) := by decide +kernel
theorem dX0_behindPress_12 : decode cX0_behindPress 12 = .ok (.iand, 1) := by decide +kernel
theorem dX0_behindPress_13 : decode cX0_behindPress 13 = .ok (.iconst 1, 1) := by decide +kernel
theorem dX0_behindPress_14 : decode cX0_behindPress 14 = .ok (.iload_n 2, 1) := by decide +kernel
theorem dX0_behindPress_15 : decode cX0_behindPress 15 = .ok (.ishl, 1) := by decide +kernel
theorem dX0_behindPress_16 : decode cX0_behindPress 16 = .ok (.iload_n 3, 1) := by decide +kernel
theorem dX0_behindPress_17 : decode cX0_behindPress 17 = .ok (.invokevirtual 47, 3) := by decide +kernel
theorem dX0_behindPress_20 : decode cX0_behindPress 20 = .ok (.ireturn, 1) := by decide +kernel
theorem dX0_behindTouch_0 : decode cX0_behindTouch 0 = .ok (.iload_n 2, 1) := by decide +kernel
theorem dX0_behindTouch_1 : decode cX0_behindTouch 1 = .ok (.aload_n 0, 1) := by decide +kernel
theorem dX0_behindTouch_2 : decode cX0_behindTouch 2 = .ok (.getfield 22, 3) := by decide +kernel
theorem dX0_behindTouch_5 : decode cX0_behindTouch 5 = .ok (.iload_n 3, 1) := by decide +kernel
theorem dX0_behindTouch_6 : decode cX0_behindTouch 6 = .ok (.iand, 1) := by decide +kernel
theorem dX0_behindTouch_7 : decode cX0_behindTouch 7 = .ok (.iconst (-1), 1) := by decide +kernel
theorem dX0_behindTouch_8 : decode cX0_behindTouch 8 = .ok (.ixor, 1) := by decide +kernel
theorem dX0_behindTouch_9 : decode cX0_behindTouch 9 = .ok (.iand, 1) := by decide +kernel
theorem dX0_behindTouch_10 : decode cX0_behindTouch 10 = .ok (.istore 5, 2) := by decide +kernel
theorem dX0_behindTouch_12 : decode cX0_behindTouch 12 = .ok (.iload 4, 2) := by decide +kernel
theorem dX0_behindTouch_14 : decode cX0_behindTouch 14 = .ok (.iconst 2, 1) := by decide +kernel
theorem dX0_behindTouch_15 : decode cX0_behindTouch 15 = .ok (.irem, 1) := by decide +kernel
theorem dX0_behindTouch_16 : decode cX0_behindTouch 16 = .ok (.ifCond .eq 14, 3) := by decide +kernel
theorem dX0_behindTouch_19 : decode cX0_behindTouch 19 = .ok (.iload 5, 2) := by decide +kernel
theorem dX0_behindTouch_21 : decode cX0_behindTouch 21 = .ok (.aload_n 0, 1) := by decide +kernel
theorem dX0_behindTouch_22 : decode cX0_behindTouch 22 = .ok (.getfield 25, 3) := by decide +kernel
theorem dX0_behindTouch_25 : decode cX0_behindTouch 25 = .ok (.iconst (-1), 1) := by decide +kernel
theorem dX0_behindTouch_26 : decode cX0_behindTouch 26 = .ok (.ixor, 1) := by decide +kernel
theorem dX0_behindTouch_27 : decode cX0_behindTouch 27 = .ok (.iand, 1) := by decide +kernel
theorem dX0_behindTouch_28 : decode cX0_behindTouch 28 = .ok (.istore 5, 2) := by decide +kernel
theorem dX0_behindTouch_30 : decode cX0_behindTouch 30 = .ok (.iload_n 1, 1) := by decide +kernel
theorem dX0_behindTouch_31 : decode cX0_behindTouch 31 = .ok (.invokestatic 51, 3) := by decide +kernel
theorem dX0_behindTouch_34 : decode cX0_behindTouch 34 = .ok (.istore 6, 2) := by decide +kernel
theorem dX0_behindTouch_36 : decode cX0_behindTouch 36 = .ok (.iload_n 1, 1) := by decide +kernel
theorem dX0_behindTouch_37 : decode cX0_behindTouch 37 = .ok (.invokestatic 54, 3) := by decide +kernel
theorem dX0_behindTouch_40 : decode cX0_behindTouch 40 = .ok (.istore 7, 2) := by decide +kernel
theorem dX0_behindTouch_42 : decode cX0_behindTouch 42 = .ok (.iload 5, 2) := by decide +kernel
theorem dX0_behindTouch_44 : decode cX0_behindTouch 44 = .ok (.aload_n 0, 1) := by decide +kernel
theorem dX0_behindTouch_45 : decode cX0_behindTouch 45 = .ok (.getfield 15, 3) := by decide +kernel
theorem dX0_behindTouch_48 : decode cX0_behindTouch 48 = .ok (.iand, 1) := by decide +kernel
theorem dX0_behindTouch_49 : decode cX0_behindTouch 49 = .ok (.istore 8, 2) := by decide +kernel
theorem dX0_behindTouch_51 : decode cX0_behindTouch 51 = .ok (.iload 5, 2) := by decide +kernel
theorem dX0_behindTouch_53 : decode cX0_behindTouch 53 = .ok (.aload_n 0, 1) := by decide +kernel
theorem dX0_behindTouch_54 : decode cX0_behindTouch 54 = .ok (.getfield 19, 3) := by decide +kernel
theorem dX0_behindTouch_57 : decode cX0_behindTouch 57 = .ok (.iand, 1) := by decide +kernel
theorem dX0_behindTouch_58 : decode cX0_behindTouch 58 = .ok (.istore 9, 2) := by decide +kernel
theorem dX0_behindTouch_60 : decode cX0_behindTouch 60 = .ok (.iload 5, 2) := by decide +kernel
theorem dX0_behindTouch_62 : decode cX0_behindTouch 62 = .ok (.aload_n 0, 1) := by decide +kernel
theorem dX0_behindTouch_63 : decode cX0_behindTouch 63 = .ok (.getfield 15, 3) := by decide +kernel
theorem dX0_behindTouch_66 : decode cX0_behindTouch 66 = .ok (.iconst (-1), 1) := by decide +kernel
theorem dX0_behindTouch_67 : decode cX0_behindTouch 67 = .ok (.ixor, 1) := by decide +kernel
theorem dX0_behindTouch_68 : decode cX0_behindTouch 68 = .ok (.iand, 1) := by decide +kernel
theorem dX0_behindTouch_69 : decode cX0_behindTouch 69 = .ok (.aload_n 0, 1) := by decide +kernel
theorem dX0_behindTouch_70 : decode cX0_behindTouch 70 = .ok (.getfield 19, 3) := by decide +kernel
theorem dX0_behindTouch_73 : decode cX0_behindTouch 73 = .ok (.iconst (-1), 1) := by decide +kernel
theorem dX0_behindTouch_74 : decode cX0_behindTouch 74 = .ok (.ixor, 1) := by decide +kernel
theorem dX0_behindTouch_75 : decode cX0_behindTouch 75 = .ok (.iand, 1) := by decide +kernel
theorem dX0_behindTouch_76 : decode cX0_behindTouch 76 = .ok (.istore 10, 2) := by decide +kernel
theorem dX0_behindTouch_78 : decode cX0_behindTouch 78 = .ok (.iload 6, 2) := by decide +kernel
theorem dX0_behindTouch_80 : decode cX0_behindTouch 80 = .ok (.iload 8, 2) := by decide +kernel
theorem dX0_behindTouch_82 : decode cX0_behindTouch 82 = .ok (.iconst (-1), 1) := by decide +kernel
theorem dX0_behindTouch_83 : decode cX0_behindTouch 83 = .ok (.ixor, 1) := by decide +kernel
theorem dX0_behindTouch_84 : decode cX0_behindTouch 84 = .ok (.iand, 1) := by decide +kernel
theorem dX0_behindTouch_85 : decode cX0_behindTouch 85 = .ok (.iload 8, 2) := by decide +kernel
theorem dX0_behindTouch_87 : decode cX0_behindTouch 87 = .ok (.iload 6, 2) := by decide +kernel
theorem dX0_behindTouch_89 : decode cX0_behindTouch 89 = .ok (.iconst (-1), 1) := by decide +kernel
theorem dX0_behindTouch_90 : decode cX0_behindTouch 90 = .ok (.ixor, 1) := by decide +kernel
theorem dX0_behindTouch_91 : decode cX0_behindTouch 91 = .ok (.iand, 1) := by decide +kernel
theorem dX0_behindTouch_92 : decode cX0_behindTouch 92 = .ok (.iload 7, 2) := by decide +kernel
theorem dX0_behindTouch_94 : decode cX0_behindTouch 94 = .ok (.iconst (-1), 1) := by decide +kernel
theorem dX0_behindTouch_95 : decode cX0_behindTouch 95 = .ok (.ixor, 1) := by decide +kernel
theorem dX0_behindTouch_96 : decode cX0_behindTouch 96 = .ok (.iand, 1) := by decide +kernel
theorem dX0_behindTouch_97 : decode cX0_behindTouch 97 = .ok (.ior, 1) := by decide +kernel
theorem dX0_behindTouch_98 : decode cX0_behindTouch 98 = .ok (.iload 9, 2) := by decide +kernel
theorem dX0_behindTouch_100 : decode cX0_behindTouch 100 = .ok (.ior, 1) := by decide +kernel
theorem dX0_behindTouch_101 : decode cX0_behindTouch 101 = .ok (.iload 10, 2) := by decide +kernel
theorem dX0_behindTouch_103 : decode cX0_behindTouch 103 = .ok (.ixor, 1) := by decide +kernel
theorem dX0_behindTouch_104 : decode cX0_behindTouch 104 = .ok (.istore 11, 2) := by decide +kernel
theorem dX0_behindTouch_106 : decode cX0_behindTouch 106 = .ok (.iload 7, 2) := by decide +kernel
theorem dX0_behindTouch_108 : decode cX0_behindTouch 108 = .ok (.iload 8, 2) := by decide +kernel
theorem dX0_behindTouch_110 : decode cX0_behindTouch 110 = .ok (.iconst (-1), 1) := by decide +kernel
theorem dX0_behindTouch_111 : decode cX0_behindTouch 111 = .ok (.ixor, 1) := by decide +kernel
theorem dX0_behindTouch_112 : decode cX0_behindTouch 112 = .ok (.iand, 1) := by decide +kernel
theorem dX0_behindTouch_113 : decode cX0_behindTouch 113 = .ok (.iload 8, 2) := by decide +kernel
theorem dX0_behindTouch_115 : decode cX0_behindTouch 115 = .ok (.iload 6, 2) := by decide +kernel
theorem dX0_behindTouch_117 : decode cX0_behindTouch 117 = .ok (.iand, 1) := by decide +kernel
theorem dX0_behindTouch_118 : decode cX0_behindTouch 118 = .ok (.ior, 1) := by decide +kernel
theorem dX0_behindTouch_119 : decode cX0_behindTouch 119 = .ok (.istore 12, 2) := by decide +kernel
theorem dX0_behindTouch_121 : decode cX0_behindTouch 121 = .ok (.iload 11, 2) := by decide +kernel
theorem dX0_behindTouch_123 : decode cX0_behindTouch 123 = .ok (.iload 12, 2) := by decide +kernel
theorem dX0_behindTouch_125 : decode cX0_behindTouch 125 = .ok (.iload_n 1, 1) := by decide +kernel
theorem dX0_behindTouch_126 : decode cX0_behindTouch 126 = .ok (.invokestatic 41, 3) := by decide +kernel
theorem dX0_behindTouch_129 : decode cX0_behindTouch 129 = .ok (.invokestatic 57, 3) := by decide +kernel
theorem dX0_behindTouch_132 : decode cX0_behindTouch 132 = .ok (.ireturn, 1) := by decide +kernel
theorem dX1_init_0 : decode cX1_init 0 = .ok (.aload_n 0, 1) := by decide +kernel
theorem dX1_init_1 : decode cX1_init 1 = .ok (.invokespecial 3, 3) := by decide +kernel
theorem dX1_init_4 : decode cX1_init 4 = .ok (.aload_n 0, 1) := by decide +kernel
theorem dX1_init_5 : decode cX1_init 5 = .ok (.bipush 41, 2) := by decide +kernel
theorem dX1_init_7 : decode cX1_init 7 = .ok (.newarray .int, 2) := by decide +kernel
theorem dX1_init_9 : decode cX1_init 9 = .ok (.putfield 9, 3) := by decide +kernel
theorem dX1_init_12 : decode cX1_init 12 = .ok (.aload_n 0, 1) := by decide +kernel
theorem dX1_init_13 : decode cX1_init 13 = .ok (.bipush 41, 2) := by decide +kernel
theorem dX1_init_15 : decode cX1_init 15 = .ok (.newarray .int, 2) := by decide +kernel
theorem dX1_init_17 : decode cX1_init 17 = .ok (.putfield 15, 3) := by decide +kernel
theorem dX1_init_20 : decode cX1_init 20 = .ok (.aload_n 0, 1) := by decide +kernel
theorem dX1_init_21 : decode cX1_init 21 = .ok (.iconst (-1), 1) := by decide +kernel
theorem dX1_init_22 : decode cX1_init 22 = .ok (.putfield 18, 3) := by decide +kernel
theorem dX1_init_25 : decode cX1_init 25 = .ok (.return_, 1) := by decide +kernel
theorem dX1_isThere_0 : decode cX1_isThere 0 = .ok (.aload_n 0, 1) := by decide +kernel
theorem dX1_isThere_1 : decode cX1_isThere 1 = .ok (.getfield 18, 3) := by decide +kernel
theorem dX1_isThere_4 : decode cX1_isThere 4 = .ok (.ifCond .lt 7, 3) := by decide +kernel
theorem dX1_isThere_7 : decode cX1_isThere 7 = .ok (.iconst 1, 1) := by decide +kernel
theorem dX1_isThere_8 : decode cX1_isThere 8 = .ok (.goto 4, 3) := by decide +kernel
theorem dX1_isThere_11 : decode cX1_isThere 11 = .ok (.iconst 0, 1) := by decide +kernel
theorem dX1_isThere_12 : decode cX1_isThere 12 = .ok (.ireturn, 1) := by decide +kernel
theorem dX1_deeds_0 : decode cX1_deeds 0 = .ok (.aload_n 0, 1) := by decide +kernel
theorem dX1_deeds_1 : decode cX1_deeds 1 = .ok (.getfield 18, 3) := by decide +kernel
theorem dX1_deeds_4 : decode cX1_deeds 4 = .ok (.iconst 0, 1) := by decide +kernel
theorem dX1_deeds_5 : decode cX1_deeds 5 = .ok (.invokestatic 22, 3) := by decide +kernel
theorem dX1_deeds_8 : decode cX1_deeds 8 = .ok (.ireturn, 1) := by decide +kernel
theorem dX1_room_0 : decode cX1_room 0 = .ok (.aload_n 0, 1) := by decide +kernel
theorem dX1_room_1 : decode cX1_room 1 = .ok (.invokevirtual 28, 3) := by decide +kernel
theorem dX1_room_4 : decode cX1_room 4 = .ok (.ifCond .eq 13, 3) := by decide +kernel
theorem dX1_room_7 : decode cX1_room 7 = .ok (.bipush 40, 2) := by decide +kernel
theorem dX1_room_9 : decode cX1_room 9 = .ok (.aload_n 0, 1) := by decide +kernel
theorem dX1_room_10 : decode cX1_room 10 = .ok (.getfield 18, 3) := by decide +kernel
theorem dX1_room_13 : decode cX1_room 13 = .ok (.isub, 1) := by decide +kernel
theorem dX1_room_14 : decode cX1_room 14 = .ok (.goto 4, 3) := by decide +kernel
theorem dX1_room_17 : decode cX1_room 17 = .ok (.iconst 0, 1) := by decide +kernel
theorem dX1_room_18 : decode cX1_room 18 = .ok (.ireturn, 1) := by decide +kernel
theorem dX1_state_0 : decode cX1_state 0 = .ok (.aload_n 0, 1) := by decide +kernel
theorem dX1_state_1 : decode cX1_state 1 = .ok (.getfield 18, 3) := by decide +kernel
theorem dX1_state_4 : decode cX1_state 4 = .ok (.ifCond .lt 27, 3) := by decide +kernel
theorem dX1_state_7 : decode cX1_state 7 = .ok (.aload_n 0, 1) := by decide +kernel
theorem dX1_state_8 : decode cX1_state 8 = .ok (.getfield 18, 3) := by decide +kernel
theorem dX1_state_11 : decode cX1_state 11 = .ok (.aload_n 0, 1) := by decide +kernel
theorem dX1_state_12 : decode cX1_state 12 = .ok (.getfield 9, 3) := by decide +kernel
theorem dX1_state_15 : decode cX1_state 15 = .ok (.arraylength, 1) := by decide +kernel
theorem dX1_state_16 : decode cX1_state 16 = .ok (.if_icmp .ge 15, 3) := by decide +kernel
theorem dX1_state_19 : decode cX1_state 19 = .ok (.aload_n 0, 1) := by decide +kernel
theorem dX1_state_20 : decode cX1_state 20 = .ok (.getfield 9, 3) := by decide +kernel
theorem dX1_state_23 : decode cX1_state 23 = .ok (.aload_n 0, 1) := by decide +kernel
theorem dX1_state_24 : decode cX1_state 24 = .ok (.getfield 18, 3) := by decide +kernel
theorem dX1_state_27 : decode cX1_state 27 = .ok (.iaload, 1) := by decide +kernel
theorem dX1_state_28 : decode cX1_state 28 = .ok (.goto 4, 3) := by decide +kernel
theorem dX1_state_31 : decode cX1_state 31 = .ok (.iconst 0, 1) := by decide +kernel
theorem dX1_state_32 : decode cX1_state 32 = .ok (.ireturn, 1) := by decide +kernel
theorem dX1_number_0 : decode cX1_number 0 = .ok (.aload_n 0, 1) := by decide +kernel
theorem dX1_number_1 : decode cX1_number 1 = .ok (.getfield 18, 3) := by decide +kernel
theorem dX1_number_4 : decode cX1_number 4 = .ok (.ifCond .lt 27, 3) := by decide +kernel
theorem dX1_number_7 : decode cX1_number 7 = .ok (.aload_n 0, 1) := by decide +kernel
theorem dX1_number_8 : decode cX1_number 8 = .ok (.getfield 18, 3) := by decide +kernel
theorem dX1_number_11 : decode cX1_number 11 = .ok (.aload_n 0, 1) := by decide +kernel
theorem dX1_number_12 : decode cX1_number 12 = .ok (.getfield 15, 3) := by decide +kernel
theorem dX1_number_15 : decode cX1_number 15 = .ok (.arraylength, 1) := by decide +kernel
theorem dX1_number_16 : decode cX1_number 16 = .ok (.if_icmp .ge 15, 3) := by decide +kernel
theorem dX1_number_19 : decode cX1_number 19 = .ok (.aload_n 0, 1) := by decide +kernel
theorem dX1_number_20 : decode cX1_number 20 = .ok (.getfield 15, 3) := by decide +kernel
theorem dX1_number_23 : decode cX1_number 23 = .ok (.aload_n 0, 1) := by decide +kernel
theorem dX1_number_24 : decode cX1_number 24 = .ok (.getfield 18, 3) := by decide +kernel
theorem dX1_number_27 : decode cX1_number 27 = .ok (.iaload, 1) := by decide +kernel
theorem dX1_number_28 : decode cX1_number 28 = .ok (.goto 4, 3) := by decide +kernel
theorem dX1_number_31 : decode cX1_number 31 = .ok (.iconst 0, 1) := by decide +kernel
theorem dX1_number_32 : decode cX1_number 32 = .ok (.ireturn, 1) := by decide +kernel
theorem dX1_forget_0 : decode cX1_forget 0 = .ok (.aload_n 0, 1) := by decide +kernel
theorem dX1_forget_1 : decode cX1_forget 1 = .ok (.iconst (-1), 1) := by decide +kernel
theorem dX1_forget_2 : decode cX1_forget 2 = .ok (.putfield 18, 3) := by decide +kernel
theorem dX1_forget_5 : decode cX1_forget 5 = .ok (.return_, 1) := by decide +kernel
theorem dX1_begin_0 : decode cX1_begin 0 = .ok (.aload_n 0, 1) := by decide +kernel
theorem dX1_begin_1 : decode cX1_begin 1 = .ok (.iconst 0, 1) := by decide +kernel
theorem dX1_begin_2 : decode cX1_begin 2 = .ok (.putfield 18, 3) := by decide +kernel
theorem dX1_begin_5 : decode cX1_begin 5 = .ok (.aload_n 0, 1) := by decide +kernel
theorem dX1_begin_6 : decode cX1_begin 6 = .ok (.getfield 9, 3) := by decide +kernel
theorem dX1_begin_9 : decode cX1_begin 9 = .ok (.iconst 0, 1) := by decide +kernel
theorem dX1_begin_10 : decode cX1_begin 10 = .ok (.iload_n 1, 1) := by decide +kernel
theorem dX1_begin_11 : decode cX1_begin 11 = .ok (.iastore, 1) := by decide +kernel
theorem dX1_begin_12 : decode cX1_begin 12 = .ok (.aload_n 0, 1) := by decide +kernel
theorem dX1_begin_13 : decode cX1_begin 13 = .ok (.getfield 15, 3) := by decide +kernel
theorem dX1_begin_16 : decode cX1_begin 16 = .ok (.iconst 0, 1) := by decide +kernel
theorem dX1_begin_17 : decode cX1_begin 17 = .ok (.iconst 0, 1) := by decide +kernel
theorem dX1_begin_18 : decode cX1_begin 18 = .ok (.iastore, 1) := by decide +kernel
theorem dX1_begin_19 : decode cX1_begin 19 = .ok (.return_, 1) := by decide +kernel
theorem dX1_go_0 : decode cX1_go 0 = .ok (.aload_n 0, 1) := by decide +kernel
theorem dX1_go_1 : decode cX1_go 1 = .ok (.invokevirtual 32, 3) := by decide +kernel
theorem dX1_go_4 : decode cX1_go 4 = .ok (.ifCond .le 40, 3) := by decide +kernel
theorem dX1_go_7 : decode cX1_go 7 = .ok (.aload_n 0, 1) := by decide +kernel
theorem dX1_go_8 : decode cX1_go 8 = .ok (.invokevirtual 36, 3) := by decide +kernel
theorem dX1_go_11 : decode cX1_go 11 = .ok (.iload_n 2, 1) := by decide +kernel
theorem dX1_go_12 : decode cX1_go 12 = .ok (.iadd, 1) := by decide +kernel
theorem dX1_go_13 : decode cX1_go 13 = .ok (.istore_n 3, 1) := by decide +kernel
theorem dX1_go_14 : decode cX1_go 14 = .ok (.aload_n 0, 1) := by decide +kernel
theorem dX1_go_15 : decode cX1_go 15 = .ok (.dup, 1) := by decide +kernel
theorem dX1_go_16 : decode cX1_go 16 = .ok (.getfield 18, 3) := by decide +kernel
theorem dX1_go_19 : decode cX1_go 19 = .ok (.iconst 1, 1) := by decide +kernel
theorem dX1_go_20 : decode cX1_go 20 = .ok (.iadd, 1) := by decide +kernel
theorem dX1_go_21 : decode cX1_go 21 = .ok (.putfield 18, 3) := by decide +kernel
theorem dX1_go_24 : decode cX1_go 24 = .ok (.aload_n 0, 1) := by decide +kernel
theorem dX1_go_25 : decode cX1_go 25 = .ok (.getfield 9, 3) := by decide +kernel
theorem dX1_go_28 : decode cX1_go 28 = .ok (.aload_n 0, 1) := by decide +kernel
theorem dX1_go_29 : decode cX1_go 29 = .ok (.getfield 18, 3) := by decide +kernel
theorem dX1_go_32 : decode cX1_go 32 = .ok (.iload_n 1, 1) := by decide +kernel
theorem dX1_go_33 : decode cX1_go 33 = .ok (.iastore, 1) := by decide +kernel
theorem dX1_go_34 : decode cX1_go 34 = .ok (.aload_n 0, 1) := by decide +kernel
theorem dX1_go_35 : decode cX1_go 35 = .ok (.getfield 15, 3) := by decide +kernel
theorem dX1_go_38 : decode cX1_go 38 = .ok (.aload_n 0, 1) := by decide +kernel
theorem dX1_go_39 : decode cX1_go 39 = .ok (.getfield 18, 3) := by decide +kernel
theorem dX1_go_42 : decode cX1_go 42 = .ok (.iload_n 3, 1) := by decide +kernel
theorem dX1_go_43 : decode cX1_go 43 = .ok (.iastore, 1) := by decide +kernel
theorem dX1_go_44 : decode cX1_go 44 = .ok (.return_, 1) := by decide +kernel
theorem dX1_goBack_0 : decode cX1_goBack 0 = .ok (.iload_n 1, 1) := by decide +kernel
theorem dX1_goBack_1 : decode cX1_goBack 1 = .ok (.ifCond .lt 16, 3) := by decide +kernel
theorem dX1_goBack_4 : decode cX1_goBack 4 = .ok (.iload_n 1, 1) := by decide +kernel
theorem dX1_goBack_5 : decode cX1_goBack 5 = .ok (.aload_n 0, 1) := by decide +kernel
theorem dX1_goBack_6 : decode cX1_goBack 6 = .ok (.getfield 18, 3) := by decide +kernel
theorem dX1_goBack_9 : decode cX1_goBack 9 = .ok (.if_icmp .gt 8, 3) := by decide +kernel
theorem dX1_goBack_12 : decode cX1_goBack 12 = .ok (.aload_n 0, 1) := by decide +kernel
theorem dX1_goBack_13 : decode cX1_goBack 13 = .ok (.iload_n 1, 1) := by decide +kernel
theorem dX1_goBack_14 : decode cX1_goBack 14 = .ok (.putfield 18, 3) := by decide +kernel
theorem dX1_goBack_17 : decode cX1_goBack 17 = .ok (.return_, 1) := by decide +kernel
theorem dX1_takeFrom_0 : decode cX1_takeFrom 0 = .ok (.aload_n 0, 1) := by decide +kernel
theorem dX1_takeFrom_1 : decode cX1_takeFrom 1 = .ok (.aload_n 1, 1) := by decide +kernel
theorem dX1_takeFrom_2 : decode cX1_takeFrom 2 = .ok (.getfield 18, 3) := by decide +kernel
theorem dX1_takeFrom_5 : decode cX1_takeFrom 5 = .ok (.putfield 18, 3) := by decide +kernel
theorem dX1_takeFrom_8 : decode cX1_takeFrom 8 = .ok (.iconst 0, 1) := by decide +kernel
theorem dX1_takeFrom_9 : decode cX1_takeFrom 9 = .ok (.istore_n 2, 1) := by decide +kernel
theorem dX1_takeFrom_10 : decode cX1_takeFrom 10 = .ok (.iload_n 2, 1) := by decide +kernel
theorem dX1_takeFrom_11 : decode cX1_takeFrom 11 = .ok (.aload_n 0, 1) := by decide +kernel
theorem dX1_takeFrom_12 : decode cX1_takeFrom 12 = .ok (.getfield 18, 3) := by decide +kernel
theorem dX1_takeFrom_15 : decode cX1_takeFrom 15 = .ok (.if_icmp .gt 39, 3) := by decide +kernel
theorem dX1_takeFrom_18 : decode cX1_takeFrom 18 = .ok (.iload_n 2, 1) := by decide +kernel
theorem dX1_takeFrom_19 : decode cX1_takeFrom 19 = .ok (.bipush 40, 2) := by decide +kernel
theorem dX1_takeFrom_21 : decode cX1_takeFrom 21 = .ok (.if_icmp .gt 33, 3) := by decide +kernel
theorem dX1_takeFrom_24 : decode cX1_takeFrom 24 = .ok (.aload_n 0, 1) := by decide +kernel
theorem dX1_takeFrom_25 : decode cX1_takeFrom 25 = .ok (.getfield 9, 3) := by decide +kernel
theorem dX1_takeFrom_28 : decode cX1_takeFrom 28 = .ok (.iload_n 2, 1) := by decide +kernel
theorem dX1_takeFrom_29 : decode cX1_takeFrom 29 = .ok (.aload_n 1, 1) := by decide +kernel
theorem dX1_takeFrom_30 : decode cX1_takeFrom 30 = .ok (.getfield 9, 3) := by decide +kernel
theorem dX1_takeFrom_33 : decode cX1_takeFrom 33 = .ok (.iload_n 2, 1) := by decide +kernel
theorem dX1_takeFrom_34 : decode cX1_takeFrom 34 = .ok (.iaload, 1) := by decide +kernel
theorem dX1_takeFrom_35 : decode cX1_takeFrom 35 = .ok (.iastore, 1) := by decide +kernel
theorem dX1_takeFrom_36 : decode cX1_takeFrom 36 = .ok (.aload_n 0, 1) := by decide +kernel
theorem dX1_takeFrom_37 : decode cX1_takeFrom 37 = .ok (.getfield 15, 3) := by decide +kernel
theorem dX1_takeFrom_40 : decode cX1_takeFrom 40 = .ok (.iload_n 2, 1) := by decide +kernel
theorem dX1_takeFrom_41 : decode cX1_takeFrom 41 = .ok (.aload_n 1, 1) := by decide +kernel
theorem dX1_takeFrom_42 : decode cX1_takeFrom 42 = .ok (.getfield 15, 3) := by decide +kernel
theorem dX1_takeFrom_45 : decode cX1_takeFrom 45 = .ok (.iload_n 2, 1) := by decide +kernel
theorem dX1_takeFrom_46 : decode cX1_takeFrom 46 = .ok (.iaload, 1) := by decide +kernel
theorem dX1_takeFrom_47 : decode cX1_takeFrom 47 = .ok (.iastore, 1) := by decide +kernel
theorem dX1_takeFrom_48 : decode cX1_takeFrom 48 = .ok (.iinc 2 1, 3) := by decide +kernel
theorem dX1_takeFrom_51 : decode cX1_takeFrom 51 = .ok (.goto (-41), 3) := by decide +kernel
theorem dX1_takeFrom_54 : decode cX1_takeFrom 54 = .ok (.return_, 1) := by decide +kernel
theorem dX2_init_0 : decode cX2_init 0 = .ok (.aload_n 0, 1) := by decide +kernel
theorem dX2_init_1 : decode cX2_init 1 = .ok (.invokespecial 3, 3) := by decide +kernel
theorem dX2_init_4 : decode cX2_init 4 = .ok (.aload_n 0, 1) := by decide +kernel
theorem dX2_init_5 : decode cX2_init 5 = .ok (.new 9, 3) := by decide +kernel
theorem dX2_init_8 : decode cX2_init 8 = .ok (.dup, 1) := by decide +kernel
theorem dX2_init_9 : decode cX2_init 9 = .ok (.invokespecial 11, 3) := by decide +kernel
theorem dX2_init_12 : decode cX2_init 12 = .ok (.putfield 12, 3) := by decide +kernel
theorem dX2_init_15 : decode cX2_init 15 = .ok (.aload_n 0, 1) := by decide +kernel
theorem dX2_init_16 : decode cX2_init 16 = .ok (.iconst 0, 1) := by decide +kernel
theorem dX2_init_17 : decode cX2_init 17 = .ok (.putfield 18, 3) := by decide +kernel
theorem dX2_init_20 : decode cX2_init 20 = .ok (.return_, 1) := by decide +kernel
theorem dX2_faultOf_0 : decode cX2_faultOf 0 = .ok (.aload_n 1, 1) := by decide +kernel
theorem dX2_faultOf_1 : decode cX2_faultOf 1 = .ok (.invokevirtual 22, 3) := by decide +kernel
theorem dX2_faultOf_4 : decode cX2_faultOf 4 = .ok (.istore_n 2, 1) := by decide +kernel
theorem dX2_faultOf_5 : decode cX2_faultOf 5 = .ok (.iconst 0, 1) := by decide +kernel
theorem dX2_faultOf_6 : decode cX2_faultOf 6 = .ok (.istore_n 3, 1) := by decide +kernel
theorem dX2_faultOf_7 : decode cX2_faultOf 7 = .ok (.iconst 0, 1) := by decide +kernel
theorem dX2_faultOf_8 : decode cX2_faultOf 8 = .ok (.istore 4, 2) := by decide +kernel
theorem dX2_faultOf_10 : decode cX2_faultOf 10 = .ok (.aload_n 0, 1) := by decide +kernel
theorem dX2_faultOf_11 : decode cX2_faultOf 11 = .ok (.iconst 0, 1) := by decide +kernel
theorem dX2_faultOf_12 : decode cX2_faultOf 12 = .ok (.putfield 18, 3) := by decide +kernel
theorem dX2_faultOf_15 : decode cX2_faultOf 15 = .ok (.iload 4, 2) := by decide +kernel
theorem dX2_faultOf_17 : decode cX2_faultOf 17 = .ok (.iload_n 2, 1) := by decide +kernel
theorem dX2_faultOf_18 : decode cX2_faultOf 18 = .ok (.if_icmp .ge 123, 3) := by decide +kernel
theorem dX2_faultOf_21 : decode cX2_faultOf 21 = .ok (.aload_n 1, 1) := by decide +kernel
theorem dX2_faultOf_22 : decode cX2_faultOf 22 = .ok (.iload 4, 2) := by decide +kernel
theorem dX2_faultOf_24 : decode cX2_faultOf 24 = .ok (.invokevirtual 28, 3) := by decide +kernel
theorem dX2_faultOf_27 : decode cX2_faultOf 27 = .ok (.istore 5, 2) := by decide +kernel
theorem dX2_faultOf_29 : decode cX2_faultOf 29 = .ok (.iload 5, 2) := by decide +kernel
theorem dX2_faultOf_31 : decode cX2_faultOf 31 = .ok (.bipush 32, 2) := by decide +kernel
theorem dX2_faultOf_33 : decode cX2_faultOf 33 = .ok (.if_icmp .ne 9, 3) := by decide +kernel
theorem dX2_faultOf_36 : decode cX2_faultOf 36 = .ok (.iinc 4 1, 3) := by decide +kernel
theorem dX2_faultOf_39 : decode cX2_faultOf 39 = .ok (.goto (-24), 3) := by decide +kernel
theorem dX2_faultOf_42 : decode cX2_faultOf 42 = .ok (.iload 5, 2) := by decide +kernel
theorem dX2_faultOf_44 : decode cX2_faultOf 44 = .ok (.invokestatic 32, 3) := by decide +kernel
theorem dX2_faultOf_47 : decode cX2_faultOf 47 = .ok (.istore 6, 2) := by decide +kernel
theorem dX2_faultOf_49 : decode cX2_faultOf 49 = .ok (.iload 6, 2) := by decide +kernel
theorem dX2_faultOf_51 : decode cX2_faultOf 51 = .ok (.bipush (-9), 2) := by decide +kernel
theorem dX2_faultOf_53 : decode cX2_faultOf 53 = .ok (.if_icmp .eq 9, 3) := by decide +kernel
theorem dX2_faultOf_56 : decode cX2_faultOf 56 = .ok (.iload_n 3, 1) := by decide +kernel
theorem dX2_faultOf_57 : decode cX2_faultOf 57 = .ok (.bipush 9, 2) := by decide +kernel
theorem dX2_faultOf_59 : decode cX2_faultOf 59 = .ok (.if_icmp .lt 6, 3) := by decide +kernel
theorem dX2_faultOf_62 : decode cX2_faultOf 62 = .ok (.iload 4, 2) := by decide +kernel
theorem dX2_faultOf_64 : decode cX2_faultOf 64 = .ok (.ireturn, 1) := by decide +kernel
theorem dX2_faultOf_65 : decode cX2_faultOf 65 = .ok (.iload 4, 2) := by decide +kernel
theorem dX2_faultOf_67 : decode cX2_faultOf 67 = .ok (.iconst 1, 1) := by decide +kernel
theorem dX2_faultOf_68 : decode cX2_faultOf 68 = .ok (.iadd, 1) := by decide +kernel
theorem dX2_faultOf_69 : decode cX2_faultOf 69 = .ok (.iload_n 2, 1) := by decide +kernel
theorem dX2_faultOf_70 : decode cX2_faultOf 70 = .ok (.if_icmp .lt 5, 3) := by decide +kernel
theorem dX2_faultOf_73 : decode cX2_faultOf 73 = .ok (.iload_n 2, 1) := by decide +kernel
theorem dX2_faultOf_74 : decode cX2_faultOf 74 = .ok (.ireturn, 1) := by decide +kernel
theorem dX2_faultOf_75 : decode cX2_faultOf 75 = .ok (.aload_n 1, 1) := by decide +kernel
theorem dX2_faultOf_76 : decode cX2_faultOf 76 = .ok (.iload 4, 2) := by decide +kernel
theorem dX2_faultOf_78 : decode cX2_faultOf 78 = .ok (.iconst 1, 1) := by decide +kernel
theorem dX2_faultOf_79 : decode cX2_faultOf 79 = .ok (.iadd, 1) := by decide +kernel
theorem dX2_faultOf_80 : decode cX2_faultOf 80 = .ok (.invokevirtual 28, 3) := by decide +kernel
theorem dX2_faultOf_83 : decode cX2_faultOf 83 = .ok (.bipush 48, 2) := by decide +kernel
theorem dX2_faultOf_85 : decode cX2_faultOf 85 = .ok (.isub, 1) := by decide +kernel
theorem dX2_faultOf_86 : decode cX2_faultOf 86 = .ok (.istore 7, 2) := by decide +kernel
theorem dX2_faultOf_88 : decode cX2_faultOf 88 = .ok (.iload 7, 2) := by decide +kernel
theorem dX2_faultOf_90 : decode cX2_faultOf 90 = .ok (.ifCond .lt 13, 3) := by decide +kernel
theorem dX2_faultOf_93 : decode cX2_faultOf 93 = .ok (.iload 7, 2) := by decide +kernel
theorem dX2_faultOf_95 : decode cX2_faultOf 95 = .ok (.iload 6, 2) := by decide +kernel
theorem dX2_faultOf_97 : decode cX2_faultOf 97 = .ok (.invokestatic 35, 3) := by decide +kernel
theorem dX2_faultOf_100 : decode cX2_faultOf 100 = .ok (.if_icmp .le 8, 3) := by decide +kernel
theorem dX2_faultOf_103 : decode cX2_faultOf 103 = .ok (.iload 4, 2) := by decide +kernel
theorem dX2_faultOf_105 : decode cX2_faultOf 105 = .ok (.iconst 1, 1) := by decide +kernel
theorem dX2_faultOf_106 : decode cX2_faultOf 106 = .ok (.iadd, 1) := by decide +kernel
theorem dX2_faultOf_107 : decode cX2_faultOf 107 = .ok (.ireturn, 1) := by decide +kernel
theorem dX2_faultOf_108 : decode cX2_faultOf 108 = .ok (.aload_n 0, 1) := by decide +kernel
theorem dX2_faultOf_109 : decode cX2_faultOf 109 = .ok (.getfield 12, 3) := by decide +kernel
theorem dX2_faultOf_112 : decode cX2_faultOf 112 = .ok (.iload_n 3, 1) := by decide +kernel
theorem dX2_faultOf_113 : decode cX2_faultOf 113 = .ok (.iload 6, 2) := by decide +kernel
theorem dX2_faultOf_115 : decode cX2_faultOf 115 = .ok (.invokevirtual 38, 3) := by decide +kernel
theorem dX2_faultOf_118 : decode cX2_faultOf 118 = .ok (.aload_n 0, 1) := by decide +kernel
theorem dX2_faultOf_119 : decode cX2_faultOf 119 = .ok (.aload_n 0, 1) := by decide +kernel
theorem dX2_faultOf_120 : decode cX2_faultOf 120 = .ok (.getfield 18, 3) := by decide +kernel
theorem dX2_faultOf_123 : decode cX2_faultOf 123 = .ok (.iload_n 3, 1) := by decide +kernel
theorem dX2_faultOf_124 : decode cX2_faultOf 124 = .ok (.iload 7, 2) := by decide +kernel
theorem dX2_faultOf_126 : decode cX2_faultOf 126 = .ok (.invokestatic 42, 3) := by decide +kernel
theorem dX2_faultOf_129 : decode cX2_faultOf 129 = .ok (.putfield 18, 3) := by decide +kernel
theorem dX2_faultOf_132 : decode cX2_faultOf 132 = .ok (.iinc 3 1, 3) := by decide +kernel
theorem dX2_faultOf_135 : decode cX2_faultOf 135 = .ok (.iinc 4 2, 3) := by decide +kernel
theorem dX2_faultOf_138 : decode cX2_faultOf 138 = .ok (.goto (-123), 3) := by decide +kernel
theorem dX2_faultOf_141 : decode cX2_faultOf 141 = .ok (.iload_n 3, 1) := by decide +kernel
theorem dX2_faultOf_142 : decode cX2_faultOf 142 = .ok (.bipush 9, 2) := by decide +kernel
theorem dX2_faultOf_144 : decode cX2_faultOf 144 = .ok (.if_icmp .ge 7, 3) := by decide +kernel
theorem dX2_faultOf_147 : decode cX2_faultOf 147 = .ok (.iload_n 2, 1) := by decide +kernel
theorem dX2_faultOf_148 : decode cX2_faultOf 148 = .ok (.goto 5, 3) := by decide +kernel
theorem dX2_faultOf_151 : decode cX2_faultOf 151 = .ok (.bipush (-9), 2) := by decide +kernel
theorem dX2_faultOf_153 : decode cX2_faultOf 153 = .ok (.ireturn, 1) := by decide +kernel
theorem dX2_kindBy_0 : decode cX2_kindBy 0 = .ok (.iload_n 0, 1) := by decide +kernel
theorem dX2_kindBy_1 : decode cX2_kindBy 1 = .ok (.tableswitch 99 102 119 #[97, 99, 93, 99, 99, 91, 87, 99, 99, 99, 99, 99, 99, 99, 89, 99, 99, 95], 87) := by decide +kernel
theorem dX2_kindBy_88 : decode cX2_kindBy 88 = .ok (.iconst 0, 1) := by decide +kernel
theorem dX2_kindBy_89 : decode cX2_kindBy 89 = .ok (.ireturn, 1) := by decide +kernel
theorem dX2_kindBy_90 : decode cX2_kindBy 90 = .ok (.iconst 1, 1) := by decide +kernel
theorem dX2_kindBy_91 : decode cX2_kindBy 91 = .ok (.ireturn, 1) := by decide +kernel
theorem dX2_kindBy_92 : decode cX2_kindBy 92 = .ok (.iconst 2, 1) := by decide +kernel
theorem dX2_kindBy_93 : decode cX2_kindBy 93 = .ok (.ireturn, 1) := by decide +kernel
theorem dX2_kindBy_94 : decode cX2_kindBy 94 = .ok (.iconst 3, 1) := by decide +kernel
theorem dX2_kindBy_95 : decode cX2_kindBy 95 = .ok (.ireturn, 1) := by decide +kernel
theorem dX2_kindBy_96 : decode cX2_kindBy 96 = .ok (.iconst 4, 1) := by decide +kernel
theorem dX2_kindBy_97 : decode cX2_kindBy 97 = .ok (.ireturn, 1) := by decide +kernel
theorem dX2_kindBy_98 : decode cX2_kindBy 98 = .ok (.iconst 5, 1) := by decide +kernel
theorem dX2_kindBy_99 : decode cX2_kindBy 99 = .ok (.ireturn, 1) := by decide +kernel
theorem dX2_kindBy_100 : decode cX2_kindBy 100 = .ok (.bipush (-9), 2) := by decide +kernel
theorem dX2_kindBy_102 : decode cX2_kindBy 102 = .ok (.ireturn, 1) := by decide +kernel
theorem dX3_init_0 : decode cX3_init 0 = .ok (.aload_n 0, 1) := by decide +kernel
theorem dX3_init_1 : decode cX3_init 1 = .ok (.invokespecial 3, 3) := by decide +kernel
theorem dX3_init_4 : decode cX3_init 4 = .ok (.aload_n 0, 1) := by decide +kernel
theorem dX3_init_5 : decode cX3_init 5 = .ok (.iconst (-1), 1) := by decide +kernel
theorem dX3_init_6 : decode cX3_init 6 = .ok (.putfield 9, 3) := by decide +kernel
theorem dX3_init_9 : decode cX3_init 9 = .ok (.aload_n 0, 1) := by decide +kernel
theorem dX3_init_10 : decode cX3_init 10 = .ok (.iload_n 1, 1) := by decide +kernel
theorem dX3_init_11 : decode cX3_init 11 = .ok (.iconst 0, 1) := by decide +kernel
theorem dX3_init_12 : decode cX3_init 12 = .ok (.invokestatic 15, 3) := by decide +kernel
theorem dX3_init_15 : decode cX3_init 15 = .ok (.newarray .int, 2) := by decide +kernel
theorem dX3_init_17 : decode cX3_init 17 = .ok (.putfield 21, 3) := by decide +kernel
theorem dX3_init_20 : decode cX3_init 20 = .ok (.return_, 1) := by decide +kernel
theorem dX3_isThere_0 : decode cX3_isThere 0 = .ok (.aload_n 0, 1) := by decide +kernel
theorem dX3_isThere_1 : decode cX3_isThere 1 = .ok (.getfield 9, 3) := by decide +kernel
theorem dX3_isThere_4 : decode cX3_isThere 4 = .ok (.ifCond .lt 7, 3) := by decide +kernel
theorem dX3_isThere_7 : decode cX3_isThere 7 = .ok (.iconst 1, 1) := by decide +kernel
theorem dX3_isThere_8 : decode cX3_isThere 8 = .ok (.goto 4, 3) := by decide +kernel
theorem dX3_isThere_11 : decode cX3_isThere 11 = .ok (.iconst 0, 1) := by decide +kernel
theorem dX3_isThere_12 : decode cX3_isThere 12 = .ok (.ireturn, 1) := by decide +kernel
theorem dX3_size_0 : decode cX3_size 0 = .ok (.aload_n 0, 1) := by decide +kernel
theorem dX3_size_1 : decode cX3_size 1 = .ok (.getfield 9, 3) := by decide +kernel
theorem dX3_size_4 : decode cX3_size 4 = .ok (.iconst 0, 1) := by decide +kernel
theorem dX3_size_5 : decode cX3_size 5 = .ok (.invokestatic 15, 3) := by decide +kernel
theorem dX3_size_8 : decode cX3_size 8 = .ok (.ireturn, 1) := by decide +kernel
theorem dX3_has_0 : decode cX3_has 0 = .ok (.iload_n 1, 1) := by decide +kernel
theorem dX3_has_1 : decode cX3_has 1 = .ok (.ifCond .lt 24, 3) := by decide +kernel
theorem dX3_has_4 : decode cX3_has 4 = .ok (.iload_n 1, 1) := by decide +kernel
theorem dX3_has_5 : decode cX3_has 5 = .ok (.aload_n 0, 1) := by decide +kernel
theorem dX3_has_6 : decode cX3_has 6 = .ok (.getfield 9, 3) := by decide +kernel
theorem dX3_has_9 : decode cX3_has 9 = .ok (.if_icmp .ge 16, 3) := by decide +kernel
theorem dX3_has_12 : decode cX3_has 12 = .ok (.iload_n 1, 1) := by decide +kernel
theorem dX3_has_13 : decode cX3_has 13 = .ok (.aload_n 0, 1) := by decide +kernel
theorem dX3_has_14 : decode cX3_has 14 = .ok (.getfield 21, 3) := by decide +kernel
theorem dX3_has_17 : decode cX3_has 17 = .ok (.arraylength, 1) := by decide +kernel
theorem dX3_has_18 : decode cX3_has 18 = .ok (.if_icmp .ge 7, 3) := by decide +kernel
theorem dX3_has_21 : decode cX3_has 21 = .ok (.iconst 1, 1) := by decide +kernel
theorem dX3_has_22 : decode cX3_has 22 = .ok (.goto 4, 3) := by decide +kernel
theorem dX3_has_25 : decode cX3_has 25 = .ok (.iconst 0, 1) := by decide +kernel
theorem dX3_has_26 : decode cX3_has 26 = .ok (.ireturn, 1) := by decide +kernel
theorem dX3_hasRun_0 : decode cX3_hasRun 0 = .ok (.iload_n 1, 1) := by decide +kernel
theorem dX3_hasRun_1 : decode cX3_hasRun 1 = .ok (.ifCond .lt 25, 3) := by decide +kernel
theorem dX3_hasRun_4 : decode cX3_hasRun 4 = .ok (.iload_n 2, 1) := by decide +kernel
theorem dX3_hasRun_5 : decode cX3_hasRun 5 = .ok (.ifCond .lt 21, 3) := by decide +kernel
theorem dX3_hasRun_8 : decode cX3_hasRun 8 = .ok (.iload_n 1, 1) := by decide +kernel
theorem dX3_hasRun_9 : decode cX3_hasRun 9 = .ok (.i2l, 1) := by decide +kernel
theorem dX3_hasRun_10 : decode cX3_hasRun 10 = .ok (.iload_n 2, 1) := by decide +kernel
theorem dX3_hasRun_11 : decode cX3_hasRun 11 = .ok (.i2l, 1) := by decide +kernel
theorem dX3_hasRun_12 : decode cX3_hasRun 12 = .ok (.ladd, 1) := by decide +kernel
theorem dX3_hasRun_13 : decode cX3_hasRun 13 = .ok (.aload_n 0, 1) := by decide +kernel
theorem dX3_hasRun_14 : decode cX3_hasRun 14 = .ok (.getfield 9, 3) := by decide +kernel
theorem dX3_hasRun_17 : decode cX3_hasRun 17 = .ok (.i2l, 1) := by decide +kernel
theorem dX3_hasRun_18 : decode cX3_hasRun 18 = .ok (.lcmp, 1) := by decide +kernel
theorem dX3_hasRun_19 : decode cX3_hasRun 19 = .ok (.ifCond .gt 7, 3) := by decide +kernel
theorem dX3_hasRun_22 : decode cX3_hasRun 22 = .ok (.iconst 1, 1) := by decide +kernel
theorem dX3_hasRun_23 : decode cX3_hasRun 23 = .ok (.goto 4, 3) := by decide +kernel
theorem dX3_hasRun_26 : decode cX3_hasRun 26 = .ok (.iconst 0, 1) := by decide +kernel
theorem dX3_hasRun_27 : decode cX3_hasRun 27 = .ok (.ireturn, 1) := by decide +kernel
theorem dX3_valueAt_0 : decode cX3_valueAt 0 = .ok (.aload_n 0, 1) := by decide +kernel
theorem dX3_valueAt_1 : decode cX3_valueAt 1 = .ok (.iload_n 1, 1) := by decide +kernel
theorem dX3_valueAt_2 : decode cX3_valueAt 2 = .ok (.invokevirtual 25, 3) := by decide +kernel
theorem dX3_valueAt_5 : decode cX3_valueAt 5 = .ok (.ifCond .eq 12, 3) := by decide +kernel
theorem dX3_valueAt_8 : decode cX3_valueAt 8 = .ok (.aload_n 0, 1) := by decide +kernel
theorem dX3_valueAt_9 : decode cX3_valueAt 9 = .ok (.getfield 21, 3) := by decide +kernel
theorem dX3_valueAt_12 : decode cX3_valueAt 12 = .ok (.iload_n 1, 1) := by decide +kernel
theorem dX3_valueAt_13 : decode cX3_valueAt 13 = .ok (.iaload, 1) := by decide +kernel
theorem dX3_valueAt_14 : decode cX3_valueAt 14 = .ok (.goto 4, 3) := by decide +kernel
theorem dX3_valueAt_17 : decode cX3_valueAt 17 = .ok (.iconst 0, 1) := by decide +kernel
theorem dX3_valueAt_18 : decode cX3_valueAt 18 = .ok (.ireturn, 1) := by decide +kernel
theorem dX3_change_0 : decode cX3_change 0 = .ok (.aload_n 0, 1) := by decide +kernel
theorem dX3_change_1 : decode cX3_change 1 = .ok (.iload_n 1, 1) := by decide +kernel
theorem dX3_change_2 : decode cX3_change 2 = .ok (.invokevirtual 25, 3) := by decide +kernel
theorem dX3_change_5 : decode cX3_change 5 = .ok (.ifCond .eq 10, 3) := by decide +kernel
theorem dX3_change_8 : decode cX3_change 8 = .ok (.aload_n 0, 1) := by decide +kernel
theorem dX3_change_9 : decode cX3_change 9 = .ok (.getfield 21, 3) := by decide +kernel
theorem dX3_change_12 : decode cX3_change 12 = .ok (.iload_n 1, 1) := by decide +kernel
theorem dX3_change_13 : decode cX3_change 13 = .ok (.iload_n 2, 1) := by decide +kernel
theorem dX3_change_14 : decode cX3_change 14 = .ok (.iastore, 1) := by decide +kernel
theorem dX3_change_15 : decode cX3_change 15 = .ok (.return_, 1) := by decide +kernel
theorem dX3_make_0 : decode cX3_make 0 = .ok (.iload_n 1, 1) := by decide +kernel
theorem dX3_make_1 : decode cX3_make 1 = .ok (.ifCond .lt 37, 3) := by decide +kernel
theorem dX3_make_4 : decode cX3_make 4 = .ok (.iload_n 1, 1) := by decide +kernel
theorem dX3_make_5 : decode cX3_make 5 = .ok (.aload_n 0, 1) := by decide +kernel
theorem dX3_make_6 : decode cX3_make 6 = .ok (.getfield 21, 3) := by decide +kernel
theorem dX3_make_9 : decode cX3_make 9 = .ok (.arraylength, 1) := by decide +kernel
theorem dX3_make_10 : decode cX3_make 10 = .ok (.if_icmp .gt 28, 3) := by decide +kernel
theorem dX3_make_13 : decode cX3_make 13 = .ok (.aload_n 0, 1) := by decide +kernel
theorem dX3_make_14 : decode cX3_make 14 = .ok (.iload_n 1, 1) := by decide +kernel
theorem dX3_make_15 : decode cX3_make 15 = .ok (.putfield 9, 3) := by decide +kernel
theorem dX3_make_18 : decode cX3_make 18 = .ok (.iconst 0, 1) := by decide +kernel
theorem dX3_make_19 : decode cX3_make 19 = .ok (.istore_n 3, 1) := by decide +kernel
theorem dX3_make_20 : decode cX3_make 20 = .ok (.iload_n 3, 1) := by decide +kernel
theorem dX3_make_21 : decode cX3_make 21 = .ok (.iload_n 1, 1) := by decide +kernel
theorem dX3_make_22 : decode cX3_make 22 = .ok (.if_icmp .ge 16, 3) := by decide +kernel
theorem dX3_make_25 : decode cX3_make 25 = .ok (.aload_n 0, 1) := by decide +kernel
theorem dX3_make_26 : decode cX3_make 26 = .ok (.getfield 21, 3) := by decide +kernel
theorem dX3_make_29 : decode cX3_make 29 = .ok (.iload_n 3, 1) := by decide +kernel
theorem dX3_make_30 : decode cX3_make 30 = .ok (.iload_n 2, 1) := by decide +kernel
theorem dX3_make_31 : decode cX3_make 31 = .ok (.iastore, 1) := by decide +kernel
theorem dX3_make_32 : decode cX3_make 32 = .ok (.iinc 3 1, 3) := by decide +kernel
theorem dX3_make_35 : decode cX3_make 35 = .ok (.goto (-15), 3) := by decide +kernel
theorem dX3_make_38 : decode cX3_make 38 = .ok (.return_, 1) := by decide +kernel
theorem dX3_remove_0 : decode cX3_remove 0 = .ok (.aload_n 0, 1) := by decide +kernel
theorem dX3_remove_1 : decode cX3_remove 1 = .ok (.iconst (-1), 1) := by decide +kernel
theorem dX3_remove_2 : decode cX3_remove 2 = .ok (.putfield 9, 3) := by decide +kernel
theorem dX3_remove_5 : decode cX3_remove 5 = .ok (.return_, 1) := by decide +kernel
theorem dX3_takeRun_0 : decode cX3_takeRun 0 = .ok (.aload_n 1, 1) := by decide +kernel
theorem dX3_takeRun_1 : decode cX3_takeRun 1 = .ok (.iload_n 2, 1) := by decide +kernel
theorem dX3_takeRun_2 : decode cX3_takeRun 2 = .ok (.iload 4, 2) := by decide +kernel
theorem dX3_takeRun_4 : decode cX3_takeRun 4 = .ok (.invokevirtual 29, 3) := by decide +kernel
theorem dX3_takeRun_7 : decode cX3_takeRun 7 = .ok (.ifCond .eq 28, 3) := by decide +kernel
theorem dX3_takeRun_10 : decode cX3_takeRun 10 = .ok (.aload_n 0, 1) := by decide +kernel
theorem dX3_takeRun_11 : decode cX3_takeRun 11 = .ok (.iload_n 3, 1) := by decide +kernel
theorem dX3_takeRun_12 : decode cX3_takeRun 12 = .ok (.iload 4, 2) := by decide +kernel
theorem dX3_takeRun_14 : decode cX3_takeRun 14 = .ok (.invokevirtual 29, 3) := by decide +kernel
theorem dX3_takeRun_17 : decode cX3_takeRun 17 = .ok (.ifCond .eq 18, 3) := by decide +kernel
theorem dX3_takeRun_20 : decode cX3_takeRun 20 = .ok (.aload_n 1, 1) := by decide +kernel
theorem dX3_takeRun_21 : decode cX3_takeRun 21 = .ok (.getfield 21, 3) := by decide +kernel
theorem dX3_takeRun_24 : decode cX3_takeRun 24 = .ok (.iload_n 2, 1) := by decide +kernel
theorem dX3_takeRun_25 : decode cX3_takeRun 25 = .ok (.aload_n 0, 1) := by decide +kernel
theorem dX3_takeRun_26 : decode cX3_takeRun 26 = .ok (.getfield 21, 3) := by decide +kernel
theorem dX3_takeRun_29 : decode cX3_takeRun 29 = .ok (.iload_n 3, 1) := by decide +kernel
theorem dX3_takeRun_30 : decode cX3_takeRun 30 = .ok (.iload 4, 2) := by decide +kernel
theorem dX3_takeRun_32 : decode cX3_takeRun 32 = .ok (.invokestatic 33, 3) := by decide +kernel
theorem dX3_takeRun_35 : decode cX3_takeRun 35 = .ok (.return_, 1) := by decide +kernel
theorem dX3_total_0 : decode cX3_total 0 = .ok (.lconst 0, 1) := by decide +kernel
theorem dX3_total_1 : decode cX3_total 1 = .ok (.lstore_n 1, 1) := by decide +kernel
theorem dX3_total_2 : decode cX3_total 2 = .ok (.iconst 0, 1) := by decide +kernel
theorem dX3_total_3 : decode cX3_total 3 = .ok (.istore_n 3, 1) := by decide +kernel
theorem dX3_total_4 : decode cX3_total 4 = .ok (.iload_n 3, 1) := by decide +kernel
theorem dX3_total_5 : decode cX3_total 5 = .ok (.aload_n 0, 1) := by decide +kernel
theorem dX3_total_6 : decode cX3_total 6 = .ok (.getfield 9, 3) := by decide +kernel
theorem dX3_total_9 : decode cX3_total 9 = .ok (.if_icmp .ge 18, 3) := by decide +kernel
theorem dX3_total_12 : decode cX3_total 12 = .ok (.lload_n 1, 1) := by decide +kernel
theorem dX3_total_13 : decode cX3_total 13 = .ok (.aload_n 0, 1) := by decide +kernel
theorem dX3_total_14 : decode cX3_total 14 = .ok (.iload_n 3, 1) := by decide +kernel
theorem dX3_total_15 : decode cX3_total 15 = .ok (.invokevirtual 39, 3) := by decide +kernel
theorem dX3_total_18 : decode cX3_total 18 = .ok (.i2l, 1) := by decide +kernel
theorem dX3_total_19 : decode cX3_total 19 = .ok (.ladd, 1) := by decide +kernel
theorem dX3_total_20 : decode cX3_total 20 = .ok (.lstore_n 1, 1) := by decide +kernel
theorem dX3_total_21 : decode cX3_total 21 = .ok (.iinc 3 1, 3) := by decide +kernel
theorem dX3_total_24 : decode cX3_total 24 = .ok (.goto (-20), 3) := by decide +kernel
theorem dX3_total_27 : decode cX3_total 27 = .ok (.lload_n 1, 1) := by decide +kernel
theorem dX3_total_28 : decode cX3_total 28 = .ok (.lreturn, 1) := by decide +kernel
theorem dX3_mixedInto_0 : decode cX3_mixedInto 0 = .ok (.ldc2_w 43, 3) := by decide +kernel
theorem dX3_mixedInto_3 : decode cX3_mixedInto 3 = .ok (.lload_n 1, 1) := by decide +kernel
theorem dX3_mixedInto_4 : decode cX3_mixedInto 4 = .ok (.lmul, 1) := by decide +kernel
theorem dX3_mixedInto_5 : decode cX3_mixedInto 5 = .ok (.aload_n 0, 1) := by decide +kernel
theorem dX3_mixedInto_6 : decode cX3_mixedInto 6 = .ok (.getfield 9, 3) := by decide +kernel
theorem dX3_mixedInto_9 : decode cX3_mixedInto 9 = .ok (.i2l, 1) := by decide +kernel
theorem dX3_mixedInto_10 : decode cX3_mixedInto 10 = .ok (.ladd, 1) := by decide +kernel
theorem dX3_mixedInto_11 : decode cX3_mixedInto 11 = .ok (.lstore_n 3, 1) := by decide +kernel
theorem dX3_mixedInto_12 : decode cX3_mixedInto 12 = .ok (.iconst 0, 1) := by decide +kernel
theorem dX3_mixedInto_13 : decode cX3_mixedInto 13 = .ok (.istore 5, 2) := by decide +kernel
theorem dX3_mixedInto_15 : decode cX3_mixedInto 15 = .ok (.iload 5, 2) := by decide +kernel
theorem dX3_mixedInto_17 : decode cX3_mixedInto 17 = .ok (.aload_n 0, 1) := by decide +kernel
theorem dX3_mixedInto_18 : decode cX3_mixedInto 18 = .ok (.getfield 9, 3) := by decide +kernel
theorem dX3_mixedInto_21 : decode cX3_mixedInto 21 = .ok (.if_icmp .ge 23, 3) := by decide +kernel
theorem dX3_mixedInto_24 : decode cX3_mixedInto 24 = .ok (.ldc2_w 43, 3) := by decide +kernel
theorem dX3_mixedInto_27 : decode cX3_mixedInto 27 = .ok (.lload_n 3, 1) := by decide +kernel
theorem dX3_mixedInto_28 : decode cX3_mixedInto 28 = .ok (.lmul, 1) := by decide +kernel
theorem dX3_mixedInto_29 : decode cX3_mixedInto 29 = .ok (.aload_n 0, 1) := by decide +kernel
theorem dX3_mixedInto_30 : decode cX3_mixedInto 30 = .ok (.iload 5, 2) := by decide +kernel
theorem dX3_mixedInto_32 : decode cX3_mixedInto 32 = .ok (.invokevirtual 39, 3) := by decide +kernel
theorem dX3_mixedInto_35 : decode cX3_mixedInto 35 = .ok (.i2l, 1) := by decide +kernel
theorem dX3_mixedInto_36 : decode cX3_mixedInto 36 = .ok (.ladd, 1) := by decide +kernel
theorem dX3_mixedInto_37 : decode cX3_mixedInto 37 = .ok (.lstore_n 3, 1) := by decide +kernel
theorem dX3_mixedInto_38 : decode cX3_mixedInto 38 = .ok (.iinc 5 1, 3) := by decide +kernel
theorem dX3_mixedInto_41 : decode cX3_mixedInto 41 = .ok (.goto (-26), 3) := by decide +kernel
theorem dX3_mixedInto_44 : decode cX3_mixedInto 44 = .ok (.lload_n 3, 1) := by decide +kernel
theorem dX3_mixedInto_45 : decode cX3_mixedInto 45 = .ok (.lreturn, 1) := by decide +kernel
theorem dX4_join_0 : decode cX4_join 0 = .ok (.iload_n 0, 1) := by decide +kernel
theorem dX4_join_1 : decode cX4_join 1 = .ok (.iload_n 1, 1) := by decide +kernel
theorem dX4_join_2 : decode cX4_join 2 = .ok (.bipush 9, 2) := by decide +kernel
theorem dX4_join_4 : decode cX4_join 4 = .ok (.ishl, 1) := by decide +kernel
theorem dX4_join_5 : decode cX4_join 5 = .ok (.ior, 1) := by decide +kernel
theorem dX4_join_6 : decode cX4_join 6 = .ok (.iload_n 2, 1) := by decide +kernel
theorem dX4_join_7 : decode cX4_join 7 = .ok (.bipush 18, 2) := by decide +kernel
theorem dX4_join_9 : decode cX4_join 9 = .ok (.ishl, 1) := by decide +kernel
theorem dX4_join_10 : decode cX4_join 10 = .ok (.ior, 1) := by decide +kernel
theorem dX4_join_11 : decode cX4_join 11 = .ok (.ireturn, 1) := by decide +kernel
theorem dX4_ones_0 : decode cX4_ones 0 = .ok (.iload_n 0, 1) := by decide +kernel
theorem dX4_ones_1 : decode cX4_ones 1 = .ok (.sipush 511, 3) := by decide +kernel
theorem dX4_ones_4 : decode cX4_ones 4 = .ok (.iand, 1) := by decide +kernel
theorem dX4_ones_5 : decode cX4_ones 5 = .ok (.ireturn, 1) := by decide +kernel
theorem dX4_twos_0 : decode cX4_twos 0 = .ok (.iload_n 0, 1) := by decide +kernel
theorem dX4_twos_1 : decode cX4_twos 1 = .ok (.bipush 9, 2) := by decide +kernel
theorem dX4_twos_3 : decode cX4_twos 3 = .ok (.ishr, 1) := by decide +kernel
theorem dX4_twos_4 : decode cX4_twos 4 = .ok (.sipush 511, 3) := by decide +kernel
theorem dX4_twos_7 : decode cX4_twos 7 = .ok (.iand, 1) := by decide +kernel
theorem dX4_twos_8 : decode cX4_twos 8 = .ok (.ireturn, 1) := by decide +kernel
theorem dX4_broken_0 : decode cX4_broken 0 = .ok (.iload_n 0, 1) := by decide +kernel
theorem dX4_broken_1 : decode cX4_broken 1 = .ok (.bipush 18, 2) := by decide +kernel
theorem dX4_broken_3 : decode cX4_broken 3 = .ok (.ishr, 1) := by decide +kernel
theorem dX4_broken_4 : decode cX4_broken 4 = .ok (.sipush 511, 3) := by decide +kernel
theorem dX4_broken_7 : decode cX4_broken 7 = .ok (.iand, 1) := by decide +kernel
theorem dX4_broken_8 : decode cX4_broken 8 = .ok (.ireturn, 1) := by decide +kernel
theorem dX4_above_0 : decode cX4_above 0 = .ok (.iload_n 0, 1) := by decide +kernel
theorem dX4_above_1 : decode cX4_above 1 = .ok (.invokestatic 11, 3) := by decide +kernel
theorem dX4_above_4 : decode cX4_above 4 = .ok (.iload_n 0, 1) := by decide +kernel
theorem dX4_above_5 : decode cX4_above 5 = .ok (.invokestatic 15, 3) := by decide +kernel
theorem dX4_above_8 : decode cX4_above 8 = .ok (.ior, 1) := by decide +kernel
theorem dX4_above_9 : decode cX4_above 9 = .ok (.ireturn, 1) := by decide +kernel
theorem dX4_of_0 : decode cX4_of 0 = .ok (.iload_n 0, 1) := by decide +kernel
theorem dX4_of_1 : decode cX4_of 1 = .ok (.invokestatic 11, 3) := by decide +kernel
theorem dX4_of_4 : decode cX4_of 4 = .ok (.iload_n 1, 1) := by decide +kernel
theorem dX4_of_5 : decode cX4_of 5 = .ok (.ishr, 1) := by decide +kernel
theorem dX4_of_6 : decode cX4_of 6 = .ok (.iconst 1, 1) := by decide +kernel
theorem dX4_of_7 : decode cX4_of 7 = .ok (.iand, 1) := by decide +kernel
theorem dX4_of_8 : decode cX4_of 8 = .ok (.iconst 2, 1) := by decide +kernel
theorem dX4_of_9 : decode cX4_of 9 = .ok (.iload_n 0, 1) := by decide +kernel
theorem dX4_of_10 : decode cX4_of 10 = .ok (.invokestatic 15, 3) := by decide +kernel
theorem dX4_of_13 : decode cX4_of 13 = .ok (.iload_n 1, 1) := by decide +kernel
theorem dX4_of_14 : decode cX4_of 14 = .ok (.ishr, 1) := by decide +kernel
theorem dX4_of_15 : decode cX4_of 15 = .ok (.iconst 1, 1) := by decide +kernel
theorem dX4_of_16 : decode cX4_of 16 = .ok (.iand, 1) := by decide +kernel
theorem dX4_of_17 : decode cX4_of 17 = .ok (.imul, 1) := by decide +kernel
theorem dX4_of_18 : decode cX4_of 18 = .ok (.iadd, 1) := by decide +kernel
theorem dX4_of_19 : decode cX4_of 19 = .ok (.ireturn, 1) := by decide +kernel
theorem dX4_with_0 : decode cX4_with 0 = .ok (.iconst 1, 1) := by decide +kernel
theorem dX4_with_1 : decode cX4_with 1 = .ok (.iload_n 1, 1) := by decide +kernel
theorem dX4_with_2 : decode cX4_with 2 = .ok (.ishl, 1) := by decide +kernel
theorem dX4_with_3 : decode cX4_with 3 = .ok (.iconst (-1), 1) := by decide +kernel
theorem dX4_with_4 : decode cX4_with 4 = .ok (.ixor, 1) := by decide +kernel
theorem dX4_with_5 : decode cX4_with 5 = .ok (.istore_n 3, 1) := by decide +kernel
theorem dX4_with_6 : decode cX4_with 6 = .ok (.iload_n 0, 1) := by decide +kernel
theorem dX4_with_7 : decode cX4_with 7 = .ok (.invokestatic 11, 3) := by decide +kernel
theorem dX4_with_10 : decode cX4_with 10 = .ok (.iload_n 3, 1) := by decide +kernel
theorem dX4_with_11 : decode cX4_with 11 = .ok (.iand, 1) := by decide +kernel
theorem dX4_with_12 : decode cX4_with 12 = .ok (.iload_n 2, 1) := by decide +kernel
theorem dX4_with_13 : decode cX4_with 13 = .ok (.iconst 1, 1) := by decide +kernel
theorem dX4_with_14 : decode cX4_with 14 = .ok (.iand, 1) := by decide +kernel
theorem dX4_with_15 : decode cX4_with 15 = .ok (.iload_n 1, 1) := by decide +kernel
theorem dX4_with_16 : decode cX4_with 16 = .ok (.ishl, 1) := by decide +kernel
theorem dX4_with_17 : decode cX4_with 17 = .ok (.ior, 1) := by decide +kernel
theorem dX4_with_18 : decode cX4_with 18 = .ok (.istore 4, 2) := by decide +kernel
theorem dX4_with_20 : decode cX4_with 20 = .ok (.iload_n 0, 1) := by decide +kernel
theorem dX4_with_21 : decode cX4_with 21 = .ok (.invokestatic 15, 3) := by decide +kernel
theorem dX4_with_24 : decode cX4_with 24 = .ok (.iload_n 3, 1) := by decide +kernel
theorem dX4_with_25 : decode cX4_with 25 = .ok (.iand, 1) := by decide +kernel
theorem dX4_with_26 : decode cX4_with 26 = .ok (.iload_n 2, 1) := by decide +kernel
theorem dX4_with_27 : decode cX4_with 27 = .ok (.iconst 1, 1) := by decide +kernel
theorem dX4_with_28 : decode cX4_with 28 = .ok (.ishr, 1) := by decide +kernel
theorem dX4_with_29 : decode cX4_with 29 = .ok (.iconst 1, 1) := by decide +kernel
theorem dX4_with_30 : decode cX4_with 30 = .ok (.iand, 1) := by decide +kernel
theorem dX4_with_31 : decode cX4_with 31 = .ok (.iload_n 1, 1) := by decide +kernel
theorem dX4_with_32 : decode cX4_with 32 = .ok (.ishl, 1) := by decide +kernel
theorem dX4_with_33 : decode cX4_with 33 = .ok (.ior, 1) := by decide +kernel
theorem dX4_with_34 : decode cX4_with 34 = .ok (.istore 5, 2) := by decide +kernel
theorem dX4_with_36 : decode cX4_with 36 = .ok (.iload 4, 2) := by decide +kernel
theorem dX4_with_38 : decode cX4_with 38 = .ok (.iload 5, 2) := by decide +kernel
theorem dX4_with_40 : decode cX4_with 40 = .ok (.iload_n 0, 1) := by decide +kernel
theorem dX4_with_41 : decode cX4_with 41 = .ok (.invokestatic 18, 3) := by decide +kernel
theorem dX4_with_44 : decode cX4_with 44 = .ok (.invokestatic 21, 3) := by decide +kernel
theorem dX4_with_47 : decode cX4_with 47 = .ok (.ireturn, 1) := by decide +kernel
theorem dX4_withBroken_0 : decode cX4_withBroken 0 = .ok (.iload_n 0, 1) := by decide +kernel
theorem dX4_withBroken_1 : decode cX4_withBroken 1 = .ok (.invokestatic 11, 3) := by decide +kernel
theorem dX4_withBroken_4 : decode cX4_withBroken 4 = .ok (.iload_n 0, 1) := by decide +kernel
theorem dX4_withBroken_5 : decode cX4_withBroken 5 = .ok (.invokestatic 15, 3) := by decide +kernel
theorem dX4_withBroken_8 : decode cX4_withBroken 8 = .ok (.iload_n 1, 1) := by decide +kernel
theorem dX4_withBroken_9 : decode cX4_withBroken 9 = .ok (.invokestatic 21, 3) := by decide +kernel
theorem dX4_withBroken_12 : decode cX4_withBroken 12 = .ok (.ireturn, 1) := by decide +kernel
theorem dX4_total_0 : decode cX4_total 0 = .ok (.iload_n 0, 1) := by decide +kernel
theorem dX4_total_1 : decode cX4_total 1 = .ok (.invokestatic 11, 3) := by decide +kernel
theorem dX4_total_4 : decode cX4_total 4 = .ok (.iload_n 1, 1) := by decide +kernel
theorem dX4_total_5 : decode cX4_total 5 = .ok (.iand, 1) := by decide +kernel
theorem dX4_total_6 : decode cX4_total 6 = .ok (.invokestatic 25, 3) := by decide +kernel
theorem dX4_total_9 : decode cX4_total 9 = .ok (.iconst 2, 1) := by decide +kernel
theorem dX4_total_10 : decode cX4_total 10 = .ok (.iload_n 0, 1) := by decide +kernel
theorem dX4_total_11 : decode cX4_total 11 = .ok (.invokestatic 15, 3) := by decide +kernel
theorem dX4_total_14 : decode cX4_total 14 = .ok (.iload_n 1, 1) := by decide +kernel
theorem dX4_total_15 : decode cX4_total 15 = .ok (.iand, 1) := by decide +kernel
theorem dX4_total_16 : decode cX4_total 16 = .ok (.invokestatic 25, 3) := by decide +kernel
theorem dX4_total_19 : decode cX4_total 19 = .ok (.imul, 1) := by decide +kernel
theorem dX4_total_20 : decode cX4_total 20 = .ok (.iadd, 1) := by decide +kernel
theorem dX4_total_21 : decode cX4_total 21 = .ok (.ireturn, 1) := by decide +kernel
theorem dJ6_bitCount_0f7a4_0 : decode cJ6_bitCount_0f7a4 0 = .ok (.iload_n 0, 1) := by decide +kernel
theorem dJ6_bitCount_0f7a4_1 : decode cJ6_bitCount_0f7a4 1 = .ok (.iload_n 0, 1) := by decide +kernel
theorem dJ6_bitCount_0f7a4_2 : decode cJ6_bitCount_0f7a4 2 = .ok (.iconst 1, 1) := by decide +kernel
theorem dJ6_bitCount_0f7a4_3 : decode cJ6_bitCount_0f7a4 3 = .ok (.iushr, 1) := by decide +kernel
theorem dJ6_bitCount_0f7a4_4 : decode cJ6_bitCount_0f7a4 4 = .ok (.ldc_w 265, 3) := by decide +kernel
theorem dJ6_bitCount_0f7a4_7 : decode cJ6_bitCount_0f7a4 7 = .ok (.iand, 1) := by decide +kernel
theorem dJ6_bitCount_0f7a4_8 : decode cJ6_bitCount_0f7a4 8 = .ok (.isub, 1) := by decide +kernel
theorem dJ6_bitCount_0f7a4_9 : decode cJ6_bitCount_0f7a4 9 = .ok (.istore_n 0, 1) := by decide +kernel
theorem dJ6_bitCount_0f7a4_10 : decode cJ6_bitCount_0f7a4 10 = .ok (.iload_n 0, 1) := by decide +kernel
theorem dJ6_bitCount_0f7a4_11 : decode cJ6_bitCount_0f7a4 11 = .ok (.ldc_w 266, 3) := by decide +kernel
theorem dJ6_bitCount_0f7a4_14 : decode cJ6_bitCount_0f7a4 14 = .ok (.iand, 1) := by decide +kernel
theorem dJ6_bitCount_0f7a4_15 : decode cJ6_bitCount_0f7a4 15 = .ok (.iload_n 0, 1) := by decide +kernel
theorem dJ6_bitCount_0f7a4_16 : decode cJ6_bitCount_0f7a4 16 = .ok (.iconst 2, 1) := by decide +kernel
theorem dJ6_bitCount_0f7a4_17 : decode cJ6_bitCount_0f7a4 17 = .ok (.iushr, 1) := by decide +kernel
theorem dJ6_bitCount_0f7a4_18 : decode cJ6_bitCount_0f7a4 18 = .ok (.ldc_w 266, 3) := by decide +kernel
theorem dJ6_bitCount_0f7a4_21 : decode cJ6_bitCount_0f7a4 21 = .ok (.iand, 1) := by decide +kernel
theorem dJ6_bitCount_0f7a4_22 : decode cJ6_bitCount_0f7a4 22 = .ok (.iadd, 1) := by decide +kernel
theorem dJ6_bitCount_0f7a4_23 : decode cJ6_bitCount_0f7a4 23 = .ok (.istore_n 0, 1) := by decide +kernel
theorem dJ6_bitCount_0f7a4_24 : decode cJ6_bitCount_0f7a4 24 = .ok (.iload_n 0, 1) := by decide +kernel
theorem dJ6_bitCount_0f7a4_25 : decode cJ6_bitCount_0f7a4 25 = .ok (.iload_n 0, 1) := by decide +kernel
theorem dJ6_bitCount_0f7a4_26 : decode cJ6_bitCount_0f7a4 26 = .ok (.iconst 4, 1) := by decide +kernel
theorem dJ6_bitCount_0f7a4_27 : decode cJ6_bitCount_0f7a4 27 = .ok (.iushr, 1) := by decide +kernel
theorem dJ6_bitCount_0f7a4_28 : decode cJ6_bitCount_0f7a4 28 = .ok (.iadd, 1) := by decide +kernel
theorem dJ6_bitCount_0f7a4_29 : decode cJ6_bitCount_0f7a4 29 = .ok (.ldc_w 267, 3) := by decide +kernel
theorem dJ6_bitCount_0f7a4_32 : decode cJ6_bitCount_0f7a4 32 = .ok (.iand, 1) := by decide +kernel
theorem dJ6_bitCount_0f7a4_33 : decode cJ6_bitCount_0f7a4 33 = .ok (.istore_n 0, 1) := by decide +kernel
theorem dJ6_bitCount_0f7a4_34 : decode cJ6_bitCount_0f7a4 34 = .ok (.iload_n 0, 1) := by decide +kernel
theorem dJ6_bitCount_0f7a4_35 : decode cJ6_bitCount_0f7a4 35 = .ok (.iload_n 0, 1) := by decide +kernel
theorem dJ6_bitCount_0f7a4_36 : decode cJ6_bitCount_0f7a4 36 = .ok (.bipush 8, 2) := by decide +kernel
theorem dJ6_bitCount_0f7a4_38 : decode cJ6_bitCount_0f7a4 38 = .ok (.iushr, 1) := by decide +kernel
theorem dJ6_bitCount_0f7a4_39 : decode cJ6_bitCount_0f7a4 39 = .ok (.iadd, 1) := by decide +kernel
theorem dJ6_bitCount_0f7a4_40 : decode cJ6_bitCount_0f7a4 40 = .ok (.istore_n 0, 1) := by decide +kernel
theorem dJ6_bitCount_0f7a4_41 : decode cJ6_bitCount_0f7a4 41 = .ok (.iload_n 0, 1) := by decide +kernel
theorem dJ6_bitCount_0f7a4_42 : decode cJ6_bitCount_0f7a4 42 = .ok (.iload_n 0, 1) := by decide +kernel
theorem dJ6_bitCount_0f7a4_43 : decode cJ6_bitCount_0f7a4 43 = .ok (.bipush 16, 2) := by decide +kernel
theorem dJ6_bitCount_0f7a4_45 : decode cJ6_bitCount_0f7a4 45 = .ok (.iushr, 1) := by decide +kernel
theorem dJ6_bitCount_0f7a4_46 : decode cJ6_bitCount_0f7a4 46 = .ok (.iadd, 1) := by decide +kernel
theorem dJ6_bitCount_0f7a4_47 : decode cJ6_bitCount_0f7a4 47 = .ok (.istore_n 0, 1) := by decide +kernel
theorem dJ6_bitCount_0f7a4_48 : decode cJ6_bitCount_0f7a4 48 = .ok (.iload_n 0, 1) := by decide +kernel
theorem dJ6_bitCount_0f7a4_49 : decode cJ6_bitCount_0f7a4 49 = .ok (.bipush 63, 2) := by decide +kernel
theorem dJ6_bitCount_0f7a4_51 : decode cJ6_bitCount_0f7a4 51 = .ok (.iand, 1) := by decide +kernel
theorem dJ6_bitCount_0f7a4_52 : decode cJ6_bitCount_0f7a4 52 = .ok (.ireturn, 1) := by decide +kernel
theorem dJ9_max_7cf53_0 : decode cJ9_max_7cf53 0 = .ok (.iload_n 0, 1) := by decide +kernel
theorem dJ9_max_7cf53_1 : decode cJ9_max_7cf53 1 = .ok (.iload_n 1, 1) := by decide +kernel
theorem dJ9_max_7cf53_2 : decode cJ9_max_7cf53 2 = .ok (.if_icmp .lt 7, 3) := by decide +kernel
theorem dJ9_max_7cf53_5 : decode cJ9_max_7cf53 5 = .ok (.iload_n 0, 1) := by decide +kernel
theorem dJ9_max_7cf53_6 : decode cJ9_max_7cf53 6 = .ok (.goto 4, 3) := by decide +kernel
theorem dJ9_max_7cf53_9 : decode cJ9_max_7cf53 9 = .ok (.iload_n 1, 1) := by decide +kernel
theorem dJ9_max_7cf53_10 : decode cJ9_max_7cf53 10 = .ok (.ireturn, 1) := by decide +kernel
theorem dJ9_min_7cf53_0 : decode cJ9_min_7cf53 0 = .ok (.iload_n 0, 1) := by decide +kernel
theorem dJ9_min_7cf53_1 : decode cJ9_min_7cf53 1 = .ok (.iload_n 1, 1) := by decide +kernel
theorem dJ9_min_7cf53_2 : decode cJ9_min_7cf53 2 = .ok (.if_icmp .gt 7, 3) := by decide +kernel
theorem dJ9_min_7cf53_5 : decode cJ9_min_7cf53 5 = .ok (.iload_n 0, 1) := by decide +kernel
theorem dJ9_min_7cf53_6 : decode cJ9_min_7cf53 6 = .ok (.goto 4, 3) := by decide +kernel
theorem dJ9_min_7cf53_9 : decode cJ9_min_7cf53 9 = .ok (.iload_n 1, 1) := by decide +kernel
theorem dJ9_min_7cf53_10 : decode cJ9_min_7cf53 10 = .ok (.ireturn, 1) := by decide +kernel
end
section
theorem dX5_init_0 : decode cX5_init 0 = .ok (.aload_n 0, 1) := by decide +kernel
theorem dX5_init_1 : decode cX5_init 1 = .ok (.invokespecial 1, 3) := by decide +kernel
theorem dX5_init_4 : decode cX5_init 4 = .ok (.aload_n 0, 1) := by decide +kernel
theorem dX5_init_5 : decode cX5_init 5 = .ok (.bipush 6, 2) := by decide +kernel
theorem dX5_init_7 : decode cX5_init 7 = .ok (.anewarray 9, 3) := by decide +kernel
theorem dX5_init_10 : decode cX5_init 10 = .ok (.putfield 11, 3) := by decide +kernel
theorem dX5_init_13 : decode cX5_init 13 = .ok (.aload_n 0, 1) := by decide +kernel
theorem dX5_init_14 : decode cX5_init 14 = .ok (.iconst 4, 1) := by decide +kernel
theorem dX5_init_15 : decode cX5_init 15 = .ok (.anewarray 9, 3) := by decide +kernel
theorem dX5_init_18 : decode cX5_init 18 = .ok (.putfield 15, 3) := by decide +kernel
theorem dX5_init_21 : decode cX5_init 21 = .ok (.aload_n 0, 1) := by decide +kernel
theorem dX5_init_22 : decode cX5_init 22 = .ok (.iconst 3, 1) := by decide +kernel
theorem dX5_init_23 : decode cX5_init 23 = .ok (.anewarray 18, 3) := by decide +kernel
theorem dX5_init_26 : decode cX5_init 26 = .ok (.putfield 20, 3) := by decide +kernel
theorem dX5_init_29 : decode cX5_init 29 = .ok (.aload_n 0, 1) := by decide +kernel
theorem dX5_init_30 : decode cX5_init 30 = .ok (.new 18, 3) := by decide +kernel
theorem dX5_init_33 : decode cX5_init 33 = .ok (.dup, 1) := by decide +kernel
theorem dX5_init_34 : decode cX5_init 34 = .ok (.invokespecial 24, 3) := by decide +kernel
theorem dX5_init_37 : decode cX5_init 37 = .ok (.putfield 25, 3) := by decide +kernel
theorem dX5_init_40 : decode cX5_init 40 = .ok (.aload_n 0, 1) := by decide +kernel
theorem dX5_init_41 : decode cX5_init 41 = .ok (.new 29, 3) := by decide +kernel
theorem dX5_init_44 : decode cX5_init 44 = .ok (.dup, 1) := by decide +kernel
theorem dX5_init_45 : decode cX5_init 45 = .ok (.invokespecial 31, 3) := by decide +kernel
theorem dX5_init_48 : decode cX5_init 48 = .ok (.putfield 32, 3) := by decide +kernel
theorem dX5_init_51 : decode cX5_init 51 = .ok (.aload_n 0, 1) := by decide +kernel
theorem dX5_init_52 : decode cX5_init 52 = .ok (.new 29, 3) := by decide +kernel
theorem dX5_init_55 : decode cX5_init 55 = .ok (.dup, 1) := by decide +kernel
theorem dX5_init_56 : decode cX5_init 56 = .ok (.invokespecial 31, 3) := by decide +kernel
theorem dX5_init_59 : decode cX5_init 59 = .ok (.putfield 36, 3) := by decide +kernel
theorem dX5_init_62 : decode cX5_init 62 = .ok (.aload_n 0, 1) := by decide +kernel
theorem dX5_init_63 : decode cX5_init 63 = .ok (.new 39, 3) := by decide +kernel
theorem dX5_init_66 : decode cX5_init 66 = .ok (.dup, 1) := by decide +kernel
theorem dX5_init_67 : decode cX5_init 67 = .ok (.invokespecial 41, 3) := by decide +kernel
theorem dX5_init_70 : decode cX5_init 70 = .ok (.putfield 42, 3) := by decide +kernel
theorem dX5_init_73 : decode cX5_init 73 = .ok (.aload_n 0, 1) := by decide +kernel
theorem dX5_init_74 : decode cX5_init 74 = .ok (.sipush 512, 3) := by decide +kernel
theorem dX5_init_77 : decode cX5_init 77 = .ok (.newarray .int, 2) := by decide +kernel
theorem dX5_init_79 : decode cX5_init 79 = .ok (.putfield 46, 3) := by decide +kernel
theorem dX5_init_82 : decode cX5_init 82 = .ok (.aload_n 0, 1) := by decide +kernel
theorem dX5_init_83 : decode cX5_init 83 = .ok (.iconst 4, 1) := by decide +kernel
theorem dX5_init_84 : decode cX5_init 84 = .ok (.newarray .int, 2) := by decide +kernel
theorem dX5_init_86 : decode cX5_init 86 = .ok (.putfield 50, 3) := by decide +kernel
theorem dX5_init_89 : decode cX5_init 89 = .ok (.aload_n 0, 1) := by decide +kernel
theorem dX5_init_90 : decode cX5_init 90 = .ok (.bipush 6, 2) := by decide +kernel
theorem dX5_init_92 : decode cX5_init 92 = .ok (.newarray .int, 2) := by decide +kernel
theorem dX5_init_94 : decode cX5_init 94 = .ok (.putfield 53, 3) := by decide +kernel
theorem dX5_init_97 : decode cX5_init 97 = .ok (.aload_n 0, 1) := by decide +kernel
theorem dX5_init_98 : decode cX5_init 98 = .ok (.iconst 0, 1) := by decide +kernel
theorem dX5_init_99 : decode cX5_init 99 = .ok (.putfield 56, 3) := by decide +kernel
theorem dX5_init_102 : decode cX5_init 102 = .ok (.aload_n 0, 1) := by decide +kernel
theorem dX5_init_103 : decode cX5_init 103 = .ok (.iconst 0, 1) := by decide +kernel
theorem dX5_init_104 : decode cX5_init 104 = .ok (.putfield 60, 3) := by decide +kernel
theorem dX5_init_107 : decode cX5_init 107 = .ok (.aload_n 0, 1) := by decide +kernel
theorem dX5_init_108 : decode cX5_init 108 = .ok (.lconst 0, 1) := by decide +kernel
theorem dX5_init_109 : decode cX5_init 109 = .ok (.putfield 63, 3) := by decide +kernel
theorem dX5_init_112 : decode cX5_init 112 = .ok (.aload_n 0, 1) := by decide +kernel
theorem dX5_init_113 : decode cX5_init 113 = .ok (.lconst 1, 1) := by decide +kernel
theorem dX5_init_114 : decode cX5_init 114 = .ok (.putfield 67, 3) := by decide +kernel
theorem dX5_init_117 : decode cX5_init 117 = .ok (.iconst 0, 1) := by decide +kernel
theorem dX5_init_118 : decode cX5_init 118 = .ok (.istore_n 1, 1) := by decide +kernel
theorem dX5_init_119 : decode cX5_init 119 = .ok (.iload_n 1, 1) := by decide +kernel
theorem dX5_init_120 : decode cX5_init 120 = .ok (.bipush 6, 2) := by decide +kernel
theorem dX5_init_122 : decode cX5_init 122 = .ok (.if_icmp .ge 24, 3) := by decide +kernel
theorem dX5_init_125 : decode cX5_init 125 = .ok (.aload_n 0, 1) := by decide +kernel
theorem dX5_init_126 : decode cX5_init 126 = .ok (.getfield 11, 3) := by decide +kernel
theorem dX5_init_129 : decode cX5_init 129 = .ok (.iload_n 1, 1) := by decide +kernel
theorem dX5_init_130 : decode cX5_init 130 = .ok (.new 9, 3) := by decide +kernel
theorem dX5_init_133 : decode cX5_init 133 = .ok (.dup, 1) := by decide +kernel
theorem dX5_init_134 : decode cX5_init 134 = .ok (.bipush 40, 2) := by decide +kernel
theorem dX5_init_136 : decode cX5_init 136 = .ok (.invokespecial 70, 3) := by decide +kernel
theorem dX5_init_139 : decode cX5_init 139 = .ok (.aastore, 1) := by decide +kernel
theorem dX5_init_140 : decode cX5_init 140 = .ok (.iinc 1 1, 3) := by decide +kernel
theorem dX5_init_143 : decode cX5_init 143 = .ok (.goto (-24), 3) := by decide +kernel
theorem dX5_init_146 : decode cX5_init 146 = .ok (.iconst 0, 1) := by decide +kernel
theorem dX5_init_147 : decode cX5_init 147 = .ok (.istore_n 1, 1) := by decide +kernel
theorem dX5_init_148 : decode cX5_init 148 = .ok (.iload_n 1, 1) := by decide +kernel
theorem dX5_init_149 : decode cX5_init 149 = .ok (.iconst 4, 1) := by decide +kernel
theorem dX5_init_150 : decode cX5_init 150 = .ok (.if_icmp .ge 24, 3) := by decide +kernel
theorem dX5_init_153 : decode cX5_init 153 = .ok (.aload_n 0, 1) := by decide +kernel
theorem dX5_init_154 : decode cX5_init 154 = .ok (.getfield 15, 3) := by decide +kernel
theorem dX5_init_157 : decode cX5_init 157 = .ok (.iload_n 1, 1) := by decide +kernel
theorem dX5_init_158 : decode cX5_init 158 = .ok (.new 9, 3) := by decide +kernel
theorem dX5_init_161 : decode cX5_init 161 = .ok (.dup, 1) := by decide +kernel
theorem dX5_init_162 : decode cX5_init 162 = .ok (.bipush 60, 2) := by decide +kernel
theorem dX5_init_164 : decode cX5_init 164 = .ok (.invokespecial 70, 3) := by decide +kernel
theorem dX5_init_167 : decode cX5_init 167 = .ok (.aastore, 1) := by decide +kernel
theorem dX5_init_168 : decode cX5_init 168 = .ok (.iinc 1 1, 3) := by decide +kernel
theorem dX5_init_171 : decode cX5_init 171 = .ok (.goto (-23), 3) := by decide +kernel
theorem dX5_init_174 : decode cX5_init 174 = .ok (.iconst 0, 1) := by decide +kernel
theorem dX5_init_175 : decode cX5_init 175 = .ok (.istore_n 1, 1) := by decide +kernel
theorem dX5_init_176 : decode cX5_init 176 = .ok (.iload_n 1, 1) := by decide +kernel
theorem dX5_init_177 : decode cX5_init 177 = .ok (.iconst 3, 1) := by decide +kernel
theorem dX5_init_178 : decode cX5_init 178 = .ok (.if_icmp .ge 22, 3) := by decide +kernel
theorem dX5_init_181 : decode cX5_init 181 = .ok (.aload_n 0, 1) := by decide +kernel
theorem dX5_init_182 : decode cX5_init 182 = .ok (.getfield 20, 3) := by decide +kernel
theorem dX5_init_185 : decode cX5_init 185 = .ok (.iload_n 1, 1) := by decide +kernel
theorem dX5_init_186 : decode cX5_init 186 = .ok (.new 18, 3) := by decide +kernel
theorem dX5_init_189 : decode cX5_init 189 = .ok (.dup, 1) := by decide +kernel
theorem dX5_init_190 : decode cX5_init 190 = .ok (.invokespecial 24, 3) := by decide +kernel
theorem dX5_init_193 : decode cX5_init 193 = .ok (.aastore, 1) := by decide +kernel
theorem dX5_init_194 : decode cX5_init 194 = .ok (.iinc 1 1, 3) := by decide +kernel
theorem dX5_init_197 : decode cX5_init 197 = .ok (.goto (-21), 3) := by decide +kernel
theorem dX5_init_200 : decode cX5_init 200 = .ok (.return_, 1) := by decide +kernel
theorem dX5_row_0 : decode cX5_row 0 = .ok (.aload_n 0, 1) := by decide +kernel
theorem dX5_row_1 : decode cX5_row 1 = .ok (.aload_n 0, 1) := by decide +kernel
theorem dX5_row_2 : decode cX5_row 2 = .ok (.iload_n 1, 1) := by decide +kernel
theorem dX5_row_3 : decode cX5_row 3 = .ok (.invokevirtual 73, 3) := by decide +kernel
theorem dX5_row_6 : decode cX5_row 6 = .ok (.iload_n 2, 1) := by decide +kernel
theorem dX5_row_7 : decode cX5_row 7 = .ok (.bipush 40, 2) := by decide +kernel
theorem dX5_row_9 : decode cX5_row 9 = .ok (.iconst 0, 1) := by decide +kernel
theorem dX5_row_10 : decode cX5_row 10 = .ok (.invokevirtual 77, 3) := by decide +kernel
theorem dX5_row_13 : decode cX5_row 13 = .ok (.ireturn, 1) := by decide +kernel
theorem dX5_lay_0 : decode cX5_lay 0 = .ok (.aload_n 0, 1) := by decide +kernel
theorem dX5_lay_1 : decode cX5_lay 1 = .ok (.iload_n 1, 1) := by decide +kernel
theorem dX5_lay_2 : decode cX5_lay 2 = .ok (.invokevirtual 73, 3) := by decide +kernel
theorem dX5_lay_5 : decode cX5_lay 5 = .ok (.astore 4, 2) := by decide +kernel
theorem dX5_lay_7 : decode cX5_lay 7 = .ok (.aload_n 0, 1) := by decide +kernel
theorem dX5_lay_8 : decode cX5_lay 8 = .ok (.aload 4, 2) := by decide +kernel
theorem dX5_lay_10 : decode cX5_lay 10 = .ok (.iload_n 2, 1) := by decide +kernel
theorem dX5_lay_11 : decode cX5_lay 11 = .ok (.invokevirtual 81, 3) := by decide +kernel
theorem dX5_lay_14 : decode cX5_lay 14 = .ok (.istore 5, 2) := by decide +kernel
theorem dX5_lay_16 : decode cX5_lay 16 = .ok (.aload 4, 2) := by decide +kernel
theorem dX5_lay_18 : decode cX5_lay 18 = .ok (.ifnull 8, 3) := by decide +kernel
theorem dX5_lay_21 : decode cX5_lay 21 = .ok (.iload 5, 2) := by decide +kernel
theorem dX5_lay_23 : decode cX5_lay 23 = .ok (.ifCond .eq 6, 3) := by decide +kernel
theorem dX5_lay_26 : decode cX5_lay 26 = .ok (.iload 5, 2) := by decide +kernel
theorem dX5_lay_28 : decode cX5_lay 28 = .ok (.ireturn, 1) := by decide +kernel
theorem dX5_lay_29 : decode cX5_lay 29 = .ok (.aload 4, 2) := by decide +kernel
theorem dX5_lay_31 : decode cX5_lay 31 = .ok (.iload_n 2, 1) := by decide +kernel
theorem dX5_lay_32 : decode cX5_lay 32 = .ok (.invokevirtual 85, 3) := by decide +kernel
theorem dX5_lay_35 : decode cX5_lay 35 = .ok (.istore 6, 2) := by decide +kernel
theorem dX5_lay_37 : decode cX5_lay 37 = .ok (.aload 4, 2) := by decide +kernel
theorem dX5_lay_39 : decode cX5_lay 39 = .ok (.iload_n 2, 1) := by decide +kernel
theorem dX5_lay_40 : decode cX5_lay 40 = .ok (.iload_n 3, 1) := by decide +kernel
theorem dX5_lay_41 : decode cX5_lay 41 = .ok (.invokevirtual 89, 3) := by decide +kernel
theorem dX5_lay_44 : decode cX5_lay 44 = .ok (.aload_n 0, 1) := by decide +kernel
theorem dX5_lay_45 : decode cX5_lay 45 = .ok (.iload 6, 2) := by decide +kernel
theorem dX5_lay_47 : decode cX5_lay 47 = .ok (.invokevirtual 93, 3) := by decide +kernel
theorem dX5_lay_50 : decode cX5_lay 50 = .ok (.ireturn, 1) := by decide +kernel
theorem dX5_at_0 : decode cX5_at 0 = .ok (.aload_n 0, 1) := by decide +kernel
theorem dX5_at_1 : decode cX5_at 1 = .ok (.iload_n 1, 1) := by decide +kernel
theorem dX5_at_2 : decode cX5_at 2 = .ok (.invokevirtual 73, 3) := by decide +kernel
theorem dX5_at_5 : decode cX5_at 5 = .ok (.astore_n 3, 1) := by decide +kernel
theorem dX5_at_6 : decode cX5_at 6 = .ok (.aload_n 0, 1) := by decide +kernel
theorem dX5_at_7 : decode cX5_at 7 = .ok (.aload_n 3, 1) := by decide +kernel
theorem dX5_at_8 : decode cX5_at 8 = .ok (.iload_n 2, 1) := by decide +kernel
theorem dX5_at_9 : decode cX5_at 9 = .ok (.invokevirtual 81, 3) := by decide +kernel
theorem dX5_at_12 : decode cX5_at 12 = .ok (.istore 4, 2) := by decide +kernel
theorem dX5_at_14 : decode cX5_at 14 = .ok (.aload_n 3, 1) := by decide +kernel
theorem dX5_at_15 : decode cX5_at 15 = .ok (.ifnull 8, 3) := by decide +kernel
theorem dX5_at_18 : decode cX5_at 18 = .ok (.iload 4, 2) := by decide +kernel
theorem dX5_at_20 : decode cX5_at 20 = .ok (.ifCond .eq 8, 3) := by decide +kernel
theorem dX5_at_23 : decode cX5_at 23 = .ok (.iload 4, 2) := by decide +kernel
theorem dX5_at_25 : decode cX5_at 25 = .ok (.goto 12, 3) := by decide +kernel
theorem dX5_at_28 : decode cX5_at 28 = .ok (.aload_n 0, 1) := by decide +kernel
theorem dX5_at_29 : decode cX5_at 29 = .ok (.aload_n 3, 1) := by decide +kernel
theorem dX5_at_30 : decode cX5_at 30 = .ok (.iload_n 2, 1) := by decide +kernel
theorem dX5_at_31 : decode cX5_at 31 = .ok (.invokevirtual 85, 3) := by decide +kernel
theorem dX5_at_34 : decode cX5_at 34 = .ok (.invokevirtual 93, 3) := by decide +kernel
theorem dX5_at_37 : decode cX5_at 37 = .ok (.ireturn, 1) := by decide +kernel
theorem dX5_tear_0 : decode cX5_tear 0 = .ok (.aload_n 0, 1) := by decide +kernel
theorem dX5_tear_1 : decode cX5_tear 1 = .ok (.iload_n 1, 1) := by decide +kernel
theorem dX5_tear_2 : decode cX5_tear 2 = .ok (.invokevirtual 73, 3) := by decide +kernel
theorem dX5_tear_5 : decode cX5_tear 5 = .ok (.astore_n 2, 1) := by decide +kernel
theorem dX5_tear_6 : decode cX5_tear 6 = .ok (.aload_n 0, 1) := by decide +kernel
theorem dX5_tear_7 : decode cX5_tear 7 = .ok (.aload_n 2, 1) := by decide +kernel
theorem dX5_tear_8 : decode cX5_tear 8 = .ok (.invokevirtual 96, 3) := by decide +kernel
theorem dX5_tear_11 : decode cX5_tear 11 = .ok (.istore_n 3, 1) := by decide +kernel
theorem dX5_tear_12 : decode cX5_tear 12 = .ok (.aload_n 2, 1) := by decide +kernel
theorem dX5_tear_13 : decode cX5_tear 13 = .ok (.ifnull 7, 3) := by decide +kernel
theorem dX5_tear_16 : decode cX5_tear 16 = .ok (.iload_n 3, 1) := by decide +kernel
theorem dX5_tear_17 : decode cX5_tear 17 = .ok (.ifCond .eq 5, 3) := by decide +kernel
theorem dX5_tear_20 : decode cX5_tear 20 = .ok (.iload_n 3, 1) := by decide +kernel
theorem dX5_tear_21 : decode cX5_tear 21 = .ok (.ireturn, 1) := by decide +kernel
theorem dX5_tear_22 : decode cX5_tear 22 = .ok (.aload_n 2, 1) := by decide +kernel
theorem dX5_tear_23 : decode cX5_tear 23 = .ok (.invokevirtual 100, 3) := by decide +kernel
theorem dX5_tear_26 : decode cX5_tear 26 = .ok (.iconst 1, 1) := by decide +kernel
theorem dX5_tear_27 : decode cX5_tear 27 = .ok (.ireturn, 1) := by decide +kernel
theorem dX5_copy_0 : decode cX5_copy 0 = .ok (.aload_n 0, 1) := by decide +kernel
theorem dX5_copy_1 : decode cX5_copy 1 = .ok (.iload_n 1, 1) := by decide +kernel
theorem dX5_copy_2 : decode cX5_copy 2 = .ok (.invokevirtual 73, 3) := by decide +kernel
theorem dX5_copy_5 : decode cX5_copy 5 = .ok (.astore 6, 2) := by decide +kernel
theorem dX5_copy_7 : decode cX5_copy 7 = .ok (.aload_n 0, 1) := by decide +kernel
theorem dX5_copy_8 : decode cX5_copy 8 = .ok (.iload_n 3, 1) := by decide +kernel
theorem dX5_copy_9 : decode cX5_copy 9 = .ok (.invokevirtual 73, 3) := by decide +kernel
theorem dX5_copy_12 : decode cX5_copy 12 = .ok (.astore 7, 2) := by decide +kernel
theorem dX5_copy_14 : decode cX5_copy 14 = .ok (.aload 6, 2) := by decide +kernel
theorem dX5_copy_16 : decode cX5_copy 16 = .ok (.ifnull 8, 3) := by decide +kernel
theorem dX5_copy_19 : decode cX5_copy 19 = .ok (.aload 7, 2) := by decide +kernel
theorem dX5_copy_21 : decode cX5_copy 21 = .ok (.ifnonnull 5, 3) := by decide +kernel
theorem dX5_copy_24 : decode cX5_copy 24 = .ok (.iconst (-1), 1) := by decide +kernel
theorem dX5_copy_25 : decode cX5_copy 25 = .ok (.ireturn, 1) := by decide +kernel
theorem dX5_copy_26 : decode cX5_copy 26 = .ok (.iload 5, 2) := by decide +kernel
theorem dX5_copy_28 : decode cX5_copy 28 = .ok (.ifCond .ge 9, 3) := by decide +kernel
theorem dX5_copy_31 : decode cX5_copy 31 = .ok (.aload_n 0, 1) := by decide +kernel
theorem dX5_copy_32 : decode cX5_copy 32 = .ok (.iconst 5, 1) := by decide +kernel
theorem dX5_copy_33 : decode cX5_copy 33 = .ok (.invokevirtual 103, 3) := by decide +kernel
theorem dX5_copy_36 : decode cX5_copy 36 = .ok (.ireturn, 1) := by decide +kernel
theorem dX5_copy_37 : decode cX5_copy 37 = .ok (.aload 6, 2) := by decide +kernel
theorem dX5_copy_39 : decode cX5_copy 39 = .ok (.invokevirtual 106, 3) := by decide +kernel
theorem dX5_copy_42 : decode cX5_copy 42 = .ok (.ifCond .eq 11, 3) := by decide +kernel
theorem dX5_copy_45 : decode cX5_copy 45 = .ok (.aload 7, 2) := by decide +kernel
theorem dX5_copy_47 : decode cX5_copy 47 = .ok (.invokevirtual 106, 3) := by decide +kernel
theorem dX5_copy_50 : decode cX5_copy 50 = .ok (.ifCond .ne 9, 3) := by decide +kernel
theorem dX5_copy_53 : decode cX5_copy 53 = .ok (.aload_n 0, 1) := by decide +kernel
theorem dX5_copy_54 : decode cX5_copy 54 = .ok (.iconst 1, 1) := by decide +kernel
theorem dX5_copy_55 : decode cX5_copy 55 = .ok (.invokevirtual 103, 3) := by decide +kernel
theorem dX5_copy_58 : decode cX5_copy 58 = .ok (.ireturn, 1) := by decide +kernel
theorem dX5_copy_59 : decode cX5_copy 59 = .ok (.aload 6, 2) := by decide +kernel
theorem dX5_copy_61 : decode cX5_copy 61 = .ok (.iload_n 2, 1) := by decide +kernel
theorem dX5_copy_62 : decode cX5_copy 62 = .ok (.iload 5, 2) := by decide +kernel
theorem dX5_copy_64 : decode cX5_copy 64 = .ok (.invokevirtual 110, 3) := by decide +kernel
theorem dX5_copy_67 : decode cX5_copy 67 = .ok (.ifCond .eq 15, 3) := by decide +kernel
theorem dX5_copy_70 : decode cX5_copy 70 = .ok (.aload 7, 2) := by decide +kernel
theorem dX5_copy_72 : decode cX5_copy 72 = .ok (.iload 4, 2) := by decide +kernel
theorem dX5_copy_74 : decode cX5_copy 74 = .ok (.iload 5, 2) := by decide +kernel
theorem dX5_copy_76 : decode cX5_copy 76 = .ok (.invokevirtual 110, 3) := by decide +kernel
theorem dX5_copy_79 : decode cX5_copy 79 = .ok (.ifCond .ne 9, 3) := by decide +kernel
theorem dX5_copy_82 : decode cX5_copy 82 = .ok (.aload_n 0, 1) := by decide +kernel
theorem dX5_copy_83 : decode cX5_copy 83 = .ok (.iconst 2, 1) := by decide +kernel
theorem dX5_copy_84 : decode cX5_copy 84 = .ok (.invokevirtual 103, 3) := by decide +kernel
theorem dX5_copy_87 : decode cX5_copy 87 = .ok (.ireturn, 1) := by decide +kernel
theorem dX5_copy_88 : decode cX5_copy 88 = .ok (.aload 7, 2) := by decide +kernel
theorem dX5_copy_90 : decode cX5_copy 90 = .ok (.aload 6, 2) := by decide +kernel
theorem dX5_copy_92 : decode cX5_copy 92 = .ok (.iload_n 2, 1) := by decide +kernel
theorem dX5_copy_93 : decode cX5_copy 93 = .ok (.iload 4, 2) := by decide +kernel
theorem dX5_copy_95 : decode cX5_copy 95 = .ok (.iload 5, 2) := by decide +kernel
theorem dX5_copy_97 : decode cX5_copy 97 = .ok (.invokevirtual 114, 3) := by decide +kernel
theorem dX5_copy_100 : decode cX5_copy 100 = .ok (.iconst 1, 1) := by decide +kernel
theorem dX5_copy_101 : decode cX5_copy 101 = .ok (.ireturn, 1) := by decide +kernel
theorem dX5_mean_0 : decode cX5_mean 0 = .ok (.aload_n 0, 1) := by decide +kernel
theorem dX5_mean_1 : decode cX5_mean 1 = .ok (.iload_n 1, 1) := by decide +kernel
theorem dX5_mean_2 : decode cX5_mean 2 = .ok (.invokevirtual 73, 3) := by decide +kernel
theorem dX5_mean_5 : decode cX5_mean 5 = .ok (.astore_n 2, 1) := by decide +kernel
theorem dX5_mean_6 : decode cX5_mean 6 = .ok (.aload_n 0, 1) := by decide +kernel
theorem dX5_mean_7 : decode cX5_mean 7 = .ok (.aload_n 2, 1) := by decide +kernel
theorem dX5_mean_8 : decode cX5_mean 8 = .ok (.invokevirtual 96, 3) := by decide +kernel
theorem dX5_mean_11 : decode cX5_mean 11 = .ok (.istore_n 3, 1) := by decide +kernel
theorem dX5_mean_12 : decode cX5_mean 12 = .ok (.aload_n 2, 1) := by decide +kernel
theorem dX5_mean_13 : decode cX5_mean 13 = .ok (.ifnull 7, 3) := by decide +kernel
theorem dX5_mean_16 : decode cX5_mean 16 = .ok (.iload_n 3, 1) := by decide +kernel
theorem dX5_mean_17 : decode cX5_mean 17 = .ok (.ifCond .eq 5, 3) := by decide +kernel
theorem dX5_mean_20 : decode cX5_mean 20 = .ok (.iload_n 3, 1) := by decide +kernel
theorem dX5_mean_21 : decode cX5_mean 21 = .ok (.ireturn, 1) := by decide +kernel
theorem dX5_mean_22 : decode cX5_mean 22 = .ok (.aload_n 2, 1) := by decide +kernel
theorem dX5_mean_23 : decode cX5_mean 23 = .ok (.invokevirtual 118, 3) := by decide +kernel
theorem dX5_mean_26 : decode cX5_mean 26 = .ok (.istore 4, 2) := by decide +kernel
theorem dX5_mean_28 : decode cX5_mean 28 = .ok (.iload 4, 2) := by decide +kernel
theorem dX5_mean_30 : decode cX5_mean 30 = .ok (.ifCond .gt 9, 3) := by decide +kernel
theorem dX5_mean_33 : decode cX5_mean 33 = .ok (.aload_n 0, 1) := by decide +kernel
theorem dX5_mean_34 : decode cX5_mean 34 = .ok (.iconst 4, 1) := by decide +kernel
theorem dX5_mean_35 : decode cX5_mean 35 = .ok (.invokevirtual 103, 3) := by decide +kernel
theorem dX5_mean_38 : decode cX5_mean 38 = .ok (.ireturn, 1) := by decide +kernel
theorem dX5_mean_39 : decode cX5_mean 39 = .ok (.aload_n 0, 1) := by decide +kernel
theorem dX5_mean_40 : decode cX5_mean 40 = .ok (.aload_n 2, 1) := by decide +kernel
theorem dX5_mean_41 : decode cX5_mean 41 = .ok (.invokevirtual 122, 3) := by decide +kernel
theorem dX5_mean_44 : decode cX5_mean 44 = .ok (.iload 4, 2) := by decide +kernel
theorem dX5_mean_46 : decode cX5_mean 46 = .ok (.i2l, 1) := by decide +kernel
theorem dX5_mean_47 : decode cX5_mean 47 = .ok (.ldiv, 1) := by decide +kernel
theorem dX5_mean_48 : decode cX5_mean 48 = .ok (.l2i, 1) := by decide +kernel
theorem dX5_mean_49 : decode cX5_mean 49 = .ok (.invokevirtual 93, 3) := by decide +kernel
theorem dX5_mean_52 : decode cX5_mean 52 = .ok (.ireturn, 1) := by decide +kernel
theorem dX5_text_0 : decode cX5_text 0 = .ok (.aload_n 0, 1) := by decide +kernel
theorem dX5_text_1 : decode cX5_text 1 = .ok (.aload_n 0, 1) := by decide +kernel
theorem dX5_text_2 : decode cX5_text 2 = .ok (.iload_n 1, 1) := by decide +kernel
theorem dX5_text_3 : decode cX5_text 3 = .ok (.invokevirtual 126, 3) := by decide +kernel
theorem dX5_text_6 : decode cX5_text 6 = .ok (.iload_n 2, 1) := by decide +kernel
theorem dX5_text_7 : decode cX5_text 7 = .ok (.bipush 60, 2) := by decide +kernel
theorem dX5_text_9 : decode cX5_text 9 = .ok (.bipush 32, 2) := by decide +kernel
theorem dX5_text_11 : decode cX5_text 11 = .ok (.invokevirtual 77, 3) := by decide +kernel
theorem dX5_text_14 : decode cX5_text 14 = .ok (.ireturn, 1) := by decide +kernel
theorem dX5_put_0 : decode cX5_put 0 = .ok (.aload_n 0, 1) := by decide +kernel
theorem dX5_put_1 : decode cX5_put 1 = .ok (.iload_n 1, 1) := by decide +kernel
theorem dX5_put_2 : decode cX5_put 2 = .ok (.invokevirtual 126, 3) := by decide +kernel
theorem dX5_put_5 : decode cX5_put 5 = .ok (.astore 4, 2) := by decide +kernel
theorem dX5_put_7 : decode cX5_put 7 = .ok (.aload_n 0, 1) := by decide +kernel
theorem dX5_put_8 : decode cX5_put 8 = .ok (.aload 4, 2) := by decide +kernel
theorem dX5_put_10 : decode cX5_put 10 = .ok (.iload_n 2, 1) := by decide +kernel
theorem dX5_put_11 : decode cX5_put 11 = .ok (.invokevirtual 81, 3) := by decide +kernel
theorem dX5_put_14 : decode cX5_put 14 = .ok (.istore 5, 2) := by decide +kernel
theorem dX5_put_16 : decode cX5_put 16 = .ok (.aload 4, 2) := by decide +kernel
theorem dX5_put_18 : decode cX5_put 18 = .ok (.ifnull 8, 3) := by decide +kernel
theorem dX5_put_21 : decode cX5_put 21 = .ok (.iload 5, 2) := by decide +kernel
theorem dX5_put_23 : decode cX5_put 23 = .ok (.ifCond .eq 6, 3) := by decide +kernel
theorem dX5_put_26 : decode cX5_put 26 = .ok (.iload 5, 2) := by decide +kernel
theorem dX5_put_28 : decode cX5_put 28 = .ok (.ireturn, 1) := by decide +kernel
theorem dX5_put_29 : decode cX5_put 29 = .ok (.aload 4, 2) := by decide +kernel
theorem dX5_put_31 : decode cX5_put 31 = .ok (.iload_n 2, 1) := by decide +kernel
theorem dX5_put_32 : decode cX5_put 32 = .ok (.invokevirtual 85, 3) := by decide +kernel
theorem dX5_put_35 : decode cX5_put 35 = .ok (.istore 6, 2) := by decide +kernel
theorem dX5_put_37 : decode cX5_put 37 = .ok (.aload 4, 2) := by decide +kernel
theorem dX5_put_39 : decode cX5_put 39 = .ok (.iload_n 2, 1) := by decide +kernel
theorem dX5_put_40 : decode cX5_put 40 = .ok (.iload_n 3, 1) := by decide +kernel
theorem dX5_put_41 : decode cX5_put 41 = .ok (.i2b, 1) := by decide +kernel
theorem dX5_put_42 : decode cX5_put 42 = .ok (.invokevirtual 89, 3) := by decide +kernel
theorem dX5_put_45 : decode cX5_put 45 = .ok (.iload 6, 2) := by decide +kernel
theorem dX5_put_47 : decode cX5_put 47 = .ok (.sipush 1000, 3) := by decide +kernel
theorem dX5_put_50 : decode cX5_put 50 = .ok (.iadd, 1) := by decide +kernel
theorem dX5_put_51 : decode cX5_put 51 = .ok (.ireturn, 1) := by decide +kernel
theorem dX5_fault_0 : decode cX5_fault 0 = .ok (.aload_n 0, 1) := by decide +kernel
theorem dX5_fault_1 : decode cX5_fault 1 = .ok (.iload_n 1, 1) := by decide +kernel
theorem dX5_fault_2 : decode cX5_fault 2 = .ok (.invokevirtual 126, 3) := by decide +kernel
theorem dX5_fault_5 : decode cX5_fault 5 = .ok (.astore_n 2, 1) := by decide +kernel
theorem dX5_fault_6 : decode cX5_fault 6 = .ok (.aload_n 0, 1) := by decide +kernel
theorem dX5_fault_7 : decode cX5_fault 7 = .ok (.aload_n 2, 1) := by decide +kernel
theorem dX5_fault_8 : decode cX5_fault 8 = .ok (.invokevirtual 96, 3) := by decide +kernel
theorem dX5_fault_11 : decode cX5_fault 11 = .ok (.istore_n 3, 1) := by decide +kernel
theorem dX5_fault_12 : decode cX5_fault 12 = .ok (.aload_n 2, 1) := by decide +kernel
theorem dX5_fault_13 : decode cX5_fault 13 = .ok (.ifnull 7, 3) := by decide +kernel
theorem dX5_fault_16 : decode cX5_fault 16 = .ok (.iload_n 3, 1) := by decide +kernel
theorem dX5_fault_17 : decode cX5_fault 17 = .ok (.ifCond .eq 7, 3) := by decide +kernel
theorem dX5_fault_20 : decode cX5_fault 20 = .ok (.iload_n 3, 1) := by decide +kernel
theorem dX5_fault_21 : decode cX5_fault 21 = .ok (.goto 11, 3) := by decide +kernel
theorem dX5_fault_24 : decode cX5_fault 24 = .ok (.aload_n 0, 1) := by decide +kernel
theorem dX5_fault_25 : decode cX5_fault 25 = .ok (.getfield 42, 3) := by decide +kernel
theorem dX5_fault_28 : decode cX5_fault 28 = .ok (.aload_n 2, 1) := by decide +kernel
theorem dX5_fault_29 : decode cX5_fault 29 = .ok (.invokevirtual 129, 3) := by decide +kernel
theorem dX5_fault_32 : decode cX5_fault 32 = .ok (.ireturn, 1) := by decide +kernel
theorem dX5_wall_0 : decode cX5_wall 0 = .ok (.aload_n 0, 1) := by decide +kernel
theorem dX5_wall_1 : decode cX5_wall 1 = .ok (.iload_n 1, 1) := by decide +kernel
theorem dX5_wall_2 : decode cX5_wall 2 = .ok (.invokevirtual 126, 3) := by decide +kernel
theorem dX5_wall_5 : decode cX5_wall 5 = .ok (.astore_n 2, 1) := by decide +kernel
theorem dX5_wall_6 : decode cX5_wall 6 = .ok (.aload_n 0, 1) := by decide +kernel
theorem dX5_wall_7 : decode cX5_wall 7 = .ok (.aload_n 2, 1) := by decide +kernel
theorem dX5_wall_8 : decode cX5_wall 8 = .ok (.invokevirtual 96, 3) := by decide +kernel
theorem dX5_wall_11 : decode cX5_wall 11 = .ok (.istore_n 3, 1) := by decide +kernel
theorem dX5_wall_12 : decode cX5_wall 12 = .ok (.aload_n 2, 1) := by decide +kernel
theorem dX5_wall_13 : decode cX5_wall 13 = .ok (.ifnull 7, 3) := by decide +kernel
theorem dX5_wall_16 : decode cX5_wall 16 = .ok (.iload_n 3, 1) := by decide +kernel
theorem dX5_wall_17 : decode cX5_wall 17 = .ok (.ifCond .eq 5, 3) := by decide +kernel
theorem dX5_wall_20 : decode cX5_wall 20 = .ok (.iload_n 3, 1) := by decide +kernel
theorem dX5_wall_21 : decode cX5_wall 21 = .ok (.ireturn, 1) := by decide +kernel
theorem dX5_wall_22 : decode cX5_wall 22 = .ok (.aload_n 0, 1) := by decide +kernel
theorem dX5_wall_23 : decode cX5_wall 23 = .ok (.getfield 42, 3) := by decide +kernel
theorem dX5_wall_26 : decode cX5_wall 26 = .ok (.aload_n 2, 1) := by decide +kernel
theorem dX5_wall_27 : decode cX5_wall 27 = .ok (.invokevirtual 129, 3) := by decide +kernel
theorem dX5_wall_30 : decode cX5_wall 30 = .ok (.bipush (-9), 2) := by decide +kernel
theorem dX5_wall_32 : decode cX5_wall 32 = .ok (.if_icmp .eq 6, 3) := by decide +kernel
theorem dX5_wall_35 : decode cX5_wall 35 = .ok (.bipush (-4), 2) := by decide +kernel
theorem dX5_wall_37 : decode cX5_wall 37 = .ok (.ireturn, 1) := by decide +kernel
theorem dX5_wall_38 : decode cX5_wall 38 = .ok (.aload_n 0, 1) := by decide +kernel
theorem dX5_wall_39 : decode cX5_wall 39 = .ok (.getfield 32, 3) := by decide +kernel
theorem dX5_wall_42 : decode cX5_wall 42 = .ok (.aload_n 0, 1) := by decide +kernel
theorem dX5_wall_43 : decode cX5_wall 43 = .ok (.getfield 42, 3) := by decide +kernel
theorem dX5_wall_46 : decode cX5_wall 46 = .ok (.getfield 132, 3) := by decide +kernel
theorem dX5_wall_49 : decode cX5_wall 49 = .ok (.invokevirtual 133, 3) := by decide +kernel
theorem dX5_wall_52 : decode cX5_wall 52 = .ok (.aload_n 0, 1) := by decide +kernel
theorem dX5_wall_53 : decode cX5_wall 53 = .ok (.getfield 25, 3) := by decide +kernel
theorem dX5_wall_56 : decode cX5_wall 56 = .ok (.aload_n 0, 1) := by decide +kernel
theorem dX5_wall_57 : decode cX5_wall 57 = .ok (.getfield 42, 3) := by decide +kernel
theorem dX5_wall_60 : decode cX5_wall 60 = .ok (.getfield 137, 3) := by decide +kernel
theorem dX5_wall_63 : decode cX5_wall 63 = .ok (.invokevirtual 140, 3) := by decide +kernel
theorem dX5_wall_66 : decode cX5_wall 66 = .ok (.iconst 0, 1) := by decide +kernel
theorem dX5_wall_67 : decode cX5_wall 67 = .ok (.istore 4, 2) := by decide +kernel
theorem dX5_wall_69 : decode cX5_wall 69 = .ok (.iload 4, 2) := by decide +kernel
theorem dX5_wall_71 : decode cX5_wall 71 = .ok (.iconst 3, 1) := by decide +kernel
theorem dX5_wall_72 : decode cX5_wall 72 = .ok (.if_icmp .ge 19, 3) := by decide +kernel
theorem dX5_wall_75 : decode cX5_wall 75 = .ok (.aload_n 0, 1) := by decide +kernel
theorem dX5_wall_76 : decode cX5_wall 76 = .ok (.getfield 20, 3) := by decide +kernel
theorem dX5_wall_79 : decode cX5_wall 79 = .ok (.iload 4, 2) := by decide +kernel
theorem dX5_wall_81 : decode cX5_wall 81 = .ok (.aaload, 1) := by decide +kernel
theorem dX5_wall_82 : decode cX5_wall 82 = .ok (.invokevirtual 143, 3) := by decide +kernel
theorem dX5_wall_85 : decode cX5_wall 85 = .ok (.iinc 4 1, 3) := by decide +kernel
theorem dX5_wall_88 : decode cX5_wall 88 = .ok (.goto (-19), 3) := by decide +kernel
theorem dX5_wall_91 : decode cX5_wall 91 = .ok (.bipush 9, 2) := by decide +kernel
theorem dX5_wall_93 : decode cX5_wall 93 = .ok (.ireturn, 1) := by decide +kernel
theorem dX5_lamp_0 : decode cX5_lamp 0 = .ok (.aload_n 0, 1) := by decide +kernel
theorem dX5_lamp_1 : decode cX5_lamp 1 = .ok (.iload_n 1, 1) := by decide +kernel
theorem dX5_lamp_2 : decode cX5_lamp 2 = .ok (.invokevirtual 146, 3) := by decide +kernel
theorem dX5_lamp_5 : decode cX5_lamp 5 = .ok (.ifCond .eq 13, 3) := by decide +kernel
theorem dX5_lamp_8 : decode cX5_lamp 8 = .ok (.iload_n 2, 1) := by decide +kernel
theorem dX5_lamp_9 : decode cX5_lamp 9 = .ok (.ifCond .lt 9, 3) := by decide +kernel
theorem dX5_lamp_12 : decode cX5_lamp 12 = .ok (.iload_n 2, 1) := by decide +kernel
theorem dX5_lamp_13 : decode cX5_lamp 13 = .ok (.bipush 6, 2) := by decide +kernel
theorem dX5_lamp_15 : decode cX5_lamp 15 = .ok (.if_icmp .lt 5, 3) := by decide +kernel
theorem dX5_lamp_18 : decode cX5_lamp 18 = .ok (.iconst (-1), 1) := by decide +kernel
theorem dX5_lamp_19 : decode cX5_lamp 19 = .ok (.ireturn, 1) := by decide +kernel
theorem dX5_lamp_20 : decode cX5_lamp 20 = .ok (.aload_n 0, 1) := by decide +kernel
theorem dX5_lamp_21 : decode cX5_lamp 21 = .ok (.aload_n 0, 1) := by decide +kernel
theorem dX5_lamp_22 : decode cX5_lamp 22 = .ok (.iload_n 1, 1) := by decide +kernel
theorem dX5_lamp_23 : decode cX5_lamp 23 = .ok (.iload_n 2, 1) := by decide +kernel
theorem dX5_lamp_24 : decode cX5_lamp 24 = .ok (.invokevirtual 150, 3) := by decide +kernel
theorem dX5_lamp_27 : decode cX5_lamp 27 = .ok (.invokevirtual 93, 3) := by decide +kernel
theorem dX5_lamp_30 : decode cX5_lamp 30 = .ok (.ireturn, 1) := by decide +kernel
theorem dX5_mark_0 : decode cX5_mark 0 = .ok (.aload_n 0, 1) := by decide +kernel
theorem dX5_mark_1 : decode cX5_mark 1 = .ok (.iload_n 1, 1) := by decide +kernel
theorem dX5_mark_2 : decode cX5_mark 2 = .ok (.invokevirtual 146, 3) := by decide +kernel
theorem dX5_mark_5 : decode cX5_mark 5 = .ok (.ifCond .eq 13, 3) := by decide +kernel
theorem dX5_mark_8 : decode cX5_mark 8 = .ok (.iload_n 2, 1) := by decide +kernel
theorem dX5_mark_9 : decode cX5_mark 9 = .ok (.ifCond .le 9, 3) := by decide +kernel
theorem dX5_mark_12 : decode cX5_mark 12 = .ok (.iload_n 2, 1) := by decide +kernel
theorem dX5_mark_13 : decode cX5_mark 13 = .ok (.bipush 6, 2) := by decide +kernel
theorem dX5_mark_15 : decode cX5_mark 15 = .ok (.if_icmp .lt 5, 3) := by decide +kernel
theorem dX5_mark_18 : decode cX5_mark 18 = .ok (.iconst (-1), 1) := by decide +kernel
theorem dX5_mark_19 : decode cX5_mark 19 = .ok (.ireturn, 1) := by decide +kernel
theorem dX5_mark_20 : decode cX5_mark 20 = .ok (.aload_n 0, 1) := by decide +kernel
theorem dX5_mark_21 : decode cX5_mark 21 = .ok (.getfield 32, 3) := by decide +kernel
theorem dX5_mark_24 : decode cX5_mark 24 = .ok (.iload_n 1, 1) := by decide +kernel
theorem dX5_mark_25 : decode cX5_mark 25 = .ok (.invokevirtual 154, 3) := by decide +kernel
theorem dX5_mark_28 : decode cX5_mark 28 = .ok (.iload_n 2, 1) := by decide +kernel
theorem dX5_mark_29 : decode cX5_mark 29 = .ok (.invokestatic 157, 3) := by decide +kernel
theorem dX5_mark_32 : decode cX5_mark 32 = .ok (.ifCond .ne 9, 3) := by decide +kernel
theorem dX5_mark_35 : decode cX5_mark 35 = .ok (.aload_n 0, 1) := by decide +kernel
theorem dX5_mark_36 : decode cX5_mark 36 = .ok (.iconst 3, 1) := by decide +kernel
theorem dX5_mark_37 : decode cX5_mark 37 = .ok (.invokevirtual 103, 3) := by decide +kernel
theorem dX5_mark_40 : decode cX5_mark 40 = .ok (.ireturn, 1) := by decide +kernel
theorem dX5_mark_41 : decode cX5_mark 41 = .ok (.aload_n 0, 1) := by decide +kernel
theorem dX5_mark_42 : decode cX5_mark 42 = .ok (.getfield 25, 3) := by decide +kernel
theorem dX5_mark_45 : decode cX5_mark 45 = .ok (.invokevirtual 160, 3) := by decide +kernel
theorem dX5_mark_48 : decode cX5_mark 48 = .ok (.istore_n 3, 1) := by decide +kernel
theorem dX5_mark_49 : decode cX5_mark 49 = .ok (.iload_n 2, 1) := by decide +kernel
theorem dX5_mark_50 : decode cX5_mark 50 = .ok (.tableswitch 78 1 4 #[30, 40, 58, 68], 30) := by decide +kernel
theorem dX5_mark_80 : decode cX5_mark 80 = .ok (.iconst 3, 1) := by decide +kernel
theorem dX5_mark_81 : decode cX5_mark 81 = .ok (.iload_n 3, 1) := by decide +kernel
theorem dX5_mark_82 : decode cX5_mark 82 = .ok (.iload_n 1, 1) := by decide +kernel
theorem dX5_mark_83 : decode cX5_mark 83 = .ok (.invokestatic 162, 3) := by decide +kernel
theorem dX5_mark_86 : decode cX5_mark 86 = .ok (.isub, 1) := by decide +kernel
theorem dX5_mark_87 : decode cX5_mark 87 = .ok (.iconst 3, 1) := by decide +kernel
theorem dX5_mark_88 : decode cX5_mark 88 = .ok (.irem, 1) := by decide +kernel
theorem dX5_mark_89 : decode cX5_mark 89 = .ok (.ireturn, 1) := by decide +kernel
theorem dX5_mark_90 : decode cX5_mark 90 = .ok (.aload_n 0, 1) := by decide +kernel
theorem dX5_mark_91 : decode cX5_mark 91 = .ok (.getfield 32, 3) := by decide +kernel
theorem dX5_mark_94 : decode cX5_mark 94 = .ok (.getfield 167, 3) := by decide +kernel
theorem dX5_mark_97 : decode cX5_mark 97 = .ok (.iload_n 3, 1) := by decide +kernel
theorem dX5_mark_98 : decode cX5_mark 98 = .ok (.invokestatic 170, 3) := by decide +kernel
theorem dX5_mark_101 : decode cX5_mark 101 = .ok (.iconst (-1), 1) := by decide +kernel
theorem dX5_mark_102 : decode cX5_mark 102 = .ok (.ixor, 1) := by decide +kernel
theorem dX5_mark_103 : decode cX5_mark 103 = .ok (.iand, 1) := by decide +kernel
theorem dX5_mark_104 : decode cX5_mark 104 = .ok (.invokestatic 173, 3) := by decide +kernel
theorem dX5_mark_107 : decode cX5_mark 107 = .ok (.ireturn, 1) := by decide +kernel
theorem dX5_mark_108 : decode cX5_mark 108 = .ok (.iload_n 1, 1) := by decide +kernel
theorem dX5_mark_109 : decode cX5_mark 109 = .ok (.invokestatic 178, 3) := by decide +kernel
theorem dX5_mark_112 : decode cX5_mark 112 = .ok (.invokestatic 173, 3) := by decide +kernel
theorem dX5_mark_115 : decode cX5_mark 115 = .ok (.iconst 1, 1) := by decide +kernel
theorem dX5_mark_116 : decode cX5_mark 116 = .ok (.isub, 1) := by decide +kernel
theorem dX5_mark_117 : decode cX5_mark 117 = .ok (.ireturn, 1) := by decide +kernel
theorem dX5_mark_118 : decode cX5_mark 118 = .ok (.aload_n 0, 1) := by decide +kernel
theorem dX5_mark_119 : decode cX5_mark 119 = .ok (.getfield 25, 3) := by decide +kernel
theorem dX5_mark_122 : decode cX5_mark 122 = .ok (.invokevirtual 181, 3) := by decide +kernel
theorem dX5_mark_125 : decode cX5_mark 125 = .ok (.iconst 2, 1) := by decide +kernel
theorem dX5_mark_126 : decode cX5_mark 126 = .ok (.irem, 1) := by decide +kernel
theorem dX5_mark_127 : decode cX5_mark 127 = .ok (.ireturn, 1) := by decide +kernel
theorem dX5_mark_128 : decode cX5_mark 128 = .ok (.aload_n 0, 1) := by decide +kernel
theorem dX5_mark_129 : decode cX5_mark 129 = .ok (.getfield 32, 3) := by decide +kernel
theorem dX5_mark_132 : decode cX5_mark 132 = .ok (.iload_n 3, 1) := by decide +kernel
theorem dX5_mark_133 : decode cX5_mark 133 = .ok (.invokevirtual 184, 3) := by decide +kernel
theorem dX5_mark_136 : decode cX5_mark 136 = .ok (.iconst 1, 1) := by decide +kernel
theorem dX5_mark_137 : decode cX5_mark 137 = .ok (.iload_n 1, 1) := by decide +kernel
theorem dX5_mark_138 : decode cX5_mark 138 = .ok (.ishl, 1) := by decide +kernel
theorem dX5_mark_139 : decode cX5_mark 139 = .ok (.iconst (-1), 1) := by decide +kernel
theorem dX5_mark_140 : decode cX5_mark 140 = .ok (.ixor, 1) := by decide +kernel
theorem dX5_mark_141 : decode cX5_mark 141 = .ok (.iand, 1) := by decide +kernel
theorem dX5_mark_142 : decode cX5_mark 142 = .ok (.invokestatic 173, 3) := by decide +kernel
theorem dX5_mark_145 : decode cX5_mark 145 = .ok (.ireturn, 1) := by decide +kernel
theorem dX5_press_0 : decode cX5_press 0 = .ok (.aload_n 0, 1) := by decide +kernel
theorem dX5_press_1 : decode cX5_press 1 = .ok (.getfield 25, 3) := by decide +kernel
theorem dX5_press_4 : decode cX5_press 4 = .ok (.invokevirtual 187, 3) := by decide +kernel
theorem dX5_press_7 : decode cX5_press 7 = .ok (.ifCond .ne 6, 3) := by decide +kernel
theorem dX5_press_10 : decode cX5_press 10 = .ok (.bipush (-4), 2) := by decide +kernel
theorem dX5_press_12 : decode cX5_press 12 = .ok (.ireturn, 1) := by decide +kernel
theorem dX5_press_13 : decode cX5_press 13 = .ok (.aload_n 0, 1) := by decide +kernel
theorem dX5_press_14 : decode cX5_press 14 = .ok (.iload_n 1, 1) := by decide +kernel
theorem dX5_press_15 : decode cX5_press 15 = .ok (.invokevirtual 146, 3) := by decide +kernel
theorem dX5_press_18 : decode cX5_press 18 = .ok (.ifCond .ne 5, 3) := by decide +kernel
theorem dX5_press_21 : decode cX5_press 21 = .ok (.iconst (-1), 1) := by decide +kernel
theorem dX5_press_22 : decode cX5_press 22 = .ok (.ireturn, 1) := by decide +kernel
theorem dX5_press_23 : decode cX5_press 23 = .ok (.aload_n 0, 1) := by decide +kernel
theorem dX5_press_24 : decode cX5_press 24 = .ok (.getfield 25, 3) := by decide +kernel
theorem dX5_press_27 : decode cX5_press 27 = .ok (.invokevirtual 188, 3) := by decide +kernel
theorem dX5_press_30 : decode cX5_press 30 = .ok (.iconst 1, 1) := by decide +kernel
theorem dX5_press_31 : decode cX5_press 31 = .ok (.if_icmp .ge 6, 3) := by decide +kernel
theorem dX5_press_34 : decode cX5_press 34 = .ok (.bipush (-2), 2) := by decide +kernel
theorem dX5_press_36 : decode cX5_press 36 = .ok (.ireturn, 1) := by decide +kernel
theorem dX5_press_37 : decode cX5_press 37 = .ok (.aload_n 0, 1) := by decide +kernel
theorem dX5_press_38 : decode cX5_press 38 = .ok (.iload_n 1, 1) := by decide +kernel
theorem dX5_press_39 : decode cX5_press 39 = .ok (.invokevirtual 191, 3) := by decide +kernel
theorem dX5_press_42 : decode cX5_press 42 = .ok (.aload_n 0, 1) := by decide +kernel
theorem dX5_press_43 : decode cX5_press 43 = .ok (.getfield 32, 3) := by decide +kernel
theorem dX5_press_46 : decode cX5_press 46 = .ok (.aload_n 0, 1) := by decide +kernel
theorem dX5_press_47 : decode cX5_press 47 = .ok (.getfield 25, 3) := by decide +kernel
theorem dX5_press_50 : decode cX5_press 50 = .ok (.invokevirtual 160, 3) := by decide +kernel
theorem dX5_press_53 : decode cX5_press 53 = .ok (.invokevirtual 184, 3) := by decide +kernel
theorem dX5_press_56 : decode cX5_press 56 = .ok (.ireturn, 1) := by decide +kernel
theorem dX5_set_0 : decode cX5_set 0 = .ok (.aload_n 0, 1) := by decide +kernel
theorem dX5_set_1 : decode cX5_set 1 = .ok (.iload_n 1, 1) := by decide +kernel
theorem dX5_set_2 : decode cX5_set 2 = .ok (.invokevirtual 146, 3) := by decide +kernel
theorem dX5_set_5 : decode cX5_set 5 = .ok (.ifCond .eq 12, 3) := by decide +kernel
theorem dX5_set_8 : decode cX5_set 8 = .ok (.aload_n 0, 1) := by decide +kernel
theorem dX5_set_9 : decode cX5_set 9 = .ok (.iload_n 1, 1) := by decide +kernel
theorem dX5_set_10 : decode cX5_set 10 = .ok (.iload_n 2, 1) := by decide +kernel
theorem dX5_set_11 : decode cX5_set 11 = .ok (.invokevirtual 194, 3) := by decide +kernel
theorem dX5_set_14 : decode cX5_set 14 = .ok (.ifCond .ne 5, 3) := by decide +kernel
theorem dX5_set_17 : decode cX5_set 17 = .ok (.iconst (-1), 1) := by decide +kernel
theorem dX5_set_18 : decode cX5_set 18 = .ok (.ireturn, 1) := by decide +kernel
theorem dX5_set_19 : decode cX5_set 19 = .ok (.aload_n 0, 1) := by decide +kernel
theorem dX5_set_20 : decode cX5_set 20 = .ok (.getfield 25, 3) := by decide +kernel
theorem dX5_set_23 : decode cX5_set 23 = .ok (.invokevirtual 160, 3) := by decide +kernel
theorem dX5_set_26 : decode cX5_set 26 = .ok (.iload_n 1, 1) := by decide +kernel
theorem dX5_set_27 : decode cX5_set 27 = .ok (.invokestatic 162, 3) := by decide +kernel
theorem dX5_set_30 : decode cX5_set 30 = .ok (.istore_n 3, 1) := by decide +kernel
theorem dX5_set_31 : decode cX5_set 31 = .ok (.iload_n 3, 1) := by decide +kernel
theorem dX5_set_32 : decode cX5_set 32 = .ok (.iload_n 2, 1) := by decide +kernel
theorem dX5_set_33 : decode cX5_set 33 = .ok (.if_icmp .ne 6, 3) := by decide +kernel
theorem dX5_set_36 : decode cX5_set 36 = .ok (.bipush (-4), 2) := by decide +kernel
theorem dX5_set_38 : decode cX5_set 38 = .ok (.ireturn, 1) := by decide +kernel
theorem dX5_set_39 : decode cX5_set 39 = .ok (.aload_n 0, 1) := by decide +kernel
theorem dX5_set_40 : decode cX5_set 40 = .ok (.getfield 25, 3) := by decide +kernel
theorem dX5_set_43 : decode cX5_set 43 = .ok (.invokevirtual 188, 3) := by decide +kernel
theorem dX5_set_46 : decode cX5_set 46 = .ok (.iconst 1, 1) := by decide +kernel
theorem dX5_set_47 : decode cX5_set 47 = .ok (.if_icmp .ge 6, 3) := by decide +kernel
theorem dX5_set_50 : decode cX5_set 50 = .ok (.bipush (-2), 2) := by decide +kernel
theorem dX5_set_52 : decode cX5_set 52 = .ok (.ireturn, 1) := by decide +kernel
theorem dX5_set_53 : decode cX5_set 53 = .ok (.aload_n 0, 1) := by decide +kernel
theorem dX5_set_54 : decode cX5_set 54 = .ok (.iload_n 1, 1) := by decide +kernel
theorem dX5_set_55 : decode cX5_set 55 = .ok (.iload_n 2, 1) := by decide +kernel
theorem dX5_set_56 : decode cX5_set 56 = .ok (.invokevirtual 197, 3) := by decide +kernel
theorem dX5_set_59 : decode cX5_set 59 = .ok (.iload_n 3, 1) := by decide +kernel
theorem dX5_set_60 : decode cX5_set 60 = .ok (.ireturn, 1) := by decide +kernel
theorem dX5_crack_0 : decode cX5_crack 0 = .ok (.aload_n 0, 1) := by decide +kernel
theorem dX5_crack_1 : decode cX5_crack 1 = .ok (.iload_n 1, 1) := by decide +kernel
theorem dX5_crack_2 : decode cX5_crack 2 = .ok (.invokevirtual 146, 3) := by decide +kernel
theorem dX5_crack_5 : decode cX5_crack 5 = .ok (.ifCond .ne 5, 3) := by decide +kernel
theorem dX5_crack_8 : decode cX5_crack 8 = .ok (.iconst (-1), 1) := by decide +kernel
theorem dX5_crack_9 : decode cX5_crack 9 = .ok (.ireturn, 1) := by decide +kernel
theorem dX5_crack_10 : decode cX5_crack 10 = .ok (.aload_n 0, 1) := by decide +kernel
theorem dX5_crack_11 : decode cX5_crack 11 = .ok (.getfield 25, 3) := by decide +kernel
theorem dX5_crack_14 : decode cX5_crack 14 = .ok (.invokevirtual 188, 3) := by decide +kernel
theorem dX5_crack_17 : decode cX5_crack 17 = .ok (.iconst 1, 1) := by decide +kernel
theorem dX5_crack_18 : decode cX5_crack 18 = .ok (.if_icmp .ge 6, 3) := by decide +kernel
theorem dX5_crack_21 : decode cX5_crack 21 = .ok (.bipush (-2), 2) := by decide +kernel
theorem dX5_crack_23 : decode cX5_crack 23 = .ok (.ireturn, 1) := by decide +kernel
theorem dX5_crack_24 : decode cX5_crack 24 = .ok (.aload_n 0, 1) := by decide +kernel
theorem dX5_crack_25 : decode cX5_crack 25 = .ok (.iload_n 1, 1) := by decide +kernel
theorem dX5_crack_26 : decode cX5_crack 26 = .ok (.invokevirtual 200, 3) := by decide +kernel
theorem dX5_crack_29 : decode cX5_crack 29 = .ok (.aload_n 0, 1) := by decide +kernel
theorem dX5_crack_30 : decode cX5_crack 30 = .ok (.getfield 25, 3) := by decide +kernel
theorem dX5_crack_33 : decode cX5_crack 33 = .ok (.invokevirtual 160, 3) := by decide +kernel
theorem dX5_crack_36 : decode cX5_crack 36 = .ok (.invokestatic 203, 3) := by decide +kernel
theorem dX5_crack_39 : decode cX5_crack 39 = .ok (.iload_n 1, 1) := by decide +kernel
theorem dX5_crack_40 : decode cX5_crack 40 = .ok (.ishr, 1) := by decide +kernel
theorem dX5_crack_41 : decode cX5_crack 41 = .ok (.iconst 1, 1) := by decide +kernel
theorem dX5_crack_42 : decode cX5_crack 42 = .ok (.iand, 1) := by decide +kernel
theorem dX5_crack_43 : decode cX5_crack 43 = .ok (.ireturn, 1) := by decide +kernel
theorem dX5_undo_0 : decode cX5_undo 0 = .ok (.aload_n 0, 1) := by decide +kernel
theorem dX5_undo_1 : decode cX5_undo 1 = .ok (.getfield 25, 3) := by decide +kernel
theorem dX5_undo_4 : decode cX5_undo 4 = .ok (.invokevirtual 206, 3) := by decide +kernel
theorem dX5_undo_7 : decode cX5_undo 7 = .ok (.iload_n 1, 1) := by decide +kernel
theorem dX5_undo_8 : decode cX5_undo 8 = .ok (.isub, 1) := by decide +kernel
theorem dX5_undo_9 : decode cX5_undo 9 = .ok (.istore_n 2, 1) := by decide +kernel
theorem dX5_undo_10 : decode cX5_undo 10 = .ok (.iload_n 1, 1) := by decide +kernel
theorem dX5_undo_11 : decode cX5_undo 11 = .ok (.ifCond .lt 7, 3) := by decide +kernel
theorem dX5_undo_14 : decode cX5_undo 14 = .ok (.iload_n 2, 1) := by decide +kernel
theorem dX5_undo_15 : decode cX5_undo 15 = .ok (.ifCond .ge 5, 3) := by decide +kernel
theorem dX5_undo_18 : decode cX5_undo 18 = .ok (.iconst (-1), 1) := by decide +kernel
theorem dX5_undo_19 : decode cX5_undo 19 = .ok (.ireturn, 1) := by decide +kernel
theorem dX5_undo_20 : decode cX5_undo 20 = .ok (.aload_n 0, 1) := by decide +kernel
theorem dX5_undo_21 : decode cX5_undo 21 = .ok (.getfield 25, 3) := by decide +kernel
theorem dX5_undo_24 : decode cX5_undo 24 = .ok (.iload_n 1, 1) := by decide +kernel
theorem dX5_undo_25 : decode cX5_undo 25 = .ok (.invokevirtual 209, 3) := by decide +kernel
theorem dX5_undo_28 : decode cX5_undo 28 = .ok (.iload_n 2, 1) := by decide +kernel
theorem dX5_undo_29 : decode cX5_undo 29 = .ok (.ireturn, 1) := by decide +kernel
theorem dX5_keep_0 : decode cX5_keep 0 = .ok (.aload_n 0, 1) := by decide +kernel
theorem dX5_keep_1 : decode cX5_keep 1 = .ok (.iload_n 1, 1) := by decide +kernel
theorem dX5_keep_2 : decode cX5_keep 2 = .ok (.invokevirtual 212, 3) := by decide +kernel
theorem dX5_keep_5 : decode cX5_keep 5 = .ok (.astore_n 2, 1) := by decide +kernel
theorem dX5_keep_6 : decode cX5_keep 6 = .ok (.aload_n 2, 1) := by decide +kernel
theorem dX5_keep_7 : decode cX5_keep 7 = .ok (.ifnonnull 5, 3) := by decide +kernel
theorem dX5_keep_10 : decode cX5_keep 10 = .ok (.iconst (-1), 1) := by decide +kernel
theorem dX5_keep_11 : decode cX5_keep 11 = .ok (.ireturn, 1) := by decide +kernel
theorem dX5_keep_12 : decode cX5_keep 12 = .ok (.aload_n 0, 1) := by decide +kernel
theorem dX5_keep_13 : decode cX5_keep 13 = .ok (.getfield 25, 3) := by decide +kernel
theorem dX5_keep_16 : decode cX5_keep 16 = .ok (.invokevirtual 187, 3) := by decide +kernel
theorem dX5_keep_19 : decode cX5_keep 19 = .ok (.ifCond .ne 6, 3) := by decide +kernel
theorem dX5_keep_22 : decode cX5_keep 22 = .ok (.bipush (-4), 2) := by decide +kernel
theorem dX5_keep_24 : decode cX5_keep 24 = .ok (.ireturn, 1) := by decide +kernel
theorem dX5_keep_25 : decode cX5_keep 25 = .ok (.aload_n 2, 1) := by decide +kernel
theorem dX5_keep_26 : decode cX5_keep 26 = .ok (.aload_n 0, 1) := by decide +kernel
theorem dX5_keep_27 : decode cX5_keep 27 = .ok (.getfield 25, 3) := by decide +kernel
theorem dX5_keep_30 : decode cX5_keep 30 = .ok (.invokevirtual 216, 3) := by decide +kernel
theorem dX5_keep_33 : decode cX5_keep 33 = .ok (.aload_n 0, 1) := by decide +kernel
theorem dX5_keep_34 : decode cX5_keep 34 = .ok (.getfield 25, 3) := by decide +kernel
theorem dX5_keep_37 : decode cX5_keep 37 = .ok (.invokevirtual 206, 3) := by decide +kernel
theorem dX5_keep_40 : decode cX5_keep 40 = .ok (.ireturn, 1) := by decide +kernel
theorem dX5_on_0 : decode cX5_on 0 = .ok (.aload_n 0, 1) := by decide +kernel
theorem dX5_on_1 : decode cX5_on 1 = .ok (.iload_n 1, 1) := by decide +kernel
theorem dX5_on_2 : decode cX5_on 2 = .ok (.invokevirtual 212, 3) := by decide +kernel
theorem dX5_on_5 : decode cX5_on 5 = .ok (.astore_n 2, 1) := by decide +kernel
theorem dX5_on_6 : decode cX5_on 6 = .ok (.aload_n 2, 1) := by decide +kernel
theorem dX5_on_7 : decode cX5_on 7 = .ok (.ifnonnull 5, 3) := by decide +kernel
theorem dX5_on_10 : decode cX5_on 10 = .ok (.iconst (-1), 1) := by decide +kernel
theorem dX5_on_11 : decode cX5_on 11 = .ok (.ireturn, 1) := by decide +kernel
theorem dX5_on_12 : decode cX5_on 12 = .ok (.aload_n 2, 1) := by decide +kernel
theorem dX5_on_13 : decode cX5_on 13 = .ok (.invokevirtual 187, 3) := by decide +kernel
theorem dX5_on_16 : decode cX5_on 16 = .ok (.ifCond .ne 9, 3) := by decide +kernel
theorem dX5_on_19 : decode cX5_on 19 = .ok (.aload_n 0, 1) := by decide +kernel
theorem dX5_on_20 : decode cX5_on 20 = .ok (.iconst 1, 1) := by decide +kernel
theorem dX5_on_21 : decode cX5_on 21 = .ok (.invokevirtual 103, 3) := by decide +kernel
theorem dX5_on_24 : decode cX5_on 24 = .ok (.ireturn, 1) := by decide +kernel
theorem dX5_on_25 : decode cX5_on 25 = .ok (.aload_n 0, 1) := by decide +kernel
theorem dX5_on_26 : decode cX5_on 26 = .ok (.getfield 25, 3) := by decide +kernel
theorem dX5_on_29 : decode cX5_on 29 = .ok (.aload_n 2, 1) := by decide +kernel
theorem dX5_on_30 : decode cX5_on 30 = .ok (.invokevirtual 216, 3) := by decide +kernel
theorem dX5_on_33 : decode cX5_on 33 = .ok (.aload_n 0, 1) := by decide +kernel
theorem dX5_on_34 : decode cX5_on 34 = .ok (.getfield 25, 3) := by decide +kernel
theorem dX5_on_37 : decode cX5_on 37 = .ok (.invokevirtual 206, 3) := by decide +kernel
theorem dX5_on_40 : decode cX5_on 40 = .ok (.ireturn, 1) := by decide +kernel
theorem dX5_touched_0 : decode cX5_touched 0 = .ok (.aload_n 0, 1) := by decide +kernel
theorem dX5_touched_1 : decode cX5_touched 1 = .ok (.iload_n 1, 1) := by decide +kernel
theorem dX5_touched_2 : decode cX5_touched 2 = .ok (.invokevirtual 146, 3) := by decide +kernel
theorem dX5_touched_5 : decode cX5_touched 5 = .ok (.ifCond .eq 12, 3) := by decide +kernel
theorem dX5_touched_8 : decode cX5_touched 8 = .ok (.aload_n 0, 1) := by decide +kernel
theorem dX5_touched_9 : decode cX5_touched 9 = .ok (.iload_n 1, 1) := by decide +kernel
theorem dX5_touched_10 : decode cX5_touched 10 = .ok (.iload_n 2, 1) := by decide +kernel
theorem dX5_touched_11 : decode cX5_touched 11 = .ok (.invokevirtual 194, 3) := by decide +kernel
theorem dX5_touched_14 : decode cX5_touched 14 = .ok (.ifCond .ne 5, 3) := by decide +kernel
theorem dX5_touched_17 : decode cX5_touched 17 = .ok (.iconst (-1), 1) := by decide +kernel
theorem dX5_touched_18 : decode cX5_touched 18 = .ok (.ireturn, 1) := by decide +kernel
theorem dX5_touched_19 : decode cX5_touched 19 = .ok (.iload_n 3, 1) := by decide +kernel
theorem dX5_touched_20 : decode cX5_touched 20 = .ok (.ifCond .lt 21, 3) := by decide +kernel
theorem dX5_touched_23 : decode cX5_touched 23 = .ok (.iload_n 3, 1) := by decide +kernel
theorem dX5_touched_24 : decode cX5_touched 24 = .ok (.iconst 1, 1) := by decide +kernel
theorem dX5_touched_25 : decode cX5_touched 25 = .ok (.if_icmp .gt 16, 3) := by decide +kernel
theorem dX5_touched_28 : decode cX5_touched 28 = .ok (.iload 4, 2) := by decide +kernel
theorem dX5_touched_30 : decode cX5_touched 30 = .ok (.ifCond .lt 11, 3) := by decide +kernel
theorem dX5_touched_33 : decode cX5_touched 33 = .ok (.iload 4, 2) := by decide +kernel
theorem dX5_touched_35 : decode cX5_touched 35 = .ok (.sipush 999, 3) := by decide +kernel
theorem dX5_touched_38 : decode cX5_touched 38 = .ok (.if_icmp .le 5, 3) := by decide +kernel
theorem dX5_touched_41 : decode cX5_touched 41 = .ok (.iconst (-1), 1) := by decide +kernel
theorem dX5_touched_42 : decode cX5_touched 42 = .ok (.ireturn, 1) := by decide +kernel
theorem dX5_touched_43 : decode cX5_touched 43 = .ok (.aload_n 0, 1) := by decide +kernel
theorem dX5_touched_44 : decode cX5_touched 44 = .ok (.getfield 25, 3) := by decide +kernel
theorem dX5_touched_47 : decode cX5_touched 47 = .ok (.invokevirtual 160, 3) := by decide +kernel
theorem dX5_touched_50 : decode cX5_touched 50 = .ok (.iload_n 1, 1) := by decide +kernel
theorem dX5_touched_51 : decode cX5_touched 51 = .ok (.iload_n 2, 1) := by decide +kernel
theorem dX5_touched_52 : decode cX5_touched 52 = .ok (.invokestatic 219, 3) := by decide +kernel
theorem dX5_touched_55 : decode cX5_touched 55 = .ok (.istore 5, 2) := by decide +kernel
theorem dX5_touched_57 : decode cX5_touched 57 = .ok (.aload_n 0, 1) := by decide +kernel
theorem dX5_touched_58 : decode cX5_touched 58 = .ok (.getfield 32, 3) := by decide +kernel
theorem dX5_touched_61 : decode cX5_touched 61 = .ok (.iload 5, 2) := by decide +kernel
theorem dX5_touched_63 : decode cX5_touched 63 = .ok (.iconst 1, 1) := by decide +kernel
theorem dX5_touched_64 : decode cX5_touched 64 = .ok (.iload_n 1, 1) := by decide +kernel
theorem dX5_touched_65 : decode cX5_touched 65 = .ok (.ishl, 1) := by decide +kernel
theorem dX5_touched_66 : decode cX5_touched 66 = .ok (.iload_n 3, 1) := by decide +kernel
theorem dX5_touched_67 : decode cX5_touched 67 = .ok (.iload_n 1, 1) := by decide +kernel
theorem dX5_touched_68 : decode cX5_touched 68 = .ok (.ishl, 1) := by decide +kernel
theorem dX5_touched_69 : decode cX5_touched 69 = .ok (.iload 4, 2) := by decide +kernel
theorem dX5_touched_71 : decode cX5_touched 71 = .ok (.invokevirtual 223, 3) := by decide +kernel
theorem dX5_touched_74 : decode cX5_touched 74 = .ok (.iload_n 1, 1) := by decide +kernel
theorem dX5_touched_75 : decode cX5_touched 75 = .ok (.invokestatic 162, 3) := by decide +kernel
theorem dX5_touched_78 : decode cX5_touched 78 = .ok (.ireturn, 1) := by decide +kernel
theorem dX5_shows_0 : decode cX5_shows 0 = .ok (.aload_n 0, 1) := by decide +kernel
theorem dX5_shows_1 : decode cX5_shows 1 = .ok (.getfield 25, 3) := by decide +kernel
theorem dX5_shows_4 : decode cX5_shows 4 = .ok (.invokevirtual 187, 3) := by decide +kernel
theorem dX5_shows_7 : decode cX5_shows 7 = .ok (.ifCond .ne 6, 3) := by decide +kernel
theorem dX5_shows_10 : decode cX5_shows 10 = .ok (.bipush (-4), 2) := by decide +kernel
theorem dX5_shows_12 : decode cX5_shows 12 = .ok (.ireturn, 1) := by decide +kernel
theorem dX5_shows_13 : decode cX5_shows 13 = .ok (.aload_n 0, 1) := by decide +kernel
theorem dX5_shows_14 : decode cX5_shows 14 = .ok (.iload_n 1, 1) := by decide +kernel
theorem dX5_shows_15 : decode cX5_shows 15 = .ok (.invokevirtual 73, 3) := by decide +kernel
theorem dX5_shows_18 : decode cX5_shows 18 = .ok (.astore_n 2, 1) := by decide +kernel
theorem dX5_shows_19 : decode cX5_shows 19 = .ok (.aload_n 0, 1) := by decide +kernel
theorem dX5_shows_20 : decode cX5_shows 20 = .ok (.aload_n 2, 1) := by decide +kernel
theorem dX5_shows_21 : decode cX5_shows 21 = .ok (.invokevirtual 96, 3) := by decide +kernel
theorem dX5_shows_24 : decode cX5_shows 24 = .ok (.istore_n 3, 1) := by decide +kernel
theorem dX5_shows_25 : decode cX5_shows 25 = .ok (.aload_n 2, 1) := by decide +kernel
theorem dX5_shows_26 : decode cX5_shows 26 = .ok (.ifnull 7, 3) := by decide +kernel
theorem dX5_shows_29 : decode cX5_shows 29 = .ok (.iload_n 3, 1) := by decide +kernel
theorem dX5_shows_30 : decode cX5_shows 30 = .ok (.ifCond .eq 5, 3) := by decide +kernel
theorem dX5_shows_33 : decode cX5_shows 33 = .ok (.iload_n 3, 1) := by decide +kernel
theorem dX5_shows_34 : decode cX5_shows 34 = .ok (.ireturn, 1) := by decide +kernel
theorem dX5_shows_35 : decode cX5_shows 35 = .ok (.aload_n 2, 1) := by decide +kernel
theorem dX5_shows_36 : decode cX5_shows 36 = .ok (.invokevirtual 118, 3) := by decide +kernel
theorem dX5_shows_39 : decode cX5_shows 39 = .ok (.bipush 20, 2) := by decide +kernel
theorem dX5_shows_41 : decode cX5_shows 41 = .ok (.if_icmp .le 9, 3) := by decide +kernel
theorem dX5_shows_44 : decode cX5_shows 44 = .ok (.aload_n 0, 1) := by decide +kernel
theorem dX5_shows_45 : decode cX5_shows 45 = .ok (.iconst 5, 1) := by decide +kernel
theorem dX5_shows_46 : decode cX5_shows 46 = .ok (.invokevirtual 103, 3) := by decide +kernel
theorem dX5_shows_49 : decode cX5_shows 49 = .ok (.ireturn, 1) := by decide +kernel
theorem dX5_shows_50 : decode cX5_shows 50 = .ok (.aload_n 0, 1) := by decide +kernel
theorem dX5_shows_51 : decode cX5_shows 51 = .ok (.getfield 25, 3) := by decide +kernel
theorem dX5_shows_54 : decode cX5_shows 54 = .ok (.invokevirtual 160, 3) := by decide +kernel
theorem dX5_shows_57 : decode cX5_shows 57 = .ok (.istore 4, 2) := by decide +kernel
theorem dX5_shows_59 : decode cX5_shows 59 = .ok (.iconst 0, 1) := by decide +kernel
theorem dX5_shows_60 : decode cX5_shows 60 = .ok (.istore 5, 2) := by decide +kernel
theorem dX5_shows_62 : decode cX5_shows 62 = .ok (.iload 5, 2) := by decide +kernel
theorem dX5_shows_64 : decode cX5_shows 64 = .ok (.aload_n 2, 1) := by decide +kernel
theorem dX5_shows_65 : decode cX5_shows 65 = .ok (.invokevirtual 118, 3) := by decide +kernel
theorem dX5_shows_68 : decode cX5_shows 68 = .ok (.if_icmp .ge 55, 3) := by decide +kernel
theorem dX5_shows_71 : decode cX5_shows 71 = .ok (.aload_n 0, 1) := by decide +kernel
theorem dX5_shows_72 : decode cX5_shows 72 = .ok (.aload_n 2, 1) := by decide +kernel
theorem dX5_shows_73 : decode cX5_shows 73 = .ok (.iload 5, 2) := by decide +kernel
theorem dX5_shows_75 : decode cX5_shows 75 = .ok (.invokevirtual 85, 3) := by decide +kernel
theorem dX5_shows_78 : decode cX5_shows 78 = .ok (.invokevirtual 146, 3) := by decide +kernel
theorem dX5_shows_81 : decode cX5_shows 81 = .ok (.ifCond .ne 9, 3) := by decide +kernel
theorem dX5_shows_84 : decode cX5_shows 84 = .ok (.aload_n 0, 1) := by decide +kernel
theorem dX5_shows_85 : decode cX5_shows 85 = .ok (.iconst 3, 1) := by decide +kernel
theorem dX5_shows_86 : decode cX5_shows 86 = .ok (.invokevirtual 103, 3) := by decide +kernel
theorem dX5_shows_89 : decode cX5_shows 89 = .ok (.ireturn, 1) := by decide +kernel
theorem dX5_shows_90 : decode cX5_shows 90 = .ok (.aload_n 0, 1) := by decide +kernel
theorem dX5_shows_91 : decode cX5_shows 91 = .ok (.getfield 32, 3) := by decide +kernel
theorem dX5_shows_94 : decode cX5_shows 94 = .ok (.iload 4, 2) := by decide +kernel
theorem dX5_shows_96 : decode cX5_shows 96 = .ok (.aload_n 2, 1) := by decide +kernel
theorem dX5_shows_97 : decode cX5_shows 97 = .ok (.iload 5, 2) := by decide +kernel
theorem dX5_shows_99 : decode cX5_shows 99 = .ok (.invokevirtual 85, 3) := by decide +kernel
theorem dX5_shows_102 : decode cX5_shows 102 = .ok (.aload_n 0, 1) := by decide +kernel
theorem dX5_shows_103 : decode cX5_shows 103 = .ok (.getfield 25, 3) := by decide +kernel
theorem dX5_shows_106 : decode cX5_shows 106 = .ok (.invokevirtual 181, 3) := by decide +kernel
theorem dX5_shows_109 : decode cX5_shows 109 = .ok (.iload 5, 2) := by decide +kernel
theorem dX5_shows_111 : decode cX5_shows 111 = .ok (.iadd, 1) := by decide +kernel
theorem dX5_shows_112 : decode cX5_shows 112 = .ok (.invokevirtual 227, 3) := by decide +kernel
theorem dX5_shows_115 : decode cX5_shows 115 = .ok (.istore 4, 2) := by decide +kernel
theorem dX5_shows_117 : decode cX5_shows 117 = .ok (.iinc 5 1, 3) := by decide +kernel
theorem dX5_shows_120 : decode cX5_shows 120 = .ok (.goto (-58), 3) := by decide +kernel
theorem dX5_shows_123 : decode cX5_shows 123 = .ok (.aload_n 0, 1) := by decide +kernel
theorem dX5_shows_124 : decode cX5_shows 124 = .ok (.getfield 32, 3) := by decide +kernel
theorem dX5_shows_127 : decode cX5_shows 127 = .ok (.iload 4, 2) := by decide +kernel
theorem dX5_shows_129 : decode cX5_shows 129 = .ok (.invokevirtual 184, 3) := by decide +kernel
theorem dX5_shows_132 : decode cX5_shows 132 = .ok (.ireturn, 1) := by decide +kernel
theorem dX5_most_0 : decode cX5_most 0 = .ok (.aload_n 0, 1) := by decide +kernel
theorem dX5_most_1 : decode cX5_most 1 = .ok (.getfield 25, 3) := by decide +kernel
theorem dX5_most_4 : decode cX5_most 4 = .ok (.invokevirtual 187, 3) := by decide +kernel
theorem dX5_most_7 : decode cX5_most 7 = .ok (.ifCond .ne 6, 3) := by decide +kernel
theorem dX5_most_10 : decode cX5_most 10 = .ok (.bipush (-4), 2) := by decide +kernel
theorem dX5_most_12 : decode cX5_most 12 = .ok (.ireturn, 1) := by decide +kernel
theorem dX5_most_13 : decode cX5_most 13 = .ok (.iconst 0, 1) := by decide +kernel
theorem dX5_most_14 : decode cX5_most 14 = .ok (.istore_n 1, 1) := by decide +kernel
theorem dX5_most_15 : decode cX5_most 15 = .ok (.iconst (-1), 1) := by decide +kernel
theorem dX5_most_16 : decode cX5_most 16 = .ok (.istore_n 2, 1) := by decide +kernel
theorem dX5_most_17 : decode cX5_most 17 = .ok (.iconst 0, 1) := by decide +kernel
theorem dX5_most_18 : decode cX5_most 18 = .ok (.istore_n 3, 1) := by decide +kernel
theorem dX5_most_19 : decode cX5_most 19 = .ok (.iload_n 3, 1) := by decide +kernel
theorem dX5_most_20 : decode cX5_most 20 = .ok (.bipush 9, 2) := by decide +kernel
theorem dX5_most_22 : decode cX5_most 22 = .ok (.if_icmp .ge 30, 3) := by decide +kernel
theorem dX5_most_25 : decode cX5_most 25 = .ok (.aload_n 0, 1) := by decide +kernel
theorem dX5_most_26 : decode cX5_most 26 = .ok (.iload_n 3, 1) := by decide +kernel
theorem dX5_most_27 : decode cX5_most 27 = .ok (.invokevirtual 230, 3) := by decide +kernel
theorem dX5_most_30 : decode cX5_most 30 = .ok (.invokestatic 173, 3) := by decide +kernel
theorem dX5_most_33 : decode cX5_most 33 = .ok (.istore 4, 2) := by decide +kernel
theorem dX5_most_35 : decode cX5_most 35 = .ok (.iload 4, 2) := by decide +kernel
theorem dX5_most_37 : decode cX5_most 37 = .ok (.iload_n 2, 1) := by decide +kernel
theorem dX5_most_38 : decode cX5_most 38 = .ok (.if_icmp .le 8, 3) := by decide +kernel
theorem dX5_most_41 : decode cX5_most 41 = .ok (.iload_n 3, 1) := by decide +kernel
theorem dX5_most_42 : decode cX5_most 42 = .ok (.istore_n 1, 1) := by decide +kernel
theorem dX5_most_43 : decode cX5_most 43 = .ok (.iload 4, 2) := by decide +kernel
theorem dX5_most_45 : decode cX5_most 45 = .ok (.istore_n 2, 1) := by decide +kernel
theorem dX5_most_46 : decode cX5_most 46 = .ok (.iinc 3 1, 3) := by decide +kernel
theorem dX5_most_49 : decode cX5_most 49 = .ok (.goto (-30), 3) := by decide +kernel
theorem dX5_most_52 : decode cX5_most 52 = .ok (.aload_n 0, 1) := by decide +kernel
theorem dX5_most_53 : decode cX5_most 53 = .ok (.iload_n 2, 1) := by decide +kernel
theorem dX5_most_54 : decode cX5_most 54 = .ok (.putfield 60, 3) := by decide +kernel
theorem dX5_most_57 : decode cX5_most 57 = .ok (.iload_n 1, 1) := by decide +kernel
theorem dX5_most_58 : decode cX5_most 58 = .ok (.ireturn, 1) := by decide +kernel
theorem dX5_fewest_0 : decode cX5_fewest 0 = .ok (.aload_n 0, 1) := by decide +kernel
theorem dX5_fewest_1 : decode cX5_fewest 1 = .ok (.iload_n 1, 1) := by decide +kernel
theorem dX5_fewest_2 : decode cX5_fewest 2 = .ok (.invokevirtual 233, 3) := by decide +kernel
theorem dX5_fewest_5 : decode cX5_fewest 5 = .ok (.istore_n 3, 1) := by decide +kernel
theorem dX5_fewest_6 : decode cX5_fewest 6 = .ok (.iload_n 3, 1) := by decide +kernel
theorem dX5_fewest_7 : decode cX5_fewest 7 = .ok (.ifCond .eq 5, 3) := by decide +kernel
theorem dX5_fewest_10 : decode cX5_fewest 10 = .ok (.iload_n 3, 1) := by decide +kernel
theorem dX5_fewest_11 : decode cX5_fewest 11 = .ok (.ireturn, 1) := by decide +kernel
theorem dX5_fewest_12 : decode cX5_fewest 12 = .ok (.aload_n 0, 1) := by decide +kernel
theorem dX5_fewest_13 : decode cX5_fewest 13 = .ok (.iload_n 2, 1) := by decide +kernel
theorem dX5_fewest_14 : decode cX5_fewest 14 = .ok (.invokevirtual 73, 3) := by decide +kernel
theorem dX5_fewest_17 : decode cX5_fewest 17 = .ok (.astore 4, 2) := by decide +kernel
theorem dX5_fewest_19 : decode cX5_fewest 19 = .ok (.aload 4, 2) := by decide +kernel
theorem dX5_fewest_21 : decode cX5_fewest 21 = .ok (.ifnonnull 5, 3) := by decide +kernel
theorem dX5_fewest_24 : decode cX5_fewest 24 = .ok (.iconst (-1), 1) := by decide +kernel
theorem dX5_fewest_25 : decode cX5_fewest 25 = .ok (.ireturn, 1) := by decide +kernel
theorem dX5_fewest_26 : decode cX5_fewest 26 = .ok (.iconst 0, 1) := by decide +kernel
theorem dX5_fewest_27 : decode cX5_fewest 27 = .ok (.istore 5, 2) := by decide +kernel
theorem dX5_fewest_29 : decode cX5_fewest 29 = .ok (.iload 5, 2) := by decide +kernel
theorem dX5_fewest_31 : decode cX5_fewest 31 = .ok (.iconst 4, 1) := by decide +kernel
theorem dX5_fewest_32 : decode cX5_fewest 32 = .ok (.if_icmp .gt 92, 3) := by decide +kernel
theorem dX5_fewest_35 : decode cX5_fewest 35 = .ok (.aload_n 0, 1) := by decide +kernel
theorem dX5_fewest_36 : decode cX5_fewest 36 = .ok (.getfield 32, 3) := by decide +kernel
theorem dX5_fewest_39 : decode cX5_fewest 39 = .ok (.aload_n 0, 1) := by decide +kernel
theorem dX5_fewest_40 : decode cX5_fewest 40 = .ok (.getfield 25, 3) := by decide +kernel
theorem dX5_fewest_43 : decode cX5_fewest 43 = .ok (.invokevirtual 160, 3) := by decide +kernel
theorem dX5_fewest_46 : decode cX5_fewest 46 = .ok (.aload_n 0, 1) := by decide +kernel
theorem dX5_fewest_47 : decode cX5_fewest 47 = .ok (.getfield 25, 3) := by decide +kernel
theorem dX5_fewest_50 : decode cX5_fewest 50 = .ok (.invokevirtual 181, 3) := by decide +kernel
theorem dX5_fewest_53 : decode cX5_fewest 53 = .ok (.aload_n 0, 1) := by decide +kernel
theorem dX5_fewest_54 : decode cX5_fewest 54 = .ok (.getfield 50, 3) := by decide +kernel
theorem dX5_fewest_57 : decode cX5_fewest 57 = .ok (.iconst 0, 1) := by decide +kernel
theorem dX5_fewest_58 : decode cX5_fewest 58 = .ok (.iload 5, 2) := by decide +kernel
theorem dX5_fewest_60 : decode cX5_fewest 60 = .ok (.iload_n 1, 1) := by decide +kernel
theorem dX5_fewest_61 : decode cX5_fewest 61 = .ok (.invokestatic 236, 3) := by decide +kernel
theorem dX5_fewest_64 : decode cX5_fewest 64 = .ok (.ifCond .eq 54, 3) := by decide +kernel
theorem dX5_fewest_67 : decode cX5_fewest 67 = .ok (.aload 4, 2) := by decide +kernel
theorem dX5_fewest_69 : decode cX5_fewest 69 = .ok (.iload 5, 2) := by decide +kernel
theorem dX5_fewest_71 : decode cX5_fewest 71 = .ok (.iconst 0, 1) := by decide +kernel
theorem dX5_fewest_72 : decode cX5_fewest 72 = .ok (.invokevirtual 240, 3) := by decide +kernel
theorem dX5_fewest_75 : decode cX5_fewest 75 = .ok (.iconst 0, 1) := by decide +kernel
theorem dX5_fewest_76 : decode cX5_fewest 76 = .ok (.istore 6, 2) := by decide +kernel
theorem dX5_fewest_78 : decode cX5_fewest 78 = .ok (.iload 6, 2) := by decide +kernel
theorem dX5_fewest_80 : decode cX5_fewest 80 = .ok (.iload 5, 2) := by decide +kernel
theorem dX5_fewest_82 : decode cX5_fewest 82 = .ok (.if_icmp .ge 33, 3) := by decide +kernel
theorem dX5_fewest_85 : decode cX5_fewest 85 = .ok (.iload 6, 2) := by decide +kernel
theorem dX5_fewest_87 : decode cX5_fewest 87 = .ok (.aload_n 0, 1) := by decide +kernel
theorem dX5_fewest_88 : decode cX5_fewest 88 = .ok (.getfield 50, 3) := by decide +kernel
theorem dX5_fewest_91 : decode cX5_fewest 91 = .ok (.arraylength, 1) := by decide +kernel
theorem dX5_fewest_92 : decode cX5_fewest 92 = .ok (.if_icmp .ge 23, 3) := by decide +kernel
theorem dX5_fewest_95 : decode cX5_fewest 95 = .ok (.aload 4, 2) := by decide +kernel
theorem dX5_fewest_97 : decode cX5_fewest 97 = .ok (.iload 6, 2) := by decide +kernel
theorem dX5_fewest_99 : decode cX5_fewest 99 = .ok (.aload_n 0, 1) := by decide +kernel
theorem dX5_fewest_100 : decode cX5_fewest 100 = .ok (.getfield 50, 3) := by decide +kernel
theorem dX5_fewest_103 : decode cX5_fewest 103 = .ok (.iload 6, 2) := by decide +kernel
theorem dX5_fewest_105 : decode cX5_fewest 105 = .ok (.iaload, 1) := by decide +kernel
theorem dX5_fewest_106 : decode cX5_fewest 106 = .ok (.invokevirtual 89, 3) := by decide +kernel
theorem dX5_fewest_109 : decode cX5_fewest 109 = .ok (.iinc 6 1, 3) := by decide +kernel
theorem dX5_fewest_112 : decode cX5_fewest 112 = .ok (.goto (-34), 3) := by decide +kernel
theorem dX5_fewest_115 : decode cX5_fewest 115 = .ok (.iload 5, 2) := by decide +kernel
theorem dX5_fewest_117 : decode cX5_fewest 117 = .ok (.ireturn, 1) := by decide +kernel
theorem dX5_fewest_118 : decode cX5_fewest 118 = .ok (.iinc 5 1, 3) := by decide +kernel
theorem dX5_fewest_121 : decode cX5_fewest 121 = .ok (.goto (-92), 3) := by decide +kernel
theorem dX5_fewest_124 : decode cX5_fewest 124 = .ok (.bipush (-9), 2) := by decide +kernel
theorem dX5_fewest_126 : decode cX5_fewest 126 = .ok (.ireturn, 1) := by decide +kernel
theorem dX5_ways_0 : decode cX5_ways 0 = .ok (.aload_n 0, 1) := by decide +kernel
theorem dX5_ways_1 : decode cX5_ways 1 = .ok (.iload_n 1, 1) := by decide +kernel
theorem dX5_ways_2 : decode cX5_ways 2 = .ok (.invokevirtual 233, 3) := by decide +kernel
theorem dX5_ways_5 : decode cX5_ways 5 = .ok (.istore_n 2, 1) := by decide +kernel
theorem dX5_ways_6 : decode cX5_ways 6 = .ok (.iload_n 2, 1) := by decide +kernel
theorem dX5_ways_7 : decode cX5_ways 7 = .ok (.ifCond .eq 5, 3) := by decide +kernel
theorem dX5_ways_10 : decode cX5_ways 10 = .ok (.iload_n 2, 1) := by decide +kernel
theorem dX5_ways_11 : decode cX5_ways 11 = .ok (.ireturn, 1) := by decide +kernel
theorem dX5_ways_12 : decode cX5_ways 12 = .ok (.aload_n 0, 1) := by decide +kernel
theorem dX5_ways_13 : decode cX5_ways 13 = .ok (.invokevirtual 243, 3) := by decide +kernel
theorem dX5_ways_16 : decode cX5_ways 16 = .ok (.iconst 0, 1) := by decide +kernel
theorem dX5_ways_17 : decode cX5_ways 17 = .ok (.istore_n 3, 1) := by decide +kernel
theorem dX5_ways_18 : decode cX5_ways 18 = .ok (.bipush (-9), 2) := by decide +kernel
theorem dX5_ways_20 : decode cX5_ways 20 = .ok (.istore 4, 2) := by decide +kernel
theorem dX5_ways_22 : decode cX5_ways 22 = .ok (.iconst 0, 1) := by decide +kernel
theorem dX5_ways_23 : decode cX5_ways 23 = .ok (.istore 5, 2) := by decide +kernel
theorem dX5_ways_25 : decode cX5_ways 25 = .ok (.iload 5, 2) := by decide +kernel
theorem dX5_ways_27 : decode cX5_ways 27 = .ok (.sipush 512, 3) := by decide +kernel
theorem dX5_ways_30 : decode cX5_ways 30 = .ok (.if_icmp .ge 43, 3) := by decide +kernel
theorem dX5_ways_33 : decode cX5_ways 33 = .ok (.aload_n 0, 1) := by decide +kernel
theorem dX5_ways_34 : decode cX5_ways 34 = .ok (.getfield 32, 3) := by decide +kernel
theorem dX5_ways_37 : decode cX5_ways 37 = .ok (.aload_n 0, 1) := by decide +kernel
theorem dX5_ways_38 : decode cX5_ways 38 = .ok (.getfield 46, 3) := by decide +kernel
theorem dX5_ways_41 : decode cX5_ways 41 = .ok (.iload 5, 2) := by decide +kernel
theorem dX5_ways_43 : decode cX5_ways 43 = .ok (.iaload, 1) := by decide +kernel
theorem dX5_ways_44 : decode cX5_ways 44 = .ok (.invokevirtual 184, 3) := by decide +kernel
theorem dX5_ways_47 : decode cX5_ways 47 = .ok (.iload_n 1, 1) := by decide +kernel
theorem dX5_ways_48 : decode cX5_ways 48 = .ok (.if_icmp .ne 19, 3) := by decide +kernel
theorem dX5_ways_51 : decode cX5_ways 51 = .ok (.iload_n 3, 1) := by decide +kernel
theorem dX5_ways_52 : decode cX5_ways 52 = .ok (.ifCond .ne 8, 3) := by decide +kernel
theorem dX5_ways_55 : decode cX5_ways 55 = .ok (.iload 5, 2) := by decide +kernel
theorem dX5_ways_57 : decode cX5_ways 57 = .ok (.goto 5, 3) := by decide +kernel
theorem dX5_ways_60 : decode cX5_ways 60 = .ok (.iload 4, 2) := by decide +kernel
theorem dX5_ways_62 : decode cX5_ways 62 = .ok (.istore 4, 2) := by decide +kernel
theorem dX5_ways_64 : decode cX5_ways 64 = .ok (.iinc 3 1, 3) := by decide +kernel
theorem dX5_ways_67 : decode cX5_ways 67 = .ok (.iinc 5 1, 3) := by decide +kernel
theorem dX5_ways_70 : decode cX5_ways 70 = .ok (.goto (-45), 3) := by decide +kernel
theorem dX5_ways_73 : decode cX5_ways 73 = .ok (.aload_n 0, 1) := by decide +kernel
theorem dX5_ways_74 : decode cX5_ways 74 = .ok (.iload_n 3, 1) := by decide +kernel
theorem dX5_ways_75 : decode cX5_ways 75 = .ok (.i2l, 1) := by decide +kernel
theorem dX5_ways_76 : decode cX5_ways 76 = .ok (.lconst 1, 1) := by decide +kernel
theorem dX5_ways_77 : decode cX5_ways 77 = .ok (.invokevirtual 246, 3) := by decide +kernel
theorem dX5_ways_80 : decode cX5_ways 80 = .ok (.aload_n 0, 1) := by decide +kernel
theorem dX5_ways_81 : decode cX5_ways 81 = .ok (.iload 4, 2) := by decide +kernel
theorem dX5_ways_83 : decode cX5_ways 83 = .ok (.invokevirtual 93, 3) := by decide +kernel
theorem dX5_ways_86 : decode cX5_ways 86 = .ok (.ireturn, 1) := by decide +kernel
theorem dX5_sure_0 : decode cX5_sure 0 = .ok (.aload_n 0, 1) := by decide +kernel
theorem dX5_sure_1 : decode cX5_sure 1 = .ok (.iload_n 1, 1) := by decide +kernel
theorem dX5_sure_2 : decode cX5_sure 2 = .ok (.invokevirtual 233, 3) := by decide +kernel
theorem dX5_sure_5 : decode cX5_sure 5 = .ok (.istore_n 2, 1) := by decide +kernel
theorem dX5_sure_6 : decode cX5_sure 6 = .ok (.iload_n 2, 1) := by decide +kernel
theorem dX5_sure_7 : decode cX5_sure 7 = .ok (.ifCond .eq 5, 3) := by decide +kernel
theorem dX5_sure_10 : decode cX5_sure 10 = .ok (.iload_n 2, 1) := by decide +kernel
theorem dX5_sure_11 : decode cX5_sure 11 = .ok (.ireturn, 1) := by decide +kernel
theorem dX5_sure_12 : decode cX5_sure 12 = .ok (.aload_n 0, 1) := by decide +kernel
theorem dX5_sure_13 : decode cX5_sure 13 = .ok (.invokevirtual 243, 3) := by decide +kernel
theorem dX5_sure_16 : decode cX5_sure 16 = .ok (.iconst 0, 1) := by decide +kernel
theorem dX5_sure_17 : decode cX5_sure 17 = .ok (.istore_n 3, 1) := by decide +kernel
theorem dX5_sure_18 : decode cX5_sure 18 = .ok (.sipush 511, 3) := by decide +kernel
theorem dX5_sure_21 : decode cX5_sure 21 = .ok (.istore 4, 2) := by decide +kernel
theorem dX5_sure_23 : decode cX5_sure 23 = .ok (.iconst 0, 1) := by decide +kernel
theorem dX5_sure_24 : decode cX5_sure 24 = .ok (.istore 5, 2) := by decide +kernel
theorem dX5_sure_26 : decode cX5_sure 26 = .ok (.iconst 0, 1) := by decide +kernel
theorem dX5_sure_27 : decode cX5_sure 27 = .ok (.istore 6, 2) := by decide +kernel
theorem dX5_sure_29 : decode cX5_sure 29 = .ok (.iload 6, 2) := by decide +kernel
theorem dX5_sure_31 : decode cX5_sure 31 = .ok (.sipush 512, 3) := by decide +kernel
theorem dX5_sure_34 : decode cX5_sure 34 = .ok (.if_icmp .ge 43, 3) := by decide +kernel
theorem dX5_sure_37 : decode cX5_sure 37 = .ok (.aload_n 0, 1) := by decide +kernel
theorem dX5_sure_38 : decode cX5_sure 38 = .ok (.getfield 32, 3) := by decide +kernel
theorem dX5_sure_41 : decode cX5_sure 41 = .ok (.aload_n 0, 1) := by decide +kernel
theorem dX5_sure_42 : decode cX5_sure 42 = .ok (.getfield 46, 3) := by decide +kernel
theorem dX5_sure_45 : decode cX5_sure 45 = .ok (.iload 6, 2) := by decide +kernel
theorem dX5_sure_47 : decode cX5_sure 47 = .ok (.iaload, 1) := by decide +kernel
theorem dX5_sure_48 : decode cX5_sure 48 = .ok (.invokevirtual 184, 3) := by decide +kernel
theorem dX5_sure_51 : decode cX5_sure 51 = .ok (.iload_n 1, 1) := by decide +kernel
theorem dX5_sure_52 : decode cX5_sure 52 = .ok (.if_icmp .ne 19, 3) := by decide +kernel
theorem dX5_sure_55 : decode cX5_sure 55 = .ok (.iconst 1, 1) := by decide +kernel
theorem dX5_sure_56 : decode cX5_sure 56 = .ok (.istore_n 3, 1) := by decide +kernel
theorem dX5_sure_57 : decode cX5_sure 57 = .ok (.iload 4, 2) := by decide +kernel
theorem dX5_sure_59 : decode cX5_sure 59 = .ok (.iload 6, 2) := by decide +kernel
theorem dX5_sure_61 : decode cX5_sure 61 = .ok (.iand, 1) := by decide +kernel
theorem dX5_sure_62 : decode cX5_sure 62 = .ok (.istore 4, 2) := by decide +kernel
theorem dX5_sure_64 : decode cX5_sure 64 = .ok (.iload 5, 2) := by decide +kernel
theorem dX5_sure_66 : decode cX5_sure 66 = .ok (.iload 6, 2) := by decide +kernel
theorem dX5_sure_68 : decode cX5_sure 68 = .ok (.ior, 1) := by decide +kernel
theorem dX5_sure_69 : decode cX5_sure 69 = .ok (.istore 5, 2) := by decide +kernel
theorem dX5_sure_71 : decode cX5_sure 71 = .ok (.iinc 6 1, 3) := by decide +kernel
theorem dX5_sure_74 : decode cX5_sure 74 = .ok (.goto (-45), 3) := by decide +kernel
theorem dX5_sure_77 : decode cX5_sure 77 = .ok (.iload_n 3, 1) := by decide +kernel
theorem dX5_sure_78 : decode cX5_sure 78 = .ok (.ifCond .ne 9, 3) := by decide +kernel
theorem dX5_sure_81 : decode cX5_sure 81 = .ok (.aload_n 0, 1) := by decide +kernel
theorem dX5_sure_82 : decode cX5_sure 82 = .ok (.iconst 4, 1) := by decide +kernel
theorem dX5_sure_83 : decode cX5_sure 83 = .ok (.invokevirtual 103, 3) := by decide +kernel
theorem dX5_sure_86 : decode cX5_sure 86 = .ok (.ireturn, 1) := by decide +kernel
theorem dX5_sure_87 : decode cX5_sure 87 = .ok (.aload_n 0, 1) := by decide +kernel
theorem dX5_sure_88 : decode cX5_sure 88 = .ok (.sipush 511, 3) := by decide +kernel
theorem dX5_sure_91 : decode cX5_sure 91 = .ok (.iload 5, 2) := by decide +kernel
theorem dX5_sure_93 : decode cX5_sure 93 = .ok (.iconst (-1), 1) := by decide +kernel
theorem dX5_sure_94 : decode cX5_sure 94 = .ok (.ixor, 1) := by decide +kernel
theorem dX5_sure_95 : decode cX5_sure 95 = .ok (.iand, 1) := by decide +kernel
theorem dX5_sure_96 : decode cX5_sure 96 = .ok (.putfield 60, 3) := by decide +kernel
theorem dX5_sure_99 : decode cX5_sure 99 = .ok (.iload 4, 2) := by decide +kernel
theorem dX5_sure_101 : decode cX5_sure 101 = .ok (.ireturn, 1) := by decide +kernel
theorem dX5_which_0 : decode cX5_which 0 = .ok (.aload_n 0, 1) := by decide +kernel
theorem dX5_which_1 : decode cX5_which 1 = .ok (.iload_n 1, 1) := by decide +kernel
theorem dX5_which_2 : decode cX5_which 2 = .ok (.invokevirtual 233, 3) := by decide +kernel
theorem dX5_which_5 : decode cX5_which 5 = .ok (.istore_n 2, 1) := by decide +kernel
theorem dX5_which_6 : decode cX5_which 6 = .ok (.iload_n 2, 1) := by decide +kernel
theorem dX5_which_7 : decode cX5_which 7 = .ok (.ifCond .eq 5, 3) := by decide +kernel
theorem dX5_which_10 : decode cX5_which 10 = .ok (.iload_n 2, 1) := by decide +kernel
theorem dX5_which_11 : decode cX5_which 11 = .ok (.ireturn, 1) := by decide +kernel
theorem dX5_which_12 : decode cX5_which 12 = .ok (.iconst 0, 1) := by decide +kernel
theorem dX5_which_13 : decode cX5_which 13 = .ok (.istore_n 3, 1) := by decide +kernel
theorem dX5_which_14 : decode cX5_which 14 = .ok (.iconst 0, 1) := by decide +kernel
theorem dX5_which_15 : decode cX5_which 15 = .ok (.istore 4, 2) := by decide +kernel
theorem dX5_which_17 : decode cX5_which 17 = .ok (.iload 4, 2) := by decide +kernel
theorem dX5_which_19 : decode cX5_which 19 = .ok (.bipush 9, 2) := by decide +kernel
theorem dX5_which_21 : decode cX5_which 21 = .ok (.if_icmp .ge 26, 3) := by decide +kernel
theorem dX5_which_24 : decode cX5_which 24 = .ok (.aload_n 0, 1) := by decide +kernel
theorem dX5_which_25 : decode cX5_which 25 = .ok (.iload 4, 2) := by decide +kernel
theorem dX5_which_27 : decode cX5_which 27 = .ok (.invokevirtual 230, 3) := by decide +kernel
theorem dX5_which_30 : decode cX5_which 30 = .ok (.iload_n 1, 1) := by decide +kernel
theorem dX5_which_31 : decode cX5_which 31 = .ok (.if_icmp .ne 10, 3) := by decide +kernel
theorem dX5_which_34 : decode cX5_which 34 = .ok (.iload_n 3, 1) := by decide +kernel
theorem dX5_which_35 : decode cX5_which 35 = .ok (.iconst 1, 1) := by decide +kernel
theorem dX5_which_36 : decode cX5_which 36 = .ok (.iload 4, 2) := by decide +kernel
theorem dX5_which_38 : decode cX5_which 38 = .ok (.ishl, 1) := by decide +kernel
theorem dX5_which_39 : decode cX5_which 39 = .ok (.ior, 1) := by decide +kernel
theorem dX5_which_40 : decode cX5_which 40 = .ok (.istore_n 3, 1) := by decide +kernel
theorem dX5_which_41 : decode cX5_which 41 = .ok (.iinc 4 1, 3) := by decide +kernel
theorem dX5_which_44 : decode cX5_which 44 = .ok (.goto (-27), 3) := by decide +kernel
theorem dX5_which_47 : decode cX5_which 47 = .ok (.iload_n 3, 1) := by decide +kernel
theorem dX5_which_48 : decode cX5_which 48 = .ok (.ireturn, 1) := by decide +kernel
theorem dX5_kinds_0 : decode cX5_kinds 0 = .ok (.aload_n 0, 1) := by decide +kernel
theorem dX5_kinds_1 : decode cX5_kinds 1 = .ok (.iload_n 2, 1) := by decide +kernel
theorem dX5_kinds_2 : decode cX5_kinds 2 = .ok (.invokevirtual 73, 3) := by decide +kernel
theorem dX5_kinds_5 : decode cX5_kinds 5 = .ok (.astore_n 3, 1) := by decide +kernel
theorem dX5_kinds_6 : decode cX5_kinds 6 = .ok (.aload_n 0, 1) := by decide +kernel
theorem dX5_kinds_7 : decode cX5_kinds 7 = .ok (.iload_n 1, 1) := by decide +kernel
theorem dX5_kinds_8 : decode cX5_kinds 8 = .ok (.aload_n 3, 1) := by decide +kernel
theorem dX5_kinds_9 : decode cX5_kinds 9 = .ok (.invokevirtual 250, 3) := by decide +kernel
theorem dX5_kinds_12 : decode cX5_kinds 12 = .ok (.istore 4, 2) := by decide +kernel
theorem dX5_kinds_14 : decode cX5_kinds 14 = .ok (.aload_n 3, 1) := by decide +kernel
theorem dX5_kinds_15 : decode cX5_kinds 15 = .ok (.ifnull 8, 3) := by decide +kernel
theorem dX5_kinds_18 : decode cX5_kinds 18 = .ok (.iload 4, 2) := by decide +kernel
theorem dX5_kinds_20 : decode cX5_kinds 20 = .ok (.ifCond .eq 8, 3) := by decide +kernel
theorem dX5_kinds_23 : decode cX5_kinds 23 = .ok (.iload 4, 2) := by decide +kernel
theorem dX5_kinds_25 : decode cX5_kinds 25 = .ok (.goto 9, 3) := by decide +kernel
theorem dX5_kinds_28 : decode cX5_kinds 28 = .ok (.aload_n 0, 1) := by decide +kernel
theorem dX5_kinds_29 : decode cX5_kinds 29 = .ok (.iload_n 1, 1) := by decide +kernel
theorem dX5_kinds_30 : decode cX5_kinds 30 = .ok (.aload_n 3, 1) := by decide +kernel
theorem dX5_kinds_31 : decode cX5_kinds 31 = .ok (.invokevirtual 254, 3) := by decide +kernel
theorem dX5_kinds_34 : decode cX5_kinds 34 = .ok (.ireturn, 1) := by decide +kernel
theorem dX5_next_0 : decode cX5_next 0 = .ok (.aload_n 0, 1) := by decide +kernel
theorem dX5_next_1 : decode cX5_next 1 = .ok (.iload_n 2, 1) := by decide +kernel
theorem dX5_next_2 : decode cX5_next 2 = .ok (.invokevirtual 73, 3) := by decide +kernel
theorem dX5_next_5 : decode cX5_next 5 = .ok (.astore_n 3, 1) := by decide +kernel
theorem dX5_next_6 : decode cX5_next 6 = .ok (.aload_n 0, 1) := by decide +kernel
theorem dX5_next_7 : decode cX5_next 7 = .ok (.iload_n 1, 1) := by decide +kernel
theorem dX5_next_8 : decode cX5_next 8 = .ok (.aload_n 3, 1) := by decide +kernel
theorem dX5_next_9 : decode cX5_next 9 = .ok (.invokevirtual 250, 3) := by decide +kernel
theorem dX5_next_12 : decode cX5_next 12 = .ok (.istore 4, 2) := by decide +kernel
theorem dX5_next_14 : decode cX5_next 14 = .ok (.aload_n 3, 1) := by decide +kernel
theorem dX5_next_15 : decode cX5_next 15 = .ok (.ifnull 8, 3) := by decide +kernel
theorem dX5_next_18 : decode cX5_next 18 = .ok (.iload 4, 2) := by decide +kernel
theorem dX5_next_20 : decode cX5_next 20 = .ok (.ifCond .eq 6, 3) := by decide +kernel
theorem dX5_next_23 : decode cX5_next 23 = .ok (.iload 4, 2) := by decide +kernel
theorem dX5_next_25 : decode cX5_next 25 = .ok (.ireturn, 1) := by decide +kernel
theorem dX5_next_26 : decode cX5_next 26 = .ok (.aload_n 0, 1) := by decide +kernel
theorem dX5_next_27 : decode cX5_next 27 = .ok (.iload_n 1, 1) := by decide +kernel
theorem dX5_next_28 : decode cX5_next 28 = .ok (.aload_n 3, 1) := by decide +kernel
theorem dX5_next_29 : decode cX5_next 29 = .ok (.invokevirtual 254, 3) := by decide +kernel
theorem dX5_next_32 : decode cX5_next 32 = .ok (.istore 5, 2) := by decide +kernel
theorem dX5_next_34 : decode cX5_next 34 = .ok (.iload 5, 2) := by decide +kernel
theorem dX5_next_36 : decode cX5_next 36 = .ok (.ifCond .ne 6, 3) := by decide +kernel
theorem dX5_next_39 : decode cX5_next 39 = .ok (.bipush (-9), 2) := by decide +kernel
theorem dX5_next_41 : decode cX5_next 41 = .ok (.ireturn, 1) := by decide +kernel
theorem dX5_next_42 : decode cX5_next 42 = .ok (.iconst 0, 1) := by decide +kernel
theorem dX5_next_43 : decode cX5_next 43 = .ok (.istore 6, 2) := by decide +kernel
theorem dX5_next_45 : decode cX5_next 45 = .ok (.bipush 7, 2) := by decide +kernel
theorem dX5_next_47 : decode cX5_next 47 = .ok (.istore 7, 2) := by decide +kernel
theorem dX5_next_49 : decode cX5_next 49 = .ok (.iconst 0, 1) := by decide +kernel
theorem dX5_next_50 : decode cX5_next 50 = .ok (.istore 8, 2) := by decide +kernel
theorem dX5_next_52 : decode cX5_next 52 = .ok (.iload 8, 2) := by decide +kernel
theorem dX5_next_54 : decode cX5_next 54 = .ok (.bipush 9, 2) := by decide +kernel
theorem dX5_next_56 : decode cX5_next 56 = .ok (.if_icmp .ge 35, 3) := by decide +kernel
theorem dX5_next_59 : decode cX5_next 59 = .ok (.aload_n 0, 1) := by decide +kernel
theorem dX5_next_60 : decode cX5_next 60 = .ok (.iload_n 1, 1) := by decide +kernel
theorem dX5_next_61 : decode cX5_next 61 = .ok (.iload 5, 2) := by decide +kernel
theorem dX5_next_63 : decode cX5_next 63 = .ok (.iload 8, 2) := by decide +kernel
theorem dX5_next_65 : decode cX5_next 65 = .ok (.invokevirtual 257, 3) := by decide +kernel
theorem dX5_next_68 : decode cX5_next 68 = .ok (.istore 9, 2) := by decide +kernel
theorem dX5_next_70 : decode cX5_next 70 = .ok (.iload 9, 2) := by decide +kernel
theorem dX5_next_72 : decode cX5_next 72 = .ok (.iload 7, 2) := by decide +kernel
theorem dX5_next_74 : decode cX5_next 74 = .ok (.if_icmp .ge 11, 3) := by decide +kernel
theorem dX5_next_77 : decode cX5_next 77 = .ok (.iload 8, 2) := by decide +kernel
theorem dX5_next_79 : decode cX5_next 79 = .ok (.istore 6, 2) := by decide +kernel
theorem dX5_next_81 : decode cX5_next 81 = .ok (.iload 9, 2) := by decide +kernel
theorem dX5_next_83 : decode cX5_next 83 = .ok (.istore 7, 2) := by decide +kernel
theorem dX5_next_85 : decode cX5_next 85 = .ok (.iinc 8 1, 3) := by decide +kernel
theorem dX5_next_88 : decode cX5_next 88 = .ok (.goto (-36), 3) := by decide +kernel
theorem dX5_next_91 : decode cX5_next 91 = .ok (.aload_n 0, 1) := by decide +kernel
theorem dX5_next_92 : decode cX5_next 92 = .ok (.iload 7, 2) := by decide +kernel
theorem dX5_next_94 : decode cX5_next 94 = .ok (.putfield 60, 3) := by decide +kernel
theorem dX5_next_97 : decode cX5_next 97 = .ok (.iload 6, 2) := by decide +kernel
theorem dX5_next_99 : decode cX5_next 99 = .ok (.ireturn, 1) := by decide +kernel
theorem dX5_sums_0 : decode cX5_sums 0 = .ok (.aload_n 0, 1) := by decide +kernel
theorem dX5_sums_1 : decode cX5_sums 1 = .ok (.getfield 25, 3) := by decide +kernel
theorem dX5_sums_4 : decode cX5_sums 4 = .ok (.invokevirtual 187, 3) := by decide +kernel
theorem dX5_sums_7 : decode cX5_sums 7 = .ok (.ifCond .ne 6, 3) := by decide +kernel
theorem dX5_sums_10 : decode cX5_sums 10 = .ok (.bipush (-4), 2) := by decide +kernel
theorem dX5_sums_12 : decode cX5_sums 12 = .ok (.ireturn, 1) := by decide +kernel
theorem dX5_sums_13 : decode cX5_sums 13 = .ok (.iload_n 1, 1) := by decide +kernel
theorem dX5_sums_14 : decode cX5_sums 14 = .ok (.ifCond .lt 9, 3) := by decide +kernel
theorem dX5_sums_17 : decode cX5_sums 17 = .ok (.iload_n 1, 1) := by decide +kernel
theorem dX5_sums_18 : decode cX5_sums 18 = .ok (.bipush 18, 2) := by decide +kernel
theorem dX5_sums_20 : decode cX5_sums 20 = .ok (.if_icmp .le 5, 3) := by decide +kernel
theorem dX5_sums_23 : decode cX5_sums 23 = .ok (.iconst (-1), 1) := by decide +kernel
theorem dX5_sums_24 : decode cX5_sums 24 = .ok (.ireturn, 1) := by decide +kernel
theorem dX5_sums_25 : decode cX5_sums 25 = .ok (.aload_n 0, 1) := by decide +kernel
theorem dX5_sums_26 : decode cX5_sums 26 = .ok (.getfield 25, 3) := by decide +kernel
theorem dX5_sums_29 : decode cX5_sums 29 = .ok (.invokevirtual 160, 3) := by decide +kernel
theorem dX5_sums_32 : decode cX5_sums 32 = .ok (.istore_n 2, 1) := by decide +kernel
theorem dX5_sums_33 : decode cX5_sums 33 = .ok (.iconst 0, 1) := by decide +kernel
theorem dX5_sums_34 : decode cX5_sums 34 = .ok (.istore_n 3, 1) := by decide +kernel
theorem dX5_sums_35 : decode cX5_sums 35 = .ok (.bipush (-9), 2) := by decide +kernel
theorem dX5_sums_37 : decode cX5_sums 37 = .ok (.istore 4, 2) := by decide +kernel
theorem dX5_sums_39 : decode cX5_sums 39 = .ok (.iconst 0, 1) := by decide +kernel
theorem dX5_sums_40 : decode cX5_sums 40 = .ok (.istore 5, 2) := by decide +kernel
theorem dX5_sums_42 : decode cX5_sums 42 = .ok (.iload 5, 2) := by decide +kernel
theorem dX5_sums_44 : decode cX5_sums 44 = .ok (.sipush 512, 3) := by decide +kernel
theorem dX5_sums_47 : decode cX5_sums 47 = .ok (.if_icmp .ge 35, 3) := by decide +kernel
theorem dX5_sums_50 : decode cX5_sums 50 = .ok (.iload_n 2, 1) := by decide +kernel
theorem dX5_sums_51 : decode cX5_sums 51 = .ok (.iload 5, 2) := by decide +kernel
theorem dX5_sums_53 : decode cX5_sums 53 = .ok (.invokestatic 260, 3) := by decide +kernel
theorem dX5_sums_56 : decode cX5_sums 56 = .ok (.iload_n 1, 1) := by decide +kernel
theorem dX5_sums_57 : decode cX5_sums 57 = .ok (.if_icmp .ne 19, 3) := by decide +kernel
theorem dX5_sums_60 : decode cX5_sums 60 = .ok (.iload_n 3, 1) := by decide +kernel
theorem dX5_sums_61 : decode cX5_sums 61 = .ok (.ifCond .ne 8, 3) := by decide +kernel
theorem dX5_sums_64 : decode cX5_sums 64 = .ok (.iload 5, 2) := by decide +kernel
theorem dX5_sums_66 : decode cX5_sums 66 = .ok (.goto 5, 3) := by decide +kernel
theorem dX5_sums_69 : decode cX5_sums 69 = .ok (.iload 4, 2) := by decide +kernel
theorem dX5_sums_71 : decode cX5_sums 71 = .ok (.istore 4, 2) := by decide +kernel
theorem dX5_sums_73 : decode cX5_sums 73 = .ok (.iinc 3 1, 3) := by decide +kernel
theorem dX5_sums_76 : decode cX5_sums 76 = .ok (.iinc 5 1, 3) := by decide +kernel
theorem dX5_sums_79 : decode cX5_sums 79 = .ok (.goto (-37), 3) := by decide +kernel
theorem dX5_sums_82 : decode cX5_sums 82 = .ok (.aload_n 0, 1) := by decide +kernel
theorem dX5_sums_83 : decode cX5_sums 83 = .ok (.iload_n 3, 1) := by decide +kernel
theorem dX5_sums_84 : decode cX5_sums 84 = .ok (.i2l, 1) := by decide +kernel
theorem dX5_sums_85 : decode cX5_sums 85 = .ok (.lconst 1, 1) := by decide +kernel
theorem dX5_sums_86 : decode cX5_sums 86 = .ok (.invokevirtual 246, 3) := by decide +kernel
theorem dX5_sums_89 : decode cX5_sums 89 = .ok (.aload_n 0, 1) := by decide +kernel
theorem dX5_sums_90 : decode cX5_sums 90 = .ok (.iload 4, 2) := by decide +kernel
theorem dX5_sums_92 : decode cX5_sums 92 = .ok (.invokevirtual 93, 3) := by decide +kernel
theorem dX5_sums_95 : decode cX5_sums 95 = .ok (.ireturn, 1) := by decide +kernel
theorem dX5_duel_0 : decode cX5_duel 0 = .ok (.aload_n 0, 1) := by decide +kernel
theorem dX5_duel_1 : decode cX5_duel 1 = .ok (.iload_n 1, 1) := by decide +kernel
theorem dX5_duel_2 : decode cX5_duel 2 = .ok (.invokevirtual 233, 3) := by decide +kernel
theorem dX5_duel_5 : decode cX5_duel 5 = .ok (.istore_n 3, 1) := by decide +kernel
theorem dX5_duel_6 : decode cX5_duel 6 = .ok (.iload_n 3, 1) := by decide +kernel
theorem dX5_duel_7 : decode cX5_duel 7 = .ok (.ifCond .eq 5, 3) := by decide +kernel
theorem dX5_duel_10 : decode cX5_duel 10 = .ok (.iload_n 3, 1) := by decide +kernel
theorem dX5_duel_11 : decode cX5_duel 11 = .ok (.ireturn, 1) := by decide +kernel
theorem dX5_duel_12 : decode cX5_duel 12 = .ok (.iload_n 2, 1) := by decide +kernel
theorem dX5_duel_13 : decode cX5_duel 13 = .ok (.ifCond .lt 8, 3) := by decide +kernel
theorem dX5_duel_16 : decode cX5_duel 16 = .ok (.iload_n 2, 1) := by decide +kernel
theorem dX5_duel_17 : decode cX5_duel 17 = .ok (.iconst 2, 1) := by decide +kernel
theorem dX5_duel_18 : decode cX5_duel 18 = .ok (.if_icmp .le 5, 3) := by decide +kernel
theorem dX5_duel_21 : decode cX5_duel 21 = .ok (.iconst (-1), 1) := by decide +kernel
theorem dX5_duel_22 : decode cX5_duel 22 = .ok (.ireturn, 1) := by decide +kernel
theorem dX5_duel_23 : decode cX5_duel 23 = .ok (.aload_n 0, 1) := by decide +kernel
theorem dX5_duel_24 : decode cX5_duel 24 = .ok (.aload_n 0, 1) := by decide +kernel
theorem dX5_duel_25 : decode cX5_duel 25 = .ok (.getfield 32, 3) := by decide +kernel
theorem dX5_duel_28 : decode cX5_duel 28 = .ok (.aload_n 0, 1) := by decide +kernel
theorem dX5_duel_29 : decode cX5_duel 29 = .ok (.getfield 25, 3) := by decide +kernel
theorem dX5_duel_32 : decode cX5_duel 32 = .ok (.invokevirtual 160, 3) := by decide +kernel
theorem dX5_duel_35 : decode cX5_duel 35 = .ok (.aload_n 0, 1) := by decide +kernel
theorem dX5_duel_36 : decode cX5_duel 36 = .ok (.getfield 25, 3) := by decide +kernel
theorem dX5_duel_39 : decode cX5_duel 39 = .ok (.invokevirtual 181, 3) := by decide +kernel
theorem dX5_duel_42 : decode cX5_duel 42 = .ok (.iconst 2, 1) := by decide +kernel
theorem dX5_duel_43 : decode cX5_duel 43 = .ok (.iload_n 2, 1) := by decide +kernel
theorem dX5_duel_44 : decode cX5_duel 44 = .ok (.imul, 1) := by decide +kernel
theorem dX5_duel_45 : decode cX5_duel 45 = .ok (.iload_n 1, 1) := by decide +kernel
theorem dX5_duel_46 : decode cX5_duel 46 = .ok (.bipush (-9), 2) := by decide +kernel
theorem dX5_duel_48 : decode cX5_duel 48 = .ok (.bipush 9, 2) := by decide +kernel
theorem dX5_duel_50 : decode cX5_duel 50 = .ok (.invokestatic 262, 3) := by decide +kernel
theorem dX5_duel_53 : decode cX5_duel 53 = .ok (.invokevirtual 93, 3) := by decide +kernel
theorem dX5_duel_56 : decode cX5_duel 56 = .ok (.ireturn, 1) := by decide +kernel
theorem dX5_odds_0 : decode cX5_odds 0 = .ok (.aload_n 0, 1) := by decide +kernel
theorem dX5_odds_1 : decode cX5_odds 1 = .ok (.iload_n 2, 1) := by decide +kernel
theorem dX5_odds_2 : decode cX5_odds 2 = .ok (.invokevirtual 233, 3) := by decide +kernel
theorem dX5_odds_5 : decode cX5_odds 5 = .ok (.istore 4, 2) := by decide +kernel
theorem dX5_odds_7 : decode cX5_odds 7 = .ok (.iload 4, 2) := by decide +kernel
theorem dX5_odds_9 : decode cX5_odds 9 = .ok (.ifCond .eq 6, 3) := by decide +kernel
theorem dX5_odds_12 : decode cX5_odds 12 = .ok (.iload 4, 2) := by decide +kernel
theorem dX5_odds_14 : decode cX5_odds 14 = .ok (.ireturn, 1) := by decide +kernel
theorem dX5_odds_15 : decode cX5_odds 15 = .ok (.aload_n 0, 1) := by decide +kernel
theorem dX5_odds_16 : decode cX5_odds 16 = .ok (.iload_n 1, 1) := by decide +kernel
theorem dX5_odds_17 : decode cX5_odds 17 = .ok (.invokevirtual 146, 3) := by decide +kernel
theorem dX5_odds_20 : decode cX5_odds 20 = .ok (.ifCond .eq 13, 3) := by decide +kernel
theorem dX5_odds_23 : decode cX5_odds 23 = .ok (.iload_n 3, 1) := by decide +kernel
theorem dX5_odds_24 : decode cX5_odds 24 = .ok (.ifCond .lt 9, 3) := by decide +kernel
theorem dX5_odds_27 : decode cX5_odds 27 = .ok (.iload_n 3, 1) := by decide +kernel
theorem dX5_odds_28 : decode cX5_odds 28 = .ok (.bipush 12, 2) := by decide +kernel
theorem dX5_odds_30 : decode cX5_odds 30 = .ok (.if_icmp .le 5, 3) := by decide +kernel
theorem dX5_odds_33 : decode cX5_odds 33 = .ok (.iconst (-1), 1) := by decide +kernel
theorem dX5_odds_34 : decode cX5_odds 34 = .ok (.ireturn, 1) := by decide +kernel
theorem dX5_odds_35 : decode cX5_odds 35 = .ok (.aload_n 0, 1) := by decide +kernel
theorem dX5_odds_36 : decode cX5_odds 36 = .ok (.iload_n 1, 1) := by decide +kernel
theorem dX5_odds_37 : decode cX5_odds 37 = .ok (.invokevirtual 230, 3) := by decide +kernel
theorem dX5_odds_40 : decode cX5_odds 40 = .ok (.iload_n 2, 1) := by decide +kernel
theorem dX5_odds_41 : decode cX5_odds 41 = .ok (.ixor, 1) := by decide +kernel
theorem dX5_odds_42 : decode cX5_odds 42 = .ok (.istore 5, 2) := by decide +kernel
theorem dX5_odds_44 : decode cX5_odds 44 = .ok (.aload_n 0, 1) := by decide +kernel
theorem dX5_odds_45 : decode cX5_odds 45 = .ok (.getfield 32, 3) := by decide +kernel
theorem dX5_odds_48 : decode cX5_odds 48 = .ok (.aload_n 0, 1) := by decide +kernel
theorem dX5_odds_49 : decode cX5_odds 49 = .ok (.getfield 25, 3) := by decide +kernel
theorem dX5_odds_52 : decode cX5_odds 52 = .ok (.invokevirtual 160, 3) := by decide +kernel
theorem dX5_odds_55 : decode cX5_odds 55 = .ok (.invokevirtual 184, 3) := by decide +kernel
theorem dX5_odds_58 : decode cX5_odds 58 = .ok (.iload_n 2, 1) := by decide +kernel
theorem dX5_odds_59 : decode cX5_odds 59 = .ok (.ixor, 1) := by decide +kernel
theorem dX5_odds_60 : decode cX5_odds 60 = .ok (.istore 6, 2) := by decide +kernel
theorem dX5_odds_62 : decode cX5_odds 62 = .ok (.lconst 1, 1) := by decide +kernel
theorem dX5_odds_63 : decode cX5_odds 63 = .ok (.lstore 7, 2) := by decide +kernel
theorem dX5_odds_65 : decode cX5_odds 65 = .ok (.lconst 1, 1) := by decide +kernel
theorem dX5_odds_66 : decode cX5_odds 66 = .ok (.lstore 9, 2) := by decide +kernel
theorem dX5_odds_68 : decode cX5_odds 68 = .ok (.iconst 0, 1) := by decide +kernel
theorem dX5_odds_69 : decode cX5_odds 69 = .ok (.istore 11, 2) := by decide +kernel
theorem dX5_odds_71 : decode cX5_odds 71 = .ok (.iload 11, 2) := by decide +kernel
theorem dX5_odds_73 : decode cX5_odds 73 = .ok (.bipush 9, 2) := by decide +kernel
theorem dX5_odds_75 : decode cX5_odds 75 = .ok (.if_icmp .ge 37, 3) := by decide +kernel
theorem dX5_odds_78 : decode cX5_odds 78 = .ok (.lload 7, 2) := by decide +kernel
theorem dX5_odds_80 : decode cX5_odds 80 = .ok (.iload 5, 2) := by decide +kernel
theorem dX5_odds_82 : decode cX5_odds 82 = .ok (.iconst (-1), 1) := by decide +kernel
theorem dX5_odds_83 : decode cX5_odds 83 = .ok (.ixor, 1) := by decide +kernel
theorem dX5_odds_84 : decode cX5_odds 84 = .ok (.iload 6, 2) := by decide +kernel
theorem dX5_odds_86 : decode cX5_odds 86 = .ok (.iconst (-1), 1) := by decide +kernel
theorem dX5_odds_87 : decode cX5_odds 87 = .ok (.ixor, 1) := by decide +kernel
theorem dX5_odds_88 : decode cX5_odds 88 = .ok (.iload 11, 2) := by decide +kernel
theorem dX5_odds_90 : decode cX5_odds 90 = .ok (.iload_n 3, 1) := by decide +kernel
theorem dX5_odds_91 : decode cX5_odds 91 = .ok (.invokestatic 266, 3) := by decide +kernel
theorem dX5_odds_94 : decode cX5_odds 94 = .ok (.i2l, 1) := by decide +kernel
theorem dX5_odds_95 : decode cX5_odds 95 = .ok (.lmul, 1) := by decide +kernel
theorem dX5_odds_96 : decode cX5_odds 96 = .ok (.lstore 7, 2) := by decide +kernel
theorem dX5_odds_98 : decode cX5_odds 98 = .ok (.lload 9, 2) := by decide +kernel
theorem dX5_odds_100 : decode cX5_odds 100 = .ok (.ldc2_w 269, 3) := by decide +kernel
theorem dX5_odds_103 : decode cX5_odds 103 = .ok (.lmul, 1) := by decide +kernel
theorem dX5_odds_104 : decode cX5_odds 104 = .ok (.lstore 9, 2) := by decide +kernel
theorem dX5_odds_106 : decode cX5_odds 106 = .ok (.iinc 11 1, 3) := by decide +kernel
theorem dX5_odds_109 : decode cX5_odds 109 = .ok (.goto (-38), 3) := by decide +kernel
theorem dX5_odds_112 : decode cX5_odds 112 = .ok (.aload_n 0, 1) := by decide +kernel
theorem dX5_odds_113 : decode cX5_odds 113 = .ok (.lload 7, 2) := by decide +kernel
theorem dX5_odds_115 : decode cX5_odds 115 = .ok (.lload 9, 2) := by decide +kernel
theorem dX5_odds_117 : decode cX5_odds 117 = .ok (.invokevirtual 246, 3) := by decide +kernel
theorem dX5_odds_120 : decode cX5_odds 120 = .ok (.iconst 1, 1) := by decide +kernel
theorem dX5_odds_121 : decode cX5_odds 121 = .ok (.ireturn, 1) := by decide +kernel
theorem dX5_mid_0 : decode cX5_mid 0 = .ok (.aload_n 0, 1) := by decide +kernel
theorem dX5_mid_1 : decode cX5_mid 1 = .ok (.getfield 25, 3) := by decide +kernel
theorem dX5_mid_4 : decode cX5_mid 4 = .ok (.invokevirtual 187, 3) := by decide +kernel
theorem dX5_mid_7 : decode cX5_mid 7 = .ok (.ifCond .ne 6, 3) := by decide +kernel
theorem dX5_mid_10 : decode cX5_mid 10 = .ok (.bipush (-4), 2) := by decide +kernel
theorem dX5_mid_12 : decode cX5_mid 12 = .ok (.ireturn, 1) := by decide +kernel
theorem dX5_mid_13 : decode cX5_mid 13 = .ok (.aload_n 0, 1) := by decide +kernel
theorem dX5_mid_14 : decode cX5_mid 14 = .ok (.iload_n 1, 1) := by decide +kernel
theorem dX5_mid_15 : decode cX5_mid 15 = .ok (.invokevirtual 146, 3) := by decide +kernel
theorem dX5_mid_18 : decode cX5_mid 18 = .ok (.ifCond .eq 13, 3) := by decide +kernel
theorem dX5_mid_21 : decode cX5_mid 21 = .ok (.iload_n 2, 1) := by decide +kernel
theorem dX5_mid_22 : decode cX5_mid 22 = .ok (.ifCond .lt 9, 3) := by decide +kernel
theorem dX5_mid_25 : decode cX5_mid 25 = .ok (.iload_n 2, 1) := by decide +kernel
theorem dX5_mid_26 : decode cX5_mid 26 = .ok (.bipush 12, 2) := by decide +kernel
theorem dX5_mid_28 : decode cX5_mid 28 = .ok (.if_icmp .le 5, 3) := by decide +kernel
theorem dX5_mid_31 : decode cX5_mid 31 = .ok (.iconst (-1), 1) := by decide +kernel
theorem dX5_mid_32 : decode cX5_mid 32 = .ok (.ireturn, 1) := by decide +kernel
theorem dX5_mid_33 : decode cX5_mid 33 = .ok (.aload_n 0, 1) := by decide +kernel
theorem dX5_mid_34 : decode cX5_mid 34 = .ok (.iload_n 1, 1) := by decide +kernel
theorem dX5_mid_35 : decode cX5_mid 35 = .ok (.invokevirtual 230, 3) := by decide +kernel
theorem dX5_mid_38 : decode cX5_mid 38 = .ok (.istore_n 3, 1) := by decide +kernel
theorem dX5_mid_39 : decode cX5_mid 39 = .ok (.aload_n 0, 1) := by decide +kernel
theorem dX5_mid_40 : decode cX5_mid 40 = .ok (.getfield 32, 3) := by decide +kernel
theorem dX5_mid_43 : decode cX5_mid 43 = .ok (.aload_n 0, 1) := by decide +kernel
theorem dX5_mid_44 : decode cX5_mid 44 = .ok (.getfield 25, 3) := by decide +kernel
theorem dX5_mid_47 : decode cX5_mid 47 = .ok (.invokevirtual 160, 3) := by decide +kernel
theorem dX5_mid_50 : decode cX5_mid 50 = .ok (.invokevirtual 184, 3) := by decide +kernel
theorem dX5_mid_53 : decode cX5_mid 53 = .ok (.istore 4, 2) := by decide +kernel
theorem dX5_mid_55 : decode cX5_mid 55 = .ok (.lconst 0, 1) := by decide +kernel
theorem dX5_mid_56 : decode cX5_mid 56 = .ok (.lstore 5, 2) := by decide +kernel
theorem dX5_mid_58 : decode cX5_mid 58 = .ok (.iconst 0, 1) := by decide +kernel
theorem dX5_mid_59 : decode cX5_mid 59 = .ok (.istore 7, 2) := by decide +kernel
theorem dX5_mid_61 : decode cX5_mid 61 = .ok (.iload 7, 2) := by decide +kernel
theorem dX5_mid_63 : decode cX5_mid 63 = .ok (.bipush 9, 2) := by decide +kernel
theorem dX5_mid_65 : decode cX5_mid 65 = .ok (.if_icmp .ge 24, 3) := by decide +kernel
theorem dX5_mid_68 : decode cX5_mid 68 = .ok (.lload 5, 2) := by decide +kernel
theorem dX5_mid_70 : decode cX5_mid 70 = .ok (.iload_n 3, 1) := by decide +kernel
theorem dX5_mid_71 : decode cX5_mid 71 = .ok (.iload 4, 2) := by decide +kernel
theorem dX5_mid_73 : decode cX5_mid 73 = .ok (.iload 7, 2) := by decide +kernel
theorem dX5_mid_75 : decode cX5_mid 75 = .ok (.iload_n 2, 1) := by decide +kernel
theorem dX5_mid_76 : decode cX5_mid 76 = .ok (.invokestatic 266, 3) := by decide +kernel
theorem dX5_mid_79 : decode cX5_mid 79 = .ok (.i2l, 1) := by decide +kernel
theorem dX5_mid_80 : decode cX5_mid 80 = .ok (.ladd, 1) := by decide +kernel
theorem dX5_mid_81 : decode cX5_mid 81 = .ok (.lstore 5, 2) := by decide +kernel
theorem dX5_mid_83 : decode cX5_mid 83 = .ok (.iinc 7 1, 3) := by decide +kernel
theorem dX5_mid_86 : decode cX5_mid 86 = .ok (.goto (-25), 3) := by decide +kernel
theorem dX5_mid_89 : decode cX5_mid 89 = .ok (.aload_n 0, 1) := by decide +kernel
theorem dX5_mid_90 : decode cX5_mid 90 = .ok (.lload 5, 2) := by decide +kernel
theorem dX5_mid_92 : decode cX5_mid 92 = .ok (.ldc2_w 269, 3) := by decide +kernel
theorem dX5_mid_95 : decode cX5_mid 95 = .ok (.invokevirtual 246, 3) := by decide +kernel
theorem dX5_mid_98 : decode cX5_mid 98 = .ok (.iconst 1, 1) := by decide +kernel
theorem dX5_mid_99 : decode cX5_mid 99 = .ok (.ireturn, 1) := by decide +kernel
theorem dX5_lots_0 : decode cX5_lots 0 = .ok (.aload_n 0, 1) := by decide +kernel
theorem dX5_lots_1 : decode cX5_lots 1 = .ok (.getfield 25, 3) := by decide +kernel
theorem dX5_lots_4 : decode cX5_lots 4 = .ok (.invokevirtual 187, 3) := by decide +kernel
theorem dX5_lots_7 : decode cX5_lots 7 = .ok (.ifCond .ne 6, 3) := by decide +kernel
theorem dX5_lots_10 : decode cX5_lots 10 = .ok (.bipush (-4), 2) := by decide +kernel
theorem dX5_lots_12 : decode cX5_lots 12 = .ok (.ireturn, 1) := by decide +kernel
theorem dX5_lots_13 : decode cX5_lots 13 = .ok (.iload_n 1, 1) := by decide +kernel
theorem dX5_lots_14 : decode cX5_lots 14 = .ok (.iconst 1, 1) := by decide +kernel
theorem dX5_lots_15 : decode cX5_lots 15 = .ok (.if_icmp .lt 23, 3) := by decide +kernel
theorem dX5_lots_18 : decode cX5_lots 18 = .ok (.iload_n 1, 1) := by decide +kernel
theorem dX5_lots_19 : decode cX5_lots 19 = .ok (.bipush 20, 2) := by decide +kernel
theorem dX5_lots_21 : decode cX5_lots 21 = .ok (.if_icmp .gt 17, 3) := by decide +kernel
theorem dX5_lots_24 : decode cX5_lots 24 = .ok (.iload_n 2, 1) := by decide +kernel
theorem dX5_lots_25 : decode cX5_lots 25 = .ok (.iconst 1, 1) := by decide +kernel
theorem dX5_lots_26 : decode cX5_lots 26 = .ok (.if_icmp .lt 12, 3) := by decide +kernel
theorem dX5_lots_29 : decode cX5_lots 29 = .ok (.iload_n 2, 1) := by decide +kernel
theorem dX5_lots_30 : decode cX5_lots 30 = .ok (.i2l, 1) := by decide +kernel
theorem dX5_lots_31 : decode cX5_lots 31 = .ok (.ldc2_w 271, 3) := by decide +kernel
theorem dX5_lots_34 : decode cX5_lots 34 = .ok (.lcmp, 1) := by decide +kernel
theorem dX5_lots_35 : decode cX5_lots 35 = .ok (.ifCond .lt 5, 3) := by decide +kernel
theorem dX5_lots_38 : decode cX5_lots 38 = .ok (.iconst (-1), 1) := by decide +kernel
theorem dX5_lots_39 : decode cX5_lots 39 = .ok (.ireturn, 1) := by decide +kernel
theorem dX5_lots_40 : decode cX5_lots 40 = .ok (.aload_n 0, 1) := by decide +kernel
theorem dX5_lots_41 : decode cX5_lots 41 = .ok (.getfield 25, 3) := by decide +kernel
theorem dX5_lots_44 : decode cX5_lots 44 = .ok (.invokevirtual 188, 3) := by decide +kernel
theorem dX5_lots_47 : decode cX5_lots 47 = .ok (.iload_n 1, 1) := by decide +kernel
theorem dX5_lots_48 : decode cX5_lots 48 = .ok (.if_icmp .ge 6, 3) := by decide +kernel
theorem dX5_lots_51 : decode cX5_lots 51 = .ok (.bipush (-2), 2) := by decide +kernel
theorem dX5_lots_53 : decode cX5_lots 53 = .ok (.ireturn, 1) := by decide +kernel
theorem dX5_lots_54 : decode cX5_lots 54 = .ok (.iload_n 2, 1) := by decide +kernel
theorem dX5_lots_55 : decode cX5_lots 55 = .ok (.i2l, 1) := by decide +kernel
theorem dX5_lots_56 : decode cX5_lots 56 = .ok (.lstore_n 3, 1) := by decide +kernel
theorem dX5_lots_57 : decode cX5_lots 57 = .ok (.iconst 0, 1) := by decide +kernel
theorem dX5_lots_58 : decode cX5_lots 58 = .ok (.istore 5, 2) := by decide +kernel
theorem dX5_lots_60 : decode cX5_lots 60 = .ok (.iload 5, 2) := by decide +kernel
theorem dX5_lots_62 : decode cX5_lots 62 = .ok (.iload_n 1, 1) := by decide +kernel
theorem dX5_lots_63 : decode cX5_lots 63 = .ok (.if_icmp .ge 39, 3) := by decide +kernel
theorem dX5_lots_66 : decode cX5_lots 66 = .ok (.lload_n 3, 1) := by decide +kernel
theorem dX5_lots_67 : decode cX5_lots 67 = .ok (.ldc2_w 273, 3) := by decide +kernel
theorem dX5_lots_70 : decode cX5_lots 70 = .ok (.lmul, 1) := by decide +kernel
theorem dX5_lots_71 : decode cX5_lots 71 = .ok (.ldc2_w 271, 3) := by decide +kernel
theorem dX5_lots_74 : decode cX5_lots 74 = .ok (.lrem, 1) := by decide +kernel
theorem dX5_lots_75 : decode cX5_lots 75 = .ok (.lstore_n 3, 1) := by decide +kernel
theorem dX5_lots_76 : decode cX5_lots 76 = .ok (.aload_n 0, 1) := by decide +kernel
theorem dX5_lots_77 : decode cX5_lots 77 = .ok (.lload_n 3, 1) := by decide +kernel
theorem dX5_lots_78 : decode cX5_lots 78 = .ok (.ldc2_w 275, 3) := by decide +kernel
theorem dX5_lots_81 : decode cX5_lots 81 = .ok (.lrem, 1) := by decide +kernel
theorem dX5_lots_82 : decode cX5_lots 82 = .ok (.l2i, 1) := by decide +kernel
theorem dX5_lots_83 : decode cX5_lots 83 = .ok (.lload_n 3, 1) := by decide +kernel
theorem dX5_lots_84 : decode cX5_lots 84 = .ok (.ldc2_w 277, 3) := by decide +kernel
theorem dX5_lots_87 : decode cX5_lots 87 = .ok (.ldiv, 1) := by decide +kernel
theorem dX5_lots_88 : decode cX5_lots 88 = .ok (.ldc2_w 279, 3) := by decide +kernel
theorem dX5_lots_91 : decode cX5_lots 91 = .ok (.lrem, 1) := by decide +kernel
theorem dX5_lots_92 : decode cX5_lots 92 = .ok (.l2i, 1) := by decide +kernel
theorem dX5_lots_93 : decode cX5_lots 93 = .ok (.invokevirtual 281, 3) := by decide +kernel
theorem dX5_lots_96 : decode cX5_lots 96 = .ok (.iinc 5 1, 3) := by decide +kernel
theorem dX5_lots_99 : decode cX5_lots 99 = .ok (.goto (-39), 3) := by decide +kernel
theorem dX5_lots_102 : decode cX5_lots 102 = .ok (.aload_n 0, 1) := by decide +kernel
theorem dX5_lots_103 : decode cX5_lots 103 = .ok (.getfield 32, 3) := by decide +kernel
theorem dX5_lots_106 : decode cX5_lots 106 = .ok (.aload_n 0, 1) := by decide +kernel
theorem dX5_lots_107 : decode cX5_lots 107 = .ok (.getfield 25, 3) := by decide +kernel
theorem dX5_lots_110 : decode cX5_lots 110 = .ok (.invokevirtual 160, 3) := by decide +kernel
theorem dX5_lots_113 : decode cX5_lots 113 = .ok (.invokevirtual 184, 3) := by decide +kernel
theorem dX5_lots_116 : decode cX5_lots 116 = .ok (.ireturn, 1) := by decide +kernel
theorem dX5_asked_0 : decode cX5_asked 0 = .ok (.aload_n 0, 1) := by decide +kernel
theorem dX5_asked_1 : decode cX5_asked 1 = .ok (.getfield 60, 3) := by decide +kernel
theorem dX5_asked_4 : decode cX5_asked 4 = .ok (.ireturn, 1) := by decide +kernel
theorem dX5_upper_0 : decode cX5_upper 0 = .ok (.aload_n 0, 1) := by decide +kernel
theorem dX5_upper_1 : decode cX5_upper 1 = .ok (.getfield 63, 3) := by decide +kernel
theorem dX5_upper_4 : decode cX5_upper 4 = .ok (.lreturn, 1) := by decide +kernel
theorem dX5_lower_0 : decode cX5_lower 0 = .ok (.aload_n 0, 1) := by decide +kernel
theorem dX5_lower_1 : decode cX5_lower 1 = .ok (.getfield 67, 3) := by decide +kernel
theorem dX5_lower_4 : decode cX5_lower 4 = .ok (.lreturn, 1) := by decide +kernel
theorem dX5_count_0 : decode cX5_count 0 = .ok (.iload_n 1, 1) := by decide +kernel
theorem dX5_count_1 : decode cX5_count 1 = .ok (.ifCond .lt 9, 3) := by decide +kernel
theorem dX5_count_4 : decode cX5_count 4 = .ok (.iload_n 1, 1) := by decide +kernel
theorem dX5_count_5 : decode cX5_count 5 = .ok (.bipush 11, 2) := by decide +kernel
theorem dX5_count_7 : decode cX5_count 7 = .ok (.if_icmp .lt 7, 3) := by decide +kernel
theorem dX5_count_10 : decode cX5_count 10 = .ok (.iconst (-1), 1) := by decide +kernel
theorem dX5_count_11 : decode cX5_count 11 = .ok (.goto 8, 3) := by decide +kernel
theorem dX5_count_14 : decode cX5_count 14 = .ok (.aload_n 0, 1) := by decide +kernel
theorem dX5_count_15 : decode cX5_count 15 = .ok (.iload_n 1, 1) := by decide +kernel
theorem dX5_count_16 : decode cX5_count 16 = .ok (.invokevirtual 284, 3) := by decide +kernel
theorem dX5_count_19 : decode cX5_count 19 = .ok (.ireturn, 1) := by decide +kernel
theorem dX5_finding_0 : decode cX5_finding 0 = .ok (.aload_n 0, 1) := by decide +kernel
theorem dX5_finding_1 : decode cX5_finding 1 = .ok (.getfield 56, 3) := by decide +kernel
theorem dX5_finding_4 : decode cX5_finding 4 = .ok (.ireturn, 1) := by decide +kernel
theorem dX5_findings_0 : decode cX5_findings 0 = .ok (.iload_n 1, 1) := by decide +kernel
theorem dX5_findings_1 : decode cX5_findings 1 = .ok (.iconst 1, 1) := by decide +kernel
theorem dX5_findings_2 : decode cX5_findings 2 = .ok (.if_icmp .lt 8, 3) := by decide +kernel
theorem dX5_findings_5 : decode cX5_findings 5 = .ok (.iload_n 1, 1) := by decide +kernel
theorem dX5_findings_6 : decode cX5_findings 6 = .ok (.iconst 5, 1) := by decide +kernel
theorem dX5_findings_7 : decode cX5_findings 7 = .ok (.if_icmp .le 7, 3) := by decide +kernel
theorem dX5_findings_10 : decode cX5_findings 10 = .ok (.iconst (-1), 1) := by decide +kernel
theorem dX5_findings_11 : decode cX5_findings 11 = .ok (.goto 9, 3) := by decide +kernel
theorem dX5_findings_14 : decode cX5_findings 14 = .ok (.aload_n 0, 1) := by decide +kernel
theorem dX5_findings_15 : decode cX5_findings 15 = .ok (.getfield 53, 3) := by decide +kernel
theorem dX5_findings_18 : decode cX5_findings 18 = .ok (.iload_n 1, 1) := by decide +kernel
theorem dX5_findings_19 : decode cX5_findings 19 = .ok (.iaload, 1) := by decide +kernel
theorem dX5_findings_20 : decode cX5_findings 20 = .ok (.ireturn, 1) := by decide +kernel
theorem dX5_digest_0 : decode cX5_digest 0 = .ok (.ldc2_w 287, 3) := by decide +kernel
theorem dX5_digest_3 : decode cX5_digest 3 = .ok (.lstore_n 1, 1) := by decide +kernel
theorem dX5_digest_4 : decode cX5_digest 4 = .ok (.iconst 0, 1) := by decide +kernel
theorem dX5_digest_5 : decode cX5_digest 5 = .ok (.istore_n 3, 1) := by decide +kernel
theorem dX5_digest_6 : decode cX5_digest 6 = .ok (.iload_n 3, 1) := by decide +kernel
theorem dX5_digest_7 : decode cX5_digest 7 = .ok (.bipush 11, 2) := by decide +kernel
theorem dX5_digest_9 : decode cX5_digest 9 = .ok (.if_icmp .ge 22, 3) := by decide +kernel
theorem dX5_digest_12 : decode cX5_digest 12 = .ok (.ldc2_w 289, 3) := by decide +kernel
theorem dX5_digest_15 : decode cX5_digest 15 = .ok (.lload_n 1, 1) := by decide +kernel
theorem dX5_digest_16 : decode cX5_digest 16 = .ok (.lmul, 1) := by decide +kernel
theorem dX5_digest_17 : decode cX5_digest 17 = .ok (.aload_n 0, 1) := by decide +kernel
theorem dX5_digest_18 : decode cX5_digest 18 = .ok (.iload_n 3, 1) := by decide +kernel
theorem dX5_digest_19 : decode cX5_digest 19 = .ok (.invokevirtual 284, 3) := by decide +kernel
theorem dX5_digest_22 : decode cX5_digest 22 = .ok (.i2l, 1) := by decide +kernel
theorem dX5_digest_23 : decode cX5_digest 23 = .ok (.ladd, 1) := by decide +kernel
theorem dX5_digest_24 : decode cX5_digest 24 = .ok (.lstore_n 1, 1) := by decide +kernel
theorem dX5_digest_25 : decode cX5_digest 25 = .ok (.iinc 3 1, 3) := by decide +kernel
theorem dX5_digest_28 : decode cX5_digest 28 = .ok (.goto (-22), 3) := by decide +kernel
theorem dX5_digest_31 : decode cX5_digest 31 = .ok (.iconst 0, 1) := by decide +kernel
theorem dX5_digest_32 : decode cX5_digest 32 = .ok (.istore_n 3, 1) := by decide +kernel
theorem dX5_digest_33 : decode cX5_digest 33 = .ok (.iload_n 3, 1) := by decide +kernel
theorem dX5_digest_34 : decode cX5_digest 34 = .ok (.bipush 9, 2) := by decide +kernel
theorem dX5_digest_36 : decode cX5_digest 36 = .ok (.if_icmp .ge 50, 3) := by decide +kernel
theorem dX5_digest_39 : decode cX5_digest 39 = .ok (.aload_n 0, 1) := by decide +kernel
theorem dX5_digest_40 : decode cX5_digest 40 = .ok (.getfield 25, 3) := by decide +kernel
theorem dX5_digest_43 : decode cX5_digest 43 = .ok (.invokevirtual 187, 3) := by decide +kernel
theorem dX5_digest_46 : decode cX5_digest 46 = .ok (.ifCond .eq 40, 3) := by decide +kernel
theorem dX5_digest_49 : decode cX5_digest 49 = .ok (.iconst 0, 1) := by decide +kernel
theorem dX5_digest_50 : decode cX5_digest 50 = .ok (.istore 4, 2) := by decide +kernel
theorem dX5_digest_52 : decode cX5_digest 52 = .ok (.iload 4, 2) := by decide +kernel
theorem dX5_digest_54 : decode cX5_digest 54 = .ok (.bipush 6, 2) := by decide +kernel
theorem dX5_digest_56 : decode cX5_digest 56 = .ok (.if_icmp .ge 24, 3) := by decide +kernel
theorem dX5_digest_59 : decode cX5_digest 59 = .ok (.ldc2_w 289, 3) := by decide +kernel
theorem dX5_digest_62 : decode cX5_digest 62 = .ok (.lload_n 1, 1) := by decide +kernel
theorem dX5_digest_63 : decode cX5_digest 63 = .ok (.lmul, 1) := by decide +kernel
theorem dX5_digest_64 : decode cX5_digest 64 = .ok (.aload_n 0, 1) := by decide +kernel
theorem dX5_digest_65 : decode cX5_digest 65 = .ok (.iload_n 3, 1) := by decide +kernel
theorem dX5_digest_66 : decode cX5_digest 66 = .ok (.iload 4, 2) := by decide +kernel
theorem dX5_digest_68 : decode cX5_digest 68 = .ok (.invokevirtual 150, 3) := by decide +kernel
theorem dX5_digest_71 : decode cX5_digest 71 = .ok (.i2l, 1) := by decide +kernel
theorem dX5_digest_72 : decode cX5_digest 72 = .ok (.ladd, 1) := by decide +kernel
theorem dX5_digest_73 : decode cX5_digest 73 = .ok (.lstore_n 1, 1) := by decide +kernel
theorem dX5_digest_74 : decode cX5_digest 74 = .ok (.iinc 4 1, 3) := by decide +kernel
theorem dX5_digest_77 : decode cX5_digest 77 = .ok (.goto (-25), 3) := by decide +kernel
theorem dX5_digest_80 : decode cX5_digest 80 = .ok (.iinc 3 1, 3) := by decide +kernel
theorem dX5_digest_83 : decode cX5_digest 83 = .ok (.goto (-50), 3) := by decide +kernel
theorem dX5_digest_86 : decode cX5_digest 86 = .ok (.iconst 0, 1) := by decide +kernel
theorem dX5_digest_87 : decode cX5_digest 87 = .ok (.istore_n 3, 1) := by decide +kernel
theorem dX5_digest_88 : decode cX5_digest 88 = .ok (.iload_n 3, 1) := by decide +kernel
theorem dX5_digest_89 : decode cX5_digest 89 = .ok (.iconst 3, 1) := by decide +kernel
theorem dX5_digest_90 : decode cX5_digest 90 = .ok (.if_icmp .ge 42, 3) := by decide +kernel
theorem dX5_digest_93 : decode cX5_digest 93 = .ok (.ldc2_w 289, 3) := by decide +kernel
theorem dX5_digest_96 : decode cX5_digest 96 = .ok (.lload_n 1, 1) := by decide +kernel
theorem dX5_digest_97 : decode cX5_digest 97 = .ok (.lmul, 1) := by decide +kernel
theorem dX5_digest_98 : decode cX5_digest 98 = .ok (.aload_n 0, 1) := by decide +kernel
theorem dX5_digest_99 : decode cX5_digest 99 = .ok (.getfield 20, 3) := by decide +kernel
theorem dX5_digest_102 : decode cX5_digest 102 = .ok (.iload_n 3, 1) := by decide +kernel
theorem dX5_digest_103 : decode cX5_digest 103 = .ok (.aaload, 1) := by decide +kernel
theorem dX5_digest_104 : decode cX5_digest 104 = .ok (.invokevirtual 187, 3) := by decide +kernel
theorem dX5_digest_107 : decode cX5_digest 107 = .ok (.ifCond .eq 15, 3) := by decide +kernel
theorem dX5_digest_110 : decode cX5_digest 110 = .ok (.aload_n 0, 1) := by decide +kernel
theorem dX5_digest_111 : decode cX5_digest 111 = .ok (.getfield 20, 3) := by decide +kernel
theorem dX5_digest_114 : decode cX5_digest 114 = .ok (.iload_n 3, 1) := by decide +kernel
theorem dX5_digest_115 : decode cX5_digest 115 = .ok (.aaload, 1) := by decide +kernel
theorem dX5_digest_116 : decode cX5_digest 116 = .ok (.invokevirtual 206, 3) := by decide +kernel
theorem dX5_digest_119 : decode cX5_digest 119 = .ok (.goto 4, 3) := by decide +kernel
theorem dX5_digest_122 : decode cX5_digest 122 = .ok (.iconst (-1), 1) := by decide +kernel
theorem dX5_digest_123 : decode cX5_digest 123 = .ok (.i2l, 1) := by decide +kernel
theorem dX5_digest_124 : decode cX5_digest 124 = .ok (.ladd, 1) := by decide +kernel
theorem dX5_digest_125 : decode cX5_digest 125 = .ok (.lstore_n 1, 1) := by decide +kernel
theorem dX5_digest_126 : decode cX5_digest 126 = .ok (.iinc 3 1, 3) := by decide +kernel
theorem dX5_digest_129 : decode cX5_digest 129 = .ok (.goto (-41), 3) := by decide +kernel
theorem dX5_digest_132 : decode cX5_digest 132 = .ok (.iconst 0, 1) := by decide +kernel
theorem dX5_digest_133 : decode cX5_digest 133 = .ok (.istore_n 3, 1) := by decide +kernel
theorem dX5_digest_134 : decode cX5_digest 134 = .ok (.iload_n 3, 1) := by decide +kernel
theorem dX5_digest_135 : decode cX5_digest 135 = .ok (.bipush 6, 2) := by decide +kernel
theorem dX5_digest_137 : decode cX5_digest 137 = .ok (.if_icmp .ge 20, 3) := by decide +kernel
theorem dX5_digest_140 : decode cX5_digest 140 = .ok (.aload_n 0, 1) := by decide +kernel
theorem dX5_digest_141 : decode cX5_digest 141 = .ok (.getfield 11, 3) := by decide +kernel
theorem dX5_digest_144 : decode cX5_digest 144 = .ok (.iload_n 3, 1) := by decide +kernel
theorem dX5_digest_145 : decode cX5_digest 145 = .ok (.aaload, 1) := by decide +kernel
theorem dX5_digest_146 : decode cX5_digest 146 = .ok (.lload_n 1, 1) := by decide +kernel
theorem dX5_digest_147 : decode cX5_digest 147 = .ok (.invokevirtual 291, 3) := by decide +kernel
theorem dX5_digest_150 : decode cX5_digest 150 = .ok (.lstore_n 1, 1) := by decide +kernel
theorem dX5_digest_151 : decode cX5_digest 151 = .ok (.iinc 3 1, 3) := by decide +kernel
theorem dX5_digest_154 : decode cX5_digest 154 = .ok (.goto (-20), 3) := by decide +kernel
theorem dX5_digest_157 : decode cX5_digest 157 = .ok (.iconst 0, 1) := by decide +kernel
theorem dX5_digest_158 : decode cX5_digest 158 = .ok (.istore_n 3, 1) := by decide +kernel
theorem dX5_digest_159 : decode cX5_digest 159 = .ok (.iload_n 3, 1) := by decide +kernel
theorem dX5_digest_160 : decode cX5_digest 160 = .ok (.iconst 4, 1) := by decide +kernel
theorem dX5_digest_161 : decode cX5_digest 161 = .ok (.if_icmp .ge 20, 3) := by decide +kernel
theorem dX5_digest_164 : decode cX5_digest 164 = .ok (.aload_n 0, 1) := by decide +kernel
theorem dX5_digest_165 : decode cX5_digest 165 = .ok (.getfield 15, 3) := by decide +kernel
theorem dX5_digest_168 : decode cX5_digest 168 = .ok (.iload_n 3, 1) := by decide +kernel
theorem dX5_digest_169 : decode cX5_digest 169 = .ok (.aaload, 1) := by decide +kernel
theorem dX5_digest_170 : decode cX5_digest 170 = .ok (.lload_n 1, 1) := by decide +kernel
theorem dX5_digest_171 : decode cX5_digest 171 = .ok (.invokevirtual 291, 3) := by decide +kernel
theorem dX5_digest_174 : decode cX5_digest 174 = .ok (.lstore_n 1, 1) := by decide +kernel
theorem dX5_digest_175 : decode cX5_digest 175 = .ok (.iinc 3 1, 3) := by decide +kernel
theorem dX5_digest_178 : decode cX5_digest 178 = .ok (.goto (-19), 3) := by decide +kernel
theorem dX5_digest_181 : decode cX5_digest 181 = .ok (.lload_n 1, 1) := by decide +kernel
theorem dX5_digest_182 : decode cX5_digest 182 = .ok (.lreturn, 1) := by decide +kernel
theorem dX5_found_0 : decode cX5_found 0 = .ok (.aload_n 0, 1) := by decide +kernel
theorem dX5_found_1 : decode cX5_found 1 = .ok (.iload_n 1, 1) := by decide +kernel
theorem dX5_found_2 : decode cX5_found 2 = .ok (.putfield 56, 3) := by decide +kernel
theorem dX5_found_5 : decode cX5_found 5 = .ok (.iload_n 1, 1) := by decide +kernel
theorem dX5_found_6 : decode cX5_found 6 = .ok (.iconst 1, 1) := by decide +kernel
theorem dX5_found_7 : decode cX5_found 7 = .ok (.if_icmp .lt 18, 3) := by decide +kernel
theorem dX5_found_10 : decode cX5_found 10 = .ok (.iload_n 1, 1) := by decide +kernel
theorem dX5_found_11 : decode cX5_found 11 = .ok (.iconst 5, 1) := by decide +kernel
theorem dX5_found_12 : decode cX5_found 12 = .ok (.if_icmp .gt 13, 3) := by decide +kernel
theorem dX5_found_15 : decode cX5_found 15 = .ok (.aload_n 0, 1) := by decide +kernel
theorem dX5_found_16 : decode cX5_found 16 = .ok (.getfield 53, 3) := by decide +kernel
theorem dX5_found_19 : decode cX5_found 19 = .ok (.iload_n 1, 1) := by decide +kernel
theorem dX5_found_20 : decode cX5_found 20 = .ok (.dup2, 1) := by decide +kernel
theorem dX5_found_21 : decode cX5_found 21 = .ok (.iaload, 1) := by decide +kernel
theorem dX5_found_22 : decode cX5_found 22 = .ok (.iconst 1, 1) := by decide +kernel
theorem dX5_found_23 : decode cX5_found 23 = .ok (.iadd, 1) := by decide +kernel
theorem dX5_found_24 : decode cX5_found 24 = .ok (.iastore, 1) := by decide +kernel
theorem dX5_found_25 : decode cX5_found 25 = .ok (.bipush (-3), 2) := by decide +kernel
theorem dX5_found_27 : decode cX5_found 27 = .ok (.ireturn, 1) := by decide +kernel
theorem dX5_refusalOfMissing_0 : decode cX5_refusalOfMissing 0 = .ok (.aload_n 1, 1) := by decide +kernel
theorem dX5_refusalOfMissing_1 : decode cX5_refusalOfMissing 1 = .ok (.ifnonnull 5, 3) := by decide +kernel
theorem dX5_refusalOfMissing_4 : decode cX5_refusalOfMissing 4 = .ok (.iconst (-1), 1) := by decide +kernel
theorem dX5_refusalOfMissing_5 : decode cX5_refusalOfMissing 5 = .ok (.ireturn, 1) := by decide +kernel
theorem dX5_refusalOfMissing_6 : decode cX5_refusalOfMissing 6 = .ok (.aload_n 1, 1) := by decide +kernel
theorem dX5_refusalOfMissing_7 : decode cX5_refusalOfMissing 7 = .ok (.invokevirtual 106, 3) := by decide +kernel
theorem dX5_refusalOfMissing_10 : decode cX5_refusalOfMissing 10 = .ok (.ifCond .eq 7, 3) := by decide +kernel
theorem dX5_refusalOfMissing_13 : decode cX5_refusalOfMissing 13 = .ok (.iconst 0, 1) := by decide +kernel
theorem dX5_refusalOfMissing_14 : decode cX5_refusalOfMissing 14 = .ok (.goto 8, 3) := by decide +kernel
theorem dX5_refusalOfMissing_17 : decode cX5_refusalOfMissing 17 = .ok (.aload_n 0, 1) := by decide +kernel
theorem dX5_refusalOfMissing_18 : decode cX5_refusalOfMissing 18 = .ok (.iconst 1, 1) := by decide +kernel
theorem dX5_refusalOfMissing_19 : decode cX5_refusalOfMissing 19 = .ok (.invokevirtual 103, 3) := by decide +kernel
theorem dX5_refusalOfMissing_22 : decode cX5_refusalOfMissing 22 = .ok (.ireturn, 1) := by decide +kernel
theorem dX5_refusalOfPlace_0 : decode cX5_refusalOfPlace 0 = .ok (.aload_n 0, 1) := by decide +kernel
theorem dX5_refusalOfPlace_1 : decode cX5_refusalOfPlace 1 = .ok (.aload_n 1, 1) := by decide +kernel
theorem dX5_refusalOfPlace_2 : decode cX5_refusalOfPlace 2 = .ok (.invokevirtual 96, 3) := by decide +kernel
theorem dX5_refusalOfPlace_5 : decode cX5_refusalOfPlace 5 = .ok (.istore_n 3, 1) := by decide +kernel
theorem dX5_refusalOfPlace_6 : decode cX5_refusalOfPlace 6 = .ok (.iload_n 3, 1) := by decide +kernel
theorem dX5_refusalOfPlace_7 : decode cX5_refusalOfPlace 7 = .ok (.ifCond .ne 7, 3) := by decide +kernel
theorem dX5_refusalOfPlace_10 : decode cX5_refusalOfPlace 10 = .ok (.aload_n 1, 1) := by decide +kernel
theorem dX5_refusalOfPlace_11 : decode cX5_refusalOfPlace 11 = .ok (.ifnonnull 5, 3) := by decide +kernel
theorem dX5_refusalOfPlace_14 : decode cX5_refusalOfPlace 14 = .ok (.iload_n 3, 1) := by decide +kernel
theorem dX5_refusalOfPlace_15 : decode cX5_refusalOfPlace 15 = .ok (.ireturn, 1) := by decide +kernel
theorem dX5_refusalOfPlace_16 : decode cX5_refusalOfPlace 16 = .ok (.aload_n 1, 1) := by decide +kernel
theorem dX5_refusalOfPlace_17 : decode cX5_refusalOfPlace 17 = .ok (.iload_n 2, 1) := by decide +kernel
theorem dX5_refusalOfPlace_18 : decode cX5_refusalOfPlace 18 = .ok (.invokevirtual 295, 3) := by decide +kernel
theorem dX5_refusalOfPlace_21 : decode cX5_refusalOfPlace 21 = .ok (.ifCond .eq 7, 3) := by decide +kernel
theorem dX5_refusalOfPlace_24 : decode cX5_refusalOfPlace 24 = .ok (.iconst 0, 1) := by decide +kernel
theorem dX5_refusalOfPlace_25 : decode cX5_refusalOfPlace 25 = .ok (.goto 8, 3) := by decide +kernel
theorem dX5_refusalOfPlace_28 : decode cX5_refusalOfPlace 28 = .ok (.aload_n 0, 1) := by decide +kernel
theorem dX5_refusalOfPlace_29 : decode cX5_refusalOfPlace 29 = .ok (.iconst 2, 1) := by decide +kernel
theorem dX5_refusalOfPlace_30 : decode cX5_refusalOfPlace 30 = .ok (.invokevirtual 103, 3) := by decide +kernel
theorem dX5_refusalOfPlace_33 : decode cX5_refusalOfPlace 33 = .ok (.ireturn, 1) := by decide +kernel
theorem dX5_refusalOfSet_0 : decode cX5_refusalOfSet 0 = .ok (.aload_n 0, 1) := by decide +kernel
theorem dX5_refusalOfSet_1 : decode cX5_refusalOfSet 1 = .ok (.getfield 25, 3) := by decide +kernel
theorem dX5_refusalOfSet_4 : decode cX5_refusalOfSet 4 = .ok (.invokevirtual 187, 3) := by decide +kernel
theorem dX5_refusalOfSet_7 : decode cX5_refusalOfSet 7 = .ok (.ifCond .ne 6, 3) := by decide +kernel
theorem dX5_refusalOfSet_10 : decode cX5_refusalOfSet 10 = .ok (.bipush (-4), 2) := by decide +kernel
theorem dX5_refusalOfSet_12 : decode cX5_refusalOfSet 12 = .ok (.ireturn, 1) := by decide +kernel
theorem dX5_refusalOfSet_13 : decode cX5_refusalOfSet 13 = .ok (.iload_n 1, 1) := by decide +kernel
theorem dX5_refusalOfSet_14 : decode cX5_refusalOfSet 14 = .ok (.ifCond .lt 10, 3) := by decide +kernel
theorem dX5_refusalOfSet_17 : decode cX5_refusalOfSet 17 = .ok (.iload_n 1, 1) := by decide +kernel
theorem dX5_refusalOfSet_18 : decode cX5_refusalOfSet 18 = .ok (.sipush 511, 3) := by decide +kernel
theorem dX5_refusalOfSet_21 : decode cX5_refusalOfSet 21 = .ok (.if_icmp .le 7, 3) := by decide +kernel
theorem dX5_refusalOfSet_24 : decode cX5_refusalOfSet 24 = .ok (.iconst (-1), 1) := by decide +kernel
theorem dX5_refusalOfSet_25 : decode cX5_refusalOfSet 25 = .ok (.goto 4, 3) := by decide +kernel
theorem dX5_refusalOfSet_28 : decode cX5_refusalOfSet 28 = .ok (.iconst 0, 1) := by decide +kernel
theorem dX5_refusalOfSet_29 : decode cX5_refusalOfSet 29 = .ok (.ireturn, 1) := by decide +kernel
theorem dX5_refusalOfPairs_0 : decode cX5_refusalOfPairs 0 = .ok (.aload_n 0, 1) := by decide +kernel
theorem dX5_refusalOfPairs_1 : decode cX5_refusalOfPairs 1 = .ok (.iload_n 1, 1) := by decide +kernel
theorem dX5_refusalOfPairs_2 : decode cX5_refusalOfPairs 2 = .ok (.invokevirtual 146, 3) := by decide +kernel
theorem dX5_refusalOfPairs_5 : decode cX5_refusalOfPairs 5 = .ok (.ifCond .eq 7, 3) := by decide +kernel
theorem dX5_refusalOfPairs_8 : decode cX5_refusalOfPairs 8 = .ok (.aload_n 2, 1) := by decide +kernel
theorem dX5_refusalOfPairs_9 : decode cX5_refusalOfPairs 9 = .ok (.ifnonnull 5, 3) := by decide +kernel
theorem dX5_refusalOfPairs_12 : decode cX5_refusalOfPairs 12 = .ok (.iconst (-1), 1) := by decide +kernel
theorem dX5_refusalOfPairs_13 : decode cX5_refusalOfPairs 13 = .ok (.ireturn, 1) := by decide +kernel
theorem dX5_refusalOfPairs_14 : decode cX5_refusalOfPairs 14 = .ok (.aload_n 2, 1) := by decide +kernel
theorem dX5_refusalOfPairs_15 : decode cX5_refusalOfPairs 15 = .ok (.invokevirtual 106, 3) := by decide +kernel
theorem dX5_refusalOfPairs_18 : decode cX5_refusalOfPairs 18 = .ok (.ifCond .ne 9, 3) := by decide +kernel
theorem dX5_refusalOfPairs_21 : decode cX5_refusalOfPairs 21 = .ok (.aload_n 0, 1) := by decide +kernel
theorem dX5_refusalOfPairs_22 : decode cX5_refusalOfPairs 22 = .ok (.iconst 1, 1) := by decide +kernel
theorem dX5_refusalOfPairs_23 : decode cX5_refusalOfPairs 23 = .ok (.invokevirtual 103, 3) := by decide +kernel
theorem dX5_refusalOfPairs_26 : decode cX5_refusalOfPairs 26 = .ok (.ireturn, 1) := by decide +kernel
theorem dX5_refusalOfPairs_27 : decode cX5_refusalOfPairs 27 = .ok (.aload_n 2, 1) := by decide +kernel
theorem dX5_refusalOfPairs_28 : decode cX5_refusalOfPairs 28 = .ok (.invokevirtual 118, 3) := by decide +kernel
theorem dX5_refusalOfPairs_31 : decode cX5_refusalOfPairs 31 = .ok (.iconst 2, 1) := by decide +kernel
theorem dX5_refusalOfPairs_32 : decode cX5_refusalOfPairs 32 = .ok (.irem, 1) := by decide +kernel
theorem dX5_refusalOfPairs_33 : decode cX5_refusalOfPairs 33 = .ok (.ifCond .ne 12, 3) := by decide +kernel
theorem dX5_refusalOfPairs_36 : decode cX5_refusalOfPairs 36 = .ok (.aload_n 2, 1) := by decide +kernel
theorem dX5_refusalOfPairs_37 : decode cX5_refusalOfPairs 37 = .ok (.invokevirtual 118, 3) := by decide +kernel
theorem dX5_refusalOfPairs_40 : decode cX5_refusalOfPairs 40 = .ok (.bipush 16, 2) := by decide +kernel
theorem dX5_refusalOfPairs_42 : decode cX5_refusalOfPairs 42 = .ok (.if_icmp .le 9, 3) := by decide +kernel
theorem dX5_refusalOfPairs_45 : decode cX5_refusalOfPairs 45 = .ok (.aload_n 0, 1) := by decide +kernel
theorem dX5_refusalOfPairs_46 : decode cX5_refusalOfPairs 46 = .ok (.iconst 5, 1) := by decide +kernel
theorem dX5_refusalOfPairs_47 : decode cX5_refusalOfPairs 47 = .ok (.invokevirtual 103, 3) := by decide +kernel
theorem dX5_refusalOfPairs_50 : decode cX5_refusalOfPairs 50 = .ok (.ireturn, 1) := by decide +kernel
theorem dX5_refusalOfPairs_51 : decode cX5_refusalOfPairs 51 = .ok (.iconst 0, 1) := by decide +kernel
theorem dX5_refusalOfPairs_52 : decode cX5_refusalOfPairs 52 = .ok (.istore_n 3, 1) := by decide +kernel
theorem dX5_refusalOfPairs_53 : decode cX5_refusalOfPairs 53 = .ok (.iload_n 3, 1) := by decide +kernel
theorem dX5_refusalOfPairs_54 : decode cX5_refusalOfPairs 54 = .ok (.aload_n 2, 1) := by decide +kernel
theorem dX5_refusalOfPairs_55 : decode cX5_refusalOfPairs 55 = .ok (.invokevirtual 118, 3) := by decide +kernel
theorem dX5_refusalOfPairs_58 : decode cX5_refusalOfPairs 58 = .ok (.if_icmp .ge 47, 3) := by decide +kernel
theorem dX5_refusalOfPairs_61 : decode cX5_refusalOfPairs 61 = .ok (.aload_n 2, 1) := by decide +kernel
theorem dX5_refusalOfPairs_62 : decode cX5_refusalOfPairs 62 = .ok (.iload_n 3, 1) := by decide +kernel
theorem dX5_refusalOfPairs_63 : decode cX5_refusalOfPairs 63 = .ok (.iconst 1, 1) := by decide +kernel
theorem dX5_refusalOfPairs_64 : decode cX5_refusalOfPairs 64 = .ok (.iadd, 1) := by decide +kernel
theorem dX5_refusalOfPairs_65 : decode cX5_refusalOfPairs 65 = .ok (.invokevirtual 85, 3) := by decide +kernel
theorem dX5_refusalOfPairs_68 : decode cX5_refusalOfPairs 68 = .ok (.istore 4, 2) := by decide +kernel
theorem dX5_refusalOfPairs_70 : decode cX5_refusalOfPairs 70 = .ok (.aload_n 0, 1) := by decide +kernel
theorem dX5_refusalOfPairs_71 : decode cX5_refusalOfPairs 71 = .ok (.aload_n 2, 1) := by decide +kernel
theorem dX5_refusalOfPairs_72 : decode cX5_refusalOfPairs 72 = .ok (.iload_n 3, 1) := by decide +kernel
theorem dX5_refusalOfPairs_73 : decode cX5_refusalOfPairs 73 = .ok (.invokevirtual 85, 3) := by decide +kernel
theorem dX5_refusalOfPairs_76 : decode cX5_refusalOfPairs 76 = .ok (.invokevirtual 146, 3) := by decide +kernel
theorem dX5_refusalOfPairs_79 : decode cX5_refusalOfPairs 79 = .ok (.ifCond .eq 14, 3) := by decide +kernel
theorem dX5_refusalOfPairs_82 : decode cX5_refusalOfPairs 82 = .ok (.iload 4, 2) := by decide +kernel
theorem dX5_refusalOfPairs_84 : decode cX5_refusalOfPairs 84 = .ok (.ifCond .lt 9, 3) := by decide +kernel
theorem dX5_refusalOfPairs_87 : decode cX5_refusalOfPairs 87 = .ok (.iload 4, 2) := by decide +kernel
theorem dX5_refusalOfPairs_89 : decode cX5_refusalOfPairs 89 = .ok (.iconst 1, 1) := by decide +kernel
theorem dX5_refusalOfPairs_90 : decode cX5_refusalOfPairs 90 = .ok (.if_icmp .le 9, 3) := by decide +kernel
theorem dX5_refusalOfPairs_93 : decode cX5_refusalOfPairs 93 = .ok (.aload_n 0, 1) := by decide +kernel
theorem dX5_refusalOfPairs_94 : decode cX5_refusalOfPairs 94 = .ok (.iconst 3, 1) := by decide +kernel
theorem dX5_refusalOfPairs_95 : decode cX5_refusalOfPairs 95 = .ok (.invokevirtual 103, 3) := by decide +kernel
theorem dX5_refusalOfPairs_98 : decode cX5_refusalOfPairs 98 = .ok (.ireturn, 1) := by decide +kernel
theorem dX5_refusalOfPairs_99 : decode cX5_refusalOfPairs 99 = .ok (.iinc 3 2, 3) := by decide +kernel
theorem dX5_refusalOfPairs_102 : decode cX5_refusalOfPairs 102 = .ok (.goto (-49), 3) := by decide +kernel
theorem dX5_refusalOfPairs_105 : decode cX5_refusalOfPairs 105 = .ok (.iconst 0, 1) := by decide +kernel
theorem dX5_refusalOfPairs_106 : decode cX5_refusalOfPairs 106 = .ok (.ireturn, 1) := by decide +kernel
theorem dX5_rowAt_0 : decode cX5_rowAt 0 = .ok (.iload_n 1, 1) := by decide +kernel
theorem dX5_rowAt_1 : decode cX5_rowAt 1 = .ok (.ifCond .lt 18, 3) := by decide +kernel
theorem dX5_rowAt_4 : decode cX5_rowAt 4 = .ok (.iload_n 1, 1) := by decide +kernel
theorem dX5_rowAt_5 : decode cX5_rowAt 5 = .ok (.bipush 6, 2) := by decide +kernel
theorem dX5_rowAt_7 : decode cX5_rowAt 7 = .ok (.if_icmp .ge 12, 3) := by decide +kernel
theorem dX5_rowAt_10 : decode cX5_rowAt 10 = .ok (.aload_n 0, 1) := by decide +kernel
theorem dX5_rowAt_11 : decode cX5_rowAt 11 = .ok (.getfield 11, 3) := by decide +kernel
theorem dX5_rowAt_14 : decode cX5_rowAt 14 = .ok (.iload_n 1, 1) := by decide +kernel
theorem dX5_rowAt_15 : decode cX5_rowAt 15 = .ok (.aaload, 1) := by decide +kernel
theorem dX5_rowAt_16 : decode cX5_rowAt 16 = .ok (.goto 4, 3) := by decide +kernel
theorem dX5_rowAt_19 : decode cX5_rowAt 19 = .ok (.aconst_null, 1) := by decide +kernel
theorem dX5_rowAt_20 : decode cX5_rowAt 20 = .ok (.areturn, 1) := by decide +kernel
theorem dX5_textAt_0 : decode cX5_textAt 0 = .ok (.iload_n 1, 1) := by decide +kernel
theorem dX5_textAt_1 : decode cX5_textAt 1 = .ok (.ifCond .lt 17, 3) := by decide +kernel
theorem dX5_textAt_4 : decode cX5_textAt 4 = .ok (.iload_n 1, 1) := by decide +kernel
theorem dX5_textAt_5 : decode cX5_textAt 5 = .ok (.iconst 4, 1) := by decide +kernel
theorem dX5_textAt_6 : decode cX5_textAt 6 = .ok (.if_icmp .ge 12, 3) := by decide +kernel
theorem dX5_textAt_9 : decode cX5_textAt 9 = .ok (.aload_n 0, 1) := by decide +kernel
theorem dX5_textAt_10 : decode cX5_textAt 10 = .ok (.getfield 15, 3) := by decide +kernel
theorem dX5_textAt_13 : decode cX5_textAt 13 = .ok (.iload_n 1, 1) := by decide +kernel
theorem dX5_textAt_14 : decode cX5_textAt 14 = .ok (.aaload, 1) := by decide +kernel
theorem dX5_textAt_15 : decode cX5_textAt 15 = .ok (.goto 4, 3) := by decide +kernel
theorem dX5_textAt_18 : decode cX5_textAt 18 = .ok (.aconst_null, 1) := by decide +kernel
theorem dX5_textAt_19 : decode cX5_textAt 19 = .ok (.areturn, 1) := by decide +kernel
theorem dX5_keptAt_0 : decode cX5_keptAt 0 = .ok (.iload_n 1, 1) := by decide +kernel
theorem dX5_keptAt_1 : decode cX5_keptAt 1 = .ok (.ifCond .lt 17, 3) := by decide +kernel
theorem dX5_keptAt_4 : decode cX5_keptAt 4 = .ok (.iload_n 1, 1) := by decide +kernel
theorem dX5_keptAt_5 : decode cX5_keptAt 5 = .ok (.iconst 3, 1) := by decide +kernel
theorem dX5_keptAt_6 : decode cX5_keptAt 6 = .ok (.if_icmp .ge 12, 3) := by decide +kernel
theorem dX5_keptAt_9 : decode cX5_keptAt 9 = .ok (.aload_n 0, 1) := by decide +kernel
theorem dX5_keptAt_10 : decode cX5_keptAt 10 = .ok (.getfield 20, 3) := by decide +kernel
theorem dX5_keptAt_13 : decode cX5_keptAt 13 = .ok (.iload_n 1, 1) := by decide +kernel
theorem dX5_keptAt_14 : decode cX5_keptAt 14 = .ok (.aaload, 1) := by decide +kernel
theorem dX5_keptAt_15 : decode cX5_keptAt 15 = .ok (.goto 4, 3) := by decide +kernel
theorem dX5_keptAt_18 : decode cX5_keptAt 18 = .ok (.aconst_null, 1) := by decide +kernel
theorem dX5_keptAt_19 : decode cX5_keptAt 19 = .ok (.areturn, 1) := by decide +kernel
theorem dX5_isLamp_0 : decode cX5_isLamp 0 = .ok (.aload_n 0, 1) := by decide +kernel
theorem dX5_isLamp_1 : decode cX5_isLamp 1 = .ok (.getfield 25, 3) := by decide +kernel
theorem dX5_isLamp_4 : decode cX5_isLamp 4 = .ok (.invokevirtual 187, 3) := by decide +kernel
theorem dX5_isLamp_7 : decode cX5_isLamp 7 = .ok (.ifCond .eq 17, 3) := by decide +kernel
theorem dX5_isLamp_10 : decode cX5_isLamp 10 = .ok (.iload_n 1, 1) := by decide +kernel
theorem dX5_isLamp_11 : decode cX5_isLamp 11 = .ok (.ifCond .lt 13, 3) := by decide +kernel
theorem dX5_isLamp_14 : decode cX5_isLamp 14 = .ok (.iload_n 1, 1) := by decide +kernel
theorem dX5_isLamp_15 : decode cX5_isLamp 15 = .ok (.bipush 9, 2) := by decide +kernel
theorem dX5_isLamp_17 : decode cX5_isLamp 17 = .ok (.if_icmp .ge 7, 3) := by decide +kernel
theorem dX5_isLamp_20 : decode cX5_isLamp 20 = .ok (.iconst 1, 1) := by decide +kernel
theorem dX5_isLamp_21 : decode cX5_isLamp 21 = .ok (.goto 4, 3) := by decide +kernel
theorem dX5_isLamp_24 : decode cX5_isLamp 24 = .ok (.iconst 0, 1) := by decide +kernel
theorem dX5_isLamp_25 : decode cX5_isLamp 25 = .ok (.ireturn, 1) := by decide +kernel
theorem dX5_hasStep_0 : decode cX5_hasStep 0 = .ok (.iload_n 2, 1) := by decide +kernel
theorem dX5_hasStep_1 : decode cX5_hasStep 1 = .ok (.ifCond .lt 22, 3) := by decide +kernel
theorem dX5_hasStep_4 : decode cX5_hasStep 4 = .ok (.iload_n 2, 1) := by decide +kernel
theorem dX5_hasStep_5 : decode cX5_hasStep 5 = .ok (.aload_n 0, 1) := by decide +kernel
theorem dX5_hasStep_6 : decode cX5_hasStep 6 = .ok (.getfield 32, 3) := by decide +kernel
theorem dX5_hasStep_9 : decode cX5_hasStep 9 = .ok (.iload_n 1, 1) := by decide +kernel
theorem dX5_hasStep_10 : decode cX5_hasStep 10 = .ok (.invokevirtual 154, 3) := by decide +kernel
theorem dX5_hasStep_13 : decode cX5_hasStep 13 = .ok (.invokestatic 298, 3) := by decide +kernel
theorem dX5_hasStep_16 : decode cX5_hasStep 16 = .ok (.if_icmp .gt 7, 3) := by decide +kernel
theorem dX5_hasStep_19 : decode cX5_hasStep 19 = .ok (.iconst 1, 1) := by decide +kernel
theorem dX5_hasStep_20 : decode cX5_hasStep 20 = .ok (.goto 4, 3) := by decide +kernel
theorem dX5_hasStep_23 : decode cX5_hasStep 23 = .ok (.iconst 0, 1) := by decide +kernel
theorem dX5_hasStep_24 : decode cX5_hasStep 24 = .ok (.ireturn, 1) := by decide +kernel
theorem dX5_touchedBy_0 : decode cX5_touchedBy 0 = .ok (.iload_n 0, 1) := by decide +kernel
theorem dX5_touchedBy_1 : decode cX5_touchedBy 1 = .ok (.ifCond .lt 19, 3) := by decide +kernel
theorem dX5_touchedBy_4 : decode cX5_touchedBy 4 = .ok (.iload_n 0, 1) := by decide +kernel
theorem dX5_touchedBy_5 : decode cX5_touchedBy 5 = .ok (.getstatic 301, 3) := by decide +kernel
theorem dX5_touchedBy_8 : decode cX5_touchedBy 8 = .ok (.arraylength, 1) := by decide +kernel
theorem dX5_touchedBy_9 : decode cX5_touchedBy 9 = .ok (.if_icmp .ge 11, 3) := by decide +kernel
theorem dX5_touchedBy_12 : decode cX5_touchedBy 12 = .ok (.getstatic 301, 3) := by decide +kernel
theorem dX5_touchedBy_15 : decode cX5_touchedBy 15 = .ok (.iload_n 0, 1) := by decide +kernel
theorem dX5_touchedBy_16 : decode cX5_touchedBy 16 = .ok (.iaload, 1) := by decide +kernel
theorem dX5_touchedBy_17 : decode cX5_touchedBy 17 = .ok (.goto 4, 3) := by decide +kernel
theorem dX5_touchedBy_20 : decode cX5_touchedBy 20 = .ok (.iconst 0, 1) := by decide +kernel
theorem dX5_touchedBy_21 : decode cX5_touchedBy 21 = .ok (.ireturn, 1) := by decide +kernel
theorem dX5_makeAnew_0 : decode cX5_makeAnew 0 = .ok (.aload_n 1, 1) := by decide +kernel
theorem dX5_makeAnew_1 : decode cX5_makeAnew 1 = .ok (.ifnull 8, 3) := by decide +kernel
theorem dX5_makeAnew_4 : decode cX5_makeAnew 4 = .ok (.iload_n 2, 1) := by decide +kernel
theorem dX5_makeAnew_5 : decode cX5_makeAnew 5 = .ok (.iload_n 3, 1) := by decide +kernel
theorem dX5_makeAnew_6 : decode cX5_makeAnew 6 = .ok (.if_icmp .le 5, 3) := by decide +kernel
theorem dX5_makeAnew_9 : decode cX5_makeAnew 9 = .ok (.iconst (-1), 1) := by decide +kernel
theorem dX5_makeAnew_10 : decode cX5_makeAnew 10 = .ok (.ireturn, 1) := by decide +kernel
theorem dX5_makeAnew_11 : decode cX5_makeAnew 11 = .ok (.iload_n 2, 1) := by decide +kernel
theorem dX5_makeAnew_12 : decode cX5_makeAnew 12 = .ok (.ifCond .ge 9, 3) := by decide +kernel
theorem dX5_makeAnew_15 : decode cX5_makeAnew 15 = .ok (.aload_n 0, 1) := by decide +kernel
theorem dX5_makeAnew_16 : decode cX5_makeAnew 16 = .ok (.iconst 5, 1) := by decide +kernel
theorem dX5_makeAnew_17 : decode cX5_makeAnew 17 = .ok (.invokevirtual 103, 3) := by decide +kernel
theorem dX5_makeAnew_20 : decode cX5_makeAnew 20 = .ok (.ireturn, 1) := by decide +kernel
theorem dX5_makeAnew_21 : decode cX5_makeAnew 21 = .ok (.aload_n 1, 1) := by decide +kernel
theorem dX5_makeAnew_22 : decode cX5_makeAnew 22 = .ok (.iload_n 2, 1) := by decide +kernel
theorem dX5_makeAnew_23 : decode cX5_makeAnew 23 = .ok (.iload 4, 2) := by decide +kernel
theorem dX5_makeAnew_25 : decode cX5_makeAnew 25 = .ok (.invokevirtual 240, 3) := by decide +kernel
theorem dX5_makeAnew_28 : decode cX5_makeAnew 28 = .ok (.iload_n 2, 1) := by decide +kernel
theorem dX5_makeAnew_29 : decode cX5_makeAnew 29 = .ok (.ireturn, 1) := by decide +kernel
theorem dX5_tellAsked_0 : decode cX5_tellAsked 0 = .ok (.aload_n 0, 1) := by decide +kernel
theorem dX5_tellAsked_1 : decode cX5_tellAsked 1 = .ok (.iload_n 1, 1) := by decide +kernel
theorem dX5_tellAsked_2 : decode cX5_tellAsked 2 = .ok (.putfield 60, 3) := by decide +kernel
theorem dX5_tellAsked_5 : decode cX5_tellAsked 5 = .ok (.iconst 1, 1) := by decide +kernel
theorem dX5_tellAsked_6 : decode cX5_tellAsked 6 = .ok (.ireturn, 1) := by decide +kernel
theorem dX5_tellParts_0 : decode cX5_tellParts 0 = .ok (.lload_n 1, 1) := by decide +kernel
theorem dX5_tellParts_1 : decode cX5_tellParts 1 = .ok (.lload_n 3, 1) := by decide +kernel
theorem dX5_tellParts_2 : decode cX5_tellParts 2 = .ok (.invokestatic 304, 3) := by decide +kernel
theorem dX5_tellParts_5 : decode cX5_tellParts 5 = .ok (.lstore 5, 2) := by decide +kernel
theorem dX5_tellParts_7 : decode cX5_tellParts 7 = .ok (.lload 5, 2) := by decide +kernel
theorem dX5_tellParts_9 : decode cX5_tellParts 9 = .ok (.lconst 0, 1) := by decide +kernel
theorem dX5_tellParts_10 : decode cX5_tellParts 10 = .ok (.lcmp, 1) := by decide +kernel
theorem dX5_tellParts_11 : decode cX5_tellParts 11 = .ok (.ifCond .le 19, 3) := by decide +kernel
theorem dX5_tellParts_14 : decode cX5_tellParts 14 = .ok (.aload_n 0, 1) := by decide +kernel
theorem dX5_tellParts_15 : decode cX5_tellParts 15 = .ok (.lload_n 1, 1) := by decide +kernel
theorem dX5_tellParts_16 : decode cX5_tellParts 16 = .ok (.lload 5, 2) := by decide +kernel
theorem dX5_tellParts_18 : decode cX5_tellParts 18 = .ok (.ldiv, 1) := by decide +kernel
theorem dX5_tellParts_19 : decode cX5_tellParts 19 = .ok (.putfield 63, 3) := by decide +kernel
theorem dX5_tellParts_22 : decode cX5_tellParts 22 = .ok (.aload_n 0, 1) := by decide +kernel
theorem dX5_tellParts_23 : decode cX5_tellParts 23 = .ok (.lload_n 3, 1) := by decide +kernel
theorem dX5_tellParts_24 : decode cX5_tellParts 24 = .ok (.lload 5, 2) := by decide +kernel
theorem dX5_tellParts_26 : decode cX5_tellParts 26 = .ok (.ldiv, 1) := by decide +kernel
theorem dX5_tellParts_27 : decode cX5_tellParts 27 = .ok (.putfield 67, 3) := by decide +kernel
theorem dX5_tellParts_30 : decode cX5_tellParts 30 = .ok (.return_, 1) := by decide +kernel
theorem dX5_commonDivisor_0 : decode cX5_commonDivisor 0 = .ok (.lload_n 0, 1) := by decide +kernel
theorem dX5_commonDivisor_1 : decode cX5_commonDivisor 1 = .ok (.lstore 4, 2) := by decide +kernel
theorem dX5_commonDivisor_3 : decode cX5_commonDivisor 3 = .ok (.lload_n 2, 1) := by decide +kernel
theorem dX5_commonDivisor_4 : decode cX5_commonDivisor 4 = .ok (.lstore 6, 2) := by decide +kernel
theorem dX5_commonDivisor_6 : decode cX5_commonDivisor 6 = .ok (.iconst 0, 1) := by decide +kernel
theorem dX5_commonDivisor_7 : decode cX5_commonDivisor 7 = .ok (.istore 8, 2) := by decide +kernel
theorem dX5_commonDivisor_9 : decode cX5_commonDivisor 9 = .ok (.iload 8, 2) := by decide +kernel
theorem dX5_commonDivisor_11 : decode cX5_commonDivisor 11 = .ok (.sipush 200, 3) := by decide +kernel
theorem dX5_commonDivisor_14 : decode cX5_commonDivisor 14 = .ok (.if_icmp .ge 31, 3) := by decide +kernel
theorem dX5_commonDivisor_17 : decode cX5_commonDivisor 17 = .ok (.lload 6, 2) := by decide +kernel
theorem dX5_commonDivisor_19 : decode cX5_commonDivisor 19 = .ok (.lconst 0, 1) := by decide +kernel
theorem dX5_commonDivisor_20 : decode cX5_commonDivisor 20 = .ok (.lcmp, 1) := by decide +kernel
theorem dX5_commonDivisor_21 : decode cX5_commonDivisor 21 = .ok (.ifCond .eq 24, 3) := by decide +kernel
theorem dX5_commonDivisor_24 : decode cX5_commonDivisor 24 = .ok (.lload 4, 2) := by decide +kernel
theorem dX5_commonDivisor_26 : decode cX5_commonDivisor 26 = .ok (.lload 6, 2) := by decide +kernel
theorem dX5_commonDivisor_28 : decode cX5_commonDivisor 28 = .ok (.lrem, 1) := by decide +kernel
theorem dX5_commonDivisor_29 : decode cX5_commonDivisor 29 = .ok (.lstore 9, 2) := by decide +kernel
theorem dX5_commonDivisor_31 : decode cX5_commonDivisor 31 = .ok (.lload 6, 2) := by decide +kernel
theorem dX5_commonDivisor_33 : decode cX5_commonDivisor 33 = .ok (.lstore 4, 2) := by decide +kernel
theorem dX5_commonDivisor_35 : decode cX5_commonDivisor 35 = .ok (.lload 9, 2) := by decide +kernel
theorem dX5_commonDivisor_37 : decode cX5_commonDivisor 37 = .ok (.lstore 6, 2) := by decide +kernel
theorem dX5_commonDivisor_39 : decode cX5_commonDivisor 39 = .ok (.iinc 8 1, 3) := by decide +kernel
theorem dX5_commonDivisor_42 : decode cX5_commonDivisor 42 = .ok (.goto (-33), 3) := by decide +kernel
theorem dX5_commonDivisor_45 : decode cX5_commonDivisor 45 = .ok (.lload 4, 2) := by decide +kernel
theorem dX5_commonDivisor_47 : decode cX5_commonDivisor 47 = .ok (.lreturn, 1) := by decide +kernel
theorem dX5_toldOfLamp_0 : decode cX5_toldOfLamp 0 = .ok (.aload_n 0, 1) := by decide +kernel
theorem dX5_toldOfLamp_1 : decode cX5_toldOfLamp 1 = .ok (.getfield 25, 3) := by decide +kernel
theorem dX5_toldOfLamp_4 : decode cX5_toldOfLamp 4 = .ok (.invokevirtual 160, 3) := by decide +kernel
theorem dX5_toldOfLamp_7 : decode cX5_toldOfLamp 7 = .ok (.istore_n 3, 1) := by decide +kernel
theorem dX5_toldOfLamp_8 : decode cX5_toldOfLamp 8 = .ok (.iload_n 2, 1) := by decide +kernel
theorem dX5_toldOfLamp_9 : decode cX5_toldOfLamp 9 = .ok (.tableswitch 77 0 4 #[35, 44, 50, 63, 72], 35) := by decide +kernel
theorem dX5_toldOfLamp_44 : decode cX5_toldOfLamp 44 = .ok (.aload_n 0, 1) := by decide +kernel
theorem dX5_toldOfLamp_45 : decode cX5_toldOfLamp 45 = .ok (.getfield 32, 3) := by decide +kernel
theorem dX5_toldOfLamp_48 : decode cX5_toldOfLamp 48 = .ok (.iload_n 1, 1) := by decide +kernel
theorem dX5_toldOfLamp_49 : decode cX5_toldOfLamp 49 = .ok (.invokevirtual 154, 3) := by decide +kernel
theorem dX5_toldOfLamp_52 : decode cX5_toldOfLamp 52 = .ok (.ireturn, 1) := by decide +kernel
theorem dX5_toldOfLamp_53 : decode cX5_toldOfLamp 53 = .ok (.iload_n 3, 1) := by decide +kernel
theorem dX5_toldOfLamp_54 : decode cX5_toldOfLamp 54 = .ok (.iload_n 1, 1) := by decide +kernel
theorem dX5_toldOfLamp_55 : decode cX5_toldOfLamp 55 = .ok (.invokestatic 162, 3) := by decide +kernel
theorem dX5_toldOfLamp_58 : decode cX5_toldOfLamp 58 = .ok (.ireturn, 1) := by decide +kernel
theorem dX5_toldOfLamp_59 : decode cX5_toldOfLamp 59 = .ok (.aload_n 0, 1) := by decide +kernel
theorem dX5_toldOfLamp_60 : decode cX5_toldOfLamp 60 = .ok (.getfield 32, 3) := by decide +kernel
theorem dX5_toldOfLamp_63 : decode cX5_toldOfLamp 63 = .ok (.iload_n 3, 1) := by decide +kernel
theorem dX5_toldOfLamp_64 : decode cX5_toldOfLamp 64 = .ok (.invokevirtual 184, 3) := by decide +kernel
theorem dX5_toldOfLamp_67 : decode cX5_toldOfLamp 67 = .ok (.iload_n 1, 1) := by decide +kernel
theorem dX5_toldOfLamp_68 : decode cX5_toldOfLamp 68 = .ok (.ishr, 1) := by decide +kernel
theorem dX5_toldOfLamp_69 : decode cX5_toldOfLamp 69 = .ok (.iconst 1, 1) := by decide +kernel
theorem dX5_toldOfLamp_70 : decode cX5_toldOfLamp 70 = .ok (.iand, 1) := by decide +kernel
theorem dX5_toldOfLamp_71 : decode cX5_toldOfLamp 71 = .ok (.ireturn, 1) := by decide +kernel
theorem dX5_toldOfLamp_72 : decode cX5_toldOfLamp 72 = .ok (.iload_n 3, 1) := by decide +kernel
theorem dX5_toldOfLamp_73 : decode cX5_toldOfLamp 73 = .ok (.invokestatic 203, 3) := by decide +kernel
theorem dX5_toldOfLamp_76 : decode cX5_toldOfLamp 76 = .ok (.iload_n 1, 1) := by decide +kernel
theorem dX5_toldOfLamp_77 : decode cX5_toldOfLamp 77 = .ok (.ishr, 1) := by decide +kernel
theorem dX5_toldOfLamp_78 : decode cX5_toldOfLamp 78 = .ok (.iconst 1, 1) := by decide +kernel
theorem dX5_toldOfLamp_79 : decode cX5_toldOfLamp 79 = .ok (.iand, 1) := by decide +kernel
theorem dX5_toldOfLamp_80 : decode cX5_toldOfLamp 80 = .ok (.ireturn, 1) := by decide +kernel
theorem dX5_toldOfLamp_81 : decode cX5_toldOfLamp 81 = .ok (.iload_n 1, 1) := by decide +kernel
theorem dX5_toldOfLamp_82 : decode cX5_toldOfLamp 82 = .ok (.invokestatic 178, 3) := by decide +kernel
theorem dX5_toldOfLamp_85 : decode cX5_toldOfLamp 85 = .ok (.ireturn, 1) := by decide +kernel
theorem dX5_toldOfLamp_86 : decode cX5_toldOfLamp 86 = .ok (.aload_n 0, 1) := by decide +kernel
theorem dX5_toldOfLamp_87 : decode cX5_toldOfLamp 87 = .ok (.getfield 32, 3) := by decide +kernel
theorem dX5_toldOfLamp_90 : decode cX5_toldOfLamp 90 = .ok (.iload_n 3, 1) := by decide +kernel
theorem dX5_toldOfLamp_91 : decode cX5_toldOfLamp 91 = .ok (.iconst 1, 1) := by decide +kernel
theorem dX5_toldOfLamp_92 : decode cX5_toldOfLamp 92 = .ok (.iload_n 1, 1) := by decide +kernel
theorem dX5_toldOfLamp_93 : decode cX5_toldOfLamp 93 = .ok (.ishl, 1) := by decide +kernel
theorem dX5_toldOfLamp_94 : decode cX5_toldOfLamp 94 = .ok (.iconst 1, 1) := by decide +kernel
theorem dX5_toldOfLamp_95 : decode cX5_toldOfLamp 95 = .ok (.iload_n 1, 1) := by decide +kernel
theorem dX5_toldOfLamp_96 : decode cX5_toldOfLamp 96 = .ok (.ishl, 1) := by decide +kernel
theorem dX5_toldOfLamp_97 : decode cX5_toldOfLamp 97 = .ok (.aload_n 0, 1) := by decide +kernel
theorem dX5_toldOfLamp_98 : decode cX5_toldOfLamp 98 = .ok (.getfield 25, 3) := by decide +kernel
theorem dX5_toldOfLamp_101 : decode cX5_toldOfLamp 101 = .ok (.invokevirtual 181, 3) := by decide +kernel
theorem dX5_toldOfLamp_104 : decode cX5_toldOfLamp 104 = .ok (.invokevirtual 223, 3) := by decide +kernel
theorem dX5_toldOfLamp_107 : decode cX5_toldOfLamp 107 = .ok (.iload_n 1, 1) := by decide +kernel
theorem dX5_toldOfLamp_108 : decode cX5_toldOfLamp 108 = .ok (.invokestatic 162, 3) := by decide +kernel
theorem dX5_toldOfLamp_111 : decode cX5_toldOfLamp 111 = .ok (.ireturn, 1) := by decide +kernel
theorem dX5_counted_0 : decode cX5_counted 0 = .ok (.iload_n 1, 1) := by decide +kernel
theorem dX5_counted_1 : decode cX5_counted 1 = .ok (.tableswitch 51 8 10 #[27, 37, 46], 27) := by decide +kernel
theorem dX5_counted_28 : decode cX5_counted 28 = .ok (.aload_n 0, 1) := by decide +kernel
theorem dX5_counted_29 : decode cX5_counted 29 = .ok (.getfield 11, 3) := by decide +kernel
theorem dX5_counted_32 : decode cX5_counted 32 = .ok (.bipush 6, 2) := by decide +kernel
theorem dX5_counted_34 : decode cX5_counted 34 = .ok (.invokestatic 308, 3) := by decide +kernel
theorem dX5_counted_37 : decode cX5_counted 37 = .ok (.ireturn, 1) := by decide +kernel
theorem dX5_counted_38 : decode cX5_counted 38 = .ok (.aload_n 0, 1) := by decide +kernel
theorem dX5_counted_39 : decode cX5_counted 39 = .ok (.getfield 15, 3) := by decide +kernel
theorem dX5_counted_42 : decode cX5_counted 42 = .ok (.iconst 4, 1) := by decide +kernel
theorem dX5_counted_43 : decode cX5_counted 43 = .ok (.invokestatic 308, 3) := by decide +kernel
theorem dX5_counted_46 : decode cX5_counted 46 = .ok (.ireturn, 1) := by decide +kernel
theorem dX5_counted_47 : decode cX5_counted 47 = .ok (.aload_n 0, 1) := by decide +kernel
theorem dX5_counted_48 : decode cX5_counted 48 = .ok (.invokevirtual 312, 3) := by decide +kernel
theorem dX5_counted_51 : decode cX5_counted 51 = .ok (.ireturn, 1) := by decide +kernel
theorem dX5_counted_52 : decode cX5_counted 52 = .ok (.aload_n 0, 1) := by decide +kernel
theorem dX5_counted_53 : decode cX5_counted 53 = .ok (.getfield 25, 3) := by decide +kernel
theorem dX5_counted_56 : decode cX5_counted 56 = .ok (.invokevirtual 187, 3) := by decide +kernel
theorem dX5_counted_59 : decode cX5_counted 59 = .ok (.ifCond .eq 11, 3) := by decide +kernel
theorem dX5_counted_62 : decode cX5_counted 62 = .ok (.aload_n 0, 1) := by decide +kernel
theorem dX5_counted_63 : decode cX5_counted 63 = .ok (.iload_n 1, 1) := by decide +kernel
theorem dX5_counted_64 : decode cX5_counted 64 = .ok (.invokevirtual 315, 3) := by decide +kernel
theorem dX5_counted_67 : decode cX5_counted 67 = .ok (.goto 4, 3) := by decide +kernel
theorem dX5_counted_70 : decode cX5_counted 70 = .ok (.iconst 0, 1) := by decide +kernel
theorem dX5_counted_71 : decode cX5_counted 71 = .ok (.ireturn, 1) := by decide +kernel
theorem dX5_countedOfWall_0 : decode cX5_countedOfWall 0 = .ok (.aload_n 0, 1) := by decide +kernel
theorem dX5_countedOfWall_1 : decode cX5_countedOfWall 1 = .ok (.getfield 25, 3) := by decide +kernel
theorem dX5_countedOfWall_4 : decode cX5_countedOfWall 4 = .ok (.invokevirtual 160, 3) := by decide +kernel
theorem dX5_countedOfWall_7 : decode cX5_countedOfWall 7 = .ok (.istore_n 2, 1) := by decide +kernel
theorem dX5_countedOfWall_8 : decode cX5_countedOfWall 8 = .ok (.iload_n 1, 1) := by decide +kernel
theorem dX5_countedOfWall_9 : decode cX5_countedOfWall 9 = .ok (.tableswitch 95 0 6 #[43, 46, 54, 62, 71, 76, 84], 43) := by decide +kernel
theorem dX5_countedOfWall_52 : decode cX5_countedOfWall 52 = .ok (.bipush 9, 2) := by decide +kernel
theorem dX5_countedOfWall_54 : decode cX5_countedOfWall 54 = .ok (.ireturn, 1) := by decide +kernel
theorem dX5_countedOfWall_55 : decode cX5_countedOfWall 55 = .ok (.aload_n 0, 1) := by decide +kernel
theorem dX5_countedOfWall_56 : decode cX5_countedOfWall 56 = .ok (.getfield 25, 3) := by decide +kernel
theorem dX5_countedOfWall_59 : decode cX5_countedOfWall 59 = .ok (.invokevirtual 181, 3) := by decide +kernel
theorem dX5_countedOfWall_62 : decode cX5_countedOfWall 62 = .ok (.ireturn, 1) := by decide +kernel
theorem dX5_countedOfWall_63 : decode cX5_countedOfWall 63 = .ok (.aload_n 0, 1) := by decide +kernel
theorem dX5_countedOfWall_64 : decode cX5_countedOfWall 64 = .ok (.getfield 25, 3) := by decide +kernel
theorem dX5_countedOfWall_67 : decode cX5_countedOfWall 67 = .ok (.invokevirtual 206, 3) := by decide +kernel
theorem dX5_countedOfWall_70 : decode cX5_countedOfWall 70 = .ok (.ireturn, 1) := by decide +kernel
theorem dX5_countedOfWall_71 : decode cX5_countedOfWall 71 = .ok (.aload_n 0, 1) := by decide +kernel
theorem dX5_countedOfWall_72 : decode cX5_countedOfWall 72 = .ok (.getfield 32, 3) := by decide +kernel
theorem dX5_countedOfWall_75 : decode cX5_countedOfWall 75 = .ok (.iload_n 2, 1) := by decide +kernel
theorem dX5_countedOfWall_76 : decode cX5_countedOfWall 76 = .ok (.invokevirtual 184, 3) := by decide +kernel
theorem dX5_countedOfWall_79 : decode cX5_countedOfWall 79 = .ok (.ireturn, 1) := by decide +kernel
theorem dX5_countedOfWall_80 : decode cX5_countedOfWall 80 = .ok (.iload_n 2, 1) := by decide +kernel
theorem dX5_countedOfWall_81 : decode cX5_countedOfWall 81 = .ok (.invokestatic 203, 3) := by decide +kernel
theorem dX5_countedOfWall_84 : decode cX5_countedOfWall 84 = .ok (.ireturn, 1) := by decide +kernel
theorem dX5_countedOfWall_85 : decode cX5_countedOfWall 85 = .ok (.iload_n 2, 1) := by decide +kernel
theorem dX5_countedOfWall_86 : decode cX5_countedOfWall 86 = .ok (.sipush 511, 3) := by decide +kernel
theorem dX5_countedOfWall_89 : decode cX5_countedOfWall 89 = .ok (.invokestatic 260, 3) := by decide +kernel
theorem dX5_countedOfWall_92 : decode cX5_countedOfWall 92 = .ok (.ireturn, 1) := by decide +kernel
theorem dX5_countedOfWall_93 : decode cX5_countedOfWall 93 = .ok (.aload_n 0, 1) := by decide +kernel
theorem dX5_countedOfWall_94 : decode cX5_countedOfWall 94 = .ok (.getfield 32, 3) := by decide +kernel
theorem dX5_countedOfWall_97 : decode cX5_countedOfWall 97 = .ok (.getfield 318, 3) := by decide +kernel
theorem dX5_countedOfWall_100 : decode cX5_countedOfWall 100 = .ok (.invokestatic 173, 3) := by decide +kernel
theorem dX5_countedOfWall_103 : decode cX5_countedOfWall 103 = .ok (.ireturn, 1) := by decide +kernel
theorem dX5_countedOfWall_104 : decode cX5_countedOfWall 104 = .ok (.aload_n 0, 1) := by decide +kernel
theorem dX5_countedOfWall_105 : decode cX5_countedOfWall 105 = .ok (.getfield 32, 3) := by decide +kernel
theorem dX5_countedOfWall_108 : decode cX5_countedOfWall 108 = .ok (.getfield 321, 3) := by decide +kernel
theorem dX5_countedOfWall_111 : decode cX5_countedOfWall 111 = .ok (.invokestatic 173, 3) := by decide +kernel
theorem dX5_countedOfWall_114 : decode cX5_countedOfWall 114 = .ok (.ireturn, 1) := by decide +kernel
theorem dX5_countRows_0 : decode cX5_countRows 0 = .ok (.iconst 0, 1) := by decide +kernel
theorem dX5_countRows_1 : decode cX5_countRows 1 = .ok (.istore_n 2, 1) := by decide +kernel
theorem dX5_countRows_2 : decode cX5_countRows 2 = .ok (.iconst 0, 1) := by decide +kernel
theorem dX5_countRows_3 : decode cX5_countRows 3 = .ok (.istore_n 3, 1) := by decide +kernel
theorem dX5_countRows_4 : decode cX5_countRows 4 = .ok (.iload_n 3, 1) := by decide +kernel
theorem dX5_countRows_5 : decode cX5_countRows 5 = .ok (.iload_n 1, 1) := by decide +kernel
theorem dX5_countRows_6 : decode cX5_countRows 6 = .ok (.if_icmp .ge 27, 3) := by decide +kernel
theorem dX5_countRows_9 : decode cX5_countRows 9 = .ok (.iload_n 3, 1) := by decide +kernel
theorem dX5_countRows_10 : decode cX5_countRows 10 = .ok (.aload_n 0, 1) := by decide +kernel
theorem dX5_countRows_11 : decode cX5_countRows 11 = .ok (.arraylength, 1) := by decide +kernel
theorem dX5_countRows_12 : decode cX5_countRows 12 = .ok (.if_icmp .ge 21, 3) := by decide +kernel
theorem dX5_countRows_15 : decode cX5_countRows 15 = .ok (.aload_n 0, 1) := by decide +kernel
theorem dX5_countRows_16 : decode cX5_countRows 16 = .ok (.iload_n 3, 1) := by decide +kernel
theorem dX5_countRows_17 : decode cX5_countRows 17 = .ok (.aaload, 1) := by decide +kernel
theorem dX5_countRows_18 : decode cX5_countRows 18 = .ok (.invokevirtual 106, 3) := by decide +kernel
theorem dX5_countRows_21 : decode cX5_countRows 21 = .ok (.ifCond .eq 6, 3) := by decide +kernel
theorem dX5_countRows_24 : decode cX5_countRows 24 = .ok (.iinc 2 1, 3) := by decide +kernel
theorem dX5_countRows_27 : decode cX5_countRows 27 = .ok (.iinc 3 1, 3) := by decide +kernel
theorem dX5_countRows_30 : decode cX5_countRows 30 = .ok (.goto (-26), 3) := by decide +kernel
theorem dX5_countRows_33 : decode cX5_countRows 33 = .ok (.iload_n 2, 1) := by decide +kernel
theorem dX5_countRows_34 : decode cX5_countRows 34 = .ok (.ireturn, 1) := by decide +kernel
theorem dX5_countKept_0 : decode cX5_countKept 0 = .ok (.iconst 0, 1) := by decide +kernel
theorem dX5_countKept_1 : decode cX5_countKept 1 = .ok (.istore_n 1, 1) := by decide +kernel
theorem dX5_countKept_2 : decode cX5_countKept 2 = .ok (.iconst 0, 1) := by decide +kernel
theorem dX5_countKept_3 : decode cX5_countKept 3 = .ok (.istore_n 2, 1) := by decide +kernel
theorem dX5_countKept_4 : decode cX5_countKept 4 = .ok (.iload_n 2, 1) := by decide +kernel
theorem dX5_countKept_5 : decode cX5_countKept 5 = .ok (.iconst 3, 1) := by decide +kernel
theorem dX5_countKept_6 : decode cX5_countKept 6 = .ok (.if_icmp .ge 24, 3) := by decide +kernel
theorem dX5_countKept_9 : decode cX5_countKept 9 = .ok (.aload_n 0, 1) := by decide +kernel
theorem dX5_countKept_10 : decode cX5_countKept 10 = .ok (.getfield 20, 3) := by decide +kernel
theorem dX5_countKept_13 : decode cX5_countKept 13 = .ok (.iload_n 2, 1) := by decide +kernel
theorem dX5_countKept_14 : decode cX5_countKept 14 = .ok (.aaload, 1) := by decide +kernel
theorem dX5_countKept_15 : decode cX5_countKept 15 = .ok (.invokevirtual 187, 3) := by decide +kernel
theorem dX5_countKept_18 : decode cX5_countKept 18 = .ok (.ifCond .eq 6, 3) := by decide +kernel
theorem dX5_countKept_21 : decode cX5_countKept 21 = .ok (.iinc 1 1, 3) := by decide +kernel
theorem dX5_countKept_24 : decode cX5_countKept 24 = .ok (.iinc 2 1, 3) := by decide +kernel
theorem dX5_countKept_27 : decode cX5_countKept 27 = .ok (.goto (-23), 3) := by decide +kernel
theorem dX5_countKept_30 : decode cX5_countKept 30 = .ok (.iload_n 1, 1) := by decide +kernel
theorem dX5_countKept_31 : decode cX5_countKept 31 = .ok (.ireturn, 1) := by decide +kernel
theorem dX5_doPress_0 : decode cX5_doPress 0 = .ok (.aload_n 0, 1) := by decide +kernel
theorem dX5_doPress_1 : decode cX5_doPress 1 = .ok (.getfield 25, 3) := by decide +kernel
theorem dX5_doPress_4 : decode cX5_doPress 4 = .ok (.aload_n 0, 1) := by decide +kernel
theorem dX5_doPress_5 : decode cX5_doPress 5 = .ok (.getfield 32, 3) := by decide +kernel
theorem dX5_doPress_8 : decode cX5_doPress 8 = .ok (.aload_n 0, 1) := by decide +kernel
theorem dX5_doPress_9 : decode cX5_doPress 9 = .ok (.getfield 25, 3) := by decide +kernel
theorem dX5_doPress_12 : decode cX5_doPress 12 = .ok (.invokevirtual 160, 3) := by decide +kernel
theorem dX5_doPress_15 : decode cX5_doPress 15 = .ok (.iload_n 1, 1) := by decide +kernel
theorem dX5_doPress_16 : decode cX5_doPress 16 = .ok (.aload_n 0, 1) := by decide +kernel
theorem dX5_doPress_17 : decode cX5_doPress 17 = .ok (.getfield 25, 3) := by decide +kernel
theorem dX5_doPress_20 : decode cX5_doPress 20 = .ok (.invokevirtual 181, 3) := by decide +kernel
theorem dX5_doPress_23 : decode cX5_doPress 23 = .ok (.invokevirtual 227, 3) := by decide +kernel
theorem dX5_doPress_26 : decode cX5_doPress 26 = .ok (.iconst 1, 1) := by decide +kernel
theorem dX5_doPress_27 : decode cX5_doPress 27 = .ok (.invokevirtual 324, 3) := by decide +kernel
theorem dX5_doPress_30 : decode cX5_doPress 30 = .ok (.return_, 1) := by decide +kernel
theorem dX5_doSet_0 : decode cX5_doSet 0 = .ok (.aload_n 0, 1) := by decide +kernel
theorem dX5_doSet_1 : decode cX5_doSet 1 = .ok (.getfield 25, 3) := by decide +kernel
theorem dX5_doSet_4 : decode cX5_doSet 4 = .ok (.aload_n 0, 1) := by decide +kernel
theorem dX5_doSet_5 : decode cX5_doSet 5 = .ok (.getfield 25, 3) := by decide +kernel
theorem dX5_doSet_8 : decode cX5_doSet 8 = .ok (.invokevirtual 160, 3) := by decide +kernel
theorem dX5_doSet_11 : decode cX5_doSet 11 = .ok (.iload_n 1, 1) := by decide +kernel
theorem dX5_doSet_12 : decode cX5_doSet 12 = .ok (.iload_n 2, 1) := by decide +kernel
theorem dX5_doSet_13 : decode cX5_doSet 13 = .ok (.invokestatic 219, 3) := by decide +kernel
theorem dX5_doSet_16 : decode cX5_doSet 16 = .ok (.iconst 0, 1) := by decide +kernel
theorem dX5_doSet_17 : decode cX5_doSet 17 = .ok (.invokevirtual 324, 3) := by decide +kernel
theorem dX5_doSet_20 : decode cX5_doSet 20 = .ok (.return_, 1) := by decide +kernel
theorem dX5_doCrack_0 : decode cX5_doCrack 0 = .ok (.aload_n 0, 1) := by decide +kernel
theorem dX5_doCrack_1 : decode cX5_doCrack 1 = .ok (.getfield 25, 3) := by decide +kernel
theorem dX5_doCrack_4 : decode cX5_doCrack 4 = .ok (.aload_n 0, 1) := by decide +kernel
theorem dX5_doCrack_5 : decode cX5_doCrack 5 = .ok (.getfield 25, 3) := by decide +kernel
theorem dX5_doCrack_8 : decode cX5_doCrack 8 = .ok (.invokevirtual 160, 3) := by decide +kernel
theorem dX5_doCrack_11 : decode cX5_doCrack 11 = .ok (.aload_n 0, 1) := by decide +kernel
theorem dX5_doCrack_12 : decode cX5_doCrack 12 = .ok (.getfield 25, 3) := by decide +kernel
theorem dX5_doCrack_15 : decode cX5_doCrack 15 = .ok (.invokevirtual 160, 3) := by decide +kernel
theorem dX5_doCrack_18 : decode cX5_doCrack 18 = .ok (.invokestatic 203, 3) := by decide +kernel
theorem dX5_doCrack_21 : decode cX5_doCrack 21 = .ok (.iconst 1, 1) := by decide +kernel
theorem dX5_doCrack_22 : decode cX5_doCrack 22 = .ok (.iload_n 1, 1) := by decide +kernel
theorem dX5_doCrack_23 : decode cX5_doCrack 23 = .ok (.ishl, 1) := by decide +kernel
theorem dX5_doCrack_24 : decode cX5_doCrack 24 = .ok (.ixor, 1) := by decide +kernel
theorem dX5_doCrack_25 : decode cX5_doCrack 25 = .ok (.invokestatic 327, 3) := by decide +kernel
theorem dX5_doCrack_28 : decode cX5_doCrack 28 = .ok (.iconst 0, 1) := by decide +kernel
theorem dX5_doCrack_29 : decode cX5_doCrack 29 = .ok (.invokevirtual 324, 3) := by decide +kernel
theorem dX5_doCrack_32 : decode cX5_doCrack 32 = .ok (.return_, 1) := by decide +kernel
theorem dX5_doByLot_0 : decode cX5_doByLot 0 = .ok (.iload_n 2, 1) := by decide +kernel
theorem dX5_doByLot_1 : decode cX5_doByLot 1 = .ok (.bipush 6, 2) := by decide +kernel
theorem dX5_doByLot_3 : decode cX5_doByLot 3 = .ok (.if_icmp .ge 11, 3) := by decide +kernel
theorem dX5_doByLot_6 : decode cX5_doByLot 6 = .ok (.aload_n 0, 1) := by decide +kernel
theorem dX5_doByLot_7 : decode cX5_doByLot 7 = .ok (.iload_n 1, 1) := by decide +kernel
theorem dX5_doByLot_8 : decode cX5_doByLot 8 = .ok (.invokevirtual 191, 3) := by decide +kernel
theorem dX5_doByLot_11 : decode cX5_doByLot 11 = .ok (.goto 52, 3) := by decide +kernel
theorem dX5_doByLot_14 : decode cX5_doByLot 14 = .ok (.iload_n 2, 1) := by decide +kernel
theorem dX5_doByLot_15 : decode cX5_doByLot 15 = .ok (.bipush 6, 2) := by decide +kernel
theorem dX5_doByLot_17 : decode cX5_doByLot 17 = .ok (.if_icmp .ne 41, 3) := by decide +kernel
theorem dX5_doByLot_20 : decode cX5_doByLot 20 = .ok (.aload_n 0, 1) := by decide +kernel
theorem dX5_doByLot_21 : decode cX5_doByLot 21 = .ok (.getfield 25, 3) := by decide +kernel
theorem dX5_doByLot_24 : decode cX5_doByLot 24 = .ok (.invokevirtual 160, 3) := by decide +kernel
theorem dX5_doByLot_27 : decode cX5_doByLot 27 = .ok (.iload_n 1, 1) := by decide +kernel
theorem dX5_doByLot_28 : decode cX5_doByLot 28 = .ok (.invokestatic 162, 3) := by decide +kernel
theorem dX5_doByLot_31 : decode cX5_doByLot 31 = .ok (.istore_n 3, 1) := by decide +kernel
theorem dX5_doByLot_32 : decode cX5_doByLot 32 = .ok (.aload_n 0, 1) := by decide +kernel
theorem dX5_doByLot_33 : decode cX5_doByLot 33 = .ok (.iload_n 1, 1) := by decide +kernel
theorem dX5_doByLot_34 : decode cX5_doByLot 34 = .ok (.aload_n 0, 1) := by decide +kernel
theorem dX5_doByLot_35 : decode cX5_doByLot 35 = .ok (.iload_n 1, 1) := by decide +kernel
theorem dX5_doByLot_36 : decode cX5_doByLot 36 = .ok (.iload_n 3, 1) := by decide +kernel
theorem dX5_doByLot_37 : decode cX5_doByLot 37 = .ok (.iconst 1, 1) := by decide +kernel
theorem dX5_doByLot_38 : decode cX5_doByLot 38 = .ok (.iadd, 1) := by decide +kernel
theorem dX5_doByLot_39 : decode cX5_doByLot 39 = .ok (.invokevirtual 194, 3) := by decide +kernel
theorem dX5_doByLot_42 : decode cX5_doByLot 42 = .ok (.ifCond .eq 9, 3) := by decide +kernel
theorem dX5_doByLot_45 : decode cX5_doByLot 45 = .ok (.iload_n 3, 1) := by decide +kernel
theorem dX5_doByLot_46 : decode cX5_doByLot 46 = .ok (.iconst 1, 1) := by decide +kernel
theorem dX5_doByLot_47 : decode cX5_doByLot 47 = .ok (.iadd, 1) := by decide +kernel
theorem dX5_doByLot_48 : decode cX5_doByLot 48 = .ok (.goto 4, 3) := by decide +kernel
theorem dX5_doByLot_51 : decode cX5_doByLot 51 = .ok (.iconst 0, 1) := by decide +kernel
theorem dX5_doByLot_52 : decode cX5_doByLot 52 = .ok (.invokevirtual 197, 3) := by decide +kernel
theorem dX5_doByLot_55 : decode cX5_doByLot 55 = .ok (.goto 8, 3) := by decide +kernel
theorem dX5_doByLot_58 : decode cX5_doByLot 58 = .ok (.aload_n 0, 1) := by decide +kernel
theorem dX5_doByLot_59 : decode cX5_doByLot 59 = .ok (.iload_n 1, 1) := by decide +kernel
theorem dX5_doByLot_60 : decode cX5_doByLot 60 = .ok (.invokevirtual 200, 3) := by decide +kernel
theorem dX5_doByLot_63 : decode cX5_doByLot 63 = .ok (.return_, 1) := by decide +kernel
theorem dX5_showingBehind_0 : decode cX5_showingBehind 0 = .ok (.aload_n 0, 1) := by decide +kernel
theorem dX5_showingBehind_1 : decode cX5_showingBehind 1 = .ok (.getfield 32, 3) := by decide +kernel
theorem dX5_showingBehind_4 : decode cX5_showingBehind 4 = .ok (.aload_n 0, 1) := by decide +kernel
theorem dX5_showingBehind_5 : decode cX5_showingBehind 5 = .ok (.getfield 32, 3) := by decide +kernel
theorem dX5_showingBehind_8 : decode cX5_showingBehind 8 = .ok (.aload_n 0, 1) := by decide +kernel
theorem dX5_showingBehind_9 : decode cX5_showingBehind 9 = .ok (.getfield 25, 3) := by decide +kernel
theorem dX5_showingBehind_12 : decode cX5_showingBehind 12 = .ok (.invokevirtual 160, 3) := by decide +kernel
theorem dX5_showingBehind_15 : decode cX5_showingBehind 15 = .ok (.iload_n 1, 1) := by decide +kernel
theorem dX5_showingBehind_16 : decode cX5_showingBehind 16 = .ok (.aload_n 0, 1) := by decide +kernel
theorem dX5_showingBehind_17 : decode cX5_showingBehind 17 = .ok (.getfield 25, 3) := by decide +kernel
theorem dX5_showingBehind_20 : decode cX5_showingBehind 20 = .ok (.invokevirtual 181, 3) := by decide +kernel
theorem dX5_showingBehind_23 : decode cX5_showingBehind 23 = .ok (.invokevirtual 227, 3) := by decide +kernel
theorem dX5_showingBehind_26 : decode cX5_showingBehind 26 = .ok (.invokevirtual 184, 3) := by decide +kernel
theorem dX5_showingBehind_29 : decode cX5_showingBehind 29 = .ok (.ireturn, 1) := by decide +kernel
theorem dX5_reaches_0 : decode cX5_reaches 0 = .ok (.iload 4, 2) := by decide +kernel
theorem dX5_reaches_2 : decode cX5_reaches 2 = .ok (.iload 5, 2) := by decide +kernel
theorem dX5_reaches_4 : decode cX5_reaches 4 = .ok (.if_icmp .ge 10, 3) := by decide +kernel
theorem dX5_reaches_7 : decode cX5_reaches 7 = .ok (.iload 4, 2) := by decide +kernel
theorem dX5_reaches_9 : decode cX5_reaches 9 = .ok (.aload_n 3, 1) := by decide +kernel
theorem dX5_reaches_10 : decode cX5_reaches 10 = .ok (.arraylength, 1) := by decide +kernel
theorem dX5_reaches_11 : decode cX5_reaches 11 = .ok (.if_icmp .lt 19, 3) := by decide +kernel
theorem dX5_reaches_14 : decode cX5_reaches 14 = .ok (.aload_n 0, 1) := by decide +kernel
theorem dX5_reaches_15 : decode cX5_reaches 15 = .ok (.iload_n 1, 1) := by decide +kernel
theorem dX5_reaches_16 : decode cX5_reaches 16 = .ok (.invokevirtual 184, 3) := by decide +kernel
theorem dX5_reaches_19 : decode cX5_reaches 19 = .ok (.iload 6, 2) := by decide +kernel
theorem dX5_reaches_21 : decode cX5_reaches 21 = .ok (.if_icmp .ne 7, 3) := by decide +kernel
theorem dX5_reaches_24 : decode cX5_reaches 24 = .ok (.iconst 1, 1) := by decide +kernel
theorem dX5_reaches_25 : decode cX5_reaches 25 = .ok (.goto 4, 3) := by decide +kernel
theorem dX5_reaches_28 : decode cX5_reaches 28 = .ok (.iconst 0, 1) := by decide +kernel
theorem dX5_reaches_29 : decode cX5_reaches 29 = .ok (.ireturn, 1) := by decide +kernel
theorem dX5_reaches_30 : decode cX5_reaches 30 = .ok (.iconst 0, 1) := by decide +kernel
theorem dX5_reaches_31 : decode cX5_reaches 31 = .ok (.istore 7, 2) := by decide +kernel
theorem dX5_reaches_33 : decode cX5_reaches 33 = .ok (.iload 7, 2) := by decide +kernel
theorem dX5_reaches_35 : decode cX5_reaches 35 = .ok (.bipush 9, 2) := by decide +kernel
theorem dX5_reaches_37 : decode cX5_reaches 37 = .ok (.if_icmp .ge 48, 3) := by decide +kernel
theorem dX5_reaches_40 : decode cX5_reaches 40 = .ok (.aload_n 3, 1) := by decide +kernel
theorem dX5_reaches_41 : decode cX5_reaches 41 = .ok (.iload 4, 2) := by decide +kernel
theorem dX5_reaches_43 : decode cX5_reaches 43 = .ok (.iload 7, 2) := by decide +kernel
theorem dX5_reaches_45 : decode cX5_reaches 45 = .ok (.iastore, 1) := by decide +kernel
theorem dX5_reaches_46 : decode cX5_reaches 46 = .ok (.aload_n 0, 1) := by decide +kernel
theorem dX5_reaches_47 : decode cX5_reaches 47 = .ok (.iload_n 1, 1) := by decide +kernel
theorem dX5_reaches_48 : decode cX5_reaches 48 = .ok (.iload 7, 2) := by decide +kernel
theorem dX5_reaches_50 : decode cX5_reaches 50 = .ok (.iload_n 2, 1) := by decide +kernel
theorem dX5_reaches_51 : decode cX5_reaches 51 = .ok (.invokevirtual 227, 3) := by decide +kernel
theorem dX5_reaches_54 : decode cX5_reaches 54 = .ok (.istore 8, 2) := by decide +kernel
theorem dX5_reaches_56 : decode cX5_reaches 56 = .ok (.aload_n 0, 1) := by decide +kernel
theorem dX5_reaches_57 : decode cX5_reaches 57 = .ok (.iload 8, 2) := by decide +kernel
theorem dX5_reaches_59 : decode cX5_reaches 59 = .ok (.iload_n 2, 1) := by decide +kernel
theorem dX5_reaches_60 : decode cX5_reaches 60 = .ok (.iconst 1, 1) := by decide +kernel
theorem dX5_reaches_61 : decode cX5_reaches 61 = .ok (.iadd, 1) := by decide +kernel
theorem dX5_reaches_62 : decode cX5_reaches 62 = .ok (.aload_n 3, 1) := by decide +kernel
theorem dX5_reaches_63 : decode cX5_reaches 63 = .ok (.iload 4, 2) := by decide +kernel
theorem dX5_reaches_65 : decode cX5_reaches 65 = .ok (.iconst 1, 1) := by decide +kernel
theorem dX5_reaches_66 : decode cX5_reaches 66 = .ok (.iadd, 1) := by decide +kernel
theorem dX5_reaches_67 : decode cX5_reaches 67 = .ok (.iload 5, 2) := by decide +kernel
theorem dX5_reaches_69 : decode cX5_reaches 69 = .ok (.iload 6, 2) := by decide +kernel
theorem dX5_reaches_71 : decode cX5_reaches 71 = .ok (.invokestatic 236, 3) := by decide +kernel
theorem dX5_reaches_74 : decode cX5_reaches 74 = .ok (.ifCond .eq 5, 3) := by decide +kernel
theorem dX5_reaches_77 : decode cX5_reaches 77 = .ok (.iconst 1, 1) := by decide +kernel
theorem dX5_reaches_78 : decode cX5_reaches 78 = .ok (.ireturn, 1) := by decide +kernel
theorem dX5_reaches_79 : decode cX5_reaches 79 = .ok (.iinc 7 1, 3) := by decide +kernel
theorem dX5_reaches_82 : decode cX5_reaches 82 = .ok (.goto (-49), 3) := by decide +kernel
theorem dX5_reaches_85 : decode cX5_reaches 85 = .ok (.iconst 0, 1) := by decide +kernel
theorem dX5_reaches_86 : decode cX5_reaches 86 = .ok (.ireturn, 1) := by decide +kernel
theorem dX5_fillBehindSets_0 : decode cX5_fillBehindSets 0 = .ok (.aload_n 0, 1) := by decide +kernel
theorem dX5_fillBehindSets_1 : decode cX5_fillBehindSets 1 = .ok (.getfield 46, 3) := by decide +kernel
theorem dX5_fillBehindSets_4 : decode cX5_fillBehindSets 4 = .ok (.iconst 0, 1) := by decide +kernel
theorem dX5_fillBehindSets_5 : decode cX5_fillBehindSets 5 = .ok (.aload_n 0, 1) := by decide +kernel
theorem dX5_fillBehindSets_6 : decode cX5_fillBehindSets 6 = .ok (.getfield 25, 3) := by decide +kernel
theorem dX5_fillBehindSets_9 : decode cX5_fillBehindSets 9 = .ok (.invokevirtual 160, 3) := by decide +kernel
theorem dX5_fillBehindSets_12 : decode cX5_fillBehindSets 12 = .ok (.iastore, 1) := by decide +kernel
theorem dX5_fillBehindSets_13 : decode cX5_fillBehindSets 13 = .ok (.iconst 0, 1) := by decide +kernel
theorem dX5_fillBehindSets_14 : decode cX5_fillBehindSets 14 = .ok (.istore_n 1, 1) := by decide +kernel
theorem dX5_fillBehindSets_15 : decode cX5_fillBehindSets 15 = .ok (.iload_n 1, 1) := by decide +kernel
theorem dX5_fillBehindSets_16 : decode cX5_fillBehindSets 16 = .ok (.bipush 9, 2) := by decide +kernel
theorem dX5_fillBehindSets_18 : decode cX5_fillBehindSets 18 = .ok (.if_icmp .ge 64, 3) := by decide +kernel
theorem dX5_fillBehindSets_21 : decode cX5_fillBehindSets 21 = .ok (.iconst 1, 1) := by decide +kernel
theorem dX5_fillBehindSets_22 : decode cX5_fillBehindSets 22 = .ok (.iload_n 1, 1) := by decide +kernel
theorem dX5_fillBehindSets_23 : decode cX5_fillBehindSets 23 = .ok (.ishl, 1) := by decide +kernel
theorem dX5_fillBehindSets_24 : decode cX5_fillBehindSets 24 = .ok (.istore_n 2, 1) := by decide +kernel
theorem dX5_fillBehindSets_25 : decode cX5_fillBehindSets 25 = .ok (.iconst 0, 1) := by decide +kernel
theorem dX5_fillBehindSets_26 : decode cX5_fillBehindSets 26 = .ok (.istore_n 3, 1) := by decide +kernel
theorem dX5_fillBehindSets_27 : decode cX5_fillBehindSets 27 = .ok (.iload_n 3, 1) := by decide +kernel
theorem dX5_fillBehindSets_28 : decode cX5_fillBehindSets 28 = .ok (.iload_n 2, 1) := by decide +kernel
theorem dX5_fillBehindSets_29 : decode cX5_fillBehindSets 29 = .ok (.if_icmp .ge 47, 3) := by decide +kernel
theorem dX5_fillBehindSets_32 : decode cX5_fillBehindSets 32 = .ok (.aload_n 0, 1) := by decide +kernel
theorem dX5_fillBehindSets_33 : decode cX5_fillBehindSets 33 = .ok (.getfield 25, 3) := by decide +kernel
theorem dX5_fillBehindSets_36 : decode cX5_fillBehindSets 36 = .ok (.invokevirtual 181, 3) := by decide +kernel
theorem dX5_fillBehindSets_39 : decode cX5_fillBehindSets 39 = .ok (.iload_n 3, 1) := by decide +kernel
theorem dX5_fillBehindSets_40 : decode cX5_fillBehindSets 40 = .ok (.invokestatic 173, 3) := by decide +kernel
theorem dX5_fillBehindSets_43 : decode cX5_fillBehindSets 43 = .ok (.iadd, 1) := by decide +kernel
theorem dX5_fillBehindSets_44 : decode cX5_fillBehindSets 44 = .ok (.istore 4, 2) := by decide +kernel
theorem dX5_fillBehindSets_46 : decode cX5_fillBehindSets 46 = .ok (.aload_n 0, 1) := by decide +kernel
theorem dX5_fillBehindSets_47 : decode cX5_fillBehindSets 47 = .ok (.getfield 46, 3) := by decide +kernel
theorem dX5_fillBehindSets_50 : decode cX5_fillBehindSets 50 = .ok (.iload_n 2, 1) := by decide +kernel
theorem dX5_fillBehindSets_51 : decode cX5_fillBehindSets 51 = .ok (.iload_n 3, 1) := by decide +kernel
theorem dX5_fillBehindSets_52 : decode cX5_fillBehindSets 52 = .ok (.ior, 1) := by decide +kernel
theorem dX5_fillBehindSets_53 : decode cX5_fillBehindSets 53 = .ok (.aload_n 0, 1) := by decide +kernel
theorem dX5_fillBehindSets_54 : decode cX5_fillBehindSets 54 = .ok (.getfield 32, 3) := by decide +kernel
theorem dX5_fillBehindSets_57 : decode cX5_fillBehindSets 57 = .ok (.aload_n 0, 1) := by decide +kernel
theorem dX5_fillBehindSets_58 : decode cX5_fillBehindSets 58 = .ok (.getfield 46, 3) := by decide +kernel
theorem dX5_fillBehindSets_61 : decode cX5_fillBehindSets 61 = .ok (.iload_n 3, 1) := by decide +kernel
theorem dX5_fillBehindSets_62 : decode cX5_fillBehindSets 62 = .ok (.iaload, 1) := by decide +kernel
theorem dX5_fillBehindSets_63 : decode cX5_fillBehindSets 63 = .ok (.iload_n 1, 1) := by decide +kernel
theorem dX5_fillBehindSets_64 : decode cX5_fillBehindSets 64 = .ok (.iload 4, 2) := by decide +kernel
theorem dX5_fillBehindSets_66 : decode cX5_fillBehindSets 66 = .ok (.invokevirtual 227, 3) := by decide +kernel
theorem dX5_fillBehindSets_69 : decode cX5_fillBehindSets 69 = .ok (.iastore, 1) := by decide +kernel
theorem dX5_fillBehindSets_70 : decode cX5_fillBehindSets 70 = .ok (.iinc 3 1, 3) := by decide +kernel
theorem dX5_fillBehindSets_73 : decode cX5_fillBehindSets 73 = .ok (.goto (-46), 3) := by decide +kernel
theorem dX5_fillBehindSets_76 : decode cX5_fillBehindSets 76 = .ok (.iinc 1 1, 3) := by decide +kernel
theorem dX5_fillBehindSets_79 : decode cX5_fillBehindSets 79 = .ok (.goto (-64), 3) := by decide +kernel
theorem dX5_fillBehindSets_82 : decode cX5_fillBehindSets 82 = .ok (.return_, 1) := by decide +kernel
theorem dX5_kindsBy_0 : decode cX5_kindsBy 0 = .ok (.iconst 0, 1) := by decide +kernel
theorem dX5_kindsBy_1 : decode cX5_kindsBy 1 = .ok (.istore_n 3, 1) := by decide +kernel
theorem dX5_kindsBy_2 : decode cX5_kindsBy 2 = .ok (.aload_n 0, 1) := by decide +kernel
theorem dX5_kindsBy_3 : decode cX5_kindsBy 3 = .ok (.getfield 25, 3) := by decide +kernel
theorem dX5_kindsBy_6 : decode cX5_kindsBy 6 = .ok (.invokevirtual 160, 3) := by decide +kernel
theorem dX5_kindsBy_9 : decode cX5_kindsBy 9 = .ok (.iload_n 1, 1) := by decide +kernel
theorem dX5_kindsBy_10 : decode cX5_kindsBy 10 = .ok (.invokestatic 162, 3) := by decide +kernel
theorem dX5_kindsBy_13 : decode cX5_kindsBy 13 = .ok (.istore 4, 2) := by decide +kernel
theorem dX5_kindsBy_15 : decode cX5_kindsBy 15 = .ok (.iconst 0, 1) := by decide +kernel
theorem dX5_kindsBy_16 : decode cX5_kindsBy 16 = .ok (.istore 5, 2) := by decide +kernel
theorem dX5_kindsBy_18 : decode cX5_kindsBy 18 = .ok (.iload 5, 2) := by decide +kernel
theorem dX5_kindsBy_20 : decode cX5_kindsBy 20 = .ok (.bipush 6, 2) := by decide +kernel
theorem dX5_kindsBy_22 : decode cX5_kindsBy 22 = .ok (.if_icmp .ge 37, 3) := by decide +kernel
theorem dX5_kindsBy_25 : decode cX5_kindsBy 25 = .ok (.iload 4, 2) := by decide +kernel
theorem dX5_kindsBy_27 : decode cX5_kindsBy 27 = .ok (.iload 5, 2) := by decide +kernel
theorem dX5_kindsBy_29 : decode cX5_kindsBy 29 = .ok (.invokestatic 298, 3) := by decide +kernel
theorem dX5_kindsBy_32 : decode cX5_kindsBy 32 = .ok (.if_icmp .gt 21, 3) := by decide +kernel
theorem dX5_kindsBy_35 : decode cX5_kindsBy 35 = .ok (.aload_n 0, 1) := by decide +kernel
theorem dX5_kindsBy_36 : decode cX5_kindsBy 36 = .ok (.iload_n 1, 1) := by decide +kernel
theorem dX5_kindsBy_37 : decode cX5_kindsBy 37 = .ok (.iload 5, 2) := by decide +kernel
theorem dX5_kindsBy_39 : decode cX5_kindsBy 39 = .ok (.aload_n 2, 1) := by decide +kernel
theorem dX5_kindsBy_40 : decode cX5_kindsBy 40 = .ok (.invokevirtual 330, 3) := by decide +kernel
theorem dX5_kindsBy_43 : decode cX5_kindsBy 43 = .ok (.ifCond .eq 10, 3) := by decide +kernel
theorem dX5_kindsBy_46 : decode cX5_kindsBy 46 = .ok (.iload_n 3, 1) := by decide +kernel
theorem dX5_kindsBy_47 : decode cX5_kindsBy 47 = .ok (.iconst 1, 1) := by decide +kernel
theorem dX5_kindsBy_48 : decode cX5_kindsBy 48 = .ok (.iload 5, 2) := by decide +kernel
theorem dX5_kindsBy_50 : decode cX5_kindsBy 50 = .ok (.ishl, 1) := by decide +kernel
theorem dX5_kindsBy_51 : decode cX5_kindsBy 51 = .ok (.ior, 1) := by decide +kernel
theorem dX5_kindsBy_52 : decode cX5_kindsBy 52 = .ok (.istore_n 3, 1) := by decide +kernel
theorem dX5_kindsBy_53 : decode cX5_kindsBy 53 = .ok (.iinc 5 1, 3) := by decide +kernel
theorem dX5_kindsBy_56 : decode cX5_kindsBy 56 = .ok (.goto (-38), 3) := by decide +kernel
theorem dX5_kindsBy_59 : decode cX5_kindsBy 59 = .ok (.iload_n 3, 1) := by decide +kernel
theorem dX5_kindsBy_60 : decode cX5_kindsBy 60 = .ok (.ireturn, 1) := by decide +kernel
theorem dX5_fits_0 : decode cX5_fits 0 = .ok (.iconst 0, 1) := by decide +kernel
theorem dX5_fits_1 : decode cX5_fits 1 = .ok (.istore 4, 2) := by decide +kernel
theorem dX5_fits_3 : decode cX5_fits 3 = .ok (.iload 4, 2) := by decide +kernel
theorem dX5_fits_5 : decode cX5_fits 5 = .ok (.aload_n 3, 1) := by decide +kernel
theorem dX5_fits_6 : decode cX5_fits 6 = .ok (.invokevirtual 118, 3) := by decide +kernel
theorem dX5_fits_9 : decode cX5_fits 9 = .ok (.if_icmp .ge 34, 3) := by decide +kernel
theorem dX5_fits_12 : decode cX5_fits 12 = .ok (.aload_n 0, 1) := by decide +kernel
theorem dX5_fits_13 : decode cX5_fits 13 = .ok (.iload_n 1, 1) := by decide +kernel
theorem dX5_fits_14 : decode cX5_fits 14 = .ok (.iload_n 2, 1) := by decide +kernel
theorem dX5_fits_15 : decode cX5_fits 15 = .ok (.aload_n 3, 1) := by decide +kernel
theorem dX5_fits_16 : decode cX5_fits 16 = .ok (.iload 4, 2) := by decide +kernel
theorem dX5_fits_18 : decode cX5_fits 18 = .ok (.invokevirtual 85, 3) := by decide +kernel
theorem dX5_fits_21 : decode cX5_fits 21 = .ok (.invokevirtual 334, 3) := by decide +kernel
theorem dX5_fits_24 : decode cX5_fits 24 = .ok (.aload_n 3, 1) := by decide +kernel
theorem dX5_fits_25 : decode cX5_fits 25 = .ok (.iload 4, 2) := by decide +kernel
theorem dX5_fits_27 : decode cX5_fits 27 = .ok (.iconst 1, 1) := by decide +kernel
theorem dX5_fits_28 : decode cX5_fits 28 = .ok (.iadd, 1) := by decide +kernel
theorem dX5_fits_29 : decode cX5_fits 29 = .ok (.invokevirtual 85, 3) := by decide +kernel
theorem dX5_fits_32 : decode cX5_fits 32 = .ok (.if_icmp .eq 5, 3) := by decide +kernel
theorem dX5_fits_35 : decode cX5_fits 35 = .ok (.iconst 0, 1) := by decide +kernel
theorem dX5_fits_36 : decode cX5_fits 36 = .ok (.ireturn, 1) := by decide +kernel
theorem dX5_fits_37 : decode cX5_fits 37 = .ok (.iinc 4 2, 3) := by decide +kernel
theorem dX5_fits_40 : decode cX5_fits 40 = .ok (.goto (-37), 3) := by decide +kernel
theorem dX5_fits_43 : decode cX5_fits 43 = .ok (.iconst 1, 1) := by decide +kernel
theorem dX5_fits_44 : decode cX5_fits 44 = .ok (.ireturn, 1) := by decide +kernel
theorem dX5_shownAs_0 : decode cX5_shownAs 0 = .ok (.aload_n 0, 1) := by decide +kernel
theorem dX5_shownAs_1 : decode cX5_shownAs 1 = .ok (.getfield 36, 3) := by decide +kernel
theorem dX5_shownAs_4 : decode cX5_shownAs 4 = .ok (.aload_n 0, 1) := by decide +kernel
theorem dX5_shownAs_5 : decode cX5_shownAs 5 = .ok (.getfield 32, 3) := by decide +kernel
theorem dX5_shownAs_8 : decode cX5_shownAs 8 = .ok (.invokevirtual 133, 3) := by decide +kernel
theorem dX5_shownAs_11 : decode cX5_shownAs 11 = .ok (.aload_n 0, 1) := by decide +kernel
theorem dX5_shownAs_12 : decode cX5_shownAs 12 = .ok (.getfield 36, 3) := by decide +kernel
theorem dX5_shownAs_15 : decode cX5_shownAs 15 = .ok (.iload_n 1, 1) := by decide +kernel
theorem dX5_shownAs_16 : decode cX5_shownAs 16 = .ok (.iload_n 2, 1) := by decide +kernel
theorem dX5_shownAs_17 : decode cX5_shownAs 17 = .ok (.invokevirtual 337, 3) := by decide +kernel
theorem dX5_shownAs_20 : decode cX5_shownAs 20 = .ok (.aload_n 0, 1) := by decide +kernel
theorem dX5_shownAs_21 : decode cX5_shownAs 21 = .ok (.getfield 36, 3) := by decide +kernel
theorem dX5_shownAs_24 : decode cX5_shownAs 24 = .ok (.aload_n 0, 1) := by decide +kernel
theorem dX5_shownAs_25 : decode cX5_shownAs 25 = .ok (.getfield 36, 3) := by decide +kernel
theorem dX5_shownAs_28 : decode cX5_shownAs 28 = .ok (.aload_n 0, 1) := by decide +kernel
theorem dX5_shownAs_29 : decode cX5_shownAs 29 = .ok (.getfield 25, 3) := by decide +kernel
theorem dX5_shownAs_32 : decode cX5_shownAs 32 = .ok (.invokevirtual 160, 3) := by decide +kernel
theorem dX5_shownAs_35 : decode cX5_shownAs 35 = .ok (.iload_n 3, 1) := by decide +kernel
theorem dX5_shownAs_36 : decode cX5_shownAs 36 = .ok (.aload_n 0, 1) := by decide +kernel
theorem dX5_shownAs_37 : decode cX5_shownAs 37 = .ok (.getfield 25, 3) := by decide +kernel
theorem dX5_shownAs_40 : decode cX5_shownAs 40 = .ok (.invokevirtual 181, 3) := by decide +kernel
theorem dX5_shownAs_43 : decode cX5_shownAs 43 = .ok (.invokevirtual 227, 3) := by decide +kernel
theorem dX5_shownAs_46 : decode cX5_shownAs 46 = .ok (.invokevirtual 184, 3) := by decide +kernel
theorem dX5_shownAs_49 : decode cX5_shownAs 49 = .ok (.iload_n 1, 1) := by decide +kernel
theorem dX5_shownAs_50 : decode cX5_shownAs 50 = .ok (.ishr, 1) := by decide +kernel
theorem dX5_shownAs_51 : decode cX5_shownAs 51 = .ok (.iconst 1, 1) := by decide +kernel
theorem dX5_shownAs_52 : decode cX5_shownAs 52 = .ok (.iand, 1) := by decide +kernel
theorem dX5_shownAs_53 : decode cX5_shownAs 53 = .ok (.ireturn, 1) := by decide +kernel
theorem dX5_greatestPart_0 : decode cX5_greatestPart 0 = .ok (.iconst 0, 1) := by decide +kernel
theorem dX5_greatestPart_1 : decode cX5_greatestPart 1 = .ok (.istore 4, 2) := by decide +kernel
theorem dX5_greatestPart_3 : decode cX5_greatestPart 3 = .ok (.iconst 0, 1) := by decide +kernel
theorem dX5_greatestPart_4 : decode cX5_greatestPart 4 = .ok (.istore 5, 2) := by decide +kernel
theorem dX5_greatestPart_6 : decode cX5_greatestPart 6 = .ok (.iload 5, 2) := by decide +kernel
theorem dX5_greatestPart_8 : decode cX5_greatestPart 8 = .ok (.bipush 6, 2) := by decide +kernel
theorem dX5_greatestPart_10 : decode cX5_greatestPart 10 = .ok (.if_icmp .ge 31, 3) := by decide +kernel
theorem dX5_greatestPart_13 : decode cX5_greatestPart 13 = .ok (.iload_n 2, 1) := by decide +kernel
theorem dX5_greatestPart_14 : decode cX5_greatestPart 14 = .ok (.iload 5, 2) := by decide +kernel
theorem dX5_greatestPart_16 : decode cX5_greatestPart 16 = .ok (.ishr, 1) := by decide +kernel
theorem dX5_greatestPart_17 : decode cX5_greatestPart 17 = .ok (.iconst 1, 1) := by decide +kernel
theorem dX5_greatestPart_18 : decode cX5_greatestPart 18 = .ok (.iand, 1) := by decide +kernel
theorem dX5_greatestPart_19 : decode cX5_greatestPart 19 = .ok (.ifCond .eq 16, 3) := by decide +kernel
theorem dX5_greatestPart_22 : decode cX5_greatestPart 22 = .ok (.iload 4, 2) := by decide +kernel
theorem dX5_greatestPart_24 : decode cX5_greatestPart 24 = .ok (.aload_n 0, 1) := by decide +kernel
theorem dX5_greatestPart_25 : decode cX5_greatestPart 25 = .ok (.iload_n 1, 1) := by decide +kernel
theorem dX5_greatestPart_26 : decode cX5_greatestPart 26 = .ok (.iload 5, 2) := by decide +kernel
theorem dX5_greatestPart_28 : decode cX5_greatestPart 28 = .ok (.iload_n 3, 1) := by decide +kernel
theorem dX5_greatestPart_29 : decode cX5_greatestPart 29 = .ok (.invokevirtual 334, 3) := by decide +kernel
theorem dX5_greatestPart_32 : decode cX5_greatestPart 32 = .ok (.iadd, 1) := by decide +kernel
theorem dX5_greatestPart_33 : decode cX5_greatestPart 33 = .ok (.istore 4, 2) := by decide +kernel
theorem dX5_greatestPart_35 : decode cX5_greatestPart 35 = .ok (.iinc 5 1, 3) := by decide +kernel
theorem dX5_greatestPart_38 : decode cX5_greatestPart 38 = .ok (.goto (-32), 3) := by decide +kernel
theorem dX5_greatestPart_41 : decode cX5_greatestPart 41 = .ok (.iload 4, 2) := by decide +kernel
theorem dX5_greatestPart_43 : decode cX5_greatestPart 43 = .ok (.iload_n 2, 1) := by decide +kernel
theorem dX5_greatestPart_44 : decode cX5_greatestPart 44 = .ok (.invokestatic 173, 3) := by decide +kernel
theorem dX5_greatestPart_47 : decode cX5_greatestPart 47 = .ok (.iload 4, 2) := by decide +kernel
theorem dX5_greatestPart_49 : decode cX5_greatestPart 49 = .ok (.isub, 1) := by decide +kernel
theorem dX5_greatestPart_50 : decode cX5_greatestPart 50 = .ok (.invokestatic 340, 3) := by decide +kernel
theorem dX5_greatestPart_53 : decode cX5_greatestPart 53 = .ok (.ireturn, 1) := by decide +kernel
theorem dX5_wonBy_0 : decode cX5_wonBy 0 = .ok (.iload_n 3, 1) := by decide +kernel
theorem dX5_wonBy_1 : decode cX5_wonBy 1 = .ok (.ifCond .gt 30, 3) := by decide +kernel
theorem dX5_wonBy_4 : decode cX5_wonBy 4 = .ok (.aload_n 0, 1) := by decide +kernel
theorem dX5_wonBy_5 : decode cX5_wonBy 5 = .ok (.iload_n 1, 1) := by decide +kernel
theorem dX5_wonBy_6 : decode cX5_wonBy 6 = .ok (.invokevirtual 184, 3) := by decide +kernel
theorem dX5_wonBy_9 : decode cX5_wonBy 9 = .ok (.istore 7, 2) := by decide +kernel
theorem dX5_wonBy_11 : decode cX5_wonBy 11 = .ok (.iload 7, 2) := by decide +kernel
theorem dX5_wonBy_13 : decode cX5_wonBy 13 = .ok (.iload 4, 2) := by decide +kernel
theorem dX5_wonBy_15 : decode cX5_wonBy 15 = .ok (.iand, 1) := by decide +kernel
theorem dX5_wonBy_16 : decode cX5_wonBy 16 = .ok (.invokestatic 173, 3) := by decide +kernel
theorem dX5_wonBy_19 : decode cX5_wonBy 19 = .ok (.iload 7, 2) := by decide +kernel
theorem dX5_wonBy_21 : decode cX5_wonBy 21 = .ok (.iload 4, 2) := by decide +kernel
theorem dX5_wonBy_23 : decode cX5_wonBy 23 = .ok (.iconst (-1), 1) := by decide +kernel
theorem dX5_wonBy_24 : decode cX5_wonBy 24 = .ok (.ixor, 1) := by decide +kernel
theorem dX5_wonBy_25 : decode cX5_wonBy 25 = .ok (.iand, 1) := by decide +kernel
theorem dX5_wonBy_26 : decode cX5_wonBy 26 = .ok (.invokestatic 173, 3) := by decide +kernel
theorem dX5_wonBy_29 : decode cX5_wonBy 29 = .ok (.isub, 1) := by decide +kernel
theorem dX5_wonBy_30 : decode cX5_wonBy 30 = .ok (.ireturn, 1) := by decide +kernel
theorem dX5_wonBy_31 : decode cX5_wonBy 31 = .ok (.iload_n 3, 1) := by decide +kernel
theorem dX5_wonBy_32 : decode cX5_wonBy 32 = .ok (.iconst 2, 1) := by decide +kernel
theorem dX5_wonBy_33 : decode cX5_wonBy 33 = .ok (.irem, 1) := by decide +kernel
theorem dX5_wonBy_34 : decode cX5_wonBy 34 = .ok (.ifCond .ne 7, 3) := by decide +kernel
theorem dX5_wonBy_37 : decode cX5_wonBy 37 = .ok (.iconst 1, 1) := by decide +kernel
theorem dX5_wonBy_38 : decode cX5_wonBy 38 = .ok (.goto 4, 3) := by decide +kernel
theorem dX5_wonBy_41 : decode cX5_wonBy 41 = .ok (.iconst 0, 1) := by decide +kernel
theorem dX5_wonBy_42 : decode cX5_wonBy 42 = .ok (.istore 7, 2) := by decide +kernel
theorem dX5_wonBy_44 : decode cX5_wonBy 44 = .ok (.iload 5, 2) := by decide +kernel
theorem dX5_wonBy_46 : decode cX5_wonBy 46 = .ok (.istore 8, 2) := by decide +kernel
theorem dX5_wonBy_48 : decode cX5_wonBy 48 = .ok (.iload 6, 2) := by decide +kernel
theorem dX5_wonBy_50 : decode cX5_wonBy 50 = .ok (.istore 9, 2) := by decide +kernel
theorem dX5_wonBy_52 : decode cX5_wonBy 52 = .ok (.iconst 0, 1) := by decide +kernel
theorem dX5_wonBy_53 : decode cX5_wonBy 53 = .ok (.istore 10, 2) := by decide +kernel
theorem dX5_wonBy_55 : decode cX5_wonBy 55 = .ok (.iload 10, 2) := by decide +kernel
theorem dX5_wonBy_57 : decode cX5_wonBy 57 = .ok (.bipush 9, 2) := by decide +kernel
theorem dX5_wonBy_59 : decode cX5_wonBy 59 = .ok (.if_icmp .gt 104, 3) := by decide +kernel
theorem dX5_wonBy_62 : decode cX5_wonBy 62 = .ok (.iload 8, 2) := by decide +kernel
theorem dX5_wonBy_64 : decode cX5_wonBy 64 = .ok (.iload 9, 2) := by decide +kernel
theorem dX5_wonBy_66 : decode cX5_wonBy 66 = .ok (.if_icmp .ge 97, 3) := by decide +kernel
theorem dX5_wonBy_69 : decode cX5_wonBy 69 = .ok (.iload 10, 2) := by decide +kernel
theorem dX5_wonBy_71 : decode cX5_wonBy 71 = .ok (.bipush 9, 2) := by decide +kernel
theorem dX5_wonBy_73 : decode cX5_wonBy 73 = .ok (.if_icmp .ne 7, 3) := by decide +kernel
theorem dX5_wonBy_76 : decode cX5_wonBy 76 = .ok (.iconst 1, 1) := by decide +kernel
theorem dX5_wonBy_77 : decode cX5_wonBy 77 = .ok (.goto 4, 3) := by decide +kernel
theorem dX5_wonBy_80 : decode cX5_wonBy 80 = .ok (.iconst 0, 1) := by decide +kernel
theorem dX5_wonBy_81 : decode cX5_wonBy 81 = .ok (.istore 11, 2) := by decide +kernel
theorem dX5_wonBy_83 : decode cX5_wonBy 83 = .ok (.iload 11, 2) := by decide +kernel
theorem dX5_wonBy_85 : decode cX5_wonBy 85 = .ok (.ifCond .eq 7, 3) := by decide +kernel
theorem dX5_wonBy_88 : decode cX5_wonBy 88 = .ok (.iload_n 1, 1) := by decide +kernel
theorem dX5_wonBy_89 : decode cX5_wonBy 89 = .ok (.goto 11, 3) := by decide +kernel
theorem dX5_wonBy_92 : decode cX5_wonBy 92 = .ok (.aload_n 0, 1) := by decide +kernel
theorem dX5_wonBy_93 : decode cX5_wonBy 93 = .ok (.iload_n 1, 1) := by decide +kernel
theorem dX5_wonBy_94 : decode cX5_wonBy 94 = .ok (.iload 10, 2) := by decide +kernel
theorem dX5_wonBy_96 : decode cX5_wonBy 96 = .ok (.iload_n 2, 1) := by decide +kernel
theorem dX5_wonBy_97 : decode cX5_wonBy 97 = .ok (.invokevirtual 227, 3) := by decide +kernel
theorem dX5_wonBy_100 : decode cX5_wonBy 100 = .ok (.istore 12, 2) := by decide +kernel
theorem dX5_wonBy_102 : decode cX5_wonBy 102 = .ok (.aload_n 0, 1) := by decide +kernel
theorem dX5_wonBy_103 : decode cX5_wonBy 103 = .ok (.iload 12, 2) := by decide +kernel
theorem dX5_wonBy_105 : decode cX5_wonBy 105 = .ok (.iload 11, 2) := by decide +kernel
theorem dX5_wonBy_107 : decode cX5_wonBy 107 = .ok (.ifCond .eq 7, 3) := by decide +kernel
theorem dX5_wonBy_110 : decode cX5_wonBy 110 = .ok (.iload_n 2, 1) := by decide +kernel
theorem dX5_wonBy_111 : decode cX5_wonBy 111 = .ok (.goto 6, 3) := by decide +kernel
theorem dX5_wonBy_114 : decode cX5_wonBy 114 = .ok (.iload_n 2, 1) := by decide +kernel
theorem dX5_wonBy_115 : decode cX5_wonBy 115 = .ok (.iconst 1, 1) := by decide +kernel
theorem dX5_wonBy_116 : decode cX5_wonBy 116 = .ok (.iadd, 1) := by decide +kernel
theorem dX5_wonBy_117 : decode cX5_wonBy 117 = .ok (.iload_n 3, 1) := by decide +kernel
theorem dX5_wonBy_118 : decode cX5_wonBy 118 = .ok (.iconst 1, 1) := by decide +kernel
theorem dX5_wonBy_119 : decode cX5_wonBy 119 = .ok (.isub, 1) := by decide +kernel
theorem dX5_wonBy_120 : decode cX5_wonBy 120 = .ok (.iload 4, 2) := by decide +kernel
theorem dX5_wonBy_122 : decode cX5_wonBy 122 = .ok (.iload 8, 2) := by decide +kernel
theorem dX5_wonBy_124 : decode cX5_wonBy 124 = .ok (.iload 9, 2) := by decide +kernel
theorem dX5_wonBy_126 : decode cX5_wonBy 126 = .ok (.invokestatic 262, 3) := by decide +kernel
theorem dX5_wonBy_129 : decode cX5_wonBy 129 = .ok (.istore 13, 2) := by decide +kernel
theorem dX5_wonBy_131 : decode cX5_wonBy 131 = .ok (.iload 7, 2) := by decide +kernel
theorem dX5_wonBy_133 : decode cX5_wonBy 133 = .ok (.ifCond .eq 15, 3) := by decide +kernel
theorem dX5_wonBy_136 : decode cX5_wonBy 136 = .ok (.iload 8, 2) := by decide +kernel
theorem dX5_wonBy_138 : decode cX5_wonBy 138 = .ok (.iload 13, 2) := by decide +kernel
theorem dX5_wonBy_140 : decode cX5_wonBy 140 = .ok (.invokestatic 340, 3) := by decide +kernel
theorem dX5_wonBy_143 : decode cX5_wonBy 143 = .ok (.istore 8, 2) := by decide +kernel
theorem dX5_wonBy_145 : decode cX5_wonBy 145 = .ok (.goto 12, 3) := by decide +kernel
theorem dX5_wonBy_148 : decode cX5_wonBy 148 = .ok (.iload 9, 2) := by decide +kernel
theorem dX5_wonBy_150 : decode cX5_wonBy 150 = .ok (.iload 13, 2) := by decide +kernel
theorem dX5_wonBy_152 : decode cX5_wonBy 152 = .ok (.invokestatic 345, 3) := by decide +kernel
theorem dX5_wonBy_155 : decode cX5_wonBy 155 = .ok (.istore 9, 2) := by decide +kernel
theorem dX5_wonBy_157 : decode cX5_wonBy 157 = .ok (.iinc 10 1, 3) := by decide +kernel
theorem dX5_wonBy_160 : decode cX5_wonBy 160 = .ok (.goto (-105), 3) := by decide +kernel
theorem dX5_wonBy_163 : decode cX5_wonBy 163 = .ok (.iload 7, 2) := by decide +kernel
theorem dX5_wonBy_165 : decode cX5_wonBy 165 = .ok (.ifCond .eq 8, 3) := by decide +kernel
theorem dX5_wonBy_168 : decode cX5_wonBy 168 = .ok (.iload 8, 2) := by decide +kernel
theorem dX5_wonBy_170 : decode cX5_wonBy 170 = .ok (.goto 5, 3) := by decide +kernel
theorem dX5_wonBy_173 : decode cX5_wonBy 173 = .ok (.iload 9, 2) := by decide +kernel
theorem dX5_wonBy_175 : decode cX5_wonBy 175 = .ok (.ireturn, 1) := by decide +kernel
theorem dX5_twelfths_0 : decode cX5_twelfths 0 = .ok (.iload_n 0, 1) := by decide +kernel
theorem dX5_twelfths_1 : decode cX5_twelfths 1 = .ok (.iload_n 2, 1) := by decide +kernel
theorem dX5_twelfths_2 : decode cX5_twelfths 2 = .ok (.ishr, 1) := by decide +kernel
theorem dX5_twelfths_3 : decode cX5_twelfths 3 = .ok (.iconst 1, 1) := by decide +kernel
theorem dX5_twelfths_4 : decode cX5_twelfths 4 = .ok (.iand, 1) := by decide +kernel
theorem dX5_twelfths_5 : decode cX5_twelfths 5 = .ok (.bipush 12, 2) := by decide +kernel
theorem dX5_twelfths_7 : decode cX5_twelfths 7 = .ok (.iload_n 3, 1) := by decide +kernel
theorem dX5_twelfths_8 : decode cX5_twelfths 8 = .ok (.isub, 1) := by decide +kernel
theorem dX5_twelfths_9 : decode cX5_twelfths 9 = .ok (.imul, 1) := by decide +kernel
theorem dX5_twelfths_10 : decode cX5_twelfths 10 = .ok (.iload_n 1, 1) := by decide +kernel
theorem dX5_twelfths_11 : decode cX5_twelfths 11 = .ok (.iload_n 2, 1) := by decide +kernel
theorem dX5_twelfths_12 : decode cX5_twelfths 12 = .ok (.ishr, 1) := by decide +kernel
theorem dX5_twelfths_13 : decode cX5_twelfths 13 = .ok (.iconst 1, 1) := by decide +kernel
theorem dX5_twelfths_14 : decode cX5_twelfths 14 = .ok (.iand, 1) := by decide +kernel
theorem dX5_twelfths_15 : decode cX5_twelfths 15 = .ok (.iload_n 3, 1) := by decide +kernel
theorem dX5_twelfths_16 : decode cX5_twelfths 16 = .ok (.imul, 1) := by decide +kernel
theorem dX5_twelfths_17 : decode cX5_twelfths 17 = .ok (.iadd, 1) := by decide +kernel
theorem dX5_twelfths_18 : decode cX5_twelfths 18 = .ok (.ireturn, 1) := by decide +kernel
end
section
theorem dX6_init_0 : decode cX6_init 0 = .ok (.aload_n 0, 1) := by decide +kernel
theorem dX6_init_1 : decode cX6_init 1 = .ok (.invokespecial 1, 3) := by decide +kernel
theorem dX6_init_4 : decode cX6_init 4 = .ok (.aload_n 0, 1) := by decide +kernel
theorem dX6_init_5 : decode cX6_init 5 = .ok (.bipush 6, 2) := by decide +kernel
theorem dX6_init_7 : decode cX6_init 7 = .ok (.newarray .int, 2) := by decide +kernel
theorem dX6_init_9 : decode cX6_init 9 = .ok (.putfield 7, 3) := by decide +kernel
theorem dX6_init_12 : decode cX6_init 12 = .ok (.aload_n 0, 1) := by decide +kernel
theorem dX6_init_13 : decode cX6_init 13 = .ok (.lconst 1, 1) := by decide +kernel
theorem dX6_init_14 : decode cX6_init 14 = .ok (.putfield 13, 3) := by decide +kernel
theorem dX6_init_17 : decode cX6_init 17 = .ok (.aload_n 0, 1) := by decide +kernel
theorem dX6_init_18 : decode cX6_init 18 = .ok (.bipush 6, 2) := by decide +kernel
theorem dX6_init_20 : decode cX6_init 20 = .ok (.newarray .int, 2) := by decide +kernel
theorem dX6_init_22 : decode cX6_init 22 = .ok (.putfield 17, 3) := by decide +kernel
theorem dX6_init_25 : decode cX6_init 25 = .ok (.aload_n 0, 1) := by decide +kernel
theorem dX6_init_26 : decode cX6_init 26 = .ok (.sipush 240, 3) := by decide +kernel
theorem dX6_init_29 : decode cX6_init 29 = .ok (.newarray .int, 2) := by decide +kernel
theorem dX6_init_31 : decode cX6_init 31 = .ok (.putfield 20, 3) := by decide +kernel
theorem dX6_init_34 : decode cX6_init 34 = .ok (.aload_n 0, 1) := by decide +kernel
theorem dX6_init_35 : decode cX6_init 35 = .ok (.iconst 4, 1) := by decide +kernel
theorem dX6_init_36 : decode cX6_init 36 = .ok (.newarray .int, 2) := by decide +kernel
theorem dX6_init_38 : decode cX6_init 38 = .ok (.putfield 23, 3) := by decide +kernel
theorem dX6_init_41 : decode cX6_init 41 = .ok (.aload_n 0, 1) := by decide +kernel
theorem dX6_init_42 : decode cX6_init 42 = .ok (.sipush 240, 3) := by decide +kernel
theorem dX6_init_45 : decode cX6_init 45 = .ok (.newarray .byte, 2) := by decide +kernel
theorem dX6_init_47 : decode cX6_init 47 = .ok (.putfield 26, 3) := by decide +kernel
theorem dX6_init_50 : decode cX6_init 50 = .ok (.aload_n 0, 1) := by decide +kernel
theorem dX6_init_51 : decode cX6_init 51 = .ok (.bipush 40, 2) := by decide +kernel
theorem dX6_init_53 : decode cX6_init 53 = .ok (.newarray .int, 2) := by decide +kernel
theorem dX6_init_55 : decode cX6_init 55 = .ok (.putfield 30, 3) := by decide +kernel
theorem dX6_init_58 : decode cX6_init 58 = .ok (.aload_n 0, 1) := by decide +kernel
theorem dX6_init_59 : decode cX6_init 59 = .ok (.bipush 18, 2) := by decide +kernel
theorem dX6_init_61 : decode cX6_init 61 = .ok (.newarray .int, 2) := by decide +kernel
theorem dX6_init_63 : decode cX6_init 63 = .ok (.putfield 33, 3) := by decide +kernel
theorem dX6_init_66 : decode cX6_init 66 = .ok (.aload_n 0, 1) := by decide +kernel
theorem dX6_init_67 : decode cX6_init 67 = .ok (.bipush 18, 2) := by decide +kernel
theorem dX6_init_69 : decode cX6_init 69 = .ok (.newarray .int, 2) := by decide +kernel
theorem dX6_init_71 : decode cX6_init 71 = .ok (.putfield 36, 3) := by decide +kernel
theorem dX6_init_74 : decode cX6_init 74 = .ok (.aload_n 0, 1) := by decide +kernel
theorem dX6_init_75 : decode cX6_init 75 = .ok (.sipush 451, 3) := by decide +kernel
theorem dX6_init_78 : decode cX6_init 78 = .ok (.newarray .int, 2) := by decide +kernel
theorem dX6_init_80 : decode cX6_init 80 = .ok (.putfield 39, 3) := by decide +kernel
theorem dX6_init_83 : decode cX6_init 83 = .ok (.aload_n 0, 1) := by decide +kernel
theorem dX6_init_84 : decode cX6_init 84 = .ok (.sipush 1353, 3) := by decide +kernel
theorem dX6_init_87 : decode cX6_init 87 = .ok (.newarray .int, 2) := by decide +kernel
theorem dX6_init_89 : decode cX6_init 89 = .ok (.putfield 42, 3) := by decide +kernel
theorem dX6_init_92 : decode cX6_init 92 = .ok (.aload_n 0, 1) := by decide +kernel
theorem dX6_init_93 : decode cX6_init 93 = .ok (.iconst 3, 1) := by decide +kernel
theorem dX6_init_94 : decode cX6_init 94 = .ok (.newarray .int, 2) := by decide +kernel
theorem dX6_init_96 : decode cX6_init 96 = .ok (.putfield 45, 3) := by decide +kernel
theorem dX6_init_99 : decode cX6_init 99 = .ok (.aload_n 0, 1) := by decide +kernel
theorem dX6_init_100 : decode cX6_init 100 = .ok (.bipush 11, 2) := by decide +kernel
theorem dX6_init_102 : decode cX6_init 102 = .ok (.newarray .int, 2) := by decide +kernel
theorem dX6_init_104 : decode cX6_init 104 = .ok (.putfield 48, 3) := by decide +kernel
theorem dX6_init_107 : decode cX6_init 107 = .ok (.aload_n 0, 1) := by decide +kernel
theorem dX6_init_108 : decode cX6_init 108 = .ok (.sipush 10000, 3) := by decide +kernel
theorem dX6_init_111 : decode cX6_init 111 = .ok (.newarray .int, 2) := by decide +kernel
theorem dX6_init_113 : decode cX6_init 113 = .ok (.putfield 51, 3) := by decide +kernel
theorem dX6_init_116 : decode cX6_init 116 = .ok (.iconst 0, 1) := by decide +kernel
theorem dX6_init_117 : decode cX6_init 117 = .ok (.istore_n 1, 1) := by decide +kernel
theorem dX6_init_118 : decode cX6_init 118 = .ok (.iload_n 1, 1) := by decide +kernel
theorem dX6_init_119 : decode cX6_init 119 = .ok (.bipush 6, 2) := by decide +kernel
theorem dX6_init_121 : decode cX6_init 121 = .ok (.if_icmp .ge 16, 3) := by decide +kernel
theorem dX6_init_124 : decode cX6_init 124 = .ok (.aload_n 0, 1) := by decide +kernel
theorem dX6_init_125 : decode cX6_init 125 = .ok (.getfield 17, 3) := by decide +kernel
theorem dX6_init_128 : decode cX6_init 128 = .ok (.iload_n 1, 1) := by decide +kernel
theorem dX6_init_129 : decode cX6_init 129 = .ok (.iconst (-1), 1) := by decide +kernel
theorem dX6_init_130 : decode cX6_init 130 = .ok (.iastore, 1) := by decide +kernel
theorem dX6_init_131 : decode cX6_init 131 = .ok (.iinc 1 1, 3) := by decide +kernel
theorem dX6_init_134 : decode cX6_init 134 = .ok (.goto (-16), 3) := by decide +kernel
theorem dX6_init_137 : decode cX6_init 137 = .ok (.iconst 0, 1) := by decide +kernel
theorem dX6_init_138 : decode cX6_init 138 = .ok (.istore_n 1, 1) := by decide +kernel
theorem dX6_init_139 : decode cX6_init 139 = .ok (.iload_n 1, 1) := by decide +kernel
theorem dX6_init_140 : decode cX6_init 140 = .ok (.iconst 4, 1) := by decide +kernel
theorem dX6_init_141 : decode cX6_init 141 = .ok (.if_icmp .ge 16, 3) := by decide +kernel
theorem dX6_init_144 : decode cX6_init 144 = .ok (.aload_n 0, 1) := by decide +kernel
theorem dX6_init_145 : decode cX6_init 145 = .ok (.getfield 23, 3) := by decide +kernel
theorem dX6_init_148 : decode cX6_init 148 = .ok (.iload_n 1, 1) := by decide +kernel
theorem dX6_init_149 : decode cX6_init 149 = .ok (.iconst (-1), 1) := by decide +kernel
theorem dX6_init_150 : decode cX6_init 150 = .ok (.iastore, 1) := by decide +kernel
theorem dX6_init_151 : decode cX6_init 151 = .ok (.iinc 1 1, 3) := by decide +kernel
theorem dX6_init_154 : decode cX6_init 154 = .ok (.goto (-15), 3) := by decide +kernel
theorem dX6_init_157 : decode cX6_init 157 = .ok (.iconst 0, 1) := by decide +kernel
theorem dX6_init_158 : decode cX6_init 158 = .ok (.istore_n 1, 1) := by decide +kernel
theorem dX6_init_159 : decode cX6_init 159 = .ok (.iload_n 1, 1) := by decide +kernel
theorem dX6_init_160 : decode cX6_init 160 = .ok (.iconst 3, 1) := by decide +kernel
theorem dX6_init_161 : decode cX6_init 161 = .ok (.if_icmp .ge 16, 3) := by decide +kernel
theorem dX6_init_164 : decode cX6_init 164 = .ok (.aload_n 0, 1) := by decide +kernel
theorem dX6_init_165 : decode cX6_init 165 = .ok (.getfield 45, 3) := by decide +kernel
theorem dX6_init_168 : decode cX6_init 168 = .ok (.iload_n 1, 1) := by decide +kernel
theorem dX6_init_169 : decode cX6_init 169 = .ok (.iconst (-1), 1) := by decide +kernel
theorem dX6_init_170 : decode cX6_init 170 = .ok (.iastore, 1) := by decide +kernel
theorem dX6_init_171 : decode cX6_init 171 = .ok (.iinc 1 1, 3) := by decide +kernel
theorem dX6_init_174 : decode cX6_init 174 = .ok (.goto (-15), 3) := by decide +kernel
theorem dX6_init_177 : decode cX6_init 177 = .ok (.return_, 1) := by decide +kernel
theorem dX6_in_0 : decode cX6_in 0 = .ok (.iload_n 0, 1) := by decide +kernel
theorem dX6_in_1 : decode cX6_in 1 = .ok (.iload_n 1, 1) := by decide +kernel
theorem dX6_in_2 : decode cX6_in 2 = .ok (.if_icmp .lt 12, 3) := by decide +kernel
theorem dX6_in_5 : decode cX6_in 5 = .ok (.iload_n 0, 1) := by decide +kernel
theorem dX6_in_6 : decode cX6_in 6 = .ok (.iload_n 2, 1) := by decide +kernel
theorem dX6_in_7 : decode cX6_in 7 = .ok (.if_icmp .gt 7, 3) := by decide +kernel
theorem dX6_in_10 : decode cX6_in 10 = .ok (.iconst 1, 1) := by decide +kernel
theorem dX6_in_11 : decode cX6_in 11 = .ok (.goto 4, 3) := by decide +kernel
theorem dX6_in_14 : decode cX6_in 14 = .ok (.iconst 0, 1) := by decide +kernel
theorem dX6_in_15 : decode cX6_in 15 = .ok (.ireturn, 1) := by decide +kernel
theorem dX6_has_0 : decode cX6_has 0 = .ok (.iload_n 0, 1) := by decide +kernel
theorem dX6_has_1 : decode cX6_has 1 = .ok (.iload_n 1, 1) := by decide +kernel
theorem dX6_has_2 : decode cX6_has 2 = .ok (.ishr, 1) := by decide +kernel
theorem dX6_has_3 : decode cX6_has 3 = .ok (.iconst 1, 1) := by decide +kernel
theorem dX6_has_4 : decode cX6_has 4 = .ok (.iand, 1) := by decide +kernel
theorem dX6_has_5 : decode cX6_has 5 = .ok (.iconst 1, 1) := by decide +kernel
theorem dX6_has_6 : decode cX6_has 6 = .ok (.if_icmp .ne 7, 3) := by decide +kernel
theorem dX6_has_9 : decode cX6_has 9 = .ok (.iconst 1, 1) := by decide +kernel
theorem dX6_has_10 : decode cX6_has 10 = .ok (.goto 4, 3) := by decide +kernel
theorem dX6_has_13 : decode cX6_has 13 = .ok (.iconst 0, 1) := by decide +kernel
theorem dX6_has_14 : decode cX6_has 14 = .ok (.ireturn, 1) := by decide +kernel
theorem dX6_bitsOf_0 : decode cX6_bitsOf 0 = .ok (.iconst 0, 1) := by decide +kernel
theorem dX6_bitsOf_1 : decode cX6_bitsOf 1 = .ok (.istore_n 1, 1) := by decide +kernel
theorem dX6_bitsOf_2 : decode cX6_bitsOf 2 = .ok (.iconst 0, 1) := by decide +kernel
theorem dX6_bitsOf_3 : decode cX6_bitsOf 3 = .ok (.istore_n 2, 1) := by decide +kernel
theorem dX6_bitsOf_4 : decode cX6_bitsOf 4 = .ok (.iload_n 2, 1) := by decide +kernel
theorem dX6_bitsOf_5 : decode cX6_bitsOf 5 = .ok (.bipush 9, 2) := by decide +kernel
theorem dX6_bitsOf_7 : decode cX6_bitsOf 7 = .ok (.if_icmp .ge 17, 3) := by decide +kernel
theorem dX6_bitsOf_10 : decode cX6_bitsOf 10 = .ok (.iload_n 1, 1) := by decide +kernel
theorem dX6_bitsOf_11 : decode cX6_bitsOf 11 = .ok (.iload_n 0, 1) := by decide +kernel
theorem dX6_bitsOf_12 : decode cX6_bitsOf 12 = .ok (.iload_n 2, 1) := by decide +kernel
theorem dX6_bitsOf_13 : decode cX6_bitsOf 13 = .ok (.ishr, 1) := by decide +kernel
theorem dX6_bitsOf_14 : decode cX6_bitsOf 14 = .ok (.iconst 1, 1) := by decide +kernel
theorem dX6_bitsOf_15 : decode cX6_bitsOf 15 = .ok (.iand, 1) := by decide +kernel
theorem dX6_bitsOf_16 : decode cX6_bitsOf 16 = .ok (.iadd, 1) := by decide +kernel
theorem dX6_bitsOf_17 : decode cX6_bitsOf 17 = .ok (.istore_n 1, 1) := by decide +kernel
theorem dX6_bitsOf_18 : decode cX6_bitsOf 18 = .ok (.iinc 2 1, 3) := by decide +kernel
theorem dX6_bitsOf_21 : decode cX6_bitsOf 21 = .ok (.goto (-17), 3) := by decide +kernel
theorem dX6_bitsOf_24 : decode cX6_bitsOf 24 = .ok (.iload_n 1, 1) := by decide +kernel
theorem dX6_bitsOf_25 : decode cX6_bitsOf 25 = .ok (.ireturn, 1) := by decide +kernel
theorem dX6_find_0 : decode cX6_find 0 = .ok (.aload_n 0, 1) := by decide +kernel
theorem dX6_find_1 : decode cX6_find 1 = .ok (.iload_n 1, 1) := by decide +kernel
theorem dX6_find_2 : decode cX6_find 2 = .ok (.putfield 54, 3) := by decide +kernel
theorem dX6_find_5 : decode cX6_find 5 = .ok (.aload_n 0, 1) := by decide +kernel
theorem dX6_find_6 : decode cX6_find 6 = .ok (.getfield 7, 3) := by decide +kernel
theorem dX6_find_9 : decode cX6_find 9 = .ok (.iload_n 1, 1) := by decide +kernel
theorem dX6_find_10 : decode cX6_find 10 = .ok (.dup2, 1) := by decide +kernel
theorem dX6_find_11 : decode cX6_find 11 = .ok (.iaload, 1) := by decide +kernel
theorem dX6_find_12 : decode cX6_find 12 = .ok (.iconst 1, 1) := by decide +kernel
theorem dX6_find_13 : decode cX6_find 13 = .ok (.iadd, 1) := by decide +kernel
theorem dX6_find_14 : decode cX6_find 14 = .ok (.iastore, 1) := by decide +kernel
theorem dX6_find_15 : decode cX6_find 15 = .ok (.bipush (-3), 2) := by decide +kernel
theorem dX6_find_17 : decode cX6_find 17 = .ok (.ireturn, 1) := by decide +kernel
theorem dX6_told_0 : decode cX6_told 0 = .ok (.aload_n 0, 1) := by decide +kernel
theorem dX6_told_1 : decode cX6_told 1 = .ok (.iload_n 1, 1) := by decide +kernel
theorem dX6_told_2 : decode cX6_told 2 = .ok (.putfield 58, 3) := by decide +kernel
theorem dX6_told_5 : decode cX6_told 5 = .ok (.iconst 1, 1) := by decide +kernel
theorem dX6_told_6 : decode cX6_told 6 = .ok (.ireturn, 1) := by decide +kernel
theorem dX6_fraction_0 : decode cX6_fraction 0 = .ok (.lload_n 1, 1) := by decide +kernel
theorem dX6_fraction_1 : decode cX6_fraction 1 = .ok (.lstore 5, 2) := by decide +kernel
theorem dX6_fraction_3 : decode cX6_fraction 3 = .ok (.lload_n 3, 1) := by decide +kernel
theorem dX6_fraction_4 : decode cX6_fraction 4 = .ok (.lstore 7, 2) := by decide +kernel
theorem dX6_fraction_6 : decode cX6_fraction 6 = .ok (.lload 7, 2) := by decide +kernel
theorem dX6_fraction_8 : decode cX6_fraction 8 = .ok (.lconst 0, 1) := by decide +kernel
theorem dX6_fraction_9 : decode cX6_fraction 9 = .ok (.lcmp, 1) := by decide +kernel
theorem dX6_fraction_10 : decode cX6_fraction 10 = .ok (.ifCond .eq 21, 3) := by decide +kernel
theorem dX6_fraction_13 : decode cX6_fraction 13 = .ok (.lload 5, 2) := by decide +kernel
theorem dX6_fraction_15 : decode cX6_fraction 15 = .ok (.lload 7, 2) := by decide +kernel
theorem dX6_fraction_17 : decode cX6_fraction 17 = .ok (.lrem, 1) := by decide +kernel
theorem dX6_fraction_18 : decode cX6_fraction 18 = .ok (.lstore 9, 2) := by decide +kernel
theorem dX6_fraction_20 : decode cX6_fraction 20 = .ok (.lload 7, 2) := by decide +kernel
theorem dX6_fraction_22 : decode cX6_fraction 22 = .ok (.lstore 5, 2) := by decide +kernel
theorem dX6_fraction_24 : decode cX6_fraction 24 = .ok (.lload 9, 2) := by decide +kernel
theorem dX6_fraction_26 : decode cX6_fraction 26 = .ok (.lstore 7, 2) := by decide +kernel
theorem dX6_fraction_28 : decode cX6_fraction 28 = .ok (.goto (-22), 3) := by decide +kernel
theorem dX6_fraction_31 : decode cX6_fraction 31 = .ok (.aload_n 0, 1) := by decide +kernel
theorem dX6_fraction_32 : decode cX6_fraction 32 = .ok (.lload_n 1, 1) := by decide +kernel
theorem dX6_fraction_33 : decode cX6_fraction 33 = .ok (.lload 5, 2) := by decide +kernel
theorem dX6_fraction_35 : decode cX6_fraction 35 = .ok (.ldiv, 1) := by decide +kernel
theorem dX6_fraction_36 : decode cX6_fraction 36 = .ok (.putfield 61, 3) := by decide +kernel
theorem dX6_fraction_39 : decode cX6_fraction 39 = .ok (.aload_n 0, 1) := by decide +kernel
theorem dX6_fraction_40 : decode cX6_fraction 40 = .ok (.lload_n 3, 1) := by decide +kernel
theorem dX6_fraction_41 : decode cX6_fraction 41 = .ok (.lload 5, 2) := by decide +kernel
theorem dX6_fraction_43 : decode cX6_fraction 43 = .ok (.ldiv, 1) := by decide +kernel
theorem dX6_fraction_44 : decode cX6_fraction 44 = .ok (.putfield 13, 3) := by decide +kernel
theorem dX6_fraction_47 : decode cX6_fraction 47 = .ok (.iconst 1, 1) := by decide +kernel
theorem dX6_fraction_48 : decode cX6_fraction 48 = .ok (.ireturn, 1) := by decide +kernel
theorem dX6_isRow_0 : decode cX6_isRow 0 = .ok (.iload_n 0, 1) := by decide +kernel
theorem dX6_isRow_1 : decode cX6_isRow 1 = .ok (.iconst 0, 1) := by decide +kernel
theorem dX6_isRow_2 : decode cX6_isRow 2 = .ok (.iconst 5, 1) := by decide +kernel
theorem dX6_isRow_3 : decode cX6_isRow 3 = .ok (.invokestatic 64, 3) := by decide +kernel
theorem dX6_isRow_6 : decode cX6_isRow 6 = .ok (.ireturn, 1) := by decide +kernel
theorem dX6_isText_0 : decode cX6_isText 0 = .ok (.iload_n 0, 1) := by decide +kernel
theorem dX6_isText_1 : decode cX6_isText 1 = .ok (.iconst 0, 1) := by decide +kernel
theorem dX6_isText_2 : decode cX6_isText 2 = .ok (.iconst 3, 1) := by decide +kernel
theorem dX6_isText_3 : decode cX6_isText 3 = .ok (.invokestatic 64, 3) := by decide +kernel
theorem dX6_isText_6 : decode cX6_isText 6 = .ok (.ireturn, 1) := by decide +kernel
theorem dX6_row_0 : decode cX6_row 0 = .ok (.iload_n 1, 1) := by decide +kernel
theorem dX6_row_1 : decode cX6_row 1 = .ok (.invokestatic 68, 3) := by decide +kernel
theorem dX6_row_4 : decode cX6_row 4 = .ok (.ifCond .eq 9, 3) := by decide +kernel
theorem dX6_row_7 : decode cX6_row 7 = .ok (.iload_n 2, 1) := by decide +kernel
theorem dX6_row_8 : decode cX6_row 8 = .ok (.bipush 40, 2) := by decide +kernel
theorem dX6_row_10 : decode cX6_row 10 = .ok (.if_icmp .le 5, 3) := by decide +kernel
theorem dX6_row_13 : decode cX6_row 13 = .ok (.iconst (-1), 1) := by decide +kernel
theorem dX6_row_14 : decode cX6_row 14 = .ok (.ireturn, 1) := by decide +kernel
theorem dX6_row_15 : decode cX6_row 15 = .ok (.iload_n 2, 1) := by decide +kernel
theorem dX6_row_16 : decode cX6_row 16 = .ok (.ifCond .ge 9, 3) := by decide +kernel
theorem dX6_row_19 : decode cX6_row 19 = .ok (.aload_n 0, 1) := by decide +kernel
theorem dX6_row_20 : decode cX6_row 20 = .ok (.iconst 5, 1) := by decide +kernel
theorem dX6_row_21 : decode cX6_row 21 = .ok (.invokevirtual 72, 3) := by decide +kernel
theorem dX6_row_24 : decode cX6_row 24 = .ok (.ireturn, 1) := by decide +kernel
theorem dX6_row_25 : decode cX6_row 25 = .ok (.aload_n 0, 1) := by decide +kernel
theorem dX6_row_26 : decode cX6_row 26 = .ok (.getfield 17, 3) := by decide +kernel
theorem dX6_row_29 : decode cX6_row 29 = .ok (.iload_n 1, 1) := by decide +kernel
theorem dX6_row_30 : decode cX6_row 30 = .ok (.iload_n 2, 1) := by decide +kernel
theorem dX6_row_31 : decode cX6_row 31 = .ok (.iastore, 1) := by decide +kernel
theorem dX6_row_32 : decode cX6_row 32 = .ok (.iconst 0, 1) := by decide +kernel
theorem dX6_row_33 : decode cX6_row 33 = .ok (.istore_n 3, 1) := by decide +kernel
theorem dX6_row_34 : decode cX6_row 34 = .ok (.iload_n 3, 1) := by decide +kernel
theorem dX6_row_35 : decode cX6_row 35 = .ok (.bipush 40, 2) := by decide +kernel
theorem dX6_row_37 : decode cX6_row 37 = .ok (.if_icmp .ge 21, 3) := by decide +kernel
theorem dX6_row_40 : decode cX6_row 40 = .ok (.aload_n 0, 1) := by decide +kernel
theorem dX6_row_41 : decode cX6_row 41 = .ok (.getfield 20, 3) := by decide +kernel
theorem dX6_row_44 : decode cX6_row 44 = .ok (.bipush 40, 2) := by decide +kernel
theorem dX6_row_46 : decode cX6_row 46 = .ok (.iload_n 1, 1) := by decide +kernel
theorem dX6_row_47 : decode cX6_row 47 = .ok (.imul, 1) := by decide +kernel
theorem dX6_row_48 : decode cX6_row 48 = .ok (.iload_n 3, 1) := by decide +kernel
theorem dX6_row_49 : decode cX6_row 49 = .ok (.iadd, 1) := by decide +kernel
theorem dX6_row_50 : decode cX6_row 50 = .ok (.iconst 0, 1) := by decide +kernel
theorem dX6_row_51 : decode cX6_row 51 = .ok (.iastore, 1) := by decide +kernel
theorem dX6_row_52 : decode cX6_row 52 = .ok (.iinc 3 1, 3) := by decide +kernel
theorem dX6_row_55 : decode cX6_row 55 = .ok (.goto (-21), 3) := by decide +kernel
theorem dX6_row_58 : decode cX6_row 58 = .ok (.iload_n 2, 1) := by decide +kernel
theorem dX6_row_59 : decode cX6_row 59 = .ok (.ireturn, 1) := by decide +kernel
theorem dX6_lay_0 : decode cX6_lay 0 = .ok (.iload_n 1, 1) := by decide +kernel
theorem dX6_lay_1 : decode cX6_lay 1 = .ok (.invokestatic 68, 3) := by decide +kernel
theorem dX6_lay_4 : decode cX6_lay 4 = .ok (.ifCond .ne 5, 3) := by decide +kernel
theorem dX6_lay_7 : decode cX6_lay 7 = .ok (.iconst (-1), 1) := by decide +kernel
theorem dX6_lay_8 : decode cX6_lay 8 = .ok (.ireturn, 1) := by decide +kernel
theorem dX6_lay_9 : decode cX6_lay 9 = .ok (.aload_n 0, 1) := by decide +kernel
theorem dX6_lay_10 : decode cX6_lay 10 = .ok (.getfield 17, 3) := by decide +kernel
theorem dX6_lay_13 : decode cX6_lay 13 = .ok (.iload_n 1, 1) := by decide +kernel
theorem dX6_lay_14 : decode cX6_lay 14 = .ok (.iaload, 1) := by decide +kernel
theorem dX6_lay_15 : decode cX6_lay 15 = .ok (.ifCond .ge 9, 3) := by decide +kernel
theorem dX6_lay_18 : decode cX6_lay 18 = .ok (.aload_n 0, 1) := by decide +kernel
theorem dX6_lay_19 : decode cX6_lay 19 = .ok (.iconst 1, 1) := by decide +kernel
theorem dX6_lay_20 : decode cX6_lay 20 = .ok (.invokevirtual 72, 3) := by decide +kernel
theorem dX6_lay_23 : decode cX6_lay 23 = .ok (.ireturn, 1) := by decide +kernel
theorem dX6_lay_24 : decode cX6_lay 24 = .ok (.iload_n 2, 1) := by decide +kernel
theorem dX6_lay_25 : decode cX6_lay 25 = .ok (.iconst 0, 1) := by decide +kernel
theorem dX6_lay_26 : decode cX6_lay 26 = .ok (.aload_n 0, 1) := by decide +kernel
theorem dX6_lay_27 : decode cX6_lay 27 = .ok (.getfield 17, 3) := by decide +kernel
theorem dX6_lay_30 : decode cX6_lay 30 = .ok (.iload_n 1, 1) := by decide +kernel
theorem dX6_lay_31 : decode cX6_lay 31 = .ok (.iaload, 1) := by decide +kernel
theorem dX6_lay_32 : decode cX6_lay 32 = .ok (.iconst 1, 1) := by decide +kernel
theorem dX6_lay_33 : decode cX6_lay 33 = .ok (.isub, 1) := by decide +kernel
theorem dX6_lay_34 : decode cX6_lay 34 = .ok (.invokestatic 64, 3) := by decide +kernel
theorem dX6_lay_37 : decode cX6_lay 37 = .ok (.ifCond .ne 9, 3) := by decide +kernel
theorem dX6_lay_40 : decode cX6_lay 40 = .ok (.aload_n 0, 1) := by decide +kernel
theorem dX6_lay_41 : decode cX6_lay 41 = .ok (.iconst 2, 1) := by decide +kernel
theorem dX6_lay_42 : decode cX6_lay 42 = .ok (.invokevirtual 72, 3) := by decide +kernel
theorem dX6_lay_45 : decode cX6_lay 45 = .ok (.ireturn, 1) := by decide +kernel
theorem dX6_lay_46 : decode cX6_lay 46 = .ok (.aload_n 0, 1) := by decide +kernel
theorem dX6_lay_47 : decode cX6_lay 47 = .ok (.getfield 20, 3) := by decide +kernel
theorem dX6_lay_50 : decode cX6_lay 50 = .ok (.bipush 40, 2) := by decide +kernel
theorem dX6_lay_52 : decode cX6_lay 52 = .ok (.iload_n 1, 1) := by decide +kernel
theorem dX6_lay_53 : decode cX6_lay 53 = .ok (.imul, 1) := by decide +kernel
theorem dX6_lay_54 : decode cX6_lay 54 = .ok (.iload_n 2, 1) := by decide +kernel
theorem dX6_lay_55 : decode cX6_lay 55 = .ok (.iadd, 1) := by decide +kernel
theorem dX6_lay_56 : decode cX6_lay 56 = .ok (.iaload, 1) := by decide +kernel
theorem dX6_lay_57 : decode cX6_lay 57 = .ok (.istore 4, 2) := by decide +kernel
theorem dX6_lay_59 : decode cX6_lay 59 = .ok (.aload_n 0, 1) := by decide +kernel
theorem dX6_lay_60 : decode cX6_lay 60 = .ok (.getfield 20, 3) := by decide +kernel
theorem dX6_lay_63 : decode cX6_lay 63 = .ok (.bipush 40, 2) := by decide +kernel
theorem dX6_lay_65 : decode cX6_lay 65 = .ok (.iload_n 1, 1) := by decide +kernel
theorem dX6_lay_66 : decode cX6_lay 66 = .ok (.imul, 1) := by decide +kernel
theorem dX6_lay_67 : decode cX6_lay 67 = .ok (.iload_n 2, 1) := by decide +kernel
theorem dX6_lay_68 : decode cX6_lay 68 = .ok (.iadd, 1) := by decide +kernel
theorem dX6_lay_69 : decode cX6_lay 69 = .ok (.iload_n 3, 1) := by decide +kernel
theorem dX6_lay_70 : decode cX6_lay 70 = .ok (.iastore, 1) := by decide +kernel
theorem dX6_lay_71 : decode cX6_lay 71 = .ok (.aload_n 0, 1) := by decide +kernel
theorem dX6_lay_72 : decode cX6_lay 72 = .ok (.iload 4, 2) := by decide +kernel
theorem dX6_lay_74 : decode cX6_lay 74 = .ok (.invokevirtual 76, 3) := by decide +kernel
theorem dX6_lay_77 : decode cX6_lay 77 = .ok (.ireturn, 1) := by decide +kernel
theorem dX6_at_0 : decode cX6_at 0 = .ok (.iload_n 1, 1) := by decide +kernel
theorem dX6_at_1 : decode cX6_at 1 = .ok (.invokestatic 68, 3) := by decide +kernel
theorem dX6_at_4 : decode cX6_at 4 = .ok (.ifCond .ne 5, 3) := by decide +kernel
theorem dX6_at_7 : decode cX6_at 7 = .ok (.iconst (-1), 1) := by decide +kernel
theorem dX6_at_8 : decode cX6_at 8 = .ok (.ireturn, 1) := by decide +kernel
theorem dX6_at_9 : decode cX6_at 9 = .ok (.aload_n 0, 1) := by decide +kernel
theorem dX6_at_10 : decode cX6_at 10 = .ok (.getfield 17, 3) := by decide +kernel
theorem dX6_at_13 : decode cX6_at 13 = .ok (.iload_n 1, 1) := by decide +kernel
theorem dX6_at_14 : decode cX6_at 14 = .ok (.iaload, 1) := by decide +kernel
theorem dX6_at_15 : decode cX6_at 15 = .ok (.ifCond .ge 9, 3) := by decide +kernel
theorem dX6_at_18 : decode cX6_at 18 = .ok (.aload_n 0, 1) := by decide +kernel
theorem dX6_at_19 : decode cX6_at 19 = .ok (.iconst 1, 1) := by decide +kernel
theorem dX6_at_20 : decode cX6_at 20 = .ok (.invokevirtual 72, 3) := by decide +kernel
theorem dX6_at_23 : decode cX6_at 23 = .ok (.ireturn, 1) := by decide +kernel
theorem dX6_at_24 : decode cX6_at 24 = .ok (.iload_n 2, 1) := by decide +kernel
theorem dX6_at_25 : decode cX6_at 25 = .ok (.iconst 0, 1) := by decide +kernel
theorem dX6_at_26 : decode cX6_at 26 = .ok (.aload_n 0, 1) := by decide +kernel
theorem dX6_at_27 : decode cX6_at 27 = .ok (.getfield 17, 3) := by decide +kernel
theorem dX6_at_30 : decode cX6_at 30 = .ok (.iload_n 1, 1) := by decide +kernel
theorem dX6_at_31 : decode cX6_at 31 = .ok (.iaload, 1) := by decide +kernel
theorem dX6_at_32 : decode cX6_at 32 = .ok (.iconst 1, 1) := by decide +kernel
theorem dX6_at_33 : decode cX6_at 33 = .ok (.isub, 1) := by decide +kernel
theorem dX6_at_34 : decode cX6_at 34 = .ok (.invokestatic 64, 3) := by decide +kernel
theorem dX6_at_37 : decode cX6_at 37 = .ok (.ifCond .eq 21, 3) := by decide +kernel
theorem dX6_at_40 : decode cX6_at 40 = .ok (.aload_n 0, 1) := by decide +kernel
theorem dX6_at_41 : decode cX6_at 41 = .ok (.aload_n 0, 1) := by decide +kernel
theorem dX6_at_42 : decode cX6_at 42 = .ok (.getfield 20, 3) := by decide +kernel
theorem dX6_at_45 : decode cX6_at 45 = .ok (.bipush 40, 2) := by decide +kernel
theorem dX6_at_47 : decode cX6_at 47 = .ok (.iload_n 1, 1) := by decide +kernel
theorem dX6_at_48 : decode cX6_at 48 = .ok (.imul, 1) := by decide +kernel
theorem dX6_at_49 : decode cX6_at 49 = .ok (.iload_n 2, 1) := by decide +kernel
theorem dX6_at_50 : decode cX6_at 50 = .ok (.iadd, 1) := by decide +kernel
theorem dX6_at_51 : decode cX6_at 51 = .ok (.iaload, 1) := by decide +kernel
theorem dX6_at_52 : decode cX6_at 52 = .ok (.invokevirtual 76, 3) := by decide +kernel
theorem dX6_at_55 : decode cX6_at 55 = .ok (.goto 8, 3) := by decide +kernel
theorem dX6_at_58 : decode cX6_at 58 = .ok (.aload_n 0, 1) := by decide +kernel
theorem dX6_at_59 : decode cX6_at 59 = .ok (.iconst 2, 1) := by decide +kernel
theorem dX6_at_60 : decode cX6_at 60 = .ok (.invokevirtual 72, 3) := by decide +kernel
theorem dX6_at_63 : decode cX6_at 63 = .ok (.ireturn, 1) := by decide +kernel
theorem dX6_tear_0 : decode cX6_tear 0 = .ok (.iload_n 1, 1) := by decide +kernel
theorem dX6_tear_1 : decode cX6_tear 1 = .ok (.invokestatic 68, 3) := by decide +kernel
theorem dX6_tear_4 : decode cX6_tear 4 = .ok (.ifCond .ne 5, 3) := by decide +kernel
theorem dX6_tear_7 : decode cX6_tear 7 = .ok (.iconst (-1), 1) := by decide +kernel
theorem dX6_tear_8 : decode cX6_tear 8 = .ok (.ireturn, 1) := by decide +kernel
theorem dX6_tear_9 : decode cX6_tear 9 = .ok (.aload_n 0, 1) := by decide +kernel
theorem dX6_tear_10 : decode cX6_tear 10 = .ok (.getfield 17, 3) := by decide +kernel
theorem dX6_tear_13 : decode cX6_tear 13 = .ok (.iload_n 1, 1) := by decide +kernel
theorem dX6_tear_14 : decode cX6_tear 14 = .ok (.iaload, 1) := by decide +kernel
theorem dX6_tear_15 : decode cX6_tear 15 = .ok (.ifCond .ge 9, 3) := by decide +kernel
theorem dX6_tear_18 : decode cX6_tear 18 = .ok (.aload_n 0, 1) := by decide +kernel
theorem dX6_tear_19 : decode cX6_tear 19 = .ok (.iconst 1, 1) := by decide +kernel
theorem dX6_tear_20 : decode cX6_tear 20 = .ok (.invokevirtual 72, 3) := by decide +kernel
theorem dX6_tear_23 : decode cX6_tear 23 = .ok (.ireturn, 1) := by decide +kernel
theorem dX6_tear_24 : decode cX6_tear 24 = .ok (.aload_n 0, 1) := by decide +kernel
theorem dX6_tear_25 : decode cX6_tear 25 = .ok (.getfield 17, 3) := by decide +kernel
theorem dX6_tear_28 : decode cX6_tear 28 = .ok (.iload_n 1, 1) := by decide +kernel
theorem dX6_tear_29 : decode cX6_tear 29 = .ok (.iconst (-1), 1) := by decide +kernel
theorem dX6_tear_30 : decode cX6_tear 30 = .ok (.iastore, 1) := by decide +kernel
theorem dX6_tear_31 : decode cX6_tear 31 = .ok (.iconst 1, 1) := by decide +kernel
theorem dX6_tear_32 : decode cX6_tear 32 = .ok (.ireturn, 1) := by decide +kernel
theorem dX6_copy_0 : decode cX6_copy 0 = .ok (.iload_n 1, 1) := by decide +kernel
theorem dX6_copy_1 : decode cX6_copy 1 = .ok (.invokestatic 68, 3) := by decide +kernel
theorem dX6_copy_4 : decode cX6_copy 4 = .ok (.ifCond .eq 10, 3) := by decide +kernel
theorem dX6_copy_7 : decode cX6_copy 7 = .ok (.iload_n 3, 1) := by decide +kernel
theorem dX6_copy_8 : decode cX6_copy 8 = .ok (.invokestatic 68, 3) := by decide +kernel
theorem dX6_copy_11 : decode cX6_copy 11 = .ok (.ifCond .ne 5, 3) := by decide +kernel
theorem dX6_copy_14 : decode cX6_copy 14 = .ok (.iconst (-1), 1) := by decide +kernel
theorem dX6_copy_15 : decode cX6_copy 15 = .ok (.ireturn, 1) := by decide +kernel
theorem dX6_copy_16 : decode cX6_copy 16 = .ok (.iload 5, 2) := by decide +kernel
theorem dX6_copy_18 : decode cX6_copy 18 = .ok (.ifCond .ge 9, 3) := by decide +kernel
theorem dX6_copy_21 : decode cX6_copy 21 = .ok (.aload_n 0, 1) := by decide +kernel
theorem dX6_copy_22 : decode cX6_copy 22 = .ok (.iconst 5, 1) := by decide +kernel
theorem dX6_copy_23 : decode cX6_copy 23 = .ok (.invokevirtual 72, 3) := by decide +kernel
theorem dX6_copy_26 : decode cX6_copy 26 = .ok (.ireturn, 1) := by decide +kernel
theorem dX6_copy_27 : decode cX6_copy 27 = .ok (.aload_n 0, 1) := by decide +kernel
theorem dX6_copy_28 : decode cX6_copy 28 = .ok (.getfield 17, 3) := by decide +kernel
theorem dX6_copy_31 : decode cX6_copy 31 = .ok (.iload_n 1, 1) := by decide +kernel
theorem dX6_copy_32 : decode cX6_copy 32 = .ok (.iaload, 1) := by decide +kernel
theorem dX6_copy_33 : decode cX6_copy 33 = .ok (.ifCond .lt 12, 3) := by decide +kernel
theorem dX6_copy_36 : decode cX6_copy 36 = .ok (.aload_n 0, 1) := by decide +kernel
theorem dX6_copy_37 : decode cX6_copy 37 = .ok (.getfield 17, 3) := by decide +kernel
theorem dX6_copy_40 : decode cX6_copy 40 = .ok (.iload_n 3, 1) := by decide +kernel
theorem dX6_copy_41 : decode cX6_copy 41 = .ok (.iaload, 1) := by decide +kernel
theorem dX6_copy_42 : decode cX6_copy 42 = .ok (.ifCond .ge 9, 3) := by decide +kernel
theorem dX6_copy_45 : decode cX6_copy 45 = .ok (.aload_n 0, 1) := by decide +kernel
theorem dX6_copy_46 : decode cX6_copy 46 = .ok (.iconst 1, 1) := by decide +kernel
theorem dX6_copy_47 : decode cX6_copy 47 = .ok (.invokevirtual 72, 3) := by decide +kernel
theorem dX6_copy_50 : decode cX6_copy 50 = .ok (.ireturn, 1) := by decide +kernel
theorem dX6_copy_51 : decode cX6_copy 51 = .ok (.iload_n 2, 1) := by decide +kernel
theorem dX6_copy_52 : decode cX6_copy 52 = .ok (.ifCond .lt 35, 3) := by decide +kernel
theorem dX6_copy_55 : decode cX6_copy 55 = .ok (.iload_n 2, 1) := by decide +kernel
theorem dX6_copy_56 : decode cX6_copy 56 = .ok (.aload_n 0, 1) := by decide +kernel
theorem dX6_copy_57 : decode cX6_copy 57 = .ok (.getfield 17, 3) := by decide +kernel
theorem dX6_copy_60 : decode cX6_copy 60 = .ok (.iload_n 1, 1) := by decide +kernel
theorem dX6_copy_61 : decode cX6_copy 61 = .ok (.iaload, 1) := by decide +kernel
theorem dX6_copy_62 : decode cX6_copy 62 = .ok (.iload 5, 2) := by decide +kernel
theorem dX6_copy_64 : decode cX6_copy 64 = .ok (.isub, 1) := by decide +kernel
theorem dX6_copy_65 : decode cX6_copy 65 = .ok (.if_icmp .gt 22, 3) := by decide +kernel
theorem dX6_copy_68 : decode cX6_copy 68 = .ok (.iload 4, 2) := by decide +kernel
theorem dX6_copy_70 : decode cX6_copy 70 = .ok (.ifCond .lt 17, 3) := by decide +kernel
theorem dX6_copy_73 : decode cX6_copy 73 = .ok (.iload 4, 2) := by decide +kernel
theorem dX6_copy_75 : decode cX6_copy 75 = .ok (.aload_n 0, 1) := by decide +kernel
theorem dX6_copy_76 : decode cX6_copy 76 = .ok (.getfield 17, 3) := by decide +kernel
theorem dX6_copy_79 : decode cX6_copy 79 = .ok (.iload_n 3, 1) := by decide +kernel
theorem dX6_copy_80 : decode cX6_copy 80 = .ok (.iaload, 1) := by decide +kernel
theorem dX6_copy_81 : decode cX6_copy 81 = .ok (.iload 5, 2) := by decide +kernel
theorem dX6_copy_83 : decode cX6_copy 83 = .ok (.isub, 1) := by decide +kernel
theorem dX6_copy_84 : decode cX6_copy 84 = .ok (.if_icmp .le 9, 3) := by decide +kernel
theorem dX6_copy_87 : decode cX6_copy 87 = .ok (.aload_n 0, 1) := by decide +kernel
theorem dX6_copy_88 : decode cX6_copy 88 = .ok (.iconst 2, 1) := by decide +kernel
theorem dX6_copy_89 : decode cX6_copy 89 = .ok (.invokevirtual 72, 3) := by decide +kernel
theorem dX6_copy_92 : decode cX6_copy 92 = .ok (.ireturn, 1) := by decide +kernel
theorem dX6_copy_93 : decode cX6_copy 93 = .ok (.iconst 0, 1) := by decide +kernel
theorem dX6_copy_94 : decode cX6_copy 94 = .ok (.istore 6, 2) := by decide +kernel
theorem dX6_copy_96 : decode cX6_copy 96 = .ok (.iload 6, 2) := by decide +kernel
theorem dX6_copy_98 : decode cX6_copy 98 = .ok (.iload 5, 2) := by decide +kernel
theorem dX6_copy_100 : decode cX6_copy 100 = .ok (.if_icmp .ge 30, 3) := by decide +kernel
theorem dX6_copy_103 : decode cX6_copy 103 = .ok (.aload_n 0, 1) := by decide +kernel
theorem dX6_copy_104 : decode cX6_copy 104 = .ok (.getfield 30, 3) := by decide +kernel
theorem dX6_copy_107 : decode cX6_copy 107 = .ok (.iload 6, 2) := by decide +kernel
theorem dX6_copy_109 : decode cX6_copy 109 = .ok (.aload_n 0, 1) := by decide +kernel
theorem dX6_copy_110 : decode cX6_copy 110 = .ok (.getfield 20, 3) := by decide +kernel
theorem dX6_copy_113 : decode cX6_copy 113 = .ok (.bipush 40, 2) := by decide +kernel
theorem dX6_copy_115 : decode cX6_copy 115 = .ok (.iload_n 1, 1) := by decide +kernel
theorem dX6_copy_116 : decode cX6_copy 116 = .ok (.imul, 1) := by decide +kernel
theorem dX6_copy_117 : decode cX6_copy 117 = .ok (.iload_n 2, 1) := by decide +kernel
theorem dX6_copy_118 : decode cX6_copy 118 = .ok (.iadd, 1) := by decide +kernel
theorem dX6_copy_119 : decode cX6_copy 119 = .ok (.iload 6, 2) := by decide +kernel
theorem dX6_copy_121 : decode cX6_copy 121 = .ok (.iadd, 1) := by decide +kernel
theorem dX6_copy_122 : decode cX6_copy 122 = .ok (.iaload, 1) := by decide +kernel
theorem dX6_copy_123 : decode cX6_copy 123 = .ok (.iastore, 1) := by decide +kernel
theorem dX6_copy_124 : decode cX6_copy 124 = .ok (.iinc 6 1, 3) := by decide +kernel
theorem dX6_copy_127 : decode cX6_copy 127 = .ok (.goto (-31), 3) := by decide +kernel
theorem dX6_copy_130 : decode cX6_copy 130 = .ok (.iconst 0, 1) := by decide +kernel
theorem dX6_copy_131 : decode cX6_copy 131 = .ok (.istore 6, 2) := by decide +kernel
theorem dX6_copy_133 : decode cX6_copy 133 = .ok (.iload 6, 2) := by decide +kernel
theorem dX6_copy_135 : decode cX6_copy 135 = .ok (.iload 5, 2) := by decide +kernel
theorem dX6_copy_137 : decode cX6_copy 137 = .ok (.if_icmp .ge 31, 3) := by decide +kernel
theorem dX6_copy_140 : decode cX6_copy 140 = .ok (.aload_n 0, 1) := by decide +kernel
theorem dX6_copy_141 : decode cX6_copy 141 = .ok (.getfield 20, 3) := by decide +kernel
theorem dX6_copy_144 : decode cX6_copy 144 = .ok (.bipush 40, 2) := by decide +kernel
theorem dX6_copy_146 : decode cX6_copy 146 = .ok (.iload_n 3, 1) := by decide +kernel
theorem dX6_copy_147 : decode cX6_copy 147 = .ok (.imul, 1) := by decide +kernel
theorem dX6_copy_148 : decode cX6_copy 148 = .ok (.iload 4, 2) := by decide +kernel
theorem dX6_copy_150 : decode cX6_copy 150 = .ok (.iadd, 1) := by decide +kernel
theorem dX6_copy_151 : decode cX6_copy 151 = .ok (.iload 6, 2) := by decide +kernel
theorem dX6_copy_153 : decode cX6_copy 153 = .ok (.iadd, 1) := by decide +kernel
theorem dX6_copy_154 : decode cX6_copy 154 = .ok (.aload_n 0, 1) := by decide +kernel
theorem dX6_copy_155 : decode cX6_copy 155 = .ok (.getfield 30, 3) := by decide +kernel
theorem dX6_copy_158 : decode cX6_copy 158 = .ok (.iload 6, 2) := by decide +kernel
theorem dX6_copy_160 : decode cX6_copy 160 = .ok (.iaload, 1) := by decide +kernel
theorem dX6_copy_161 : decode cX6_copy 161 = .ok (.iastore, 1) := by decide +kernel
theorem dX6_copy_162 : decode cX6_copy 162 = .ok (.iinc 6 1, 3) := by decide +kernel
theorem dX6_copy_165 : decode cX6_copy 165 = .ok (.goto (-32), 3) := by decide +kernel
theorem dX6_copy_168 : decode cX6_copy 168 = .ok (.iconst 1, 1) := by decide +kernel
theorem dX6_copy_169 : decode cX6_copy 169 = .ok (.ireturn, 1) := by decide +kernel
theorem dX6_mean_0 : decode cX6_mean 0 = .ok (.iload_n 1, 1) := by decide +kernel
theorem dX6_mean_1 : decode cX6_mean 1 = .ok (.invokestatic 68, 3) := by decide +kernel
theorem dX6_mean_4 : decode cX6_mean 4 = .ok (.ifCond .ne 5, 3) := by decide +kernel
theorem dX6_mean_7 : decode cX6_mean 7 = .ok (.iconst (-1), 1) := by decide +kernel
theorem dX6_mean_8 : decode cX6_mean 8 = .ok (.ireturn, 1) := by decide +kernel
theorem dX6_mean_9 : decode cX6_mean 9 = .ok (.aload_n 0, 1) := by decide +kernel
theorem dX6_mean_10 : decode cX6_mean 10 = .ok (.getfield 17, 3) := by decide +kernel
theorem dX6_mean_13 : decode cX6_mean 13 = .ok (.iload_n 1, 1) := by decide +kernel
theorem dX6_mean_14 : decode cX6_mean 14 = .ok (.iaload, 1) := by decide +kernel
theorem dX6_mean_15 : decode cX6_mean 15 = .ok (.ifCond .ge 9, 3) := by decide +kernel
theorem dX6_mean_18 : decode cX6_mean 18 = .ok (.aload_n 0, 1) := by decide +kernel
theorem dX6_mean_19 : decode cX6_mean 19 = .ok (.iconst 1, 1) := by decide +kernel
theorem dX6_mean_20 : decode cX6_mean 20 = .ok (.invokevirtual 72, 3) := by decide +kernel
theorem dX6_mean_23 : decode cX6_mean 23 = .ok (.ireturn, 1) := by decide +kernel
theorem dX6_mean_24 : decode cX6_mean 24 = .ok (.aload_n 0, 1) := by decide +kernel
theorem dX6_mean_25 : decode cX6_mean 25 = .ok (.getfield 17, 3) := by decide +kernel
theorem dX6_mean_28 : decode cX6_mean 28 = .ok (.iload_n 1, 1) := by decide +kernel
theorem dX6_mean_29 : decode cX6_mean 29 = .ok (.iaload, 1) := by decide +kernel
theorem dX6_mean_30 : decode cX6_mean 30 = .ok (.ifCond .ne 9, 3) := by decide +kernel
theorem dX6_mean_33 : decode cX6_mean 33 = .ok (.aload_n 0, 1) := by decide +kernel
theorem dX6_mean_34 : decode cX6_mean 34 = .ok (.iconst 4, 1) := by decide +kernel
theorem dX6_mean_35 : decode cX6_mean 35 = .ok (.invokevirtual 72, 3) := by decide +kernel
theorem dX6_mean_38 : decode cX6_mean 38 = .ok (.ireturn, 1) := by decide +kernel
theorem dX6_mean_39 : decode cX6_mean 39 = .ok (.lconst 0, 1) := by decide +kernel
theorem dX6_mean_40 : decode cX6_mean 40 = .ok (.lstore_n 2, 1) := by decide +kernel
theorem dX6_mean_41 : decode cX6_mean 41 = .ok (.iconst 0, 1) := by decide +kernel
theorem dX6_mean_42 : decode cX6_mean 42 = .ok (.istore 4, 2) := by decide +kernel
theorem dX6_mean_44 : decode cX6_mean 44 = .ok (.iload 4, 2) := by decide +kernel
theorem dX6_mean_46 : decode cX6_mean 46 = .ok (.aload_n 0, 1) := by decide +kernel
theorem dX6_mean_47 : decode cX6_mean 47 = .ok (.getfield 17, 3) := by decide +kernel
theorem dX6_mean_50 : decode cX6_mean 50 = .ok (.iload_n 1, 1) := by decide +kernel
theorem dX6_mean_51 : decode cX6_mean 51 = .ok (.iaload, 1) := by decide +kernel
theorem dX6_mean_52 : decode cX6_mean 52 = .ok (.if_icmp .ge 25, 3) := by decide +kernel
theorem dX6_mean_55 : decode cX6_mean 55 = .ok (.lload_n 2, 1) := by decide +kernel
theorem dX6_mean_56 : decode cX6_mean 56 = .ok (.aload_n 0, 1) := by decide +kernel
theorem dX6_mean_57 : decode cX6_mean 57 = .ok (.getfield 20, 3) := by decide +kernel
theorem dX6_mean_60 : decode cX6_mean 60 = .ok (.bipush 40, 2) := by decide +kernel
theorem dX6_mean_62 : decode cX6_mean 62 = .ok (.iload_n 1, 1) := by decide +kernel
theorem dX6_mean_63 : decode cX6_mean 63 = .ok (.imul, 1) := by decide +kernel
theorem dX6_mean_64 : decode cX6_mean 64 = .ok (.iload 4, 2) := by decide +kernel
theorem dX6_mean_66 : decode cX6_mean 66 = .ok (.iadd, 1) := by decide +kernel
theorem dX6_mean_67 : decode cX6_mean 67 = .ok (.iaload, 1) := by decide +kernel
theorem dX6_mean_68 : decode cX6_mean 68 = .ok (.i2l, 1) := by decide +kernel
theorem dX6_mean_69 : decode cX6_mean 69 = .ok (.ladd, 1) := by decide +kernel
theorem dX6_mean_70 : decode cX6_mean 70 = .ok (.lstore_n 2, 1) := by decide +kernel
theorem dX6_mean_71 : decode cX6_mean 71 = .ok (.iinc 4 1, 3) := by decide +kernel
theorem dX6_mean_74 : decode cX6_mean 74 = .ok (.goto (-30), 3) := by decide +kernel
theorem dX6_mean_77 : decode cX6_mean 77 = .ok (.aload_n 0, 1) := by decide +kernel
theorem dX6_mean_78 : decode cX6_mean 78 = .ok (.lload_n 2, 1) := by decide +kernel
theorem dX6_mean_79 : decode cX6_mean 79 = .ok (.aload_n 0, 1) := by decide +kernel
theorem dX6_mean_80 : decode cX6_mean 80 = .ok (.getfield 17, 3) := by decide +kernel
theorem dX6_mean_83 : decode cX6_mean 83 = .ok (.iload_n 1, 1) := by decide +kernel
theorem dX6_mean_84 : decode cX6_mean 84 = .ok (.iaload, 1) := by decide +kernel
theorem dX6_mean_85 : decode cX6_mean 85 = .ok (.i2l, 1) := by decide +kernel
theorem dX6_mean_86 : decode cX6_mean 86 = .ok (.ldiv, 1) := by decide +kernel
theorem dX6_mean_87 : decode cX6_mean 87 = .ok (.l2i, 1) := by decide +kernel
theorem dX6_mean_88 : decode cX6_mean 88 = .ok (.invokevirtual 76, 3) := by decide +kernel
theorem dX6_mean_91 : decode cX6_mean 91 = .ok (.ireturn, 1) := by decide +kernel
theorem dX6_text_0 : decode cX6_text 0 = .ok (.iload_n 1, 1) := by decide +kernel
theorem dX6_text_1 : decode cX6_text 1 = .ok (.invokestatic 79, 3) := by decide +kernel
theorem dX6_text_4 : decode cX6_text 4 = .ok (.ifCond .eq 9, 3) := by decide +kernel
theorem dX6_text_7 : decode cX6_text 7 = .ok (.iload_n 2, 1) := by decide +kernel
theorem dX6_text_8 : decode cX6_text 8 = .ok (.bipush 60, 2) := by decide +kernel
theorem dX6_text_10 : decode cX6_text 10 = .ok (.if_icmp .le 5, 3) := by decide +kernel
theorem dX6_text_13 : decode cX6_text 13 = .ok (.iconst (-1), 1) := by decide +kernel
theorem dX6_text_14 : decode cX6_text 14 = .ok (.ireturn, 1) := by decide +kernel
theorem dX6_text_15 : decode cX6_text 15 = .ok (.iload_n 2, 1) := by decide +kernel
theorem dX6_text_16 : decode cX6_text 16 = .ok (.ifCond .ge 9, 3) := by decide +kernel
theorem dX6_text_19 : decode cX6_text 19 = .ok (.aload_n 0, 1) := by decide +kernel
theorem dX6_text_20 : decode cX6_text 20 = .ok (.iconst 5, 1) := by decide +kernel
theorem dX6_text_21 : decode cX6_text 21 = .ok (.invokevirtual 72, 3) := by decide +kernel
theorem dX6_text_24 : decode cX6_text 24 = .ok (.ireturn, 1) := by decide +kernel
theorem dX6_text_25 : decode cX6_text 25 = .ok (.aload_n 0, 1) := by decide +kernel
theorem dX6_text_26 : decode cX6_text 26 = .ok (.getfield 23, 3) := by decide +kernel
theorem dX6_text_29 : decode cX6_text 29 = .ok (.iload_n 1, 1) := by decide +kernel
theorem dX6_text_30 : decode cX6_text 30 = .ok (.iload_n 2, 1) := by decide +kernel
theorem dX6_text_31 : decode cX6_text 31 = .ok (.iastore, 1) := by decide +kernel
theorem dX6_text_32 : decode cX6_text 32 = .ok (.iconst 0, 1) := by decide +kernel
theorem dX6_text_33 : decode cX6_text 33 = .ok (.istore_n 3, 1) := by decide +kernel
theorem dX6_text_34 : decode cX6_text 34 = .ok (.iload_n 3, 1) := by decide +kernel
theorem dX6_text_35 : decode cX6_text 35 = .ok (.bipush 60, 2) := by decide +kernel
theorem dX6_text_37 : decode cX6_text 37 = .ok (.if_icmp .ge 22, 3) := by decide +kernel
theorem dX6_text_40 : decode cX6_text 40 = .ok (.aload_n 0, 1) := by decide +kernel
theorem dX6_text_41 : decode cX6_text 41 = .ok (.getfield 26, 3) := by decide +kernel
theorem dX6_text_44 : decode cX6_text 44 = .ok (.bipush 60, 2) := by decide +kernel
theorem dX6_text_46 : decode cX6_text 46 = .ok (.iload_n 1, 1) := by decide +kernel
theorem dX6_text_47 : decode cX6_text 47 = .ok (.imul, 1) := by decide +kernel
theorem dX6_text_48 : decode cX6_text 48 = .ok (.iload_n 3, 1) := by decide +kernel
theorem dX6_text_49 : decode cX6_text 49 = .ok (.iadd, 1) := by decide +kernel
theorem dX6_text_50 : decode cX6_text 50 = .ok (.bipush 32, 2) := by decide +kernel
theorem dX6_text_52 : decode cX6_text 52 = .ok (.bastore, 1) := by decide +kernel
theorem dX6_text_53 : decode cX6_text 53 = .ok (.iinc 3 1, 3) := by decide +kernel
theorem dX6_text_56 : decode cX6_text 56 = .ok (.goto (-22), 3) := by decide +kernel
theorem dX6_text_59 : decode cX6_text 59 = .ok (.iload_n 2, 1) := by decide +kernel
theorem dX6_text_60 : decode cX6_text 60 = .ok (.ireturn, 1) := by decide +kernel
theorem dX6_put_0 : decode cX6_put 0 = .ok (.iload_n 1, 1) := by decide +kernel
theorem dX6_put_1 : decode cX6_put 1 = .ok (.invokestatic 79, 3) := by decide +kernel
theorem dX6_put_4 : decode cX6_put 4 = .ok (.ifCond .ne 5, 3) := by decide +kernel
theorem dX6_put_7 : decode cX6_put 7 = .ok (.iconst (-1), 1) := by decide +kernel
theorem dX6_put_8 : decode cX6_put 8 = .ok (.ireturn, 1) := by decide +kernel
theorem dX6_put_9 : decode cX6_put 9 = .ok (.aload_n 0, 1) := by decide +kernel
theorem dX6_put_10 : decode cX6_put 10 = .ok (.getfield 23, 3) := by decide +kernel
theorem dX6_put_13 : decode cX6_put 13 = .ok (.iload_n 1, 1) := by decide +kernel
theorem dX6_put_14 : decode cX6_put 14 = .ok (.iaload, 1) := by decide +kernel
theorem dX6_put_15 : decode cX6_put 15 = .ok (.ifCond .ge 9, 3) := by decide +kernel
theorem dX6_put_18 : decode cX6_put 18 = .ok (.aload_n 0, 1) := by decide +kernel
theorem dX6_put_19 : decode cX6_put 19 = .ok (.iconst 1, 1) := by decide +kernel
theorem dX6_put_20 : decode cX6_put 20 = .ok (.invokevirtual 72, 3) := by decide +kernel
theorem dX6_put_23 : decode cX6_put 23 = .ok (.ireturn, 1) := by decide +kernel
theorem dX6_put_24 : decode cX6_put 24 = .ok (.iload_n 2, 1) := by decide +kernel
theorem dX6_put_25 : decode cX6_put 25 = .ok (.iconst 0, 1) := by decide +kernel
theorem dX6_put_26 : decode cX6_put 26 = .ok (.aload_n 0, 1) := by decide +kernel
theorem dX6_put_27 : decode cX6_put 27 = .ok (.getfield 23, 3) := by decide +kernel
theorem dX6_put_30 : decode cX6_put 30 = .ok (.iload_n 1, 1) := by decide +kernel
theorem dX6_put_31 : decode cX6_put 31 = .ok (.iaload, 1) := by decide +kernel
theorem dX6_put_32 : decode cX6_put 32 = .ok (.iconst 1, 1) := by decide +kernel
theorem dX6_put_33 : decode cX6_put 33 = .ok (.isub, 1) := by decide +kernel
theorem dX6_put_34 : decode cX6_put 34 = .ok (.invokestatic 64, 3) := by decide +kernel
theorem dX6_put_37 : decode cX6_put 37 = .ok (.ifCond .ne 9, 3) := by decide +kernel
theorem dX6_put_40 : decode cX6_put 40 = .ok (.aload_n 0, 1) := by decide +kernel
theorem dX6_put_41 : decode cX6_put 41 = .ok (.iconst 2, 1) := by decide +kernel
theorem dX6_put_42 : decode cX6_put 42 = .ok (.invokevirtual 72, 3) := by decide +kernel
theorem dX6_put_45 : decode cX6_put 45 = .ok (.ireturn, 1) := by decide +kernel
theorem dX6_put_46 : decode cX6_put 46 = .ok (.aload_n 0, 1) := by decide +kernel
theorem dX6_put_47 : decode cX6_put 47 = .ok (.getfield 26, 3) := by decide +kernel
theorem dX6_put_50 : decode cX6_put 50 = .ok (.bipush 60, 2) := by decide +kernel
theorem dX6_put_52 : decode cX6_put 52 = .ok (.iload_n 1, 1) := by decide +kernel
theorem dX6_put_53 : decode cX6_put 53 = .ok (.imul, 1) := by decide +kernel
theorem dX6_put_54 : decode cX6_put 54 = .ok (.iload_n 2, 1) := by decide +kernel
theorem dX6_put_55 : decode cX6_put 55 = .ok (.iadd, 1) := by decide +kernel
theorem dX6_put_56 : decode cX6_put 56 = .ok (.baload, 1) := by decide +kernel
theorem dX6_put_57 : decode cX6_put 57 = .ok (.istore 4, 2) := by decide +kernel
theorem dX6_put_59 : decode cX6_put 59 = .ok (.aload_n 0, 1) := by decide +kernel
theorem dX6_put_60 : decode cX6_put 60 = .ok (.getfield 26, 3) := by decide +kernel
theorem dX6_put_63 : decode cX6_put 63 = .ok (.bipush 60, 2) := by decide +kernel
theorem dX6_put_65 : decode cX6_put 65 = .ok (.iload_n 1, 1) := by decide +kernel
theorem dX6_put_66 : decode cX6_put 66 = .ok (.imul, 1) := by decide +kernel
theorem dX6_put_67 : decode cX6_put 67 = .ok (.iload_n 2, 1) := by decide +kernel
theorem dX6_put_68 : decode cX6_put 68 = .ok (.iadd, 1) := by decide +kernel
theorem dX6_put_69 : decode cX6_put 69 = .ok (.iload_n 3, 1) := by decide +kernel
theorem dX6_put_70 : decode cX6_put 70 = .ok (.i2b, 1) := by decide +kernel
theorem dX6_put_71 : decode cX6_put 71 = .ok (.bastore, 1) := by decide +kernel
theorem dX6_put_72 : decode cX6_put 72 = .ok (.iload 4, 2) := by decide +kernel
theorem dX6_put_74 : decode cX6_put 74 = .ok (.sipush 1000, 3) := by decide +kernel
theorem dX6_put_77 : decode cX6_put 77 = .ok (.iadd, 1) := by decide +kernel
theorem dX6_put_78 : decode cX6_put 78 = .ok (.ireturn, 1) := by decide +kernel
theorem dX6_kindOf_0 : decode cX6_kindOf 0 = .ok (.iload_n 0, 1) := by decide +kernel
theorem dX6_kindOf_1 : decode cX6_kindOf 1 = .ok (.bipush 108, 2) := by decide +kernel
theorem dX6_kindOf_3 : decode cX6_kindOf 3 = .ok (.if_icmp .ne 7, 3) := by decide +kernel
theorem dX6_kindOf_6 : decode cX6_kindOf 6 = .ok (.iconst 0, 1) := by decide +kernel
theorem dX6_kindOf_7 : decode cX6_kindOf 7 = .ok (.goto 55, 3) := by decide +kernel
theorem dX6_kindOf_10 : decode cX6_kindOf 10 = .ok (.iload_n 0, 1) := by decide +kernel
theorem dX6_kindOf_11 : decode cX6_kindOf 11 = .ok (.bipush 116, 2) := by decide +kernel
theorem dX6_kindOf_13 : decode cX6_kindOf 13 = .ok (.if_icmp .ne 7, 3) := by decide +kernel
theorem dX6_kindOf_16 : decode cX6_kindOf 16 = .ok (.iconst 1, 1) := by decide +kernel
theorem dX6_kindOf_17 : decode cX6_kindOf 17 = .ok (.goto 45, 3) := by decide +kernel
theorem dX6_kindOf_20 : decode cX6_kindOf 20 = .ok (.iload_n 0, 1) := by decide +kernel
theorem dX6_kindOf_21 : decode cX6_kindOf 21 = .ok (.bipush 107, 2) := by decide +kernel
theorem dX6_kindOf_23 : decode cX6_kindOf 23 = .ok (.if_icmp .ne 7, 3) := by decide +kernel
theorem dX6_kindOf_26 : decode cX6_kindOf 26 = .ok (.iconst 2, 1) := by decide +kernel
theorem dX6_kindOf_27 : decode cX6_kindOf 27 = .ok (.goto 35, 3) := by decide +kernel
theorem dX6_kindOf_30 : decode cX6_kindOf 30 = .ok (.iload_n 0, 1) := by decide +kernel
theorem dX6_kindOf_31 : decode cX6_kindOf 31 = .ok (.bipush 104, 2) := by decide +kernel
theorem dX6_kindOf_33 : decode cX6_kindOf 33 = .ok (.if_icmp .ne 7, 3) := by decide +kernel
theorem dX6_kindOf_36 : decode cX6_kindOf 36 = .ok (.iconst 3, 1) := by decide +kernel
theorem dX6_kindOf_37 : decode cX6_kindOf 37 = .ok (.goto 25, 3) := by decide +kernel
theorem dX6_kindOf_40 : decode cX6_kindOf 40 = .ok (.iload_n 0, 1) := by decide +kernel
theorem dX6_kindOf_41 : decode cX6_kindOf 41 = .ok (.bipush 119, 2) := by decide +kernel
theorem dX6_kindOf_43 : decode cX6_kindOf 43 = .ok (.if_icmp .ne 7, 3) := by decide +kernel
theorem dX6_kindOf_46 : decode cX6_kindOf 46 = .ok (.iconst 4, 1) := by decide +kernel
theorem dX6_kindOf_47 : decode cX6_kindOf 47 = .ok (.goto 15, 3) := by decide +kernel
theorem dX6_kindOf_50 : decode cX6_kindOf 50 = .ok (.iload_n 0, 1) := by decide +kernel
theorem dX6_kindOf_51 : decode cX6_kindOf 51 = .ok (.bipush 102, 2) := by decide +kernel
theorem dX6_kindOf_53 : decode cX6_kindOf 53 = .ok (.if_icmp .ne 7, 3) := by decide +kernel
theorem dX6_kindOf_56 : decode cX6_kindOf 56 = .ok (.iconst 5, 1) := by decide +kernel
theorem dX6_kindOf_57 : decode cX6_kindOf 57 = .ok (.goto 5, 3) := by decide +kernel
theorem dX6_kindOf_60 : decode cX6_kindOf 60 = .ok (.bipush (-9), 2) := by decide +kernel
theorem dX6_kindOf_62 : decode cX6_kindOf 62 = .ok (.ireturn, 1) := by decide +kernel
theorem dX6_isThree_0 : decode cX6_isThree 0 = .ok (.iload_n 0, 1) := by decide +kernel
theorem dX6_isThree_1 : decode cX6_isThree 1 = .ok (.iconst 1, 1) := by decide +kernel
theorem dX6_isThree_2 : decode cX6_isThree 2 = .ok (.if_icmp .eq 8, 3) := by decide +kernel
theorem dX6_isThree_5 : decode cX6_isThree 5 = .ok (.iload_n 0, 1) := by decide +kernel
theorem dX6_isThree_6 : decode cX6_isThree 6 = .ok (.iconst 4, 1) := by decide +kernel
theorem dX6_isThree_7 : decode cX6_isThree 7 = .ok (.if_icmp .ne 7, 3) := by decide +kernel
theorem dX6_isThree_10 : decode cX6_isThree 10 = .ok (.iconst 1, 1) := by decide +kernel
theorem dX6_isThree_11 : decode cX6_isThree 11 = .ok (.goto 4, 3) := by decide +kernel
theorem dX6_isThree_14 : decode cX6_isThree 14 = .ok (.iconst 0, 1) := by decide +kernel
theorem dX6_isThree_15 : decode cX6_isThree 15 = .ok (.ireturn, 1) := by decide +kernel
theorem dX6_stepsOf_0 : decode cX6_stepsOf 0 = .ok (.iload_n 0, 1) := by decide +kernel
theorem dX6_stepsOf_1 : decode cX6_stepsOf 1 = .ok (.invokestatic 82, 3) := by decide +kernel
theorem dX6_stepsOf_4 : decode cX6_stepsOf 4 = .ok (.ifCond .eq 7, 3) := by decide +kernel
theorem dX6_stepsOf_7 : decode cX6_stepsOf 7 = .ok (.iconst 3, 1) := by decide +kernel
theorem dX6_stepsOf_8 : decode cX6_stepsOf 8 = .ok (.goto 4, 3) := by decide +kernel
theorem dX6_stepsOf_11 : decode cX6_stepsOf 11 = .ok (.iconst 2, 1) := by decide +kernel
theorem dX6_stepsOf_12 : decode cX6_stepsOf 12 = .ok (.ireturn, 1) := by decide +kernel
theorem dX6_read_0 : decode cX6_read 0 = .ok (.iconst 0, 1) := by decide +kernel
theorem dX6_read_1 : decode cX6_read 1 = .ok (.istore_n 2, 1) := by decide +kernel
theorem dX6_read_2 : decode cX6_read 2 = .ok (.iconst 0, 1) := by decide +kernel
theorem dX6_read_3 : decode cX6_read 3 = .ok (.istore_n 3, 1) := by decide +kernel
theorem dX6_read_4 : decode cX6_read 4 = .ok (.iload_n 3, 1) := by decide +kernel
theorem dX6_read_5 : decode cX6_read 5 = .ok (.aload_n 0, 1) := by decide +kernel
theorem dX6_read_6 : decode cX6_read 6 = .ok (.getfield 23, 3) := by decide +kernel
theorem dX6_read_9 : decode cX6_read 9 = .ok (.iload_n 1, 1) := by decide +kernel
theorem dX6_read_10 : decode cX6_read 10 = .ok (.iaload, 1) := by decide +kernel
theorem dX6_read_11 : decode cX6_read 11 = .ok (.if_icmp .ge 25, 3) := by decide +kernel
theorem dX6_read_14 : decode cX6_read 14 = .ok (.aload_n 0, 1) := by decide +kernel
theorem dX6_read_15 : decode cX6_read 15 = .ok (.getfield 26, 3) := by decide +kernel
theorem dX6_read_18 : decode cX6_read 18 = .ok (.bipush 60, 2) := by decide +kernel
theorem dX6_read_20 : decode cX6_read 20 = .ok (.iload_n 1, 1) := by decide +kernel
theorem dX6_read_21 : decode cX6_read 21 = .ok (.imul, 1) := by decide +kernel
theorem dX6_read_22 : decode cX6_read 22 = .ok (.iload_n 3, 1) := by decide +kernel
theorem dX6_read_23 : decode cX6_read 23 = .ok (.iadd, 1) := by decide +kernel
theorem dX6_read_24 : decode cX6_read 24 = .ok (.baload, 1) := by decide +kernel
theorem dX6_read_25 : decode cX6_read 25 = .ok (.bipush 32, 2) := by decide +kernel
theorem dX6_read_27 : decode cX6_read 27 = .ok (.if_icmp .ne 9, 3) := by decide +kernel
theorem dX6_read_30 : decode cX6_read 30 = .ok (.iinc 3 1, 3) := by decide +kernel
theorem dX6_read_33 : decode cX6_read 33 = .ok (.goto (-29), 3) := by decide +kernel
theorem dX6_read_36 : decode cX6_read 36 = .ok (.iload_n 3, 1) := by decide +kernel
theorem dX6_read_37 : decode cX6_read 37 = .ok (.aload_n 0, 1) := by decide +kernel
theorem dX6_read_38 : decode cX6_read 38 = .ok (.getfield 23, 3) := by decide +kernel
theorem dX6_read_41 : decode cX6_read 41 = .ok (.iload_n 1, 1) := by decide +kernel
theorem dX6_read_42 : decode cX6_read 42 = .ok (.iaload, 1) := by decide +kernel
theorem dX6_read_43 : decode cX6_read 43 = .ok (.if_icmp .ne 16, 3) := by decide +kernel
theorem dX6_read_46 : decode cX6_read 46 = .ok (.iload_n 2, 1) := by decide +kernel
theorem dX6_read_47 : decode cX6_read 47 = .ok (.bipush 9, 2) := by decide +kernel
theorem dX6_read_49 : decode cX6_read 49 = .ok (.if_icmp .ge 7, 3) := by decide +kernel
theorem dX6_read_52 : decode cX6_read 52 = .ok (.iload_n 3, 1) := by decide +kernel
theorem dX6_read_53 : decode cX6_read 53 = .ok (.goto 5, 3) := by decide +kernel
theorem dX6_read_56 : decode cX6_read 56 = .ok (.bipush (-9), 2) := by decide +kernel
theorem dX6_read_58 : decode cX6_read 58 = .ok (.ireturn, 1) := by decide +kernel
theorem dX6_read_59 : decode cX6_read 59 = .ok (.aload_n 0, 1) := by decide +kernel
theorem dX6_read_60 : decode cX6_read 60 = .ok (.getfield 26, 3) := by decide +kernel
theorem dX6_read_63 : decode cX6_read 63 = .ok (.bipush 60, 2) := by decide +kernel
theorem dX6_read_65 : decode cX6_read 65 = .ok (.iload_n 1, 1) := by decide +kernel
theorem dX6_read_66 : decode cX6_read 66 = .ok (.imul, 1) := by decide +kernel
theorem dX6_read_67 : decode cX6_read 67 = .ok (.iload_n 3, 1) := by decide +kernel
theorem dX6_read_68 : decode cX6_read 68 = .ok (.iadd, 1) := by decide +kernel
theorem dX6_read_69 : decode cX6_read 69 = .ok (.baload, 1) := by decide +kernel
theorem dX6_read_70 : decode cX6_read 70 = .ok (.invokestatic 85, 3) := by decide +kernel
theorem dX6_read_73 : decode cX6_read 73 = .ok (.istore 4, 2) := by decide +kernel
theorem dX6_read_75 : decode cX6_read 75 = .ok (.iload 4, 2) := by decide +kernel
theorem dX6_read_77 : decode cX6_read 77 = .ok (.bipush (-9), 2) := by decide +kernel
theorem dX6_read_79 : decode cX6_read 79 = .ok (.if_icmp .eq 9, 3) := by decide +kernel
theorem dX6_read_82 : decode cX6_read 82 = .ok (.iload_n 2, 1) := by decide +kernel
theorem dX6_read_83 : decode cX6_read 83 = .ok (.bipush 9, 2) := by decide +kernel
theorem dX6_read_85 : decode cX6_read 85 = .ok (.if_icmp .ne 5, 3) := by decide +kernel
theorem dX6_read_88 : decode cX6_read 88 = .ok (.iload_n 3, 1) := by decide +kernel
theorem dX6_read_89 : decode cX6_read 89 = .ok (.ireturn, 1) := by decide +kernel
theorem dX6_read_90 : decode cX6_read 90 = .ok (.iload_n 3, 1) := by decide +kernel
theorem dX6_read_91 : decode cX6_read 91 = .ok (.iconst 1, 1) := by decide +kernel
theorem dX6_read_92 : decode cX6_read 92 = .ok (.iadd, 1) := by decide +kernel
theorem dX6_read_93 : decode cX6_read 93 = .ok (.aload_n 0, 1) := by decide +kernel
theorem dX6_read_94 : decode cX6_read 94 = .ok (.getfield 23, 3) := by decide +kernel
theorem dX6_read_97 : decode cX6_read 97 = .ok (.iload_n 1, 1) := by decide +kernel
theorem dX6_read_98 : decode cX6_read 98 = .ok (.iaload, 1) := by decide +kernel
theorem dX6_read_99 : decode cX6_read 99 = .ok (.if_icmp .eq 33, 3) := by decide +kernel
theorem dX6_read_102 : decode cX6_read 102 = .ok (.aload_n 0, 1) := by decide +kernel
theorem dX6_read_103 : decode cX6_read 103 = .ok (.getfield 26, 3) := by decide +kernel
theorem dX6_read_106 : decode cX6_read 106 = .ok (.bipush 60, 2) := by decide +kernel
theorem dX6_read_108 : decode cX6_read 108 = .ok (.iload_n 1, 1) := by decide +kernel
theorem dX6_read_109 : decode cX6_read 109 = .ok (.imul, 1) := by decide +kernel
theorem dX6_read_110 : decode cX6_read 110 = .ok (.iload_n 3, 1) := by decide +kernel
theorem dX6_read_111 : decode cX6_read 111 = .ok (.iadd, 1) := by decide +kernel
theorem dX6_read_112 : decode cX6_read 112 = .ok (.iconst 1, 1) := by decide +kernel
theorem dX6_read_113 : decode cX6_read 113 = .ok (.iadd, 1) := by decide +kernel
theorem dX6_read_114 : decode cX6_read 114 = .ok (.baload, 1) := by decide +kernel
theorem dX6_read_115 : decode cX6_read 115 = .ok (.bipush 48, 2) := by decide +kernel
theorem dX6_read_117 : decode cX6_read 117 = .ok (.isub, 1) := by decide +kernel
theorem dX6_read_118 : decode cX6_read 118 = .ok (.iconst 0, 1) := by decide +kernel
theorem dX6_read_119 : decode cX6_read 119 = .ok (.iload 4, 2) := by decide +kernel
theorem dX6_read_121 : decode cX6_read 121 = .ok (.invokestatic 88, 3) := by decide +kernel
theorem dX6_read_124 : decode cX6_read 124 = .ok (.iconst 1, 1) := by decide +kernel
theorem dX6_read_125 : decode cX6_read 125 = .ok (.isub, 1) := by decide +kernel
theorem dX6_read_126 : decode cX6_read 126 = .ok (.invokestatic 64, 3) := by decide +kernel
theorem dX6_read_129 : decode cX6_read 129 = .ok (.ifCond .ne 7, 3) := by decide +kernel
theorem dX6_read_132 : decode cX6_read 132 = .ok (.iload_n 3, 1) := by decide +kernel
theorem dX6_read_133 : decode cX6_read 133 = .ok (.iconst 1, 1) := by decide +kernel
theorem dX6_read_134 : decode cX6_read 134 = .ok (.iadd, 1) := by decide +kernel
theorem dX6_read_135 : decode cX6_read 135 = .ok (.ireturn, 1) := by decide +kernel
theorem dX6_read_136 : decode cX6_read 136 = .ok (.aload_n 0, 1) := by decide +kernel
theorem dX6_read_137 : decode cX6_read 137 = .ok (.getfield 33, 3) := by decide +kernel
theorem dX6_read_140 : decode cX6_read 140 = .ok (.bipush 9, 2) := by decide +kernel
theorem dX6_read_142 : decode cX6_read 142 = .ok (.iload_n 2, 1) := by decide +kernel
theorem dX6_read_143 : decode cX6_read 143 = .ok (.iadd, 1) := by decide +kernel
theorem dX6_read_144 : decode cX6_read 144 = .ok (.iload 4, 2) := by decide +kernel
theorem dX6_read_146 : decode cX6_read 146 = .ok (.iastore, 1) := by decide +kernel
theorem dX6_read_147 : decode cX6_read 147 = .ok (.aload_n 0, 1) := by decide +kernel
theorem dX6_read_148 : decode cX6_read 148 = .ok (.getfield 36, 3) := by decide +kernel
theorem dX6_read_151 : decode cX6_read 151 = .ok (.bipush 9, 2) := by decide +kernel
theorem dX6_read_153 : decode cX6_read 153 = .ok (.iload_n 2, 1) := by decide +kernel
theorem dX6_read_154 : decode cX6_read 154 = .ok (.iadd, 1) := by decide +kernel
theorem dX6_read_155 : decode cX6_read 155 = .ok (.aload_n 0, 1) := by decide +kernel
theorem dX6_read_156 : decode cX6_read 156 = .ok (.getfield 26, 3) := by decide +kernel
theorem dX6_read_159 : decode cX6_read 159 = .ok (.bipush 60, 2) := by decide +kernel
theorem dX6_read_161 : decode cX6_read 161 = .ok (.iload_n 1, 1) := by decide +kernel
theorem dX6_read_162 : decode cX6_read 162 = .ok (.imul, 1) := by decide +kernel
theorem dX6_read_163 : decode cX6_read 163 = .ok (.iload_n 3, 1) := by decide +kernel
theorem dX6_read_164 : decode cX6_read 164 = .ok (.iadd, 1) := by decide +kernel
theorem dX6_read_165 : decode cX6_read 165 = .ok (.iconst 1, 1) := by decide +kernel
theorem dX6_read_166 : decode cX6_read 166 = .ok (.iadd, 1) := by decide +kernel
theorem dX6_read_167 : decode cX6_read 167 = .ok (.baload, 1) := by decide +kernel
theorem dX6_read_168 : decode cX6_read 168 = .ok (.bipush 48, 2) := by decide +kernel
theorem dX6_read_170 : decode cX6_read 170 = .ok (.isub, 1) := by decide +kernel
theorem dX6_read_171 : decode cX6_read 171 = .ok (.iastore, 1) := by decide +kernel
theorem dX6_read_172 : decode cX6_read 172 = .ok (.iinc 2 1, 3) := by decide +kernel
theorem dX6_read_175 : decode cX6_read 175 = .ok (.iinc 3 2, 3) := by decide +kernel
theorem dX6_read_178 : decode cX6_read 178 = .ok (.goto (-174), 3) := by decide +kernel
theorem dX6_fault_0 : decode cX6_fault 0 = .ok (.iload_n 1, 1) := by decide +kernel
theorem dX6_fault_1 : decode cX6_fault 1 = .ok (.invokestatic 79, 3) := by decide +kernel
theorem dX6_fault_4 : decode cX6_fault 4 = .ok (.ifCond .ne 5, 3) := by decide +kernel
theorem dX6_fault_7 : decode cX6_fault 7 = .ok (.iconst (-1), 1) := by decide +kernel
theorem dX6_fault_8 : decode cX6_fault 8 = .ok (.ireturn, 1) := by decide +kernel
theorem dX6_fault_9 : decode cX6_fault 9 = .ok (.aload_n 0, 1) := by decide +kernel
theorem dX6_fault_10 : decode cX6_fault 10 = .ok (.getfield 23, 3) := by decide +kernel
theorem dX6_fault_13 : decode cX6_fault 13 = .ok (.iload_n 1, 1) := by decide +kernel
theorem dX6_fault_14 : decode cX6_fault 14 = .ok (.iaload, 1) := by decide +kernel
theorem dX6_fault_15 : decode cX6_fault 15 = .ok (.ifCond .ge 11, 3) := by decide +kernel
theorem dX6_fault_18 : decode cX6_fault 18 = .ok (.aload_n 0, 1) := by decide +kernel
theorem dX6_fault_19 : decode cX6_fault 19 = .ok (.iconst 1, 1) := by decide +kernel
theorem dX6_fault_20 : decode cX6_fault 20 = .ok (.invokevirtual 72, 3) := by decide +kernel
theorem dX6_fault_23 : decode cX6_fault 23 = .ok (.goto 8, 3) := by decide +kernel
theorem dX6_fault_26 : decode cX6_fault 26 = .ok (.aload_n 0, 1) := by decide +kernel
theorem dX6_fault_27 : decode cX6_fault 27 = .ok (.iload_n 1, 1) := by decide +kernel
theorem dX6_fault_28 : decode cX6_fault 28 = .ok (.invokevirtual 91, 3) := by decide +kernel
theorem dX6_fault_31 : decode cX6_fault 31 = .ok (.ireturn, 1) := by decide +kernel
theorem dX6_wall_0 : decode cX6_wall 0 = .ok (.iload_n 1, 1) := by decide +kernel
theorem dX6_wall_1 : decode cX6_wall 1 = .ok (.invokestatic 79, 3) := by decide +kernel
theorem dX6_wall_4 : decode cX6_wall 4 = .ok (.ifCond .ne 5, 3) := by decide +kernel
theorem dX6_wall_7 : decode cX6_wall 7 = .ok (.iconst (-1), 1) := by decide +kernel
theorem dX6_wall_8 : decode cX6_wall 8 = .ok (.ireturn, 1) := by decide +kernel
theorem dX6_wall_9 : decode cX6_wall 9 = .ok (.aload_n 0, 1) := by decide +kernel
theorem dX6_wall_10 : decode cX6_wall 10 = .ok (.getfield 23, 3) := by decide +kernel
theorem dX6_wall_13 : decode cX6_wall 13 = .ok (.iload_n 1, 1) := by decide +kernel
theorem dX6_wall_14 : decode cX6_wall 14 = .ok (.iaload, 1) := by decide +kernel
theorem dX6_wall_15 : decode cX6_wall 15 = .ok (.ifCond .ge 9, 3) := by decide +kernel
theorem dX6_wall_18 : decode cX6_wall 18 = .ok (.aload_n 0, 1) := by decide +kernel
theorem dX6_wall_19 : decode cX6_wall 19 = .ok (.iconst 1, 1) := by decide +kernel
theorem dX6_wall_20 : decode cX6_wall 20 = .ok (.invokevirtual 72, 3) := by decide +kernel
theorem dX6_wall_23 : decode cX6_wall 23 = .ok (.ireturn, 1) := by decide +kernel
theorem dX6_wall_24 : decode cX6_wall 24 = .ok (.aload_n 0, 1) := by decide +kernel
theorem dX6_wall_25 : decode cX6_wall 25 = .ok (.iload_n 1, 1) := by decide +kernel
theorem dX6_wall_26 : decode cX6_wall 26 = .ok (.invokevirtual 91, 3) := by decide +kernel
theorem dX6_wall_29 : decode cX6_wall 29 = .ok (.bipush (-9), 2) := by decide +kernel
theorem dX6_wall_31 : decode cX6_wall 31 = .ok (.if_icmp .eq 6, 3) := by decide +kernel
theorem dX6_wall_34 : decode cX6_wall 34 = .ok (.bipush (-4), 2) := by decide +kernel
theorem dX6_wall_36 : decode cX6_wall 36 = .ok (.ireturn, 1) := by decide +kernel
theorem dX6_wall_37 : decode cX6_wall 37 = .ok (.aload_n 0, 1) := by decide +kernel
theorem dX6_wall_38 : decode cX6_wall 38 = .ok (.bipush 9, 2) := by decide +kernel
theorem dX6_wall_40 : decode cX6_wall 40 = .ok (.putfield 94, 3) := by decide +kernel
theorem dX6_wall_43 : decode cX6_wall 43 = .ok (.aload_n 0, 1) := by decide +kernel
theorem dX6_wall_44 : decode cX6_wall 44 = .ok (.iconst 0, 1) := by decide +kernel
theorem dX6_wall_45 : decode cX6_wall 45 = .ok (.putfield 97, 3) := by decide +kernel
theorem dX6_wall_48 : decode cX6_wall 48 = .ok (.iconst 0, 1) := by decide +kernel
theorem dX6_wall_49 : decode cX6_wall 49 = .ok (.istore_n 2, 1) := by decide +kernel
theorem dX6_wall_50 : decode cX6_wall 50 = .ok (.iload_n 2, 1) := by decide +kernel
theorem dX6_wall_51 : decode cX6_wall 51 = .ok (.bipush 9, 2) := by decide +kernel
theorem dX6_wall_53 : decode cX6_wall 53 = .ok (.if_icmp .ge 39, 3) := by decide +kernel
theorem dX6_wall_56 : decode cX6_wall 56 = .ok (.aload_n 0, 1) := by decide +kernel
theorem dX6_wall_57 : decode cX6_wall 57 = .ok (.getfield 33, 3) := by decide +kernel
theorem dX6_wall_60 : decode cX6_wall 60 = .ok (.iload_n 2, 1) := by decide +kernel
theorem dX6_wall_61 : decode cX6_wall 61 = .ok (.aload_n 0, 1) := by decide +kernel
theorem dX6_wall_62 : decode cX6_wall 62 = .ok (.getfield 33, 3) := by decide +kernel
theorem dX6_wall_65 : decode cX6_wall 65 = .ok (.bipush 9, 2) := by decide +kernel
theorem dX6_wall_67 : decode cX6_wall 67 = .ok (.iload_n 2, 1) := by decide +kernel
theorem dX6_wall_68 : decode cX6_wall 68 = .ok (.iadd, 1) := by decide +kernel
theorem dX6_wall_69 : decode cX6_wall 69 = .ok (.iaload, 1) := by decide +kernel
theorem dX6_wall_70 : decode cX6_wall 70 = .ok (.iastore, 1) := by decide +kernel
theorem dX6_wall_71 : decode cX6_wall 71 = .ok (.aload_n 0, 1) := by decide +kernel
theorem dX6_wall_72 : decode cX6_wall 72 = .ok (.getfield 39, 3) := by decide +kernel
theorem dX6_wall_75 : decode cX6_wall 75 = .ok (.iload_n 2, 1) := by decide +kernel
theorem dX6_wall_76 : decode cX6_wall 76 = .ok (.aload_n 0, 1) := by decide +kernel
theorem dX6_wall_77 : decode cX6_wall 77 = .ok (.getfield 36, 3) := by decide +kernel
theorem dX6_wall_80 : decode cX6_wall 80 = .ok (.bipush 9, 2) := by decide +kernel
theorem dX6_wall_82 : decode cX6_wall 82 = .ok (.iload_n 2, 1) := by decide +kernel
theorem dX6_wall_83 : decode cX6_wall 83 = .ok (.iadd, 1) := by decide +kernel
theorem dX6_wall_84 : decode cX6_wall 84 = .ok (.iaload, 1) := by decide +kernel
theorem dX6_wall_85 : decode cX6_wall 85 = .ok (.iastore, 1) := by decide +kernel
theorem dX6_wall_86 : decode cX6_wall 86 = .ok (.iinc 2 1, 3) := by decide +kernel
theorem dX6_wall_89 : decode cX6_wall 89 = .ok (.goto (-39), 3) := by decide +kernel
theorem dX6_wall_92 : decode cX6_wall 92 = .ok (.aload_n 0, 1) := by decide +kernel
theorem dX6_wall_93 : decode cX6_wall 93 = .ok (.getfield 39, 3) := by decide +kernel
theorem dX6_wall_96 : decode cX6_wall 96 = .ok (.bipush 9, 2) := by decide +kernel
theorem dX6_wall_98 : decode cX6_wall 98 = .ok (.iconst 0, 1) := by decide +kernel
theorem dX6_wall_99 : decode cX6_wall 99 = .ok (.iastore, 1) := by decide +kernel
theorem dX6_wall_100 : decode cX6_wall 100 = .ok (.aload_n 0, 1) := by decide +kernel
theorem dX6_wall_101 : decode cX6_wall 101 = .ok (.getfield 39, 3) := by decide +kernel
theorem dX6_wall_104 : decode cX6_wall 104 = .ok (.bipush 10, 2) := by decide +kernel
theorem dX6_wall_106 : decode cX6_wall 106 = .ok (.iconst 0, 1) := by decide +kernel
theorem dX6_wall_107 : decode cX6_wall 107 = .ok (.iastore, 1) := by decide +kernel
theorem dX6_wall_108 : decode cX6_wall 108 = .ok (.iconst 0, 1) := by decide +kernel
theorem dX6_wall_109 : decode cX6_wall 109 = .ok (.istore_n 2, 1) := by decide +kernel
theorem dX6_wall_110 : decode cX6_wall 110 = .ok (.iload_n 2, 1) := by decide +kernel
theorem dX6_wall_111 : decode cX6_wall 111 = .ok (.iconst 3, 1) := by decide +kernel
theorem dX6_wall_112 : decode cX6_wall 112 = .ok (.if_icmp .ge 16, 3) := by decide +kernel
theorem dX6_wall_115 : decode cX6_wall 115 = .ok (.aload_n 0, 1) := by decide +kernel
theorem dX6_wall_116 : decode cX6_wall 116 = .ok (.getfield 45, 3) := by decide +kernel
theorem dX6_wall_119 : decode cX6_wall 119 = .ok (.iload_n 2, 1) := by decide +kernel
theorem dX6_wall_120 : decode cX6_wall 120 = .ok (.iconst (-1), 1) := by decide +kernel
theorem dX6_wall_121 : decode cX6_wall 121 = .ok (.iastore, 1) := by decide +kernel
theorem dX6_wall_122 : decode cX6_wall 122 = .ok (.iinc 2 1, 3) := by decide +kernel
theorem dX6_wall_125 : decode cX6_wall 125 = .ok (.goto (-15), 3) := by decide +kernel
theorem dX6_wall_128 : decode cX6_wall 128 = .ok (.bipush 9, 2) := by decide +kernel
theorem dX6_wall_130 : decode cX6_wall 130 = .ok (.ireturn, 1) := by decide +kernel
theorem dX6_now_0 : decode cX6_now 0 = .ok (.aload_n 0, 1) := by decide +kernel
theorem dX6_now_1 : decode cX6_now 1 = .ok (.getfield 39, 3) := by decide +kernel
theorem dX6_now_4 : decode cX6_now 4 = .ok (.bipush 11, 2) := by decide +kernel
theorem dX6_now_6 : decode cX6_now 6 = .ok (.aload_n 0, 1) := by decide +kernel
theorem dX6_now_7 : decode cX6_now 7 = .ok (.getfield 97, 3) := by decide +kernel
theorem dX6_now_10 : decode cX6_now 10 = .ok (.imul, 1) := by decide +kernel
theorem dX6_now_11 : decode cX6_now 11 = .ok (.iload_n 1, 1) := by decide +kernel
theorem dX6_now_12 : decode cX6_now 12 = .ok (.iadd, 1) := by decide +kernel
theorem dX6_now_13 : decode cX6_now 13 = .ok (.iaload, 1) := by decide +kernel
theorem dX6_now_14 : decode cX6_now 14 = .ok (.ireturn, 1) := by decide +kernel
theorem dX6_take_0 : decode cX6_take 0 = .ok (.iconst 0, 1) := by decide +kernel
theorem dX6_take_1 : decode cX6_take 1 = .ok (.istore_n 1, 1) := by decide +kernel
theorem dX6_take_2 : decode cX6_take 2 = .ok (.iload_n 1, 1) := by decide +kernel
theorem dX6_take_3 : decode cX6_take 3 = .ok (.bipush 11, 2) := by decide +kernel
theorem dX6_take_5 : decode cX6_take 5 = .ok (.if_icmp .ge 29, 3) := by decide +kernel
theorem dX6_take_8 : decode cX6_take 8 = .ok (.aload_n 0, 1) := by decide +kernel
theorem dX6_take_9 : decode cX6_take 9 = .ok (.getfield 48, 3) := by decide +kernel
theorem dX6_take_12 : decode cX6_take 12 = .ok (.iload_n 1, 1) := by decide +kernel
theorem dX6_take_13 : decode cX6_take 13 = .ok (.aload_n 0, 1) := by decide +kernel
theorem dX6_take_14 : decode cX6_take 14 = .ok (.getfield 39, 3) := by decide +kernel
theorem dX6_take_17 : decode cX6_take 17 = .ok (.bipush 11, 2) := by decide +kernel
theorem dX6_take_19 : decode cX6_take 19 = .ok (.aload_n 0, 1) := by decide +kernel
theorem dX6_take_20 : decode cX6_take 20 = .ok (.getfield 97, 3) := by decide +kernel
theorem dX6_take_23 : decode cX6_take 23 = .ok (.imul, 1) := by decide +kernel
theorem dX6_take_24 : decode cX6_take 24 = .ok (.iload_n 1, 1) := by decide +kernel
theorem dX6_take_25 : decode cX6_take 25 = .ok (.iadd, 1) := by decide +kernel
theorem dX6_take_26 : decode cX6_take 26 = .ok (.iaload, 1) := by decide +kernel
theorem dX6_take_27 : decode cX6_take 27 = .ok (.iastore, 1) := by decide +kernel
theorem dX6_take_28 : decode cX6_take 28 = .ok (.iinc 1 1, 3) := by decide +kernel
theorem dX6_take_31 : decode cX6_take 31 = .ok (.goto (-29), 3) := by decide +kernel
theorem dX6_take_34 : decode cX6_take 34 = .ok (.return_, 1) := by decide +kernel
theorem dX6_isLamp_0 : decode cX6_isLamp 0 = .ok (.iload_n 1, 1) := by decide +kernel
theorem dX6_isLamp_1 : decode cX6_isLamp 1 = .ok (.iconst 0, 1) := by decide +kernel
theorem dX6_isLamp_2 : decode cX6_isLamp 2 = .ok (.aload_n 0, 1) := by decide +kernel
theorem dX6_isLamp_3 : decode cX6_isLamp 3 = .ok (.getfield 94, 3) := by decide +kernel
theorem dX6_isLamp_6 : decode cX6_isLamp 6 = .ok (.iconst 1, 1) := by decide +kernel
theorem dX6_isLamp_7 : decode cX6_isLamp 7 = .ok (.isub, 1) := by decide +kernel
theorem dX6_isLamp_8 : decode cX6_isLamp 8 = .ok (.invokestatic 64, 3) := by decide +kernel
theorem dX6_isLamp_11 : decode cX6_isLamp 11 = .ok (.ireturn, 1) := by decide +kernel
theorem dX6_isButton_0 : decode cX6_isButton 0 = .ok (.iload_n 0, 1) := by decide +kernel
theorem dX6_isButton_1 : decode cX6_isButton 1 = .ok (.iconst 0, 1) := by decide +kernel
theorem dX6_isButton_2 : decode cX6_isButton 2 = .ok (.bipush 8, 2) := by decide +kernel
theorem dX6_isButton_4 : decode cX6_isButton 4 = .ok (.invokestatic 64, 3) := by decide +kernel
theorem dX6_isButton_7 : decode cX6_isButton 7 = .ok (.ireturn, 1) := by decide +kernel
theorem dX6_isPicture_0 : decode cX6_isPicture 0 = .ok (.iload_n 0, 1) := by decide +kernel
theorem dX6_isPicture_1 : decode cX6_isPicture 1 = .ok (.iconst 0, 1) := by decide +kernel
theorem dX6_isPicture_2 : decode cX6_isPicture 2 = .ok (.sipush 511, 3) := by decide +kernel
theorem dX6_isPicture_5 : decode cX6_isPicture 5 = .ok (.invokestatic 64, 3) := by decide +kernel
theorem dX6_isPicture_8 : decode cX6_isPicture 8 = .ok (.ireturn, 1) := by decide +kernel
theorem dX6_doesTouch_0 : decode cX6_doesTouch 0 = .ok (.iload_n 0, 1) := by decide +kernel
theorem dX6_doesTouch_1 : decode cX6_doesTouch 1 = .ok (.iconst 3, 1) := by decide +kernel
theorem dX6_doesTouch_2 : decode cX6_doesTouch 2 = .ok (.irem, 1) := by decide +kernel
theorem dX6_doesTouch_3 : decode cX6_doesTouch 3 = .ok (.iload_n 1, 1) := by decide +kernel
theorem dX6_doesTouch_4 : decode cX6_doesTouch 4 = .ok (.iconst 3, 1) := by decide +kernel
theorem dX6_doesTouch_5 : decode cX6_doesTouch 5 = .ok (.irem, 1) := by decide +kernel
theorem dX6_doesTouch_6 : decode cX6_doesTouch 6 = .ok (.isub, 1) := by decide +kernel
theorem dX6_doesTouch_7 : decode cX6_doesTouch 7 = .ok (.istore_n 2, 1) := by decide +kernel
theorem dX6_doesTouch_8 : decode cX6_doesTouch 8 = .ok (.iload_n 0, 1) := by decide +kernel
theorem dX6_doesTouch_9 : decode cX6_doesTouch 9 = .ok (.iconst 3, 1) := by decide +kernel
theorem dX6_doesTouch_10 : decode cX6_doesTouch 10 = .ok (.idiv, 1) := by decide +kernel
theorem dX6_doesTouch_11 : decode cX6_doesTouch 11 = .ok (.iload_n 1, 1) := by decide +kernel
theorem dX6_doesTouch_12 : decode cX6_doesTouch 12 = .ok (.iconst 3, 1) := by decide +kernel
theorem dX6_doesTouch_13 : decode cX6_doesTouch 13 = .ok (.idiv, 1) := by decide +kernel
theorem dX6_doesTouch_14 : decode cX6_doesTouch 14 = .ok (.isub, 1) := by decide +kernel
theorem dX6_doesTouch_15 : decode cX6_doesTouch 15 = .ok (.istore_n 3, 1) := by decide +kernel
theorem dX6_doesTouch_16 : decode cX6_doesTouch 16 = .ok (.iload_n 2, 1) := by decide +kernel
theorem dX6_doesTouch_17 : decode cX6_doesTouch 17 = .ok (.iload_n 2, 1) := by decide +kernel
theorem dX6_doesTouch_18 : decode cX6_doesTouch 18 = .ok (.imul, 1) := by decide +kernel
theorem dX6_doesTouch_19 : decode cX6_doesTouch 19 = .ok (.iload_n 3, 1) := by decide +kernel
theorem dX6_doesTouch_20 : decode cX6_doesTouch 20 = .ok (.iload_n 3, 1) := by decide +kernel
theorem dX6_doesTouch_21 : decode cX6_doesTouch 21 = .ok (.imul, 1) := by decide +kernel
theorem dX6_doesTouch_22 : decode cX6_doesTouch 22 = .ok (.iadd, 1) := by decide +kernel
theorem dX6_doesTouch_23 : decode cX6_doesTouch 23 = .ok (.iconst 1, 1) := by decide +kernel
theorem dX6_doesTouch_24 : decode cX6_doesTouch 24 = .ok (.if_icmp .gt 7, 3) := by decide +kernel
theorem dX6_doesTouch_27 : decode cX6_doesTouch 27 = .ok (.iconst 1, 1) := by decide +kernel
theorem dX6_doesTouch_28 : decode cX6_doesTouch 28 = .ok (.goto 4, 3) := by decide +kernel
theorem dX6_doesTouch_31 : decode cX6_doesTouch 31 = .ok (.iconst 0, 1) := by decide +kernel
theorem dX6_doesTouch_32 : decode cX6_doesTouch 32 = .ok (.ireturn, 1) := by decide +kernel
theorem dX6_touchedBy_0 : decode cX6_touchedBy 0 = .ok (.iconst 0, 1) := by decide +kernel
theorem dX6_touchedBy_1 : decode cX6_touchedBy 1 = .ok (.istore_n 1, 1) := by decide +kernel
theorem dX6_touchedBy_2 : decode cX6_touchedBy 2 = .ok (.iconst 0, 1) := by decide +kernel
theorem dX6_touchedBy_3 : decode cX6_touchedBy 3 = .ok (.istore_n 2, 1) := by decide +kernel
theorem dX6_touchedBy_4 : decode cX6_touchedBy 4 = .ok (.iload_n 2, 1) := by decide +kernel
theorem dX6_touchedBy_5 : decode cX6_touchedBy 5 = .ok (.bipush 9, 2) := by decide +kernel
theorem dX6_touchedBy_7 : decode cX6_touchedBy 7 = .ok (.if_icmp .ge 27, 3) := by decide +kernel
theorem dX6_touchedBy_10 : decode cX6_touchedBy 10 = .ok (.iload_n 1, 1) := by decide +kernel
theorem dX6_touchedBy_11 : decode cX6_touchedBy 11 = .ok (.iload_n 0, 1) := by decide +kernel
theorem dX6_touchedBy_12 : decode cX6_touchedBy 12 = .ok (.iload_n 2, 1) := by decide +kernel
theorem dX6_touchedBy_13 : decode cX6_touchedBy 13 = .ok (.invokestatic 100, 3) := by decide +kernel
theorem dX6_touchedBy_16 : decode cX6_touchedBy 16 = .ok (.ifCond .eq 9, 3) := by decide +kernel
theorem dX6_touchedBy_19 : decode cX6_touchedBy 19 = .ok (.iconst 1, 1) := by decide +kernel
theorem dX6_touchedBy_20 : decode cX6_touchedBy 20 = .ok (.iload_n 2, 1) := by decide +kernel
theorem dX6_touchedBy_21 : decode cX6_touchedBy 21 = .ok (.ishl, 1) := by decide +kernel
theorem dX6_touchedBy_22 : decode cX6_touchedBy 22 = .ok (.goto 4, 3) := by decide +kernel
theorem dX6_touchedBy_25 : decode cX6_touchedBy 25 = .ok (.iconst 0, 1) := by decide +kernel
theorem dX6_touchedBy_26 : decode cX6_touchedBy 26 = .ok (.ior, 1) := by decide +kernel
theorem dX6_touchedBy_27 : decode cX6_touchedBy 27 = .ok (.istore_n 1, 1) := by decide +kernel
theorem dX6_touchedBy_28 : decode cX6_touchedBy 28 = .ok (.iinc 2 1, 3) := by decide +kernel
theorem dX6_touchedBy_31 : decode cX6_touchedBy 31 = .ok (.goto (-27), 3) := by decide +kernel
theorem dX6_touchedBy_34 : decode cX6_touchedBy 34 = .ok (.iload_n 1, 1) := by decide +kernel
theorem dX6_touchedBy_35 : decode cX6_touchedBy 35 = .ok (.ireturn, 1) := by decide +kernel
theorem dX6_after_0 : decode cX6_after 0 = .ok (.iload_n 0, 1) := by decide +kernel
theorem dX6_after_1 : decode cX6_after 1 = .ok (.tableswitch 63 0 4 #[35, 39, 45, 63, 47], 35) := by decide +kernel
theorem dX6_after_36 : decode cX6_after 36 = .ok (.iconst 1, 1) := by decide +kernel
theorem dX6_after_37 : decode cX6_after 37 = .ok (.iload_n 1, 1) := by decide +kernel
theorem dX6_after_38 : decode cX6_after 38 = .ok (.isub, 1) := by decide +kernel
theorem dX6_after_39 : decode cX6_after 39 = .ok (.ireturn, 1) := by decide +kernel
theorem dX6_after_40 : decode cX6_after 40 = .ok (.iload_n 1, 1) := by decide +kernel
theorem dX6_after_41 : decode cX6_after 41 = .ok (.iconst 1, 1) := by decide +kernel
theorem dX6_after_42 : decode cX6_after 42 = .ok (.iadd, 1) := by decide +kernel
theorem dX6_after_43 : decode cX6_after 43 = .ok (.iconst 3, 1) := by decide +kernel
theorem dX6_after_44 : decode cX6_after 44 = .ok (.irem, 1) := by decide +kernel
theorem dX6_after_45 : decode cX6_after 45 = .ok (.ireturn, 1) := by decide +kernel
theorem dX6_after_46 : decode cX6_after 46 = .ok (.iconst 1, 1) := by decide +kernel
theorem dX6_after_47 : decode cX6_after 47 = .ok (.ireturn, 1) := by decide +kernel
theorem dX6_after_48 : decode cX6_after 48 = .ok (.iload_n 3, 1) := by decide +kernel
theorem dX6_after_49 : decode cX6_after 49 = .ok (.iconst 2, 1) := by decide +kernel
theorem dX6_after_50 : decode cX6_after 50 = .ok (.irem, 1) := by decide +kernel
theorem dX6_after_51 : decode cX6_after 51 = .ok (.ifCond .ne 11, 3) := by decide +kernel
theorem dX6_after_54 : decode cX6_after 54 = .ok (.iload_n 1, 1) := by decide +kernel
theorem dX6_after_55 : decode cX6_after 55 = .ok (.iconst 1, 1) := by decide +kernel
theorem dX6_after_56 : decode cX6_after 56 = .ok (.iadd, 1) := by decide +kernel
theorem dX6_after_57 : decode cX6_after 57 = .ok (.iconst 3, 1) := by decide +kernel
theorem dX6_after_58 : decode cX6_after 58 = .ok (.irem, 1) := by decide +kernel
theorem dX6_after_59 : decode cX6_after 59 = .ok (.goto 4, 3) := by decide +kernel
theorem dX6_after_62 : decode cX6_after 62 = .ok (.iload_n 1, 1) := by decide +kernel
theorem dX6_after_63 : decode cX6_after 63 = .ok (.ireturn, 1) := by decide +kernel
theorem dX6_after_64 : decode cX6_after 64 = .ok (.iload_n 2, 1) := by decide +kernel
theorem dX6_after_65 : decode cX6_after 65 = .ok (.ifCond .eq 7, 3) := by decide +kernel
theorem dX6_after_68 : decode cX6_after 68 = .ok (.iload_n 1, 1) := by decide +kernel
theorem dX6_after_69 : decode cX6_after 69 = .ok (.goto 6, 3) := by decide +kernel
theorem dX6_after_72 : decode cX6_after 72 = .ok (.iconst 1, 1) := by decide +kernel
theorem dX6_after_73 : decode cX6_after 73 = .ok (.iload_n 1, 1) := by decide +kernel
theorem dX6_after_74 : decode cX6_after 74 = .ok (.isub, 1) := by decide +kernel
theorem dX6_after_75 : decode cX6_after 75 = .ok (.ireturn, 1) := by decide +kernel
theorem dX6_doesShow_0 : decode cX6_doesShow 0 = .ok (.iload_n 0, 1) := by decide +kernel
theorem dX6_doesShow_1 : decode cX6_doesShow 1 = .ok (.iconst 5, 1) := by decide +kernel
theorem dX6_doesShow_2 : decode cX6_doesShow 2 = .ok (.if_icmp .ne 15, 3) := by decide +kernel
theorem dX6_doesShow_5 : decode cX6_doesShow 5 = .ok (.iload_n 1, 1) := by decide +kernel
theorem dX6_doesShow_6 : decode cX6_doesShow 6 = .ok (.ifCond .ne 7, 3) := by decide +kernel
theorem dX6_doesShow_9 : decode cX6_doesShow 9 = .ok (.iconst 1, 1) := by decide +kernel
theorem dX6_doesShow_10 : decode cX6_doesShow 10 = .ok (.goto 16, 3) := by decide +kernel
theorem dX6_doesShow_13 : decode cX6_doesShow 13 = .ok (.iconst 0, 1) := by decide +kernel
theorem dX6_doesShow_14 : decode cX6_doesShow 14 = .ok (.goto 12, 3) := by decide +kernel
theorem dX6_doesShow_17 : decode cX6_doesShow 17 = .ok (.iload_n 1, 1) := by decide +kernel
theorem dX6_doesShow_18 : decode cX6_doesShow 18 = .ok (.ifCond .le 7, 3) := by decide +kernel
theorem dX6_doesShow_21 : decode cX6_doesShow 21 = .ok (.iconst 1, 1) := by decide +kernel
theorem dX6_doesShow_22 : decode cX6_doesShow 22 = .ok (.goto 4, 3) := by decide +kernel
theorem dX6_doesShow_25 : decode cX6_doesShow 25 = .ok (.iconst 0, 1) := by decide +kernel
theorem dX6_doesShow_26 : decode cX6_doesShow 26 = .ok (.ireturn, 1) := by decide +kernel
theorem dX6_shownBy_0 : decode cX6_shownBy 0 = .ok (.iconst 0, 1) := by decide +kernel
theorem dX6_shownBy_1 : decode cX6_shownBy 1 = .ok (.istore_n 3, 1) := by decide +kernel
theorem dX6_shownBy_2 : decode cX6_shownBy 2 = .ok (.iconst 0, 1) := by decide +kernel
theorem dX6_shownBy_3 : decode cX6_shownBy 3 = .ok (.istore 4, 2) := by decide +kernel
theorem dX6_shownBy_5 : decode cX6_shownBy 5 = .ok (.iload 4, 2) := by decide +kernel
theorem dX6_shownBy_7 : decode cX6_shownBy 7 = .ok (.aload_n 0, 1) := by decide +kernel
theorem dX6_shownBy_8 : decode cX6_shownBy 8 = .ok (.getfield 94, 3) := by decide +kernel
theorem dX6_shownBy_11 : decode cX6_shownBy 11 = .ok (.if_icmp .ge 53, 3) := by decide +kernel
theorem dX6_shownBy_14 : decode cX6_shownBy 14 = .ok (.iload_n 3, 1) := by decide +kernel
theorem dX6_shownBy_15 : decode cX6_shownBy 15 = .ok (.aload_n 1, 1) := by decide +kernel
theorem dX6_shownBy_16 : decode cX6_shownBy 16 = .ok (.iload_n 2, 1) := by decide +kernel
theorem dX6_shownBy_17 : decode cX6_shownBy 17 = .ok (.bipush 10, 2) := by decide +kernel
theorem dX6_shownBy_19 : decode cX6_shownBy 19 = .ok (.iadd, 1) := by decide +kernel
theorem dX6_shownBy_20 : decode cX6_shownBy 20 = .ok (.iaload, 1) := by decide +kernel
theorem dX6_shownBy_21 : decode cX6_shownBy 21 = .ok (.iload 4, 2) := by decide +kernel
theorem dX6_shownBy_23 : decode cX6_shownBy 23 = .ok (.invokestatic 104, 3) := by decide +kernel
theorem dX6_shownBy_26 : decode cX6_shownBy 26 = .ok (.ifCond .ne 29, 3) := by decide +kernel
theorem dX6_shownBy_29 : decode cX6_shownBy 29 = .ok (.aload_n 0, 1) := by decide +kernel
theorem dX6_shownBy_30 : decode cX6_shownBy 30 = .ok (.getfield 33, 3) := by decide +kernel
theorem dX6_shownBy_33 : decode cX6_shownBy 33 = .ok (.iload 4, 2) := by decide +kernel
theorem dX6_shownBy_35 : decode cX6_shownBy 35 = .ok (.iaload, 1) := by decide +kernel
theorem dX6_shownBy_36 : decode cX6_shownBy 36 = .ok (.aload_n 1, 1) := by decide +kernel
theorem dX6_shownBy_37 : decode cX6_shownBy 37 = .ok (.iload_n 2, 1) := by decide +kernel
theorem dX6_shownBy_38 : decode cX6_shownBy 38 = .ok (.iload 4, 2) := by decide +kernel
theorem dX6_shownBy_40 : decode cX6_shownBy 40 = .ok (.iadd, 1) := by decide +kernel
theorem dX6_shownBy_41 : decode cX6_shownBy 41 = .ok (.iaload, 1) := by decide +kernel
theorem dX6_shownBy_42 : decode cX6_shownBy 42 = .ok (.invokestatic 107, 3) := by decide +kernel
theorem dX6_shownBy_45 : decode cX6_shownBy 45 = .ok (.ifCond .eq 10, 3) := by decide +kernel
theorem dX6_shownBy_48 : decode cX6_shownBy 48 = .ok (.iconst 1, 1) := by decide +kernel
theorem dX6_shownBy_49 : decode cX6_shownBy 49 = .ok (.iload 4, 2) := by decide +kernel
theorem dX6_shownBy_51 : decode cX6_shownBy 51 = .ok (.ishl, 1) := by decide +kernel
theorem dX6_shownBy_52 : decode cX6_shownBy 52 = .ok (.goto 4, 3) := by decide +kernel
theorem dX6_shownBy_55 : decode cX6_shownBy 55 = .ok (.iconst 0, 1) := by decide +kernel
theorem dX6_shownBy_56 : decode cX6_shownBy 56 = .ok (.ior, 1) := by decide +kernel
theorem dX6_shownBy_57 : decode cX6_shownBy 57 = .ok (.istore_n 3, 1) := by decide +kernel
theorem dX6_shownBy_58 : decode cX6_shownBy 58 = .ok (.iinc 4 1, 3) := by decide +kernel
theorem dX6_shownBy_61 : decode cX6_shownBy 61 = .ok (.goto (-56), 3) := by decide +kernel
theorem dX6_shownBy_64 : decode cX6_shownBy 64 = .ok (.iload_n 3, 1) := by decide +kernel
theorem dX6_shownBy_65 : decode cX6_shownBy 65 = .ok (.ireturn, 1) := by decide +kernel
theorem dX6_shown_0 : decode cX6_shown 0 = .ok (.aload_n 0, 1) := by decide +kernel
theorem dX6_shown_1 : decode cX6_shown 1 = .ok (.aload_n 0, 1) := by decide +kernel
theorem dX6_shown_2 : decode cX6_shown 2 = .ok (.getfield 39, 3) := by decide +kernel
theorem dX6_shown_5 : decode cX6_shown 5 = .ok (.bipush 11, 2) := by decide +kernel
theorem dX6_shown_7 : decode cX6_shown 7 = .ok (.aload_n 0, 1) := by decide +kernel
theorem dX6_shown_8 : decode cX6_shown 8 = .ok (.getfield 97, 3) := by decide +kernel
theorem dX6_shown_11 : decode cX6_shown 11 = .ok (.imul, 1) := by decide +kernel
theorem dX6_shown_12 : decode cX6_shown 12 = .ok (.invokevirtual 110, 3) := by decide +kernel
theorem dX6_shown_15 : decode cX6_shown 15 = .ok (.ireturn, 1) := by decide +kernel
theorem dX6_pressOn_0 : decode cX6_pressOn 0 = .ok (.iconst 0, 1) := by decide +kernel
theorem dX6_pressOn_1 : decode cX6_pressOn 1 = .ok (.istore 5, 2) := by decide +kernel
theorem dX6_pressOn_3 : decode cX6_pressOn 3 = .ok (.iload 5, 2) := by decide +kernel
theorem dX6_pressOn_5 : decode cX6_pressOn 5 = .ok (.bipush 9, 2) := by decide +kernel
theorem dX6_pressOn_7 : decode cX6_pressOn 7 = .ok (.if_icmp .ge 74, 3) := by decide +kernel
theorem dX6_pressOn_10 : decode cX6_pressOn 10 = .ok (.iload_n 3, 1) := by decide +kernel
theorem dX6_pressOn_11 : decode cX6_pressOn 11 = .ok (.iload 5, 2) := by decide +kernel
theorem dX6_pressOn_13 : decode cX6_pressOn 13 = .ok (.invokestatic 100, 3) := by decide +kernel
theorem dX6_pressOn_16 : decode cX6_pressOn 16 = .ok (.ifCond .eq 59, 3) := by decide +kernel
theorem dX6_pressOn_19 : decode cX6_pressOn 19 = .ok (.aload_n 1, 1) := by decide +kernel
theorem dX6_pressOn_20 : decode cX6_pressOn 20 = .ok (.iload_n 2, 1) := by decide +kernel
theorem dX6_pressOn_21 : decode cX6_pressOn 21 = .ok (.bipush 10, 2) := by decide +kernel
theorem dX6_pressOn_23 : decode cX6_pressOn 23 = .ok (.iadd, 1) := by decide +kernel
theorem dX6_pressOn_24 : decode cX6_pressOn 24 = .ok (.iaload, 1) := by decide +kernel
theorem dX6_pressOn_25 : decode cX6_pressOn 25 = .ok (.iload 4, 2) := by decide +kernel
theorem dX6_pressOn_27 : decode cX6_pressOn 27 = .ok (.ior, 1) := by decide +kernel
theorem dX6_pressOn_28 : decode cX6_pressOn 28 = .ok (.iload 5, 2) := by decide +kernel
theorem dX6_pressOn_30 : decode cX6_pressOn 30 = .ok (.invokestatic 104, 3) := by decide +kernel
theorem dX6_pressOn_33 : decode cX6_pressOn 33 = .ok (.ifCond .ne 42, 3) := by decide +kernel
theorem dX6_pressOn_36 : decode cX6_pressOn 36 = .ok (.aload_n 1, 1) := by decide +kernel
theorem dX6_pressOn_37 : decode cX6_pressOn 37 = .ok (.iload_n 2, 1) := by decide +kernel
theorem dX6_pressOn_38 : decode cX6_pressOn 38 = .ok (.iload 5, 2) := by decide +kernel
theorem dX6_pressOn_40 : decode cX6_pressOn 40 = .ok (.iadd, 1) := by decide +kernel
theorem dX6_pressOn_41 : decode cX6_pressOn 41 = .ok (.aload_n 0, 1) := by decide +kernel
theorem dX6_pressOn_42 : decode cX6_pressOn 42 = .ok (.getfield 33, 3) := by decide +kernel
theorem dX6_pressOn_45 : decode cX6_pressOn 45 = .ok (.iload 5, 2) := by decide +kernel
theorem dX6_pressOn_47 : decode cX6_pressOn 47 = .ok (.iaload, 1) := by decide +kernel
theorem dX6_pressOn_48 : decode cX6_pressOn 48 = .ok (.aload_n 1, 1) := by decide +kernel
theorem dX6_pressOn_49 : decode cX6_pressOn 49 = .ok (.iload_n 2, 1) := by decide +kernel
theorem dX6_pressOn_50 : decode cX6_pressOn 50 = .ok (.iload 5, 2) := by decide +kernel
theorem dX6_pressOn_52 : decode cX6_pressOn 52 = .ok (.iadd, 1) := by decide +kernel
theorem dX6_pressOn_53 : decode cX6_pressOn 53 = .ok (.iaload, 1) := by decide +kernel
theorem dX6_pressOn_54 : decode cX6_pressOn 54 = .ok (.iload_n 3, 1) := by decide +kernel
theorem dX6_pressOn_55 : decode cX6_pressOn 55 = .ok (.iload 5, 2) := by decide +kernel
theorem dX6_pressOn_57 : decode cX6_pressOn 57 = .ok (.if_icmp .ne 7, 3) := by decide +kernel
theorem dX6_pressOn_60 : decode cX6_pressOn 60 = .ok (.iconst 1, 1) := by decide +kernel
theorem dX6_pressOn_61 : decode cX6_pressOn 61 = .ok (.goto 4, 3) := by decide +kernel
theorem dX6_pressOn_64 : decode cX6_pressOn 64 = .ok (.iconst 0, 1) := by decide +kernel
theorem dX6_pressOn_65 : decode cX6_pressOn 65 = .ok (.aload_n 1, 1) := by decide +kernel
theorem dX6_pressOn_66 : decode cX6_pressOn 66 = .ok (.iload_n 2, 1) := by decide +kernel
theorem dX6_pressOn_67 : decode cX6_pressOn 67 = .ok (.bipush 9, 2) := by decide +kernel
theorem dX6_pressOn_69 : decode cX6_pressOn 69 = .ok (.iadd, 1) := by decide +kernel
theorem dX6_pressOn_70 : decode cX6_pressOn 70 = .ok (.iaload, 1) := by decide +kernel
theorem dX6_pressOn_71 : decode cX6_pressOn 71 = .ok (.invokestatic 114, 3) := by decide +kernel
theorem dX6_pressOn_74 : decode cX6_pressOn 74 = .ok (.iastore, 1) := by decide +kernel
theorem dX6_pressOn_75 : decode cX6_pressOn 75 = .ok (.iinc 5 1, 3) := by decide +kernel
theorem dX6_pressOn_78 : decode cX6_pressOn 78 = .ok (.goto (-75), 3) := by decide +kernel
theorem dX6_pressOn_81 : decode cX6_pressOn 81 = .ok (.aload_n 1, 1) := by decide +kernel
theorem dX6_pressOn_82 : decode cX6_pressOn 82 = .ok (.iload_n 2, 1) := by decide +kernel
theorem dX6_pressOn_83 : decode cX6_pressOn 83 = .ok (.bipush 9, 2) := by decide +kernel
theorem dX6_pressOn_85 : decode cX6_pressOn 85 = .ok (.iadd, 1) := by decide +kernel
theorem dX6_pressOn_86 : decode cX6_pressOn 86 = .ok (.dup2, 1) := by decide +kernel
theorem dX6_pressOn_87 : decode cX6_pressOn 87 = .ok (.iaload, 1) := by decide +kernel
theorem dX6_pressOn_88 : decode cX6_pressOn 88 = .ok (.iconst 1, 1) := by decide +kernel
theorem dX6_pressOn_89 : decode cX6_pressOn 89 = .ok (.iadd, 1) := by decide +kernel
theorem dX6_pressOn_90 : decode cX6_pressOn 90 = .ok (.iastore, 1) := by decide +kernel
theorem dX6_pressOn_91 : decode cX6_pressOn 91 = .ok (.return_, 1) := by decide +kernel
theorem dX6_factOf_0 : decode cX6_factOf 0 = .ok (.iload_n 2, 1) := by decide +kernel
theorem dX6_factOf_1 : decode cX6_factOf 1 = .ok (.tableswitch 89 0 4 #[35, 42, 48, 65, 84], 35) := by decide +kernel
theorem dX6_factOf_36 : decode cX6_factOf 36 = .ok (.aload_n 0, 1) := by decide +kernel
theorem dX6_factOf_37 : decode cX6_factOf 37 = .ok (.getfield 33, 3) := by decide +kernel
theorem dX6_factOf_40 : decode cX6_factOf 40 = .ok (.iload_n 1, 1) := by decide +kernel
theorem dX6_factOf_41 : decode cX6_factOf 41 = .ok (.iaload, 1) := by decide +kernel
theorem dX6_factOf_42 : decode cX6_factOf 42 = .ok (.ireturn, 1) := by decide +kernel
theorem dX6_factOf_43 : decode cX6_factOf 43 = .ok (.aload_n 0, 1) := by decide +kernel
theorem dX6_factOf_44 : decode cX6_factOf 44 = .ok (.iload_n 1, 1) := by decide +kernel
theorem dX6_factOf_45 : decode cX6_factOf 45 = .ok (.invokevirtual 118, 3) := by decide +kernel
theorem dX6_factOf_48 : decode cX6_factOf 48 = .ok (.ireturn, 1) := by decide +kernel
theorem dX6_factOf_49 : decode cX6_factOf 49 = .ok (.aload_n 0, 1) := by decide +kernel
theorem dX6_factOf_50 : decode cX6_factOf 50 = .ok (.invokevirtual 121, 3) := by decide +kernel
theorem dX6_factOf_53 : decode cX6_factOf 53 = .ok (.iload_n 1, 1) := by decide +kernel
theorem dX6_factOf_54 : decode cX6_factOf 54 = .ok (.invokestatic 104, 3) := by decide +kernel
theorem dX6_factOf_57 : decode cX6_factOf 57 = .ok (.ifCond .eq 7, 3) := by decide +kernel
theorem dX6_factOf_60 : decode cX6_factOf 60 = .ok (.iconst 1, 1) := by decide +kernel
theorem dX6_factOf_61 : decode cX6_factOf 61 = .ok (.goto 4, 3) := by decide +kernel
theorem dX6_factOf_64 : decode cX6_factOf 64 = .ok (.iconst 0, 1) := by decide +kernel
theorem dX6_factOf_65 : decode cX6_factOf 65 = .ok (.ireturn, 1) := by decide +kernel
theorem dX6_factOf_66 : decode cX6_factOf 66 = .ok (.aload_n 0, 1) := by decide +kernel
theorem dX6_factOf_67 : decode cX6_factOf 67 = .ok (.bipush 10, 2) := by decide +kernel
theorem dX6_factOf_69 : decode cX6_factOf 69 = .ok (.invokevirtual 118, 3) := by decide +kernel
theorem dX6_factOf_72 : decode cX6_factOf 72 = .ok (.iload_n 1, 1) := by decide +kernel
theorem dX6_factOf_73 : decode cX6_factOf 73 = .ok (.invokestatic 104, 3) := by decide +kernel
theorem dX6_factOf_76 : decode cX6_factOf 76 = .ok (.ifCond .eq 7, 3) := by decide +kernel
theorem dX6_factOf_79 : decode cX6_factOf 79 = .ok (.iconst 1, 1) := by decide +kernel
theorem dX6_factOf_80 : decode cX6_factOf 80 = .ok (.goto 4, 3) := by decide +kernel
theorem dX6_factOf_83 : decode cX6_factOf 83 = .ok (.iconst 0, 1) := by decide +kernel
theorem dX6_factOf_84 : decode cX6_factOf 84 = .ok (.ireturn, 1) := by decide +kernel
theorem dX6_factOf_85 : decode cX6_factOf 85 = .ok (.iload_n 1, 1) := by decide +kernel
theorem dX6_factOf_86 : decode cX6_factOf 86 = .ok (.invokestatic 125, 3) := by decide +kernel
theorem dX6_factOf_89 : decode cX6_factOf 89 = .ok (.ireturn, 1) := by decide +kernel
theorem dX6_factOf_90 : decode cX6_factOf 90 = .ok (.aload_n 0, 1) := by decide +kernel
theorem dX6_factOf_91 : decode cX6_factOf 91 = .ok (.getfield 33, 3) := by decide +kernel
theorem dX6_factOf_94 : decode cX6_factOf 94 = .ok (.iload_n 1, 1) := by decide +kernel
theorem dX6_factOf_95 : decode cX6_factOf 95 = .ok (.iaload, 1) := by decide +kernel
theorem dX6_factOf_96 : decode cX6_factOf 96 = .ok (.aload_n 0, 1) := by decide +kernel
theorem dX6_factOf_97 : decode cX6_factOf 97 = .ok (.iload_n 1, 1) := by decide +kernel
theorem dX6_factOf_98 : decode cX6_factOf 98 = .ok (.invokevirtual 118, 3) := by decide +kernel
theorem dX6_factOf_101 : decode cX6_factOf 101 = .ok (.iconst 1, 1) := by decide +kernel
theorem dX6_factOf_102 : decode cX6_factOf 102 = .ok (.aload_n 0, 1) := by decide +kernel
theorem dX6_factOf_103 : decode cX6_factOf 103 = .ok (.bipush 9, 2) := by decide +kernel
theorem dX6_factOf_105 : decode cX6_factOf 105 = .ok (.invokevirtual 118, 3) := by decide +kernel
theorem dX6_factOf_108 : decode cX6_factOf 108 = .ok (.invokestatic 114, 3) := by decide +kernel
theorem dX6_factOf_111 : decode cX6_factOf 111 = .ok (.ireturn, 1) := by decide +kernel
theorem dX6_lamp_0 : decode cX6_lamp 0 = .ok (.aload_n 0, 1) := by decide +kernel
theorem dX6_lamp_1 : decode cX6_lamp 1 = .ok (.iload_n 1, 1) := by decide +kernel
theorem dX6_lamp_2 : decode cX6_lamp 2 = .ok (.invokevirtual 128, 3) := by decide +kernel
theorem dX6_lamp_5 : decode cX6_lamp 5 = .ok (.ifCond .eq 25, 3) := by decide +kernel
theorem dX6_lamp_8 : decode cX6_lamp 8 = .ok (.iload_n 2, 1) := by decide +kernel
theorem dX6_lamp_9 : decode cX6_lamp 9 = .ok (.iconst 0, 1) := by decide +kernel
theorem dX6_lamp_10 : decode cX6_lamp 10 = .ok (.iconst 5, 1) := by decide +kernel
theorem dX6_lamp_11 : decode cX6_lamp 11 = .ok (.invokestatic 64, 3) := by decide +kernel
theorem dX6_lamp_14 : decode cX6_lamp 14 = .ok (.ifCond .eq 16, 3) := by decide +kernel
theorem dX6_lamp_17 : decode cX6_lamp 17 = .ok (.aload_n 0, 1) := by decide +kernel
theorem dX6_lamp_18 : decode cX6_lamp 18 = .ok (.aload_n 0, 1) := by decide +kernel
theorem dX6_lamp_19 : decode cX6_lamp 19 = .ok (.iload_n 1, 1) := by decide +kernel
theorem dX6_lamp_20 : decode cX6_lamp 20 = .ok (.iload_n 2, 1) := by decide +kernel
theorem dX6_lamp_21 : decode cX6_lamp 21 = .ok (.invokevirtual 131, 3) := by decide +kernel
theorem dX6_lamp_24 : decode cX6_lamp 24 = .ok (.invokevirtual 76, 3) := by decide +kernel
theorem dX6_lamp_27 : decode cX6_lamp 27 = .ok (.goto 4, 3) := by decide +kernel
theorem dX6_lamp_30 : decode cX6_lamp 30 = .ok (.iconst (-1), 1) := by decide +kernel
theorem dX6_lamp_31 : decode cX6_lamp 31 = .ok (.ireturn, 1) := by decide +kernel
theorem dX6_mark_0 : decode cX6_mark 0 = .ok (.aload_n 0, 1) := by decide +kernel
theorem dX6_mark_1 : decode cX6_mark 1 = .ok (.iload_n 1, 1) := by decide +kernel
theorem dX6_mark_2 : decode cX6_mark 2 = .ok (.invokevirtual 128, 3) := by decide +kernel
theorem dX6_mark_5 : decode cX6_mark 5 = .ok (.ifCond .eq 12, 3) := by decide +kernel
theorem dX6_mark_8 : decode cX6_mark 8 = .ok (.iload_n 2, 1) := by decide +kernel
theorem dX6_mark_9 : decode cX6_mark 9 = .ok (.iconst 1, 1) := by decide +kernel
theorem dX6_mark_10 : decode cX6_mark 10 = .ok (.iconst 5, 1) := by decide +kernel
theorem dX6_mark_11 : decode cX6_mark 11 = .ok (.invokestatic 64, 3) := by decide +kernel
theorem dX6_mark_14 : decode cX6_mark 14 = .ok (.ifCond .ne 5, 3) := by decide +kernel
theorem dX6_mark_17 : decode cX6_mark 17 = .ok (.iconst (-1), 1) := by decide +kernel
theorem dX6_mark_18 : decode cX6_mark 18 = .ok (.ireturn, 1) := by decide +kernel
theorem dX6_mark_19 : decode cX6_mark 19 = .ok (.aload_n 0, 1) := by decide +kernel
theorem dX6_mark_20 : decode cX6_mark 20 = .ok (.getfield 33, 3) := by decide +kernel
theorem dX6_mark_23 : decode cX6_mark 23 = .ok (.iload_n 1, 1) := by decide +kernel
theorem dX6_mark_24 : decode cX6_mark 24 = .ok (.iaload, 1) := by decide +kernel
theorem dX6_mark_25 : decode cX6_mark 25 = .ok (.iload_n 2, 1) := by decide +kernel
theorem dX6_mark_26 : decode cX6_mark 26 = .ok (.if_icmp .eq 39, 3) := by decide +kernel
theorem dX6_mark_29 : decode cX6_mark 29 = .ok (.iload_n 2, 1) := by decide +kernel
theorem dX6_mark_30 : decode cX6_mark 30 = .ok (.iconst 1, 1) := by decide +kernel
theorem dX6_mark_31 : decode cX6_mark 31 = .ok (.if_icmp .ne 13, 3) := by decide +kernel
theorem dX6_mark_34 : decode cX6_mark 34 = .ok (.aload_n 0, 1) := by decide +kernel
theorem dX6_mark_35 : decode cX6_mark 35 = .ok (.getfield 33, 3) := by decide +kernel
theorem dX6_mark_38 : decode cX6_mark 38 = .ok (.iload_n 1, 1) := by decide +kernel
theorem dX6_mark_39 : decode cX6_mark 39 = .ok (.iaload, 1) := by decide +kernel
theorem dX6_mark_40 : decode cX6_mark 40 = .ok (.iconst 4, 1) := by decide +kernel
theorem dX6_mark_41 : decode cX6_mark 41 = .ok (.if_icmp .eq 24, 3) := by decide +kernel
theorem dX6_mark_44 : decode cX6_mark 44 = .ok (.iload_n 2, 1) := by decide +kernel
theorem dX6_mark_45 : decode cX6_mark 45 = .ok (.iconst 3, 1) := by decide +kernel
theorem dX6_mark_46 : decode cX6_mark 46 = .ok (.if_icmp .ne 13, 3) := by decide +kernel
theorem dX6_mark_49 : decode cX6_mark 49 = .ok (.aload_n 0, 1) := by decide +kernel
theorem dX6_mark_50 : decode cX6_mark 50 = .ok (.getfield 33, 3) := by decide +kernel
theorem dX6_mark_53 : decode cX6_mark 53 = .ok (.iload_n 1, 1) := by decide +kernel
theorem dX6_mark_54 : decode cX6_mark 54 = .ok (.iaload, 1) := by decide +kernel
theorem dX6_mark_55 : decode cX6_mark 55 = .ok (.iconst 5, 1) := by decide +kernel
theorem dX6_mark_56 : decode cX6_mark 56 = .ok (.if_icmp .eq 9, 3) := by decide +kernel
theorem dX6_mark_59 : decode cX6_mark 59 = .ok (.aload_n 0, 1) := by decide +kernel
theorem dX6_mark_60 : decode cX6_mark 60 = .ok (.iconst 3, 1) := by decide +kernel
theorem dX6_mark_61 : decode cX6_mark 61 = .ok (.invokevirtual 72, 3) := by decide +kernel
theorem dX6_mark_64 : decode cX6_mark 64 = .ok (.ireturn, 1) := by decide +kernel
theorem dX6_mark_65 : decode cX6_mark 65 = .ok (.iconst 0, 1) := by decide +kernel
theorem dX6_mark_66 : decode cX6_mark 66 = .ok (.istore_n 3, 1) := by decide +kernel
theorem dX6_mark_67 : decode cX6_mark 67 = .ok (.iload_n 2, 1) := by decide +kernel
theorem dX6_mark_68 : decode cX6_mark 68 = .ok (.tableswitch 107 1 4 #[32, 42, 88, 98], 32) := by decide +kernel
theorem dX6_mark_100 : decode cX6_mark 100 = .ok (.iconst 3, 1) := by decide +kernel
theorem dX6_mark_101 : decode cX6_mark 101 = .ok (.aload_n 0, 1) := by decide +kernel
theorem dX6_mark_102 : decode cX6_mark 102 = .ok (.iload_n 1, 1) := by decide +kernel
theorem dX6_mark_103 : decode cX6_mark 103 = .ok (.invokevirtual 118, 3) := by decide +kernel
theorem dX6_mark_106 : decode cX6_mark 106 = .ok (.isub, 1) := by decide +kernel
theorem dX6_mark_107 : decode cX6_mark 107 = .ok (.iconst 3, 1) := by decide +kernel
theorem dX6_mark_108 : decode cX6_mark 108 = .ok (.irem, 1) := by decide +kernel
theorem dX6_mark_109 : decode cX6_mark 109 = .ok (.ireturn, 1) := by decide +kernel
theorem dX6_mark_110 : decode cX6_mark 110 = .ok (.iconst 0, 1) := by decide +kernel
theorem dX6_mark_111 : decode cX6_mark 111 = .ok (.istore 4, 2) := by decide +kernel
theorem dX6_mark_113 : decode cX6_mark 113 = .ok (.iload 4, 2) := by decide +kernel
theorem dX6_mark_115 : decode cX6_mark 115 = .ok (.bipush 9, 2) := by decide +kernel
theorem dX6_mark_117 : decode cX6_mark 117 = .ok (.if_icmp .ge 37, 3) := by decide +kernel
theorem dX6_mark_120 : decode cX6_mark 120 = .ok (.iload_n 3, 1) := by decide +kernel
theorem dX6_mark_121 : decode cX6_mark 121 = .ok (.aload_n 0, 1) := by decide +kernel
theorem dX6_mark_122 : decode cX6_mark 122 = .ok (.getfield 33, 3) := by decide +kernel
theorem dX6_mark_125 : decode cX6_mark 125 = .ok (.iload 4, 2) := by decide +kernel
theorem dX6_mark_127 : decode cX6_mark 127 = .ok (.iaload, 1) := by decide +kernel
theorem dX6_mark_128 : decode cX6_mark 128 = .ok (.iconst 2, 1) := by decide +kernel
theorem dX6_mark_129 : decode cX6_mark 129 = .ok (.if_icmp .ne 16, 3) := by decide +kernel
theorem dX6_mark_132 : decode cX6_mark 132 = .ok (.aload_n 0, 1) := by decide +kernel
theorem dX6_mark_133 : decode cX6_mark 133 = .ok (.iload 4, 2) := by decide +kernel
theorem dX6_mark_135 : decode cX6_mark 135 = .ok (.invokevirtual 118, 3) := by decide +kernel
theorem dX6_mark_138 : decode cX6_mark 138 = .ok (.ifCond .ne 7, 3) := by decide +kernel
theorem dX6_mark_141 : decode cX6_mark 141 = .ok (.iconst 1, 1) := by decide +kernel
theorem dX6_mark_142 : decode cX6_mark 142 = .ok (.goto 4, 3) := by decide +kernel
theorem dX6_mark_145 : decode cX6_mark 145 = .ok (.iconst 0, 1) := by decide +kernel
theorem dX6_mark_146 : decode cX6_mark 146 = .ok (.iadd, 1) := by decide +kernel
theorem dX6_mark_147 : decode cX6_mark 147 = .ok (.istore_n 3, 1) := by decide +kernel
theorem dX6_mark_148 : decode cX6_mark 148 = .ok (.iinc 4 1, 3) := by decide +kernel
theorem dX6_mark_151 : decode cX6_mark 151 = .ok (.goto (-38), 3) := by decide +kernel
theorem dX6_mark_154 : decode cX6_mark 154 = .ok (.iload_n 3, 1) := by decide +kernel
theorem dX6_mark_155 : decode cX6_mark 155 = .ok (.ireturn, 1) := by decide +kernel
theorem dX6_mark_156 : decode cX6_mark 156 = .ok (.iload_n 1, 1) := by decide +kernel
theorem dX6_mark_157 : decode cX6_mark 157 = .ok (.invokestatic 125, 3) := by decide +kernel
theorem dX6_mark_160 : decode cX6_mark 160 = .ok (.invokestatic 135, 3) := by decide +kernel
theorem dX6_mark_163 : decode cX6_mark 163 = .ok (.iconst 1, 1) := by decide +kernel
theorem dX6_mark_164 : decode cX6_mark 164 = .ok (.isub, 1) := by decide +kernel
theorem dX6_mark_165 : decode cX6_mark 165 = .ok (.ireturn, 1) := by decide +kernel
theorem dX6_mark_166 : decode cX6_mark 166 = .ok (.aload_n 0, 1) := by decide +kernel
theorem dX6_mark_167 : decode cX6_mark 167 = .ok (.bipush 9, 2) := by decide +kernel
theorem dX6_mark_169 : decode cX6_mark 169 = .ok (.invokevirtual 118, 3) := by decide +kernel
theorem dX6_mark_172 : decode cX6_mark 172 = .ok (.iconst 2, 1) := by decide +kernel
theorem dX6_mark_173 : decode cX6_mark 173 = .ok (.irem, 1) := by decide +kernel
theorem dX6_mark_174 : decode cX6_mark 174 = .ok (.ireturn, 1) := by decide +kernel
theorem dX6_mark_175 : decode cX6_mark 175 = .ok (.aload_n 0, 1) := by decide +kernel
theorem dX6_mark_176 : decode cX6_mark 176 = .ok (.invokevirtual 121, 3) := by decide +kernel
theorem dX6_mark_179 : decode cX6_mark 179 = .ok (.iconst 1, 1) := by decide +kernel
theorem dX6_mark_180 : decode cX6_mark 180 = .ok (.iload_n 1, 1) := by decide +kernel
theorem dX6_mark_181 : decode cX6_mark 181 = .ok (.ishl, 1) := by decide +kernel
theorem dX6_mark_182 : decode cX6_mark 182 = .ok (.iconst (-1), 1) := by decide +kernel
theorem dX6_mark_183 : decode cX6_mark 183 = .ok (.ixor, 1) := by decide +kernel
theorem dX6_mark_184 : decode cX6_mark 184 = .ok (.iand, 1) := by decide +kernel
theorem dX6_mark_185 : decode cX6_mark 185 = .ok (.invokestatic 135, 3) := by decide +kernel
theorem dX6_mark_188 : decode cX6_mark 188 = .ok (.ireturn, 1) := by decide +kernel
theorem dX6_begin_0 : decode cX6_begin 0 = .ok (.iconst 0, 1) := by decide +kernel
theorem dX6_begin_1 : decode cX6_begin 1 = .ok (.istore_n 1, 1) := by decide +kernel
theorem dX6_begin_2 : decode cX6_begin 2 = .ok (.iload_n 1, 1) := by decide +kernel
theorem dX6_begin_3 : decode cX6_begin 3 = .ok (.bipush 11, 2) := by decide +kernel
theorem dX6_begin_5 : decode cX6_begin 5 = .ok (.if_icmp .ge 39, 3) := by decide +kernel
theorem dX6_begin_8 : decode cX6_begin 8 = .ok (.aload_n 0, 1) := by decide +kernel
theorem dX6_begin_9 : decode cX6_begin 9 = .ok (.getfield 39, 3) := by decide +kernel
theorem dX6_begin_12 : decode cX6_begin 12 = .ok (.bipush 11, 2) := by decide +kernel
theorem dX6_begin_14 : decode cX6_begin 14 = .ok (.aload_n 0, 1) := by decide +kernel
theorem dX6_begin_15 : decode cX6_begin 15 = .ok (.getfield 97, 3) := by decide +kernel
theorem dX6_begin_18 : decode cX6_begin 18 = .ok (.iconst 1, 1) := by decide +kernel
theorem dX6_begin_19 : decode cX6_begin 19 = .ok (.iadd, 1) := by decide +kernel
theorem dX6_begin_20 : decode cX6_begin 20 = .ok (.imul, 1) := by decide +kernel
theorem dX6_begin_21 : decode cX6_begin 21 = .ok (.iload_n 1, 1) := by decide +kernel
theorem dX6_begin_22 : decode cX6_begin 22 = .ok (.iadd, 1) := by decide +kernel
theorem dX6_begin_23 : decode cX6_begin 23 = .ok (.aload_n 0, 1) := by decide +kernel
theorem dX6_begin_24 : decode cX6_begin 24 = .ok (.getfield 39, 3) := by decide +kernel
theorem dX6_begin_27 : decode cX6_begin 27 = .ok (.bipush 11, 2) := by decide +kernel
theorem dX6_begin_29 : decode cX6_begin 29 = .ok (.aload_n 0, 1) := by decide +kernel
theorem dX6_begin_30 : decode cX6_begin 30 = .ok (.getfield 97, 3) := by decide +kernel
theorem dX6_begin_33 : decode cX6_begin 33 = .ok (.imul, 1) := by decide +kernel
theorem dX6_begin_34 : decode cX6_begin 34 = .ok (.iload_n 1, 1) := by decide +kernel
theorem dX6_begin_35 : decode cX6_begin 35 = .ok (.iadd, 1) := by decide +kernel
theorem dX6_begin_36 : decode cX6_begin 36 = .ok (.iaload, 1) := by decide +kernel
theorem dX6_begin_37 : decode cX6_begin 37 = .ok (.iastore, 1) := by decide +kernel
theorem dX6_begin_38 : decode cX6_begin 38 = .ok (.iinc 1 1, 3) := by decide +kernel
theorem dX6_begin_41 : decode cX6_begin 41 = .ok (.goto (-39), 3) := by decide +kernel
theorem dX6_begin_44 : decode cX6_begin 44 = .ok (.aload_n 0, 1) := by decide +kernel
theorem dX6_begin_45 : decode cX6_begin 45 = .ok (.dup, 1) := by decide +kernel
theorem dX6_begin_46 : decode cX6_begin 46 = .ok (.getfield 97, 3) := by decide +kernel
theorem dX6_begin_49 : decode cX6_begin 49 = .ok (.iconst 1, 1) := by decide +kernel
theorem dX6_begin_50 : decode cX6_begin 50 = .ok (.iadd, 1) := by decide +kernel
theorem dX6_begin_51 : decode cX6_begin 51 = .ok (.putfield 97, 3) := by decide +kernel
theorem dX6_begin_54 : decode cX6_begin 54 = .ok (.return_, 1) := by decide +kernel
theorem dX6_press_0 : decode cX6_press 0 = .ok (.aload_n 0, 1) := by decide +kernel
theorem dX6_press_1 : decode cX6_press 1 = .ok (.getfield 94, 3) := by decide +kernel
theorem dX6_press_4 : decode cX6_press 4 = .ok (.ifCond .ne 6, 3) := by decide +kernel
theorem dX6_press_7 : decode cX6_press 7 = .ok (.bipush (-4), 2) := by decide +kernel
theorem dX6_press_9 : decode cX6_press 9 = .ok (.ireturn, 1) := by decide +kernel
theorem dX6_press_10 : decode cX6_press 10 = .ok (.iload_n 1, 1) := by decide +kernel
theorem dX6_press_11 : decode cX6_press 11 = .ok (.invokestatic 138, 3) := by decide +kernel
theorem dX6_press_14 : decode cX6_press 14 = .ok (.ifCond .ne 5, 3) := by decide +kernel
theorem dX6_press_17 : decode cX6_press 17 = .ok (.iconst (-1), 1) := by decide +kernel
theorem dX6_press_18 : decode cX6_press 18 = .ok (.ireturn, 1) := by decide +kernel
theorem dX6_press_19 : decode cX6_press 19 = .ok (.aload_n 0, 1) := by decide +kernel
theorem dX6_press_20 : decode cX6_press 20 = .ok (.getfield 97, 3) := by decide +kernel
theorem dX6_press_23 : decode cX6_press 23 = .ok (.bipush 40, 2) := by decide +kernel
theorem dX6_press_25 : decode cX6_press 25 = .ok (.if_icmp .ne 6, 3) := by decide +kernel
theorem dX6_press_28 : decode cX6_press 28 = .ok (.bipush (-2), 2) := by decide +kernel
theorem dX6_press_30 : decode cX6_press 30 = .ok (.ireturn, 1) := by decide +kernel
theorem dX6_press_31 : decode cX6_press 31 = .ok (.aload_n 0, 1) := by decide +kernel
theorem dX6_press_32 : decode cX6_press 32 = .ok (.invokevirtual 141, 3) := by decide +kernel
theorem dX6_press_35 : decode cX6_press 35 = .ok (.aload_n 0, 1) := by decide +kernel
theorem dX6_press_36 : decode cX6_press 36 = .ok (.aload_n 0, 1) := by decide +kernel
theorem dX6_press_37 : decode cX6_press 37 = .ok (.getfield 39, 3) := by decide +kernel
theorem dX6_press_40 : decode cX6_press 40 = .ok (.bipush 11, 2) := by decide +kernel
theorem dX6_press_42 : decode cX6_press 42 = .ok (.aload_n 0, 1) := by decide +kernel
theorem dX6_press_43 : decode cX6_press 43 = .ok (.getfield 97, 3) := by decide +kernel
theorem dX6_press_46 : decode cX6_press 46 = .ok (.imul, 1) := by decide +kernel
theorem dX6_press_47 : decode cX6_press 47 = .ok (.iload_n 1, 1) := by decide +kernel
theorem dX6_press_48 : decode cX6_press 48 = .ok (.iconst 0, 1) := by decide +kernel
theorem dX6_press_49 : decode cX6_press 49 = .ok (.invokevirtual 144, 3) := by decide +kernel
theorem dX6_press_52 : decode cX6_press 52 = .ok (.aload_n 0, 1) := by decide +kernel
theorem dX6_press_53 : decode cX6_press 53 = .ok (.invokevirtual 121, 3) := by decide +kernel
theorem dX6_press_56 : decode cX6_press 56 = .ok (.ireturn, 1) := by decide +kernel
theorem dX6_set_0 : decode cX6_set 0 = .ok (.aload_n 0, 1) := by decide +kernel
theorem dX6_set_1 : decode cX6_set 1 = .ok (.iload_n 1, 1) := by decide +kernel
theorem dX6_set_2 : decode cX6_set 2 = .ok (.invokevirtual 128, 3) := by decide +kernel
theorem dX6_set_5 : decode cX6_set 5 = .ok (.ifCond .eq 22, 3) := by decide +kernel
theorem dX6_set_8 : decode cX6_set 8 = .ok (.iload_n 2, 1) := by decide +kernel
theorem dX6_set_9 : decode cX6_set 9 = .ok (.iconst 0, 1) := by decide +kernel
theorem dX6_set_10 : decode cX6_set 10 = .ok (.aload_n 0, 1) := by decide +kernel
theorem dX6_set_11 : decode cX6_set 11 = .ok (.getfield 33, 3) := by decide +kernel
theorem dX6_set_14 : decode cX6_set 14 = .ok (.iload_n 1, 1) := by decide +kernel
theorem dX6_set_15 : decode cX6_set 15 = .ok (.iaload, 1) := by decide +kernel
theorem dX6_set_16 : decode cX6_set 16 = .ok (.invokestatic 88, 3) := by decide +kernel
theorem dX6_set_19 : decode cX6_set 19 = .ok (.iconst 1, 1) := by decide +kernel
theorem dX6_set_20 : decode cX6_set 20 = .ok (.isub, 1) := by decide +kernel
theorem dX6_set_21 : decode cX6_set 21 = .ok (.invokestatic 64, 3) := by decide +kernel
theorem dX6_set_24 : decode cX6_set 24 = .ok (.ifCond .ne 5, 3) := by decide +kernel
theorem dX6_set_27 : decode cX6_set 27 = .ok (.iconst (-1), 1) := by decide +kernel
theorem dX6_set_28 : decode cX6_set 28 = .ok (.ireturn, 1) := by decide +kernel
theorem dX6_set_29 : decode cX6_set 29 = .ok (.aload_n 0, 1) := by decide +kernel
theorem dX6_set_30 : decode cX6_set 30 = .ok (.iload_n 1, 1) := by decide +kernel
theorem dX6_set_31 : decode cX6_set 31 = .ok (.invokevirtual 118, 3) := by decide +kernel
theorem dX6_set_34 : decode cX6_set 34 = .ok (.istore_n 3, 1) := by decide +kernel
theorem dX6_set_35 : decode cX6_set 35 = .ok (.iload_n 3, 1) := by decide +kernel
theorem dX6_set_36 : decode cX6_set 36 = .ok (.iload_n 2, 1) := by decide +kernel
theorem dX6_set_37 : decode cX6_set 37 = .ok (.if_icmp .ne 6, 3) := by decide +kernel
theorem dX6_set_40 : decode cX6_set 40 = .ok (.bipush (-4), 2) := by decide +kernel
theorem dX6_set_42 : decode cX6_set 42 = .ok (.ireturn, 1) := by decide +kernel
theorem dX6_set_43 : decode cX6_set 43 = .ok (.aload_n 0, 1) := by decide +kernel
theorem dX6_set_44 : decode cX6_set 44 = .ok (.getfield 97, 3) := by decide +kernel
theorem dX6_set_47 : decode cX6_set 47 = .ok (.bipush 40, 2) := by decide +kernel
theorem dX6_set_49 : decode cX6_set 49 = .ok (.if_icmp .ne 6, 3) := by decide +kernel
theorem dX6_set_52 : decode cX6_set 52 = .ok (.bipush (-2), 2) := by decide +kernel
theorem dX6_set_54 : decode cX6_set 54 = .ok (.ireturn, 1) := by decide +kernel
theorem dX6_set_55 : decode cX6_set 55 = .ok (.aload_n 0, 1) := by decide +kernel
theorem dX6_set_56 : decode cX6_set 56 = .ok (.invokevirtual 141, 3) := by decide +kernel
theorem dX6_set_59 : decode cX6_set 59 = .ok (.aload_n 0, 1) := by decide +kernel
theorem dX6_set_60 : decode cX6_set 60 = .ok (.getfield 39, 3) := by decide +kernel
theorem dX6_set_63 : decode cX6_set 63 = .ok (.bipush 11, 2) := by decide +kernel
theorem dX6_set_65 : decode cX6_set 65 = .ok (.aload_n 0, 1) := by decide +kernel
theorem dX6_set_66 : decode cX6_set 66 = .ok (.getfield 97, 3) := by decide +kernel
theorem dX6_set_69 : decode cX6_set 69 = .ok (.imul, 1) := by decide +kernel
theorem dX6_set_70 : decode cX6_set 70 = .ok (.iload_n 1, 1) := by decide +kernel
theorem dX6_set_71 : decode cX6_set 71 = .ok (.iadd, 1) := by decide +kernel
theorem dX6_set_72 : decode cX6_set 72 = .ok (.iload_n 2, 1) := by decide +kernel
theorem dX6_set_73 : decode cX6_set 73 = .ok (.iastore, 1) := by decide +kernel
theorem dX6_set_74 : decode cX6_set 74 = .ok (.iload_n 3, 1) := by decide +kernel
theorem dX6_set_75 : decode cX6_set 75 = .ok (.ireturn, 1) := by decide +kernel
theorem dX6_crack_0 : decode cX6_crack 0 = .ok (.aload_n 0, 1) := by decide +kernel
theorem dX6_crack_1 : decode cX6_crack 1 = .ok (.iload_n 1, 1) := by decide +kernel
theorem dX6_crack_2 : decode cX6_crack 2 = .ok (.invokevirtual 128, 3) := by decide +kernel
theorem dX6_crack_5 : decode cX6_crack 5 = .ok (.ifCond .ne 5, 3) := by decide +kernel
theorem dX6_crack_8 : decode cX6_crack 8 = .ok (.iconst (-1), 1) := by decide +kernel
theorem dX6_crack_9 : decode cX6_crack 9 = .ok (.ireturn, 1) := by decide +kernel
theorem dX6_crack_10 : decode cX6_crack 10 = .ok (.aload_n 0, 1) := by decide +kernel
theorem dX6_crack_11 : decode cX6_crack 11 = .ok (.getfield 97, 3) := by decide +kernel
theorem dX6_crack_14 : decode cX6_crack 14 = .ok (.bipush 40, 2) := by decide +kernel
theorem dX6_crack_16 : decode cX6_crack 16 = .ok (.if_icmp .ne 6, 3) := by decide +kernel
theorem dX6_crack_19 : decode cX6_crack 19 = .ok (.bipush (-2), 2) := by decide +kernel
theorem dX6_crack_21 : decode cX6_crack 21 = .ok (.ireturn, 1) := by decide +kernel
theorem dX6_crack_22 : decode cX6_crack 22 = .ok (.aload_n 0, 1) := by decide +kernel
theorem dX6_crack_23 : decode cX6_crack 23 = .ok (.invokevirtual 141, 3) := by decide +kernel
theorem dX6_crack_26 : decode cX6_crack 26 = .ok (.aload_n 0, 1) := by decide +kernel
theorem dX6_crack_27 : decode cX6_crack 27 = .ok (.getfield 39, 3) := by decide +kernel
theorem dX6_crack_30 : decode cX6_crack 30 = .ok (.bipush 11, 2) := by decide +kernel
theorem dX6_crack_32 : decode cX6_crack 32 = .ok (.aload_n 0, 1) := by decide +kernel
theorem dX6_crack_33 : decode cX6_crack 33 = .ok (.getfield 97, 3) := by decide +kernel
theorem dX6_crack_36 : decode cX6_crack 36 = .ok (.imul, 1) := by decide +kernel
theorem dX6_crack_37 : decode cX6_crack 37 = .ok (.bipush 10, 2) := by decide +kernel
theorem dX6_crack_39 : decode cX6_crack 39 = .ok (.iadd, 1) := by decide +kernel
theorem dX6_crack_40 : decode cX6_crack 40 = .ok (.aload_n 0, 1) := by decide +kernel
theorem dX6_crack_41 : decode cX6_crack 41 = .ok (.bipush 10, 2) := by decide +kernel
theorem dX6_crack_43 : decode cX6_crack 43 = .ok (.invokevirtual 118, 3) := by decide +kernel
theorem dX6_crack_46 : decode cX6_crack 46 = .ok (.iload_n 1, 1) := by decide +kernel
theorem dX6_crack_47 : decode cX6_crack 47 = .ok (.invokestatic 148, 3) := by decide +kernel
theorem dX6_crack_50 : decode cX6_crack 50 = .ok (.iastore, 1) := by decide +kernel
theorem dX6_crack_51 : decode cX6_crack 51 = .ok (.aload_n 0, 1) := by decide +kernel
theorem dX6_crack_52 : decode cX6_crack 52 = .ok (.bipush 10, 2) := by decide +kernel
theorem dX6_crack_54 : decode cX6_crack 54 = .ok (.invokevirtual 118, 3) := by decide +kernel
theorem dX6_crack_57 : decode cX6_crack 57 = .ok (.iload_n 1, 1) := by decide +kernel
theorem dX6_crack_58 : decode cX6_crack 58 = .ok (.invokestatic 104, 3) := by decide +kernel
theorem dX6_crack_61 : decode cX6_crack 61 = .ok (.ifCond .eq 7, 3) := by decide +kernel
theorem dX6_crack_64 : decode cX6_crack 64 = .ok (.iconst 1, 1) := by decide +kernel
theorem dX6_crack_65 : decode cX6_crack 65 = .ok (.goto 4, 3) := by decide +kernel
theorem dX6_crack_68 : decode cX6_crack 68 = .ok (.iconst 0, 1) := by decide +kernel
theorem dX6_crack_69 : decode cX6_crack 69 = .ok (.ireturn, 1) := by decide +kernel
theorem dX6_flipped_0 : decode cX6_flipped 0 = .ok (.iload_n 0, 1) := by decide +kernel
theorem dX6_flipped_1 : decode cX6_flipped 1 = .ok (.iload_n 1, 1) := by decide +kernel
theorem dX6_flipped_2 : decode cX6_flipped 2 = .ok (.invokestatic 104, 3) := by decide +kernel
theorem dX6_flipped_5 : decode cX6_flipped 5 = .ok (.ifCond .eq 13, 3) := by decide +kernel
theorem dX6_flipped_8 : decode cX6_flipped 8 = .ok (.iload_n 0, 1) := by decide +kernel
theorem dX6_flipped_9 : decode cX6_flipped 9 = .ok (.iconst 1, 1) := by decide +kernel
theorem dX6_flipped_10 : decode cX6_flipped 10 = .ok (.iload_n 1, 1) := by decide +kernel
theorem dX6_flipped_11 : decode cX6_flipped 11 = .ok (.ishl, 1) := by decide +kernel
theorem dX6_flipped_12 : decode cX6_flipped 12 = .ok (.iconst (-1), 1) := by decide +kernel
theorem dX6_flipped_13 : decode cX6_flipped 13 = .ok (.ixor, 1) := by decide +kernel
theorem dX6_flipped_14 : decode cX6_flipped 14 = .ok (.iand, 1) := by decide +kernel
theorem dX6_flipped_15 : decode cX6_flipped 15 = .ok (.goto 8, 3) := by decide +kernel
theorem dX6_flipped_18 : decode cX6_flipped 18 = .ok (.iload_n 0, 1) := by decide +kernel
theorem dX6_flipped_19 : decode cX6_flipped 19 = .ok (.iconst 1, 1) := by decide +kernel
theorem dX6_flipped_20 : decode cX6_flipped 20 = .ok (.iload_n 1, 1) := by decide +kernel
theorem dX6_flipped_21 : decode cX6_flipped 21 = .ok (.ishl, 1) := by decide +kernel
theorem dX6_flipped_22 : decode cX6_flipped 22 = .ok (.ior, 1) := by decide +kernel
theorem dX6_flipped_23 : decode cX6_flipped 23 = .ok (.ireturn, 1) := by decide +kernel
theorem dX6_undo_0 : decode cX6_undo 0 = .ok (.iload_n 1, 1) := by decide +kernel
theorem dX6_undo_1 : decode cX6_undo 1 = .ok (.iconst 0, 1) := by decide +kernel
theorem dX6_undo_2 : decode cX6_undo 2 = .ok (.aload_n 0, 1) := by decide +kernel
theorem dX6_undo_3 : decode cX6_undo 3 = .ok (.getfield 97, 3) := by decide +kernel
theorem dX6_undo_6 : decode cX6_undo 6 = .ok (.invokestatic 64, 3) := by decide +kernel
theorem dX6_undo_9 : decode cX6_undo 9 = .ok (.ifCond .ne 5, 3) := by decide +kernel
theorem dX6_undo_12 : decode cX6_undo 12 = .ok (.iconst (-1), 1) := by decide +kernel
theorem dX6_undo_13 : decode cX6_undo 13 = .ok (.ireturn, 1) := by decide +kernel
theorem dX6_undo_14 : decode cX6_undo 14 = .ok (.aload_n 0, 1) := by decide +kernel
theorem dX6_undo_15 : decode cX6_undo 15 = .ok (.getfield 97, 3) := by decide +kernel
theorem dX6_undo_18 : decode cX6_undo 18 = .ok (.iload_n 1, 1) := by decide +kernel
theorem dX6_undo_19 : decode cX6_undo 19 = .ok (.isub, 1) := by decide +kernel
theorem dX6_undo_20 : decode cX6_undo 20 = .ok (.istore_n 2, 1) := by decide +kernel
theorem dX6_undo_21 : decode cX6_undo 21 = .ok (.aload_n 0, 1) := by decide +kernel
theorem dX6_undo_22 : decode cX6_undo 22 = .ok (.iload_n 1, 1) := by decide +kernel
theorem dX6_undo_23 : decode cX6_undo 23 = .ok (.putfield 97, 3) := by decide +kernel
theorem dX6_undo_26 : decode cX6_undo 26 = .ok (.iload_n 2, 1) := by decide +kernel
theorem dX6_undo_27 : decode cX6_undo 27 = .ok (.ireturn, 1) := by decide +kernel
theorem dX6_keep_0 : decode cX6_keep 0 = .ok (.iload_n 1, 1) := by decide +kernel
theorem dX6_keep_1 : decode cX6_keep 1 = .ok (.iconst 0, 1) := by decide +kernel
theorem dX6_keep_2 : decode cX6_keep 2 = .ok (.iconst 2, 1) := by decide +kernel
theorem dX6_keep_3 : decode cX6_keep 3 = .ok (.invokestatic 64, 3) := by decide +kernel
theorem dX6_keep_6 : decode cX6_keep 6 = .ok (.ifCond .ne 5, 3) := by decide +kernel
theorem dX6_keep_9 : decode cX6_keep 9 = .ok (.iconst (-1), 1) := by decide +kernel
theorem dX6_keep_10 : decode cX6_keep 10 = .ok (.ireturn, 1) := by decide +kernel
theorem dX6_keep_11 : decode cX6_keep 11 = .ok (.aload_n 0, 1) := by decide +kernel
theorem dX6_keep_12 : decode cX6_keep 12 = .ok (.getfield 94, 3) := by decide +kernel
theorem dX6_keep_15 : decode cX6_keep 15 = .ok (.ifCond .ne 6, 3) := by decide +kernel
theorem dX6_keep_18 : decode cX6_keep 18 = .ok (.bipush (-4), 2) := by decide +kernel
theorem dX6_keep_20 : decode cX6_keep 20 = .ok (.ireturn, 1) := by decide +kernel
theorem dX6_keep_21 : decode cX6_keep 21 = .ok (.iconst 0, 1) := by decide +kernel
theorem dX6_keep_22 : decode cX6_keep 22 = .ok (.istore_n 2, 1) := by decide +kernel
theorem dX6_keep_23 : decode cX6_keep 23 = .ok (.iload_n 2, 1) := by decide +kernel
theorem dX6_keep_24 : decode cX6_keep 24 = .ok (.sipush 451, 3) := by decide +kernel
theorem dX6_keep_27 : decode cX6_keep 27 = .ok (.if_icmp .ge 27, 3) := by decide +kernel
theorem dX6_keep_30 : decode cX6_keep 30 = .ok (.aload_n 0, 1) := by decide +kernel
theorem dX6_keep_31 : decode cX6_keep 31 = .ok (.getfield 42, 3) := by decide +kernel
theorem dX6_keep_34 : decode cX6_keep 34 = .ok (.sipush 451, 3) := by decide +kernel
theorem dX6_keep_37 : decode cX6_keep 37 = .ok (.iload_n 1, 1) := by decide +kernel
theorem dX6_keep_38 : decode cX6_keep 38 = .ok (.imul, 1) := by decide +kernel
theorem dX6_keep_39 : decode cX6_keep 39 = .ok (.iload_n 2, 1) := by decide +kernel
theorem dX6_keep_40 : decode cX6_keep 40 = .ok (.iadd, 1) := by decide +kernel
theorem dX6_keep_41 : decode cX6_keep 41 = .ok (.aload_n 0, 1) := by decide +kernel
theorem dX6_keep_42 : decode cX6_keep 42 = .ok (.getfield 39, 3) := by decide +kernel
theorem dX6_keep_45 : decode cX6_keep 45 = .ok (.iload_n 2, 1) := by decide +kernel
theorem dX6_keep_46 : decode cX6_keep 46 = .ok (.iaload, 1) := by decide +kernel
theorem dX6_keep_47 : decode cX6_keep 47 = .ok (.iastore, 1) := by decide +kernel
theorem dX6_keep_48 : decode cX6_keep 48 = .ok (.iinc 2 1, 3) := by decide +kernel
theorem dX6_keep_51 : decode cX6_keep 51 = .ok (.goto (-28), 3) := by decide +kernel
theorem dX6_keep_54 : decode cX6_keep 54 = .ok (.aload_n 0, 1) := by decide +kernel
theorem dX6_keep_55 : decode cX6_keep 55 = .ok (.getfield 45, 3) := by decide +kernel
theorem dX6_keep_58 : decode cX6_keep 58 = .ok (.iload_n 1, 1) := by decide +kernel
theorem dX6_keep_59 : decode cX6_keep 59 = .ok (.aload_n 0, 1) := by decide +kernel
theorem dX6_keep_60 : decode cX6_keep 60 = .ok (.getfield 97, 3) := by decide +kernel
theorem dX6_keep_63 : decode cX6_keep 63 = .ok (.iastore, 1) := by decide +kernel
theorem dX6_keep_64 : decode cX6_keep 64 = .ok (.aload_n 0, 1) := by decide +kernel
theorem dX6_keep_65 : decode cX6_keep 65 = .ok (.getfield 97, 3) := by decide +kernel
theorem dX6_keep_68 : decode cX6_keep 68 = .ok (.ireturn, 1) := by decide +kernel
theorem dX6_on_0 : decode cX6_on 0 = .ok (.iload_n 1, 1) := by decide +kernel
theorem dX6_on_1 : decode cX6_on 1 = .ok (.iconst 0, 1) := by decide +kernel
theorem dX6_on_2 : decode cX6_on 2 = .ok (.iconst 2, 1) := by decide +kernel
theorem dX6_on_3 : decode cX6_on 3 = .ok (.invokestatic 64, 3) := by decide +kernel
theorem dX6_on_6 : decode cX6_on 6 = .ok (.ifCond .ne 5, 3) := by decide +kernel
theorem dX6_on_9 : decode cX6_on 9 = .ok (.iconst (-1), 1) := by decide +kernel
theorem dX6_on_10 : decode cX6_on 10 = .ok (.ireturn, 1) := by decide +kernel
theorem dX6_on_11 : decode cX6_on 11 = .ok (.aload_n 0, 1) := by decide +kernel
theorem dX6_on_12 : decode cX6_on 12 = .ok (.getfield 45, 3) := by decide +kernel
theorem dX6_on_15 : decode cX6_on 15 = .ok (.iload_n 1, 1) := by decide +kernel
theorem dX6_on_16 : decode cX6_on 16 = .ok (.iaload, 1) := by decide +kernel
theorem dX6_on_17 : decode cX6_on 17 = .ok (.ifCond .ge 9, 3) := by decide +kernel
theorem dX6_on_20 : decode cX6_on 20 = .ok (.aload_n 0, 1) := by decide +kernel
theorem dX6_on_21 : decode cX6_on 21 = .ok (.iconst 1, 1) := by decide +kernel
theorem dX6_on_22 : decode cX6_on 22 = .ok (.invokevirtual 72, 3) := by decide +kernel
theorem dX6_on_25 : decode cX6_on 25 = .ok (.ireturn, 1) := by decide +kernel
theorem dX6_on_26 : decode cX6_on 26 = .ok (.iconst 0, 1) := by decide +kernel
theorem dX6_on_27 : decode cX6_on 27 = .ok (.istore_n 2, 1) := by decide +kernel
theorem dX6_on_28 : decode cX6_on 28 = .ok (.iload_n 2, 1) := by decide +kernel
theorem dX6_on_29 : decode cX6_on 29 = .ok (.sipush 451, 3) := by decide +kernel
theorem dX6_on_32 : decode cX6_on 32 = .ok (.if_icmp .ge 27, 3) := by decide +kernel
theorem dX6_on_35 : decode cX6_on 35 = .ok (.aload_n 0, 1) := by decide +kernel
theorem dX6_on_36 : decode cX6_on 36 = .ok (.getfield 39, 3) := by decide +kernel
theorem dX6_on_39 : decode cX6_on 39 = .ok (.iload_n 2, 1) := by decide +kernel
theorem dX6_on_40 : decode cX6_on 40 = .ok (.aload_n 0, 1) := by decide +kernel
theorem dX6_on_41 : decode cX6_on 41 = .ok (.getfield 42, 3) := by decide +kernel
theorem dX6_on_44 : decode cX6_on 44 = .ok (.sipush 451, 3) := by decide +kernel
theorem dX6_on_47 : decode cX6_on 47 = .ok (.iload_n 1, 1) := by decide +kernel
theorem dX6_on_48 : decode cX6_on 48 = .ok (.imul, 1) := by decide +kernel
theorem dX6_on_49 : decode cX6_on 49 = .ok (.iload_n 2, 1) := by decide +kernel
theorem dX6_on_50 : decode cX6_on 50 = .ok (.iadd, 1) := by decide +kernel
theorem dX6_on_51 : decode cX6_on 51 = .ok (.iaload, 1) := by decide +kernel
theorem dX6_on_52 : decode cX6_on 52 = .ok (.iastore, 1) := by decide +kernel
theorem dX6_on_53 : decode cX6_on 53 = .ok (.iinc 2 1, 3) := by decide +kernel
theorem dX6_on_56 : decode cX6_on 56 = .ok (.goto (-28), 3) := by decide +kernel
theorem dX6_on_59 : decode cX6_on 59 = .ok (.aload_n 0, 1) := by decide +kernel
theorem dX6_on_60 : decode cX6_on 60 = .ok (.aload_n 0, 1) := by decide +kernel
theorem dX6_on_61 : decode cX6_on 61 = .ok (.getfield 45, 3) := by decide +kernel
theorem dX6_on_64 : decode cX6_on 64 = .ok (.iload_n 1, 1) := by decide +kernel
theorem dX6_on_65 : decode cX6_on 65 = .ok (.iaload, 1) := by decide +kernel
theorem dX6_on_66 : decode cX6_on 66 = .ok (.putfield 97, 3) := by decide +kernel
theorem dX6_on_69 : decode cX6_on 69 = .ok (.aload_n 0, 1) := by decide +kernel
theorem dX6_on_70 : decode cX6_on 70 = .ok (.getfield 97, 3) := by decide +kernel
theorem dX6_on_73 : decode cX6_on 73 = .ok (.ireturn, 1) := by decide +kernel
theorem dX6_touched_0 : decode cX6_touched 0 = .ok (.aload_n 0, 1) := by decide +kernel
theorem dX6_touched_1 : decode cX6_touched 1 = .ok (.iload_n 1, 1) := by decide +kernel
theorem dX6_touched_2 : decode cX6_touched 2 = .ok (.invokevirtual 128, 3) := by decide +kernel
theorem dX6_touched_5 : decode cX6_touched 5 = .ok (.ifCond .eq 43, 3) := by decide +kernel
theorem dX6_touched_8 : decode cX6_touched 8 = .ok (.iload_n 2, 1) := by decide +kernel
theorem dX6_touched_9 : decode cX6_touched 9 = .ok (.iconst 0, 1) := by decide +kernel
theorem dX6_touched_10 : decode cX6_touched 10 = .ok (.aload_n 0, 1) := by decide +kernel
theorem dX6_touched_11 : decode cX6_touched 11 = .ok (.getfield 33, 3) := by decide +kernel
theorem dX6_touched_14 : decode cX6_touched 14 = .ok (.iload_n 1, 1) := by decide +kernel
theorem dX6_touched_15 : decode cX6_touched 15 = .ok (.iaload, 1) := by decide +kernel
theorem dX6_touched_16 : decode cX6_touched 16 = .ok (.invokestatic 88, 3) := by decide +kernel
theorem dX6_touched_19 : decode cX6_touched 19 = .ok (.iconst 1, 1) := by decide +kernel
theorem dX6_touched_20 : decode cX6_touched 20 = .ok (.isub, 1) := by decide +kernel
theorem dX6_touched_21 : decode cX6_touched 21 = .ok (.invokestatic 64, 3) := by decide +kernel
theorem dX6_touched_24 : decode cX6_touched 24 = .ok (.ifCond .eq 24, 3) := by decide +kernel
theorem dX6_touched_27 : decode cX6_touched 27 = .ok (.iload_n 3, 1) := by decide +kernel
theorem dX6_touched_28 : decode cX6_touched 28 = .ok (.iconst 0, 1) := by decide +kernel
theorem dX6_touched_29 : decode cX6_touched 29 = .ok (.iconst 1, 1) := by decide +kernel
theorem dX6_touched_30 : decode cX6_touched 30 = .ok (.invokestatic 64, 3) := by decide +kernel
theorem dX6_touched_33 : decode cX6_touched 33 = .ok (.ifCond .eq 15, 3) := by decide +kernel
theorem dX6_touched_36 : decode cX6_touched 36 = .ok (.iload 4, 2) := by decide +kernel
theorem dX6_touched_38 : decode cX6_touched 38 = .ok (.iconst 0, 1) := by decide +kernel
theorem dX6_touched_39 : decode cX6_touched 39 = .ok (.sipush 999, 3) := by decide +kernel
theorem dX6_touched_42 : decode cX6_touched 42 = .ok (.invokestatic 64, 3) := by decide +kernel
theorem dX6_touched_45 : decode cX6_touched 45 = .ok (.ifCond .ne 5, 3) := by decide +kernel
theorem dX6_touched_48 : decode cX6_touched 48 = .ok (.iconst (-1), 1) := by decide +kernel
theorem dX6_touched_49 : decode cX6_touched 49 = .ok (.ireturn, 1) := by decide +kernel
theorem dX6_touched_50 : decode cX6_touched 50 = .ok (.aload_n 0, 1) := by decide +kernel
theorem dX6_touched_51 : decode cX6_touched 51 = .ok (.getfield 33, 3) := by decide +kernel
theorem dX6_touched_54 : decode cX6_touched 54 = .ok (.iload_n 1, 1) := by decide +kernel
theorem dX6_touched_55 : decode cX6_touched 55 = .ok (.iaload, 1) := by decide +kernel
theorem dX6_touched_56 : decode cX6_touched 56 = .ok (.iload_n 2, 1) := by decide +kernel
theorem dX6_touched_57 : decode cX6_touched 57 = .ok (.iload_n 3, 1) := by decide +kernel
theorem dX6_touched_58 : decode cX6_touched 58 = .ok (.iconst 1, 1) := by decide +kernel
theorem dX6_touched_59 : decode cX6_touched 59 = .ok (.if_icmp .ne 7, 3) := by decide +kernel
theorem dX6_touched_62 : decode cX6_touched 62 = .ok (.iconst 1, 1) := by decide +kernel
theorem dX6_touched_63 : decode cX6_touched 63 = .ok (.goto 4, 3) := by decide +kernel
theorem dX6_touched_66 : decode cX6_touched 66 = .ok (.iconst 0, 1) := by decide +kernel
theorem dX6_touched_67 : decode cX6_touched 67 = .ok (.iload 4, 2) := by decide +kernel
theorem dX6_touched_69 : decode cX6_touched 69 = .ok (.invokestatic 114, 3) := by decide +kernel
theorem dX6_touched_72 : decode cX6_touched 72 = .ok (.ireturn, 1) := by decide +kernel
theorem dX6_shows_0 : decode cX6_shows 0 = .ok (.aload_n 0, 1) := by decide +kernel
theorem dX6_shows_1 : decode cX6_shows 1 = .ok (.getfield 94, 3) := by decide +kernel
theorem dX6_shows_4 : decode cX6_shows 4 = .ok (.ifCond .ne 6, 3) := by decide +kernel
theorem dX6_shows_7 : decode cX6_shows 7 = .ok (.bipush (-4), 2) := by decide +kernel
theorem dX6_shows_9 : decode cX6_shows 9 = .ok (.ireturn, 1) := by decide +kernel
theorem dX6_shows_10 : decode cX6_shows 10 = .ok (.iload_n 1, 1) := by decide +kernel
theorem dX6_shows_11 : decode cX6_shows 11 = .ok (.invokestatic 68, 3) := by decide +kernel
theorem dX6_shows_14 : decode cX6_shows 14 = .ok (.ifCond .ne 5, 3) := by decide +kernel
theorem dX6_shows_17 : decode cX6_shows 17 = .ok (.iconst (-1), 1) := by decide +kernel
theorem dX6_shows_18 : decode cX6_shows 18 = .ok (.ireturn, 1) := by decide +kernel
theorem dX6_shows_19 : decode cX6_shows 19 = .ok (.aload_n 0, 1) := by decide +kernel
theorem dX6_shows_20 : decode cX6_shows 20 = .ok (.getfield 17, 3) := by decide +kernel
theorem dX6_shows_23 : decode cX6_shows 23 = .ok (.iload_n 1, 1) := by decide +kernel
theorem dX6_shows_24 : decode cX6_shows 24 = .ok (.iaload, 1) := by decide +kernel
theorem dX6_shows_25 : decode cX6_shows 25 = .ok (.ifCond .ge 9, 3) := by decide +kernel
theorem dX6_shows_28 : decode cX6_shows 28 = .ok (.aload_n 0, 1) := by decide +kernel
theorem dX6_shows_29 : decode cX6_shows 29 = .ok (.iconst 1, 1) := by decide +kernel
theorem dX6_shows_30 : decode cX6_shows 30 = .ok (.invokevirtual 72, 3) := by decide +kernel
theorem dX6_shows_33 : decode cX6_shows 33 = .ok (.ireturn, 1) := by decide +kernel
theorem dX6_shows_34 : decode cX6_shows 34 = .ok (.aload_n 0, 1) := by decide +kernel
theorem dX6_shows_35 : decode cX6_shows 35 = .ok (.getfield 17, 3) := by decide +kernel
theorem dX6_shows_38 : decode cX6_shows 38 = .ok (.iload_n 1, 1) := by decide +kernel
theorem dX6_shows_39 : decode cX6_shows 39 = .ok (.iaload, 1) := by decide +kernel
theorem dX6_shows_40 : decode cX6_shows 40 = .ok (.bipush 20, 2) := by decide +kernel
theorem dX6_shows_42 : decode cX6_shows 42 = .ok (.if_icmp .le 9, 3) := by decide +kernel
theorem dX6_shows_45 : decode cX6_shows 45 = .ok (.aload_n 0, 1) := by decide +kernel
theorem dX6_shows_46 : decode cX6_shows 46 = .ok (.iconst 5, 1) := by decide +kernel
theorem dX6_shows_47 : decode cX6_shows 47 = .ok (.invokevirtual 72, 3) := by decide +kernel
theorem dX6_shows_50 : decode cX6_shows 50 = .ok (.ireturn, 1) := by decide +kernel
theorem dX6_shows_51 : decode cX6_shows 51 = .ok (.iconst 1, 1) := by decide +kernel
theorem dX6_shows_52 : decode cX6_shows 52 = .ok (.istore_n 2, 1) := by decide +kernel
theorem dX6_shows_53 : decode cX6_shows 53 = .ok (.iconst 0, 1) := by decide +kernel
theorem dX6_shows_54 : decode cX6_shows 54 = .ok (.istore_n 3, 1) := by decide +kernel
theorem dX6_shows_55 : decode cX6_shows 55 = .ok (.iload_n 3, 1) := by decide +kernel
theorem dX6_shows_56 : decode cX6_shows 56 = .ok (.aload_n 0, 1) := by decide +kernel
theorem dX6_shows_57 : decode cX6_shows 57 = .ok (.getfield 17, 3) := by decide +kernel
theorem dX6_shows_60 : decode cX6_shows 60 = .ok (.iload_n 1, 1) := by decide +kernel
theorem dX6_shows_61 : decode cX6_shows 61 = .ok (.iaload, 1) := by decide +kernel
theorem dX6_shows_62 : decode cX6_shows 62 = .ok (.if_icmp .ge 36, 3) := by decide +kernel
theorem dX6_shows_65 : decode cX6_shows 65 = .ok (.iload_n 2, 1) := by decide +kernel
theorem dX6_shows_66 : decode cX6_shows 66 = .ok (.ifCond .eq 24, 3) := by decide +kernel
theorem dX6_shows_69 : decode cX6_shows 69 = .ok (.aload_n 0, 1) := by decide +kernel
theorem dX6_shows_70 : decode cX6_shows 70 = .ok (.getfield 20, 3) := by decide +kernel
theorem dX6_shows_73 : decode cX6_shows 73 = .ok (.bipush 40, 2) := by decide +kernel
theorem dX6_shows_75 : decode cX6_shows 75 = .ok (.iload_n 1, 1) := by decide +kernel
theorem dX6_shows_76 : decode cX6_shows 76 = .ok (.imul, 1) := by decide +kernel
theorem dX6_shows_77 : decode cX6_shows 77 = .ok (.iload_n 3, 1) := by decide +kernel
theorem dX6_shows_78 : decode cX6_shows 78 = .ok (.iadd, 1) := by decide +kernel
theorem dX6_shows_79 : decode cX6_shows 79 = .ok (.iaload, 1) := by decide +kernel
theorem dX6_shows_80 : decode cX6_shows 80 = .ok (.invokestatic 138, 3) := by decide +kernel
theorem dX6_shows_83 : decode cX6_shows 83 = .ok (.ifCond .eq 7, 3) := by decide +kernel
theorem dX6_shows_86 : decode cX6_shows 86 = .ok (.iconst 1, 1) := by decide +kernel
theorem dX6_shows_87 : decode cX6_shows 87 = .ok (.goto 4, 3) := by decide +kernel
theorem dX6_shows_90 : decode cX6_shows 90 = .ok (.iconst 0, 1) := by decide +kernel
theorem dX6_shows_91 : decode cX6_shows 91 = .ok (.istore_n 2, 1) := by decide +kernel
theorem dX6_shows_92 : decode cX6_shows 92 = .ok (.iinc 3 1, 3) := by decide +kernel
theorem dX6_shows_95 : decode cX6_shows 95 = .ok (.goto (-40), 3) := by decide +kernel
theorem dX6_shows_98 : decode cX6_shows 98 = .ok (.iload_n 2, 1) := by decide +kernel
theorem dX6_shows_99 : decode cX6_shows 99 = .ok (.ifCond .ne 9, 3) := by decide +kernel
theorem dX6_shows_102 : decode cX6_shows 102 = .ok (.aload_n 0, 1) := by decide +kernel
theorem dX6_shows_103 : decode cX6_shows 103 = .ok (.iconst 3, 1) := by decide +kernel
theorem dX6_shows_104 : decode cX6_shows 104 = .ok (.invokevirtual 72, 3) := by decide +kernel
theorem dX6_shows_107 : decode cX6_shows 107 = .ok (.ireturn, 1) := by decide +kernel
theorem dX6_shows_108 : decode cX6_shows 108 = .ok (.aload_n 0, 1) := by decide +kernel
theorem dX6_shows_109 : decode cX6_shows 109 = .ok (.invokevirtual 151, 3) := by decide +kernel
theorem dX6_shows_112 : decode cX6_shows 112 = .ok (.iconst 0, 1) := by decide +kernel
theorem dX6_shows_113 : decode cX6_shows 113 = .ok (.istore_n 3, 1) := by decide +kernel
theorem dX6_shows_114 : decode cX6_shows 114 = .ok (.iload_n 3, 1) := by decide +kernel
theorem dX6_shows_115 : decode cX6_shows 115 = .ok (.aload_n 0, 1) := by decide +kernel
theorem dX6_shows_116 : decode cX6_shows 116 = .ok (.getfield 17, 3) := by decide +kernel
theorem dX6_shows_119 : decode cX6_shows 119 = .ok (.iload_n 1, 1) := by decide +kernel
theorem dX6_shows_120 : decode cX6_shows 120 = .ok (.iaload, 1) := by decide +kernel
theorem dX6_shows_121 : decode cX6_shows 121 = .ok (.if_icmp .ge 30, 3) := by decide +kernel
theorem dX6_shows_124 : decode cX6_shows 124 = .ok (.aload_n 0, 1) := by decide +kernel
theorem dX6_shows_125 : decode cX6_shows 125 = .ok (.aload_n 0, 1) := by decide +kernel
theorem dX6_shows_126 : decode cX6_shows 126 = .ok (.getfield 48, 3) := by decide +kernel
theorem dX6_shows_129 : decode cX6_shows 129 = .ok (.iconst 0, 1) := by decide +kernel
theorem dX6_shows_130 : decode cX6_shows 130 = .ok (.aload_n 0, 1) := by decide +kernel
theorem dX6_shows_131 : decode cX6_shows 131 = .ok (.getfield 20, 3) := by decide +kernel
theorem dX6_shows_134 : decode cX6_shows 134 = .ok (.bipush 40, 2) := by decide +kernel
theorem dX6_shows_136 : decode cX6_shows 136 = .ok (.iload_n 1, 1) := by decide +kernel
theorem dX6_shows_137 : decode cX6_shows 137 = .ok (.imul, 1) := by decide +kernel
theorem dX6_shows_138 : decode cX6_shows 138 = .ok (.iload_n 3, 1) := by decide +kernel
theorem dX6_shows_139 : decode cX6_shows 139 = .ok (.iadd, 1) := by decide +kernel
theorem dX6_shows_140 : decode cX6_shows 140 = .ok (.iaload, 1) := by decide +kernel
theorem dX6_shows_141 : decode cX6_shows 141 = .ok (.iconst 0, 1) := by decide +kernel
theorem dX6_shows_142 : decode cX6_shows 142 = .ok (.invokevirtual 144, 3) := by decide +kernel
theorem dX6_shows_145 : decode cX6_shows 145 = .ok (.iinc 3 1, 3) := by decide +kernel
theorem dX6_shows_148 : decode cX6_shows 148 = .ok (.goto (-34), 3) := by decide +kernel
theorem dX6_shows_151 : decode cX6_shows 151 = .ok (.aload_n 0, 1) := by decide +kernel
theorem dX6_shows_152 : decode cX6_shows 152 = .ok (.aload_n 0, 1) := by decide +kernel
theorem dX6_shows_153 : decode cX6_shows 153 = .ok (.getfield 48, 3) := by decide +kernel
theorem dX6_shows_156 : decode cX6_shows 156 = .ok (.iconst 0, 1) := by decide +kernel
theorem dX6_shows_157 : decode cX6_shows 157 = .ok (.invokevirtual 110, 3) := by decide +kernel
theorem dX6_shows_160 : decode cX6_shows 160 = .ok (.ireturn, 1) := by decide +kernel
theorem dX6_shownBehind_0 : decode cX6_shownBehind 0 = .ok (.aload_n 0, 1) := by decide +kernel
theorem dX6_shownBehind_1 : decode cX6_shownBehind 1 = .ok (.invokevirtual 151, 3) := by decide +kernel
theorem dX6_shownBehind_4 : decode cX6_shownBehind 4 = .ok (.aload_n 0, 1) := by decide +kernel
theorem dX6_shownBehind_5 : decode cX6_shownBehind 5 = .ok (.aload_n 0, 1) := by decide +kernel
theorem dX6_shownBehind_6 : decode cX6_shownBehind 6 = .ok (.getfield 48, 3) := by decide +kernel
theorem dX6_shownBehind_9 : decode cX6_shownBehind 9 = .ok (.iconst 0, 1) := by decide +kernel
theorem dX6_shownBehind_10 : decode cX6_shownBehind 10 = .ok (.iload_n 1, 1) := by decide +kernel
theorem dX6_shownBehind_11 : decode cX6_shownBehind 11 = .ok (.iconst 0, 1) := by decide +kernel
theorem dX6_shownBehind_12 : decode cX6_shownBehind 12 = .ok (.invokevirtual 144, 3) := by decide +kernel
theorem dX6_shownBehind_15 : decode cX6_shownBehind 15 = .ok (.aload_n 0, 1) := by decide +kernel
theorem dX6_shownBehind_16 : decode cX6_shownBehind 16 = .ok (.aload_n 0, 1) := by decide +kernel
theorem dX6_shownBehind_17 : decode cX6_shownBehind 17 = .ok (.getfield 48, 3) := by decide +kernel
theorem dX6_shownBehind_20 : decode cX6_shownBehind 20 = .ok (.iconst 0, 1) := by decide +kernel
theorem dX6_shownBehind_21 : decode cX6_shownBehind 21 = .ok (.invokevirtual 110, 3) := by decide +kernel
theorem dX6_shownBehind_24 : decode cX6_shownBehind 24 = .ok (.ireturn, 1) := by decide +kernel
theorem dX6_most_0 : decode cX6_most 0 = .ok (.aload_n 0, 1) := by decide +kernel
theorem dX6_most_1 : decode cX6_most 1 = .ok (.getfield 94, 3) := by decide +kernel
theorem dX6_most_4 : decode cX6_most 4 = .ok (.ifCond .ne 6, 3) := by decide +kernel
theorem dX6_most_7 : decode cX6_most 7 = .ok (.bipush (-4), 2) := by decide +kernel
theorem dX6_most_9 : decode cX6_most 9 = .ok (.ireturn, 1) := by decide +kernel
theorem dX6_most_10 : decode cX6_most 10 = .ok (.bipush (-9), 2) := by decide +kernel
theorem dX6_most_12 : decode cX6_most 12 = .ok (.istore_n 1, 1) := by decide +kernel
theorem dX6_most_13 : decode cX6_most 13 = .ok (.bipush (-9), 2) := by decide +kernel
theorem dX6_most_15 : decode cX6_most 15 = .ok (.istore_n 2, 1) := by decide +kernel
theorem dX6_most_16 : decode cX6_most 16 = .ok (.iconst 0, 1) := by decide +kernel
theorem dX6_most_17 : decode cX6_most 17 = .ok (.istore_n 3, 1) := by decide +kernel
theorem dX6_most_18 : decode cX6_most 18 = .ok (.iload_n 3, 1) := by decide +kernel
theorem dX6_most_19 : decode cX6_most 19 = .ok (.bipush 9, 2) := by decide +kernel
theorem dX6_most_21 : decode cX6_most 21 = .ok (.if_icmp .ge 44, 3) := by decide +kernel
theorem dX6_most_24 : decode cX6_most 24 = .ok (.aload_n 0, 1) := by decide +kernel
theorem dX6_most_25 : decode cX6_most 25 = .ok (.iload_n 3, 1) := by decide +kernel
theorem dX6_most_26 : decode cX6_most 26 = .ok (.invokevirtual 154, 3) := by decide +kernel
theorem dX6_most_29 : decode cX6_most 29 = .ok (.invokestatic 135, 3) := by decide +kernel
theorem dX6_most_32 : decode cX6_most 32 = .ok (.istore 4, 2) := by decide +kernel
theorem dX6_most_34 : decode cX6_most 34 = .ok (.iload 4, 2) := by decide +kernel
theorem dX6_most_36 : decode cX6_most 36 = .ok (.iload_n 2, 1) := by decide +kernel
theorem dX6_most_37 : decode cX6_most 37 = .ok (.if_icmp .le 7, 3) := by decide +kernel
theorem dX6_most_40 : decode cX6_most 40 = .ok (.iload_n 3, 1) := by decide +kernel
theorem dX6_most_41 : decode cX6_most 41 = .ok (.goto 4, 3) := by decide +kernel
theorem dX6_most_44 : decode cX6_most 44 = .ok (.iload_n 1, 1) := by decide +kernel
theorem dX6_most_45 : decode cX6_most 45 = .ok (.istore_n 1, 1) := by decide +kernel
theorem dX6_most_46 : decode cX6_most 46 = .ok (.iload 4, 2) := by decide +kernel
theorem dX6_most_48 : decode cX6_most 48 = .ok (.iload_n 2, 1) := by decide +kernel
theorem dX6_most_49 : decode cX6_most 49 = .ok (.if_icmp .le 8, 3) := by decide +kernel
theorem dX6_most_52 : decode cX6_most 52 = .ok (.iload 4, 2) := by decide +kernel
theorem dX6_most_54 : decode cX6_most 54 = .ok (.goto 4, 3) := by decide +kernel
theorem dX6_most_57 : decode cX6_most 57 = .ok (.iload_n 2, 1) := by decide +kernel
theorem dX6_most_58 : decode cX6_most 58 = .ok (.istore_n 2, 1) := by decide +kernel
theorem dX6_most_59 : decode cX6_most 59 = .ok (.iinc 3 1, 3) := by decide +kernel
theorem dX6_most_62 : decode cX6_most 62 = .ok (.goto (-44), 3) := by decide +kernel
theorem dX6_most_65 : decode cX6_most 65 = .ok (.aload_n 0, 1) := by decide +kernel
theorem dX6_most_66 : decode cX6_most 66 = .ok (.iload_n 2, 1) := by decide +kernel
theorem dX6_most_67 : decode cX6_most 67 = .ok (.invokevirtual 76, 3) := by decide +kernel
theorem dX6_most_70 : decode cX6_most 70 = .ok (.pop, 1) := by decide +kernel
theorem dX6_most_71 : decode cX6_most 71 = .ok (.iload_n 1, 1) := by decide +kernel
theorem dX6_most_72 : decode cX6_most 72 = .ok (.ireturn, 1) := by decide +kernel
theorem dX6_shownByCode_0 : decode cX6_shownByCode 0 = .ok (.aload_n 0, 1) := by decide +kernel
theorem dX6_shownByCode_1 : decode cX6_shownByCode 1 = .ok (.invokevirtual 151, 3) := by decide +kernel
theorem dX6_shownByCode_4 : decode cX6_shownByCode 4 = .ok (.iconst 1, 1) := by decide +kernel
theorem dX6_shownByCode_5 : decode cX6_shownByCode 5 = .ok (.istore_n 3, 1) := by decide +kernel
theorem dX6_shownByCode_6 : decode cX6_shownByCode 6 = .ok (.iconst 1, 1) := by decide +kernel
theorem dX6_shownByCode_7 : decode cX6_shownByCode 7 = .ok (.istore 4, 2) := by decide +kernel
theorem dX6_shownByCode_9 : decode cX6_shownByCode 9 = .ok (.iload 4, 2) := by decide +kernel
theorem dX6_shownByCode_11 : decode cX6_shownByCode 11 = .ok (.iload_n 2, 1) := by decide +kernel
theorem dX6_shownByCode_12 : decode cX6_shownByCode 12 = .ok (.if_icmp .ge 14, 3) := by decide +kernel
theorem dX6_shownByCode_15 : decode cX6_shownByCode 15 = .ok (.iload_n 3, 1) := by decide +kernel
theorem dX6_shownByCode_16 : decode cX6_shownByCode 16 = .ok (.bipush 9, 2) := by decide +kernel
theorem dX6_shownByCode_18 : decode cX6_shownByCode 18 = .ok (.imul, 1) := by decide +kernel
theorem dX6_shownByCode_19 : decode cX6_shownByCode 19 = .ok (.istore_n 3, 1) := by decide +kernel
theorem dX6_shownByCode_20 : decode cX6_shownByCode 20 = .ok (.iinc 4 1, 3) := by decide +kernel
theorem dX6_shownByCode_23 : decode cX6_shownByCode 23 = .ok (.goto (-14), 3) := by decide +kernel
theorem dX6_shownByCode_26 : decode cX6_shownByCode 26 = .ok (.iconst 0, 1) := by decide +kernel
theorem dX6_shownByCode_27 : decode cX6_shownByCode 27 = .ok (.istore 4, 2) := by decide +kernel
theorem dX6_shownByCode_29 : decode cX6_shownByCode 29 = .ok (.iload 4, 2) := by decide +kernel
theorem dX6_shownByCode_31 : decode cX6_shownByCode 31 = .ok (.iload_n 2, 1) := by decide +kernel
theorem dX6_shownByCode_32 : decode cX6_shownByCode 32 = .ok (.if_icmp .ge 30, 3) := by decide +kernel
theorem dX6_shownByCode_35 : decode cX6_shownByCode 35 = .ok (.aload_n 0, 1) := by decide +kernel
theorem dX6_shownByCode_36 : decode cX6_shownByCode 36 = .ok (.aload_n 0, 1) := by decide +kernel
theorem dX6_shownByCode_37 : decode cX6_shownByCode 37 = .ok (.getfield 48, 3) := by decide +kernel
theorem dX6_shownByCode_40 : decode cX6_shownByCode 40 = .ok (.iconst 0, 1) := by decide +kernel
theorem dX6_shownByCode_41 : decode cX6_shownByCode 41 = .ok (.iload_n 1, 1) := by decide +kernel
theorem dX6_shownByCode_42 : decode cX6_shownByCode 42 = .ok (.iload_n 3, 1) := by decide +kernel
theorem dX6_shownByCode_43 : decode cX6_shownByCode 43 = .ok (.idiv, 1) := by decide +kernel
theorem dX6_shownByCode_44 : decode cX6_shownByCode 44 = .ok (.bipush 9, 2) := by decide +kernel
theorem dX6_shownByCode_46 : decode cX6_shownByCode 46 = .ok (.irem, 1) := by decide +kernel
theorem dX6_shownByCode_47 : decode cX6_shownByCode 47 = .ok (.iconst 0, 1) := by decide +kernel
theorem dX6_shownByCode_48 : decode cX6_shownByCode 48 = .ok (.invokevirtual 144, 3) := by decide +kernel
theorem dX6_shownByCode_51 : decode cX6_shownByCode 51 = .ok (.iload_n 3, 1) := by decide +kernel
theorem dX6_shownByCode_52 : decode cX6_shownByCode 52 = .ok (.bipush 9, 2) := by decide +kernel
theorem dX6_shownByCode_54 : decode cX6_shownByCode 54 = .ok (.idiv, 1) := by decide +kernel
theorem dX6_shownByCode_55 : decode cX6_shownByCode 55 = .ok (.istore_n 3, 1) := by decide +kernel
theorem dX6_shownByCode_56 : decode cX6_shownByCode 56 = .ok (.iinc 4 1, 3) := by decide +kernel
theorem dX6_shownByCode_59 : decode cX6_shownByCode 59 = .ok (.goto (-30), 3) := by decide +kernel
theorem dX6_shownByCode_62 : decode cX6_shownByCode 62 = .ok (.aload_n 0, 1) := by decide +kernel
theorem dX6_shownByCode_63 : decode cX6_shownByCode 63 = .ok (.aload_n 0, 1) := by decide +kernel
theorem dX6_shownByCode_64 : decode cX6_shownByCode 64 = .ok (.getfield 48, 3) := by decide +kernel
theorem dX6_shownByCode_67 : decode cX6_shownByCode 67 = .ok (.iconst 0, 1) := by decide +kernel
theorem dX6_shownByCode_68 : decode cX6_shownByCode 68 = .ok (.invokevirtual 110, 3) := by decide +kernel
theorem dX6_shownByCode_71 : decode cX6_shownByCode 71 = .ok (.ireturn, 1) := by decide +kernel
theorem dX6_fewest_0 : decode cX6_fewest 0 = .ok (.aload_n 0, 1) := by decide +kernel
theorem dX6_fewest_1 : decode cX6_fewest 1 = .ok (.getfield 94, 3) := by decide +kernel
theorem dX6_fewest_4 : decode cX6_fewest 4 = .ok (.ifCond .ne 6, 3) := by decide +kernel
theorem dX6_fewest_7 : decode cX6_fewest 7 = .ok (.bipush (-4), 2) := by decide +kernel
theorem dX6_fewest_9 : decode cX6_fewest 9 = .ok (.ireturn, 1) := by decide +kernel
theorem dX6_fewest_10 : decode cX6_fewest 10 = .ok (.iload_n 1, 1) := by decide +kernel
theorem dX6_fewest_11 : decode cX6_fewest 11 = .ok (.invokestatic 157, 3) := by decide +kernel
theorem dX6_fewest_14 : decode cX6_fewest 14 = .ok (.ifCond .eq 10, 3) := by decide +kernel
theorem dX6_fewest_17 : decode cX6_fewest 17 = .ok (.iload_n 2, 1) := by decide +kernel
theorem dX6_fewest_18 : decode cX6_fewest 18 = .ok (.invokestatic 68, 3) := by decide +kernel
theorem dX6_fewest_21 : decode cX6_fewest 21 = .ok (.ifCond .ne 5, 3) := by decide +kernel
theorem dX6_fewest_24 : decode cX6_fewest 24 = .ok (.iconst (-1), 1) := by decide +kernel
theorem dX6_fewest_25 : decode cX6_fewest 25 = .ok (.ireturn, 1) := by decide +kernel
theorem dX6_fewest_26 : decode cX6_fewest 26 = .ok (.iconst 1, 1) := by decide +kernel
theorem dX6_fewest_27 : decode cX6_fewest 27 = .ok (.istore_n 3, 1) := by decide +kernel
theorem dX6_fewest_28 : decode cX6_fewest 28 = .ok (.iconst 0, 1) := by decide +kernel
theorem dX6_fewest_29 : decode cX6_fewest 29 = .ok (.istore 4, 2) := by decide +kernel
theorem dX6_fewest_31 : decode cX6_fewest 31 = .ok (.iload 4, 2) := by decide +kernel
theorem dX6_fewest_33 : decode cX6_fewest 33 = .ok (.iconst 4, 1) := by decide +kernel
theorem dX6_fewest_34 : decode cX6_fewest 34 = .ok (.if_icmp .gt 97, 3) := by decide +kernel
theorem dX6_fewest_37 : decode cX6_fewest 37 = .ok (.iconst 0, 1) := by decide +kernel
theorem dX6_fewest_38 : decode cX6_fewest 38 = .ok (.istore 5, 2) := by decide +kernel
theorem dX6_fewest_40 : decode cX6_fewest 40 = .ok (.iload 5, 2) := by decide +kernel
theorem dX6_fewest_42 : decode cX6_fewest 42 = .ok (.iload_n 3, 1) := by decide +kernel
theorem dX6_fewest_43 : decode cX6_fewest 43 = .ok (.if_icmp .ge 77, 3) := by decide +kernel
theorem dX6_fewest_46 : decode cX6_fewest 46 = .ok (.aload_n 0, 1) := by decide +kernel
theorem dX6_fewest_47 : decode cX6_fewest 47 = .ok (.iload 5, 2) := by decide +kernel
theorem dX6_fewest_49 : decode cX6_fewest 49 = .ok (.iload 4, 2) := by decide +kernel
theorem dX6_fewest_51 : decode cX6_fewest 51 = .ok (.invokevirtual 160, 3) := by decide +kernel
theorem dX6_fewest_54 : decode cX6_fewest 54 = .ok (.iload_n 1, 1) := by decide +kernel
theorem dX6_fewest_55 : decode cX6_fewest 55 = .ok (.if_icmp .ne 59, 3) := by decide +kernel
theorem dX6_fewest_58 : decode cX6_fewest 58 = .ok (.aload_n 0, 1) := by decide +kernel
theorem dX6_fewest_59 : decode cX6_fewest 59 = .ok (.iload_n 2, 1) := by decide +kernel
theorem dX6_fewest_60 : decode cX6_fewest 60 = .ok (.iload 4, 2) := by decide +kernel
theorem dX6_fewest_62 : decode cX6_fewest 62 = .ok (.invokevirtual 163, 3) := by decide +kernel
theorem dX6_fewest_65 : decode cX6_fewest 65 = .ok (.pop, 1) := by decide +kernel
theorem dX6_fewest_66 : decode cX6_fewest 66 = .ok (.iload 5, 2) := by decide +kernel
theorem dX6_fewest_68 : decode cX6_fewest 68 = .ok (.istore 6, 2) := by decide +kernel
theorem dX6_fewest_70 : decode cX6_fewest 70 = .ok (.iload 4, 2) := by decide +kernel
theorem dX6_fewest_72 : decode cX6_fewest 72 = .ok (.iconst 1, 1) := by decide +kernel
theorem dX6_fewest_73 : decode cX6_fewest 73 = .ok (.isub, 1) := by decide +kernel
theorem dX6_fewest_74 : decode cX6_fewest 74 = .ok (.istore 7, 2) := by decide +kernel
theorem dX6_fewest_76 : decode cX6_fewest 76 = .ok (.iload 7, 2) := by decide +kernel
theorem dX6_fewest_78 : decode cX6_fewest 78 = .ok (.ifCond .lt 33, 3) := by decide +kernel
theorem dX6_fewest_81 : decode cX6_fewest 81 = .ok (.aload_n 0, 1) := by decide +kernel
theorem dX6_fewest_82 : decode cX6_fewest 82 = .ok (.getfield 20, 3) := by decide +kernel
theorem dX6_fewest_85 : decode cX6_fewest 85 = .ok (.bipush 40, 2) := by decide +kernel
theorem dX6_fewest_87 : decode cX6_fewest 87 = .ok (.iload_n 2, 1) := by decide +kernel
theorem dX6_fewest_88 : decode cX6_fewest 88 = .ok (.imul, 1) := by decide +kernel
theorem dX6_fewest_89 : decode cX6_fewest 89 = .ok (.iload 7, 2) := by decide +kernel
theorem dX6_fewest_91 : decode cX6_fewest 91 = .ok (.iadd, 1) := by decide +kernel
theorem dX6_fewest_92 : decode cX6_fewest 92 = .ok (.iload 6, 2) := by decide +kernel
theorem dX6_fewest_94 : decode cX6_fewest 94 = .ok (.bipush 9, 2) := by decide +kernel
theorem dX6_fewest_96 : decode cX6_fewest 96 = .ok (.irem, 1) := by decide +kernel
theorem dX6_fewest_97 : decode cX6_fewest 97 = .ok (.iastore, 1) := by decide +kernel
theorem dX6_fewest_98 : decode cX6_fewest 98 = .ok (.iload 6, 2) := by decide +kernel
theorem dX6_fewest_100 : decode cX6_fewest 100 = .ok (.bipush 9, 2) := by decide +kernel
theorem dX6_fewest_102 : decode cX6_fewest 102 = .ok (.idiv, 1) := by decide +kernel
theorem dX6_fewest_103 : decode cX6_fewest 103 = .ok (.istore 6, 2) := by decide +kernel
theorem dX6_fewest_105 : decode cX6_fewest 105 = .ok (.iinc 7 (-1), 3) := by decide +kernel
theorem dX6_fewest_108 : decode cX6_fewest 108 = .ok (.goto (-32), 3) := by decide +kernel
theorem dX6_fewest_111 : decode cX6_fewest 111 = .ok (.iload 4, 2) := by decide +kernel
theorem dX6_fewest_113 : decode cX6_fewest 113 = .ok (.ireturn, 1) := by decide +kernel
theorem dX6_fewest_114 : decode cX6_fewest 114 = .ok (.iinc 5 1, 3) := by decide +kernel
theorem dX6_fewest_117 : decode cX6_fewest 117 = .ok (.goto (-77), 3) := by decide +kernel
theorem dX6_fewest_120 : decode cX6_fewest 120 = .ok (.iload_n 3, 1) := by decide +kernel
theorem dX6_fewest_121 : decode cX6_fewest 121 = .ok (.bipush 9, 2) := by decide +kernel
theorem dX6_fewest_123 : decode cX6_fewest 123 = .ok (.imul, 1) := by decide +kernel
theorem dX6_fewest_124 : decode cX6_fewest 124 = .ok (.istore_n 3, 1) := by decide +kernel
theorem dX6_fewest_125 : decode cX6_fewest 125 = .ok (.iinc 4 1, 3) := by decide +kernel
theorem dX6_fewest_128 : decode cX6_fewest 128 = .ok (.goto (-97), 3) := by decide +kernel
theorem dX6_fewest_131 : decode cX6_fewest 131 = .ok (.bipush (-9), 2) := by decide +kernel
theorem dX6_fewest_133 : decode cX6_fewest 133 = .ok (.ireturn, 1) := by decide +kernel
theorem dX6_isBy_0 : decode cX6_isBy 0 = .ok (.aload_n 0, 1) := by decide +kernel
theorem dX6_isBy_1 : decode cX6_isBy 1 = .ok (.invokevirtual 151, 3) := by decide +kernel
theorem dX6_isBy_4 : decode cX6_isBy 4 = .ok (.iconst 0, 1) := by decide +kernel
theorem dX6_isBy_5 : decode cX6_isBy 5 = .ok (.istore_n 3, 1) := by decide +kernel
theorem dX6_isBy_6 : decode cX6_isBy 6 = .ok (.iload_n 3, 1) := by decide +kernel
theorem dX6_isBy_7 : decode cX6_isBy 7 = .ok (.bipush 9, 2) := by decide +kernel
theorem dX6_isBy_9 : decode cX6_isBy 9 = .ok (.if_icmp .ge 28, 3) := by decide +kernel
theorem dX6_isBy_12 : decode cX6_isBy 12 = .ok (.iload_n 1, 1) := by decide +kernel
theorem dX6_isBy_13 : decode cX6_isBy 13 = .ok (.iload_n 3, 1) := by decide +kernel
theorem dX6_isBy_14 : decode cX6_isBy 14 = .ok (.invokestatic 104, 3) := by decide +kernel
theorem dX6_isBy_17 : decode cX6_isBy 17 = .ok (.ifCond .eq 14, 3) := by decide +kernel
theorem dX6_isBy_20 : decode cX6_isBy 20 = .ok (.aload_n 0, 1) := by decide +kernel
theorem dX6_isBy_21 : decode cX6_isBy 21 = .ok (.aload_n 0, 1) := by decide +kernel
theorem dX6_isBy_22 : decode cX6_isBy 22 = .ok (.getfield 48, 3) := by decide +kernel
theorem dX6_isBy_25 : decode cX6_isBy 25 = .ok (.iconst 0, 1) := by decide +kernel
theorem dX6_isBy_26 : decode cX6_isBy 26 = .ok (.iload_n 3, 1) := by decide +kernel
theorem dX6_isBy_27 : decode cX6_isBy 27 = .ok (.iconst 0, 1) := by decide +kernel
theorem dX6_isBy_28 : decode cX6_isBy 28 = .ok (.invokevirtual 144, 3) := by decide +kernel
theorem dX6_isBy_31 : decode cX6_isBy 31 = .ok (.iinc 3 1, 3) := by decide +kernel
theorem dX6_isBy_34 : decode cX6_isBy 34 = .ok (.goto (-28), 3) := by decide +kernel
theorem dX6_isBy_37 : decode cX6_isBy 37 = .ok (.aload_n 0, 1) := by decide +kernel
theorem dX6_isBy_38 : decode cX6_isBy 38 = .ok (.aload_n 0, 1) := by decide +kernel
theorem dX6_isBy_39 : decode cX6_isBy 39 = .ok (.getfield 48, 3) := by decide +kernel
theorem dX6_isBy_42 : decode cX6_isBy 42 = .ok (.iconst 0, 1) := by decide +kernel
theorem dX6_isBy_43 : decode cX6_isBy 43 = .ok (.invokevirtual 110, 3) := by decide +kernel
theorem dX6_isBy_46 : decode cX6_isBy 46 = .ok (.iload_n 2, 1) := by decide +kernel
theorem dX6_isBy_47 : decode cX6_isBy 47 = .ok (.if_icmp .ne 7, 3) := by decide +kernel
theorem dX6_isBy_50 : decode cX6_isBy 50 = .ok (.iconst 1, 1) := by decide +kernel
theorem dX6_isBy_51 : decode cX6_isBy 51 = .ok (.goto 4, 3) := by decide +kernel
theorem dX6_isBy_54 : decode cX6_isBy 54 = .ok (.iconst 0, 1) := by decide +kernel
theorem dX6_isBy_55 : decode cX6_isBy 55 = .ok (.ireturn, 1) := by decide +kernel
theorem dX6_ways_0 : decode cX6_ways 0 = .ok (.aload_n 0, 1) := by decide +kernel
theorem dX6_ways_1 : decode cX6_ways 1 = .ok (.getfield 94, 3) := by decide +kernel
theorem dX6_ways_4 : decode cX6_ways 4 = .ok (.ifCond .ne 6, 3) := by decide +kernel
theorem dX6_ways_7 : decode cX6_ways 7 = .ok (.bipush (-4), 2) := by decide +kernel
theorem dX6_ways_9 : decode cX6_ways 9 = .ok (.ireturn, 1) := by decide +kernel
theorem dX6_ways_10 : decode cX6_ways 10 = .ok (.iload_n 1, 1) := by decide +kernel
theorem dX6_ways_11 : decode cX6_ways 11 = .ok (.invokestatic 157, 3) := by decide +kernel
theorem dX6_ways_14 : decode cX6_ways 14 = .ok (.ifCond .ne 5, 3) := by decide +kernel
theorem dX6_ways_17 : decode cX6_ways 17 = .ok (.iconst (-1), 1) := by decide +kernel
theorem dX6_ways_18 : decode cX6_ways 18 = .ok (.ireturn, 1) := by decide +kernel
theorem dX6_ways_19 : decode cX6_ways 19 = .ok (.iconst 0, 1) := by decide +kernel
theorem dX6_ways_20 : decode cX6_ways 20 = .ok (.istore_n 2, 1) := by decide +kernel
theorem dX6_ways_21 : decode cX6_ways 21 = .ok (.bipush (-9), 2) := by decide +kernel
theorem dX6_ways_23 : decode cX6_ways 23 = .ok (.istore_n 3, 1) := by decide +kernel
theorem dX6_ways_24 : decode cX6_ways 24 = .ok (.sipush 511, 3) := by decide +kernel
theorem dX6_ways_27 : decode cX6_ways 27 = .ok (.istore 4, 2) := by decide +kernel
theorem dX6_ways_29 : decode cX6_ways 29 = .ok (.iload 4, 2) := by decide +kernel
theorem dX6_ways_31 : decode cX6_ways 31 = .ok (.ifCond .lt 25, 3) := by decide +kernel
theorem dX6_ways_34 : decode cX6_ways 34 = .ok (.aload_n 0, 1) := by decide +kernel
theorem dX6_ways_35 : decode cX6_ways 35 = .ok (.iload 4, 2) := by decide +kernel
theorem dX6_ways_37 : decode cX6_ways 37 = .ok (.iload_n 1, 1) := by decide +kernel
theorem dX6_ways_38 : decode cX6_ways 38 = .ok (.invokevirtual 166, 3) := by decide +kernel
theorem dX6_ways_41 : decode cX6_ways 41 = .ok (.ifCond .eq 9, 3) := by decide +kernel
theorem dX6_ways_44 : decode cX6_ways 44 = .ok (.iload 4, 2) := by decide +kernel
theorem dX6_ways_46 : decode cX6_ways 46 = .ok (.istore_n 3, 1) := by decide +kernel
theorem dX6_ways_47 : decode cX6_ways 47 = .ok (.iinc 2 1, 3) := by decide +kernel
theorem dX6_ways_50 : decode cX6_ways 50 = .ok (.iinc 4 (-1), 3) := by decide +kernel
theorem dX6_ways_53 : decode cX6_ways 53 = .ok (.goto (-24), 3) := by decide +kernel
theorem dX6_ways_56 : decode cX6_ways 56 = .ok (.aload_n 0, 1) := by decide +kernel
theorem dX6_ways_57 : decode cX6_ways 57 = .ok (.iload_n 2, 1) := by decide +kernel
theorem dX6_ways_58 : decode cX6_ways 58 = .ok (.i2l, 1) := by decide +kernel
theorem dX6_ways_59 : decode cX6_ways 59 = .ok (.putfield 61, 3) := by decide +kernel
theorem dX6_ways_62 : decode cX6_ways 62 = .ok (.aload_n 0, 1) := by decide +kernel
theorem dX6_ways_63 : decode cX6_ways 63 = .ok (.lconst 1, 1) := by decide +kernel
theorem dX6_ways_64 : decode cX6_ways 64 = .ok (.putfield 13, 3) := by decide +kernel
theorem dX6_ways_67 : decode cX6_ways 67 = .ok (.aload_n 0, 1) := by decide +kernel
theorem dX6_ways_68 : decode cX6_ways 68 = .ok (.iload_n 3, 1) := by decide +kernel
theorem dX6_ways_69 : decode cX6_ways 69 = .ok (.invokevirtual 76, 3) := by decide +kernel
theorem dX6_ways_72 : decode cX6_ways 72 = .ok (.ireturn, 1) := by decide +kernel
theorem dX6_sure_0 : decode cX6_sure 0 = .ok (.aload_n 0, 1) := by decide +kernel
theorem dX6_sure_1 : decode cX6_sure 1 = .ok (.getfield 94, 3) := by decide +kernel
theorem dX6_sure_4 : decode cX6_sure 4 = .ok (.ifCond .ne 6, 3) := by decide +kernel
theorem dX6_sure_7 : decode cX6_sure 7 = .ok (.bipush (-4), 2) := by decide +kernel
theorem dX6_sure_9 : decode cX6_sure 9 = .ok (.ireturn, 1) := by decide +kernel
theorem dX6_sure_10 : decode cX6_sure 10 = .ok (.iload_n 1, 1) := by decide +kernel
theorem dX6_sure_11 : decode cX6_sure 11 = .ok (.invokestatic 157, 3) := by decide +kernel
theorem dX6_sure_14 : decode cX6_sure 14 = .ok (.ifCond .ne 5, 3) := by decide +kernel
theorem dX6_sure_17 : decode cX6_sure 17 = .ok (.iconst (-1), 1) := by decide +kernel
theorem dX6_sure_18 : decode cX6_sure 18 = .ok (.ireturn, 1) := by decide +kernel
theorem dX6_sure_19 : decode cX6_sure 19 = .ok (.sipush 511, 3) := by decide +kernel
theorem dX6_sure_22 : decode cX6_sure 22 = .ok (.istore_n 2, 1) := by decide +kernel
theorem dX6_sure_23 : decode cX6_sure 23 = .ok (.iconst 0, 1) := by decide +kernel
theorem dX6_sure_24 : decode cX6_sure 24 = .ok (.istore_n 3, 1) := by decide +kernel
theorem dX6_sure_25 : decode cX6_sure 25 = .ok (.iconst 0, 1) := by decide +kernel
theorem dX6_sure_26 : decode cX6_sure 26 = .ok (.istore 4, 2) := by decide +kernel
theorem dX6_sure_28 : decode cX6_sure 28 = .ok (.iconst 0, 1) := by decide +kernel
theorem dX6_sure_29 : decode cX6_sure 29 = .ok (.istore 5, 2) := by decide +kernel
theorem dX6_sure_31 : decode cX6_sure 31 = .ok (.iload 5, 2) := by decide +kernel
theorem dX6_sure_33 : decode cX6_sure 33 = .ok (.sipush 512, 3) := by decide +kernel
theorem dX6_sure_36 : decode cX6_sure 36 = .ok (.if_icmp .ge 32, 3) := by decide +kernel
theorem dX6_sure_39 : decode cX6_sure 39 = .ok (.aload_n 0, 1) := by decide +kernel
theorem dX6_sure_40 : decode cX6_sure 40 = .ok (.iload 5, 2) := by decide +kernel
theorem dX6_sure_42 : decode cX6_sure 42 = .ok (.iload_n 1, 1) := by decide +kernel
theorem dX6_sure_43 : decode cX6_sure 43 = .ok (.invokevirtual 166, 3) := by decide +kernel
theorem dX6_sure_46 : decode cX6_sure 46 = .ok (.ifCond .eq 16, 3) := by decide +kernel
theorem dX6_sure_49 : decode cX6_sure 49 = .ok (.iload_n 2, 1) := by decide +kernel
theorem dX6_sure_50 : decode cX6_sure 50 = .ok (.iload 5, 2) := by decide +kernel
theorem dX6_sure_52 : decode cX6_sure 52 = .ok (.iand, 1) := by decide +kernel
theorem dX6_sure_53 : decode cX6_sure 53 = .ok (.istore_n 2, 1) := by decide +kernel
theorem dX6_sure_54 : decode cX6_sure 54 = .ok (.iload_n 3, 1) := by decide +kernel
theorem dX6_sure_55 : decode cX6_sure 55 = .ok (.iload 5, 2) := by decide +kernel
theorem dX6_sure_57 : decode cX6_sure 57 = .ok (.ior, 1) := by decide +kernel
theorem dX6_sure_58 : decode cX6_sure 58 = .ok (.istore_n 3, 1) := by decide +kernel
theorem dX6_sure_59 : decode cX6_sure 59 = .ok (.iconst 1, 1) := by decide +kernel
theorem dX6_sure_60 : decode cX6_sure 60 = .ok (.istore 4, 2) := by decide +kernel
theorem dX6_sure_62 : decode cX6_sure 62 = .ok (.iinc 5 1, 3) := by decide +kernel
theorem dX6_sure_65 : decode cX6_sure 65 = .ok (.goto (-34), 3) := by decide +kernel
theorem dX6_sure_68 : decode cX6_sure 68 = .ok (.iload 4, 2) := by decide +kernel
theorem dX6_sure_70 : decode cX6_sure 70 = .ok (.ifCond .ne 9, 3) := by decide +kernel
theorem dX6_sure_73 : decode cX6_sure 73 = .ok (.aload_n 0, 1) := by decide +kernel
theorem dX6_sure_74 : decode cX6_sure 74 = .ok (.iconst 4, 1) := by decide +kernel
theorem dX6_sure_75 : decode cX6_sure 75 = .ok (.invokevirtual 72, 3) := by decide +kernel
theorem dX6_sure_78 : decode cX6_sure 78 = .ok (.ireturn, 1) := by decide +kernel
theorem dX6_sure_79 : decode cX6_sure 79 = .ok (.aload_n 0, 1) := by decide +kernel
theorem dX6_sure_80 : decode cX6_sure 80 = .ok (.sipush 511, 3) := by decide +kernel
theorem dX6_sure_83 : decode cX6_sure 83 = .ok (.iload_n 3, 1) := by decide +kernel
theorem dX6_sure_84 : decode cX6_sure 84 = .ok (.iconst (-1), 1) := by decide +kernel
theorem dX6_sure_85 : decode cX6_sure 85 = .ok (.ixor, 1) := by decide +kernel
theorem dX6_sure_86 : decode cX6_sure 86 = .ok (.iand, 1) := by decide +kernel
theorem dX6_sure_87 : decode cX6_sure 87 = .ok (.invokevirtual 76, 3) := by decide +kernel
theorem dX6_sure_90 : decode cX6_sure 90 = .ok (.pop, 1) := by decide +kernel
theorem dX6_sure_91 : decode cX6_sure 91 = .ok (.iload_n 2, 1) := by decide +kernel
theorem dX6_sure_92 : decode cX6_sure 92 = .ok (.ireturn, 1) := by decide +kernel
theorem dX6_which_0 : decode cX6_which 0 = .ok (.aload_n 0, 1) := by decide +kernel
theorem dX6_which_1 : decode cX6_which 1 = .ok (.getfield 94, 3) := by decide +kernel
theorem dX6_which_4 : decode cX6_which 4 = .ok (.ifCond .ne 6, 3) := by decide +kernel
theorem dX6_which_7 : decode cX6_which 7 = .ok (.bipush (-4), 2) := by decide +kernel
theorem dX6_which_9 : decode cX6_which 9 = .ok (.ireturn, 1) := by decide +kernel
theorem dX6_which_10 : decode cX6_which 10 = .ok (.iload_n 1, 1) := by decide +kernel
theorem dX6_which_11 : decode cX6_which 11 = .ok (.invokestatic 157, 3) := by decide +kernel
theorem dX6_which_14 : decode cX6_which 14 = .ok (.ifCond .ne 5, 3) := by decide +kernel
theorem dX6_which_17 : decode cX6_which 17 = .ok (.iconst (-1), 1) := by decide +kernel
theorem dX6_which_18 : decode cX6_which 18 = .ok (.ireturn, 1) := by decide +kernel
theorem dX6_which_19 : decode cX6_which 19 = .ok (.iconst 0, 1) := by decide +kernel
theorem dX6_which_20 : decode cX6_which 20 = .ok (.istore_n 2, 1) := by decide +kernel
theorem dX6_which_21 : decode cX6_which 21 = .ok (.iconst 0, 1) := by decide +kernel
theorem dX6_which_22 : decode cX6_which 22 = .ok (.istore_n 3, 1) := by decide +kernel
theorem dX6_which_23 : decode cX6_which 23 = .ok (.iload_n 3, 1) := by decide +kernel
theorem dX6_which_24 : decode cX6_which 24 = .ok (.bipush 9, 2) := by decide +kernel
theorem dX6_which_26 : decode cX6_which 26 = .ok (.if_icmp .ge 28, 3) := by decide +kernel
theorem dX6_which_29 : decode cX6_which 29 = .ok (.iload_n 2, 1) := by decide +kernel
theorem dX6_which_30 : decode cX6_which 30 = .ok (.aload_n 0, 1) := by decide +kernel
theorem dX6_which_31 : decode cX6_which 31 = .ok (.iload_n 3, 1) := by decide +kernel
theorem dX6_which_32 : decode cX6_which 32 = .ok (.invokevirtual 154, 3) := by decide +kernel
theorem dX6_which_35 : decode cX6_which 35 = .ok (.iload_n 1, 1) := by decide +kernel
theorem dX6_which_36 : decode cX6_which 36 = .ok (.if_icmp .ne 9, 3) := by decide +kernel
theorem dX6_which_39 : decode cX6_which 39 = .ok (.iconst 1, 1) := by decide +kernel
theorem dX6_which_40 : decode cX6_which 40 = .ok (.iload_n 3, 1) := by decide +kernel
theorem dX6_which_41 : decode cX6_which 41 = .ok (.ishl, 1) := by decide +kernel
theorem dX6_which_42 : decode cX6_which 42 = .ok (.goto 4, 3) := by decide +kernel
theorem dX6_which_45 : decode cX6_which 45 = .ok (.iconst 0, 1) := by decide +kernel
theorem dX6_which_46 : decode cX6_which 46 = .ok (.ior, 1) := by decide +kernel
theorem dX6_which_47 : decode cX6_which 47 = .ok (.istore_n 2, 1) := by decide +kernel
theorem dX6_which_48 : decode cX6_which 48 = .ok (.iinc 3 1, 3) := by decide +kernel
theorem dX6_which_51 : decode cX6_which 51 = .ok (.goto (-28), 3) := by decide +kernel
theorem dX6_which_54 : decode cX6_which 54 = .ok (.iload_n 2, 1) := by decide +kernel
theorem dX6_which_55 : decode cX6_which 55 = .ok (.ireturn, 1) := by decide +kernel
theorem dX6_wouldShow_0 : decode cX6_wouldShow 0 = .ok (.aload_n 0, 1) := by decide +kernel
theorem dX6_wouldShow_1 : decode cX6_wouldShow 1 = .ok (.iload_n 1, 1) := by decide +kernel
theorem dX6_wouldShow_2 : decode cX6_wouldShow 2 = .ok (.invokevirtual 118, 3) := by decide +kernel
theorem dX6_wouldShow_5 : decode cX6_wouldShow 5 = .ok (.istore 4, 2) := by decide +kernel
theorem dX6_wouldShow_7 : decode cX6_wouldShow 7 = .ok (.iload_n 3, 1) := by decide +kernel
theorem dX6_wouldShow_8 : decode cX6_wouldShow 8 = .ok (.iload_n 1, 1) := by decide +kernel
theorem dX6_wouldShow_9 : decode cX6_wouldShow 9 = .ok (.invokestatic 100, 3) := by decide +kernel
theorem dX6_wouldShow_12 : decode cX6_wouldShow 12 = .ok (.ifCond .eq 28, 3) := by decide +kernel
theorem dX6_wouldShow_15 : decode cX6_wouldShow 15 = .ok (.iload_n 2, 1) := by decide +kernel
theorem dX6_wouldShow_16 : decode cX6_wouldShow 16 = .ok (.iload 4, 2) := by decide +kernel
theorem dX6_wouldShow_18 : decode cX6_wouldShow 18 = .ok (.iload_n 3, 1) := by decide +kernel
theorem dX6_wouldShow_19 : decode cX6_wouldShow 19 = .ok (.iload_n 1, 1) := by decide +kernel
theorem dX6_wouldShow_20 : decode cX6_wouldShow 20 = .ok (.if_icmp .ne 7, 3) := by decide +kernel
theorem dX6_wouldShow_23 : decode cX6_wouldShow 23 = .ok (.iconst 1, 1) := by decide +kernel
theorem dX6_wouldShow_24 : decode cX6_wouldShow 24 = .ok (.goto 4, 3) := by decide +kernel
theorem dX6_wouldShow_27 : decode cX6_wouldShow 27 = .ok (.iconst 0, 1) := by decide +kernel
theorem dX6_wouldShow_28 : decode cX6_wouldShow 28 = .ok (.aload_n 0, 1) := by decide +kernel
theorem dX6_wouldShow_29 : decode cX6_wouldShow 29 = .ok (.bipush 9, 2) := by decide +kernel
theorem dX6_wouldShow_31 : decode cX6_wouldShow 31 = .ok (.invokevirtual 118, 3) := by decide +kernel
theorem dX6_wouldShow_34 : decode cX6_wouldShow 34 = .ok (.invokestatic 114, 3) := by decide +kernel
theorem dX6_wouldShow_37 : decode cX6_wouldShow 37 = .ok (.goto 5, 3) := by decide +kernel
theorem dX6_wouldShow_40 : decode cX6_wouldShow 40 = .ok (.iload 4, 2) := by decide +kernel
theorem dX6_wouldShow_42 : decode cX6_wouldShow 42 = .ok (.istore 5, 2) := by decide +kernel
theorem dX6_wouldShow_44 : decode cX6_wouldShow 44 = .ok (.aload_n 0, 1) := by decide +kernel
theorem dX6_wouldShow_45 : decode cX6_wouldShow 45 = .ok (.bipush 10, 2) := by decide +kernel
theorem dX6_wouldShow_47 : decode cX6_wouldShow 47 = .ok (.invokevirtual 118, 3) := by decide +kernel
theorem dX6_wouldShow_50 : decode cX6_wouldShow 50 = .ok (.iload_n 1, 1) := by decide +kernel
theorem dX6_wouldShow_51 : decode cX6_wouldShow 51 = .ok (.invokestatic 104, 3) := by decide +kernel
theorem dX6_wouldShow_54 : decode cX6_wouldShow 54 = .ok (.ifCond .ne 16, 3) := by decide +kernel
theorem dX6_wouldShow_57 : decode cX6_wouldShow 57 = .ok (.iload_n 2, 1) := by decide +kernel
theorem dX6_wouldShow_58 : decode cX6_wouldShow 58 = .ok (.iload 5, 2) := by decide +kernel
theorem dX6_wouldShow_60 : decode cX6_wouldShow 60 = .ok (.invokestatic 107, 3) := by decide +kernel
theorem dX6_wouldShow_63 : decode cX6_wouldShow 63 = .ok (.ifCond .eq 7, 3) := by decide +kernel
theorem dX6_wouldShow_66 : decode cX6_wouldShow 66 = .ok (.iconst 1, 1) := by decide +kernel
theorem dX6_wouldShow_67 : decode cX6_wouldShow 67 = .ok (.goto 4, 3) := by decide +kernel
theorem dX6_wouldShow_70 : decode cX6_wouldShow 70 = .ok (.iconst 0, 1) := by decide +kernel
theorem dX6_wouldShow_71 : decode cX6_wouldShow 71 = .ok (.ireturn, 1) := by decide +kernel
theorem dX6_pairs_0 : decode cX6_pairs 0 = .ok (.aload_n 0, 1) := by decide +kernel
theorem dX6_pairs_1 : decode cX6_pairs 1 = .ok (.getfield 17, 3) := by decide +kernel
theorem dX6_pairs_4 : decode cX6_pairs 4 = .ok (.iload_n 1, 1) := by decide +kernel
theorem dX6_pairs_5 : decode cX6_pairs 5 = .ok (.iaload, 1) := by decide +kernel
theorem dX6_pairs_6 : decode cX6_pairs 6 = .ok (.ifCond .ge 9, 3) := by decide +kernel
theorem dX6_pairs_9 : decode cX6_pairs 9 = .ok (.aload_n 0, 1) := by decide +kernel
theorem dX6_pairs_10 : decode cX6_pairs 10 = .ok (.iconst 1, 1) := by decide +kernel
theorem dX6_pairs_11 : decode cX6_pairs 11 = .ok (.invokevirtual 72, 3) := by decide +kernel
theorem dX6_pairs_14 : decode cX6_pairs 14 = .ok (.ireturn, 1) := by decide +kernel
theorem dX6_pairs_15 : decode cX6_pairs 15 = .ok (.aload_n 0, 1) := by decide +kernel
theorem dX6_pairs_16 : decode cX6_pairs 16 = .ok (.getfield 17, 3) := by decide +kernel
theorem dX6_pairs_19 : decode cX6_pairs 19 = .ok (.iload_n 1, 1) := by decide +kernel
theorem dX6_pairs_20 : decode cX6_pairs 20 = .ok (.iaload, 1) := by decide +kernel
theorem dX6_pairs_21 : decode cX6_pairs 21 = .ok (.iconst 2, 1) := by decide +kernel
theorem dX6_pairs_22 : decode cX6_pairs 22 = .ok (.irem, 1) := by decide +kernel
theorem dX6_pairs_23 : decode cX6_pairs 23 = .ok (.iconst 1, 1) := by decide +kernel
theorem dX6_pairs_24 : decode cX6_pairs 24 = .ok (.if_icmp .eq 14, 3) := by decide +kernel
theorem dX6_pairs_27 : decode cX6_pairs 27 = .ok (.aload_n 0, 1) := by decide +kernel
theorem dX6_pairs_28 : decode cX6_pairs 28 = .ok (.getfield 17, 3) := by decide +kernel
theorem dX6_pairs_31 : decode cX6_pairs 31 = .ok (.iload_n 1, 1) := by decide +kernel
theorem dX6_pairs_32 : decode cX6_pairs 32 = .ok (.iaload, 1) := by decide +kernel
theorem dX6_pairs_33 : decode cX6_pairs 33 = .ok (.bipush 16, 2) := by decide +kernel
theorem dX6_pairs_35 : decode cX6_pairs 35 = .ok (.if_icmp .le 9, 3) := by decide +kernel
theorem dX6_pairs_38 : decode cX6_pairs 38 = .ok (.aload_n 0, 1) := by decide +kernel
theorem dX6_pairs_39 : decode cX6_pairs 39 = .ok (.iconst 5, 1) := by decide +kernel
theorem dX6_pairs_40 : decode cX6_pairs 40 = .ok (.invokevirtual 72, 3) := by decide +kernel
theorem dX6_pairs_43 : decode cX6_pairs 43 = .ok (.ireturn, 1) := by decide +kernel
theorem dX6_pairs_44 : decode cX6_pairs 44 = .ok (.iconst 1, 1) := by decide +kernel
theorem dX6_pairs_45 : decode cX6_pairs 45 = .ok (.istore_n 2, 1) := by decide +kernel
theorem dX6_pairs_46 : decode cX6_pairs 46 = .ok (.iconst 0, 1) := by decide +kernel
theorem dX6_pairs_47 : decode cX6_pairs 47 = .ok (.istore_n 3, 1) := by decide +kernel
theorem dX6_pairs_48 : decode cX6_pairs 48 = .ok (.iload_n 3, 1) := by decide +kernel
theorem dX6_pairs_49 : decode cX6_pairs 49 = .ok (.aload_n 0, 1) := by decide +kernel
theorem dX6_pairs_50 : decode cX6_pairs 50 = .ok (.getfield 17, 3) := by decide +kernel
theorem dX6_pairs_53 : decode cX6_pairs 53 = .ok (.iload_n 1, 1) := by decide +kernel
theorem dX6_pairs_54 : decode cX6_pairs 54 = .ok (.iaload, 1) := by decide +kernel
theorem dX6_pairs_55 : decode cX6_pairs 55 = .ok (.if_icmp .ge 57, 3) := by decide +kernel
theorem dX6_pairs_58 : decode cX6_pairs 58 = .ok (.iload_n 2, 1) := by decide +kernel
theorem dX6_pairs_59 : decode cX6_pairs 59 = .ok (.ifCond .eq 45, 3) := by decide +kernel
theorem dX6_pairs_62 : decode cX6_pairs 62 = .ok (.aload_n 0, 1) := by decide +kernel
theorem dX6_pairs_63 : decode cX6_pairs 63 = .ok (.getfield 20, 3) := by decide +kernel
theorem dX6_pairs_66 : decode cX6_pairs 66 = .ok (.bipush 40, 2) := by decide +kernel
theorem dX6_pairs_68 : decode cX6_pairs 68 = .ok (.iload_n 1, 1) := by decide +kernel
theorem dX6_pairs_69 : decode cX6_pairs 69 = .ok (.imul, 1) := by decide +kernel
theorem dX6_pairs_70 : decode cX6_pairs 70 = .ok (.iload_n 3, 1) := by decide +kernel
theorem dX6_pairs_71 : decode cX6_pairs 71 = .ok (.iadd, 1) := by decide +kernel
theorem dX6_pairs_72 : decode cX6_pairs 72 = .ok (.iaload, 1) := by decide +kernel
theorem dX6_pairs_73 : decode cX6_pairs 73 = .ok (.invokestatic 138, 3) := by decide +kernel
theorem dX6_pairs_76 : decode cX6_pairs 76 = .ok (.ifCond .eq 28, 3) := by decide +kernel
theorem dX6_pairs_79 : decode cX6_pairs 79 = .ok (.aload_n 0, 1) := by decide +kernel
theorem dX6_pairs_80 : decode cX6_pairs 80 = .ok (.getfield 20, 3) := by decide +kernel
theorem dX6_pairs_83 : decode cX6_pairs 83 = .ok (.bipush 40, 2) := by decide +kernel
theorem dX6_pairs_85 : decode cX6_pairs 85 = .ok (.iload_n 1, 1) := by decide +kernel
theorem dX6_pairs_86 : decode cX6_pairs 86 = .ok (.imul, 1) := by decide +kernel
theorem dX6_pairs_87 : decode cX6_pairs 87 = .ok (.iload_n 3, 1) := by decide +kernel
theorem dX6_pairs_88 : decode cX6_pairs 88 = .ok (.iadd, 1) := by decide +kernel
theorem dX6_pairs_89 : decode cX6_pairs 89 = .ok (.iconst 1, 1) := by decide +kernel
theorem dX6_pairs_90 : decode cX6_pairs 90 = .ok (.iadd, 1) := by decide +kernel
theorem dX6_pairs_91 : decode cX6_pairs 91 = .ok (.iaload, 1) := by decide +kernel
theorem dX6_pairs_92 : decode cX6_pairs 92 = .ok (.iconst 0, 1) := by decide +kernel
theorem dX6_pairs_93 : decode cX6_pairs 93 = .ok (.iconst 1, 1) := by decide +kernel
theorem dX6_pairs_94 : decode cX6_pairs 94 = .ok (.invokestatic 64, 3) := by decide +kernel
theorem dX6_pairs_97 : decode cX6_pairs 97 = .ok (.ifCond .eq 7, 3) := by decide +kernel
theorem dX6_pairs_100 : decode cX6_pairs 100 = .ok (.iconst 1, 1) := by decide +kernel
theorem dX6_pairs_101 : decode cX6_pairs 101 = .ok (.goto 4, 3) := by decide +kernel
theorem dX6_pairs_104 : decode cX6_pairs 104 = .ok (.iconst 0, 1) := by decide +kernel
theorem dX6_pairs_105 : decode cX6_pairs 105 = .ok (.istore_n 2, 1) := by decide +kernel
theorem dX6_pairs_106 : decode cX6_pairs 106 = .ok (.iinc 3 2, 3) := by decide +kernel
theorem dX6_pairs_109 : decode cX6_pairs 109 = .ok (.goto (-61), 3) := by decide +kernel
theorem dX6_pairs_112 : decode cX6_pairs 112 = .ok (.iload_n 2, 1) := by decide +kernel
theorem dX6_pairs_113 : decode cX6_pairs 113 = .ok (.ifCond .eq 7, 3) := by decide +kernel
theorem dX6_pairs_116 : decode cX6_pairs 116 = .ok (.iconst 0, 1) := by decide +kernel
theorem dX6_pairs_117 : decode cX6_pairs 117 = .ok (.goto 8, 3) := by decide +kernel
theorem dX6_pairs_120 : decode cX6_pairs 120 = .ok (.aload_n 0, 1) := by decide +kernel
theorem dX6_pairs_121 : decode cX6_pairs 121 = .ok (.iconst 3, 1) := by decide +kernel
theorem dX6_pairs_122 : decode cX6_pairs 122 = .ok (.invokevirtual 72, 3) := by decide +kernel
theorem dX6_pairs_125 : decode cX6_pairs 125 = .ok (.ireturn, 1) := by decide +kernel
theorem dX6_kindsBy_0 : decode cX6_kindsBy 0 = .ok (.iconst 0, 1) := by decide +kernel
theorem dX6_kindsBy_1 : decode cX6_kindsBy 1 = .ok (.istore_n 3, 1) := by decide +kernel
theorem dX6_kindsBy_2 : decode cX6_kindsBy 2 = .ok (.iconst 0, 1) := by decide +kernel
theorem dX6_kindsBy_3 : decode cX6_kindsBy 3 = .ok (.istore 4, 2) := by decide +kernel
theorem dX6_kindsBy_5 : decode cX6_kindsBy 5 = .ok (.iload 4, 2) := by decide +kernel
theorem dX6_kindsBy_7 : decode cX6_kindsBy 7 = .ok (.iconst 5, 1) := by decide +kernel
theorem dX6_kindsBy_8 : decode cX6_kindsBy 8 = .ok (.if_icmp .gt 122, 3) := by decide +kernel
theorem dX6_kindsBy_11 : decode cX6_kindsBy 11 = .ok (.aload_n 0, 1) := by decide +kernel
theorem dX6_kindsBy_12 : decode cX6_kindsBy 12 = .ok (.iload_n 1, 1) := by decide +kernel
theorem dX6_kindsBy_13 : decode cX6_kindsBy 13 = .ok (.invokevirtual 118, 3) := by decide +kernel
theorem dX6_kindsBy_16 : decode cX6_kindsBy 16 = .ok (.iload 4, 2) := by decide +kernel
theorem dX6_kindsBy_18 : decode cX6_kindsBy 18 = .ok (.invokestatic 88, 3) := by decide +kernel
theorem dX6_kindsBy_21 : decode cX6_kindsBy 21 = .ok (.if_icmp .ge 7, 3) := by decide +kernel
theorem dX6_kindsBy_24 : decode cX6_kindsBy 24 = .ok (.iconst 1, 1) := by decide +kernel
theorem dX6_kindsBy_25 : decode cX6_kindsBy 25 = .ok (.goto 4, 3) := by decide +kernel
theorem dX6_kindsBy_28 : decode cX6_kindsBy 28 = .ok (.iconst 0, 1) := by decide +kernel
theorem dX6_kindsBy_29 : decode cX6_kindsBy 29 = .ok (.istore 5, 2) := by decide +kernel
theorem dX6_kindsBy_31 : decode cX6_kindsBy 31 = .ok (.iconst 0, 1) := by decide +kernel
theorem dX6_kindsBy_32 : decode cX6_kindsBy 32 = .ok (.istore 6, 2) := by decide +kernel
theorem dX6_kindsBy_34 : decode cX6_kindsBy 34 = .ok (.iload 6, 2) := by decide +kernel
theorem dX6_kindsBy_36 : decode cX6_kindsBy 36 = .ok (.aload_n 0, 1) := by decide +kernel
theorem dX6_kindsBy_37 : decode cX6_kindsBy 37 = .ok (.getfield 17, 3) := by decide +kernel
theorem dX6_kindsBy_40 : decode cX6_kindsBy 40 = .ok (.iload_n 2, 1) := by decide +kernel
theorem dX6_kindsBy_41 : decode cX6_kindsBy 41 = .ok (.iaload, 1) := by decide +kernel
theorem dX6_kindsBy_42 : decode cX6_kindsBy 42 = .ok (.if_icmp .ge 66, 3) := by decide +kernel
theorem dX6_kindsBy_45 : decode cX6_kindsBy 45 = .ok (.iload 5, 2) := by decide +kernel
theorem dX6_kindsBy_47 : decode cX6_kindsBy 47 = .ok (.ifCond .eq 61, 3) := by decide +kernel
theorem dX6_kindsBy_50 : decode cX6_kindsBy 50 = .ok (.aload_n 0, 1) := by decide +kernel
theorem dX6_kindsBy_51 : decode cX6_kindsBy 51 = .ok (.iload_n 1, 1) := by decide +kernel
theorem dX6_kindsBy_52 : decode cX6_kindsBy 52 = .ok (.iload 4, 2) := by decide +kernel
theorem dX6_kindsBy_54 : decode cX6_kindsBy 54 = .ok (.aload_n 0, 1) := by decide +kernel
theorem dX6_kindsBy_55 : decode cX6_kindsBy 55 = .ok (.getfield 20, 3) := by decide +kernel
theorem dX6_kindsBy_58 : decode cX6_kindsBy 58 = .ok (.bipush 40, 2) := by decide +kernel
theorem dX6_kindsBy_60 : decode cX6_kindsBy 60 = .ok (.iload_n 2, 1) := by decide +kernel
theorem dX6_kindsBy_61 : decode cX6_kindsBy 61 = .ok (.imul, 1) := by decide +kernel
theorem dX6_kindsBy_62 : decode cX6_kindsBy 62 = .ok (.iload 6, 2) := by decide +kernel
theorem dX6_kindsBy_64 : decode cX6_kindsBy 64 = .ok (.iadd, 1) := by decide +kernel
theorem dX6_kindsBy_65 : decode cX6_kindsBy 65 = .ok (.iaload, 1) := by decide +kernel
theorem dX6_kindsBy_66 : decode cX6_kindsBy 66 = .ok (.invokevirtual 169, 3) := by decide +kernel
theorem dX6_kindsBy_69 : decode cX6_kindsBy 69 = .ok (.aload_n 0, 1) := by decide +kernel
theorem dX6_kindsBy_70 : decode cX6_kindsBy 70 = .ok (.getfield 20, 3) := by decide +kernel
theorem dX6_kindsBy_73 : decode cX6_kindsBy 73 = .ok (.bipush 40, 2) := by decide +kernel
theorem dX6_kindsBy_75 : decode cX6_kindsBy 75 = .ok (.iload_n 2, 1) := by decide +kernel
theorem dX6_kindsBy_76 : decode cX6_kindsBy 76 = .ok (.imul, 1) := by decide +kernel
theorem dX6_kindsBy_77 : decode cX6_kindsBy 77 = .ok (.iload 6, 2) := by decide +kernel
theorem dX6_kindsBy_79 : decode cX6_kindsBy 79 = .ok (.iadd, 1) := by decide +kernel
theorem dX6_kindsBy_80 : decode cX6_kindsBy 80 = .ok (.iconst 1, 1) := by decide +kernel
theorem dX6_kindsBy_81 : decode cX6_kindsBy 81 = .ok (.iadd, 1) := by decide +kernel
theorem dX6_kindsBy_82 : decode cX6_kindsBy 82 = .ok (.iaload, 1) := by decide +kernel
theorem dX6_kindsBy_83 : decode cX6_kindsBy 83 = .ok (.iconst 1, 1) := by decide +kernel
theorem dX6_kindsBy_84 : decode cX6_kindsBy 84 = .ok (.if_icmp .ne 7, 3) := by decide +kernel
theorem dX6_kindsBy_87 : decode cX6_kindsBy 87 = .ok (.iconst 1, 1) := by decide +kernel
theorem dX6_kindsBy_88 : decode cX6_kindsBy 88 = .ok (.goto 4, 3) := by decide +kernel
theorem dX6_kindsBy_91 : decode cX6_kindsBy 91 = .ok (.iconst 0, 1) := by decide +kernel
theorem dX6_kindsBy_92 : decode cX6_kindsBy 92 = .ok (.if_icmp .ne 7, 3) := by decide +kernel
theorem dX6_kindsBy_95 : decode cX6_kindsBy 95 = .ok (.iconst 1, 1) := by decide +kernel
theorem dX6_kindsBy_96 : decode cX6_kindsBy 96 = .ok (.goto 4, 3) := by decide +kernel
theorem dX6_kindsBy_99 : decode cX6_kindsBy 99 = .ok (.iconst 0, 1) := by decide +kernel
theorem dX6_kindsBy_100 : decode cX6_kindsBy 100 = .ok (.istore 5, 2) := by decide +kernel
theorem dX6_kindsBy_102 : decode cX6_kindsBy 102 = .ok (.iinc 6 2, 3) := by decide +kernel
theorem dX6_kindsBy_105 : decode cX6_kindsBy 105 = .ok (.goto (-71), 3) := by decide +kernel
theorem dX6_kindsBy_108 : decode cX6_kindsBy 108 = .ok (.iload_n 3, 1) := by decide +kernel
theorem dX6_kindsBy_109 : decode cX6_kindsBy 109 = .ok (.iload 5, 2) := by decide +kernel
theorem dX6_kindsBy_111 : decode cX6_kindsBy 111 = .ok (.ifCond .eq 10, 3) := by decide +kernel
theorem dX6_kindsBy_114 : decode cX6_kindsBy 114 = .ok (.iconst 1, 1) := by decide +kernel
theorem dX6_kindsBy_115 : decode cX6_kindsBy 115 = .ok (.iload 4, 2) := by decide +kernel
theorem dX6_kindsBy_117 : decode cX6_kindsBy 117 = .ok (.ishl, 1) := by decide +kernel
theorem dX6_kindsBy_118 : decode cX6_kindsBy 118 = .ok (.goto 4, 3) := by decide +kernel
theorem dX6_kindsBy_121 : decode cX6_kindsBy 121 = .ok (.iconst 0, 1) := by decide +kernel
theorem dX6_kindsBy_122 : decode cX6_kindsBy 122 = .ok (.ior, 1) := by decide +kernel
theorem dX6_kindsBy_123 : decode cX6_kindsBy 123 = .ok (.istore_n 3, 1) := by decide +kernel
theorem dX6_kindsBy_124 : decode cX6_kindsBy 124 = .ok (.iinc 4 1, 3) := by decide +kernel
theorem dX6_kindsBy_127 : decode cX6_kindsBy 127 = .ok (.goto (-122), 3) := by decide +kernel
theorem dX6_kindsBy_130 : decode cX6_kindsBy 130 = .ok (.iload_n 3, 1) := by decide +kernel
theorem dX6_kindsBy_131 : decode cX6_kindsBy 131 = .ok (.ireturn, 1) := by decide +kernel
theorem dX6_kinds_0 : decode cX6_kinds 0 = .ok (.aload_n 0, 1) := by decide +kernel
theorem dX6_kinds_1 : decode cX6_kinds 1 = .ok (.iload_n 1, 1) := by decide +kernel
theorem dX6_kinds_2 : decode cX6_kinds 2 = .ok (.invokevirtual 128, 3) := by decide +kernel
theorem dX6_kinds_5 : decode cX6_kinds 5 = .ok (.ifCond .eq 10, 3) := by decide +kernel
theorem dX6_kinds_8 : decode cX6_kinds 8 = .ok (.iload_n 2, 1) := by decide +kernel
theorem dX6_kinds_9 : decode cX6_kinds 9 = .ok (.invokestatic 68, 3) := by decide +kernel
theorem dX6_kinds_12 : decode cX6_kinds 12 = .ok (.ifCond .ne 5, 3) := by decide +kernel
theorem dX6_kinds_15 : decode cX6_kinds 15 = .ok (.iconst (-1), 1) := by decide +kernel
theorem dX6_kinds_16 : decode cX6_kinds 16 = .ok (.ireturn, 1) := by decide +kernel
theorem dX6_kinds_17 : decode cX6_kinds 17 = .ok (.aload_n 0, 1) := by decide +kernel
theorem dX6_kinds_18 : decode cX6_kinds 18 = .ok (.iload_n 2, 1) := by decide +kernel
theorem dX6_kinds_19 : decode cX6_kinds 19 = .ok (.invokevirtual 172, 3) := by decide +kernel
theorem dX6_kinds_22 : decode cX6_kinds 22 = .ok (.istore_n 3, 1) := by decide +kernel
theorem dX6_kinds_23 : decode cX6_kinds 23 = .ok (.iload_n 3, 1) := by decide +kernel
theorem dX6_kinds_24 : decode cX6_kinds 24 = .ok (.ifCond .eq 7, 3) := by decide +kernel
theorem dX6_kinds_27 : decode cX6_kinds 27 = .ok (.iload_n 3, 1) := by decide +kernel
theorem dX6_kinds_28 : decode cX6_kinds 28 = .ok (.goto 9, 3) := by decide +kernel
theorem dX6_kinds_31 : decode cX6_kinds 31 = .ok (.aload_n 0, 1) := by decide +kernel
theorem dX6_kinds_32 : decode cX6_kinds 32 = .ok (.iload_n 1, 1) := by decide +kernel
theorem dX6_kinds_33 : decode cX6_kinds 33 = .ok (.iload_n 2, 1) := by decide +kernel
theorem dX6_kinds_34 : decode cX6_kinds 34 = .ok (.invokevirtual 175, 3) := by decide +kernel
theorem dX6_kinds_37 : decode cX6_kinds 37 = .ok (.ireturn, 1) := by decide +kernel
theorem dX6_next_0 : decode cX6_next 0 = .ok (.aload_n 0, 1) := by decide +kernel
theorem dX6_next_1 : decode cX6_next 1 = .ok (.iload_n 1, 1) := by decide +kernel
theorem dX6_next_2 : decode cX6_next 2 = .ok (.invokevirtual 128, 3) := by decide +kernel
theorem dX6_next_5 : decode cX6_next 5 = .ok (.ifCond .eq 10, 3) := by decide +kernel
theorem dX6_next_8 : decode cX6_next 8 = .ok (.iload_n 2, 1) := by decide +kernel
theorem dX6_next_9 : decode cX6_next 9 = .ok (.invokestatic 68, 3) := by decide +kernel
theorem dX6_next_12 : decode cX6_next 12 = .ok (.ifCond .ne 5, 3) := by decide +kernel
theorem dX6_next_15 : decode cX6_next 15 = .ok (.iconst (-1), 1) := by decide +kernel
theorem dX6_next_16 : decode cX6_next 16 = .ok (.ireturn, 1) := by decide +kernel
theorem dX6_next_17 : decode cX6_next 17 = .ok (.aload_n 0, 1) := by decide +kernel
theorem dX6_next_18 : decode cX6_next 18 = .ok (.iload_n 2, 1) := by decide +kernel
theorem dX6_next_19 : decode cX6_next 19 = .ok (.invokevirtual 172, 3) := by decide +kernel
theorem dX6_next_22 : decode cX6_next 22 = .ok (.istore_n 3, 1) := by decide +kernel
theorem dX6_next_23 : decode cX6_next 23 = .ok (.iload_n 3, 1) := by decide +kernel
theorem dX6_next_24 : decode cX6_next 24 = .ok (.ifCond .eq 5, 3) := by decide +kernel
theorem dX6_next_27 : decode cX6_next 27 = .ok (.iload_n 3, 1) := by decide +kernel
theorem dX6_next_28 : decode cX6_next 28 = .ok (.ireturn, 1) := by decide +kernel
theorem dX6_next_29 : decode cX6_next 29 = .ok (.aload_n 0, 1) := by decide +kernel
theorem dX6_next_30 : decode cX6_next 30 = .ok (.iload_n 1, 1) := by decide +kernel
theorem dX6_next_31 : decode cX6_next 31 = .ok (.iload_n 2, 1) := by decide +kernel
theorem dX6_next_32 : decode cX6_next 32 = .ok (.invokevirtual 175, 3) := by decide +kernel
theorem dX6_next_35 : decode cX6_next 35 = .ok (.istore 4, 2) := by decide +kernel
theorem dX6_next_37 : decode cX6_next 37 = .ok (.bipush (-9), 2) := by decide +kernel
theorem dX6_next_39 : decode cX6_next 39 = .ok (.istore 5, 2) := by decide +kernel
theorem dX6_next_41 : decode cX6_next 41 = .ok (.bipush 7, 2) := by decide +kernel
theorem dX6_next_43 : decode cX6_next 43 = .ok (.istore 6, 2) := by decide +kernel
theorem dX6_next_45 : decode cX6_next 45 = .ok (.iconst 0, 1) := by decide +kernel
theorem dX6_next_46 : decode cX6_next 46 = .ok (.istore 7, 2) := by decide +kernel
theorem dX6_next_48 : decode cX6_next 48 = .ok (.iload 7, 2) := by decide +kernel
theorem dX6_next_50 : decode cX6_next 50 = .ok (.bipush 9, 2) := by decide +kernel
theorem dX6_next_52 : decode cX6_next 52 = .ok (.if_icmp .ge 124, 3) := by decide +kernel
theorem dX6_next_55 : decode cX6_next 55 = .ok (.iload 4, 2) := by decide +kernel
theorem dX6_next_57 : decode cX6_next 57 = .ok (.ifCond .eq 119, 3) := by decide +kernel
theorem dX6_next_60 : decode cX6_next 60 = .ok (.iconst 0, 1) := by decide +kernel
theorem dX6_next_61 : decode cX6_next 61 = .ok (.istore 8, 2) := by decide +kernel
theorem dX6_next_63 : decode cX6_next 63 = .ok (.iconst 0, 1) := by decide +kernel
theorem dX6_next_64 : decode cX6_next 64 = .ok (.istore 9, 2) := by decide +kernel
theorem dX6_next_66 : decode cX6_next 66 = .ok (.iload 9, 2) := by decide +kernel
theorem dX6_next_68 : decode cX6_next 68 = .ok (.iconst 5, 1) := by decide +kernel
theorem dX6_next_69 : decode cX6_next 69 = .ok (.if_icmp .gt 41, 3) := by decide +kernel
theorem dX6_next_72 : decode cX6_next 72 = .ok (.iload 8, 2) := by decide +kernel
theorem dX6_next_74 : decode cX6_next 74 = .ok (.iload 4, 2) := by decide +kernel
theorem dX6_next_76 : decode cX6_next 76 = .ok (.iload 9, 2) := by decide +kernel
theorem dX6_next_78 : decode cX6_next 78 = .ok (.invokestatic 104, 3) := by decide +kernel
theorem dX6_next_81 : decode cX6_next 81 = .ok (.ifCond .eq 19, 3) := by decide +kernel
theorem dX6_next_84 : decode cX6_next 84 = .ok (.aload_n 0, 1) := by decide +kernel
theorem dX6_next_85 : decode cX6_next 85 = .ok (.iload_n 1, 1) := by decide +kernel
theorem dX6_next_86 : decode cX6_next 86 = .ok (.iload 9, 2) := by decide +kernel
theorem dX6_next_88 : decode cX6_next 88 = .ok (.iload 7, 2) := by decide +kernel
theorem dX6_next_90 : decode cX6_next 90 = .ok (.invokevirtual 169, 3) := by decide +kernel
theorem dX6_next_93 : decode cX6_next 93 = .ok (.ifCond .eq 7, 3) := by decide +kernel
theorem dX6_next_96 : decode cX6_next 96 = .ok (.iconst 1, 1) := by decide +kernel
theorem dX6_next_97 : decode cX6_next 97 = .ok (.goto 4, 3) := by decide +kernel
theorem dX6_next_100 : decode cX6_next 100 = .ok (.iconst 0, 1) := by decide +kernel
theorem dX6_next_101 : decode cX6_next 101 = .ok (.iadd, 1) := by decide +kernel
theorem dX6_next_102 : decode cX6_next 102 = .ok (.istore 8, 2) := by decide +kernel
theorem dX6_next_104 : decode cX6_next 104 = .ok (.iinc 9 1, 3) := by decide +kernel
theorem dX6_next_107 : decode cX6_next 107 = .ok (.goto (-41), 3) := by decide +kernel
theorem dX6_next_110 : decode cX6_next 110 = .ok (.iload 8, 2) := by decide +kernel
theorem dX6_next_112 : decode cX6_next 112 = .ok (.iload 4, 2) := by decide +kernel
theorem dX6_next_114 : decode cX6_next 114 = .ok (.invokestatic 135, 3) := by decide +kernel
theorem dX6_next_117 : decode cX6_next 117 = .ok (.iload 8, 2) := by decide +kernel
theorem dX6_next_119 : decode cX6_next 119 = .ok (.isub, 1) := by decide +kernel
theorem dX6_next_120 : decode cX6_next 120 = .ok (.if_icmp .le 8, 3) := by decide +kernel
theorem dX6_next_123 : decode cX6_next 123 = .ok (.iload 8, 2) := by decide +kernel
theorem dX6_next_125 : decode cX6_next 125 = .ok (.goto 11, 3) := by decide +kernel
theorem dX6_next_128 : decode cX6_next 128 = .ok (.iload 4, 2) := by decide +kernel
theorem dX6_next_130 : decode cX6_next 130 = .ok (.invokestatic 135, 3) := by decide +kernel
theorem dX6_next_133 : decode cX6_next 133 = .ok (.iload 8, 2) := by decide +kernel
theorem dX6_next_135 : decode cX6_next 135 = .ok (.isub, 1) := by decide +kernel
theorem dX6_next_136 : decode cX6_next 136 = .ok (.istore 9, 2) := by decide +kernel
theorem dX6_next_138 : decode cX6_next 138 = .ok (.iload 9, 2) := by decide +kernel
theorem dX6_next_140 : decode cX6_next 140 = .ok (.iload 6, 2) := by decide +kernel
theorem dX6_next_142 : decode cX6_next 142 = .ok (.if_icmp .ge 8, 3) := by decide +kernel
theorem dX6_next_145 : decode cX6_next 145 = .ok (.iload 7, 2) := by decide +kernel
theorem dX6_next_147 : decode cX6_next 147 = .ok (.goto 5, 3) := by decide +kernel
theorem dX6_next_150 : decode cX6_next 150 = .ok (.iload 5, 2) := by decide +kernel
theorem dX6_next_152 : decode cX6_next 152 = .ok (.istore 5, 2) := by decide +kernel
theorem dX6_next_154 : decode cX6_next 154 = .ok (.iload 9, 2) := by decide +kernel
theorem dX6_next_156 : decode cX6_next 156 = .ok (.iload 6, 2) := by decide +kernel
theorem dX6_next_158 : decode cX6_next 158 = .ok (.if_icmp .ge 8, 3) := by decide +kernel
theorem dX6_next_161 : decode cX6_next 161 = .ok (.iload 9, 2) := by decide +kernel
theorem dX6_next_163 : decode cX6_next 163 = .ok (.goto 5, 3) := by decide +kernel
theorem dX6_next_166 : decode cX6_next 166 = .ok (.iload 6, 2) := by decide +kernel
theorem dX6_next_168 : decode cX6_next 168 = .ok (.istore 6, 2) := by decide +kernel
theorem dX6_next_170 : decode cX6_next 170 = .ok (.iinc 7 1, 3) := by decide +kernel
theorem dX6_next_173 : decode cX6_next 173 = .ok (.goto (-125), 3) := by decide +kernel
theorem dX6_next_176 : decode cX6_next 176 = .ok (.iload 5, 2) := by decide +kernel
theorem dX6_next_178 : decode cX6_next 178 = .ok (.bipush (-9), 2) := by decide +kernel
theorem dX6_next_180 : decode cX6_next 180 = .ok (.if_icmp .eq 10, 3) := by decide +kernel
theorem dX6_next_183 : decode cX6_next 183 = .ok (.aload_n 0, 1) := by decide +kernel
theorem dX6_next_184 : decode cX6_next 184 = .ok (.iload 6, 2) := by decide +kernel
theorem dX6_next_186 : decode cX6_next 186 = .ok (.invokevirtual 76, 3) := by decide +kernel
theorem dX6_next_189 : decode cX6_next 189 = .ok (.pop, 1) := by decide +kernel
theorem dX6_next_190 : decode cX6_next 190 = .ok (.iload 5, 2) := by decide +kernel
theorem dX6_next_192 : decode cX6_next 192 = .ok (.ireturn, 1) := by decide +kernel
theorem dX6_sums_0 : decode cX6_sums 0 = .ok (.aload_n 0, 1) := by decide +kernel
theorem dX6_sums_1 : decode cX6_sums 1 = .ok (.getfield 94, 3) := by decide +kernel
theorem dX6_sums_4 : decode cX6_sums 4 = .ok (.ifCond .ne 6, 3) := by decide +kernel
theorem dX6_sums_7 : decode cX6_sums 7 = .ok (.bipush (-4), 2) := by decide +kernel
theorem dX6_sums_9 : decode cX6_sums 9 = .ok (.ireturn, 1) := by decide +kernel
theorem dX6_sums_10 : decode cX6_sums 10 = .ok (.iload_n 1, 1) := by decide +kernel
theorem dX6_sums_11 : decode cX6_sums 11 = .ok (.iconst 0, 1) := by decide +kernel
theorem dX6_sums_12 : decode cX6_sums 12 = .ok (.bipush 18, 2) := by decide +kernel
theorem dX6_sums_14 : decode cX6_sums 14 = .ok (.invokestatic 64, 3) := by decide +kernel
theorem dX6_sums_17 : decode cX6_sums 17 = .ok (.ifCond .ne 5, 3) := by decide +kernel
theorem dX6_sums_20 : decode cX6_sums 20 = .ok (.iconst (-1), 1) := by decide +kernel
theorem dX6_sums_21 : decode cX6_sums 21 = .ok (.ireturn, 1) := by decide +kernel
theorem dX6_sums_22 : decode cX6_sums 22 = .ok (.iconst 0, 1) := by decide +kernel
theorem dX6_sums_23 : decode cX6_sums 23 = .ok (.istore_n 2, 1) := by decide +kernel
theorem dX6_sums_24 : decode cX6_sums 24 = .ok (.bipush (-9), 2) := by decide +kernel
theorem dX6_sums_26 : decode cX6_sums 26 = .ok (.istore_n 3, 1) := by decide +kernel
theorem dX6_sums_27 : decode cX6_sums 27 = .ok (.sipush 511, 3) := by decide +kernel
theorem dX6_sums_30 : decode cX6_sums 30 = .ok (.istore 4, 2) := by decide +kernel
theorem dX6_sums_32 : decode cX6_sums 32 = .ok (.iload 4, 2) := by decide +kernel
theorem dX6_sums_34 : decode cX6_sums 34 = .ok (.ifCond .lt 80, 3) := by decide +kernel
theorem dX6_sums_37 : decode cX6_sums 37 = .ok (.iconst 0, 1) := by decide +kernel
theorem dX6_sums_38 : decode cX6_sums 38 = .ok (.istore 5, 2) := by decide +kernel
theorem dX6_sums_40 : decode cX6_sums 40 = .ok (.iconst 0, 1) := by decide +kernel
theorem dX6_sums_41 : decode cX6_sums 41 = .ok (.istore 6, 2) := by decide +kernel
theorem dX6_sums_43 : decode cX6_sums 43 = .ok (.iload 6, 2) := by decide +kernel
theorem dX6_sums_45 : decode cX6_sums 45 = .ok (.bipush 9, 2) := by decide +kernel
theorem dX6_sums_47 : decode cX6_sums 47 = .ok (.if_icmp .ge 34, 3) := by decide +kernel
theorem dX6_sums_50 : decode cX6_sums 50 = .ok (.iload 5, 2) := by decide +kernel
theorem dX6_sums_52 : decode cX6_sums 52 = .ok (.iload 4, 2) := by decide +kernel
theorem dX6_sums_54 : decode cX6_sums 54 = .ok (.iload 6, 2) := by decide +kernel
theorem dX6_sums_56 : decode cX6_sums 56 = .ok (.invokestatic 104, 3) := by decide +kernel
theorem dX6_sums_59 : decode cX6_sums 59 = .ok (.ifCond .eq 12, 3) := by decide +kernel
theorem dX6_sums_62 : decode cX6_sums 62 = .ok (.aload_n 0, 1) := by decide +kernel
theorem dX6_sums_63 : decode cX6_sums 63 = .ok (.iload 6, 2) := by decide +kernel
theorem dX6_sums_65 : decode cX6_sums 65 = .ok (.invokevirtual 118, 3) := by decide +kernel
theorem dX6_sums_68 : decode cX6_sums 68 = .ok (.goto 4, 3) := by decide +kernel
theorem dX6_sums_71 : decode cX6_sums 71 = .ok (.iconst 0, 1) := by decide +kernel
theorem dX6_sums_72 : decode cX6_sums 72 = .ok (.iadd, 1) := by decide +kernel
theorem dX6_sums_73 : decode cX6_sums 73 = .ok (.istore 5, 2) := by decide +kernel
theorem dX6_sums_75 : decode cX6_sums 75 = .ok (.iinc 6 1, 3) := by decide +kernel
theorem dX6_sums_78 : decode cX6_sums 78 = .ok (.goto (-35), 3) := by decide +kernel
theorem dX6_sums_81 : decode cX6_sums 81 = .ok (.iload_n 2, 1) := by decide +kernel
theorem dX6_sums_82 : decode cX6_sums 82 = .ok (.iload 5, 2) := by decide +kernel
theorem dX6_sums_84 : decode cX6_sums 84 = .ok (.iload_n 1, 1) := by decide +kernel
theorem dX6_sums_85 : decode cX6_sums 85 = .ok (.if_icmp .ne 7, 3) := by decide +kernel
theorem dX6_sums_88 : decode cX6_sums 88 = .ok (.iconst 1, 1) := by decide +kernel
theorem dX6_sums_89 : decode cX6_sums 89 = .ok (.goto 4, 3) := by decide +kernel
theorem dX6_sums_92 : decode cX6_sums 92 = .ok (.iconst 0, 1) := by decide +kernel
theorem dX6_sums_93 : decode cX6_sums 93 = .ok (.iadd, 1) := by decide +kernel
theorem dX6_sums_94 : decode cX6_sums 94 = .ok (.istore_n 2, 1) := by decide +kernel
theorem dX6_sums_95 : decode cX6_sums 95 = .ok (.iload 5, 2) := by decide +kernel
theorem dX6_sums_97 : decode cX6_sums 97 = .ok (.iload_n 1, 1) := by decide +kernel
theorem dX6_sums_98 : decode cX6_sums 98 = .ok (.if_icmp .ne 8, 3) := by decide +kernel
theorem dX6_sums_101 : decode cX6_sums 101 = .ok (.iload 4, 2) := by decide +kernel
theorem dX6_sums_103 : decode cX6_sums 103 = .ok (.goto 4, 3) := by decide +kernel
theorem dX6_sums_106 : decode cX6_sums 106 = .ok (.iload_n 3, 1) := by decide +kernel
theorem dX6_sums_107 : decode cX6_sums 107 = .ok (.istore_n 3, 1) := by decide +kernel
theorem dX6_sums_108 : decode cX6_sums 108 = .ok (.iinc 4 (-1), 3) := by decide +kernel
theorem dX6_sums_111 : decode cX6_sums 111 = .ok (.goto (-79), 3) := by decide +kernel
theorem dX6_sums_114 : decode cX6_sums 114 = .ok (.aload_n 0, 1) := by decide +kernel
theorem dX6_sums_115 : decode cX6_sums 115 = .ok (.iload_n 2, 1) := by decide +kernel
theorem dX6_sums_116 : decode cX6_sums 116 = .ok (.i2l, 1) := by decide +kernel
theorem dX6_sums_117 : decode cX6_sums 117 = .ok (.putfield 61, 3) := by decide +kernel
theorem dX6_sums_120 : decode cX6_sums 120 = .ok (.aload_n 0, 1) := by decide +kernel
theorem dX6_sums_121 : decode cX6_sums 121 = .ok (.lconst 1, 1) := by decide +kernel
theorem dX6_sums_122 : decode cX6_sums 122 = .ok (.putfield 13, 3) := by decide +kernel
theorem dX6_sums_125 : decode cX6_sums 125 = .ok (.aload_n 0, 1) := by decide +kernel
theorem dX6_sums_126 : decode cX6_sums 126 = .ok (.iload_n 3, 1) := by decide +kernel
theorem dX6_sums_127 : decode cX6_sums 127 = .ok (.invokevirtual 76, 3) := by decide +kernel
theorem dX6_sums_130 : decode cX6_sums 130 = .ok (.ireturn, 1) := by decide +kernel
theorem dX6_worthOf_0 : decode cX6_worthOf 0 = .ok (.aload_n 0, 1) := by decide +kernel
theorem dX6_worthOf_1 : decode cX6_worthOf 1 = .ok (.invokevirtual 151, 3) := by decide +kernel
theorem dX6_worthOf_4 : decode cX6_worthOf 4 = .ok (.iconst 1, 1) := by decide +kernel
theorem dX6_worthOf_5 : decode cX6_worthOf 5 = .ok (.istore 4, 2) := by decide +kernel
theorem dX6_worthOf_7 : decode cX6_worthOf 7 = .ok (.iconst 1, 1) := by decide +kernel
theorem dX6_worthOf_8 : decode cX6_worthOf 8 = .ok (.istore 5, 2) := by decide +kernel
theorem dX6_worthOf_10 : decode cX6_worthOf 10 = .ok (.iload 5, 2) := by decide +kernel
theorem dX6_worthOf_12 : decode cX6_worthOf 12 = .ok (.iload_n 2, 1) := by decide +kernel
theorem dX6_worthOf_13 : decode cX6_worthOf 13 = .ok (.if_icmp .ge 16, 3) := by decide +kernel
theorem dX6_worthOf_16 : decode cX6_worthOf 16 = .ok (.iload 4, 2) := by decide +kernel
theorem dX6_worthOf_18 : decode cX6_worthOf 18 = .ok (.bipush 10, 2) := by decide +kernel
theorem dX6_worthOf_20 : decode cX6_worthOf 20 = .ok (.imul, 1) := by decide +kernel
theorem dX6_worthOf_21 : decode cX6_worthOf 21 = .ok (.istore 4, 2) := by decide +kernel
theorem dX6_worthOf_23 : decode cX6_worthOf 23 = .ok (.iinc 5 1, 3) := by decide +kernel
theorem dX6_worthOf_26 : decode cX6_worthOf 26 = .ok (.goto (-16), 3) := by decide +kernel
theorem dX6_worthOf_29 : decode cX6_worthOf 29 = .ok (.iconst 0, 1) := by decide +kernel
theorem dX6_worthOf_30 : decode cX6_worthOf 30 = .ok (.istore 5, 2) := by decide +kernel
theorem dX6_worthOf_32 : decode cX6_worthOf 32 = .ok (.iload 5, 2) := by decide +kernel
theorem dX6_worthOf_34 : decode cX6_worthOf 34 = .ok (.iload_n 2, 1) := by decide +kernel
theorem dX6_worthOf_35 : decode cX6_worthOf 35 = .ok (.if_icmp .ge 44, 3) := by decide +kernel
theorem dX6_worthOf_38 : decode cX6_worthOf 38 = .ok (.iload_n 1, 1) := by decide +kernel
theorem dX6_worthOf_39 : decode cX6_worthOf 39 = .ok (.iload 4, 2) := by decide +kernel
theorem dX6_worthOf_41 : decode cX6_worthOf 41 = .ok (.idiv, 1) := by decide +kernel
theorem dX6_worthOf_42 : decode cX6_worthOf 42 = .ok (.bipush 10, 2) := by decide +kernel
theorem dX6_worthOf_44 : decode cX6_worthOf 44 = .ok (.irem, 1) := by decide +kernel
theorem dX6_worthOf_45 : decode cX6_worthOf 45 = .ok (.istore 6, 2) := by decide +kernel
theorem dX6_worthOf_47 : decode cX6_worthOf 47 = .ok (.iload 6, 2) := by decide +kernel
theorem dX6_worthOf_49 : decode cX6_worthOf 49 = .ok (.bipush 9, 2) := by decide +kernel
theorem dX6_worthOf_51 : decode cX6_worthOf 51 = .ok (.if_icmp .ge 15, 3) := by decide +kernel
theorem dX6_worthOf_54 : decode cX6_worthOf 54 = .ok (.aload_n 0, 1) := by decide +kernel
theorem dX6_worthOf_55 : decode cX6_worthOf 55 = .ok (.aload_n 0, 1) := by decide +kernel
theorem dX6_worthOf_56 : decode cX6_worthOf 56 = .ok (.getfield 48, 3) := by decide +kernel
theorem dX6_worthOf_59 : decode cX6_worthOf 59 = .ok (.iconst 0, 1) := by decide +kernel
theorem dX6_worthOf_60 : decode cX6_worthOf 60 = .ok (.iload 6, 2) := by decide +kernel
theorem dX6_worthOf_62 : decode cX6_worthOf 62 = .ok (.iconst 0, 1) := by decide +kernel
theorem dX6_worthOf_63 : decode cX6_worthOf 63 = .ok (.invokevirtual 144, 3) := by decide +kernel
theorem dX6_worthOf_66 : decode cX6_worthOf 66 = .ok (.iload 4, 2) := by decide +kernel
theorem dX6_worthOf_68 : decode cX6_worthOf 68 = .ok (.bipush 10, 2) := by decide +kernel
theorem dX6_worthOf_70 : decode cX6_worthOf 70 = .ok (.idiv, 1) := by decide +kernel
theorem dX6_worthOf_71 : decode cX6_worthOf 71 = .ok (.istore 4, 2) := by decide +kernel
theorem dX6_worthOf_73 : decode cX6_worthOf 73 = .ok (.iinc 5 1, 3) := by decide +kernel
theorem dX6_worthOf_76 : decode cX6_worthOf 76 = .ok (.goto (-44), 3) := by decide +kernel
theorem dX6_worthOf_79 : decode cX6_worthOf 79 = .ok (.aload_n 0, 1) := by decide +kernel
theorem dX6_worthOf_80 : decode cX6_worthOf 80 = .ok (.aload_n 0, 1) := by decide +kernel
theorem dX6_worthOf_81 : decode cX6_worthOf 81 = .ok (.getfield 48, 3) := by decide +kernel
theorem dX6_worthOf_84 : decode cX6_worthOf 84 = .ok (.iconst 0, 1) := by decide +kernel
theorem dX6_worthOf_85 : decode cX6_worthOf 85 = .ok (.invokevirtual 110, 3) := by decide +kernel
theorem dX6_worthOf_88 : decode cX6_worthOf 88 = .ok (.istore 5, 2) := by decide +kernel
theorem dX6_worthOf_90 : decode cX6_worthOf 90 = .ok (.iload 5, 2) := by decide +kernel
theorem dX6_worthOf_92 : decode cX6_worthOf 92 = .ok (.iload_n 3, 1) := by decide +kernel
theorem dX6_worthOf_93 : decode cX6_worthOf 93 = .ok (.iand, 1) := by decide +kernel
theorem dX6_worthOf_94 : decode cX6_worthOf 94 = .ok (.invokestatic 135, 3) := by decide +kernel
theorem dX6_worthOf_97 : decode cX6_worthOf 97 = .ok (.iload 5, 2) := by decide +kernel
theorem dX6_worthOf_99 : decode cX6_worthOf 99 = .ok (.iload_n 3, 1) := by decide +kernel
theorem dX6_worthOf_100 : decode cX6_worthOf 100 = .ok (.iconst (-1), 1) := by decide +kernel
theorem dX6_worthOf_101 : decode cX6_worthOf 101 = .ok (.ixor, 1) := by decide +kernel
theorem dX6_worthOf_102 : decode cX6_worthOf 102 = .ok (.iand, 1) := by decide +kernel
theorem dX6_worthOf_103 : decode cX6_worthOf 103 = .ok (.invokestatic 135, 3) := by decide +kernel
theorem dX6_worthOf_106 : decode cX6_worthOf 106 = .ok (.isub, 1) := by decide +kernel
theorem dX6_worthOf_107 : decode cX6_worthOf 107 = .ok (.ireturn, 1) := by decide +kernel
theorem dX6_duel_0 : decode cX6_duel 0 = .ok (.aload_n 0, 1) := by decide +kernel
theorem dX6_duel_1 : decode cX6_duel 1 = .ok (.getfield 94, 3) := by decide +kernel
theorem dX6_duel_4 : decode cX6_duel 4 = .ok (.ifCond .ne 6, 3) := by decide +kernel
theorem dX6_duel_7 : decode cX6_duel 7 = .ok (.bipush (-4), 2) := by decide +kernel
theorem dX6_duel_9 : decode cX6_duel 9 = .ok (.ireturn, 1) := by decide +kernel
theorem dX6_duel_10 : decode cX6_duel 10 = .ok (.iload_n 1, 1) := by decide +kernel
theorem dX6_duel_11 : decode cX6_duel 11 = .ok (.invokestatic 157, 3) := by decide +kernel
theorem dX6_duel_14 : decode cX6_duel 14 = .ok (.ifCond .eq 12, 3) := by decide +kernel
theorem dX6_duel_17 : decode cX6_duel 17 = .ok (.iload_n 2, 1) := by decide +kernel
theorem dX6_duel_18 : decode cX6_duel 18 = .ok (.iconst 0, 1) := by decide +kernel
theorem dX6_duel_19 : decode cX6_duel 19 = .ok (.iconst 2, 1) := by decide +kernel
theorem dX6_duel_20 : decode cX6_duel 20 = .ok (.invokestatic 64, 3) := by decide +kernel
theorem dX6_duel_23 : decode cX6_duel 23 = .ok (.ifCond .ne 5, 3) := by decide +kernel
theorem dX6_duel_26 : decode cX6_duel 26 = .ok (.iconst (-1), 1) := by decide +kernel
theorem dX6_duel_27 : decode cX6_duel 27 = .ok (.ireturn, 1) := by decide +kernel
theorem dX6_duel_28 : decode cX6_duel 28 = .ok (.iconst 1, 1) := by decide +kernel
theorem dX6_duel_29 : decode cX6_duel 29 = .ok (.istore_n 3, 1) := by decide +kernel
theorem dX6_duel_30 : decode cX6_duel 30 = .ok (.iconst 0, 1) := by decide +kernel
theorem dX6_duel_31 : decode cX6_duel 31 = .ok (.istore 4, 2) := by decide +kernel
theorem dX6_duel_33 : decode cX6_duel 33 = .ok (.iload 4, 2) := by decide +kernel
theorem dX6_duel_35 : decode cX6_duel 35 = .ok (.iconst 2, 1) := by decide +kernel
theorem dX6_duel_36 : decode cX6_duel 36 = .ok (.iload_n 2, 1) := by decide +kernel
theorem dX6_duel_37 : decode cX6_duel 37 = .ok (.imul, 1) := by decide +kernel
theorem dX6_duel_38 : decode cX6_duel 38 = .ok (.if_icmp .ge 14, 3) := by decide +kernel
theorem dX6_duel_41 : decode cX6_duel 41 = .ok (.iload_n 3, 1) := by decide +kernel
theorem dX6_duel_42 : decode cX6_duel 42 = .ok (.bipush 10, 2) := by decide +kernel
theorem dX6_duel_44 : decode cX6_duel 44 = .ok (.imul, 1) := by decide +kernel
theorem dX6_duel_45 : decode cX6_duel 45 = .ok (.istore_n 3, 1) := by decide +kernel
theorem dX6_duel_46 : decode cX6_duel 46 = .ok (.iinc 4 1, 3) := by decide +kernel
theorem dX6_duel_49 : decode cX6_duel 49 = .ok (.goto (-16), 3) := by decide +kernel
theorem dX6_duel_52 : decode cX6_duel 52 = .ok (.iconst 0, 1) := by decide +kernel
theorem dX6_duel_53 : decode cX6_duel 53 = .ok (.istore 4, 2) := by decide +kernel
theorem dX6_duel_55 : decode cX6_duel 55 = .ok (.iload 4, 2) := by decide +kernel
theorem dX6_duel_57 : decode cX6_duel 57 = .ok (.iload_n 3, 1) := by decide +kernel
theorem dX6_duel_58 : decode cX6_duel 58 = .ok (.if_icmp .ge 26, 3) := by decide +kernel
theorem dX6_duel_61 : decode cX6_duel 61 = .ok (.aload_n 0, 1) := by decide +kernel
theorem dX6_duel_62 : decode cX6_duel 62 = .ok (.getfield 51, 3) := by decide +kernel
theorem dX6_duel_65 : decode cX6_duel 65 = .ok (.iload 4, 2) := by decide +kernel
theorem dX6_duel_67 : decode cX6_duel 67 = .ok (.aload_n 0, 1) := by decide +kernel
theorem dX6_duel_68 : decode cX6_duel 68 = .ok (.iload 4, 2) := by decide +kernel
theorem dX6_duel_70 : decode cX6_duel 70 = .ok (.iconst 2, 1) := by decide +kernel
theorem dX6_duel_71 : decode cX6_duel 71 = .ok (.iload_n 2, 1) := by decide +kernel
theorem dX6_duel_72 : decode cX6_duel 72 = .ok (.imul, 1) := by decide +kernel
theorem dX6_duel_73 : decode cX6_duel 73 = .ok (.iload_n 1, 1) := by decide +kernel
theorem dX6_duel_74 : decode cX6_duel 74 = .ok (.invokevirtual 178, 3) := by decide +kernel
theorem dX6_duel_77 : decode cX6_duel 77 = .ok (.iastore, 1) := by decide +kernel
theorem dX6_duel_78 : decode cX6_duel 78 = .ok (.iinc 4 1, 3) := by decide +kernel
theorem dX6_duel_81 : decode cX6_duel 81 = .ok (.goto (-26), 3) := by decide +kernel
theorem dX6_duel_84 : decode cX6_duel 84 = .ok (.iconst 2, 1) := by decide +kernel
theorem dX6_duel_85 : decode cX6_duel 85 = .ok (.iload_n 2, 1) := by decide +kernel
theorem dX6_duel_86 : decode cX6_duel 86 = .ok (.imul, 1) := by decide +kernel
theorem dX6_duel_87 : decode cX6_duel 87 = .ok (.iconst 1, 1) := by decide +kernel
theorem dX6_duel_88 : decode cX6_duel 88 = .ok (.isub, 1) := by decide +kernel
theorem dX6_duel_89 : decode cX6_duel 89 = .ok (.istore 4, 2) := by decide +kernel
theorem dX6_duel_91 : decode cX6_duel 91 = .ok (.iload 4, 2) := by decide +kernel
theorem dX6_duel_93 : decode cX6_duel 93 = .ok (.ifCond .lt 131, 3) := by decide +kernel
theorem dX6_duel_96 : decode cX6_duel 96 = .ok (.iload_n 3, 1) := by decide +kernel
theorem dX6_duel_97 : decode cX6_duel 97 = .ok (.bipush 10, 2) := by decide +kernel
theorem dX6_duel_99 : decode cX6_duel 99 = .ok (.idiv, 1) := by decide +kernel
theorem dX6_duel_100 : decode cX6_duel 100 = .ok (.istore_n 3, 1) := by decide +kernel
theorem dX6_duel_101 : decode cX6_duel 101 = .ok (.iconst 0, 1) := by decide +kernel
theorem dX6_duel_102 : decode cX6_duel 102 = .ok (.istore 5, 2) := by decide +kernel
theorem dX6_duel_104 : decode cX6_duel 104 = .ok (.iload 5, 2) := by decide +kernel
theorem dX6_duel_106 : decode cX6_duel 106 = .ok (.iload_n 3, 1) := by decide +kernel
theorem dX6_duel_107 : decode cX6_duel 107 = .ok (.if_icmp .ge 111, 3) := by decide +kernel
theorem dX6_duel_110 : decode cX6_duel 110 = .ok (.aload_n 0, 1) := by decide +kernel
theorem dX6_duel_111 : decode cX6_duel 111 = .ok (.getfield 51, 3) := by decide +kernel
theorem dX6_duel_114 : decode cX6_duel 114 = .ok (.bipush 10, 2) := by decide +kernel
theorem dX6_duel_116 : decode cX6_duel 116 = .ok (.iload 5, 2) := by decide +kernel
theorem dX6_duel_118 : decode cX6_duel 118 = .ok (.imul, 1) := by decide +kernel
theorem dX6_duel_119 : decode cX6_duel 119 = .ok (.iaload, 1) := by decide +kernel
theorem dX6_duel_120 : decode cX6_duel 120 = .ok (.istore 6, 2) := by decide +kernel
theorem dX6_duel_122 : decode cX6_duel 122 = .ok (.iconst 1, 1) := by decide +kernel
theorem dX6_duel_123 : decode cX6_duel 123 = .ok (.istore 7, 2) := by decide +kernel
theorem dX6_duel_125 : decode cX6_duel 125 = .ok (.iload 7, 2) := by decide +kernel
theorem dX6_duel_127 : decode cX6_duel 127 = .ok (.bipush 10, 2) := by decide +kernel
theorem dX6_duel_129 : decode cX6_duel 129 = .ok (.if_icmp .ge 74, 3) := by decide +kernel
theorem dX6_duel_132 : decode cX6_duel 132 = .ok (.aload_n 0, 1) := by decide +kernel
theorem dX6_duel_133 : decode cX6_duel 133 = .ok (.getfield 51, 3) := by decide +kernel
theorem dX6_duel_136 : decode cX6_duel 136 = .ok (.bipush 10, 2) := by decide +kernel
theorem dX6_duel_138 : decode cX6_duel 138 = .ok (.iload 5, 2) := by decide +kernel
theorem dX6_duel_140 : decode cX6_duel 140 = .ok (.imul, 1) := by decide +kernel
theorem dX6_duel_141 : decode cX6_duel 141 = .ok (.iload 7, 2) := by decide +kernel
theorem dX6_duel_143 : decode cX6_duel 143 = .ok (.iadd, 1) := by decide +kernel
theorem dX6_duel_144 : decode cX6_duel 144 = .ok (.iaload, 1) := by decide +kernel
theorem dX6_duel_145 : decode cX6_duel 145 = .ok (.istore 8, 2) := by decide +kernel
theorem dX6_duel_147 : decode cX6_duel 147 = .ok (.iload 4, 2) := by decide +kernel
theorem dX6_duel_149 : decode cX6_duel 149 = .ok (.iconst 2, 1) := by decide +kernel
theorem dX6_duel_150 : decode cX6_duel 150 = .ok (.irem, 1) := by decide +kernel
theorem dX6_duel_151 : decode cX6_duel 151 = .ok (.ifCond .ne 18, 3) := by decide +kernel
theorem dX6_duel_154 : decode cX6_duel 154 = .ok (.iload 8, 2) := by decide +kernel
theorem dX6_duel_156 : decode cX6_duel 156 = .ok (.iload 6, 2) := by decide +kernel
theorem dX6_duel_158 : decode cX6_duel 158 = .ok (.if_icmp .le 7, 3) := by decide +kernel
theorem dX6_duel_161 : decode cX6_duel 161 = .ok (.iconst 1, 1) := by decide +kernel
theorem dX6_duel_162 : decode cX6_duel 162 = .ok (.goto 19, 3) := by decide +kernel
theorem dX6_duel_165 : decode cX6_duel 165 = .ok (.iconst 0, 1) := by decide +kernel
theorem dX6_duel_166 : decode cX6_duel 166 = .ok (.goto 15, 3) := by decide +kernel
theorem dX6_duel_169 : decode cX6_duel 169 = .ok (.iload 8, 2) := by decide +kernel
theorem dX6_duel_171 : decode cX6_duel 171 = .ok (.iload 6, 2) := by decide +kernel
theorem dX6_duel_173 : decode cX6_duel 173 = .ok (.if_icmp .ge 7, 3) := by decide +kernel
theorem dX6_duel_176 : decode cX6_duel 176 = .ok (.iconst 1, 1) := by decide +kernel
theorem dX6_duel_177 : decode cX6_duel 177 = .ok (.goto 4, 3) := by decide +kernel
theorem dX6_duel_180 : decode cX6_duel 180 = .ok (.iconst 0, 1) := by decide +kernel
theorem dX6_duel_181 : decode cX6_duel 181 = .ok (.istore 9, 2) := by decide +kernel
theorem dX6_duel_183 : decode cX6_duel 183 = .ok (.iload 9, 2) := by decide +kernel
theorem dX6_duel_185 : decode cX6_duel 185 = .ok (.ifCond .eq 8, 3) := by decide +kernel
theorem dX6_duel_188 : decode cX6_duel 188 = .ok (.iload 8, 2) := by decide +kernel
theorem dX6_duel_190 : decode cX6_duel 190 = .ok (.goto 5, 3) := by decide +kernel
theorem dX6_duel_193 : decode cX6_duel 193 = .ok (.iload 6, 2) := by decide +kernel
theorem dX6_duel_195 : decode cX6_duel 195 = .ok (.istore 6, 2) := by decide +kernel
theorem dX6_duel_197 : decode cX6_duel 197 = .ok (.iinc 7 1, 3) := by decide +kernel
theorem dX6_duel_200 : decode cX6_duel 200 = .ok (.goto (-75), 3) := by decide +kernel
theorem dX6_duel_203 : decode cX6_duel 203 = .ok (.aload_n 0, 1) := by decide +kernel
theorem dX6_duel_204 : decode cX6_duel 204 = .ok (.getfield 51, 3) := by decide +kernel
theorem dX6_duel_207 : decode cX6_duel 207 = .ok (.iload 5, 2) := by decide +kernel
theorem dX6_duel_209 : decode cX6_duel 209 = .ok (.iload 6, 2) := by decide +kernel
theorem dX6_duel_211 : decode cX6_duel 211 = .ok (.iastore, 1) := by decide +kernel
theorem dX6_duel_212 : decode cX6_duel 212 = .ok (.iinc 5 1, 3) := by decide +kernel
theorem dX6_duel_215 : decode cX6_duel 215 = .ok (.goto (-111), 3) := by decide +kernel
theorem dX6_duel_218 : decode cX6_duel 218 = .ok (.iinc 4 (-1), 3) := by decide +kernel
theorem dX6_duel_221 : decode cX6_duel 221 = .ok (.goto (-130), 3) := by decide +kernel
theorem dX6_duel_224 : decode cX6_duel 224 = .ok (.aload_n 0, 1) := by decide +kernel
theorem dX6_duel_225 : decode cX6_duel 225 = .ok (.aload_n 0, 1) := by decide +kernel
theorem dX6_duel_226 : decode cX6_duel 226 = .ok (.getfield 51, 3) := by decide +kernel
theorem dX6_duel_229 : decode cX6_duel 229 = .ok (.iconst 0, 1) := by decide +kernel
theorem dX6_duel_230 : decode cX6_duel 230 = .ok (.iaload, 1) := by decide +kernel
theorem dX6_duel_231 : decode cX6_duel 231 = .ok (.invokevirtual 76, 3) := by decide +kernel
theorem dX6_duel_234 : decode cX6_duel 234 = .ok (.ireturn, 1) := by decide +kernel
theorem dX6_waysOf_0 : decode cX6_waysOf 0 = .ok (.iload_n 2, 1) := by decide +kernel
theorem dX6_waysOf_1 : decode cX6_waysOf 1 = .ok (.iload_n 1, 1) := by decide +kernel
theorem dX6_waysOf_2 : decode cX6_waysOf 2 = .ok (.iconst (-1), 1) := by decide +kernel
theorem dX6_waysOf_3 : decode cX6_waysOf 3 = .ok (.ixor, 1) := by decide +kernel
theorem dX6_waysOf_4 : decode cX6_waysOf 4 = .ok (.iand, 1) := by decide +kernel
theorem dX6_waysOf_5 : decode cX6_waysOf 5 = .ok (.ifCond .ne 7, 3) := by decide +kernel
theorem dX6_waysOf_8 : decode cX6_waysOf 8 = .ok (.lconst 1, 1) := by decide +kernel
theorem dX6_waysOf_9 : decode cX6_waysOf 9 = .ok (.goto 4, 3) := by decide +kernel
theorem dX6_waysOf_12 : decode cX6_waysOf 12 = .ok (.lconst 0, 1) := by decide +kernel
theorem dX6_waysOf_13 : decode cX6_waysOf 13 = .ok (.lstore 4, 2) := by decide +kernel
theorem dX6_waysOf_15 : decode cX6_waysOf 15 = .ok (.iconst 0, 1) := by decide +kernel
theorem dX6_waysOf_16 : decode cX6_waysOf 16 = .ok (.istore 6, 2) := by decide +kernel
theorem dX6_waysOf_18 : decode cX6_waysOf 18 = .ok (.iload 6, 2) := by decide +kernel
theorem dX6_waysOf_20 : decode cX6_waysOf 20 = .ok (.bipush 9, 2) := by decide +kernel
theorem dX6_waysOf_22 : decode cX6_waysOf 22 = .ok (.if_icmp .ge 47, 3) := by decide +kernel
theorem dX6_waysOf_25 : decode cX6_waysOf 25 = .ok (.lload 4, 2) := by decide +kernel
theorem dX6_waysOf_27 : decode cX6_waysOf 27 = .ok (.iload_n 1, 1) := by decide +kernel
theorem dX6_waysOf_28 : decode cX6_waysOf 28 = .ok (.iload 6, 2) := by decide +kernel
theorem dX6_waysOf_30 : decode cX6_waysOf 30 = .ok (.invokestatic 104, 3) := by decide +kernel
theorem dX6_waysOf_33 : decode cX6_waysOf 33 = .ok (.ifCond .ne 7, 3) := by decide +kernel
theorem dX6_waysOf_36 : decode cX6_waysOf 36 = .ok (.lconst 1, 1) := by decide +kernel
theorem dX6_waysOf_37 : decode cX6_waysOf 37 = .ok (.goto 23, 3) := by decide +kernel
theorem dX6_waysOf_40 : decode cX6_waysOf 40 = .ok (.iload_n 2, 1) := by decide +kernel
theorem dX6_waysOf_41 : decode cX6_waysOf 41 = .ok (.iload 6, 2) := by decide +kernel
theorem dX6_waysOf_43 : decode cX6_waysOf 43 = .ok (.invokestatic 104, 3) := by decide +kernel
theorem dX6_waysOf_46 : decode cX6_waysOf 46 = .ok (.ifCond .eq 8, 3) := by decide +kernel
theorem dX6_waysOf_49 : decode cX6_waysOf 49 = .ok (.iload_n 3, 1) := by decide +kernel
theorem dX6_waysOf_50 : decode cX6_waysOf 50 = .ok (.i2l, 1) := by decide +kernel
theorem dX6_waysOf_51 : decode cX6_waysOf 51 = .ok (.goto 9, 3) := by decide +kernel
theorem dX6_waysOf_54 : decode cX6_waysOf 54 = .ok (.ldc2_w 182, 3) := by decide +kernel
theorem dX6_waysOf_57 : decode cX6_waysOf 57 = .ok (.iload_n 3, 1) := by decide +kernel
theorem dX6_waysOf_58 : decode cX6_waysOf 58 = .ok (.i2l, 1) := by decide +kernel
theorem dX6_waysOf_59 : decode cX6_waysOf 59 = .ok (.lsub, 1) := by decide +kernel
theorem dX6_waysOf_60 : decode cX6_waysOf 60 = .ok (.lmul, 1) := by decide +kernel
theorem dX6_waysOf_61 : decode cX6_waysOf 61 = .ok (.lstore 4, 2) := by decide +kernel
theorem dX6_waysOf_63 : decode cX6_waysOf 63 = .ok (.iinc 6 1, 3) := by decide +kernel
theorem dX6_waysOf_66 : decode cX6_waysOf 66 = .ok (.goto (-48), 3) := by decide +kernel
theorem dX6_waysOf_69 : decode cX6_waysOf 69 = .ok (.lload 4, 2) := by decide +kernel
theorem dX6_waysOf_71 : decode cX6_waysOf 71 = .ok (.lreturn, 1) := by decide +kernel
theorem dX6_allWays_0 : decode cX6_allWays 0 = .ok (.lconst 1, 1) := by decide +kernel
theorem dX6_allWays_1 : decode cX6_allWays 1 = .ok (.lstore_n 2, 1) := by decide +kernel
theorem dX6_allWays_2 : decode cX6_allWays 2 = .ok (.iconst 0, 1) := by decide +kernel
theorem dX6_allWays_3 : decode cX6_allWays 3 = .ok (.istore 4, 2) := by decide +kernel
theorem dX6_allWays_5 : decode cX6_allWays 5 = .ok (.iload 4, 2) := by decide +kernel
theorem dX6_allWays_7 : decode cX6_allWays 7 = .ok (.iload_n 1, 1) := by decide +kernel
theorem dX6_allWays_8 : decode cX6_allWays 8 = .ok (.invokestatic 135, 3) := by decide +kernel
theorem dX6_allWays_11 : decode cX6_allWays 11 = .ok (.if_icmp .ge 15, 3) := by decide +kernel
theorem dX6_allWays_14 : decode cX6_allWays 14 = .ok (.lload_n 2, 1) := by decide +kernel
theorem dX6_allWays_15 : decode cX6_allWays 15 = .ok (.ldc2_w 182, 3) := by decide +kernel
theorem dX6_allWays_18 : decode cX6_allWays 18 = .ok (.lmul, 1) := by decide +kernel
theorem dX6_allWays_19 : decode cX6_allWays 19 = .ok (.lstore_n 2, 1) := by decide +kernel
theorem dX6_allWays_20 : decode cX6_allWays 20 = .ok (.iinc 4 1, 3) := by decide +kernel
theorem dX6_allWays_23 : decode cX6_allWays 23 = .ok (.goto (-18), 3) := by decide +kernel
theorem dX6_allWays_26 : decode cX6_allWays 26 = .ok (.lload_n 2, 1) := by decide +kernel
theorem dX6_allWays_27 : decode cX6_allWays 27 = .ok (.lreturn, 1) := by decide +kernel
theorem dX6_shownBut_0 : decode cX6_shownBut 0 = .ok (.aload_n 0, 1) := by decide +kernel
theorem dX6_shownBut_1 : decode cX6_shownBut 1 = .ok (.invokevirtual 151, 3) := by decide +kernel
theorem dX6_shownBut_4 : decode cX6_shownBut 4 = .ok (.aload_n 0, 1) := by decide +kernel
theorem dX6_shownBut_5 : decode cX6_shownBut 5 = .ok (.aload_n 0, 1) := by decide +kernel
theorem dX6_shownBut_6 : decode cX6_shownBut 6 = .ok (.getfield 48, 3) := by decide +kernel
theorem dX6_shownBut_9 : decode cX6_shownBut 9 = .ok (.iconst 0, 1) := by decide +kernel
theorem dX6_shownBut_10 : decode cX6_shownBut 10 = .ok (.iload_n 1, 1) := by decide +kernel
theorem dX6_shownBut_11 : decode cX6_shownBut 11 = .ok (.iload_n 2, 1) := by decide +kernel
theorem dX6_shownBut_12 : decode cX6_shownBut 12 = .ok (.invokevirtual 144, 3) := by decide +kernel
theorem dX6_shownBut_15 : decode cX6_shownBut 15 = .ok (.aload_n 0, 1) := by decide +kernel
theorem dX6_shownBut_16 : decode cX6_shownBut 16 = .ok (.aload_n 0, 1) := by decide +kernel
theorem dX6_shownBut_17 : decode cX6_shownBut 17 = .ok (.getfield 48, 3) := by decide +kernel
theorem dX6_shownBut_20 : decode cX6_shownBut 20 = .ok (.iconst 0, 1) := by decide +kernel
theorem dX6_shownBut_21 : decode cX6_shownBut 21 = .ok (.invokevirtual 110, 3) := by decide +kernel
theorem dX6_shownBut_24 : decode cX6_shownBut 24 = .ok (.ireturn, 1) := by decide +kernel
theorem dX6_odds_0 : decode cX6_odds 0 = .ok (.aload_n 0, 1) := by decide +kernel
theorem dX6_odds_1 : decode cX6_odds 1 = .ok (.getfield 94, 3) := by decide +kernel
theorem dX6_odds_4 : decode cX6_odds 4 = .ok (.ifCond .ne 6, 3) := by decide +kernel
theorem dX6_odds_7 : decode cX6_odds 7 = .ok (.bipush (-4), 2) := by decide +kernel
theorem dX6_odds_9 : decode cX6_odds 9 = .ok (.ireturn, 1) := by decide +kernel
theorem dX6_odds_10 : decode cX6_odds 10 = .ok (.iload_n 1, 1) := by decide +kernel
theorem dX6_odds_11 : decode cX6_odds 11 = .ok (.invokestatic 138, 3) := by decide +kernel
theorem dX6_odds_14 : decode cX6_odds 14 = .ok (.ifCond .eq 20, 3) := by decide +kernel
theorem dX6_odds_17 : decode cX6_odds 17 = .ok (.iload_n 2, 1) := by decide +kernel
theorem dX6_odds_18 : decode cX6_odds 18 = .ok (.invokestatic 157, 3) := by decide +kernel
theorem dX6_odds_21 : decode cX6_odds 21 = .ok (.ifCond .eq 13, 3) := by decide +kernel
theorem dX6_odds_24 : decode cX6_odds 24 = .ok (.iload_n 3, 1) := by decide +kernel
theorem dX6_odds_25 : decode cX6_odds 25 = .ok (.iconst 0, 1) := by decide +kernel
theorem dX6_odds_26 : decode cX6_odds 26 = .ok (.bipush 12, 2) := by decide +kernel
theorem dX6_odds_28 : decode cX6_odds 28 = .ok (.invokestatic 64, 3) := by decide +kernel
theorem dX6_odds_31 : decode cX6_odds 31 = .ok (.ifCond .ne 5, 3) := by decide +kernel
theorem dX6_odds_34 : decode cX6_odds 34 = .ok (.iconst (-1), 1) := by decide +kernel
theorem dX6_odds_35 : decode cX6_odds 35 = .ok (.ireturn, 1) := by decide +kernel
theorem dX6_odds_36 : decode cX6_odds 36 = .ok (.iload_n 1, 1) := by decide +kernel
theorem dX6_odds_37 : decode cX6_odds 37 = .ok (.invokestatic 125, 3) := by decide +kernel
theorem dX6_odds_40 : decode cX6_odds 40 = .ok (.aload_n 0, 1) := by decide +kernel
theorem dX6_odds_41 : decode cX6_odds 41 = .ok (.bipush 10, 2) := by decide +kernel
theorem dX6_odds_43 : decode cX6_odds 43 = .ok (.invokevirtual 118, 3) := by decide +kernel
theorem dX6_odds_46 : decode cX6_odds 46 = .ok (.iconst (-1), 1) := by decide +kernel
theorem dX6_odds_47 : decode cX6_odds 47 = .ok (.ixor, 1) := by decide +kernel
theorem dX6_odds_48 : decode cX6_odds 48 = .ok (.iand, 1) := by decide +kernel
theorem dX6_odds_49 : decode cX6_odds 49 = .ok (.istore 4, 2) := by decide +kernel
theorem dX6_odds_51 : decode cX6_odds 51 = .ok (.lconst 0, 1) := by decide +kernel
theorem dX6_odds_52 : decode cX6_odds 52 = .ok (.lstore 5, 2) := by decide +kernel
theorem dX6_odds_54 : decode cX6_odds 54 = .ok (.iconst 0, 1) := by decide +kernel
theorem dX6_odds_55 : decode cX6_odds 55 = .ok (.istore 7, 2) := by decide +kernel
theorem dX6_odds_57 : decode cX6_odds 57 = .ok (.iload 7, 2) := by decide +kernel
theorem dX6_odds_59 : decode cX6_odds 59 = .ok (.sipush 512, 3) := by decide +kernel
theorem dX6_odds_62 : decode cX6_odds 62 = .ok (.if_icmp .ge 49, 3) := by decide +kernel
theorem dX6_odds_65 : decode cX6_odds 65 = .ok (.aload_n 0, 1) := by decide +kernel
theorem dX6_odds_66 : decode cX6_odds 66 = .ok (.iload 4, 2) := by decide +kernel
theorem dX6_odds_68 : decode cX6_odds 68 = .ok (.iload 7, 2) := by decide +kernel
theorem dX6_odds_70 : decode cX6_odds 70 = .ok (.iload_n 3, 1) := by decide +kernel
theorem dX6_odds_71 : decode cX6_odds 71 = .ok (.invokevirtual 184, 3) := by decide +kernel
theorem dX6_odds_74 : decode cX6_odds 74 = .ok (.lstore 8, 2) := by decide +kernel
theorem dX6_odds_76 : decode cX6_odds 76 = .ok (.lload 5, 2) := by decide +kernel
theorem dX6_odds_78 : decode cX6_odds 78 = .ok (.lload 8, 2) := by decide +kernel
theorem dX6_odds_80 : decode cX6_odds 80 = .ok (.lconst 0, 1) := by decide +kernel
theorem dX6_odds_81 : decode cX6_odds 81 = .ok (.lcmp, 1) := by decide +kernel
theorem dX6_odds_82 : decode cX6_odds 82 = .ok (.ifCond .le 19, 3) := by decide +kernel
theorem dX6_odds_85 : decode cX6_odds 85 = .ok (.aload_n 0, 1) := by decide +kernel
theorem dX6_odds_86 : decode cX6_odds 86 = .ok (.iload_n 1, 1) := by decide +kernel
theorem dX6_odds_87 : decode cX6_odds 87 = .ok (.iload 7, 2) := by decide +kernel
theorem dX6_odds_89 : decode cX6_odds 89 = .ok (.invokevirtual 188, 3) := by decide +kernel
theorem dX6_odds_92 : decode cX6_odds 92 = .ok (.iload_n 2, 1) := by decide +kernel
theorem dX6_odds_93 : decode cX6_odds 93 = .ok (.if_icmp .ne 8, 3) := by decide +kernel
theorem dX6_odds_96 : decode cX6_odds 96 = .ok (.lload 8, 2) := by decide +kernel
theorem dX6_odds_98 : decode cX6_odds 98 = .ok (.goto 4, 3) := by decide +kernel
theorem dX6_odds_101 : decode cX6_odds 101 = .ok (.lconst 0, 1) := by decide +kernel
theorem dX6_odds_102 : decode cX6_odds 102 = .ok (.ladd, 1) := by decide +kernel
theorem dX6_odds_103 : decode cX6_odds 103 = .ok (.lstore 5, 2) := by decide +kernel
theorem dX6_odds_105 : decode cX6_odds 105 = .ok (.iinc 7 1, 3) := by decide +kernel
theorem dX6_odds_108 : decode cX6_odds 108 = .ok (.goto (-51), 3) := by decide +kernel
theorem dX6_odds_111 : decode cX6_odds 111 = .ok (.aload_n 0, 1) := by decide +kernel
theorem dX6_odds_112 : decode cX6_odds 112 = .ok (.lload 5, 2) := by decide +kernel
theorem dX6_odds_114 : decode cX6_odds 114 = .ok (.aload_n 0, 1) := by decide +kernel
theorem dX6_odds_115 : decode cX6_odds 115 = .ok (.iload 4, 2) := by decide +kernel
theorem dX6_odds_117 : decode cX6_odds 117 = .ok (.invokevirtual 191, 3) := by decide +kernel
theorem dX6_odds_120 : decode cX6_odds 120 = .ok (.invokevirtual 195, 3) := by decide +kernel
theorem dX6_odds_123 : decode cX6_odds 123 = .ok (.ireturn, 1) := by decide +kernel
theorem dX6_mid_0 : decode cX6_mid 0 = .ok (.aload_n 0, 1) := by decide +kernel
theorem dX6_mid_1 : decode cX6_mid 1 = .ok (.getfield 94, 3) := by decide +kernel
theorem dX6_mid_4 : decode cX6_mid 4 = .ok (.ifCond .ne 6, 3) := by decide +kernel
theorem dX6_mid_7 : decode cX6_mid 7 = .ok (.bipush (-4), 2) := by decide +kernel
theorem dX6_mid_9 : decode cX6_mid 9 = .ok (.ireturn, 1) := by decide +kernel
theorem dX6_mid_10 : decode cX6_mid 10 = .ok (.iload_n 1, 1) := by decide +kernel
theorem dX6_mid_11 : decode cX6_mid 11 = .ok (.invokestatic 138, 3) := by decide +kernel
theorem dX6_mid_14 : decode cX6_mid 14 = .ok (.ifCond .eq 13, 3) := by decide +kernel
theorem dX6_mid_17 : decode cX6_mid 17 = .ok (.iload_n 2, 1) := by decide +kernel
theorem dX6_mid_18 : decode cX6_mid 18 = .ok (.iconst 0, 1) := by decide +kernel
theorem dX6_mid_19 : decode cX6_mid 19 = .ok (.bipush 12, 2) := by decide +kernel
theorem dX6_mid_21 : decode cX6_mid 21 = .ok (.invokestatic 64, 3) := by decide +kernel
theorem dX6_mid_24 : decode cX6_mid 24 = .ok (.ifCond .ne 5, 3) := by decide +kernel
theorem dX6_mid_27 : decode cX6_mid 27 = .ok (.iconst (-1), 1) := by decide +kernel
theorem dX6_mid_28 : decode cX6_mid 28 = .ok (.ireturn, 1) := by decide +kernel
theorem dX6_mid_29 : decode cX6_mid 29 = .ok (.iload_n 1, 1) := by decide +kernel
theorem dX6_mid_30 : decode cX6_mid 30 = .ok (.invokestatic 125, 3) := by decide +kernel
theorem dX6_mid_33 : decode cX6_mid 33 = .ok (.aload_n 0, 1) := by decide +kernel
theorem dX6_mid_34 : decode cX6_mid 34 = .ok (.bipush 10, 2) := by decide +kernel
theorem dX6_mid_36 : decode cX6_mid 36 = .ok (.invokevirtual 118, 3) := by decide +kernel
theorem dX6_mid_39 : decode cX6_mid 39 = .ok (.iconst (-1), 1) := by decide +kernel
theorem dX6_mid_40 : decode cX6_mid 40 = .ok (.ixor, 1) := by decide +kernel
theorem dX6_mid_41 : decode cX6_mid 41 = .ok (.iand, 1) := by decide +kernel
theorem dX6_mid_42 : decode cX6_mid 42 = .ok (.istore_n 3, 1) := by decide +kernel
theorem dX6_mid_43 : decode cX6_mid 43 = .ok (.lconst 0, 1) := by decide +kernel
theorem dX6_mid_44 : decode cX6_mid 44 = .ok (.lstore 4, 2) := by decide +kernel
theorem dX6_mid_46 : decode cX6_mid 46 = .ok (.iconst 0, 1) := by decide +kernel
theorem dX6_mid_47 : decode cX6_mid 47 = .ok (.istore 6, 2) := by decide +kernel
theorem dX6_mid_49 : decode cX6_mid 49 = .ok (.iload 6, 2) := by decide +kernel
theorem dX6_mid_51 : decode cX6_mid 51 = .ok (.sipush 512, 3) := by decide +kernel
theorem dX6_mid_54 : decode cX6_mid 54 = .ok (.if_icmp .ge 49, 3) := by decide +kernel
theorem dX6_mid_57 : decode cX6_mid 57 = .ok (.aload_n 0, 1) := by decide +kernel
theorem dX6_mid_58 : decode cX6_mid 58 = .ok (.iload_n 3, 1) := by decide +kernel
theorem dX6_mid_59 : decode cX6_mid 59 = .ok (.iload 6, 2) := by decide +kernel
theorem dX6_mid_61 : decode cX6_mid 61 = .ok (.iload_n 2, 1) := by decide +kernel
theorem dX6_mid_62 : decode cX6_mid 62 = .ok (.invokevirtual 184, 3) := by decide +kernel
theorem dX6_mid_65 : decode cX6_mid 65 = .ok (.lstore 7, 2) := by decide +kernel
theorem dX6_mid_67 : decode cX6_mid 67 = .ok (.lload 4, 2) := by decide +kernel
theorem dX6_mid_69 : decode cX6_mid 69 = .ok (.lload 7, 2) := by decide +kernel
theorem dX6_mid_71 : decode cX6_mid 71 = .ok (.lconst 0, 1) := by decide +kernel
theorem dX6_mid_72 : decode cX6_mid 72 = .ok (.lcmp, 1) := by decide +kernel
theorem dX6_mid_73 : decode cX6_mid 73 = .ok (.ifCond .le 20, 3) := by decide +kernel
theorem dX6_mid_76 : decode cX6_mid 76 = .ok (.lload 7, 2) := by decide +kernel
theorem dX6_mid_78 : decode cX6_mid 78 = .ok (.aload_n 0, 1) := by decide +kernel
theorem dX6_mid_79 : decode cX6_mid 79 = .ok (.iload_n 1, 1) := by decide +kernel
theorem dX6_mid_80 : decode cX6_mid 80 = .ok (.iload 6, 2) := by decide +kernel
theorem dX6_mid_82 : decode cX6_mid 82 = .ok (.invokevirtual 188, 3) := by decide +kernel
theorem dX6_mid_85 : decode cX6_mid 85 = .ok (.invokestatic 135, 3) := by decide +kernel
theorem dX6_mid_88 : decode cX6_mid 88 = .ok (.i2l, 1) := by decide +kernel
theorem dX6_mid_89 : decode cX6_mid 89 = .ok (.lmul, 1) := by decide +kernel
theorem dX6_mid_90 : decode cX6_mid 90 = .ok (.goto 4, 3) := by decide +kernel
theorem dX6_mid_93 : decode cX6_mid 93 = .ok (.lconst 0, 1) := by decide +kernel
theorem dX6_mid_94 : decode cX6_mid 94 = .ok (.ladd, 1) := by decide +kernel
theorem dX6_mid_95 : decode cX6_mid 95 = .ok (.lstore 4, 2) := by decide +kernel
theorem dX6_mid_97 : decode cX6_mid 97 = .ok (.iinc 6 1, 3) := by decide +kernel
theorem dX6_mid_100 : decode cX6_mid 100 = .ok (.goto (-51), 3) := by decide +kernel
theorem dX6_mid_103 : decode cX6_mid 103 = .ok (.aload_n 0, 1) := by decide +kernel
theorem dX6_mid_104 : decode cX6_mid 104 = .ok (.lload 4, 2) := by decide +kernel
theorem dX6_mid_106 : decode cX6_mid 106 = .ok (.aload_n 0, 1) := by decide +kernel
theorem dX6_mid_107 : decode cX6_mid 107 = .ok (.iload_n 3, 1) := by decide +kernel
theorem dX6_mid_108 : decode cX6_mid 108 = .ok (.invokevirtual 191, 3) := by decide +kernel
theorem dX6_mid_111 : decode cX6_mid 111 = .ok (.invokevirtual 195, 3) := by decide +kernel
theorem dX6_mid_114 : decode cX6_mid 114 = .ok (.ireturn, 1) := by decide +kernel
theorem dX6_lot_0 : decode cX6_lot 0 = .ok (.bipush 11, 2) := by decide +kernel
theorem dX6_lot_2 : decode cX6_lot 2 = .ok (.aload_n 0, 1) := by decide +kernel
theorem dX6_lot_3 : decode cX6_lot 3 = .ok (.getfield 97, 3) := by decide +kernel
theorem dX6_lot_6 : decode cX6_lot 6 = .ok (.imul, 1) := by decide +kernel
theorem dX6_lot_7 : decode cX6_lot 7 = .ok (.istore_n 3, 1) := by decide +kernel
theorem dX6_lot_8 : decode cX6_lot 8 = .ok (.iload_n 1, 1) := by decide +kernel
theorem dX6_lot_9 : decode cX6_lot 9 = .ok (.bipush 6, 2) := by decide +kernel
theorem dX6_lot_11 : decode cX6_lot 11 = .ok (.if_icmp .ge 17, 3) := by decide +kernel
theorem dX6_lot_14 : decode cX6_lot 14 = .ok (.aload_n 0, 1) := by decide +kernel
theorem dX6_lot_15 : decode cX6_lot 15 = .ok (.aload_n 0, 1) := by decide +kernel
theorem dX6_lot_16 : decode cX6_lot 16 = .ok (.getfield 39, 3) := by decide +kernel
theorem dX6_lot_19 : decode cX6_lot 19 = .ok (.iload_n 3, 1) := by decide +kernel
theorem dX6_lot_20 : decode cX6_lot 20 = .ok (.iload_n 2, 1) := by decide +kernel
theorem dX6_lot_21 : decode cX6_lot 21 = .ok (.iconst 0, 1) := by decide +kernel
theorem dX6_lot_22 : decode cX6_lot 22 = .ok (.invokevirtual 144, 3) := by decide +kernel
theorem dX6_lot_25 : decode cX6_lot 25 = .ok (.goto 62, 3) := by decide +kernel
theorem dX6_lot_28 : decode cX6_lot 28 = .ok (.iload_n 1, 1) := by decide +kernel
theorem dX6_lot_29 : decode cX6_lot 29 = .ok (.bipush 6, 2) := by decide +kernel
theorem dX6_lot_31 : decode cX6_lot 31 = .ok (.if_icmp .ne 34, 3) := by decide +kernel
theorem dX6_lot_34 : decode cX6_lot 34 = .ok (.aload_n 0, 1) := by decide +kernel
theorem dX6_lot_35 : decode cX6_lot 35 = .ok (.getfield 39, 3) := by decide +kernel
theorem dX6_lot_38 : decode cX6_lot 38 = .ok (.iload_n 3, 1) := by decide +kernel
theorem dX6_lot_39 : decode cX6_lot 39 = .ok (.iload_n 2, 1) := by decide +kernel
theorem dX6_lot_40 : decode cX6_lot 40 = .ok (.iadd, 1) := by decide +kernel
theorem dX6_lot_41 : decode cX6_lot 41 = .ok (.aload_n 0, 1) := by decide +kernel
theorem dX6_lot_42 : decode cX6_lot 42 = .ok (.getfield 39, 3) := by decide +kernel
theorem dX6_lot_45 : decode cX6_lot 45 = .ok (.iload_n 3, 1) := by decide +kernel
theorem dX6_lot_46 : decode cX6_lot 46 = .ok (.iload_n 2, 1) := by decide +kernel
theorem dX6_lot_47 : decode cX6_lot 47 = .ok (.iadd, 1) := by decide +kernel
theorem dX6_lot_48 : decode cX6_lot 48 = .ok (.iaload, 1) := by decide +kernel
theorem dX6_lot_49 : decode cX6_lot 49 = .ok (.iconst 1, 1) := by decide +kernel
theorem dX6_lot_50 : decode cX6_lot 50 = .ok (.iadd, 1) := by decide +kernel
theorem dX6_lot_51 : decode cX6_lot 51 = .ok (.aload_n 0, 1) := by decide +kernel
theorem dX6_lot_52 : decode cX6_lot 52 = .ok (.getfield 33, 3) := by decide +kernel
theorem dX6_lot_55 : decode cX6_lot 55 = .ok (.iload_n 2, 1) := by decide +kernel
theorem dX6_lot_56 : decode cX6_lot 56 = .ok (.iaload, 1) := by decide +kernel
theorem dX6_lot_57 : decode cX6_lot 57 = .ok (.invokestatic 88, 3) := by decide +kernel
theorem dX6_lot_60 : decode cX6_lot 60 = .ok (.irem, 1) := by decide +kernel
theorem dX6_lot_61 : decode cX6_lot 61 = .ok (.iastore, 1) := by decide +kernel
theorem dX6_lot_62 : decode cX6_lot 62 = .ok (.goto 25, 3) := by decide +kernel
theorem dX6_lot_65 : decode cX6_lot 65 = .ok (.aload_n 0, 1) := by decide +kernel
theorem dX6_lot_66 : decode cX6_lot 66 = .ok (.getfield 39, 3) := by decide +kernel
theorem dX6_lot_69 : decode cX6_lot 69 = .ok (.iload_n 3, 1) := by decide +kernel
theorem dX6_lot_70 : decode cX6_lot 70 = .ok (.bipush 10, 2) := by decide +kernel
theorem dX6_lot_72 : decode cX6_lot 72 = .ok (.iadd, 1) := by decide +kernel
theorem dX6_lot_73 : decode cX6_lot 73 = .ok (.aload_n 0, 1) := by decide +kernel
theorem dX6_lot_74 : decode cX6_lot 74 = .ok (.getfield 39, 3) := by decide +kernel
theorem dX6_lot_77 : decode cX6_lot 77 = .ok (.iload_n 3, 1) := by decide +kernel
theorem dX6_lot_78 : decode cX6_lot 78 = .ok (.bipush 10, 2) := by decide +kernel
theorem dX6_lot_80 : decode cX6_lot 80 = .ok (.iadd, 1) := by decide +kernel
theorem dX6_lot_81 : decode cX6_lot 81 = .ok (.iaload, 1) := by decide +kernel
theorem dX6_lot_82 : decode cX6_lot 82 = .ok (.iload_n 2, 1) := by decide +kernel
theorem dX6_lot_83 : decode cX6_lot 83 = .ok (.invokestatic 148, 3) := by decide +kernel
theorem dX6_lot_86 : decode cX6_lot 86 = .ok (.iastore, 1) := by decide +kernel
theorem dX6_lot_87 : decode cX6_lot 87 = .ok (.return_, 1) := by decide +kernel
theorem dX6_lots_0 : decode cX6_lots 0 = .ok (.aload_n 0, 1) := by decide +kernel
theorem dX6_lots_1 : decode cX6_lots 1 = .ok (.getfield 94, 3) := by decide +kernel
theorem dX6_lots_4 : decode cX6_lots 4 = .ok (.ifCond .ne 6, 3) := by decide +kernel
theorem dX6_lots_7 : decode cX6_lots 7 = .ok (.bipush (-4), 2) := by decide +kernel
theorem dX6_lots_9 : decode cX6_lots 9 = .ok (.ireturn, 1) := by decide +kernel
theorem dX6_lots_10 : decode cX6_lots 10 = .ok (.iload_n 1, 1) := by decide +kernel
theorem dX6_lots_11 : decode cX6_lots 11 = .ok (.iconst 1, 1) := by decide +kernel
theorem dX6_lots_12 : decode cX6_lots 12 = .ok (.bipush 20, 2) := by decide +kernel
theorem dX6_lots_14 : decode cX6_lots 14 = .ok (.invokestatic 64, 3) := by decide +kernel
theorem dX6_lots_17 : decode cX6_lots 17 = .ok (.ifCond .eq 13, 3) := by decide +kernel
theorem dX6_lots_20 : decode cX6_lots 20 = .ok (.iload_n 2, 1) := by decide +kernel
theorem dX6_lots_21 : decode cX6_lots 21 = .ok (.iconst 1, 1) := by decide +kernel
theorem dX6_lots_22 : decode cX6_lots 22 = .ok (.ldc 199, 2) := by decide +kernel
theorem dX6_lots_24 : decode cX6_lots 24 = .ok (.invokestatic 64, 3) := by decide +kernel
theorem dX6_lots_27 : decode cX6_lots 27 = .ok (.ifCond .ne 5, 3) := by decide +kernel
theorem dX6_lots_30 : decode cX6_lots 30 = .ok (.iconst (-1), 1) := by decide +kernel
theorem dX6_lots_31 : decode cX6_lots 31 = .ok (.ireturn, 1) := by decide +kernel
theorem dX6_lots_32 : decode cX6_lots 32 = .ok (.aload_n 0, 1) := by decide +kernel
theorem dX6_lots_33 : decode cX6_lots 33 = .ok (.getfield 97, 3) := by decide +kernel
theorem dX6_lots_36 : decode cX6_lots 36 = .ok (.iload_n 1, 1) := by decide +kernel
theorem dX6_lots_37 : decode cX6_lots 37 = .ok (.iadd, 1) := by decide +kernel
theorem dX6_lots_38 : decode cX6_lots 38 = .ok (.bipush 40, 2) := by decide +kernel
theorem dX6_lots_40 : decode cX6_lots 40 = .ok (.if_icmp .le 6, 3) := by decide +kernel
theorem dX6_lots_43 : decode cX6_lots 43 = .ok (.bipush (-2), 2) := by decide +kernel
theorem dX6_lots_45 : decode cX6_lots 45 = .ok (.ireturn, 1) := by decide +kernel
theorem dX6_lots_46 : decode cX6_lots 46 = .ok (.iload_n 2, 1) := by decide +kernel
theorem dX6_lots_47 : decode cX6_lots 47 = .ok (.i2l, 1) := by decide +kernel
theorem dX6_lots_48 : decode cX6_lots 48 = .ok (.lstore_n 3, 1) := by decide +kernel
theorem dX6_lots_49 : decode cX6_lots 49 = .ok (.iconst 0, 1) := by decide +kernel
theorem dX6_lots_50 : decode cX6_lots 50 = .ok (.istore 5, 2) := by decide +kernel
theorem dX6_lots_52 : decode cX6_lots 52 = .ok (.iload 5, 2) := by decide +kernel
theorem dX6_lots_54 : decode cX6_lots 54 = .ok (.iload_n 1, 1) := by decide +kernel
theorem dX6_lots_55 : decode cX6_lots 55 = .ok (.if_icmp .ge 43, 3) := by decide +kernel
theorem dX6_lots_58 : decode cX6_lots 58 = .ok (.lload_n 3, 1) := by decide +kernel
theorem dX6_lots_59 : decode cX6_lots 59 = .ok (.ldc2_w 200, 3) := by decide +kernel
theorem dX6_lots_62 : decode cX6_lots 62 = .ok (.lmul, 1) := by decide +kernel
theorem dX6_lots_63 : decode cX6_lots 63 = .ok (.ldc2_w 202, 3) := by decide +kernel
theorem dX6_lots_66 : decode cX6_lots 66 = .ok (.lrem, 1) := by decide +kernel
theorem dX6_lots_67 : decode cX6_lots 67 = .ok (.lstore_n 3, 1) := by decide +kernel
theorem dX6_lots_68 : decode cX6_lots 68 = .ok (.aload_n 0, 1) := by decide +kernel
theorem dX6_lots_69 : decode cX6_lots 69 = .ok (.invokevirtual 141, 3) := by decide +kernel
theorem dX6_lots_72 : decode cX6_lots 72 = .ok (.aload_n 0, 1) := by decide +kernel
theorem dX6_lots_73 : decode cX6_lots 73 = .ok (.lload_n 3, 1) := by decide +kernel
theorem dX6_lots_74 : decode cX6_lots 74 = .ok (.ldc2_w 204, 3) := by decide +kernel
theorem dX6_lots_77 : decode cX6_lots 77 = .ok (.ldiv, 1) := by decide +kernel
theorem dX6_lots_78 : decode cX6_lots 78 = .ok (.ldc2_w 206, 3) := by decide +kernel
theorem dX6_lots_81 : decode cX6_lots 81 = .ok (.lrem, 1) := by decide +kernel
theorem dX6_lots_82 : decode cX6_lots 82 = .ok (.l2i, 1) := by decide +kernel
theorem dX6_lots_83 : decode cX6_lots 83 = .ok (.lload_n 3, 1) := by decide +kernel
theorem dX6_lots_84 : decode cX6_lots 84 = .ok (.ldc2_w 208, 3) := by decide +kernel
theorem dX6_lots_87 : decode cX6_lots 87 = .ok (.lrem, 1) := by decide +kernel
theorem dX6_lots_88 : decode cX6_lots 88 = .ok (.l2i, 1) := by decide +kernel
theorem dX6_lots_89 : decode cX6_lots 89 = .ok (.invokevirtual 210, 3) := by decide +kernel
theorem dX6_lots_92 : decode cX6_lots 92 = .ok (.iinc 5 1, 3) := by decide +kernel
theorem dX6_lots_95 : decode cX6_lots 95 = .ok (.goto (-43), 3) := by decide +kernel
theorem dX6_lots_98 : decode cX6_lots 98 = .ok (.aload_n 0, 1) := by decide +kernel
theorem dX6_lots_99 : decode cX6_lots 99 = .ok (.invokevirtual 121, 3) := by decide +kernel
theorem dX6_lots_102 : decode cX6_lots 102 = .ok (.ireturn, 1) := by decide +kernel
theorem dX6_asked_0 : decode cX6_asked 0 = .ok (.aload_n 0, 1) := by decide +kernel
theorem dX6_asked_1 : decode cX6_asked 1 = .ok (.getfield 58, 3) := by decide +kernel
theorem dX6_asked_4 : decode cX6_asked 4 = .ok (.ireturn, 1) := by decide +kernel
theorem dX6_upper_0 : decode cX6_upper 0 = .ok (.aload_n 0, 1) := by decide +kernel
theorem dX6_upper_1 : decode cX6_upper 1 = .ok (.getfield 61, 3) := by decide +kernel
theorem dX6_upper_4 : decode cX6_upper 4 = .ok (.lreturn, 1) := by decide +kernel
theorem dX6_lower_0 : decode cX6_lower 0 = .ok (.aload_n 0, 1) := by decide +kernel
theorem dX6_lower_1 : decode cX6_lower 1 = .ok (.getfield 13, 3) := by decide +kernel
theorem dX6_lower_4 : decode cX6_lower 4 = .ok (.lreturn, 1) := by decide +kernel
theorem dX6_thereAre_0 : decode cX6_thereAre 0 = .ok (.iconst 0, 1) := by decide +kernel
theorem dX6_thereAre_1 : decode cX6_thereAre 1 = .ok (.istore_n 2, 1) := by decide +kernel
theorem dX6_thereAre_2 : decode cX6_thereAre 2 = .ok (.iconst 0, 1) := by decide +kernel
theorem dX6_thereAre_3 : decode cX6_thereAre 3 = .ok (.istore_n 3, 1) := by decide +kernel
theorem dX6_thereAre_4 : decode cX6_thereAre 4 = .ok (.iload_n 3, 1) := by decide +kernel
theorem dX6_thereAre_5 : decode cX6_thereAre 5 = .ok (.bipush 6, 2) := by decide +kernel
theorem dX6_thereAre_7 : decode cX6_thereAre 7 = .ok (.if_icmp .ge 106, 3) := by decide +kernel
theorem dX6_thereAre_10 : decode cX6_thereAre 10 = .ok (.iload_n 2, 1) := by decide +kernel
theorem dX6_thereAre_11 : decode cX6_thereAre 11 = .ok (.iload_n 1, 1) := by decide +kernel
theorem dX6_thereAre_12 : decode cX6_thereAre 12 = .ok (.bipush 8, 2) := by decide +kernel
theorem dX6_thereAre_14 : decode cX6_thereAre 14 = .ok (.if_icmp .ne 16, 3) := by decide +kernel
theorem dX6_thereAre_17 : decode cX6_thereAre 17 = .ok (.aload_n 0, 1) := by decide +kernel
theorem dX6_thereAre_18 : decode cX6_thereAre 18 = .ok (.getfield 17, 3) := by decide +kernel
theorem dX6_thereAre_21 : decode cX6_thereAre 21 = .ok (.iload_n 3, 1) := by decide +kernel
theorem dX6_thereAre_22 : decode cX6_thereAre 22 = .ok (.iaload, 1) := by decide +kernel
theorem dX6_thereAre_23 : decode cX6_thereAre 23 = .ok (.ifCond .lt 7, 3) := by decide +kernel
theorem dX6_thereAre_26 : decode cX6_thereAre 26 = .ok (.iconst 1, 1) := by decide +kernel
theorem dX6_thereAre_27 : decode cX6_thereAre 27 = .ok (.goto 4, 3) := by decide +kernel
theorem dX6_thereAre_30 : decode cX6_thereAre 30 = .ok (.iconst 0, 1) := by decide +kernel
theorem dX6_thereAre_31 : decode cX6_thereAre 31 = .ok (.iadd, 1) := by decide +kernel
theorem dX6_thereAre_32 : decode cX6_thereAre 32 = .ok (.istore_n 2, 1) := by decide +kernel
theorem dX6_thereAre_33 : decode cX6_thereAre 33 = .ok (.iload_n 2, 1) := by decide +kernel
theorem dX6_thereAre_34 : decode cX6_thereAre 34 = .ok (.iload_n 1, 1) := by decide +kernel
theorem dX6_thereAre_35 : decode cX6_thereAre 35 = .ok (.bipush 9, 2) := by decide +kernel
theorem dX6_thereAre_37 : decode cX6_thereAre 37 = .ok (.if_icmp .ne 30, 3) := by decide +kernel
theorem dX6_thereAre_40 : decode cX6_thereAre 40 = .ok (.iload_n 3, 1) := by decide +kernel
theorem dX6_thereAre_41 : decode cX6_thereAre 41 = .ok (.iconst 4, 1) := by decide +kernel
theorem dX6_thereAre_42 : decode cX6_thereAre 42 = .ok (.if_icmp .ge 25, 3) := by decide +kernel
theorem dX6_thereAre_45 : decode cX6_thereAre 45 = .ok (.aload_n 0, 1) := by decide +kernel
theorem dX6_thereAre_46 : decode cX6_thereAre 46 = .ok (.getfield 23, 3) := by decide +kernel
theorem dX6_thereAre_49 : decode cX6_thereAre 49 = .ok (.iload_n 3, 1) := by decide +kernel
theorem dX6_thereAre_50 : decode cX6_thereAre 50 = .ok (.iconst 4, 1) := by decide +kernel
theorem dX6_thereAre_51 : decode cX6_thereAre 51 = .ok (.if_icmp .ge 7, 3) := by decide +kernel
theorem dX6_thereAre_54 : decode cX6_thereAre 54 = .ok (.iload_n 3, 1) := by decide +kernel
theorem dX6_thereAre_55 : decode cX6_thereAre 55 = .ok (.goto 4, 3) := by decide +kernel
theorem dX6_thereAre_58 : decode cX6_thereAre 58 = .ok (.iconst 0, 1) := by decide +kernel
theorem dX6_thereAre_59 : decode cX6_thereAre 59 = .ok (.iaload, 1) := by decide +kernel
theorem dX6_thereAre_60 : decode cX6_thereAre 60 = .ok (.ifCond .lt 7, 3) := by decide +kernel
theorem dX6_thereAre_63 : decode cX6_thereAre 63 = .ok (.iconst 1, 1) := by decide +kernel
theorem dX6_thereAre_64 : decode cX6_thereAre 64 = .ok (.goto 4, 3) := by decide +kernel
theorem dX6_thereAre_67 : decode cX6_thereAre 67 = .ok (.iconst 0, 1) := by decide +kernel
theorem dX6_thereAre_68 : decode cX6_thereAre 68 = .ok (.iadd, 1) := by decide +kernel
theorem dX6_thereAre_69 : decode cX6_thereAre 69 = .ok (.istore_n 2, 1) := by decide +kernel
theorem dX6_thereAre_70 : decode cX6_thereAre 70 = .ok (.iload_n 2, 1) := by decide +kernel
theorem dX6_thereAre_71 : decode cX6_thereAre 71 = .ok (.iload_n 1, 1) := by decide +kernel
theorem dX6_thereAre_72 : decode cX6_thereAre 72 = .ok (.bipush 10, 2) := by decide +kernel
theorem dX6_thereAre_74 : decode cX6_thereAre 74 = .ok (.if_icmp .ne 30, 3) := by decide +kernel
theorem dX6_thereAre_77 : decode cX6_thereAre 77 = .ok (.iload_n 3, 1) := by decide +kernel
theorem dX6_thereAre_78 : decode cX6_thereAre 78 = .ok (.iconst 3, 1) := by decide +kernel
theorem dX6_thereAre_79 : decode cX6_thereAre 79 = .ok (.if_icmp .ge 25, 3) := by decide +kernel
theorem dX6_thereAre_82 : decode cX6_thereAre 82 = .ok (.aload_n 0, 1) := by decide +kernel
theorem dX6_thereAre_83 : decode cX6_thereAre 83 = .ok (.getfield 45, 3) := by decide +kernel
theorem dX6_thereAre_86 : decode cX6_thereAre 86 = .ok (.iload_n 3, 1) := by decide +kernel
theorem dX6_thereAre_87 : decode cX6_thereAre 87 = .ok (.iconst 3, 1) := by decide +kernel
theorem dX6_thereAre_88 : decode cX6_thereAre 88 = .ok (.if_icmp .ge 7, 3) := by decide +kernel
theorem dX6_thereAre_91 : decode cX6_thereAre 91 = .ok (.iload_n 3, 1) := by decide +kernel
theorem dX6_thereAre_92 : decode cX6_thereAre 92 = .ok (.goto 4, 3) := by decide +kernel
theorem dX6_thereAre_95 : decode cX6_thereAre 95 = .ok (.iconst 0, 1) := by decide +kernel
theorem dX6_thereAre_96 : decode cX6_thereAre 96 = .ok (.iaload, 1) := by decide +kernel
theorem dX6_thereAre_97 : decode cX6_thereAre 97 = .ok (.ifCond .lt 7, 3) := by decide +kernel
theorem dX6_thereAre_100 : decode cX6_thereAre 100 = .ok (.iconst 1, 1) := by decide +kernel
theorem dX6_thereAre_101 : decode cX6_thereAre 101 = .ok (.goto 4, 3) := by decide +kernel
theorem dX6_thereAre_104 : decode cX6_thereAre 104 = .ok (.iconst 0, 1) := by decide +kernel
theorem dX6_thereAre_105 : decode cX6_thereAre 105 = .ok (.iadd, 1) := by decide +kernel
theorem dX6_thereAre_106 : decode cX6_thereAre 106 = .ok (.istore_n 2, 1) := by decide +kernel
theorem dX6_thereAre_107 : decode cX6_thereAre 107 = .ok (.iinc 3 1, 3) := by decide +kernel
theorem dX6_thereAre_110 : decode cX6_thereAre 110 = .ok (.goto (-106), 3) := by decide +kernel
theorem dX6_thereAre_113 : decode cX6_thereAre 113 = .ok (.iload_n 2, 1) := by decide +kernel
theorem dX6_thereAre_114 : decode cX6_thereAre 114 = .ok (.ireturn, 1) := by decide +kernel
theorem dX6_sumOf_0 : decode cX6_sumOf 0 = .ok (.iconst 0, 1) := by decide +kernel
theorem dX6_sumOf_1 : decode cX6_sumOf 1 = .ok (.istore_n 2, 1) := by decide +kernel
theorem dX6_sumOf_2 : decode cX6_sumOf 2 = .ok (.iconst 0, 1) := by decide +kernel
theorem dX6_sumOf_3 : decode cX6_sumOf 3 = .ok (.istore_n 3, 1) := by decide +kernel
theorem dX6_sumOf_4 : decode cX6_sumOf 4 = .ok (.iload_n 3, 1) := by decide +kernel
theorem dX6_sumOf_5 : decode cX6_sumOf 5 = .ok (.aload_n 0, 1) := by decide +kernel
theorem dX6_sumOf_6 : decode cX6_sumOf 6 = .ok (.getfield 94, 3) := by decide +kernel
theorem dX6_sumOf_9 : decode cX6_sumOf 9 = .ok (.if_icmp .ge 76, 3) := by decide +kernel
theorem dX6_sumOf_12 : decode cX6_sumOf 12 = .ok (.iload_n 2, 1) := by decide +kernel
theorem dX6_sumOf_13 : decode cX6_sumOf 13 = .ok (.iload_n 1, 1) := by decide +kernel
theorem dX6_sumOf_14 : decode cX6_sumOf 14 = .ok (.iconst 5, 1) := by decide +kernel
theorem dX6_sumOf_15 : decode cX6_sumOf 15 = .ok (.if_icmp .ne 11, 3) := by decide +kernel
theorem dX6_sumOf_18 : decode cX6_sumOf 18 = .ok (.aload_n 0, 1) := by decide +kernel
theorem dX6_sumOf_19 : decode cX6_sumOf 19 = .ok (.iload_n 3, 1) := by decide +kernel
theorem dX6_sumOf_20 : decode cX6_sumOf 20 = .ok (.invokevirtual 118, 3) := by decide +kernel
theorem dX6_sumOf_23 : decode cX6_sumOf 23 = .ok (.goto 54, 3) := by decide +kernel
theorem dX6_sumOf_26 : decode cX6_sumOf 26 = .ok (.iload_n 1, 1) := by decide +kernel
theorem dX6_sumOf_27 : decode cX6_sumOf 27 = .ok (.bipush 6, 2) := by decide +kernel
theorem dX6_sumOf_29 : decode cX6_sumOf 29 = .ok (.if_icmp .ne 23, 3) := by decide +kernel
theorem dX6_sumOf_32 : decode cX6_sumOf 32 = .ok (.aload_n 0, 1) := by decide +kernel
theorem dX6_sumOf_33 : decode cX6_sumOf 33 = .ok (.getfield 33, 3) := by decide +kernel
theorem dX6_sumOf_36 : decode cX6_sumOf 36 = .ok (.iload_n 3, 1) := by decide +kernel
theorem dX6_sumOf_37 : decode cX6_sumOf 37 = .ok (.iaload, 1) := by decide +kernel
theorem dX6_sumOf_38 : decode cX6_sumOf 38 = .ok (.invokestatic 82, 3) := by decide +kernel
theorem dX6_sumOf_41 : decode cX6_sumOf 41 = .ok (.ifCond .eq 7, 3) := by decide +kernel
theorem dX6_sumOf_44 : decode cX6_sumOf 44 = .ok (.iconst 1, 1) := by decide +kernel
theorem dX6_sumOf_45 : decode cX6_sumOf 45 = .ok (.goto 32, 3) := by decide +kernel
theorem dX6_sumOf_48 : decode cX6_sumOf 48 = .ok (.iconst 0, 1) := by decide +kernel
theorem dX6_sumOf_49 : decode cX6_sumOf 49 = .ok (.goto 28, 3) := by decide +kernel
theorem dX6_sumOf_52 : decode cX6_sumOf 52 = .ok (.aload_n 0, 1) := by decide +kernel
theorem dX6_sumOf_53 : decode cX6_sumOf 53 = .ok (.getfield 33, 3) := by decide +kernel
theorem dX6_sumOf_56 : decode cX6_sumOf 56 = .ok (.iload_n 3, 1) := by decide +kernel
theorem dX6_sumOf_57 : decode cX6_sumOf 57 = .ok (.iaload, 1) := by decide +kernel
theorem dX6_sumOf_58 : decode cX6_sumOf 58 = .ok (.iconst 3, 1) := by decide +kernel
theorem dX6_sumOf_59 : decode cX6_sumOf 59 = .ok (.if_icmp .eq 13, 3) := by decide +kernel
theorem dX6_sumOf_62 : decode cX6_sumOf 62 = .ok (.aload_n 0, 1) := by decide +kernel
theorem dX6_sumOf_63 : decode cX6_sumOf 63 = .ok (.getfield 33, 3) := by decide +kernel
theorem dX6_sumOf_66 : decode cX6_sumOf 66 = .ok (.iload_n 3, 1) := by decide +kernel
theorem dX6_sumOf_67 : decode cX6_sumOf 67 = .ok (.iaload, 1) := by decide +kernel
theorem dX6_sumOf_68 : decode cX6_sumOf 68 = .ok (.iconst 5, 1) := by decide +kernel
theorem dX6_sumOf_69 : decode cX6_sumOf 69 = .ok (.if_icmp .ne 7, 3) := by decide +kernel
theorem dX6_sumOf_72 : decode cX6_sumOf 72 = .ok (.iconst 1, 1) := by decide +kernel
theorem dX6_sumOf_73 : decode cX6_sumOf 73 = .ok (.goto 4, 3) := by decide +kernel
theorem dX6_sumOf_76 : decode cX6_sumOf 76 = .ok (.iconst 0, 1) := by decide +kernel
theorem dX6_sumOf_77 : decode cX6_sumOf 77 = .ok (.iadd, 1) := by decide +kernel
theorem dX6_sumOf_78 : decode cX6_sumOf 78 = .ok (.istore_n 2, 1) := by decide +kernel
theorem dX6_sumOf_79 : decode cX6_sumOf 79 = .ok (.iinc 3 1, 3) := by decide +kernel
theorem dX6_sumOf_82 : decode cX6_sumOf 82 = .ok (.goto (-78), 3) := by decide +kernel
theorem dX6_sumOf_85 : decode cX6_sumOf 85 = .ok (.iload_n 2, 1) := by decide +kernel
theorem dX6_sumOf_86 : decode cX6_sumOf 86 = .ok (.ireturn, 1) := by decide +kernel
theorem dX6_count_0 : decode cX6_count 0 = .ok (.iload_n 1, 1) := by decide +kernel
theorem dX6_count_1 : decode cX6_count 1 = .ok (.tableswitch 100 0 10 #[59, 64, 71, 76, 81, 88, 88, 88, 94, 94, 94], 59) := by decide +kernel
theorem dX6_count_60 : decode cX6_count 60 = .ok (.aload_n 0, 1) := by decide +kernel
theorem dX6_count_61 : decode cX6_count 61 = .ok (.getfield 94, 3) := by decide +kernel
theorem dX6_count_64 : decode cX6_count 64 = .ok (.ireturn, 1) := by decide +kernel
theorem dX6_count_65 : decode cX6_count 65 = .ok (.aload_n 0, 1) := by decide +kernel
theorem dX6_count_66 : decode cX6_count 66 = .ok (.bipush 9, 2) := by decide +kernel
theorem dX6_count_68 : decode cX6_count 68 = .ok (.invokevirtual 118, 3) := by decide +kernel
theorem dX6_count_71 : decode cX6_count 71 = .ok (.ireturn, 1) := by decide +kernel
theorem dX6_count_72 : decode cX6_count 72 = .ok (.aload_n 0, 1) := by decide +kernel
theorem dX6_count_73 : decode cX6_count 73 = .ok (.getfield 97, 3) := by decide +kernel
theorem dX6_count_76 : decode cX6_count 76 = .ok (.ireturn, 1) := by decide +kernel
theorem dX6_count_77 : decode cX6_count 77 = .ok (.aload_n 0, 1) := by decide +kernel
theorem dX6_count_78 : decode cX6_count 78 = .ok (.invokevirtual 121, 3) := by decide +kernel
theorem dX6_count_81 : decode cX6_count 81 = .ok (.ireturn, 1) := by decide +kernel
theorem dX6_count_82 : decode cX6_count 82 = .ok (.aload_n 0, 1) := by decide +kernel
theorem dX6_count_83 : decode cX6_count 83 = .ok (.bipush 10, 2) := by decide +kernel
theorem dX6_count_85 : decode cX6_count 85 = .ok (.invokevirtual 118, 3) := by decide +kernel
theorem dX6_count_88 : decode cX6_count 88 = .ok (.ireturn, 1) := by decide +kernel
theorem dX6_count_89 : decode cX6_count 89 = .ok (.aload_n 0, 1) := by decide +kernel
theorem dX6_count_90 : decode cX6_count 90 = .ok (.iload_n 1, 1) := by decide +kernel
theorem dX6_count_91 : decode cX6_count 91 = .ok (.invokevirtual 214, 3) := by decide +kernel
theorem dX6_count_94 : decode cX6_count 94 = .ok (.ireturn, 1) := by decide +kernel
theorem dX6_count_95 : decode cX6_count 95 = .ok (.aload_n 0, 1) := by decide +kernel
theorem dX6_count_96 : decode cX6_count 96 = .ok (.iload_n 1, 1) := by decide +kernel
theorem dX6_count_97 : decode cX6_count 97 = .ok (.invokevirtual 217, 3) := by decide +kernel
theorem dX6_count_100 : decode cX6_count 100 = .ok (.ireturn, 1) := by decide +kernel
theorem dX6_count_101 : decode cX6_count 101 = .ok (.iconst (-1), 1) := by decide +kernel
theorem dX6_count_102 : decode cX6_count 102 = .ok (.ireturn, 1) := by decide +kernel
theorem dX6_finding_0 : decode cX6_finding 0 = .ok (.aload_n 0, 1) := by decide +kernel
theorem dX6_finding_1 : decode cX6_finding 1 = .ok (.getfield 54, 3) := by decide +kernel
theorem dX6_finding_4 : decode cX6_finding 4 = .ok (.ireturn, 1) := by decide +kernel
theorem dX6_findings_0 : decode cX6_findings 0 = .ok (.iload_n 1, 1) := by decide +kernel
theorem dX6_findings_1 : decode cX6_findings 1 = .ok (.iconst 1, 1) := by decide +kernel
theorem dX6_findings_2 : decode cX6_findings 2 = .ok (.iconst 5, 1) := by decide +kernel
theorem dX6_findings_3 : decode cX6_findings 3 = .ok (.invokestatic 64, 3) := by decide +kernel
theorem dX6_findings_6 : decode cX6_findings 6 = .ok (.ifCond .eq 12, 3) := by decide +kernel
theorem dX6_findings_9 : decode cX6_findings 9 = .ok (.aload_n 0, 1) := by decide +kernel
theorem dX6_findings_10 : decode cX6_findings 10 = .ok (.getfield 7, 3) := by decide +kernel
theorem dX6_findings_13 : decode cX6_findings 13 = .ok (.iload_n 1, 1) := by decide +kernel
theorem dX6_findings_14 : decode cX6_findings 14 = .ok (.iaload, 1) := by decide +kernel
theorem dX6_findings_15 : decode cX6_findings 15 = .ok (.goto 4, 3) := by decide +kernel
theorem dX6_findings_18 : decode cX6_findings 18 = .ok (.iconst (-1), 1) := by decide +kernel
theorem dX6_findings_19 : decode cX6_findings 19 = .ok (.ireturn, 1) := by decide +kernel
theorem dX6_digest_0 : decode cX6_digest 0 = .ok (.ldc2_w 220, 3) := by decide +kernel
theorem dX6_digest_3 : decode cX6_digest 3 = .ok (.lstore_n 1, 1) := by decide +kernel
theorem dX6_digest_4 : decode cX6_digest 4 = .ok (.iconst 0, 1) := by decide +kernel
theorem dX6_digest_5 : decode cX6_digest 5 = .ok (.istore_n 3, 1) := by decide +kernel
theorem dX6_digest_6 : decode cX6_digest 6 = .ok (.iload_n 3, 1) := by decide +kernel
theorem dX6_digest_7 : decode cX6_digest 7 = .ok (.bipush 10, 2) := by decide +kernel
theorem dX6_digest_9 : decode cX6_digest 9 = .ok (.if_icmp .gt 22, 3) := by decide +kernel
theorem dX6_digest_12 : decode cX6_digest 12 = .ok (.ldc2_w 222, 3) := by decide +kernel
theorem dX6_digest_15 : decode cX6_digest 15 = .ok (.lload_n 1, 1) := by decide +kernel
theorem dX6_digest_16 : decode cX6_digest 16 = .ok (.lmul, 1) := by decide +kernel
theorem dX6_digest_17 : decode cX6_digest 17 = .ok (.aload_n 0, 1) := by decide +kernel
theorem dX6_digest_18 : decode cX6_digest 18 = .ok (.iload_n 3, 1) := by decide +kernel
theorem dX6_digest_19 : decode cX6_digest 19 = .ok (.invokevirtual 224, 3) := by decide +kernel
theorem dX6_digest_22 : decode cX6_digest 22 = .ok (.i2l, 1) := by decide +kernel
theorem dX6_digest_23 : decode cX6_digest 23 = .ok (.ladd, 1) := by decide +kernel
theorem dX6_digest_24 : decode cX6_digest 24 = .ok (.lstore_n 1, 1) := by decide +kernel
theorem dX6_digest_25 : decode cX6_digest 25 = .ok (.iinc 3 1, 3) := by decide +kernel
theorem dX6_digest_28 : decode cX6_digest 28 = .ok (.goto (-22), 3) := by decide +kernel
theorem dX6_digest_31 : decode cX6_digest 31 = .ok (.iconst 0, 1) := by decide +kernel
theorem dX6_digest_32 : decode cX6_digest 32 = .ok (.istore_n 3, 1) := by decide +kernel
theorem dX6_digest_33 : decode cX6_digest 33 = .ok (.iload_n 3, 1) := by decide +kernel
theorem dX6_digest_34 : decode cX6_digest 34 = .ok (.aload_n 0, 1) := by decide +kernel
theorem dX6_digest_35 : decode cX6_digest 35 = .ok (.getfield 94, 3) := by decide +kernel
theorem dX6_digest_38 : decode cX6_digest 38 = .ok (.if_icmp .ge 39, 3) := by decide +kernel
theorem dX6_digest_41 : decode cX6_digest 41 = .ok (.iconst 0, 1) := by decide +kernel
theorem dX6_digest_42 : decode cX6_digest 42 = .ok (.istore 4, 2) := by decide +kernel
theorem dX6_digest_44 : decode cX6_digest 44 = .ok (.iload 4, 2) := by decide +kernel
theorem dX6_digest_46 : decode cX6_digest 46 = .ok (.iconst 5, 1) := by decide +kernel
theorem dX6_digest_47 : decode cX6_digest 47 = .ok (.if_icmp .gt 24, 3) := by decide +kernel
theorem dX6_digest_50 : decode cX6_digest 50 = .ok (.ldc2_w 222, 3) := by decide +kernel
theorem dX6_digest_53 : decode cX6_digest 53 = .ok (.lload_n 1, 1) := by decide +kernel
theorem dX6_digest_54 : decode cX6_digest 54 = .ok (.lmul, 1) := by decide +kernel
theorem dX6_digest_55 : decode cX6_digest 55 = .ok (.aload_n 0, 1) := by decide +kernel
theorem dX6_digest_56 : decode cX6_digest 56 = .ok (.iload_n 3, 1) := by decide +kernel
theorem dX6_digest_57 : decode cX6_digest 57 = .ok (.iload 4, 2) := by decide +kernel
theorem dX6_digest_59 : decode cX6_digest 59 = .ok (.invokevirtual 131, 3) := by decide +kernel
theorem dX6_digest_62 : decode cX6_digest 62 = .ok (.i2l, 1) := by decide +kernel
theorem dX6_digest_63 : decode cX6_digest 63 = .ok (.ladd, 1) := by decide +kernel
theorem dX6_digest_64 : decode cX6_digest 64 = .ok (.lstore_n 1, 1) := by decide +kernel
theorem dX6_digest_65 : decode cX6_digest 65 = .ok (.iinc 4 1, 3) := by decide +kernel
theorem dX6_digest_68 : decode cX6_digest 68 = .ok (.goto (-24), 3) := by decide +kernel
theorem dX6_digest_71 : decode cX6_digest 71 = .ok (.iinc 3 1, 3) := by decide +kernel
theorem dX6_digest_74 : decode cX6_digest 74 = .ok (.goto (-41), 3) := by decide +kernel
theorem dX6_digest_77 : decode cX6_digest 77 = .ok (.iconst 0, 1) := by decide +kernel
theorem dX6_digest_78 : decode cX6_digest 78 = .ok (.istore_n 3, 1) := by decide +kernel
theorem dX6_digest_79 : decode cX6_digest 79 = .ok (.iload_n 3, 1) := by decide +kernel
theorem dX6_digest_80 : decode cX6_digest 80 = .ok (.iconst 3, 1) := by decide +kernel
theorem dX6_digest_81 : decode cX6_digest 81 = .ok (.if_icmp .ge 23, 3) := by decide +kernel
theorem dX6_digest_84 : decode cX6_digest 84 = .ok (.ldc2_w 222, 3) := by decide +kernel
theorem dX6_digest_87 : decode cX6_digest 87 = .ok (.lload_n 1, 1) := by decide +kernel
theorem dX6_digest_88 : decode cX6_digest 88 = .ok (.lmul, 1) := by decide +kernel
theorem dX6_digest_89 : decode cX6_digest 89 = .ok (.aload_n 0, 1) := by decide +kernel
theorem dX6_digest_90 : decode cX6_digest 90 = .ok (.getfield 45, 3) := by decide +kernel
theorem dX6_digest_93 : decode cX6_digest 93 = .ok (.iload_n 3, 1) := by decide +kernel
theorem dX6_digest_94 : decode cX6_digest 94 = .ok (.iaload, 1) := by decide +kernel
theorem dX6_digest_95 : decode cX6_digest 95 = .ok (.i2l, 1) := by decide +kernel
theorem dX6_digest_96 : decode cX6_digest 96 = .ok (.ladd, 1) := by decide +kernel
theorem dX6_digest_97 : decode cX6_digest 97 = .ok (.lstore_n 1, 1) := by decide +kernel
theorem dX6_digest_98 : decode cX6_digest 98 = .ok (.iinc 3 1, 3) := by decide +kernel
theorem dX6_digest_101 : decode cX6_digest 101 = .ok (.goto (-22), 3) := by decide +kernel
theorem dX6_digest_104 : decode cX6_digest 104 = .ok (.iconst 0, 1) := by decide +kernel
theorem dX6_digest_105 : decode cX6_digest 105 = .ok (.istore_n 3, 1) := by decide +kernel
theorem dX6_digest_106 : decode cX6_digest 106 = .ok (.iload_n 3, 1) := by decide +kernel
theorem dX6_digest_107 : decode cX6_digest 107 = .ok (.bipush 6, 2) := by decide +kernel
theorem dX6_digest_109 : decode cX6_digest 109 = .ok (.if_icmp .ge 63, 3) := by decide +kernel
theorem dX6_digest_112 : decode cX6_digest 112 = .ok (.ldc2_w 222, 3) := by decide +kernel
theorem dX6_digest_115 : decode cX6_digest 115 = .ok (.lload_n 1, 1) := by decide +kernel
theorem dX6_digest_116 : decode cX6_digest 116 = .ok (.lmul, 1) := by decide +kernel
theorem dX6_digest_117 : decode cX6_digest 117 = .ok (.aload_n 0, 1) := by decide +kernel
theorem dX6_digest_118 : decode cX6_digest 118 = .ok (.getfield 17, 3) := by decide +kernel
theorem dX6_digest_121 : decode cX6_digest 121 = .ok (.iload_n 3, 1) := by decide +kernel
theorem dX6_digest_122 : decode cX6_digest 122 = .ok (.iaload, 1) := by decide +kernel
theorem dX6_digest_123 : decode cX6_digest 123 = .ok (.i2l, 1) := by decide +kernel
theorem dX6_digest_124 : decode cX6_digest 124 = .ok (.ladd, 1) := by decide +kernel
theorem dX6_digest_125 : decode cX6_digest 125 = .ok (.lstore_n 1, 1) := by decide +kernel
theorem dX6_digest_126 : decode cX6_digest 126 = .ok (.iconst 0, 1) := by decide +kernel
theorem dX6_digest_127 : decode cX6_digest 127 = .ok (.istore 4, 2) := by decide +kernel
theorem dX6_digest_129 : decode cX6_digest 129 = .ok (.iload 4, 2) := by decide +kernel
theorem dX6_digest_131 : decode cX6_digest 131 = .ok (.aload_n 0, 1) := by decide +kernel
theorem dX6_digest_132 : decode cX6_digest 132 = .ok (.getfield 17, 3) := by decide +kernel
theorem dX6_digest_135 : decode cX6_digest 135 = .ok (.iload_n 3, 1) := by decide +kernel
theorem dX6_digest_136 : decode cX6_digest 136 = .ok (.iaload, 1) := by decide +kernel
theorem dX6_digest_137 : decode cX6_digest 137 = .ok (.if_icmp .ge 29, 3) := by decide +kernel
theorem dX6_digest_140 : decode cX6_digest 140 = .ok (.ldc2_w 222, 3) := by decide +kernel
theorem dX6_digest_143 : decode cX6_digest 143 = .ok (.lload_n 1, 1) := by decide +kernel
theorem dX6_digest_144 : decode cX6_digest 144 = .ok (.lmul, 1) := by decide +kernel
theorem dX6_digest_145 : decode cX6_digest 145 = .ok (.aload_n 0, 1) := by decide +kernel
theorem dX6_digest_146 : decode cX6_digest 146 = .ok (.getfield 20, 3) := by decide +kernel
theorem dX6_digest_149 : decode cX6_digest 149 = .ok (.bipush 40, 2) := by decide +kernel
theorem dX6_digest_151 : decode cX6_digest 151 = .ok (.iload_n 3, 1) := by decide +kernel
theorem dX6_digest_152 : decode cX6_digest 152 = .ok (.imul, 1) := by decide +kernel
theorem dX6_digest_153 : decode cX6_digest 153 = .ok (.iload 4, 2) := by decide +kernel
theorem dX6_digest_155 : decode cX6_digest 155 = .ok (.iadd, 1) := by decide +kernel
theorem dX6_digest_156 : decode cX6_digest 156 = .ok (.iaload, 1) := by decide +kernel
theorem dX6_digest_157 : decode cX6_digest 157 = .ok (.i2l, 1) := by decide +kernel
theorem dX6_digest_158 : decode cX6_digest 158 = .ok (.ladd, 1) := by decide +kernel
theorem dX6_digest_159 : decode cX6_digest 159 = .ok (.lstore_n 1, 1) := by decide +kernel
theorem dX6_digest_160 : decode cX6_digest 160 = .ok (.iinc 4 1, 3) := by decide +kernel
theorem dX6_digest_163 : decode cX6_digest 163 = .ok (.goto (-34), 3) := by decide +kernel
theorem dX6_digest_166 : decode cX6_digest 166 = .ok (.iinc 3 1, 3) := by decide +kernel
theorem dX6_digest_169 : decode cX6_digest 169 = .ok (.goto (-63), 3) := by decide +kernel
theorem dX6_digest_172 : decode cX6_digest 172 = .ok (.iconst 0, 1) := by decide +kernel
theorem dX6_digest_173 : decode cX6_digest 173 = .ok (.istore_n 3, 1) := by decide +kernel
theorem dX6_digest_174 : decode cX6_digest 174 = .ok (.iload_n 3, 1) := by decide +kernel
theorem dX6_digest_175 : decode cX6_digest 175 = .ok (.iconst 4, 1) := by decide +kernel
theorem dX6_digest_176 : decode cX6_digest 176 = .ok (.if_icmp .ge 63, 3) := by decide +kernel
theorem dX6_digest_179 : decode cX6_digest 179 = .ok (.ldc2_w 222, 3) := by decide +kernel
theorem dX6_digest_182 : decode cX6_digest 182 = .ok (.lload_n 1, 1) := by decide +kernel
theorem dX6_digest_183 : decode cX6_digest 183 = .ok (.lmul, 1) := by decide +kernel
theorem dX6_digest_184 : decode cX6_digest 184 = .ok (.aload_n 0, 1) := by decide +kernel
theorem dX6_digest_185 : decode cX6_digest 185 = .ok (.getfield 23, 3) := by decide +kernel
theorem dX6_digest_188 : decode cX6_digest 188 = .ok (.iload_n 3, 1) := by decide +kernel
theorem dX6_digest_189 : decode cX6_digest 189 = .ok (.iaload, 1) := by decide +kernel
theorem dX6_digest_190 : decode cX6_digest 190 = .ok (.i2l, 1) := by decide +kernel
theorem dX6_digest_191 : decode cX6_digest 191 = .ok (.ladd, 1) := by decide +kernel
theorem dX6_digest_192 : decode cX6_digest 192 = .ok (.lstore_n 1, 1) := by decide +kernel
theorem dX6_digest_193 : decode cX6_digest 193 = .ok (.iconst 0, 1) := by decide +kernel
theorem dX6_digest_194 : decode cX6_digest 194 = .ok (.istore 4, 2) := by decide +kernel
theorem dX6_digest_196 : decode cX6_digest 196 = .ok (.iload 4, 2) := by decide +kernel
theorem dX6_digest_198 : decode cX6_digest 198 = .ok (.aload_n 0, 1) := by decide +kernel
theorem dX6_digest_199 : decode cX6_digest 199 = .ok (.getfield 23, 3) := by decide +kernel
theorem dX6_digest_202 : decode cX6_digest 202 = .ok (.iload_n 3, 1) := by decide +kernel
theorem dX6_digest_203 : decode cX6_digest 203 = .ok (.iaload, 1) := by decide +kernel
theorem dX6_digest_204 : decode cX6_digest 204 = .ok (.if_icmp .ge 29, 3) := by decide +kernel
theorem dX6_digest_207 : decode cX6_digest 207 = .ok (.ldc2_w 222, 3) := by decide +kernel
theorem dX6_digest_210 : decode cX6_digest 210 = .ok (.lload_n 1, 1) := by decide +kernel
theorem dX6_digest_211 : decode cX6_digest 211 = .ok (.lmul, 1) := by decide +kernel
theorem dX6_digest_212 : decode cX6_digest 212 = .ok (.aload_n 0, 1) := by decide +kernel
theorem dX6_digest_213 : decode cX6_digest 213 = .ok (.getfield 26, 3) := by decide +kernel
theorem dX6_digest_216 : decode cX6_digest 216 = .ok (.bipush 60, 2) := by decide +kernel
theorem dX6_digest_218 : decode cX6_digest 218 = .ok (.iload_n 3, 1) := by decide +kernel
theorem dX6_digest_219 : decode cX6_digest 219 = .ok (.imul, 1) := by decide +kernel
theorem dX6_digest_220 : decode cX6_digest 220 = .ok (.iload 4, 2) := by decide +kernel
theorem dX6_digest_222 : decode cX6_digest 222 = .ok (.iadd, 1) := by decide +kernel
theorem dX6_digest_223 : decode cX6_digest 223 = .ok (.baload, 1) := by decide +kernel
theorem dX6_digest_224 : decode cX6_digest 224 = .ok (.i2l, 1) := by decide +kernel
theorem dX6_digest_225 : decode cX6_digest 225 = .ok (.ladd, 1) := by decide +kernel
theorem dX6_digest_226 : decode cX6_digest 226 = .ok (.lstore_n 1, 1) := by decide +kernel
theorem dX6_digest_227 : decode cX6_digest 227 = .ok (.iinc 4 1, 3) := by decide +kernel
theorem dX6_digest_230 : decode cX6_digest 230 = .ok (.goto (-34), 3) := by decide +kernel
theorem dX6_digest_233 : decode cX6_digest 233 = .ok (.iinc 3 1, 3) := by decide +kernel
theorem dX6_digest_236 : decode cX6_digest 236 = .ok (.goto (-62), 3) := by decide +kernel
theorem dX6_digest_239 : decode cX6_digest 239 = .ok (.lload_n 1, 1) := by decide +kernel
theorem dX6_digest_240 : decode cX6_digest 240 = .ok (.lreturn, 1) := by decide +kernel
end
section
theorem dL_law_0 : decode cL_law 0 = .ok (.new 7, 3) := by decide +kernel
theorem dL_law_3 : decode cL_law 3 = .ok (.dup, 1) := by decide +kernel
theorem dL_law_4 : decode cL_law 4 = .ok (.invokespecial 9, 3) := by decide +kernel
theorem dL_law_7 : decode cL_law 7 = .ok (.astore_n 1, 1) := by decide +kernel
theorem dL_law_8 : decode cL_law 8 = .ok (.new 10, 3) := by decide +kernel
theorem dL_law_11 : decode cL_law 11 = .ok (.dup, 1) := by decide +kernel
theorem dL_law_12 : decode cL_law 12 = .ok (.invokespecial 12, 3) := by decide +kernel
theorem dL_law_15 : decode cL_law 15 = .ok (.astore_n 2, 1) := by decide +kernel
theorem dL_law_16 : decode cL_law 16 = .ok (.iconst 0, 1) := by decide +kernel
theorem dL_law_17 : decode cL_law 17 = .ok (.istore_n 3, 1) := by decide +kernel
theorem dL_law_18 : decode cL_law 18 = .ok (.iload_n 3, 1) := by decide +kernel
theorem dL_law_19 : decode cL_law 19 = .ok (.aload_n 0, 1) := by decide +kernel
theorem dL_law_20 : decode cL_law 20 = .ok (.arraylength, 1) := by decide +kernel
theorem dL_law_21 : decode cL_law 21 = .ok (.bipush 6, 2) := by decide +kernel
theorem dL_law_23 : decode cL_law 23 = .ok (.isub, 1) := by decide +kernel
theorem dL_law_24 : decode cL_law 24 = .ok (.if_icmp .gt 1276, 3) := by decide +kernel
theorem dL_law_27 : decode cL_law 27 = .ok (.aload_n 0, 1) := by decide +kernel
theorem dL_law_28 : decode cL_law 28 = .ok (.iload_n 3, 1) := by decide +kernel
theorem dL_law_29 : decode cL_law 29 = .ok (.iaload, 1) := by decide +kernel
theorem dL_law_30 : decode cL_law 30 = .ok (.bipush 63, 2) := by decide +kernel
theorem dL_law_32 : decode cL_law 32 = .ok (.iand, 1) := by decide +kernel
theorem dL_law_33 : decode cL_law 33 = .ok (.tableswitch 1261 0 38 #[171, 204, 247, 280, 303, 366, 389, 422, 465, 488, 511, 544, 577, 600, 633, 656, 679, 702, 725, 778, 801, 814, 847, 870, 893, 916, 949, 982, 1005, 1038, 1081, 1114, 1147, 1160, 1174, 1188, 1211, 1224, 1247], 171) := by decide +kernel
theorem dL_law_204 : decode cL_law 204 = .ok (.aload_n 1, 1) := by decide +kernel
theorem dL_law_205 : decode cL_law 205 = .ok (.aload_n 0, 1) := by decide +kernel
theorem dL_law_206 : decode cL_law 206 = .ok (.iload_n 3, 1) := by decide +kernel
theorem dL_law_207 : decode cL_law 207 = .ok (.iconst 1, 1) := by decide +kernel
theorem dL_law_208 : decode cL_law 208 = .ok (.iadd, 1) := by decide +kernel
theorem dL_law_209 : decode cL_law 209 = .ok (.iaload, 1) := by decide +kernel
theorem dL_law_210 : decode cL_law 210 = .ok (.aload_n 0, 1) := by decide +kernel
theorem dL_law_211 : decode cL_law 211 = .ok (.iload_n 3, 1) := by decide +kernel
theorem dL_law_212 : decode cL_law 212 = .ok (.iconst 2, 1) := by decide +kernel
theorem dL_law_213 : decode cL_law 213 = .ok (.iadd, 1) := by decide +kernel
theorem dL_law_214 : decode cL_law 214 = .ok (.iaload, 1) := by decide +kernel
theorem dL_law_215 : decode cL_law 215 = .ok (.invokevirtual 13, 3) := by decide +kernel
theorem dL_law_218 : decode cL_law 218 = .ok (.aload_n 2, 1) := by decide +kernel
theorem dL_law_219 : decode cL_law 219 = .ok (.aload_n 0, 1) := by decide +kernel
theorem dL_law_220 : decode cL_law 220 = .ok (.iload_n 3, 1) := by decide +kernel
theorem dL_law_221 : decode cL_law 221 = .ok (.iconst 1, 1) := by decide +kernel
theorem dL_law_222 : decode cL_law 222 = .ok (.iadd, 1) := by decide +kernel
theorem dL_law_223 : decode cL_law 223 = .ok (.iaload, 1) := by decide +kernel
theorem dL_law_224 : decode cL_law 224 = .ok (.aload_n 0, 1) := by decide +kernel
theorem dL_law_225 : decode cL_law 225 = .ok (.iload_n 3, 1) := by decide +kernel
theorem dL_law_226 : decode cL_law 226 = .ok (.iconst 2, 1) := by decide +kernel
theorem dL_law_227 : decode cL_law 227 = .ok (.iadd, 1) := by decide +kernel
theorem dL_law_228 : decode cL_law 228 = .ok (.iaload, 1) := by decide +kernel
theorem dL_law_229 : decode cL_law 229 = .ok (.invokevirtual 17, 3) := by decide +kernel
theorem dL_law_232 : decode cL_law 232 = .ok (.if_icmp .eq 1062, 3) := by decide +kernel
theorem dL_law_235 : decode cL_law 235 = .ok (.iconst 0, 1) := by decide +kernel
theorem dL_law_236 : decode cL_law 236 = .ok (.ireturn, 1) := by decide +kernel
theorem dL_law_237 : decode cL_law 237 = .ok (.aload_n 1, 1) := by decide +kernel
theorem dL_law_238 : decode cL_law 238 = .ok (.aload_n 0, 1) := by decide +kernel
theorem dL_law_239 : decode cL_law 239 = .ok (.iload_n 3, 1) := by decide +kernel
theorem dL_law_240 : decode cL_law 240 = .ok (.iconst 1, 1) := by decide +kernel
theorem dL_law_241 : decode cL_law 241 = .ok (.iadd, 1) := by decide +kernel
theorem dL_law_242 : decode cL_law 242 = .ok (.iaload, 1) := by decide +kernel
theorem dL_law_243 : decode cL_law 243 = .ok (.aload_n 0, 1) := by decide +kernel
theorem dL_law_244 : decode cL_law 244 = .ok (.iload_n 3, 1) := by decide +kernel
theorem dL_law_245 : decode cL_law 245 = .ok (.iconst 2, 1) := by decide +kernel
theorem dL_law_246 : decode cL_law 246 = .ok (.iadd, 1) := by decide +kernel
theorem dL_law_247 : decode cL_law 247 = .ok (.iaload, 1) := by decide +kernel
theorem dL_law_248 : decode cL_law 248 = .ok (.aload_n 0, 1) := by decide +kernel
theorem dL_law_249 : decode cL_law 249 = .ok (.iload_n 3, 1) := by decide +kernel
theorem dL_law_250 : decode cL_law 250 = .ok (.iconst 3, 1) := by decide +kernel
theorem dL_law_251 : decode cL_law 251 = .ok (.iadd, 1) := by decide +kernel
theorem dL_law_252 : decode cL_law 252 = .ok (.iaload, 1) := by decide +kernel
theorem dL_law_253 : decode cL_law 253 = .ok (.invokevirtual 18, 3) := by decide +kernel
theorem dL_law_256 : decode cL_law 256 = .ok (.aload_n 2, 1) := by decide +kernel
theorem dL_law_257 : decode cL_law 257 = .ok (.aload_n 0, 1) := by decide +kernel
theorem dL_law_258 : decode cL_law 258 = .ok (.iload_n 3, 1) := by decide +kernel
theorem dL_law_259 : decode cL_law 259 = .ok (.iconst 1, 1) := by decide +kernel
theorem dL_law_260 : decode cL_law 260 = .ok (.iadd, 1) := by decide +kernel
theorem dL_law_261 : decode cL_law 261 = .ok (.iaload, 1) := by decide +kernel
theorem dL_law_262 : decode cL_law 262 = .ok (.aload_n 0, 1) := by decide +kernel
theorem dL_law_263 : decode cL_law 263 = .ok (.iload_n 3, 1) := by decide +kernel
theorem dL_law_264 : decode cL_law 264 = .ok (.iconst 2, 1) := by decide +kernel
theorem dL_law_265 : decode cL_law 265 = .ok (.iadd, 1) := by decide +kernel
theorem dL_law_266 : decode cL_law 266 = .ok (.iaload, 1) := by decide +kernel
theorem dL_law_267 : decode cL_law 267 = .ok (.aload_n 0, 1) := by decide +kernel
theorem dL_law_268 : decode cL_law 268 = .ok (.iload_n 3, 1) := by decide +kernel
theorem dL_law_269 : decode cL_law 269 = .ok (.iconst 3, 1) := by decide +kernel
theorem dL_law_270 : decode cL_law 270 = .ok (.iadd, 1) := by decide +kernel
theorem dL_law_271 : decode cL_law 271 = .ok (.iaload, 1) := by decide +kernel
theorem dL_law_272 : decode cL_law 272 = .ok (.invokevirtual 22, 3) := by decide +kernel
theorem dL_law_275 : decode cL_law 275 = .ok (.if_icmp .eq 1019, 3) := by decide +kernel
theorem dL_law_278 : decode cL_law 278 = .ok (.iconst 0, 1) := by decide +kernel
theorem dL_law_279 : decode cL_law 279 = .ok (.ireturn, 1) := by decide +kernel
theorem dL_law_280 : decode cL_law 280 = .ok (.aload_n 1, 1) := by decide +kernel
theorem dL_law_281 : decode cL_law 281 = .ok (.aload_n 0, 1) := by decide +kernel
theorem dL_law_282 : decode cL_law 282 = .ok (.iload_n 3, 1) := by decide +kernel
theorem dL_law_283 : decode cL_law 283 = .ok (.iconst 1, 1) := by decide +kernel
theorem dL_law_284 : decode cL_law 284 = .ok (.iadd, 1) := by decide +kernel
theorem dL_law_285 : decode cL_law 285 = .ok (.iaload, 1) := by decide +kernel
theorem dL_law_286 : decode cL_law 286 = .ok (.aload_n 0, 1) := by decide +kernel
theorem dL_law_287 : decode cL_law 287 = .ok (.iload_n 3, 1) := by decide +kernel
theorem dL_law_288 : decode cL_law 288 = .ok (.iconst 2, 1) := by decide +kernel
theorem dL_law_289 : decode cL_law 289 = .ok (.iadd, 1) := by decide +kernel
theorem dL_law_290 : decode cL_law 290 = .ok (.iaload, 1) := by decide +kernel
theorem dL_law_291 : decode cL_law 291 = .ok (.invokevirtual 23, 3) := by decide +kernel
theorem dL_law_294 : decode cL_law 294 = .ok (.aload_n 2, 1) := by decide +kernel
theorem dL_law_295 : decode cL_law 295 = .ok (.aload_n 0, 1) := by decide +kernel
theorem dL_law_296 : decode cL_law 296 = .ok (.iload_n 3, 1) := by decide +kernel
theorem dL_law_297 : decode cL_law 297 = .ok (.iconst 1, 1) := by decide +kernel
theorem dL_law_298 : decode cL_law 298 = .ok (.iadd, 1) := by decide +kernel
theorem dL_law_299 : decode cL_law 299 = .ok (.iaload, 1) := by decide +kernel
theorem dL_law_300 : decode cL_law 300 = .ok (.aload_n 0, 1) := by decide +kernel
theorem dL_law_301 : decode cL_law 301 = .ok (.iload_n 3, 1) := by decide +kernel
theorem dL_law_302 : decode cL_law 302 = .ok (.iconst 2, 1) := by decide +kernel
theorem dL_law_303 : decode cL_law 303 = .ok (.iadd, 1) := by decide +kernel
theorem dL_law_304 : decode cL_law 304 = .ok (.iaload, 1) := by decide +kernel
theorem dL_law_305 : decode cL_law 305 = .ok (.invokevirtual 26, 3) := by decide +kernel
theorem dL_law_308 : decode cL_law 308 = .ok (.if_icmp .eq 986, 3) := by decide +kernel
theorem dL_law_311 : decode cL_law 311 = .ok (.iconst 0, 1) := by decide +kernel
theorem dL_law_312 : decode cL_law 312 = .ok (.ireturn, 1) := by decide +kernel
theorem dL_law_313 : decode cL_law 313 = .ok (.aload_n 1, 1) := by decide +kernel
theorem dL_law_314 : decode cL_law 314 = .ok (.aload_n 0, 1) := by decide +kernel
theorem dL_law_315 : decode cL_law 315 = .ok (.iload_n 3, 1) := by decide +kernel
theorem dL_law_316 : decode cL_law 316 = .ok (.iconst 1, 1) := by decide +kernel
theorem dL_law_317 : decode cL_law 317 = .ok (.iadd, 1) := by decide +kernel
theorem dL_law_318 : decode cL_law 318 = .ok (.iaload, 1) := by decide +kernel
theorem dL_law_319 : decode cL_law 319 = .ok (.invokevirtual 27, 3) := by decide +kernel
theorem dL_law_322 : decode cL_law 322 = .ok (.aload_n 2, 1) := by decide +kernel
theorem dL_law_323 : decode cL_law 323 = .ok (.aload_n 0, 1) := by decide +kernel
theorem dL_law_324 : decode cL_law 324 = .ok (.iload_n 3, 1) := by decide +kernel
theorem dL_law_325 : decode cL_law 325 = .ok (.iconst 1, 1) := by decide +kernel
theorem dL_law_326 : decode cL_law 326 = .ok (.iadd, 1) := by decide +kernel
theorem dL_law_327 : decode cL_law 327 = .ok (.iaload, 1) := by decide +kernel
theorem dL_law_328 : decode cL_law 328 = .ok (.invokevirtual 31, 3) := by decide +kernel
theorem dL_law_331 : decode cL_law 331 = .ok (.if_icmp .eq 963, 3) := by decide +kernel
theorem dL_law_334 : decode cL_law 334 = .ok (.iconst 0, 1) := by decide +kernel
theorem dL_law_335 : decode cL_law 335 = .ok (.ireturn, 1) := by decide +kernel
theorem dL_law_336 : decode cL_law 336 = .ok (.aload_n 1, 1) := by decide +kernel
theorem dL_law_337 : decode cL_law 337 = .ok (.aload_n 0, 1) := by decide +kernel
theorem dL_law_338 : decode cL_law 338 = .ok (.iload_n 3, 1) := by decide +kernel
theorem dL_law_339 : decode cL_law 339 = .ok (.iconst 1, 1) := by decide +kernel
theorem dL_law_340 : decode cL_law 340 = .ok (.iadd, 1) := by decide +kernel
theorem dL_law_341 : decode cL_law 341 = .ok (.iaload, 1) := by decide +kernel
theorem dL_law_342 : decode cL_law 342 = .ok (.aload_n 0, 1) := by decide +kernel
theorem dL_law_343 : decode cL_law 343 = .ok (.iload_n 3, 1) := by decide +kernel
theorem dL_law_344 : decode cL_law 344 = .ok (.iconst 2, 1) := by decide +kernel
theorem dL_law_345 : decode cL_law 345 = .ok (.iadd, 1) := by decide +kernel
theorem dL_law_346 : decode cL_law 346 = .ok (.iaload, 1) := by decide +kernel
theorem dL_law_347 : decode cL_law 347 = .ok (.aload_n 0, 1) := by decide +kernel
theorem dL_law_348 : decode cL_law 348 = .ok (.iload_n 3, 1) := by decide +kernel
theorem dL_law_349 : decode cL_law 349 = .ok (.iconst 3, 1) := by decide +kernel
theorem dL_law_350 : decode cL_law 350 = .ok (.iadd, 1) := by decide +kernel
theorem dL_law_351 : decode cL_law 351 = .ok (.iaload, 1) := by decide +kernel
theorem dL_law_352 : decode cL_law 352 = .ok (.aload_n 0, 1) := by decide +kernel
theorem dL_law_353 : decode cL_law 353 = .ok (.iload_n 3, 1) := by decide +kernel
theorem dL_law_354 : decode cL_law 354 = .ok (.iconst 4, 1) := by decide +kernel
theorem dL_law_355 : decode cL_law 355 = .ok (.iadd, 1) := by decide +kernel
theorem dL_law_356 : decode cL_law 356 = .ok (.iaload, 1) := by decide +kernel
theorem dL_law_357 : decode cL_law 357 = .ok (.aload_n 0, 1) := by decide +kernel
theorem dL_law_358 : decode cL_law 358 = .ok (.iload_n 3, 1) := by decide +kernel
theorem dL_law_359 : decode cL_law 359 = .ok (.iconst 5, 1) := by decide +kernel
theorem dL_law_360 : decode cL_law 360 = .ok (.iadd, 1) := by decide +kernel
theorem dL_law_361 : decode cL_law 361 = .ok (.iaload, 1) := by decide +kernel
theorem dL_law_362 : decode cL_law 362 = .ok (.invokevirtual 32, 3) := by decide +kernel
theorem dL_law_365 : decode cL_law 365 = .ok (.aload_n 2, 1) := by decide +kernel
theorem dL_law_366 : decode cL_law 366 = .ok (.aload_n 0, 1) := by decide +kernel
theorem dL_law_367 : decode cL_law 367 = .ok (.iload_n 3, 1) := by decide +kernel
theorem dL_law_368 : decode cL_law 368 = .ok (.iconst 1, 1) := by decide +kernel
theorem dL_law_369 : decode cL_law 369 = .ok (.iadd, 1) := by decide +kernel
theorem dL_law_370 : decode cL_law 370 = .ok (.iaload, 1) := by decide +kernel
theorem dL_law_371 : decode cL_law 371 = .ok (.aload_n 0, 1) := by decide +kernel
theorem dL_law_372 : decode cL_law 372 = .ok (.iload_n 3, 1) := by decide +kernel
theorem dL_law_373 : decode cL_law 373 = .ok (.iconst 2, 1) := by decide +kernel
theorem dL_law_374 : decode cL_law 374 = .ok (.iadd, 1) := by decide +kernel
theorem dL_law_375 : decode cL_law 375 = .ok (.iaload, 1) := by decide +kernel
theorem dL_law_376 : decode cL_law 376 = .ok (.aload_n 0, 1) := by decide +kernel
theorem dL_law_377 : decode cL_law 377 = .ok (.iload_n 3, 1) := by decide +kernel
theorem dL_law_378 : decode cL_law 378 = .ok (.iconst 3, 1) := by decide +kernel
theorem dL_law_379 : decode cL_law 379 = .ok (.iadd, 1) := by decide +kernel
theorem dL_law_380 : decode cL_law 380 = .ok (.iaload, 1) := by decide +kernel
theorem dL_law_381 : decode cL_law 381 = .ok (.aload_n 0, 1) := by decide +kernel
theorem dL_law_382 : decode cL_law 382 = .ok (.iload_n 3, 1) := by decide +kernel
theorem dL_law_383 : decode cL_law 383 = .ok (.iconst 4, 1) := by decide +kernel
theorem dL_law_384 : decode cL_law 384 = .ok (.iadd, 1) := by decide +kernel
theorem dL_law_385 : decode cL_law 385 = .ok (.iaload, 1) := by decide +kernel
theorem dL_law_386 : decode cL_law 386 = .ok (.aload_n 0, 1) := by decide +kernel
theorem dL_law_387 : decode cL_law 387 = .ok (.iload_n 3, 1) := by decide +kernel
theorem dL_law_388 : decode cL_law 388 = .ok (.iconst 5, 1) := by decide +kernel
theorem dL_law_389 : decode cL_law 389 = .ok (.iadd, 1) := by decide +kernel
theorem dL_law_390 : decode cL_law 390 = .ok (.iaload, 1) := by decide +kernel
theorem dL_law_391 : decode cL_law 391 = .ok (.invokevirtual 36, 3) := by decide +kernel
theorem dL_law_394 : decode cL_law 394 = .ok (.if_icmp .eq 900, 3) := by decide +kernel
theorem dL_law_397 : decode cL_law 397 = .ok (.iconst 0, 1) := by decide +kernel
theorem dL_law_398 : decode cL_law 398 = .ok (.ireturn, 1) := by decide +kernel
theorem dL_law_399 : decode cL_law 399 = .ok (.aload_n 1, 1) := by decide +kernel
theorem dL_law_400 : decode cL_law 400 = .ok (.aload_n 0, 1) := by decide +kernel
theorem dL_law_401 : decode cL_law 401 = .ok (.iload_n 3, 1) := by decide +kernel
theorem dL_law_402 : decode cL_law 402 = .ok (.iconst 1, 1) := by decide +kernel
theorem dL_law_403 : decode cL_law 403 = .ok (.iadd, 1) := by decide +kernel
theorem dL_law_404 : decode cL_law 404 = .ok (.iaload, 1) := by decide +kernel
theorem dL_law_405 : decode cL_law 405 = .ok (.invokevirtual 37, 3) := by decide +kernel
theorem dL_law_408 : decode cL_law 408 = .ok (.aload_n 2, 1) := by decide +kernel
theorem dL_law_409 : decode cL_law 409 = .ok (.aload_n 0, 1) := by decide +kernel
theorem dL_law_410 : decode cL_law 410 = .ok (.iload_n 3, 1) := by decide +kernel
theorem dL_law_411 : decode cL_law 411 = .ok (.iconst 1, 1) := by decide +kernel
theorem dL_law_412 : decode cL_law 412 = .ok (.iadd, 1) := by decide +kernel
theorem dL_law_413 : decode cL_law 413 = .ok (.iaload, 1) := by decide +kernel
theorem dL_law_414 : decode cL_law 414 = .ok (.invokevirtual 40, 3) := by decide +kernel
theorem dL_law_417 : decode cL_law 417 = .ok (.if_icmp .eq 877, 3) := by decide +kernel
theorem dL_law_420 : decode cL_law 420 = .ok (.iconst 0, 1) := by decide +kernel
theorem dL_law_421 : decode cL_law 421 = .ok (.ireturn, 1) := by decide +kernel
theorem dL_law_422 : decode cL_law 422 = .ok (.aload_n 1, 1) := by decide +kernel
theorem dL_law_423 : decode cL_law 423 = .ok (.aload_n 0, 1) := by decide +kernel
theorem dL_law_424 : decode cL_law 424 = .ok (.iload_n 3, 1) := by decide +kernel
theorem dL_law_425 : decode cL_law 425 = .ok (.iconst 1, 1) := by decide +kernel
theorem dL_law_426 : decode cL_law 426 = .ok (.iadd, 1) := by decide +kernel
theorem dL_law_427 : decode cL_law 427 = .ok (.iaload, 1) := by decide +kernel
theorem dL_law_428 : decode cL_law 428 = .ok (.aload_n 0, 1) := by decide +kernel
theorem dL_law_429 : decode cL_law 429 = .ok (.iload_n 3, 1) := by decide +kernel
theorem dL_law_430 : decode cL_law 430 = .ok (.iconst 2, 1) := by decide +kernel
theorem dL_law_431 : decode cL_law 431 = .ok (.iadd, 1) := by decide +kernel
theorem dL_law_432 : decode cL_law 432 = .ok (.iaload, 1) := by decide +kernel
theorem dL_law_433 : decode cL_law 433 = .ok (.invokevirtual 41, 3) := by decide +kernel
theorem dL_law_436 : decode cL_law 436 = .ok (.aload_n 2, 1) := by decide +kernel
theorem dL_law_437 : decode cL_law 437 = .ok (.aload_n 0, 1) := by decide +kernel
theorem dL_law_438 : decode cL_law 438 = .ok (.iload_n 3, 1) := by decide +kernel
theorem dL_law_439 : decode cL_law 439 = .ok (.iconst 1, 1) := by decide +kernel
theorem dL_law_440 : decode cL_law 440 = .ok (.iadd, 1) := by decide +kernel
theorem dL_law_441 : decode cL_law 441 = .ok (.iaload, 1) := by decide +kernel
theorem dL_law_442 : decode cL_law 442 = .ok (.aload_n 0, 1) := by decide +kernel
theorem dL_law_443 : decode cL_law 443 = .ok (.iload_n 3, 1) := by decide +kernel
theorem dL_law_444 : decode cL_law 444 = .ok (.iconst 2, 1) := by decide +kernel
theorem dL_law_445 : decode cL_law 445 = .ok (.iadd, 1) := by decide +kernel
theorem dL_law_446 : decode cL_law 446 = .ok (.iaload, 1) := by decide +kernel
theorem dL_law_447 : decode cL_law 447 = .ok (.invokevirtual 44, 3) := by decide +kernel
theorem dL_law_450 : decode cL_law 450 = .ok (.if_icmp .eq 844, 3) := by decide +kernel
theorem dL_law_453 : decode cL_law 453 = .ok (.iconst 0, 1) := by decide +kernel
theorem dL_law_454 : decode cL_law 454 = .ok (.ireturn, 1) := by decide +kernel
theorem dL_law_455 : decode cL_law 455 = .ok (.aload_n 1, 1) := by decide +kernel
theorem dL_law_456 : decode cL_law 456 = .ok (.aload_n 0, 1) := by decide +kernel
theorem dL_law_457 : decode cL_law 457 = .ok (.iload_n 3, 1) := by decide +kernel
theorem dL_law_458 : decode cL_law 458 = .ok (.iconst 1, 1) := by decide +kernel
theorem dL_law_459 : decode cL_law 459 = .ok (.iadd, 1) := by decide +kernel
theorem dL_law_460 : decode cL_law 460 = .ok (.iaload, 1) := by decide +kernel
theorem dL_law_461 : decode cL_law 461 = .ok (.aload_n 0, 1) := by decide +kernel
theorem dL_law_462 : decode cL_law 462 = .ok (.iload_n 3, 1) := by decide +kernel
theorem dL_law_463 : decode cL_law 463 = .ok (.iconst 2, 1) := by decide +kernel
theorem dL_law_464 : decode cL_law 464 = .ok (.iadd, 1) := by decide +kernel
theorem dL_law_465 : decode cL_law 465 = .ok (.iaload, 1) := by decide +kernel
theorem dL_law_466 : decode cL_law 466 = .ok (.aload_n 0, 1) := by decide +kernel
theorem dL_law_467 : decode cL_law 467 = .ok (.iload_n 3, 1) := by decide +kernel
theorem dL_law_468 : decode cL_law 468 = .ok (.iconst 3, 1) := by decide +kernel
theorem dL_law_469 : decode cL_law 469 = .ok (.iadd, 1) := by decide +kernel
theorem dL_law_470 : decode cL_law 470 = .ok (.iaload, 1) := by decide +kernel
theorem dL_law_471 : decode cL_law 471 = .ok (.invokevirtual 45, 3) := by decide +kernel
theorem dL_law_474 : decode cL_law 474 = .ok (.aload_n 2, 1) := by decide +kernel
theorem dL_law_475 : decode cL_law 475 = .ok (.aload_n 0, 1) := by decide +kernel
theorem dL_law_476 : decode cL_law 476 = .ok (.iload_n 3, 1) := by decide +kernel
theorem dL_law_477 : decode cL_law 477 = .ok (.iconst 1, 1) := by decide +kernel
theorem dL_law_478 : decode cL_law 478 = .ok (.iadd, 1) := by decide +kernel
theorem dL_law_479 : decode cL_law 479 = .ok (.iaload, 1) := by decide +kernel
theorem dL_law_480 : decode cL_law 480 = .ok (.aload_n 0, 1) := by decide +kernel
theorem dL_law_481 : decode cL_law 481 = .ok (.iload_n 3, 1) := by decide +kernel
theorem dL_law_482 : decode cL_law 482 = .ok (.iconst 2, 1) := by decide +kernel
theorem dL_law_483 : decode cL_law 483 = .ok (.iadd, 1) := by decide +kernel
theorem dL_law_484 : decode cL_law 484 = .ok (.iaload, 1) := by decide +kernel
theorem dL_law_485 : decode cL_law 485 = .ok (.aload_n 0, 1) := by decide +kernel
theorem dL_law_486 : decode cL_law 486 = .ok (.iload_n 3, 1) := by decide +kernel
theorem dL_law_487 : decode cL_law 487 = .ok (.iconst 3, 1) := by decide +kernel
theorem dL_law_488 : decode cL_law 488 = .ok (.iadd, 1) := by decide +kernel
theorem dL_law_489 : decode cL_law 489 = .ok (.iaload, 1) := by decide +kernel
theorem dL_law_490 : decode cL_law 490 = .ok (.invokevirtual 48, 3) := by decide +kernel
theorem dL_law_493 : decode cL_law 493 = .ok (.if_icmp .eq 801, 3) := by decide +kernel
theorem dL_law_496 : decode cL_law 496 = .ok (.iconst 0, 1) := by decide +kernel
theorem dL_law_497 : decode cL_law 497 = .ok (.ireturn, 1) := by decide +kernel
theorem dL_law_498 : decode cL_law 498 = .ok (.aload_n 1, 1) := by decide +kernel
theorem dL_law_499 : decode cL_law 499 = .ok (.aload_n 0, 1) := by decide +kernel
theorem dL_law_500 : decode cL_law 500 = .ok (.iload_n 3, 1) := by decide +kernel
theorem dL_law_501 : decode cL_law 501 = .ok (.iconst 1, 1) := by decide +kernel
theorem dL_law_502 : decode cL_law 502 = .ok (.iadd, 1) := by decide +kernel
theorem dL_law_503 : decode cL_law 503 = .ok (.iaload, 1) := by decide +kernel
theorem dL_law_504 : decode cL_law 504 = .ok (.invokevirtual 49, 3) := by decide +kernel
theorem dL_law_507 : decode cL_law 507 = .ok (.aload_n 2, 1) := by decide +kernel
theorem dL_law_508 : decode cL_law 508 = .ok (.aload_n 0, 1) := by decide +kernel
theorem dL_law_509 : decode cL_law 509 = .ok (.iload_n 3, 1) := by decide +kernel
theorem dL_law_510 : decode cL_law 510 = .ok (.iconst 1, 1) := by decide +kernel
theorem dL_law_511 : decode cL_law 511 = .ok (.iadd, 1) := by decide +kernel
theorem dL_law_512 : decode cL_law 512 = .ok (.iaload, 1) := by decide +kernel
theorem dL_law_513 : decode cL_law 513 = .ok (.invokevirtual 52, 3) := by decide +kernel
theorem dL_law_516 : decode cL_law 516 = .ok (.if_icmp .eq 778, 3) := by decide +kernel
theorem dL_law_519 : decode cL_law 519 = .ok (.iconst 0, 1) := by decide +kernel
theorem dL_law_520 : decode cL_law 520 = .ok (.ireturn, 1) := by decide +kernel
theorem dL_law_521 : decode cL_law 521 = .ok (.aload_n 1, 1) := by decide +kernel
theorem dL_law_522 : decode cL_law 522 = .ok (.aload_n 0, 1) := by decide +kernel
theorem dL_law_523 : decode cL_law 523 = .ok (.iload_n 3, 1) := by decide +kernel
theorem dL_law_524 : decode cL_law 524 = .ok (.iconst 1, 1) := by decide +kernel
theorem dL_law_525 : decode cL_law 525 = .ok (.iadd, 1) := by decide +kernel
theorem dL_law_526 : decode cL_law 526 = .ok (.iaload, 1) := by decide +kernel
theorem dL_law_527 : decode cL_law 527 = .ok (.invokevirtual 53, 3) := by decide +kernel
theorem dL_law_530 : decode cL_law 530 = .ok (.aload_n 2, 1) := by decide +kernel
theorem dL_law_531 : decode cL_law 531 = .ok (.aload_n 0, 1) := by decide +kernel
theorem dL_law_532 : decode cL_law 532 = .ok (.iload_n 3, 1) := by decide +kernel
theorem dL_law_533 : decode cL_law 533 = .ok (.iconst 1, 1) := by decide +kernel
theorem dL_law_534 : decode cL_law 534 = .ok (.iadd, 1) := by decide +kernel
theorem dL_law_535 : decode cL_law 535 = .ok (.iaload, 1) := by decide +kernel
theorem dL_law_536 : decode cL_law 536 = .ok (.invokevirtual 56, 3) := by decide +kernel
theorem dL_law_539 : decode cL_law 539 = .ok (.if_icmp .eq 755, 3) := by decide +kernel
theorem dL_law_542 : decode cL_law 542 = .ok (.iconst 0, 1) := by decide +kernel
theorem dL_law_543 : decode cL_law 543 = .ok (.ireturn, 1) := by decide +kernel
theorem dL_law_544 : decode cL_law 544 = .ok (.aload_n 1, 1) := by decide +kernel
theorem dL_law_545 : decode cL_law 545 = .ok (.aload_n 0, 1) := by decide +kernel
theorem dL_law_546 : decode cL_law 546 = .ok (.iload_n 3, 1) := by decide +kernel
theorem dL_law_547 : decode cL_law 547 = .ok (.iconst 1, 1) := by decide +kernel
theorem dL_law_548 : decode cL_law 548 = .ok (.iadd, 1) := by decide +kernel
theorem dL_law_549 : decode cL_law 549 = .ok (.iaload, 1) := by decide +kernel
theorem dL_law_550 : decode cL_law 550 = .ok (.aload_n 0, 1) := by decide +kernel
theorem dL_law_551 : decode cL_law 551 = .ok (.iload_n 3, 1) := by decide +kernel
theorem dL_law_552 : decode cL_law 552 = .ok (.iconst 2, 1) := by decide +kernel
theorem dL_law_553 : decode cL_law 553 = .ok (.iadd, 1) := by decide +kernel
theorem dL_law_554 : decode cL_law 554 = .ok (.iaload, 1) := by decide +kernel
theorem dL_law_555 : decode cL_law 555 = .ok (.invokevirtual 57, 3) := by decide +kernel
theorem dL_law_558 : decode cL_law 558 = .ok (.aload_n 2, 1) := by decide +kernel
theorem dL_law_559 : decode cL_law 559 = .ok (.aload_n 0, 1) := by decide +kernel
theorem dL_law_560 : decode cL_law 560 = .ok (.iload_n 3, 1) := by decide +kernel
theorem dL_law_561 : decode cL_law 561 = .ok (.iconst 1, 1) := by decide +kernel
theorem dL_law_562 : decode cL_law 562 = .ok (.iadd, 1) := by decide +kernel
theorem dL_law_563 : decode cL_law 563 = .ok (.iaload, 1) := by decide +kernel
theorem dL_law_564 : decode cL_law 564 = .ok (.aload_n 0, 1) := by decide +kernel
theorem dL_law_565 : decode cL_law 565 = .ok (.iload_n 3, 1) := by decide +kernel
theorem dL_law_566 : decode cL_law 566 = .ok (.iconst 2, 1) := by decide +kernel
theorem dL_law_567 : decode cL_law 567 = .ok (.iadd, 1) := by decide +kernel
theorem dL_law_568 : decode cL_law 568 = .ok (.iaload, 1) := by decide +kernel
theorem dL_law_569 : decode cL_law 569 = .ok (.invokevirtual 60, 3) := by decide +kernel
theorem dL_law_572 : decode cL_law 572 = .ok (.if_icmp .eq 722, 3) := by decide +kernel
theorem dL_law_575 : decode cL_law 575 = .ok (.iconst 0, 1) := by decide +kernel
theorem dL_law_576 : decode cL_law 576 = .ok (.ireturn, 1) := by decide +kernel
theorem dL_law_577 : decode cL_law 577 = .ok (.aload_n 1, 1) := by decide +kernel
theorem dL_law_578 : decode cL_law 578 = .ok (.aload_n 0, 1) := by decide +kernel
theorem dL_law_579 : decode cL_law 579 = .ok (.iload_n 3, 1) := by decide +kernel
theorem dL_law_580 : decode cL_law 580 = .ok (.iconst 1, 1) := by decide +kernel
theorem dL_law_581 : decode cL_law 581 = .ok (.iadd, 1) := by decide +kernel
theorem dL_law_582 : decode cL_law 582 = .ok (.iaload, 1) := by decide +kernel
theorem dL_law_583 : decode cL_law 583 = .ok (.aload_n 0, 1) := by decide +kernel
theorem dL_law_584 : decode cL_law 584 = .ok (.iload_n 3, 1) := by decide +kernel
theorem dL_law_585 : decode cL_law 585 = .ok (.iconst 2, 1) := by decide +kernel
theorem dL_law_586 : decode cL_law 586 = .ok (.iadd, 1) := by decide +kernel
theorem dL_law_587 : decode cL_law 587 = .ok (.iaload, 1) := by decide +kernel
theorem dL_law_588 : decode cL_law 588 = .ok (.invokevirtual 61, 3) := by decide +kernel
theorem dL_law_591 : decode cL_law 591 = .ok (.aload_n 2, 1) := by decide +kernel
theorem dL_law_592 : decode cL_law 592 = .ok (.aload_n 0, 1) := by decide +kernel
theorem dL_law_593 : decode cL_law 593 = .ok (.iload_n 3, 1) := by decide +kernel
theorem dL_law_594 : decode cL_law 594 = .ok (.iconst 1, 1) := by decide +kernel
theorem dL_law_595 : decode cL_law 595 = .ok (.iadd, 1) := by decide +kernel
theorem dL_law_596 : decode cL_law 596 = .ok (.iaload, 1) := by decide +kernel
theorem dL_law_597 : decode cL_law 597 = .ok (.aload_n 0, 1) := by decide +kernel
theorem dL_law_598 : decode cL_law 598 = .ok (.iload_n 3, 1) := by decide +kernel
theorem dL_law_599 : decode cL_law 599 = .ok (.iconst 2, 1) := by decide +kernel
theorem dL_law_600 : decode cL_law 600 = .ok (.iadd, 1) := by decide +kernel
theorem dL_law_601 : decode cL_law 601 = .ok (.iaload, 1) := by decide +kernel
theorem dL_law_602 : decode cL_law 602 = .ok (.invokevirtual 64, 3) := by decide +kernel
theorem dL_law_605 : decode cL_law 605 = .ok (.if_icmp .eq 689, 3) := by decide +kernel
theorem dL_law_608 : decode cL_law 608 = .ok (.iconst 0, 1) := by decide +kernel
theorem dL_law_609 : decode cL_law 609 = .ok (.ireturn, 1) := by decide +kernel
theorem dL_law_610 : decode cL_law 610 = .ok (.aload_n 1, 1) := by decide +kernel
theorem dL_law_611 : decode cL_law 611 = .ok (.aload_n 0, 1) := by decide +kernel
theorem dL_law_612 : decode cL_law 612 = .ok (.iload_n 3, 1) := by decide +kernel
theorem dL_law_613 : decode cL_law 613 = .ok (.iconst 1, 1) := by decide +kernel
theorem dL_law_614 : decode cL_law 614 = .ok (.iadd, 1) := by decide +kernel
theorem dL_law_615 : decode cL_law 615 = .ok (.iaload, 1) := by decide +kernel
theorem dL_law_616 : decode cL_law 616 = .ok (.invokevirtual 65, 3) := by decide +kernel
theorem dL_law_619 : decode cL_law 619 = .ok (.aload_n 2, 1) := by decide +kernel
theorem dL_law_620 : decode cL_law 620 = .ok (.aload_n 0, 1) := by decide +kernel
theorem dL_law_621 : decode cL_law 621 = .ok (.iload_n 3, 1) := by decide +kernel
theorem dL_law_622 : decode cL_law 622 = .ok (.iconst 1, 1) := by decide +kernel
theorem dL_law_623 : decode cL_law 623 = .ok (.iadd, 1) := by decide +kernel
theorem dL_law_624 : decode cL_law 624 = .ok (.iaload, 1) := by decide +kernel
theorem dL_law_625 : decode cL_law 625 = .ok (.invokevirtual 68, 3) := by decide +kernel
theorem dL_law_628 : decode cL_law 628 = .ok (.if_icmp .eq 666, 3) := by decide +kernel
theorem dL_law_631 : decode cL_law 631 = .ok (.iconst 0, 1) := by decide +kernel
theorem dL_law_632 : decode cL_law 632 = .ok (.ireturn, 1) := by decide +kernel
theorem dL_law_633 : decode cL_law 633 = .ok (.aload_n 1, 1) := by decide +kernel
theorem dL_law_634 : decode cL_law 634 = .ok (.aload_n 0, 1) := by decide +kernel
theorem dL_law_635 : decode cL_law 635 = .ok (.iload_n 3, 1) := by decide +kernel
theorem dL_law_636 : decode cL_law 636 = .ok (.iconst 1, 1) := by decide +kernel
theorem dL_law_637 : decode cL_law 637 = .ok (.iadd, 1) := by decide +kernel
theorem dL_law_638 : decode cL_law 638 = .ok (.iaload, 1) := by decide +kernel
theorem dL_law_639 : decode cL_law 639 = .ok (.aload_n 0, 1) := by decide +kernel
theorem dL_law_640 : decode cL_law 640 = .ok (.iload_n 3, 1) := by decide +kernel
theorem dL_law_641 : decode cL_law 641 = .ok (.iconst 2, 1) := by decide +kernel
theorem dL_law_642 : decode cL_law 642 = .ok (.iadd, 1) := by decide +kernel
theorem dL_law_643 : decode cL_law 643 = .ok (.iaload, 1) := by decide +kernel
theorem dL_law_644 : decode cL_law 644 = .ok (.invokevirtual 69, 3) := by decide +kernel
theorem dL_law_647 : decode cL_law 647 = .ok (.aload_n 2, 1) := by decide +kernel
theorem dL_law_648 : decode cL_law 648 = .ok (.aload_n 0, 1) := by decide +kernel
theorem dL_law_649 : decode cL_law 649 = .ok (.iload_n 3, 1) := by decide +kernel
theorem dL_law_650 : decode cL_law 650 = .ok (.iconst 1, 1) := by decide +kernel
theorem dL_law_651 : decode cL_law 651 = .ok (.iadd, 1) := by decide +kernel
theorem dL_law_652 : decode cL_law 652 = .ok (.iaload, 1) := by decide +kernel
theorem dL_law_653 : decode cL_law 653 = .ok (.aload_n 0, 1) := by decide +kernel
theorem dL_law_654 : decode cL_law 654 = .ok (.iload_n 3, 1) := by decide +kernel
theorem dL_law_655 : decode cL_law 655 = .ok (.iconst 2, 1) := by decide +kernel
theorem dL_law_656 : decode cL_law 656 = .ok (.iadd, 1) := by decide +kernel
theorem dL_law_657 : decode cL_law 657 = .ok (.iaload, 1) := by decide +kernel
theorem dL_law_658 : decode cL_law 658 = .ok (.invokevirtual 72, 3) := by decide +kernel
theorem dL_law_661 : decode cL_law 661 = .ok (.if_icmp .eq 633, 3) := by decide +kernel
theorem dL_law_664 : decode cL_law 664 = .ok (.iconst 0, 1) := by decide +kernel
theorem dL_law_665 : decode cL_law 665 = .ok (.ireturn, 1) := by decide +kernel
theorem dL_law_666 : decode cL_law 666 = .ok (.aload_n 1, 1) := by decide +kernel
theorem dL_law_667 : decode cL_law 667 = .ok (.aload_n 0, 1) := by decide +kernel
theorem dL_law_668 : decode cL_law 668 = .ok (.iload_n 3, 1) := by decide +kernel
theorem dL_law_669 : decode cL_law 669 = .ok (.iconst 1, 1) := by decide +kernel
theorem dL_law_670 : decode cL_law 670 = .ok (.iadd, 1) := by decide +kernel
theorem dL_law_671 : decode cL_law 671 = .ok (.iaload, 1) := by decide +kernel
theorem dL_law_672 : decode cL_law 672 = .ok (.invokevirtual 73, 3) := by decide +kernel
theorem dL_law_675 : decode cL_law 675 = .ok (.aload_n 2, 1) := by decide +kernel
theorem dL_law_676 : decode cL_law 676 = .ok (.aload_n 0, 1) := by decide +kernel
theorem dL_law_677 : decode cL_law 677 = .ok (.iload_n 3, 1) := by decide +kernel
theorem dL_law_678 : decode cL_law 678 = .ok (.iconst 1, 1) := by decide +kernel
theorem dL_law_679 : decode cL_law 679 = .ok (.iadd, 1) := by decide +kernel
theorem dL_law_680 : decode cL_law 680 = .ok (.iaload, 1) := by decide +kernel
theorem dL_law_681 : decode cL_law 681 = .ok (.invokevirtual 76, 3) := by decide +kernel
theorem dL_law_684 : decode cL_law 684 = .ok (.if_icmp .eq 610, 3) := by decide +kernel
theorem dL_law_687 : decode cL_law 687 = .ok (.iconst 0, 1) := by decide +kernel
theorem dL_law_688 : decode cL_law 688 = .ok (.ireturn, 1) := by decide +kernel
theorem dL_law_689 : decode cL_law 689 = .ok (.aload_n 1, 1) := by decide +kernel
theorem dL_law_690 : decode cL_law 690 = .ok (.aload_n 0, 1) := by decide +kernel
theorem dL_law_691 : decode cL_law 691 = .ok (.iload_n 3, 1) := by decide +kernel
theorem dL_law_692 : decode cL_law 692 = .ok (.iconst 1, 1) := by decide +kernel
theorem dL_law_693 : decode cL_law 693 = .ok (.iadd, 1) := by decide +kernel
theorem dL_law_694 : decode cL_law 694 = .ok (.iaload, 1) := by decide +kernel
theorem dL_law_695 : decode cL_law 695 = .ok (.invokevirtual 77, 3) := by decide +kernel
theorem dL_law_698 : decode cL_law 698 = .ok (.aload_n 2, 1) := by decide +kernel
theorem dL_law_699 : decode cL_law 699 = .ok (.aload_n 0, 1) := by decide +kernel
theorem dL_law_700 : decode cL_law 700 = .ok (.iload_n 3, 1) := by decide +kernel
theorem dL_law_701 : decode cL_law 701 = .ok (.iconst 1, 1) := by decide +kernel
theorem dL_law_702 : decode cL_law 702 = .ok (.iadd, 1) := by decide +kernel
theorem dL_law_703 : decode cL_law 703 = .ok (.iaload, 1) := by decide +kernel
theorem dL_law_704 : decode cL_law 704 = .ok (.invokevirtual 80, 3) := by decide +kernel
theorem dL_law_707 : decode cL_law 707 = .ok (.if_icmp .eq 587, 3) := by decide +kernel
theorem dL_law_710 : decode cL_law 710 = .ok (.iconst 0, 1) := by decide +kernel
theorem dL_law_711 : decode cL_law 711 = .ok (.ireturn, 1) := by decide +kernel
theorem dL_law_712 : decode cL_law 712 = .ok (.aload_n 1, 1) := by decide +kernel
theorem dL_law_713 : decode cL_law 713 = .ok (.aload_n 0, 1) := by decide +kernel
theorem dL_law_714 : decode cL_law 714 = .ok (.iload_n 3, 1) := by decide +kernel
theorem dL_law_715 : decode cL_law 715 = .ok (.iconst 1, 1) := by decide +kernel
theorem dL_law_716 : decode cL_law 716 = .ok (.iadd, 1) := by decide +kernel
theorem dL_law_717 : decode cL_law 717 = .ok (.iaload, 1) := by decide +kernel
theorem dL_law_718 : decode cL_law 718 = .ok (.invokevirtual 81, 3) := by decide +kernel
theorem dL_law_721 : decode cL_law 721 = .ok (.aload_n 2, 1) := by decide +kernel
theorem dL_law_722 : decode cL_law 722 = .ok (.aload_n 0, 1) := by decide +kernel
theorem dL_law_723 : decode cL_law 723 = .ok (.iload_n 3, 1) := by decide +kernel
theorem dL_law_724 : decode cL_law 724 = .ok (.iconst 1, 1) := by decide +kernel
theorem dL_law_725 : decode cL_law 725 = .ok (.iadd, 1) := by decide +kernel
theorem dL_law_726 : decode cL_law 726 = .ok (.iaload, 1) := by decide +kernel
theorem dL_law_727 : decode cL_law 727 = .ok (.invokevirtual 84, 3) := by decide +kernel
theorem dL_law_730 : decode cL_law 730 = .ok (.if_icmp .eq 564, 3) := by decide +kernel
theorem dL_law_733 : decode cL_law 733 = .ok (.iconst 0, 1) := by decide +kernel
theorem dL_law_734 : decode cL_law 734 = .ok (.ireturn, 1) := by decide +kernel
theorem dL_law_735 : decode cL_law 735 = .ok (.aload_n 1, 1) := by decide +kernel
theorem dL_law_736 : decode cL_law 736 = .ok (.aload_n 0, 1) := by decide +kernel
theorem dL_law_737 : decode cL_law 737 = .ok (.iload_n 3, 1) := by decide +kernel
theorem dL_law_738 : decode cL_law 738 = .ok (.iconst 1, 1) := by decide +kernel
theorem dL_law_739 : decode cL_law 739 = .ok (.iadd, 1) := by decide +kernel
theorem dL_law_740 : decode cL_law 740 = .ok (.iaload, 1) := by decide +kernel
theorem dL_law_741 : decode cL_law 741 = .ok (.invokevirtual 85, 3) := by decide +kernel
theorem dL_law_744 : decode cL_law 744 = .ok (.aload_n 2, 1) := by decide +kernel
theorem dL_law_745 : decode cL_law 745 = .ok (.aload_n 0, 1) := by decide +kernel
theorem dL_law_746 : decode cL_law 746 = .ok (.iload_n 3, 1) := by decide +kernel
theorem dL_law_747 : decode cL_law 747 = .ok (.iconst 1, 1) := by decide +kernel
theorem dL_law_748 : decode cL_law 748 = .ok (.iadd, 1) := by decide +kernel
theorem dL_law_749 : decode cL_law 749 = .ok (.iaload, 1) := by decide +kernel
theorem dL_law_750 : decode cL_law 750 = .ok (.invokevirtual 88, 3) := by decide +kernel
theorem dL_law_753 : decode cL_law 753 = .ok (.if_icmp .eq 541, 3) := by decide +kernel
theorem dL_law_756 : decode cL_law 756 = .ok (.iconst 0, 1) := by decide +kernel
theorem dL_law_757 : decode cL_law 757 = .ok (.ireturn, 1) := by decide +kernel
theorem dL_law_758 : decode cL_law 758 = .ok (.aload_n 1, 1) := by decide +kernel
theorem dL_law_759 : decode cL_law 759 = .ok (.aload_n 0, 1) := by decide +kernel
theorem dL_law_760 : decode cL_law 760 = .ok (.iload_n 3, 1) := by decide +kernel
theorem dL_law_761 : decode cL_law 761 = .ok (.iconst 1, 1) := by decide +kernel
theorem dL_law_762 : decode cL_law 762 = .ok (.iadd, 1) := by decide +kernel
theorem dL_law_763 : decode cL_law 763 = .ok (.iaload, 1) := by decide +kernel
theorem dL_law_764 : decode cL_law 764 = .ok (.aload_n 0, 1) := by decide +kernel
theorem dL_law_765 : decode cL_law 765 = .ok (.iload_n 3, 1) := by decide +kernel
theorem dL_law_766 : decode cL_law 766 = .ok (.iconst 2, 1) := by decide +kernel
theorem dL_law_767 : decode cL_law 767 = .ok (.iadd, 1) := by decide +kernel
theorem dL_law_768 : decode cL_law 768 = .ok (.iaload, 1) := by decide +kernel
theorem dL_law_769 : decode cL_law 769 = .ok (.aload_n 0, 1) := by decide +kernel
theorem dL_law_770 : decode cL_law 770 = .ok (.iload_n 3, 1) := by decide +kernel
theorem dL_law_771 : decode cL_law 771 = .ok (.iconst 3, 1) := by decide +kernel
theorem dL_law_772 : decode cL_law 772 = .ok (.iadd, 1) := by decide +kernel
theorem dL_law_773 : decode cL_law 773 = .ok (.iaload, 1) := by decide +kernel
theorem dL_law_774 : decode cL_law 774 = .ok (.aload_n 0, 1) := by decide +kernel
theorem dL_law_775 : decode cL_law 775 = .ok (.iload_n 3, 1) := by decide +kernel
theorem dL_law_776 : decode cL_law 776 = .ok (.iconst 4, 1) := by decide +kernel
theorem dL_law_777 : decode cL_law 777 = .ok (.iadd, 1) := by decide +kernel
theorem dL_law_778 : decode cL_law 778 = .ok (.iaload, 1) := by decide +kernel
theorem dL_law_779 : decode cL_law 779 = .ok (.invokevirtual 89, 3) := by decide +kernel
theorem dL_law_782 : decode cL_law 782 = .ok (.aload_n 2, 1) := by decide +kernel
theorem dL_law_783 : decode cL_law 783 = .ok (.aload_n 0, 1) := by decide +kernel
theorem dL_law_784 : decode cL_law 784 = .ok (.iload_n 3, 1) := by decide +kernel
theorem dL_law_785 : decode cL_law 785 = .ok (.iconst 1, 1) := by decide +kernel
theorem dL_law_786 : decode cL_law 786 = .ok (.iadd, 1) := by decide +kernel
theorem dL_law_787 : decode cL_law 787 = .ok (.iaload, 1) := by decide +kernel
theorem dL_law_788 : decode cL_law 788 = .ok (.aload_n 0, 1) := by decide +kernel
theorem dL_law_789 : decode cL_law 789 = .ok (.iload_n 3, 1) := by decide +kernel
theorem dL_law_790 : decode cL_law 790 = .ok (.iconst 2, 1) := by decide +kernel
theorem dL_law_791 : decode cL_law 791 = .ok (.iadd, 1) := by decide +kernel
theorem dL_law_792 : decode cL_law 792 = .ok (.iaload, 1) := by decide +kernel
theorem dL_law_793 : decode cL_law 793 = .ok (.aload_n 0, 1) := by decide +kernel
theorem dL_law_794 : decode cL_law 794 = .ok (.iload_n 3, 1) := by decide +kernel
theorem dL_law_795 : decode cL_law 795 = .ok (.iconst 3, 1) := by decide +kernel
theorem dL_law_796 : decode cL_law 796 = .ok (.iadd, 1) := by decide +kernel
theorem dL_law_797 : decode cL_law 797 = .ok (.iaload, 1) := by decide +kernel
theorem dL_law_798 : decode cL_law 798 = .ok (.aload_n 0, 1) := by decide +kernel
theorem dL_law_799 : decode cL_law 799 = .ok (.iload_n 3, 1) := by decide +kernel
theorem dL_law_800 : decode cL_law 800 = .ok (.iconst 4, 1) := by decide +kernel
theorem dL_law_801 : decode cL_law 801 = .ok (.iadd, 1) := by decide +kernel
theorem dL_law_802 : decode cL_law 802 = .ok (.iaload, 1) := by decide +kernel
theorem dL_law_803 : decode cL_law 803 = .ok (.invokevirtual 93, 3) := by decide +kernel
theorem dL_law_806 : decode cL_law 806 = .ok (.if_icmp .eq 488, 3) := by decide +kernel
theorem dL_law_809 : decode cL_law 809 = .ok (.iconst 0, 1) := by decide +kernel
theorem dL_law_810 : decode cL_law 810 = .ok (.ireturn, 1) := by decide +kernel
theorem dL_law_811 : decode cL_law 811 = .ok (.aload_n 1, 1) := by decide +kernel
theorem dL_law_812 : decode cL_law 812 = .ok (.aload_n 0, 1) := by decide +kernel
theorem dL_law_813 : decode cL_law 813 = .ok (.iload_n 3, 1) := by decide +kernel
theorem dL_law_814 : decode cL_law 814 = .ok (.iconst 1, 1) := by decide +kernel
theorem dL_law_815 : decode cL_law 815 = .ok (.iadd, 1) := by decide +kernel
theorem dL_law_816 : decode cL_law 816 = .ok (.iaload, 1) := by decide +kernel
theorem dL_law_817 : decode cL_law 817 = .ok (.invokevirtual 94, 3) := by decide +kernel
theorem dL_law_820 : decode cL_law 820 = .ok (.aload_n 2, 1) := by decide +kernel
theorem dL_law_821 : decode cL_law 821 = .ok (.aload_n 0, 1) := by decide +kernel
theorem dL_law_822 : decode cL_law 822 = .ok (.iload_n 3, 1) := by decide +kernel
theorem dL_law_823 : decode cL_law 823 = .ok (.iconst 1, 1) := by decide +kernel
theorem dL_law_824 : decode cL_law 824 = .ok (.iadd, 1) := by decide +kernel
theorem dL_law_825 : decode cL_law 825 = .ok (.iaload, 1) := by decide +kernel
theorem dL_law_826 : decode cL_law 826 = .ok (.invokevirtual 97, 3) := by decide +kernel
theorem dL_law_829 : decode cL_law 829 = .ok (.if_icmp .eq 465, 3) := by decide +kernel
theorem dL_law_832 : decode cL_law 832 = .ok (.iconst 0, 1) := by decide +kernel
theorem dL_law_833 : decode cL_law 833 = .ok (.ireturn, 1) := by decide +kernel
theorem dL_law_834 : decode cL_law 834 = .ok (.aload_n 1, 1) := by decide +kernel
theorem dL_law_835 : decode cL_law 835 = .ok (.invokevirtual 98, 3) := by decide +kernel
theorem dL_law_838 : decode cL_law 838 = .ok (.aload_n 2, 1) := by decide +kernel
theorem dL_law_839 : decode cL_law 839 = .ok (.invokevirtual 102, 3) := by decide +kernel
theorem dL_law_842 : decode cL_law 842 = .ok (.if_icmp .eq 452, 3) := by decide +kernel
theorem dL_law_845 : decode cL_law 845 = .ok (.iconst 0, 1) := by decide +kernel
theorem dL_law_846 : decode cL_law 846 = .ok (.ireturn, 1) := by decide +kernel
theorem dL_law_847 : decode cL_law 847 = .ok (.aload_n 1, 1) := by decide +kernel
theorem dL_law_848 : decode cL_law 848 = .ok (.aload_n 0, 1) := by decide +kernel
theorem dL_law_849 : decode cL_law 849 = .ok (.iload_n 3, 1) := by decide +kernel
theorem dL_law_850 : decode cL_law 850 = .ok (.iconst 1, 1) := by decide +kernel
theorem dL_law_851 : decode cL_law 851 = .ok (.iadd, 1) := by decide +kernel
theorem dL_law_852 : decode cL_law 852 = .ok (.iaload, 1) := by decide +kernel
theorem dL_law_853 : decode cL_law 853 = .ok (.aload_n 0, 1) := by decide +kernel
theorem dL_law_854 : decode cL_law 854 = .ok (.iload_n 3, 1) := by decide +kernel
theorem dL_law_855 : decode cL_law 855 = .ok (.iconst 2, 1) := by decide +kernel
theorem dL_law_856 : decode cL_law 856 = .ok (.iadd, 1) := by decide +kernel
theorem dL_law_857 : decode cL_law 857 = .ok (.iaload, 1) := by decide +kernel
theorem dL_law_858 : decode cL_law 858 = .ok (.invokevirtual 103, 3) := by decide +kernel
theorem dL_law_861 : decode cL_law 861 = .ok (.aload_n 2, 1) := by decide +kernel
theorem dL_law_862 : decode cL_law 862 = .ok (.aload_n 0, 1) := by decide +kernel
theorem dL_law_863 : decode cL_law 863 = .ok (.iload_n 3, 1) := by decide +kernel
theorem dL_law_864 : decode cL_law 864 = .ok (.iconst 1, 1) := by decide +kernel
theorem dL_law_865 : decode cL_law 865 = .ok (.iadd, 1) := by decide +kernel
theorem dL_law_866 : decode cL_law 866 = .ok (.iaload, 1) := by decide +kernel
theorem dL_law_867 : decode cL_law 867 = .ok (.aload_n 0, 1) := by decide +kernel
theorem dL_law_868 : decode cL_law 868 = .ok (.iload_n 3, 1) := by decide +kernel
theorem dL_law_869 : decode cL_law 869 = .ok (.iconst 2, 1) := by decide +kernel
theorem dL_law_870 : decode cL_law 870 = .ok (.iadd, 1) := by decide +kernel
theorem dL_law_871 : decode cL_law 871 = .ok (.iaload, 1) := by decide +kernel
theorem dL_law_872 : decode cL_law 872 = .ok (.invokevirtual 106, 3) := by decide +kernel
theorem dL_law_875 : decode cL_law 875 = .ok (.if_icmp .eq 419, 3) := by decide +kernel
theorem dL_law_878 : decode cL_law 878 = .ok (.iconst 0, 1) := by decide +kernel
theorem dL_law_879 : decode cL_law 879 = .ok (.ireturn, 1) := by decide +kernel
theorem dL_law_880 : decode cL_law 880 = .ok (.aload_n 1, 1) := by decide +kernel
theorem dL_law_881 : decode cL_law 881 = .ok (.aload_n 0, 1) := by decide +kernel
theorem dL_law_882 : decode cL_law 882 = .ok (.iload_n 3, 1) := by decide +kernel
theorem dL_law_883 : decode cL_law 883 = .ok (.iconst 1, 1) := by decide +kernel
theorem dL_law_884 : decode cL_law 884 = .ok (.iadd, 1) := by decide +kernel
theorem dL_law_885 : decode cL_law 885 = .ok (.iaload, 1) := by decide +kernel
theorem dL_law_886 : decode cL_law 886 = .ok (.invokevirtual 107, 3) := by decide +kernel
theorem dL_law_889 : decode cL_law 889 = .ok (.aload_n 2, 1) := by decide +kernel
theorem dL_law_890 : decode cL_law 890 = .ok (.aload_n 0, 1) := by decide +kernel
theorem dL_law_891 : decode cL_law 891 = .ok (.iload_n 3, 1) := by decide +kernel
theorem dL_law_892 : decode cL_law 892 = .ok (.iconst 1, 1) := by decide +kernel
theorem dL_law_893 : decode cL_law 893 = .ok (.iadd, 1) := by decide +kernel
theorem dL_law_894 : decode cL_law 894 = .ok (.iaload, 1) := by decide +kernel
theorem dL_law_895 : decode cL_law 895 = .ok (.invokevirtual 110, 3) := by decide +kernel
theorem dL_law_898 : decode cL_law 898 = .ok (.if_icmp .eq 396, 3) := by decide +kernel
theorem dL_law_901 : decode cL_law 901 = .ok (.iconst 0, 1) := by decide +kernel
theorem dL_law_902 : decode cL_law 902 = .ok (.ireturn, 1) := by decide +kernel
theorem dL_law_903 : decode cL_law 903 = .ok (.aload_n 1, 1) := by decide +kernel
theorem dL_law_904 : decode cL_law 904 = .ok (.aload_n 0, 1) := by decide +kernel
theorem dL_law_905 : decode cL_law 905 = .ok (.iload_n 3, 1) := by decide +kernel
theorem dL_law_906 : decode cL_law 906 = .ok (.iconst 1, 1) := by decide +kernel
theorem dL_law_907 : decode cL_law 907 = .ok (.iadd, 1) := by decide +kernel
theorem dL_law_908 : decode cL_law 908 = .ok (.iaload, 1) := by decide +kernel
theorem dL_law_909 : decode cL_law 909 = .ok (.invokevirtual 111, 3) := by decide +kernel
theorem dL_law_912 : decode cL_law 912 = .ok (.aload_n 2, 1) := by decide +kernel
theorem dL_law_913 : decode cL_law 913 = .ok (.aload_n 0, 1) := by decide +kernel
theorem dL_law_914 : decode cL_law 914 = .ok (.iload_n 3, 1) := by decide +kernel
theorem dL_law_915 : decode cL_law 915 = .ok (.iconst 1, 1) := by decide +kernel
theorem dL_law_916 : decode cL_law 916 = .ok (.iadd, 1) := by decide +kernel
theorem dL_law_917 : decode cL_law 917 = .ok (.iaload, 1) := by decide +kernel
theorem dL_law_918 : decode cL_law 918 = .ok (.invokevirtual 114, 3) := by decide +kernel
theorem dL_law_921 : decode cL_law 921 = .ok (.if_icmp .eq 373, 3) := by decide +kernel
theorem dL_law_924 : decode cL_law 924 = .ok (.iconst 0, 1) := by decide +kernel
theorem dL_law_925 : decode cL_law 925 = .ok (.ireturn, 1) := by decide +kernel
theorem dL_law_926 : decode cL_law 926 = .ok (.aload_n 1, 1) := by decide +kernel
theorem dL_law_927 : decode cL_law 927 = .ok (.aload_n 0, 1) := by decide +kernel
theorem dL_law_928 : decode cL_law 928 = .ok (.iload_n 3, 1) := by decide +kernel
theorem dL_law_929 : decode cL_law 929 = .ok (.iconst 1, 1) := by decide +kernel
theorem dL_law_930 : decode cL_law 930 = .ok (.iadd, 1) := by decide +kernel
theorem dL_law_931 : decode cL_law 931 = .ok (.iaload, 1) := by decide +kernel
theorem dL_law_932 : decode cL_law 932 = .ok (.invokevirtual 115, 3) := by decide +kernel
theorem dL_law_935 : decode cL_law 935 = .ok (.aload_n 2, 1) := by decide +kernel
theorem dL_law_936 : decode cL_law 936 = .ok (.aload_n 0, 1) := by decide +kernel
theorem dL_law_937 : decode cL_law 937 = .ok (.iload_n 3, 1) := by decide +kernel
theorem dL_law_938 : decode cL_law 938 = .ok (.iconst 1, 1) := by decide +kernel
theorem dL_law_939 : decode cL_law 939 = .ok (.iadd, 1) := by decide +kernel
theorem dL_law_940 : decode cL_law 940 = .ok (.iaload, 1) := by decide +kernel
theorem dL_law_941 : decode cL_law 941 = .ok (.invokevirtual 118, 3) := by decide +kernel
theorem dL_law_944 : decode cL_law 944 = .ok (.if_icmp .eq 350, 3) := by decide +kernel
theorem dL_law_947 : decode cL_law 947 = .ok (.iconst 0, 1) := by decide +kernel
theorem dL_law_948 : decode cL_law 948 = .ok (.ireturn, 1) := by decide +kernel
theorem dL_law_949 : decode cL_law 949 = .ok (.aload_n 1, 1) := by decide +kernel
theorem dL_law_950 : decode cL_law 950 = .ok (.aload_n 0, 1) := by decide +kernel
theorem dL_law_951 : decode cL_law 951 = .ok (.iload_n 3, 1) := by decide +kernel
theorem dL_law_952 : decode cL_law 952 = .ok (.iconst 1, 1) := by decide +kernel
theorem dL_law_953 : decode cL_law 953 = .ok (.iadd, 1) := by decide +kernel
theorem dL_law_954 : decode cL_law 954 = .ok (.iaload, 1) := by decide +kernel
theorem dL_law_955 : decode cL_law 955 = .ok (.aload_n 0, 1) := by decide +kernel
theorem dL_law_956 : decode cL_law 956 = .ok (.iload_n 3, 1) := by decide +kernel
theorem dL_law_957 : decode cL_law 957 = .ok (.iconst 2, 1) := by decide +kernel
theorem dL_law_958 : decode cL_law 958 = .ok (.iadd, 1) := by decide +kernel
theorem dL_law_959 : decode cL_law 959 = .ok (.iaload, 1) := by decide +kernel
theorem dL_law_960 : decode cL_law 960 = .ok (.invokevirtual 119, 3) := by decide +kernel
theorem dL_law_963 : decode cL_law 963 = .ok (.aload_n 2, 1) := by decide +kernel
theorem dL_law_964 : decode cL_law 964 = .ok (.aload_n 0, 1) := by decide +kernel
theorem dL_law_965 : decode cL_law 965 = .ok (.iload_n 3, 1) := by decide +kernel
theorem dL_law_966 : decode cL_law 966 = .ok (.iconst 1, 1) := by decide +kernel
theorem dL_law_967 : decode cL_law 967 = .ok (.iadd, 1) := by decide +kernel
theorem dL_law_968 : decode cL_law 968 = .ok (.iaload, 1) := by decide +kernel
theorem dL_law_969 : decode cL_law 969 = .ok (.aload_n 0, 1) := by decide +kernel
theorem dL_law_970 : decode cL_law 970 = .ok (.iload_n 3, 1) := by decide +kernel
theorem dL_law_971 : decode cL_law 971 = .ok (.iconst 2, 1) := by decide +kernel
theorem dL_law_972 : decode cL_law 972 = .ok (.iadd, 1) := by decide +kernel
theorem dL_law_973 : decode cL_law 973 = .ok (.iaload, 1) := by decide +kernel
theorem dL_law_974 : decode cL_law 974 = .ok (.invokevirtual 122, 3) := by decide +kernel
theorem dL_law_977 : decode cL_law 977 = .ok (.if_icmp .eq 317, 3) := by decide +kernel
theorem dL_law_980 : decode cL_law 980 = .ok (.iconst 0, 1) := by decide +kernel
theorem dL_law_981 : decode cL_law 981 = .ok (.ireturn, 1) := by decide +kernel
theorem dL_law_982 : decode cL_law 982 = .ok (.aload_n 1, 1) := by decide +kernel
theorem dL_law_983 : decode cL_law 983 = .ok (.aload_n 0, 1) := by decide +kernel
theorem dL_law_984 : decode cL_law 984 = .ok (.iload_n 3, 1) := by decide +kernel
theorem dL_law_985 : decode cL_law 985 = .ok (.iconst 1, 1) := by decide +kernel
theorem dL_law_986 : decode cL_law 986 = .ok (.iadd, 1) := by decide +kernel
theorem dL_law_987 : decode cL_law 987 = .ok (.iaload, 1) := by decide +kernel
theorem dL_law_988 : decode cL_law 988 = .ok (.aload_n 0, 1) := by decide +kernel
theorem dL_law_989 : decode cL_law 989 = .ok (.iload_n 3, 1) := by decide +kernel
theorem dL_law_990 : decode cL_law 990 = .ok (.iconst 2, 1) := by decide +kernel
theorem dL_law_991 : decode cL_law 991 = .ok (.iadd, 1) := by decide +kernel
theorem dL_law_992 : decode cL_law 992 = .ok (.iaload, 1) := by decide +kernel
theorem dL_law_993 : decode cL_law 993 = .ok (.invokevirtual 123, 3) := by decide +kernel
theorem dL_law_996 : decode cL_law 996 = .ok (.aload_n 2, 1) := by decide +kernel
theorem dL_law_997 : decode cL_law 997 = .ok (.aload_n 0, 1) := by decide +kernel
theorem dL_law_998 : decode cL_law 998 = .ok (.iload_n 3, 1) := by decide +kernel
theorem dL_law_999 : decode cL_law 999 = .ok (.iconst 1, 1) := by decide +kernel
theorem dL_law_1000 : decode cL_law 1000 = .ok (.iadd, 1) := by decide +kernel
theorem dL_law_1001 : decode cL_law 1001 = .ok (.iaload, 1) := by decide +kernel
theorem dL_law_1002 : decode cL_law 1002 = .ok (.aload_n 0, 1) := by decide +kernel
theorem dL_law_1003 : decode cL_law 1003 = .ok (.iload_n 3, 1) := by decide +kernel
theorem dL_law_1004 : decode cL_law 1004 = .ok (.iconst 2, 1) := by decide +kernel
theorem dL_law_1005 : decode cL_law 1005 = .ok (.iadd, 1) := by decide +kernel
theorem dL_law_1006 : decode cL_law 1006 = .ok (.iaload, 1) := by decide +kernel
theorem dL_law_1007 : decode cL_law 1007 = .ok (.invokevirtual 126, 3) := by decide +kernel
theorem dL_law_1010 : decode cL_law 1010 = .ok (.if_icmp .eq 284, 3) := by decide +kernel
theorem dL_law_1013 : decode cL_law 1013 = .ok (.iconst 0, 1) := by decide +kernel
theorem dL_law_1014 : decode cL_law 1014 = .ok (.ireturn, 1) := by decide +kernel
theorem dL_law_1015 : decode cL_law 1015 = .ok (.aload_n 1, 1) := by decide +kernel
theorem dL_law_1016 : decode cL_law 1016 = .ok (.aload_n 0, 1) := by decide +kernel
theorem dL_law_1017 : decode cL_law 1017 = .ok (.iload_n 3, 1) := by decide +kernel
theorem dL_law_1018 : decode cL_law 1018 = .ok (.iconst 1, 1) := by decide +kernel
theorem dL_law_1019 : decode cL_law 1019 = .ok (.iadd, 1) := by decide +kernel
theorem dL_law_1020 : decode cL_law 1020 = .ok (.iaload, 1) := by decide +kernel
theorem dL_law_1021 : decode cL_law 1021 = .ok (.invokevirtual 127, 3) := by decide +kernel
theorem dL_law_1024 : decode cL_law 1024 = .ok (.aload_n 2, 1) := by decide +kernel
theorem dL_law_1025 : decode cL_law 1025 = .ok (.aload_n 0, 1) := by decide +kernel
theorem dL_law_1026 : decode cL_law 1026 = .ok (.iload_n 3, 1) := by decide +kernel
theorem dL_law_1027 : decode cL_law 1027 = .ok (.iconst 1, 1) := by decide +kernel
theorem dL_law_1028 : decode cL_law 1028 = .ok (.iadd, 1) := by decide +kernel
theorem dL_law_1029 : decode cL_law 1029 = .ok (.iaload, 1) := by decide +kernel
theorem dL_law_1030 : decode cL_law 1030 = .ok (.invokevirtual 130, 3) := by decide +kernel
theorem dL_law_1033 : decode cL_law 1033 = .ok (.if_icmp .eq 261, 3) := by decide +kernel
theorem dL_law_1036 : decode cL_law 1036 = .ok (.iconst 0, 1) := by decide +kernel
theorem dL_law_1037 : decode cL_law 1037 = .ok (.ireturn, 1) := by decide +kernel
theorem dL_law_1038 : decode cL_law 1038 = .ok (.aload_n 1, 1) := by decide +kernel
theorem dL_law_1039 : decode cL_law 1039 = .ok (.aload_n 0, 1) := by decide +kernel
theorem dL_law_1040 : decode cL_law 1040 = .ok (.iload_n 3, 1) := by decide +kernel
theorem dL_law_1041 : decode cL_law 1041 = .ok (.iconst 1, 1) := by decide +kernel
theorem dL_law_1042 : decode cL_law 1042 = .ok (.iadd, 1) := by decide +kernel
theorem dL_law_1043 : decode cL_law 1043 = .ok (.iaload, 1) := by decide +kernel
theorem dL_law_1044 : decode cL_law 1044 = .ok (.aload_n 0, 1) := by decide +kernel
theorem dL_law_1045 : decode cL_law 1045 = .ok (.iload_n 3, 1) := by decide +kernel
theorem dL_law_1046 : decode cL_law 1046 = .ok (.iconst 2, 1) := by decide +kernel
theorem dL_law_1047 : decode cL_law 1047 = .ok (.iadd, 1) := by decide +kernel
theorem dL_law_1048 : decode cL_law 1048 = .ok (.iaload, 1) := by decide +kernel
theorem dL_law_1049 : decode cL_law 1049 = .ok (.invokevirtual 131, 3) := by decide +kernel
theorem dL_law_1052 : decode cL_law 1052 = .ok (.aload_n 2, 1) := by decide +kernel
theorem dL_law_1053 : decode cL_law 1053 = .ok (.aload_n 0, 1) := by decide +kernel
theorem dL_law_1054 : decode cL_law 1054 = .ok (.iload_n 3, 1) := by decide +kernel
theorem dL_law_1055 : decode cL_law 1055 = .ok (.iconst 1, 1) := by decide +kernel
theorem dL_law_1056 : decode cL_law 1056 = .ok (.iadd, 1) := by decide +kernel
theorem dL_law_1057 : decode cL_law 1057 = .ok (.iaload, 1) := by decide +kernel
theorem dL_law_1058 : decode cL_law 1058 = .ok (.aload_n 0, 1) := by decide +kernel
theorem dL_law_1059 : decode cL_law 1059 = .ok (.iload_n 3, 1) := by decide +kernel
theorem dL_law_1060 : decode cL_law 1060 = .ok (.iconst 2, 1) := by decide +kernel
theorem dL_law_1061 : decode cL_law 1061 = .ok (.iadd, 1) := by decide +kernel
theorem dL_law_1062 : decode cL_law 1062 = .ok (.iaload, 1) := by decide +kernel
theorem dL_law_1063 : decode cL_law 1063 = .ok (.invokevirtual 134, 3) := by decide +kernel
theorem dL_law_1066 : decode cL_law 1066 = .ok (.if_icmp .eq 228, 3) := by decide +kernel
theorem dL_law_1069 : decode cL_law 1069 = .ok (.iconst 0, 1) := by decide +kernel
theorem dL_law_1070 : decode cL_law 1070 = .ok (.ireturn, 1) := by decide +kernel
theorem dL_law_1071 : decode cL_law 1071 = .ok (.aload_n 1, 1) := by decide +kernel
theorem dL_law_1072 : decode cL_law 1072 = .ok (.aload_n 0, 1) := by decide +kernel
theorem dL_law_1073 : decode cL_law 1073 = .ok (.iload_n 3, 1) := by decide +kernel
theorem dL_law_1074 : decode cL_law 1074 = .ok (.iconst 1, 1) := by decide +kernel
theorem dL_law_1075 : decode cL_law 1075 = .ok (.iadd, 1) := by decide +kernel
theorem dL_law_1076 : decode cL_law 1076 = .ok (.iaload, 1) := by decide +kernel
theorem dL_law_1077 : decode cL_law 1077 = .ok (.aload_n 0, 1) := by decide +kernel
theorem dL_law_1078 : decode cL_law 1078 = .ok (.iload_n 3, 1) := by decide +kernel
theorem dL_law_1079 : decode cL_law 1079 = .ok (.iconst 2, 1) := by decide +kernel
theorem dL_law_1080 : decode cL_law 1080 = .ok (.iadd, 1) := by decide +kernel
theorem dL_law_1081 : decode cL_law 1081 = .ok (.iaload, 1) := by decide +kernel
theorem dL_law_1082 : decode cL_law 1082 = .ok (.aload_n 0, 1) := by decide +kernel
theorem dL_law_1083 : decode cL_law 1083 = .ok (.iload_n 3, 1) := by decide +kernel
theorem dL_law_1084 : decode cL_law 1084 = .ok (.iconst 3, 1) := by decide +kernel
theorem dL_law_1085 : decode cL_law 1085 = .ok (.iadd, 1) := by decide +kernel
theorem dL_law_1086 : decode cL_law 1086 = .ok (.iaload, 1) := by decide +kernel
theorem dL_law_1087 : decode cL_law 1087 = .ok (.invokevirtual 135, 3) := by decide +kernel
theorem dL_law_1090 : decode cL_law 1090 = .ok (.aload_n 2, 1) := by decide +kernel
theorem dL_law_1091 : decode cL_law 1091 = .ok (.aload_n 0, 1) := by decide +kernel
theorem dL_law_1092 : decode cL_law 1092 = .ok (.iload_n 3, 1) := by decide +kernel
theorem dL_law_1093 : decode cL_law 1093 = .ok (.iconst 1, 1) := by decide +kernel
theorem dL_law_1094 : decode cL_law 1094 = .ok (.iadd, 1) := by decide +kernel
theorem dL_law_1095 : decode cL_law 1095 = .ok (.iaload, 1) := by decide +kernel
theorem dL_law_1096 : decode cL_law 1096 = .ok (.aload_n 0, 1) := by decide +kernel
theorem dL_law_1097 : decode cL_law 1097 = .ok (.iload_n 3, 1) := by decide +kernel
theorem dL_law_1098 : decode cL_law 1098 = .ok (.iconst 2, 1) := by decide +kernel
theorem dL_law_1099 : decode cL_law 1099 = .ok (.iadd, 1) := by decide +kernel
theorem dL_law_1100 : decode cL_law 1100 = .ok (.iaload, 1) := by decide +kernel
theorem dL_law_1101 : decode cL_law 1101 = .ok (.aload_n 0, 1) := by decide +kernel
theorem dL_law_1102 : decode cL_law 1102 = .ok (.iload_n 3, 1) := by decide +kernel
theorem dL_law_1103 : decode cL_law 1103 = .ok (.iconst 3, 1) := by decide +kernel
theorem dL_law_1104 : decode cL_law 1104 = .ok (.iadd, 1) := by decide +kernel
theorem dL_law_1105 : decode cL_law 1105 = .ok (.iaload, 1) := by decide +kernel
theorem dL_law_1106 : decode cL_law 1106 = .ok (.invokevirtual 138, 3) := by decide +kernel
theorem dL_law_1109 : decode cL_law 1109 = .ok (.if_icmp .eq 185, 3) := by decide +kernel
theorem dL_law_1112 : decode cL_law 1112 = .ok (.iconst 0, 1) := by decide +kernel
theorem dL_law_1113 : decode cL_law 1113 = .ok (.ireturn, 1) := by decide +kernel
theorem dL_law_1114 : decode cL_law 1114 = .ok (.aload_n 1, 1) := by decide +kernel
theorem dL_law_1115 : decode cL_law 1115 = .ok (.aload_n 0, 1) := by decide +kernel
theorem dL_law_1116 : decode cL_law 1116 = .ok (.iload_n 3, 1) := by decide +kernel
theorem dL_law_1117 : decode cL_law 1117 = .ok (.iconst 1, 1) := by decide +kernel
theorem dL_law_1118 : decode cL_law 1118 = .ok (.iadd, 1) := by decide +kernel
theorem dL_law_1119 : decode cL_law 1119 = .ok (.iaload, 1) := by decide +kernel
theorem dL_law_1120 : decode cL_law 1120 = .ok (.aload_n 0, 1) := by decide +kernel
theorem dL_law_1121 : decode cL_law 1121 = .ok (.iload_n 3, 1) := by decide +kernel
theorem dL_law_1122 : decode cL_law 1122 = .ok (.iconst 2, 1) := by decide +kernel
theorem dL_law_1123 : decode cL_law 1123 = .ok (.iadd, 1) := by decide +kernel
theorem dL_law_1124 : decode cL_law 1124 = .ok (.iaload, 1) := by decide +kernel
theorem dL_law_1125 : decode cL_law 1125 = .ok (.invokevirtual 139, 3) := by decide +kernel
theorem dL_law_1128 : decode cL_law 1128 = .ok (.aload_n 2, 1) := by decide +kernel
theorem dL_law_1129 : decode cL_law 1129 = .ok (.aload_n 0, 1) := by decide +kernel
theorem dL_law_1130 : decode cL_law 1130 = .ok (.iload_n 3, 1) := by decide +kernel
theorem dL_law_1131 : decode cL_law 1131 = .ok (.iconst 1, 1) := by decide +kernel
theorem dL_law_1132 : decode cL_law 1132 = .ok (.iadd, 1) := by decide +kernel
theorem dL_law_1133 : decode cL_law 1133 = .ok (.iaload, 1) := by decide +kernel
theorem dL_law_1134 : decode cL_law 1134 = .ok (.aload_n 0, 1) := by decide +kernel
theorem dL_law_1135 : decode cL_law 1135 = .ok (.iload_n 3, 1) := by decide +kernel
theorem dL_law_1136 : decode cL_law 1136 = .ok (.iconst 2, 1) := by decide +kernel
theorem dL_law_1137 : decode cL_law 1137 = .ok (.iadd, 1) := by decide +kernel
theorem dL_law_1138 : decode cL_law 1138 = .ok (.iaload, 1) := by decide +kernel
theorem dL_law_1139 : decode cL_law 1139 = .ok (.invokevirtual 142, 3) := by decide +kernel
theorem dL_law_1142 : decode cL_law 1142 = .ok (.if_icmp .eq 152, 3) := by decide +kernel
theorem dL_law_1145 : decode cL_law 1145 = .ok (.iconst 0, 1) := by decide +kernel
theorem dL_law_1146 : decode cL_law 1146 = .ok (.ireturn, 1) := by decide +kernel
theorem dL_law_1147 : decode cL_law 1147 = .ok (.aload_n 1, 1) := by decide +kernel
theorem dL_law_1148 : decode cL_law 1148 = .ok (.aload_n 0, 1) := by decide +kernel
theorem dL_law_1149 : decode cL_law 1149 = .ok (.iload_n 3, 1) := by decide +kernel
theorem dL_law_1150 : decode cL_law 1150 = .ok (.iconst 1, 1) := by decide +kernel
theorem dL_law_1151 : decode cL_law 1151 = .ok (.iadd, 1) := by decide +kernel
theorem dL_law_1152 : decode cL_law 1152 = .ok (.iaload, 1) := by decide +kernel
theorem dL_law_1153 : decode cL_law 1153 = .ok (.aload_n 0, 1) := by decide +kernel
theorem dL_law_1154 : decode cL_law 1154 = .ok (.iload_n 3, 1) := by decide +kernel
theorem dL_law_1155 : decode cL_law 1155 = .ok (.iconst 2, 1) := by decide +kernel
theorem dL_law_1156 : decode cL_law 1156 = .ok (.iadd, 1) := by decide +kernel
theorem dL_law_1157 : decode cL_law 1157 = .ok (.iaload, 1) := by decide +kernel
theorem dL_law_1158 : decode cL_law 1158 = .ok (.invokevirtual 143, 3) := by decide +kernel
theorem dL_law_1161 : decode cL_law 1161 = .ok (.aload_n 2, 1) := by decide +kernel
theorem dL_law_1162 : decode cL_law 1162 = .ok (.aload_n 0, 1) := by decide +kernel
theorem dL_law_1163 : decode cL_law 1163 = .ok (.iload_n 3, 1) := by decide +kernel
theorem dL_law_1164 : decode cL_law 1164 = .ok (.iconst 1, 1) := by decide +kernel
theorem dL_law_1165 : decode cL_law 1165 = .ok (.iadd, 1) := by decide +kernel
theorem dL_law_1166 : decode cL_law 1166 = .ok (.iaload, 1) := by decide +kernel
theorem dL_law_1167 : decode cL_law 1167 = .ok (.aload_n 0, 1) := by decide +kernel
theorem dL_law_1168 : decode cL_law 1168 = .ok (.iload_n 3, 1) := by decide +kernel
theorem dL_law_1169 : decode cL_law 1169 = .ok (.iconst 2, 1) := by decide +kernel
theorem dL_law_1170 : decode cL_law 1170 = .ok (.iadd, 1) := by decide +kernel
theorem dL_law_1171 : decode cL_law 1171 = .ok (.iaload, 1) := by decide +kernel
theorem dL_law_1172 : decode cL_law 1172 = .ok (.invokevirtual 146, 3) := by decide +kernel
theorem dL_law_1175 : decode cL_law 1175 = .ok (.if_icmp .eq 119, 3) := by decide +kernel
theorem dL_law_1178 : decode cL_law 1178 = .ok (.iconst 0, 1) := by decide +kernel
theorem dL_law_1179 : decode cL_law 1179 = .ok (.ireturn, 1) := by decide +kernel
theorem dL_law_1180 : decode cL_law 1180 = .ok (.aload_n 1, 1) := by decide +kernel
theorem dL_law_1181 : decode cL_law 1181 = .ok (.invokevirtual 147, 3) := by decide +kernel
theorem dL_law_1184 : decode cL_law 1184 = .ok (.aload_n 2, 1) := by decide +kernel
theorem dL_law_1185 : decode cL_law 1185 = .ok (.invokevirtual 150, 3) := by decide +kernel
theorem dL_law_1188 : decode cL_law 1188 = .ok (.if_icmp .eq 106, 3) := by decide +kernel
theorem dL_law_1191 : decode cL_law 1191 = .ok (.iconst 0, 1) := by decide +kernel
theorem dL_law_1192 : decode cL_law 1192 = .ok (.ireturn, 1) := by decide +kernel
theorem dL_law_1193 : decode cL_law 1193 = .ok (.aload_n 1, 1) := by decide +kernel
theorem dL_law_1194 : decode cL_law 1194 = .ok (.invokevirtual 151, 3) := by decide +kernel
theorem dL_law_1197 : decode cL_law 1197 = .ok (.aload_n 2, 1) := by decide +kernel
theorem dL_law_1198 : decode cL_law 1198 = .ok (.invokevirtual 155, 3) := by decide +kernel
theorem dL_law_1201 : decode cL_law 1201 = .ok (.lcmp, 1) := by decide +kernel
theorem dL_law_1202 : decode cL_law 1202 = .ok (.ifCond .eq 92, 3) := by decide +kernel
theorem dL_law_1205 : decode cL_law 1205 = .ok (.iconst 0, 1) := by decide +kernel
theorem dL_law_1206 : decode cL_law 1206 = .ok (.ireturn, 1) := by decide +kernel
theorem dL_law_1207 : decode cL_law 1207 = .ok (.aload_n 1, 1) := by decide +kernel
theorem dL_law_1208 : decode cL_law 1208 = .ok (.invokevirtual 156, 3) := by decide +kernel
theorem dL_law_1211 : decode cL_law 1211 = .ok (.aload_n 2, 1) := by decide +kernel
theorem dL_law_1212 : decode cL_law 1212 = .ok (.invokevirtual 159, 3) := by decide +kernel
theorem dL_law_1215 : decode cL_law 1215 = .ok (.lcmp, 1) := by decide +kernel
theorem dL_law_1216 : decode cL_law 1216 = .ok (.ifCond .eq 78, 3) := by decide +kernel
theorem dL_law_1219 : decode cL_law 1219 = .ok (.iconst 0, 1) := by decide +kernel
theorem dL_law_1220 : decode cL_law 1220 = .ok (.ireturn, 1) := by decide +kernel
theorem dL_law_1221 : decode cL_law 1221 = .ok (.aload_n 1, 1) := by decide +kernel
theorem dL_law_1222 : decode cL_law 1222 = .ok (.aload_n 0, 1) := by decide +kernel
theorem dL_law_1223 : decode cL_law 1223 = .ok (.iload_n 3, 1) := by decide +kernel
theorem dL_law_1224 : decode cL_law 1224 = .ok (.iconst 1, 1) := by decide +kernel
theorem dL_law_1225 : decode cL_law 1225 = .ok (.iadd, 1) := by decide +kernel
theorem dL_law_1226 : decode cL_law 1226 = .ok (.iaload, 1) := by decide +kernel
theorem dL_law_1227 : decode cL_law 1227 = .ok (.invokevirtual 160, 3) := by decide +kernel
theorem dL_law_1230 : decode cL_law 1230 = .ok (.aload_n 2, 1) := by decide +kernel
theorem dL_law_1231 : decode cL_law 1231 = .ok (.aload_n 0, 1) := by decide +kernel
theorem dL_law_1232 : decode cL_law 1232 = .ok (.iload_n 3, 1) := by decide +kernel
theorem dL_law_1233 : decode cL_law 1233 = .ok (.iconst 1, 1) := by decide +kernel
theorem dL_law_1234 : decode cL_law 1234 = .ok (.iadd, 1) := by decide +kernel
theorem dL_law_1235 : decode cL_law 1235 = .ok (.iaload, 1) := by decide +kernel
theorem dL_law_1236 : decode cL_law 1236 = .ok (.invokevirtual 163, 3) := by decide +kernel
theorem dL_law_1239 : decode cL_law 1239 = .ok (.if_icmp .eq 55, 3) := by decide +kernel
theorem dL_law_1242 : decode cL_law 1242 = .ok (.iconst 0, 1) := by decide +kernel
theorem dL_law_1243 : decode cL_law 1243 = .ok (.ireturn, 1) := by decide +kernel
theorem dL_law_1244 : decode cL_law 1244 = .ok (.aload_n 1, 1) := by decide +kernel
theorem dL_law_1245 : decode cL_law 1245 = .ok (.invokevirtual 164, 3) := by decide +kernel
theorem dL_law_1248 : decode cL_law 1248 = .ok (.aload_n 2, 1) := by decide +kernel
theorem dL_law_1249 : decode cL_law 1249 = .ok (.invokevirtual 167, 3) := by decide +kernel
theorem dL_law_1252 : decode cL_law 1252 = .ok (.if_icmp .eq 42, 3) := by decide +kernel
theorem dL_law_1255 : decode cL_law 1255 = .ok (.iconst 0, 1) := by decide +kernel
theorem dL_law_1256 : decode cL_law 1256 = .ok (.ireturn, 1) := by decide +kernel
theorem dL_law_1257 : decode cL_law 1257 = .ok (.aload_n 1, 1) := by decide +kernel
theorem dL_law_1258 : decode cL_law 1258 = .ok (.aload_n 0, 1) := by decide +kernel
theorem dL_law_1259 : decode cL_law 1259 = .ok (.iload_n 3, 1) := by decide +kernel
theorem dL_law_1260 : decode cL_law 1260 = .ok (.iconst 1, 1) := by decide +kernel
theorem dL_law_1261 : decode cL_law 1261 = .ok (.iadd, 1) := by decide +kernel
theorem dL_law_1262 : decode cL_law 1262 = .ok (.iaload, 1) := by decide +kernel
theorem dL_law_1263 : decode cL_law 1263 = .ok (.invokevirtual 168, 3) := by decide +kernel
theorem dL_law_1266 : decode cL_law 1266 = .ok (.aload_n 2, 1) := by decide +kernel
theorem dL_law_1267 : decode cL_law 1267 = .ok (.aload_n 0, 1) := by decide +kernel
theorem dL_law_1268 : decode cL_law 1268 = .ok (.iload_n 3, 1) := by decide +kernel
theorem dL_law_1269 : decode cL_law 1269 = .ok (.iconst 1, 1) := by decide +kernel
theorem dL_law_1270 : decode cL_law 1270 = .ok (.iadd, 1) := by decide +kernel
theorem dL_law_1271 : decode cL_law 1271 = .ok (.iaload, 1) := by decide +kernel
theorem dL_law_1272 : decode cL_law 1272 = .ok (.invokevirtual 171, 3) := by decide +kernel
theorem dL_law_1275 : decode cL_law 1275 = .ok (.if_icmp .eq 19, 3) := by decide +kernel
theorem dL_law_1278 : decode cL_law 1278 = .ok (.iconst 0, 1) := by decide +kernel
theorem dL_law_1279 : decode cL_law 1279 = .ok (.ireturn, 1) := by decide +kernel
theorem dL_law_1280 : decode cL_law 1280 = .ok (.aload_n 1, 1) := by decide +kernel
theorem dL_law_1281 : decode cL_law 1281 = .ok (.invokevirtual 172, 3) := by decide +kernel
theorem dL_law_1284 : decode cL_law 1284 = .ok (.aload_n 2, 1) := by decide +kernel
theorem dL_law_1285 : decode cL_law 1285 = .ok (.invokevirtual 175, 3) := by decide +kernel
theorem dL_law_1288 : decode cL_law 1288 = .ok (.lcmp, 1) := by decide +kernel
theorem dL_law_1289 : decode cL_law 1289 = .ok (.ifCond .eq 5, 3) := by decide +kernel
theorem dL_law_1292 : decode cL_law 1292 = .ok (.iconst 0, 1) := by decide +kernel
theorem dL_law_1293 : decode cL_law 1293 = .ok (.ireturn, 1) := by decide +kernel
theorem dL_law_1294 : decode cL_law 1294 = .ok (.iinc 3 6, 3) := by decide +kernel
theorem dL_law_1297 : decode cL_law 1297 = .ok (.goto (-1279), 3) := by decide +kernel
theorem dL_law_1300 : decode cL_law 1300 = .ok (.iconst 1, 1) := by decide +kernel
theorem dL_law_1301 : decode cL_law 1301 = .ok (.ireturn, 1) := by decide +kernel
end
section
/-! ===== the system's state, apart from addresses: every object and array has a kind k and a number j ===== -/
abbrev zV : Type := Value ⊕ (Nat × Nat)
abbrev zSt : Type := (Nat → Nat → Nat → Int32) × (Nat → Nat → Nat → Int64) × (Nat → Nat → Int32)
def zi (x : Int32) : zV := .inl (.int x)
def zl (x : Int64) : zV := .inl (.long x)
def zn : zV := .inl .null
def zr (k j : Nat) : zV := .inr (k, j)
def cz (ad : Nat → Nat → Nat) : zV → Value
  | .inl v => v
  | .inr p => .ref (ad p.1 p.2)
def zcat : zV → Nat
  | .inl v => v.category
  | .inr _ => 1
theorem cz_cat (ad : Nat → Nat → Nat) (v : zV) : (cz ad v).category = zcat v := by cases v <;> rfl
def fI (σ : zSt) (k j f : Nat) : Int32 := σ.1 k j f
def fL (σ : zSt) (k j f : Nat) : Int64 := σ.2.1 k j f
def fA (σ : zSt) (a : Nat) : Nat → Int32 := σ.2.2 a
def sI (σ : zSt) (k j f : Nat) (x : Int32) : zSt := (fun k' j' f' => if k' = k ∧ j' = j ∧ f' = f then x else σ.1 k' j' f', σ.2.1, σ.2.2)
def sL (σ : zSt) (k j f : Nat) (x : Int64) : zSt := (σ.1, fun k' j' f' => if k' = k ∧ j' = j ∧ f' = f then x else σ.2.1 k' j' f', σ.2.2)
def sA (σ : zSt) (a : Nat) (g : Nat → Int32) : zSt := (σ.1, σ.2.1, fun a' => if a' = a then g else σ.2.2 a')
theorem fI_sI (σ : zSt) (k j f k' j' f' : Nat) (x : Int32) : fI (sI σ k j f x) k' j' f' = if k' = k ∧ j' = j ∧ f' = f then x else fI σ k' j' f' := rfl
theorem fI_sL (σ : zSt) (k j f k' j' f' : Nat) (x : Int64) : fI (sL σ k j f x) k' j' f' = fI σ k' j' f' := rfl
theorem fI_sA (σ : zSt) (a k' j' f' : Nat) (g : Nat → Int32) : fI (sA σ a g) k' j' f' = fI σ k' j' f' := rfl
theorem fL_sI (σ : zSt) (k j f k' j' f' : Nat) (x : Int32) : fL (sI σ k j f x) k' j' f' = fL σ k' j' f' := rfl
theorem fL_sL (σ : zSt) (k j f k' j' f' : Nat) (x : Int64) : fL (sL σ k j f x) k' j' f' = if k' = k ∧ j' = j ∧ f' = f then x else fL σ k' j' f' := rfl
theorem fL_sA (σ : zSt) (a k' j' f' : Nat) (g : Nat → Int32) : fL (sA σ a g) k' j' f' = fL σ k' j' f' := rfl
theorem fA_sI (σ : zSt) (k j f a : Nat) (x : Int32) : fA (sI σ k j f x) a = fA σ a := rfl
theorem fA_sL (σ : zSt) (k j f a : Nat) (x : Int64) : fA (sL σ k j f x) a = fA σ a := rfl
theorem fA_sA (σ : zSt) (a a' : Nat) (g : Nat → Int32) : fA (sA σ a g) a' = if a' = a then g else fA σ a' := rfl
/-! kinds: 0 TouchedLamps, 1 Kinds, 2 Past, 3 Reader, 4 Row, 5 the reference, 6 int[], 7 byte[], 8 Row[], 9 Past[]; beyond: 11 TOUCHES, 12 the script -/
def zcnt : Nat → Nat
  | 0 => 1
  | 1 => 3
  | 2 => 4
  | 3 => 1
  | 4 => 10
  | 5 => 1
  | 6 => 33
  | 7 => 1
  | 8 => 2
  | _ => 1
abbrev zok (k j : Nat) : Prop := k < 10 ∧ j < zcnt k
def zlen (a : Nat) : Nat := [40, 40, 40, 40, 40, 40, 60, 60, 60, 60, 41, 41, 41, 41, 41, 41, 41, 41, 512, 4, 6, 6, 6, 240, 4, 40, 18, 18, 451, 1353, 3, 11, 10000, 240].getD a 0
def zf (σ : zSt) (k j : Nat) : List zV := match k with
  | 0 => [zr 8 0, zr 8 1, zr 9 0, zr 2 3, zr 1 0, zr 1 1, zr 3 0, zr 6 18, zr 6 19, zr 6 20, zi (fI σ 0 j 10), zi (fI σ 0 j 11), zl (fL σ 0 j 12), zl (fL σ 0 j 13)]
  | 1 => [zi (fI σ 1 j 0), zi (fI σ 1 j 1), zi (fI σ 1 j 2), zi (fI σ 1 j 3), zi (fI σ 1 j 4)]
  | 2 => [zr 6 (10 + j), zr 6 (14 + j), zi (fI σ 2 j 2)]
  | 3 => [zr 1 2, zi (fI σ 3 j 1)]
  | 4 => [zr 6 j, zi (fI σ 4 j 1)]
  | _ => [zi (fI σ 5 j 0), zr 6 21, zi (fI σ 5 j 2), zl (fL σ 5 j 3), zl (fL σ 5 j 4), zr 6 22, zr 6 23, zr 6 24, zr 7 0, zr 6 25, zi (fI σ 5 j 10), zr 6 26, zr 6 27, zr 6 28, zi (fI σ 5 j 14), zr 6 29, zr 6 30, zr 6 31, zr 6 32]
def zc : Nat → Nat
  | 0 => 4
  | 1 => 0
  | 2 => 1
  | 3 => 2
  | 4 => 3
  | _ => 5
def zcl : Nat → vw_C
  | 0 => (RX5, TX5, 14)
  | 1 => (RX0, TX0, 5)
  | 2 => (RX1, TX1, 3)
  | 3 => (RX2, TX2, 2)
  | 4 => (RX3, TX3, 2)
  | _ => (RX6, TX6, 19)
def ztyp : Nat → Nat → FieldType
  | 0 => tyX5
  | 1 => tyX0
  | 2 => tyX1
  | 3 => tyX2
  | 4 => tyX3
  | _ => tyX6
/-- the words of the tables that may be handed on at a call -/
def ztbl : List Cond := lw_tbl.filter goodWord
theorem zmem {w : Cond} (h : w ∈ lw_tbl) (g : goodWord w = true) : w ∈ ztbl := List.mem_filter.mpr ⟨h, g⟩
theorem zmems {ws : List Cond} (h : ∀ w ∈ ws, w ∈ lw_tbl) (g : ws.all goodWord = true) : ∀ w ∈ ws, w ∈ ztbl := fun w hw => zmem (h w hw) (List.all_eq_true.mp g w hw)
theorem zcl_at (k : Nat) : vwCl[zc k]? = some (zcl k) := by
  rcases k with _ | _ | _ | _ | _ | _ | k <;> rfl
theorem zin0 : ∀ w ∈ u_ws RX0 TX0 5, w ∈ ztbl := zmems (by decide +kernel) (by decide +kernel)
theorem zin1 : ∀ w ∈ u_ws RX1 TX1 3, w ∈ ztbl := zmems (by decide +kernel) (by decide +kernel)
theorem zin2 : ∀ w ∈ u_ws RX2 TX2 2, w ∈ ztbl := zmems (by decide +kernel) (by decide +kernel)
theorem zin3 : ∀ w ∈ u_ws RX3 TX3 2, w ∈ ztbl := zmems (by decide +kernel) (by decide +kernel)
theorem zin5 : ∀ w ∈ u_ws RX5 TX5 14, w ∈ ztbl := zmems (by decide +kernel) (by decide +kernel)
theorem zin6 : ∀ w ∈ u_ws RX6 TX6 19, w ∈ ztbl := zmems (by decide +kernel) (by decide +kernel)
theorem zin (k : Nat) : ∀ w ∈ u_ws (zcl k).1 (zcl k).2.1 (zcl k).2.2, w ∈ ztbl := by
  rcases k with _ | _ | _ | _ | _ | _ | k
  · exact zin5
  · exact zin0
  · exact zin1
  · exact zin2
  · exact zin3
  · exact zin6
  · exact zin6
theorem zhty (k : Nat) : ∀ f, f < (zcl k).2.2 → parseFieldDescriptor ((zcl k).2.1 f).2.2.1 = some (ztyp k f) := by
  rcases k with _ | _ | _ | _ | _ | _ | k
  · exact tyX5_ok
  · exact tyX0_ok
  · exact tyX1_ok
  · exact tyX2_ok
  · exact tyX3_ok
  · exact tyX6_ok
  · exact tyX6_ok
theorem zhnm (k : Nat) : ∀ a, a < (zcl k).2.2 → ∀ b, b < (zcl k).2.2 → a ≠ b → ((zcl k).2.1 a).2.1 ≠ ((zcl k).2.1 b).2.1 := by
  rcases k with _ | _ | _ | _ | _ | _ | k
  · exact nmX5
  · exact nmX0
  · exact nmX1
  · exact nmX2
  · exact nmX3
  · exact nmX6
  · exact nmX6
def zfI : List (Nat × Nat) := [(0, 10), (0, 11), (1, 0), (1, 1), (1, 2), (1, 3), (1, 4), (2, 2), (3, 1), (4, 1), (5, 0), (5, 2), (5, 10), (5, 14)]
def zfL : List (Nat × Nat) := [(0, 12), (0, 13), (5, 3), (5, 4)]
theorem zfI_ty {k f : Nat} (h : (k, f) ∈ zfI) : f < (zcl k).2.2 ∧ ((zcl k).2.1 f).2.2.2 = false ∧ parseFieldDescriptor ((zcl k).2.1 f).2.2.1 = some .int ∧ k < 6 := by
  have h0 : ∀ q ∈ zfI, q.2 < (zcl q.1).2.2 ∧ ((zcl q.1).2.1 q.2).2.2.2 = false ∧ parseFieldDescriptor ((zcl q.1).2.1 q.2).2.2.1 = some .int ∧ q.1 < 6 := by decide +kernel
  exact h0 (k, f) h
theorem zfL_ty {k f : Nat} (h : (k, f) ∈ zfL) : f < (zcl k).2.2 ∧ ((zcl k).2.1 f).2.2.2 = false ∧ parseFieldDescriptor ((zcl k).2.1 f).2.2.1 = some .long ∧ k < 6 := by
  have h0 : ∀ q ∈ zfL, q.2 < (zcl q.1).2.2 ∧ ((zcl q.1).2.1 q.2).2.2.2 = false ∧ parseFieldDescriptor ((zcl q.1).2.1 q.2).2.2.1 = some .long ∧ q.1 < 6 := by decide +kernel
  exact h0 (k, f) h
theorem zf_len (σ : zSt) (k j : Nat) : (zf σ k j).length = (zcl k).2.2 := by
  rcases k with _ | _ | _ | _ | _ | _ | k <;> rfl
abbrev zG : Type := va_G × ClassId × ClassId × ClassId × ClassId
def ze (G : zG) (ad : Nat → Nat → Nat) (σ : zSt) (k j : Nat) : va_E := match k with
  | 6 => .inl (G.2.1, zlen j, .inl (fA σ j))
  | 7 => .inl (G.2.2.1, zlen 33, .inl (fA σ 33))
  | 8 => .inl (G.2.2.2.1, (if j = 0 then 6 else 4), .inr (.inr (.inr (.inr (fun i => some (ad 4 (if j = 0 then i else 6 + i)))))))
  | 9 => .inl (G.2.2.2.2, 3, .inr (.inr (.inr (.inr (fun i => some (ad 2 i))))))
  | k => .inr (zc k, (zf σ k j).map (cz ad))
theorem ze_obj {G : zG} {ad : Nat → Nat → Nat} {σ : zSt} {k j : Nat} (h : k < 6) : ze G ad σ k j = .inr (zc k, (zf σ k j).map (cz ad)) := by
  rcases k with _ | _ | _ | _ | _ | _ | k
  · rfl
  · rfl
  · rfl
  · rfl
  · rfl
  · rfl
  · omega
def zids : List (Nat × Nat) := (List.range 10).flatMap fun k => (List.range (zcnt k)).map fun j => (k, j)
def zw (G : zG) (ad : Nat → Nat → Nat) (σ : zSt) : va_W := zids.map fun q => (ad q.1 q.2, ze G ad σ q.1 q.2)
theorem zids_len : zids.length = 57 := by decide +kernel
theorem zids_ok : ∀ q ∈ zids, q.1 < 10 ∧ q.2 < zcnt q.1 := by decide +kernel
theorem zids_inj0 : ∀ i, i < 57 → ∀ j, j < 57 → zids[i]? = zids[j]? → i = j := by decide +kernel
theorem zids_inj {i j : Nat} {q : Nat × Nat} (hi : zids[i]? = some q) (hj : zids[j]? = some q) : i = j := by
  have h1 : i < zids.length := (List.getElem?_eq_some_iff.mp hi).1
  have h2 : j < zids.length := (List.getElem?_eq_some_iff.mp hj).1
  rw [zids_len] at h1 h2
  exact zids_inj0 i h1 j h2 (hi.trans hj.symm)
theorem zids_at {k j : Nat} (h : zok k j) : ∃ q0 : Nat, zids[q0]? = some (k, j) := by
  have hm : (k, j) ∈ zids := by
    unfold zids
    refine List.mem_flatMap.mpr ⟨k, List.mem_range.mpr h.1, List.mem_map.mpr ⟨j, List.mem_range.mpr h.2, rfl⟩⟩
  obtain ⟨q0, hq⟩ := List.getElem?_of_mem hm
  exact ⟨q0, hq⟩
theorem zw_at {G : zG} {ad : Nat → Nat → Nat} {σ : zSt} {k j q0 : Nat} (h : zids[q0]? = some (k, j)) : (zw G ad σ)[q0]? = some (ad k j, ze G ad σ k j) := by
  unfold zw
  rw [List.getElem?_map, h]
  rfl
theorem zw_of {G : zG} {ad : Nat → Nat → Nat} {σ : zSt} {q0 : Nat} {q : Nat × va_E} (h : (zw G ad σ)[q0]? = some q) : ∃ k j, zok k j ∧ zids[q0]? = some (k, j) ∧ q = (ad k j, ze G ad σ k j) := by
  unfold zw at h
  rw [List.getElem?_map] at h
  cases hz : zids[q0]? with
  | none => rw [hz] at h; cases h
  | some x =>
    rw [hz] at h
    obtain ⟨k, j⟩ := x
    exact ⟨k, j, zids_ok (k, j) (List.mem_of_getElem? hz), rfl, (Option.some.inj h).symm⟩
theorem zw_set {G : zG} {ad : Nat → Nat → Nat} {σ σ' : zSt} {k j q0 : Nat} (h0 : zids[q0]? = some (k, j)) (hne : ∀ k' j', zok k' j' → ¬ (k' = k ∧ j' = j) → ze G ad σ' k' j' = ze G ad σ k' j') : (zw G ad σ).set q0 (ad k j, ze G ad σ' k j) = zw G ad σ' := by
  apply List.ext_getElem?
  intro i
  rw [List.getElem?_set]
  by_cases hi : q0 = i
  · subst hi
    have hl : q0 < (zw G ad σ).length := (List.getElem?_eq_some_iff.mp (zw_at (G := G) (ad := ad) (σ := σ) h0)).1
    rw [if_pos rfl, if_pos hl, zw_at h0]
  · rw [if_neg hi]
    unfold zw
    rw [List.getElem?_map, List.getElem?_map]
    cases hz : zids[i]? with
    | none => rfl
    | some x =>
      obtain ⟨k', j'⟩ := x
      show some (ad k' j', ze G ad σ k' j') = some (ad k' j', ze G ad σ' k' j')
      rw [hne k' j' (zids_ok (k', j') (List.mem_of_getElem? hz)) (fun e => hi (zids_inj h0 (by rw [hz, e.1, e.2])))]
def zInj (ad : Nat → Nat → Nat) : Prop := ∀ k j k' j', zok k j → zok k' j' → ad k j = ad k' j' → k = k' ∧ j = j'
def zA (ad : Nat → Nat → Nat) : Nat → Prop := fun q => ∃ k j, zok k j ∧ q = ad k j
theorem zD {G : zG} {ad : Nat → Nat → Nat} {A : Nat → Prop} (σ : zSt) (hi : zInj ad) (hA : ∀ q, zA ad q → A q) : va_D A (zw G ad σ) := by
  refine ⟨fun i j p q h1 h2 e => ?_, fun i q h => ?_⟩
  · obtain ⟨k, a, h3, h4, rfl⟩ := zw_of h1
    obtain ⟨k', a', h5, h6, rfl⟩ := zw_of h2
    obtain ⟨rfl, rfl⟩ := hi k a k' a' h3 h5 e
    exact zids_inj h4 h6
  · obtain ⟨k, a, h3, h4, rfl⟩ := zw_of h
    exact hA _ ⟨k, a, h3, rfl⟩
def zty (G : zG) : List (ClassId × FieldType) := [(G.2.1, .int), (G.2.2.1, .byte), (G.2.2.2.1, .object RX3), (G.2.2.2.2, .object RX1)]
def ztou (j : Nat) : Int32 := [11, 23, 38, 89, 186, 308, 200, 464, 416].getD j 0
def zTo (ad : Nat → Nat → Nat) (A : Nat → Prop) (U : State) (H : Heap) : Prop := va_Z "TouchedLamps" "TOUCHES" "[I" (.ref (ad 11 0)) A U H ∧ va_T .int (ad 11 0) 9 (fun j => .int (ztou j)) A U H
def zNL : Cond := .methodLinkNest RX0 44 yX5_touchedBy "TouchedLamps"
def zU (G : zG) (ad : Nat → Nat → Nat) (A : Nat → Prop) (σ : zSt) (U : State) : Prop := va_P G.1 vwCl (zw G ad σ) U.heap ∧ va_K G.1 vwCl (zty G) U ∧ zTo ad A U U.heap ∧ va_Nw zNL U
/-! how the parts of a state change -/
theorem zf_sI {k f : Nat} (h : (k, f) ∈ zfI) (σ : zSt) (j : Nat) (x : Int32) : zf (sI σ k j f x) k j = (zf σ k j).set f (zi x) := by
  simp only [zfI, List.mem_cons, Prod.mk.injEq, List.not_mem_nil, or_false] at h
  rcases h with ⟨rfl, rfl⟩ | ⟨rfl, rfl⟩ | ⟨rfl, rfl⟩ | ⟨rfl, rfl⟩ | ⟨rfl, rfl⟩ | ⟨rfl, rfl⟩ | ⟨rfl, rfl⟩ | ⟨rfl, rfl⟩ | ⟨rfl, rfl⟩ | ⟨rfl, rfl⟩ | ⟨rfl, rfl⟩ | ⟨rfl, rfl⟩ | ⟨rfl, rfl⟩ | ⟨rfl, rfl⟩ <;> simp [zf, fI_sI, fL_sI]
theorem zf_sL {k f : Nat} (h : (k, f) ∈ zfL) (σ : zSt) (j : Nat) (x : Int64) : zf (sL σ k j f x) k j = (zf σ k j).set f (zl x) := by
  simp only [zfL, List.mem_cons, Prod.mk.injEq, List.not_mem_nil, or_false] at h
  rcases h with ⟨rfl, rfl⟩ | ⟨rfl, rfl⟩ | ⟨rfl, rfl⟩ | ⟨rfl, rfl⟩ <;> simp [zf, fI_sL, fL_sL]
theorem zf_sI_ne {k f k' j' : Nat} (σ : zSt) (j : Nat) (x : Int32) (h : ¬ (k' = k ∧ j' = j)) (hk : k < 6) (hk' : k' < 6) : zf (sI σ k j f x) k' j' = zf σ k' j' := by
  have e : ∀ f', fI (sI σ k j f x) k' j' f' = fI σ k' j' f' := fun f' => by rw [fI_sI, if_neg (fun z => h ⟨z.1, z.2.1⟩)]
  rcases k' with _ | _ | _ | _ | _ | _ | k'
  · simp [zf, e, fL_sI]
  · simp [zf, e, fL_sI]
  · simp [zf, e, fL_sI]
  · simp [zf, e, fL_sI]
  · simp [zf, e, fL_sI]
  · simp [zf, e, fL_sI]
  · omega
theorem zf_sL_ne {k f k' j' : Nat} (σ : zSt) (j : Nat) (x : Int64) (h : ¬ (k' = k ∧ j' = j)) (hk : k < 6) (hk' : k' < 6) : zf (sL σ k j f x) k' j' = zf σ k' j' := by
  have e : ∀ f', fL (sL σ k j f x) k' j' f' = fL σ k' j' f' := fun f' => by rw [fL_sL, if_neg (fun z => h ⟨z.1, z.2.1⟩)]
  rcases k' with _ | _ | _ | _ | _ | _ | k'
  · simp [zf, e, fI_sL]
  · simp [zf, e, fI_sL]
  · simp [zf, e, fI_sL]
  · simp [zf, e, fI_sL]
  · simp [zf, e, fI_sL]
  · simp [zf, e, fI_sL]
  · omega
theorem zf_sA (σ : zSt) (a : Nat) (g : Nat → Int32) (k j : Nat) : zf (sA σ a g) k j = zf σ k j := by
  rcases k with _ | _ | _ | _ | _ | _ | k <;> simp [zf, fI_sA, fL_sA]
theorem ze_sI_ne {G : zG} {ad : Nat → Nat → Nat} {k f k' j' : Nat} (σ : zSt) (j : Nat) (x : Int32) (h : ¬ (k' = k ∧ j' = j)) (hk : k < 6) (ho : zok k' j') : ze G ad (sI σ k j f x) k' j' = ze G ad σ k' j' := by
  by_cases h6 : k' < 6
  · rw [ze_obj h6, ze_obj h6, zf_sI_ne σ j x h hk h6]
  · obtain ⟨n, rfl⟩ : ∃ n, k' = n + 6 := ⟨k' - 6, by omega⟩
    have hn := ho.1
    rcases n with _ | _ | _ | _ | n
    · rfl
    · rfl
    · rfl
    · rfl
    · omega
theorem ze_sL_ne {G : zG} {ad : Nat → Nat → Nat} {k f k' j' : Nat} (σ : zSt) (j : Nat) (x : Int64) (h : ¬ (k' = k ∧ j' = j)) (hk : k < 6) (ho : zok k' j') : ze G ad (sL σ k j f x) k' j' = ze G ad σ k' j' := by
  by_cases h6 : k' < 6
  · rw [ze_obj h6, ze_obj h6, zf_sL_ne σ j x h hk h6]
  · obtain ⟨n, rfl⟩ : ∃ n, k' = n + 6 := ⟨k' - 6, by omega⟩
    have hn := ho.1
    rcases n with _ | _ | _ | _ | n
    · rfl
    · rfl
    · rfl
    · rfl
    · omega
theorem ze_sA_ne {G : zG} {ad : Nat → Nat → Nat} {k' j' : Nat} (σ : zSt) (a : Nat) (g : Nat → Int32) (ha : a < 33) (h : ¬ (k' = 6 ∧ j' = a)) (ho : zok k' j') : ze G ad (sA σ a g) k' j' = ze G ad σ k' j' := by
  by_cases h6 : k' < 6
  · rw [ze_obj h6, ze_obj h6, zf_sA]
  · obtain ⟨n, rfl⟩ : ∃ n, k' = n + 6 := ⟨k' - 6, by omega⟩
    have hn := ho.1
    rcases n with _ | _ | _ | _ | n
    · have hj : ¬ j' = a := fun e => h ⟨rfl, e⟩
      simp [ze, fA_sA, hj]
    · have h33 : ¬ 33 = a := by omega
      simp [ze, fA_sA, h33]
    · rfl
    · rfl
    · omega
theorem ze_s33_ne {G : zG} {ad : Nat → Nat → Nat} {k' j' : Nat} (σ : zSt) (g : Nat → Int32) (h : ¬ (k' = 7 ∧ j' = 0)) (ho : zok k' j') : ze G ad (sA σ 33 g) k' j' = ze G ad σ k' j' := by
  by_cases h6 : k' < 6
  · rw [ze_obj h6, ze_obj h6, zf_sA]
  · obtain ⟨n, rfl⟩ : ∃ n, k' = n + 6 := ⟨k' - 6, by omega⟩
    have hn := ho.1
    have hn2 := ho.2
    rcases n with _ | _ | _ | _ | n
    · have hj : ¬ j' = 33 := fun e => by rw [e] at hn2; exact absurd hn2 (by decide)
      simp [ze, fA_sA, hj]
    · exact absurd ⟨rfl, Nat.lt_one_iff.mp hn2⟩ h
    · rfl
    · rfl
    · omega
/-! ===== methods, contracts, walks ===== -/
abbrev zM : Type := MethodName × ByteArray × Nat × Option FieldType
def zws (M : zM) : List Cond := .code M.1 M.2.1 M.2.2.1 M.2.2.2 :: ztbl
def zrm (d : Nat) : Room := { frames := d, cells := 0, slots := 0, locals := 100 * d }
abbrev zQ : Type := Option zV → zSt → Prop
/-- the contract: at depth d method M with these arguments, from state σ, returns r and comes to σ' with Q r σ' -/
def Mt (d : Nat) (M : zM) (as : List zV) (σ : zSt) (Q : zQ) : Prop :=
  ∀ (l : Launch) (G : zG) (ad : Nat → Nat → Nat), zInj ad → Met l M.1 (zws M) (zrm d) (va_Pc (as.map (cz ad)) (fun U => zU G ad (zA ad) σ U)) (fun _ st o t => (∃ (r : Option zV) (σ' : zSt), o = .returned (r.map (cz ad)) ∧ Q r σ' ∧ zU G ad (zA ad) σ' t) ∧ va_F (zA ad) st t) 0 0 (zA ad)
def Mf (d : Nat) (M : zM) (as : List zV) (σ : zSt) (r : Option zV) (σ' : zSt) : Prop := Mt d M as σ (fun r' σ'' => r' = r ∧ σ'' = σ')
def zrok (ret : Option FieldType) (x : Int32) : Prop := ∃ ty, ret = some ty ∧ narrow ty (.int x) = .int x
/-- what a walk of M's body knows of the machine -/
def zC (M : zM) (d : Nat) (Q : zQ) (G : zG) (ad : Nat → Nat → Nat) (A : Nat → Prop) (p : Program) (l : Launch) (e : Env) (R : Room) (s : State) (m : MethodId) (args : Array Value) (below : List Frame) (meth : Method) (c : Code) (cells slots : Nat) (Z : State → Prop) : Prop :=
  p.tables.exec = Jvm.exec ∧ c.code = M.2.1 ∧ c.maxLocals = M.2.2.1 ∧ s.vm.findClass M.1.cls = some m.cls ∧ (∀ w ∈ ztbl, w.before args s = true) ∧ (d ≤ R.frames ∧ 100 * d ≤ R.locals ∧ cells ≤ R.cells ∧ slots ≤ R.slots) ∧ zInj ad ∧ (∀ q, zA ad q → A q) ∧ va_K G.1 vwCl (zty G) s ∧ (zTo ad A s s.heap ∧ va_Nw zNL s) ∧
  (∀ (x : Int32) (σ : zSt) (H : Heap) (locs : List Loc) (pc : Nat) (lsc : Array Slot), decode M.2.1 pc = .ok (.ireturn, 1) → zrok M.2.2.2 x → Q (some (zi x)) σ → va_P G.1 vwCl (zw G ad σ) H → va_S A s.heap H locs → W p l e R s m args below meth c H locs cells slots Z (F0 m pc lsc [.int x])) ∧
  (∀ (x : Int64) (σ : zSt) (H : Heap) (locs : List Loc) (pc : Nat) (lsc : Array Slot), decode M.2.1 pc = .ok (.lreturn, 1) → M.2.2.2 = some .long → Q (some (zl x)) σ → va_P G.1 vwCl (zw G ad σ) H → va_S A s.heap H locs → W p l e R s m args below meth c H locs cells slots Z (F0 m pc lsc [.long x])) ∧
  (∀ (v : zV) (n : String) (σ : zSt) (H : Heap) (locs : List Loc) (pc : Nat) (lsc : Array Slot), decode M.2.1 pc = .ok (.areturn, 1) → M.2.2.2 = some (.object n) → (v = zn ∨ ∃ k j, v = zr k j) → Q (some v) σ → va_P G.1 vwCl (zw G ad σ) H → va_S A s.heap H locs → W p l e R s m args below meth c H locs cells slots Z (F0 m pc lsc [cz ad v])) ∧
  (∀ (σ : zSt) (H : Heap) (locs : List Loc) (pc : Nat) (lsc : Array Slot), decode M.2.1 pc = .ok (.return_, 1) → M.2.2.2 = none → Q none σ → va_P G.1 vwCl (zw G ad σ) H → va_S A s.heap H locs → W p l e R s m args below meth c H locs cells slots Z (F0 m pc lsc []))
def zL (ad : Nat → Nat → Nat) (nL : Nat) (lsc : Array Slot) (ls : List (Option zV)) : Prop := lsc.size = nL ∧ lv_wf lsc ∧ ∀ (k : Nat) (v : zV), ls[k]? = some (some v) → lsc[k]? = some (Slot.val (cz ad v))
/-- the walk: at pc, with these locals, this stack, this state, M comes to its end with Q -/
def zY (M : zM) (d : Nat) (Q : zQ) (pc : Nat) (ls : List (Option zV)) (st : List zV) (σ : zSt) : Prop :=
  ∀ (G : zG) (ad : Nat → Nat → Nat) (A : Nat → Prop) (p : Program) (l : Launch) (e : Env) (R : Room) (s : State) (m : MethodId) (args : Array Value) (below : List Frame) (meth : Method) (c : Code) (cells slots : Nat) (Z : State → Prop), zC M d Q G ad A p l e R s m args below meth c cells slots Z →
  ∀ (H : Heap) (locs : List Loc) (lsc : Array Slot), va_P G.1 vwCl (zw G ad σ) H → va_S A s.heap H locs → zL ad M.2.2.1 lsc ls → W p l e R s m args below meth c H locs cells slots Z (F0 m pc lsc (st.map (cz ad)))
def zent : List zV → Nat → List (Option zV)
  | [], n => List.replicate n none
  | v :: vs, n => if zcat v = 2 then some v :: none :: zent vs (n - 2) else some v :: zent vs (n - 1)
theorem zent_at (ad : Nat → Nat → Nat) (lsc : Array Slot) : ∀ (as : List zV) (n i : Nat), (∀ q ∈ lv_args i (as.map (cz ad)), lsc[q.1]? = some (.val q.2)) → ∀ (k : Nat) (v : zV), (zent as n)[k]? = some (some v) → lsc[i + k]? = some (Slot.val (cz ad v))
  | [], n, i, _, k, v, h => by
    have h2 := List.mem_of_getElem? h
    rw [zent, List.mem_replicate] at h2
    cases h2.2
  | a :: as, n, i, hq, k, v, h => by
    have hc : (cz ad a).category = zcat a := cz_cat ad a
    have h0 := hq (i, cz ad a) (by simp [lv_args])
    have hrest : ∀ q ∈ lv_args (if zcat a = 2 then i + 2 else i + 1) (as.map (cz ad)), lsc[q.1]? = some (.val q.2) := fun q hm => hq q (by
      rw [List.map_cons, lv_args, hc]
      exact List.mem_cons_of_mem _ hm)
    rw [zent] at h
    by_cases h2 : zcat a = 2
    · rw [if_pos h2] at h hrest
      match k, h with
      | 0, h => cases h; exact h0
      | 1, h => cases h
      | k + 2, h =>
        have := zent_at ad lsc as (n - 2) (i + 2) hrest k v h
        rw [show i + (k + 2) = i + 2 + k by omega]
        exact this
    · rw [if_neg h2] at h hrest
      match k, h with
      | 0, h => cases h; exact h0
      | k + 1, h =>
        have := zent_at ad lsc as (n - 1) (i + 1) hrest k v h
        rw [show i + (k + 1) = i + 1 + k by omega]
        exact this
theorem zTo.moved {ad : Nat → Nat → Nat} {A : Nat → Prop} {u U : State} {H : Heap} (hvm : u.vm.Alike U.vm) (h : zTo ad A u H) : zTo ad A U H := ⟨va_Z.moved hvm h.1, va_T.moved hvm h.2⟩
theorem zTo.kept {ad : Nat → Nat → Nat} {A : Nat → Prop} {U : State} {H H1 : Heap} (h : zTo ad A U H) (hq : ∀ a : Nat, a < H.size → ¬ A a → H1[a]? = H[a]?) : zTo ad A U H1 := ⟨va_Z.kept h.1 hq, va_T.kept h.2 hq⟩
theorem zTo.narrow {ad : Nat → Nat → Nat} {A B : Nat → Prop} {U : State} {H : Heap} (h : zTo ad A U H) (hAB : ∀ q, B q → A q) : zTo ad B U H := ⟨va_Z.narrow h.1 hAB, va_T.narrow h.2 hAB⟩
def zargs (ad : Nat → Nat → Nat) (as : List zV) : Nat := (lg_sl (as.map (cz ad))).length
def zwords : List zV → Nat
  | [] => 0
  | v :: vs => (if zcat v = 2 then 2 else 1) + zwords vs
theorem zwords_eq (ad : Nat → Nat → Nat) : ∀ as : List zV, (lg_sl (as.map (cz ad))).length = zwords as
  | [] => rfl
  | a :: as => by
    have ih := zwords_eq ad as
    rw [zwords, List.map_cons]
    unfold lg_sl at ih ⊢
    rw [List.flatMap_cons, List.length_append, ih, cz_cat]
    by_cases h : zcat a = 2
    · simp [h]
    · simp [h]
theorem Mt_of {d : Nat} {M : zM} {as : List zV} {σ : zSt} {Q : zQ} {ls : List (Option zV)} (hpl : plainName M.1.cls = true) (hn : Nat.ble (zwords as) M.2.2.1 = true) (hls : zent as M.2.2.1 = ls) (h : zY M d Q 0 ls [] σ) : Mt d M as σ Q := by
  intro l G ad hi
  refine Met.ofW (cc := M.2.1) (maxL := M.2.2.1) (ret := M.2.2.2) hpl rfl ?_
  intro p e s m args below meth c s₁ B hml hv
  obtain ⟨rfl, hP, hK, hT, hNw⟩ := hv
  have hts0 := atoms_spec (ws := zws M) B.pre
  have hts : ∀ w ∈ ztbl, w.before (List.map (cz ad) as).toArray s = true := fun w hw => hts0 w (List.mem_cons_of_mem _ hw)
  have hown : s.vm.findClass M.1.cls = some m.cls := findClass_of_methodNamed B.named
  have hlocks := B.notSynchronized
  have hr := B.returns
  have hl := lv_entry (as.map (cz ad)) (n := M.2.2.1) (by rw [zwords_eq]; exact Nat.le_of_ble_eq_true hn)
  rw [lg_entry_eq]
  generalize (lg_sl (as.map (cz ad)) ++ List.replicate (M.2.2.1 - (lg_sl (as.map (cz ad))).length) Slot.unset).toArray = lsc at hl ⊢
  have hend : ∀ (σ' : zSt) (H : Heap) (locs : List Loc), va_P G.1 vwCl (zw G ad σ') H → va_S (zA ad) s.heap H locs → ∀ t : State, t.heap = H → s.WarmedH t.vm → zU G ad (zA ad) σ' t := by
    intro σ' H locs hP' hS' t ht hW
    refine ⟨by rw [ht]; exact hP', va_K.moved hW.alike hK, ?_, va_Nw.warmM hW hNw⟩
    rw [ht]
    exact zTo.moved hW.alike (hT.kept hS'.2.1)
  refine h G ad (zA ad) p l e _ s m _ below meth c 0 0 _ ⟨B.exec, B.bytes, hml, hown, hts, ⟨Nat.le_refl _, Nat.le_refl _, Nat.zero_le _, Nat.zero_le _⟩, hi, fun _ h => h, hK, ⟨hT, hNw⟩, ?_, ?_, ?_, ?_⟩ s.heap [] lsc hP va_S.rf ⟨hl.1, hl.2.1, fun k v hk => ?_⟩
  · intro x σ' H locs pc lsc' hd ⟨ty, hty, hnar⟩ hq hP' hS'
    exact W.zret B.exec B.bytes (hr.trans hty) hnar (fun t ht hW => ⟨⟨some (zi x), σ', rfl, hq, hend σ' H locs hP' hS' t ht hW⟩, hS'.F ht⟩) hS'.2.2 hd
  · intro x σ' H locs pc lsc' hd hty hq hP' hS'
    exact W.lret B.exec B.bytes (hr.trans hty) (fun t ht hW => ⟨⟨some (zl x), σ', rfl, hq, hend σ' H locs hP' hS' t ht hW⟩, hS'.F ht⟩) hS'.2.2 hd
  · intro v n σ' H locs pc lsc' hd hty hv hq hP' hS'
    exact W.aret B.exec B.bytes (hr.trans hty) (Or.inl ⟨n, rfl⟩) (by
      rcases hv with rfl | ⟨k, j, rfl⟩
      · exact Or.inl rfl
      · exact Or.inr ⟨_, rfl⟩) (fun t ht hW => ⟨⟨some v, σ', rfl, hq, hend σ' H locs hP' hS' t ht hW⟩, hS'.F ht⟩) hS'.2.2 hd
  · intro σ' H locs pc lsc' hd hty hq hP' hS'
    exact W.vret B.exec B.bytes (hr.trans hty) (fun t ht hW => ⟨⟨none, σ', rfl, hq, hend σ' H locs hP' hS' t ht hW⟩, hS'.F ht⟩) hS'.2.2 hd
  · have := zent_at ad lsc as M.2.2.1 0 (fun q hq => hl.2.2 q hq) k v (by rw [hls]; exact hk)
    rwa [Nat.zero_add] at this
end
section
section
variable {M : zM} {d : Nat} {Q : zQ} {pc q : Nat} {ls : List (Option zV)} {st : List zV} {σ : zSt}
def zrem (x y : Int32) : Int32 := x - x / y * y
def zlrem (x y : Int64) : Int64 := x - x / y * y
def zshl (x y : Int32) : Int32 := x <<< (y &&& 31)
def zshr (x y : Int32) : Int32 := x >>> (y &&& 31)
def zushr (x y : Int32) : Int32 := (x.toUInt32 >>> (y.toUInt32 &&& Int32.toUInt32 31)).toInt32
theorem y_iadd {x y : Int32} (hd : decode M.2.1 pc = .ok (.iadd, 1)) (hq : pc + 1 = q) (k : zY M d Q q ls (zi (x + y) :: st) σ) : zY M d Q pc ls (zi y :: zi x :: st) σ := by
  subst hq
  intro G ad A p l e R s m args below meth c cells slots Z C H locs lsc hP hS hL
  exact lv_iadd C.1 C.2.1 hd (k G ad A p l e R s m args below meth c cells slots Z C H locs lsc hP hS hL)
theorem y_isub {x y : Int32} (hd : decode M.2.1 pc = .ok (.isub, 1)) (hq : pc + 1 = q) (k : zY M d Q q ls (zi (x - y) :: st) σ) : zY M d Q pc ls (zi y :: zi x :: st) σ := by
  subst hq
  intro G ad A p l e R s m args below meth c cells slots Z C H locs lsc hP hS hL
  exact lv_isub C.1 C.2.1 hd (k G ad A p l e R s m args below meth c cells slots Z C H locs lsc hP hS hL)
theorem y_imul {x y : Int32} (hd : decode M.2.1 pc = .ok (.imul, 1)) (hq : pc + 1 = q) (k : zY M d Q q ls (zi (x * y) :: st) σ) : zY M d Q pc ls (zi y :: zi x :: st) σ := by
  subst hq
  intro G ad A p l e R s m args below meth c cells slots Z C H locs lsc hP hS hL
  exact lv_imul C.1 C.2.1 hd (k G ad A p l e R s m args below meth c cells slots Z C H locs lsc hP hS hL)
theorem y_iand {x y : Int32} (hd : decode M.2.1 pc = .ok (.iand, 1)) (hq : pc + 1 = q) (k : zY M d Q q ls (zi (x &&& y) :: st) σ) : zY M d Q pc ls (zi y :: zi x :: st) σ := by
  subst hq
  intro G ad A p l e R s m args below meth c cells slots Z C H locs lsc hP hS hL
  exact lv_iand C.1 C.2.1 hd (k G ad A p l e R s m args below meth c cells slots Z C H locs lsc hP hS hL)
theorem y_ior {x y : Int32} (hd : decode M.2.1 pc = .ok (.ior, 1)) (hq : pc + 1 = q) (k : zY M d Q q ls (zi (x ||| y) :: st) σ) : zY M d Q pc ls (zi y :: zi x :: st) σ := by
  subst hq
  intro G ad A p l e R s m args below meth c cells slots Z C H locs lsc hP hS hL
  exact lv_ior C.1 C.2.1 hd (k G ad A p l e R s m args below meth c cells slots Z C H locs lsc hP hS hL)
theorem y_ixor {x y : Int32} (hd : decode M.2.1 pc = .ok (.ixor, 1)) (hq : pc + 1 = q) (k : zY M d Q q ls (zi (x ^^^ y) :: st) σ) : zY M d Q pc ls (zi y :: zi x :: st) σ := by
  subst hq
  intro G ad A p l e R s m args below meth c cells slots Z C H locs lsc hP hS hL
  exact lv_ixor C.1 C.2.1 hd (k G ad A p l e R s m args below meth c cells slots Z C H locs lsc hP hS hL)
theorem y_ishl {x y : Int32} (hd : decode M.2.1 pc = .ok (.ishl, 1)) (hq : pc + 1 = q) (k : zY M d Q q ls (zi (zshl x y) :: st) σ) : zY M d Q pc ls (zi y :: zi x :: st) σ := by
  subst hq
  intro G ad A p l e R s m args below meth c cells slots Z C H locs lsc hP hS hL
  exact lv_ishl C.1 C.2.1 hd (k G ad A p l e R s m args below meth c cells slots Z C H locs lsc hP hS hL)
theorem y_ishr {x y : Int32} (hd : decode M.2.1 pc = .ok (.ishr, 1)) (hq : pc + 1 = q) (k : zY M d Q q ls (zi (zshr x y) :: st) σ) : zY M d Q pc ls (zi y :: zi x :: st) σ := by
  subst hq
  intro G ad A p l e R s m args below meth c cells slots Z C H locs lsc hP hS hL
  exact lv_ishr C.1 C.2.1 hd (k G ad A p l e R s m args below meth c cells slots Z C H locs lsc hP hS hL)
theorem y_iushr {x y : Int32} (hd : decode M.2.1 pc = .ok (.iushr, 1)) (hq : pc + 1 = q) (k : zY M d Q q ls (zi (zushr x y) :: st) σ) : zY M d Q pc ls (zi y :: zi x :: st) σ := by
  subst hq
  intro G ad A p l e R s m args below meth c cells slots Z C H locs lsc hP hS hL
  exact lv_iushr C.1 C.2.1 hd rfl (k G ad A p l e R s m args below meth c cells slots Z C H locs lsc hP hS hL)
theorem y_idiv {x y : Int32} (hd : decode M.2.1 pc = .ok (.idiv, 1)) (hne : ¬ y = 0) (hq : pc + 1 = q) (k : zY M d Q q ls (zi (x / y) :: st) σ) : zY M d Q pc ls (zi y :: zi x :: st) σ := by
  subst hq
  intro G ad A p l e R s m args below meth c cells slots Z C H locs lsc hP hS hL
  exact lv_idiv C.1 C.2.1 hd hne (k G ad A p l e R s m args below meth c cells slots Z C H locs lsc hP hS hL)
theorem y_irem {x y : Int32} (hd : decode M.2.1 pc = .ok (.irem, 1)) (hne : ¬ y = 0) (hq : pc + 1 = q) (k : zY M d Q q ls (zi (zrem x y) :: st) σ) : zY M d Q pc ls (zi y :: zi x :: st) σ := by
  subst hq
  intro G ad A p l e R s m args below meth c cells slots Z C H locs lsc hP hS hL
  exact lv_irem C.1 C.2.1 hd hne (k G ad A p l e R s m args below meth c cells slots Z C H locs lsc hP hS hL)
theorem y_ladd {x y : Int64} (hd : decode M.2.1 pc = .ok (.ladd, 1)) (hq : pc + 1 = q) (k : zY M d Q q ls (zl (x + y) :: st) σ) : zY M d Q pc ls (zl y :: zl x :: st) σ := by
  subst hq
  intro G ad A p l e R s m args below meth c cells slots Z C H locs lsc hP hS hL
  exact lv_ladd C.1 C.2.1 hd (k G ad A p l e R s m args below meth c cells slots Z C H locs lsc hP hS hL)
theorem y_lsub {x y : Int64} (hd : decode M.2.1 pc = .ok (.lsub, 1)) (hq : pc + 1 = q) (k : zY M d Q q ls (zl (x - y) :: st) σ) : zY M d Q pc ls (zl y :: zl x :: st) σ := by
  subst hq
  intro G ad A p l e R s m args below meth c cells slots Z C H locs lsc hP hS hL
  exact lv_lsub C.1 C.2.1 hd (k G ad A p l e R s m args below meth c cells slots Z C H locs lsc hP hS hL)
theorem y_lmul {x y : Int64} (hd : decode M.2.1 pc = .ok (.lmul, 1)) (hq : pc + 1 = q) (k : zY M d Q q ls (zl (x * y) :: st) σ) : zY M d Q pc ls (zl y :: zl x :: st) σ := by
  subst hq
  intro G ad A p l e R s m args below meth c cells slots Z C H locs lsc hP hS hL
  exact lv_lmul C.1 C.2.1 hd (k G ad A p l e R s m args below meth c cells slots Z C H locs lsc hP hS hL)
theorem y_ldiv {x y : Int64} (hd : decode M.2.1 pc = .ok (.ldiv, 1)) (hne : ¬ y = 0) (hq : pc + 1 = q) (k : zY M d Q q ls (zl (x / y) :: st) σ) : zY M d Q pc ls (zl y :: zl x :: st) σ := by
  subst hq
  intro G ad A p l e R s m args below meth c cells slots Z C H locs lsc hP hS hL
  exact lv_ldiv C.1 C.2.1 hd hne (k G ad A p l e R s m args below meth c cells slots Z C H locs lsc hP hS hL)
theorem y_lrem {x y : Int64} (hd : decode M.2.1 pc = .ok (.lrem, 1)) (hne : ¬ y = 0) (hq : pc + 1 = q) (k : zY M d Q q ls (zl (zlrem x y) :: st) σ) : zY M d Q pc ls (zl y :: zl x :: st) σ := by
  subst hq
  intro G ad A p l e R s m args below meth c cells slots Z C H locs lsc hP hS hL
  exact lv_lrem C.1 C.2.1 hd hne (k G ad A p l e R s m args below meth c cells slots Z C H locs lsc hP hS hL)
theorem y_lcmp {x y : Int64} (hd : decode M.2.1 pc = .ok (.lcmp, 1)) (hq : pc + 1 = q) (k : zY M d Q q ls (zi (lg_cmp x y) :: st) σ) : zY M d Q pc ls (zl y :: zl x :: st) σ := by
  subst hq
  intro G ad A p l e R s m args below meth c cells slots Z C H locs lsc hP hS hL
  exact W.lcmp C.1 C.2.1 hd (k G ad A p l e R s m args below meth c cells slots Z C H locs lsc hP hS hL)
theorem y_i2l {x : Int32} (hd : decode M.2.1 pc = .ok (.i2l, 1)) (hq : pc + 1 = q) (k : zY M d Q q ls (zl x.toInt64 :: st) σ) : zY M d Q pc ls (zi x :: st) σ := by
  subst hq
  intro G ad A p l e R s m args below meth c cells slots Z C H locs lsc hP hS hL
  exact lv_i2l C.1 C.2.1 hd rfl (k G ad A p l e R s m args below meth c cells slots Z C H locs lsc hP hS hL)
theorem y_l2i {x : Int64} (hd : decode M.2.1 pc = .ok (.l2i, 1)) (hq : pc + 1 = q) (k : zY M d Q q ls (zi x.toInt32 :: st) σ) : zY M d Q pc ls (zl x :: st) σ := by
  subst hq
  intro G ad A p l e R s m args below meth c cells slots Z C H locs lsc hP hS hL
  exact lv_l2i C.1 C.2.1 hd rfl (k G ad A p l e R s m args below meth c cells slots Z C H locs lsc hP hS hL)
theorem y_i2b {x : Int32} (hd : decode M.2.1 pc = .ok (.i2b, 1)) (hq : pc + 1 = q) (k : zY M d Q q ls (zi x.toInt8.toInt32 :: st) σ) : zY M d Q pc ls (zi x :: st) σ := by
  subst hq
  intro G ad A p l e R s m args below meth c cells slots Z C H locs lsc hP hS hL
  exact lv_i2b C.1 C.2.1 hd rfl (k G ad A p l e R s m args below meth c cells slots Z C H locs lsc hP hS hL)
theorem y_iconst {n : Int} {v : Int32} (hd : decode M.2.1 pc = .ok (.iconst n, 1)) (hv : Int32.ofInt n = v) (hq : pc + 1 = q) (k : zY M d Q q ls (zi v :: st) σ) : zY M d Q pc ls (st) σ := by
  subst hq
  intro G ad A p l e R s m args below meth c cells slots Z C H locs lsc hP hS hL
  exact lv_iconst C.1 C.2.1 hd hv (k G ad A p l e R s m args below meth c cells slots Z C H locs lsc hP hS hL)
theorem y_bipush {n : Int} {v : Int32} (hd : decode M.2.1 pc = .ok (.bipush n, 2)) (hv : (Int8.ofInt n).toInt32 = v) (hq : pc + 2 = q) (k : zY M d Q q ls (zi v :: st) σ) : zY M d Q pc ls (st) σ := by
  subst hq
  intro G ad A p l e R s m args below meth c cells slots Z C H locs lsc hP hS hL
  exact lv_bipush C.1 C.2.1 hd hv (k G ad A p l e R s m args below meth c cells slots Z C H locs lsc hP hS hL)
theorem y_sipush {n : Int} {v : Int32} (hd : decode M.2.1 pc = .ok (.sipush n, 3)) (hv : (Int16.ofInt n).toInt32 = v) (hq : pc + 3 = q) (k : zY M d Q q ls (zi v :: st) σ) : zY M d Q pc ls (st) σ := by
  subst hq
  intro G ad A p l e R s m args below meth c cells slots Z C H locs lsc hP hS hL
  exact lv_sipush C.1 C.2.1 hd hv (k G ad A p l e R s m args below meth c cells slots Z C H locs lsc hP hS hL)
theorem y_lconst {n : Fin 2} {v : Int64} (hd : decode M.2.1 pc = .ok (.lconst n, 1)) (hv : Int64.ofNat (n : Nat) = v) (hq : pc + 1 = q) (k : zY M d Q q ls (zl v :: st) σ) : zY M d Q pc ls (st) σ := by
  subst hq
  intro G ad A p l e R s m args below meth c cells slots Z C H locs lsc hP hS hL
  exact lv_lconst C.1 C.2.1 hd hv (k G ad A p l e R s m args below meth c cells slots Z C H locs lsc hP hS hL)
theorem y_ldc {n : Nat} {v : Int32} (hd : decode M.2.1 pc = .ok (.ldc n, 2)) (hv : Cond.constant M.1.cls n v ∈ ztbl) (hq : pc + 2 = q) (k : zY M d Q q ls (zi v :: st) σ) : zY M d Q pc ls (st) σ := by
  subst hq
  intro G ad A p l e R s m args below meth c cells slots Z C H locs lsc hP hS hL
  exact lv_ldc C.1 C.2.1 C.2.2.2.1 (C.2.2.2.2.1 _ hv) hd (k G ad A p l e R s m args below meth c cells slots Z C H locs lsc hP hS hL)
theorem y_ldc_w {n : Nat} {v : Int32} (hd : decode M.2.1 pc = .ok (.ldc_w n, 3)) (hv : Cond.constant M.1.cls n v ∈ ztbl) (hq : pc + 3 = q) (k : zY M d Q q ls (zi v :: st) σ) : zY M d Q pc ls (st) σ := by
  subst hq
  intro G ad A p l e R s m args below meth c cells slots Z C H locs lsc hP hS hL
  exact lv_ldcw C.1 C.2.1 C.2.2.2.1 (C.2.2.2.2.1 _ hv) hd (k G ad A p l e R s m args below meth c cells slots Z C H locs lsc hP hS hL)
theorem y_ldc2_w {n : Nat} {v : Int64} (hd : decode M.2.1 pc = .ok (.ldc2_w n, 3)) (hv : Cond.constantLong M.1.cls n v ∈ ztbl) (hq : pc + 3 = q) (k : zY M d Q q ls (zl v :: st) σ) : zY M d Q pc ls (st) σ := by
  subst hq
  intro G ad A p l e R s m args below meth c cells slots Z C H locs lsc hP hS hL
  exact lv_ldc2 C.1 C.2.1 C.2.2.2.1 (C.2.2.2.2.1 _ hv) hd (k G ad A p l e R s m args below meth c cells slots Z C H locs lsc hP hS hL)
theorem y_null (hd : decode M.2.1 pc = .ok (.aconst_null, 1)) (hq : pc + 1 = q) (k : zY M d Q q ls (zn :: st) σ) : zY M d Q pc ls (st) σ := by
  subst hq
  intro G ad A p l e R s m args below meth c cells slots Z C H locs lsc hP hS hL
  exact lv_null C.1 C.2.1 hd (k G ad A p l e R s m args below meth c cells slots Z C H locs lsc hP hS hL)
def zg : List (Option zV) → Nat → Option zV
  | [], _ => none
  | a :: _, 0 => a
  | _ :: t, n + 1 => zg t n
theorem zg_eq : ∀ (ls : List (Option zV)) (i : Nat) (v : zV), zg ls i = some v → ls[i]? = some (some v)
  | [], i, v, h => by cases h
  | a :: t, 0, v, h => by rw [zg] at h; rw [h]; rfl
  | a :: t, n + 1, v, h => by rw [zg] at h; exact zg_eq t n v h
theorem y_iload_n {k4 : Fin 4} {i : Nat} {x : Int32} (hd : decode M.2.1 pc = .ok (.iload_n k4, 1)) (hi : (k4 : Nat) = i) (hv : zg ls i = some (zi x)) (hq : pc + 1 = q) (k : zY M d Q q ls (zi x :: st) σ) : zY M d Q pc ls (st) σ := by
  subst hq
  intro G ad A p l e R s m args below meth c cells slots Z C H locs lsc hP hS hL
  exact lv_iload_n C.1 C.2.1 hd hi (hL.2.2 _ _ (zg_eq ls i (zi x) hv)) (k G ad A p l e R s m args below meth c cells slots Z C H locs lsc hP hS hL)
theorem y_iload {i : Nat} {x : Int32} (hd : decode M.2.1 pc = .ok (.iload i, 2)) (hv : zg ls i = some (zi x)) (hq : pc + 2 = q) (k : zY M d Q q ls (zi x :: st) σ) : zY M d Q pc ls (st) σ := by
  subst hq
  intro G ad A p l e R s m args below meth c cells slots Z C H locs lsc hP hS hL
  exact lv_iload C.1 C.2.1 hd (hL.2.2 _ _ (zg_eq ls i (zi x) hv)) (k G ad A p l e R s m args below meth c cells slots Z C H locs lsc hP hS hL)
theorem y_lload_n {k4 : Fin 4} {i : Nat} {x : Int64} (hd : decode M.2.1 pc = .ok (.lload_n k4, 1)) (hi : (k4 : Nat) = i) (hv : zg ls i = some (zl x)) (hq : pc + 1 = q) (k : zY M d Q q ls (zl x :: st) σ) : zY M d Q pc ls (st) σ := by
  subst hq
  intro G ad A p l e R s m args below meth c cells slots Z C H locs lsc hP hS hL
  exact lv_lload_n C.1 C.2.1 hd hi (hL.2.2 _ _ (zg_eq ls i (zl x) hv)) (k G ad A p l e R s m args below meth c cells slots Z C H locs lsc hP hS hL)
theorem y_lload {i : Nat} {x : Int64} (hd : decode M.2.1 pc = .ok (.lload i, 2)) (hv : zg ls i = some (zl x)) (hq : pc + 2 = q) (k : zY M d Q q ls (zl x :: st) σ) : zY M d Q pc ls (st) σ := by
  subst hq
  intro G ad A p l e R s m args below meth c cells slots Z C H locs lsc hP hS hL
  exact lv_lload C.1 C.2.1 hd (hL.2.2 _ _ (zg_eq ls i (zl x) hv)) (k G ad A p l e R s m args below meth c cells slots Z C H locs lsc hP hS hL)
theorem y_aload_n {k4 : Fin 4} {i kk jj : Nat} (hd : decode M.2.1 pc = .ok (.aload_n k4, 1)) (hi : (k4 : Nat) = i) (hv : zg ls i = some (zr kk jj)) (hq : pc + 1 = q) (k : zY M d Q q ls (zr kk jj :: st) σ) : zY M d Q pc ls (st) σ := by
  subst hq
  intro G ad A p l e R s m args below meth c cells slots Z C H locs lsc hP hS hL
  exact lv_aload_n C.1 C.2.1 hd hi (hL.2.2 _ _ (zg_eq ls i (zr kk jj) hv)) (k G ad A p l e R s m args below meth c cells slots Z C H locs lsc hP hS hL)
theorem y_aload {i kk jj : Nat} (hd : decode M.2.1 pc = .ok (.aload i, 2)) (hv : zg ls i = some (zr kk jj)) (hq : pc + 2 = q) (k : zY M d Q q ls (zr kk jj :: st) σ) : zY M d Q pc ls (st) σ := by
  subst hq
  intro G ad A p l e R s m args below meth c cells slots Z C H locs lsc hP hS hL
  exact lv_aload C.1 C.2.1 hd (hL.2.2 _ _ (zg_eq ls i (zr kk jj) hv)) (k G ad A p l e R s m args below meth c cells slots Z C H locs lsc hP hS hL)
theorem y_aload_nN {k4 : Fin 4} {i : Nat} (hd : decode M.2.1 pc = .ok (.aload_n k4, 1)) (hi : (k4 : Nat) = i) (hv : zg ls i = some zn) (hq : pc + 1 = q) (k : zY M d Q q ls (zn :: st) σ) : zY M d Q pc ls (st) σ := by
  subst hq
  intro G ad A p l e R s m args below meth c cells slots Z C H locs lsc hP hS hL
  exact lv_aload_nN C.1 C.2.1 hd hi (hL.2.2 _ _ (zg_eq ls i zn hv)) (k G ad A p l e R s m args below meth c cells slots Z C H locs lsc hP hS hL)
theorem y_aloadN {i : Nat} (hd : decode M.2.1 pc = .ok (.aload i, 2)) (hv : zg ls i = some zn) (hq : pc + 2 = q) (k : zY M d Q q ls (zn :: st) σ) : zY M d Q pc ls (st) σ := by
  subst hq
  intro G ad A p l e R s m args below meth c cells slots Z C H locs lsc hP hS hL
  exact lv_aloadN C.1 C.2.1 hd (hL.2.2 _ _ (zg_eq ls i zn hv)) (k G ad A p l e R s m args below meth c cells slots Z C H locs lsc hP hS hL)
theorem y_dupR {kk jj : Nat} (hd : decode M.2.1 pc = .ok (.dup, 1)) (hq : pc + 1 = q) (k : zY M d Q q ls (zr kk jj :: zr kk jj :: st) σ) : zY M d Q pc ls (zr kk jj :: st) σ := by
  subst hq
  intro G ad A p l e R s m args below meth c cells slots Z C H locs lsc hP hS hL
  exact lv_dup C.1 C.2.1 hd rfl (k G ad A p l e R s m args below meth c cells slots Z C H locs lsc hP hS hL)
theorem y_dupI {x : Int32} (hd : decode M.2.1 pc = .ok (.dup, 1)) (hq : pc + 1 = q) (k : zY M d Q q ls (zi x :: zi x :: st) σ) : zY M d Q pc ls (zi x :: st) σ := by
  subst hq
  intro G ad A p l e R s m args below meth c cells slots Z C H locs lsc hP hS hL
  exact lv_dup C.1 C.2.1 hd rfl (k G ad A p l e R s m args below meth c cells slots Z C H locs lsc hP hS hL)
theorem y_dup2 {x : Int32} {kk jj : Nat} (hd : decode M.2.1 pc = .ok (.dup2, 1)) (hq : pc + 1 = q) (k : zY M d Q q ls (zi x :: zr kk jj :: zi x :: zr kk jj :: st) σ) : zY M d Q pc ls (zi x :: zr kk jj :: st) σ := by
  subst hq
  intro G ad A p l e R s m args below meth c cells slots Z C H locs lsc hP hS hL
  exact lv_dup2_11 C.1 C.2.1 hd rfl rfl (k G ad A p l e R s m args below meth c cells slots Z C H locs lsc hP hS hL)
theorem y_pop {x : Int32} (hd : decode M.2.1 pc = .ok (.pop, 1)) (hq : pc + 1 = q) (k : zY M d Q q ls (st) σ) : zY M d Q pc ls (zi x :: st) σ := by
  subst hq
  intro G ad A p l e R s m args below meth c cells slots Z C H locs lsc hP hS hL
  exact lv_pop C.1 C.2.1 hd rfl (k G ad A p l e R s m args below meth c cells slots Z C H locs lsc hP hS hL)
theorem y_if_eq {x : Int32} {off : Int} (tgt : Nat) (hd : decode M.2.1 pc = .ok (.ifCond .eq off, 3)) (ht : (pc : Int) + off = (tgt : Int)) (hq : pc + 3 = q) (kt : x = 0 → zY M d Q tgt ls st σ) (kf : ¬ (x = 0) → zY M d Q q ls st σ) : zY M d Q pc ls (zi x :: st) σ := by
  subst hq
  intro G ad A p l e R s m args below meth c cells slots Z C H locs lsc hP hS hL
  refine lv_if_eq C.1 C.2.1 hd ht (fun hc => kt ?_ G ad A p l e R s m args below meth c cells slots Z C H locs lsc hP hS hL) (fun hc => kf ?_ G ad A p l e R s m args below meth c cells slots Z C H locs lsc hP hS hL)
  · exact hc
  · exact hc
theorem y_icmp_eq {x y : Int32} {off : Int} (tgt : Nat) (hd : decode M.2.1 pc = .ok (.if_icmp .eq off, 3)) (ht : (pc : Int) + off = (tgt : Int)) (hq : pc + 3 = q) (kt : x = y → zY M d Q tgt ls st σ) (kf : ¬ (x = y) → zY M d Q q ls st σ) : zY M d Q pc ls (zi y :: zi x :: st) σ := by
  subst hq
  intro G ad A p l e R s m args below meth c cells slots Z C H locs lsc hP hS hL
  refine lv_icmp_eq C.1 C.2.1 hd ht (fun hc => kt ?_ G ad A p l e R s m args below meth c cells slots Z C H locs lsc hP hS hL) (fun hc => kf ?_ G ad A p l e R s m args below meth c cells slots Z C H locs lsc hP hS hL)
  · exact hc
  · exact hc
theorem y_if_ne {x : Int32} {off : Int} (tgt : Nat) (hd : decode M.2.1 pc = .ok (.ifCond .ne off, 3)) (ht : (pc : Int) + off = (tgt : Int)) (hq : pc + 3 = q) (kt : ¬ x = 0 → zY M d Q tgt ls st σ) (kf : x = 0 → zY M d Q q ls st σ) : zY M d Q pc ls (zi x :: st) σ := by
  subst hq
  intro G ad A p l e R s m args below meth c cells slots Z C H locs lsc hP hS hL
  refine lv_if_ne C.1 C.2.1 hd ht (fun hc => kt ?_ G ad A p l e R s m args below meth c cells slots Z C H locs lsc hP hS hL) (fun hc => kf ?_ G ad A p l e R s m args below meth c cells slots Z C H locs lsc hP hS hL)
  · exact hc
  · exact hc
theorem y_icmp_ne {x y : Int32} {off : Int} (tgt : Nat) (hd : decode M.2.1 pc = .ok (.if_icmp .ne off, 3)) (ht : (pc : Int) + off = (tgt : Int)) (hq : pc + 3 = q) (kt : ¬ x = y → zY M d Q tgt ls st σ) (kf : x = y → zY M d Q q ls st σ) : zY M d Q pc ls (zi y :: zi x :: st) σ := by
  subst hq
  intro G ad A p l e R s m args below meth c cells slots Z C H locs lsc hP hS hL
  refine lv_icmp_ne C.1 C.2.1 hd ht (fun hc => kt ?_ G ad A p l e R s m args below meth c cells slots Z C H locs lsc hP hS hL) (fun hc => kf ?_ G ad A p l e R s m args below meth c cells slots Z C H locs lsc hP hS hL)
  · exact hc
  · exact hc
theorem y_if_lt {x : Int32} {off : Int} (tgt : Nat) (hd : decode M.2.1 pc = .ok (.ifCond .lt off, 3)) (ht : (pc : Int) + off = (tgt : Int)) (hq : pc + 3 = q) (kt : x < 0 → zY M d Q tgt ls st σ) (kf : ¬ (x < 0) → zY M d Q q ls st σ) : zY M d Q pc ls (zi x :: st) σ := by
  subst hq
  intro G ad A p l e R s m args below meth c cells slots Z C H locs lsc hP hS hL
  refine lv_if_lt C.1 C.2.1 hd ht (fun hc => kt ?_ G ad A p l e R s m args below meth c cells slots Z C H locs lsc hP hS hL) (fun hc => kf ?_ G ad A p l e R s m args below meth c cells slots Z C H locs lsc hP hS hL)
  · exact hc
  · exact hc
theorem y_icmp_lt {x y : Int32} {off : Int} (tgt : Nat) (hd : decode M.2.1 pc = .ok (.if_icmp .lt off, 3)) (ht : (pc : Int) + off = (tgt : Int)) (hq : pc + 3 = q) (kt : x < y → zY M d Q tgt ls st σ) (kf : ¬ (x < y) → zY M d Q q ls st σ) : zY M d Q pc ls (zi y :: zi x :: st) σ := by
  subst hq
  intro G ad A p l e R s m args below meth c cells slots Z C H locs lsc hP hS hL
  refine lv_icmp_lt C.1 C.2.1 hd ht (fun hc => kt ?_ G ad A p l e R s m args below meth c cells slots Z C H locs lsc hP hS hL) (fun hc => kf ?_ G ad A p l e R s m args below meth c cells slots Z C H locs lsc hP hS hL)
  · exact hc
  · exact hc
theorem y_if_ge {x : Int32} {off : Int} (tgt : Nat) (hd : decode M.2.1 pc = .ok (.ifCond .ge off, 3)) (ht : (pc : Int) + off = (tgt : Int)) (hq : pc + 3 = q) (kt : 0 ≤ x → zY M d Q tgt ls st σ) (kf : ¬ (0 ≤ x) → zY M d Q q ls st σ) : zY M d Q pc ls (zi x :: st) σ := by
  subst hq
  intro G ad A p l e R s m args below meth c cells slots Z C H locs lsc hP hS hL
  refine lv_if_ge C.1 C.2.1 hd ht (fun hc => kt ?_ G ad A p l e R s m args below meth c cells slots Z C H locs lsc hP hS hL) (fun hc => kf ?_ G ad A p l e R s m args below meth c cells slots Z C H locs lsc hP hS hL)
  · exact hc
  · exact hc
theorem y_icmp_ge {x y : Int32} {off : Int} (tgt : Nat) (hd : decode M.2.1 pc = .ok (.if_icmp .ge off, 3)) (ht : (pc : Int) + off = (tgt : Int)) (hq : pc + 3 = q) (kt : y ≤ x → zY M d Q tgt ls st σ) (kf : ¬ (y ≤ x) → zY M d Q q ls st σ) : zY M d Q pc ls (zi y :: zi x :: st) σ := by
  subst hq
  intro G ad A p l e R s m args below meth c cells slots Z C H locs lsc hP hS hL
  refine lv_icmp_ge C.1 C.2.1 hd ht (fun hc => kt ?_ G ad A p l e R s m args below meth c cells slots Z C H locs lsc hP hS hL) (fun hc => kf ?_ G ad A p l e R s m args below meth c cells slots Z C H locs lsc hP hS hL)
  · exact hc
  · exact hc
theorem y_if_gt {x : Int32} {off : Int} (tgt : Nat) (hd : decode M.2.1 pc = .ok (.ifCond .gt off, 3)) (ht : (pc : Int) + off = (tgt : Int)) (hq : pc + 3 = q) (kt : 0 < x → zY M d Q tgt ls st σ) (kf : ¬ (0 < x) → zY M d Q q ls st σ) : zY M d Q pc ls (zi x :: st) σ := by
  subst hq
  intro G ad A p l e R s m args below meth c cells slots Z C H locs lsc hP hS hL
  refine lv_if_gt C.1 C.2.1 hd ht (fun hc => kt ?_ G ad A p l e R s m args below meth c cells slots Z C H locs lsc hP hS hL) (fun hc => kf ?_ G ad A p l e R s m args below meth c cells slots Z C H locs lsc hP hS hL)
  · exact hc
  · exact hc
theorem y_icmp_gt {x y : Int32} {off : Int} (tgt : Nat) (hd : decode M.2.1 pc = .ok (.if_icmp .gt off, 3)) (ht : (pc : Int) + off = (tgt : Int)) (hq : pc + 3 = q) (kt : y < x → zY M d Q tgt ls st σ) (kf : ¬ (y < x) → zY M d Q q ls st σ) : zY M d Q pc ls (zi y :: zi x :: st) σ := by
  subst hq
  intro G ad A p l e R s m args below meth c cells slots Z C H locs lsc hP hS hL
  refine lv_icmp_gt C.1 C.2.1 hd ht (fun hc => kt ?_ G ad A p l e R s m args below meth c cells slots Z C H locs lsc hP hS hL) (fun hc => kf ?_ G ad A p l e R s m args below meth c cells slots Z C H locs lsc hP hS hL)
  · exact hc
  · exact hc
theorem y_if_le {x : Int32} {off : Int} (tgt : Nat) (hd : decode M.2.1 pc = .ok (.ifCond .le off, 3)) (ht : (pc : Int) + off = (tgt : Int)) (hq : pc + 3 = q) (kt : x ≤ 0 → zY M d Q tgt ls st σ) (kf : ¬ (x ≤ 0) → zY M d Q q ls st σ) : zY M d Q pc ls (zi x :: st) σ := by
  subst hq
  intro G ad A p l e R s m args below meth c cells slots Z C H locs lsc hP hS hL
  refine lv_if_le C.1 C.2.1 hd ht (fun hc => kt ?_ G ad A p l e R s m args below meth c cells slots Z C H locs lsc hP hS hL) (fun hc => kf ?_ G ad A p l e R s m args below meth c cells slots Z C H locs lsc hP hS hL)
  · exact hc
  · exact hc
theorem y_icmp_le {x y : Int32} {off : Int} (tgt : Nat) (hd : decode M.2.1 pc = .ok (.if_icmp .le off, 3)) (ht : (pc : Int) + off = (tgt : Int)) (hq : pc + 3 = q) (kt : x ≤ y → zY M d Q tgt ls st σ) (kf : ¬ (x ≤ y) → zY M d Q q ls st σ) : zY M d Q pc ls (zi y :: zi x :: st) σ := by
  subst hq
  intro G ad A p l e R s m args below meth c cells slots Z C H locs lsc hP hS hL
  refine lv_icmp_le C.1 C.2.1 hd ht (fun hc => kt ?_ G ad A p l e R s m args below meth c cells slots Z C H locs lsc hP hS hL) (fun hc => kf ?_ G ad A p l e R s m args below meth c cells slots Z C H locs lsc hP hS hL)
  · exact hc
  · exact hc
theorem y_goto {off : Int} (tgt : Nat) (hd : decode M.2.1 pc = .ok (.goto off, 3)) (ht : (pc : Int) + off = (tgt : Int)) (k : zY M d Q tgt ls st σ) : zY M d Q pc ls st σ := by
  intro G ad A p l e R s m args below meth c cells slots Z C H locs lsc hP hS hL
  exact lv_goto C.1 C.2.1 hd ht (k G ad A p l e R s m args below meth c cells slots Z C H locs lsc hP hS hL)
theorem y_ifnonnull {kk jj : Nat} {off : Int} (tgt : Nat) (hd : decode M.2.1 pc = .ok (.ifnonnull off, 3)) (ht : (pc : Int) + off = (tgt : Int)) (k : zY M d Q tgt ls st σ) : zY M d Q pc ls (zr kk jj :: st) σ := by
  intro G ad A p l e R s m args below meth c cells slots Z C H locs lsc hP hS hL
  exact lv_ifnonnull C.1 C.2.1 hd ht (k G ad A p l e R s m args below meth c cells slots Z C H locs lsc hP hS hL)
theorem y_ifnull {kk jj : Nat} {off : Int} (hd : decode M.2.1 pc = .ok (.ifnull off, 3)) (hq : pc + 3 = q) (k : zY M d Q q ls st σ) : zY M d Q pc ls (zr kk jj :: st) σ := by
  subst hq
  intro G ad A p l e R s m args below meth c cells slots Z C H locs lsc hP hS hL
  exact lv_ifnull C.1 C.2.1 hd (k G ad A p l e R s m args below meth c cells slots Z C H locs lsc hP hS hL)
theorem y_ifnullN {off : Int} (tgt : Nat) (hd : decode M.2.1 pc = .ok (.ifnull off, 3)) (ht : (pc : Int) + off = (tgt : Int)) (k : zY M d Q tgt ls st σ) : zY M d Q pc ls (zn :: st) σ := by
  intro G ad A p l e R s m args below meth c cells slots Z C H locs lsc hP hS hL
  exact lv_ifnullN C.1 C.2.1 hd ht (k G ad A p l e R s m args below meth c cells slots Z C H locs lsc hP hS hL)
theorem y_ifnonnullN {off : Int} (hd : decode M.2.1 pc = .ok (.ifnonnull off, 3)) (hq : pc + 3 = q) (k : zY M d Q q ls st σ) : zY M d Q pc ls (zn :: st) σ := by
  subst hq
  intro G ad A p l e R s m args below meth c cells slots Z C H locs lsc hP hS hL
  exact lv_ifnonnullN C.1 C.2.1 hd (k G ad A p l e R s m args below meth c cells slots Z C H locs lsc hP hS hL)
theorem y_tableOut {dflt lo hi : Int} {offs : Array Int} {len : Nat} {x : Int32} (tgt : Nat) (hd : decode M.2.1 pc = .ok (.tableswitch dflt lo hi offs, len)) (h : x.toInt < lo ∨ hi < x.toInt) (ht : (pc : Int) + dflt = (tgt : Int)) (k : zY M d Q tgt ls st σ) : zY M d Q pc ls (zi x :: st) σ := by
  intro G ad A p l e R s m args below meth c cells slots Z C H locs lsc hP hS hL
  exact lv_tableOut C.1 C.2.1 hd h ht (k G ad A p l e R s m args below meth c cells slots Z C H locs lsc hP hS hL)
theorem y_tableIn {dflt lo hi : Int} {offs : Array Int} {len : Nat} {x : Int32} {off : Int} (tgt : Nat) (hd : decode M.2.1 pc = .ok (.tableswitch dflt lo hi offs, len)) (h1 : ¬ x.toInt < lo) (h2 : ¬ hi < x.toInt) (ho : offs[(x.toInt - lo).toNat]? = some off) (ht : (pc : Int) + off = (tgt : Int)) (k : zY M d Q tgt ls st σ) : zY M d Q pc ls (zi x :: st) σ := by
  intro G ad A p l e R s m args below meth c cells slots Z C H locs lsc hP hS hL
  exact lv_tableIn C.1 C.2.1 hd h1 h2 ho ht (k G ad A p l e R s m args below meth c cells slots Z C H locs lsc hP hS hL)
def zAs (ad : Nat → Nat → Nat) (ls : List (Option zV)) : List (Nat × Value) := ls.zipIdx.filterMap fun q => q.1.map fun v => (q.2, cz ad v)
theorem zAs_mem {ad : Nat → Nat → Nat} {ls : List (Option zV)} {q : Nat × Value} : q ∈ zAs ad ls ↔ ∃ v, ls[q.1]? = some (some v) ∧ q.2 = cz ad v := by
  unfold zAs
  rw [List.mem_filterMap]
  constructor
  · rintro ⟨⟨x, i⟩, hm, he⟩
    have h1 := List.mem_zipIdx_iff_getElem?.mp hm
    cases x with
    | none => cases he
    | some v =>
      have he' : (i, cz ad v) = q := Option.some.inj he
      subst he'
      exact ⟨v, h1, rfl⟩
  · rintro ⟨v, h1, h2⟩
    refine ⟨(some v, q.1), List.mem_zipIdx_iff_getElem?.mpr h1, ?_⟩
    show some (q.1, cz ad v) = some q
    rw [← h2]
theorem zL_has {ad : Nat → Nat → Nat} {nL : Nat} {lsc : Array Slot} {ls : List (Option zV)} (h : zL ad nL lsc ls) : lv_has lsc nL (zAs ad ls) := ⟨h.1, h.2.1, fun q hq => by
  obtain ⟨v, h1, h2⟩ := zAs_mem.mp hq
  rw [h2]
  exact h.2.2 _ _ h1⟩
def zpre (ls : List (Option zV)) (i : Nat) : Bool := match i with
  | 0 => true
  | n + 1 => match zg ls n with
    | some w => zcat w != 2
    | none => true
theorem zg_of : ∀ (ls : List (Option zV)) (i : Nat) (v : zV), ls[i]? = some (some v) → zg ls i = some v
  | [], i, v, h => by cases h
  | a :: t, 0, v, h => by rw [zg]; exact Option.some.inj h
  | a :: t, n + 1, v, h => by rw [zg]; exact zg_of t n v h
theorem zpre_at {ls : List (Option zV)} {i k : Nat} {w : zV} (h : zpre ls i = true) (hk : k + 1 = i) (hw : ls[k]? = some (some w)) : zcat w ≠ 2 := by
  subst hk
  rw [zpre, zg_of ls k w hw] at h
  intro e
  dsimp only at h
  rw [e] at h
  exact absurd h (by decide)
theorem zL_st1 {ad : Nat → Nat → Nat} {nL i : Nat} {lsc ls' : Array Slot} {ls : List (Option zV)} {v : zV} (hno : zpre ls i = true) (h : lv_has ls' nL ((i, cz ad v) :: (zAs ad ls).filter (fun q => !(q.1 == i) && !(q.1 + 1 == i && q.2.category == 2)))) : zL ad nL ls' (ls.set i (some v)) := by
  refine ⟨h.1, h.2.1, fun k w hk => ?_⟩
  rw [List.getElem?_set] at hk
  by_cases hki : i = k
  · rw [if_pos hki] at hk
    split at hk
    · cases hk
      subst hki
      exact h.2.2 _ List.mem_cons_self
    · cases hk
  · rw [if_neg hki] at hk
    refine h.2.2 (k, cz ad w) (List.mem_cons_of_mem _ (List.mem_filter.mpr ⟨zAs_mem.mpr ⟨w, hk, rfl⟩, ?_⟩))
    have h1 : (k == i) = false := by simpa using fun e : k = i => hki e.symm
    by_cases h2 : k + 1 = i
    · have h3 : ((cz ad w).category == 2) = false := by rw [cz_cat]; simpa using zpre_at hno h2 hk
      simp [h1, h3]
    · have h3 : (k + 1 == i) = false := by simpa using h2
      simp [h1, h3]
theorem zL_st2 {ad : Nat → Nat → Nat} {nL i : Nat} {lsc ls' : Array Slot} {ls : List (Option zV)} {v : zV} (hno : zpre ls i = true) (h : lv_has ls' nL ((i, cz ad v) :: (zAs ad ls).filter (fun q => !(q.1 == i) && (!(q.1 == i + 1) && !(q.1 + 1 == i && q.2.category == 2))))) : zL ad nL ls' ((ls.set i (some v)).set (i + 1) none) := by
  refine ⟨h.1, h.2.1, fun k w hk => ?_⟩
  rw [List.getElem?_set] at hk
  by_cases hk1 : i + 1 = k
  · rw [if_pos hk1] at hk
    split at hk
    · cases hk
    · cases hk
  · rw [if_neg hk1, List.getElem?_set] at hk
    by_cases hki : i = k
    · rw [if_pos hki] at hk
      split at hk
      · cases hk
        subst hki
        exact h.2.2 _ List.mem_cons_self
      · cases hk
    · rw [if_neg hki] at hk
      refine h.2.2 (k, cz ad w) (List.mem_cons_of_mem _ (List.mem_filter.mpr ⟨zAs_mem.mpr ⟨w, hk, rfl⟩, ?_⟩))
      have h1 : (k == i) = false := by simpa using fun e : k = i => hki e.symm
      have h4 : (k == i + 1) = false := by simpa using fun e : k = i + 1 => hk1 e.symm
      by_cases h2 : k + 1 = i
      · have h3 : ((cz ad w).category == 2) = false := by rw [cz_cat]; simpa using zpre_at hno h2 hk
        simp [h1, h3, h4]
      · have h3 : (k + 1 == i) = false := by simpa using h2
        simp [h1, h3, h4]
theorem y_istore_n {k4 : Fin 4} {i : Nat} {x : Int32} (hd : decode M.2.1 pc = .ok (.istore_n k4, 1)) (hi : (k4 : Nat) = i) (hn : Nat.ble (i + 1) M.2.2.1 = true) (hno : zpre ls i = true) (hq : pc + 1 = q) (k : zY M d Q q (ls.set i (some (zi x))) st σ) : zY M d Q pc ls (zi x :: st) σ := by
  subst hq
  intro G ad A p l e R s m args below meth c cells slots Z C H locs lsc hP hS hL
  exact lv_istore_n C.1 C.2.1 hd hi (zL_has hL) (Nat.le_of_ble_eq_true hn) rfl (fun ls' hl => k G ad A p l e R s m args below meth c cells slots Z C H locs ls' hP hS (zL_st1 (lsc := lsc) hno hl))
theorem y_istore {i : Nat} {x : Int32} (hd : decode M.2.1 pc = .ok (.istore i, 2)) (hn : Nat.ble (i + 1) M.2.2.1 = true) (hno : zpre ls i = true) (hq : pc + 2 = q) (k : zY M d Q q (ls.set i (some (zi x))) st σ) : zY M d Q pc ls (zi x :: st) σ := by
  subst hq
  intro G ad A p l e R s m args below meth c cells slots Z C H locs lsc hP hS hL
  exact lv_istore C.1 C.2.1 hd (zL_has hL) (Nat.le_of_ble_eq_true hn) rfl (fun ls' hl => k G ad A p l e R s m args below meth c cells slots Z C H locs ls' hP hS (zL_st1 (lsc := lsc) hno hl))
theorem y_lstore_n {k4 : Fin 4} {i : Nat} {x : Int64} (hd : decode M.2.1 pc = .ok (.lstore_n k4, 1)) (hi : (k4 : Nat) = i) (hn : Nat.ble (i + 2) M.2.2.1 = true) (hno : zpre ls i = true) (hq : pc + 1 = q) (k : zY M d Q q ((ls.set i (some (zl x))).set (i + 1) none) st σ) : zY M d Q pc ls (zl x :: st) σ := by
  subst hq
  intro G ad A p l e R s m args below meth c cells slots Z C H locs lsc hP hS hL
  exact lv_lstore_n C.1 C.2.1 hd hi (zL_has hL) (Nat.le_of_ble_eq_true hn) rfl (fun ls' hl => k G ad A p l e R s m args below meth c cells slots Z C H locs ls' hP hS (zL_st2 (lsc := lsc) hno hl))
theorem y_lstore {i : Nat} {x : Int64} (hd : decode M.2.1 pc = .ok (.lstore i, 2)) (hn : Nat.ble (i + 2) M.2.2.1 = true) (hno : zpre ls i = true) (hq : pc + 2 = q) (k : zY M d Q q ((ls.set i (some (zl x))).set (i + 1) none) st σ) : zY M d Q pc ls (zl x :: st) σ := by
  subst hq
  intro G ad A p l e R s m args below meth c cells slots Z C H locs lsc hP hS hL
  exact lv_lstore C.1 C.2.1 hd (zL_has hL) (Nat.le_of_ble_eq_true hn) rfl (fun ls' hl => k G ad A p l e R s m args below meth c cells slots Z C H locs ls' hP hS (zL_st2 (lsc := lsc) hno hl))
theorem y_astore_n {k4 : Fin 4} {i : Nat} {kk jj : Nat} (hd : decode M.2.1 pc = .ok (.astore_n k4, 1)) (hi : (k4 : Nat) = i) (hn : Nat.ble (i + 1) M.2.2.1 = true) (hno : zpre ls i = true) (hq : pc + 1 = q) (k : zY M d Q q (ls.set i (some (zr kk jj))) st σ) : zY M d Q pc ls (zr kk jj :: st) σ := by
  subst hq
  intro G ad A p l e R s m args below meth c cells slots Z C H locs lsc hP hS hL
  exact lv_astore_n C.1 C.2.1 hd hi (zL_has hL) (Nat.le_of_ble_eq_true hn) rfl (fun ls' hl => k G ad A p l e R s m args below meth c cells slots Z C H locs ls' hP hS (zL_st1 (lsc := lsc) hno hl))
theorem y_astore {i : Nat} {kk jj : Nat} (hd : decode M.2.1 pc = .ok (.astore i, 2)) (hn : Nat.ble (i + 1) M.2.2.1 = true) (hno : zpre ls i = true) (hq : pc + 2 = q) (k : zY M d Q q (ls.set i (some (zr kk jj))) st σ) : zY M d Q pc ls (zr kk jj :: st) σ := by
  subst hq
  intro G ad A p l e R s m args below meth c cells slots Z C H locs lsc hP hS hL
  exact lv_astore C.1 C.2.1 hd (zL_has hL) (Nat.le_of_ble_eq_true hn) rfl (fun ls' hl => k G ad A p l e R s m args below meth c cells slots Z C H locs ls' hP hS (zL_st1 (lsc := lsc) hno hl))
theorem y_astoreN_n {k4 : Fin 4} {i : Nat} (hd : decode M.2.1 pc = .ok (.astore_n k4, 1)) (hi : (k4 : Nat) = i) (hn : Nat.ble (i + 1) M.2.2.1 = true) (hno : zpre ls i = true) (hq : pc + 1 = q) (k : zY M d Q q (ls.set i (some (zn))) st σ) : zY M d Q pc ls (zn :: st) σ := by
  subst hq
  intro G ad A p l e R s m args below meth c cells slots Z C H locs lsc hP hS hL
  exact lv_astore_nN C.1 C.2.1 hd hi (zL_has hL) (Nat.le_of_ble_eq_true hn) rfl (fun ls' hl => k G ad A p l e R s m args below meth c cells slots Z C H locs ls' hP hS (zL_st1 (lsc := lsc) hno hl))
theorem y_astoreN {i : Nat} (hd : decode M.2.1 pc = .ok (.astore i, 2)) (hn : Nat.ble (i + 1) M.2.2.1 = true) (hno : zpre ls i = true) (hq : pc + 2 = q) (k : zY M d Q q (ls.set i (some (zn))) st σ) : zY M d Q pc ls (zn :: st) σ := by
  subst hq
  intro G ad A p l e R s m args below meth c cells slots Z C H locs lsc hP hS hL
  exact lv_astoreN C.1 C.2.1 hd (zL_has hL) (Nat.le_of_ble_eq_true hn) rfl (fun ls' hl => k G ad A p l e R s m args below meth c cells slots Z C H locs ls' hP hS (zL_st1 (lsc := lsc) hno hl))
theorem y_iinc {i : Nat} {n : Int} {x v : Int32} (hd : decode M.2.1 pc = .ok (.iinc i n, 3)) (hn : Nat.ble (i + 1) M.2.2.1 = true) (hx : zg ls i = some (zi x)) (hv : Int32.ofInt n = v) (hno : zpre ls i = true) (hq : pc + 3 = q) (k : zY M d Q q (ls.set i (some (zi (x + v)))) st σ) : zY M d Q pc ls st σ := by
  subst hq
  subst hv
  intro G ad A p l e R s m args below meth c cells slots Z C H locs lsc hP hS hL
  obtain ⟨k0, hk0⟩ := List.getElem?_of_mem (zAs_mem (ad := ad) (q := (i, .int x)).mpr ⟨zi x, zg_eq ls i _ hx, rfl⟩)
  exact lv_iinc C.1 C.2.1 hd (zL_has hL) hk0 rfl (Nat.le_of_ble_eq_true hn) rfl (fun ls' hl => k G ad A p l e R s m args below meth c cells slots Z C H locs ls' hP hS (zL_st1 (lsc := lsc) (v := zi (x + Int32.ofInt n)) hno hl))
theorem y_istore_n0 {a0 : Option zV} {t : List (Option zV)} {x : Int32} (hd : decode M.2.1 pc = .ok (.istore_n 0, 1)) (hn : Nat.ble 1 M.2.2.1 = true) (hno : zpre (a0 :: t) 0 = true) (hq : pc + 1 = q) (k : zY M d Q q (some (zi x) :: t) st σ) : zY M d Q pc (a0 :: t) (zi x :: st) σ := y_istore_n hd rfl hn hno hq k
theorem y_astore_n0 {a0 : Option zV} {t : List (Option zV)} {kk jj : Nat} (hd : decode M.2.1 pc = .ok (.astore_n 0, 1)) (hn : Nat.ble 1 M.2.2.1 = true) (hno : zpre (a0 :: t) 0 = true) (hq : pc + 1 = q) (k : zY M d Q q (some (zr kk jj) :: t) st σ) : zY M d Q pc (a0 :: t) (zr kk jj :: st) σ := y_astore_n hd rfl hn hno hq k
theorem y_astoreN_n0 {a0 : Option zV} {t : List (Option zV)} (hd : decode M.2.1 pc = .ok (.astore_n 0, 1)) (hn : Nat.ble 1 M.2.2.1 = true) (hno : zpre (a0 :: t) 0 = true) (hq : pc + 1 = q) (k : zY M d Q q (some (zn) :: t) st σ) : zY M d Q pc (a0 :: t) (zn :: st) σ := y_astoreN_n hd rfl hn hno hq k
theorem y_lstore_n0 {a0 a1 : Option zV} {t : List (Option zV)} {x : Int64} (hd : decode M.2.1 pc = .ok (.lstore_n 0, 1)) (hn : Nat.ble 2 M.2.2.1 = true) (hno : zpre (a0 :: a1 :: t) 0 = true) (hq : pc + 1 = q) (k : zY M d Q q (some (zl x) :: none :: t) st σ) : zY M d Q pc (a0 :: a1 :: t) (zl x :: st) σ := y_lstore_n hd rfl hn hno hq k
theorem y_iinc_0 {t : List (Option zV)} {n : Int} {x v : Int32} (hd : decode M.2.1 pc = .ok (.iinc 0 n, 3)) (hn : Nat.ble 1 M.2.2.1 = true) (hv : Int32.ofInt n = v) (hno : zpre (some (zi x) :: t) 0 = true) (hq : pc + 3 = q) (k : zY M d Q q (some (zi (x + v)) :: t) st σ) : zY M d Q pc (some (zi x) :: t) st σ := y_iinc hd hn rfl hv hno hq k
theorem y_istore_n1 {a0 a1 : Option zV} {t : List (Option zV)} {x : Int32} (hd : decode M.2.1 pc = .ok (.istore_n 1, 1)) (hn : Nat.ble 2 M.2.2.1 = true) (hno : zpre (a0 :: a1 :: t) 1 = true) (hq : pc + 1 = q) (k : zY M d Q q (a0 :: some (zi x) :: t) st σ) : zY M d Q pc (a0 :: a1 :: t) (zi x :: st) σ := y_istore_n hd rfl hn hno hq k
theorem y_astore_n1 {a0 a1 : Option zV} {t : List (Option zV)} {kk jj : Nat} (hd : decode M.2.1 pc = .ok (.astore_n 1, 1)) (hn : Nat.ble 2 M.2.2.1 = true) (hno : zpre (a0 :: a1 :: t) 1 = true) (hq : pc + 1 = q) (k : zY M d Q q (a0 :: some (zr kk jj) :: t) st σ) : zY M d Q pc (a0 :: a1 :: t) (zr kk jj :: st) σ := y_astore_n hd rfl hn hno hq k
theorem y_astoreN_n1 {a0 a1 : Option zV} {t : List (Option zV)} (hd : decode M.2.1 pc = .ok (.astore_n 1, 1)) (hn : Nat.ble 2 M.2.2.1 = true) (hno : zpre (a0 :: a1 :: t) 1 = true) (hq : pc + 1 = q) (k : zY M d Q q (a0 :: some (zn) :: t) st σ) : zY M d Q pc (a0 :: a1 :: t) (zn :: st) σ := y_astoreN_n hd rfl hn hno hq k
theorem y_lstore_n1 {a0 a1 a2 : Option zV} {t : List (Option zV)} {x : Int64} (hd : decode M.2.1 pc = .ok (.lstore_n 1, 1)) (hn : Nat.ble 3 M.2.2.1 = true) (hno : zpre (a0 :: a1 :: a2 :: t) 1 = true) (hq : pc + 1 = q) (k : zY M d Q q (a0 :: some (zl x) :: none :: t) st σ) : zY M d Q pc (a0 :: a1 :: a2 :: t) (zl x :: st) σ := y_lstore_n hd rfl hn hno hq k
theorem y_iinc_1 {a0 : Option zV} {t : List (Option zV)} {n : Int} {x v : Int32} (hd : decode M.2.1 pc = .ok (.iinc 1 n, 3)) (hn : Nat.ble 2 M.2.2.1 = true) (hv : Int32.ofInt n = v) (hno : zpre (a0 :: some (zi x) :: t) 1 = true) (hq : pc + 3 = q) (k : zY M d Q q (a0 :: some (zi (x + v)) :: t) st σ) : zY M d Q pc (a0 :: some (zi x) :: t) st σ := y_iinc hd hn rfl hv hno hq k
theorem y_istore_n2 {a0 a1 a2 : Option zV} {t : List (Option zV)} {x : Int32} (hd : decode M.2.1 pc = .ok (.istore_n 2, 1)) (hn : Nat.ble 3 M.2.2.1 = true) (hno : zpre (a0 :: a1 :: a2 :: t) 2 = true) (hq : pc + 1 = q) (k : zY M d Q q (a0 :: a1 :: some (zi x) :: t) st σ) : zY M d Q pc (a0 :: a1 :: a2 :: t) (zi x :: st) σ := y_istore_n hd rfl hn hno hq k
theorem y_astore_n2 {a0 a1 a2 : Option zV} {t : List (Option zV)} {kk jj : Nat} (hd : decode M.2.1 pc = .ok (.astore_n 2, 1)) (hn : Nat.ble 3 M.2.2.1 = true) (hno : zpre (a0 :: a1 :: a2 :: t) 2 = true) (hq : pc + 1 = q) (k : zY M d Q q (a0 :: a1 :: some (zr kk jj) :: t) st σ) : zY M d Q pc (a0 :: a1 :: a2 :: t) (zr kk jj :: st) σ := y_astore_n hd rfl hn hno hq k
theorem y_astoreN_n2 {a0 a1 a2 : Option zV} {t : List (Option zV)} (hd : decode M.2.1 pc = .ok (.astore_n 2, 1)) (hn : Nat.ble 3 M.2.2.1 = true) (hno : zpre (a0 :: a1 :: a2 :: t) 2 = true) (hq : pc + 1 = q) (k : zY M d Q q (a0 :: a1 :: some (zn) :: t) st σ) : zY M d Q pc (a0 :: a1 :: a2 :: t) (zn :: st) σ := y_astoreN_n hd rfl hn hno hq k
theorem y_lstore_n2 {a0 a1 a2 a3 : Option zV} {t : List (Option zV)} {x : Int64} (hd : decode M.2.1 pc = .ok (.lstore_n 2, 1)) (hn : Nat.ble 4 M.2.2.1 = true) (hno : zpre (a0 :: a1 :: a2 :: a3 :: t) 2 = true) (hq : pc + 1 = q) (k : zY M d Q q (a0 :: a1 :: some (zl x) :: none :: t) st σ) : zY M d Q pc (a0 :: a1 :: a2 :: a3 :: t) (zl x :: st) σ := y_lstore_n hd rfl hn hno hq k
theorem y_iinc_2 {a0 a1 : Option zV} {t : List (Option zV)} {n : Int} {x v : Int32} (hd : decode M.2.1 pc = .ok (.iinc 2 n, 3)) (hn : Nat.ble 3 M.2.2.1 = true) (hv : Int32.ofInt n = v) (hno : zpre (a0 :: a1 :: some (zi x) :: t) 2 = true) (hq : pc + 3 = q) (k : zY M d Q q (a0 :: a1 :: some (zi (x + v)) :: t) st σ) : zY M d Q pc (a0 :: a1 :: some (zi x) :: t) st σ := y_iinc hd hn rfl hv hno hq k
theorem y_istore_n3 {a0 a1 a2 a3 : Option zV} {t : List (Option zV)} {x : Int32} (hd : decode M.2.1 pc = .ok (.istore_n 3, 1)) (hn : Nat.ble 4 M.2.2.1 = true) (hno : zpre (a0 :: a1 :: a2 :: a3 :: t) 3 = true) (hq : pc + 1 = q) (k : zY M d Q q (a0 :: a1 :: a2 :: some (zi x) :: t) st σ) : zY M d Q pc (a0 :: a1 :: a2 :: a3 :: t) (zi x :: st) σ := y_istore_n hd rfl hn hno hq k
theorem y_astore_n3 {a0 a1 a2 a3 : Option zV} {t : List (Option zV)} {kk jj : Nat} (hd : decode M.2.1 pc = .ok (.astore_n 3, 1)) (hn : Nat.ble 4 M.2.2.1 = true) (hno : zpre (a0 :: a1 :: a2 :: a3 :: t) 3 = true) (hq : pc + 1 = q) (k : zY M d Q q (a0 :: a1 :: a2 :: some (zr kk jj) :: t) st σ) : zY M d Q pc (a0 :: a1 :: a2 :: a3 :: t) (zr kk jj :: st) σ := y_astore_n hd rfl hn hno hq k
theorem y_astoreN_n3 {a0 a1 a2 a3 : Option zV} {t : List (Option zV)} (hd : decode M.2.1 pc = .ok (.astore_n 3, 1)) (hn : Nat.ble 4 M.2.2.1 = true) (hno : zpre (a0 :: a1 :: a2 :: a3 :: t) 3 = true) (hq : pc + 1 = q) (k : zY M d Q q (a0 :: a1 :: a2 :: some (zn) :: t) st σ) : zY M d Q pc (a0 :: a1 :: a2 :: a3 :: t) (zn :: st) σ := y_astoreN_n hd rfl hn hno hq k
theorem y_lstore_n3 {a0 a1 a2 a3 a4 : Option zV} {t : List (Option zV)} {x : Int64} (hd : decode M.2.1 pc = .ok (.lstore_n 3, 1)) (hn : Nat.ble 5 M.2.2.1 = true) (hno : zpre (a0 :: a1 :: a2 :: a3 :: a4 :: t) 3 = true) (hq : pc + 1 = q) (k : zY M d Q q (a0 :: a1 :: a2 :: some (zl x) :: none :: t) st σ) : zY M d Q pc (a0 :: a1 :: a2 :: a3 :: a4 :: t) (zl x :: st) σ := y_lstore_n hd rfl hn hno hq k
theorem y_iinc_3 {a0 a1 a2 : Option zV} {t : List (Option zV)} {n : Int} {x v : Int32} (hd : decode M.2.1 pc = .ok (.iinc 3 n, 3)) (hn : Nat.ble 4 M.2.2.1 = true) (hv : Int32.ofInt n = v) (hno : zpre (a0 :: a1 :: a2 :: some (zi x) :: t) 3 = true) (hq : pc + 3 = q) (k : zY M d Q q (a0 :: a1 :: a2 :: some (zi (x + v)) :: t) st σ) : zY M d Q pc (a0 :: a1 :: a2 :: some (zi x) :: t) st σ := y_iinc hd hn rfl hv hno hq k
theorem y_istore_4 {a0 a1 a2 a3 a4 : Option zV} {t : List (Option zV)} {x : Int32} (hd : decode M.2.1 pc = .ok (.istore 4, 2)) (hn : Nat.ble 5 M.2.2.1 = true) (hno : zpre (a0 :: a1 :: a2 :: a3 :: a4 :: t) 4 = true) (hq : pc + 2 = q) (k : zY M d Q q (a0 :: a1 :: a2 :: a3 :: some (zi x) :: t) st σ) : zY M d Q pc (a0 :: a1 :: a2 :: a3 :: a4 :: t) (zi x :: st) σ := y_istore hd hn hno hq k
theorem y_astore_4 {a0 a1 a2 a3 a4 : Option zV} {t : List (Option zV)} {kk jj : Nat} (hd : decode M.2.1 pc = .ok (.astore 4, 2)) (hn : Nat.ble 5 M.2.2.1 = true) (hno : zpre (a0 :: a1 :: a2 :: a3 :: a4 :: t) 4 = true) (hq : pc + 2 = q) (k : zY M d Q q (a0 :: a1 :: a2 :: a3 :: some (zr kk jj) :: t) st σ) : zY M d Q pc (a0 :: a1 :: a2 :: a3 :: a4 :: t) (zr kk jj :: st) σ := y_astore hd hn hno hq k
theorem y_astoreN_4 {a0 a1 a2 a3 a4 : Option zV} {t : List (Option zV)} (hd : decode M.2.1 pc = .ok (.astore 4, 2)) (hn : Nat.ble 5 M.2.2.1 = true) (hno : zpre (a0 :: a1 :: a2 :: a3 :: a4 :: t) 4 = true) (hq : pc + 2 = q) (k : zY M d Q q (a0 :: a1 :: a2 :: a3 :: some (zn) :: t) st σ) : zY M d Q pc (a0 :: a1 :: a2 :: a3 :: a4 :: t) (zn :: st) σ := y_astoreN hd hn hno hq k
theorem y_lstore_4 {a0 a1 a2 a3 a4 a5 : Option zV} {t : List (Option zV)} {x : Int64} (hd : decode M.2.1 pc = .ok (.lstore 4, 2)) (hn : Nat.ble 6 M.2.2.1 = true) (hno : zpre (a0 :: a1 :: a2 :: a3 :: a4 :: a5 :: t) 4 = true) (hq : pc + 2 = q) (k : zY M d Q q (a0 :: a1 :: a2 :: a3 :: some (zl x) :: none :: t) st σ) : zY M d Q pc (a0 :: a1 :: a2 :: a3 :: a4 :: a5 :: t) (zl x :: st) σ := y_lstore hd hn hno hq k
theorem y_iinc_4 {a0 a1 a2 a3 : Option zV} {t : List (Option zV)} {n : Int} {x v : Int32} (hd : decode M.2.1 pc = .ok (.iinc 4 n, 3)) (hn : Nat.ble 5 M.2.2.1 = true) (hv : Int32.ofInt n = v) (hno : zpre (a0 :: a1 :: a2 :: a3 :: some (zi x) :: t) 4 = true) (hq : pc + 3 = q) (k : zY M d Q q (a0 :: a1 :: a2 :: a3 :: some (zi (x + v)) :: t) st σ) : zY M d Q pc (a0 :: a1 :: a2 :: a3 :: some (zi x) :: t) st σ := y_iinc hd hn rfl hv hno hq k
theorem y_istore_5 {a0 a1 a2 a3 a4 a5 : Option zV} {t : List (Option zV)} {x : Int32} (hd : decode M.2.1 pc = .ok (.istore 5, 2)) (hn : Nat.ble 6 M.2.2.1 = true) (hno : zpre (a0 :: a1 :: a2 :: a3 :: a4 :: a5 :: t) 5 = true) (hq : pc + 2 = q) (k : zY M d Q q (a0 :: a1 :: a2 :: a3 :: a4 :: some (zi x) :: t) st σ) : zY M d Q pc (a0 :: a1 :: a2 :: a3 :: a4 :: a5 :: t) (zi x :: st) σ := y_istore hd hn hno hq k
theorem y_astore_5 {a0 a1 a2 a3 a4 a5 : Option zV} {t : List (Option zV)} {kk jj : Nat} (hd : decode M.2.1 pc = .ok (.astore 5, 2)) (hn : Nat.ble 6 M.2.2.1 = true) (hno : zpre (a0 :: a1 :: a2 :: a3 :: a4 :: a5 :: t) 5 = true) (hq : pc + 2 = q) (k : zY M d Q q (a0 :: a1 :: a2 :: a3 :: a4 :: some (zr kk jj) :: t) st σ) : zY M d Q pc (a0 :: a1 :: a2 :: a3 :: a4 :: a5 :: t) (zr kk jj :: st) σ := y_astore hd hn hno hq k
theorem y_astoreN_5 {a0 a1 a2 a3 a4 a5 : Option zV} {t : List (Option zV)} (hd : decode M.2.1 pc = .ok (.astore 5, 2)) (hn : Nat.ble 6 M.2.2.1 = true) (hno : zpre (a0 :: a1 :: a2 :: a3 :: a4 :: a5 :: t) 5 = true) (hq : pc + 2 = q) (k : zY M d Q q (a0 :: a1 :: a2 :: a3 :: a4 :: some (zn) :: t) st σ) : zY M d Q pc (a0 :: a1 :: a2 :: a3 :: a4 :: a5 :: t) (zn :: st) σ := y_astoreN hd hn hno hq k
theorem y_lstore_5 {a0 a1 a2 a3 a4 a5 a6 : Option zV} {t : List (Option zV)} {x : Int64} (hd : decode M.2.1 pc = .ok (.lstore 5, 2)) (hn : Nat.ble 7 M.2.2.1 = true) (hno : zpre (a0 :: a1 :: a2 :: a3 :: a4 :: a5 :: a6 :: t) 5 = true) (hq : pc + 2 = q) (k : zY M d Q q (a0 :: a1 :: a2 :: a3 :: a4 :: some (zl x) :: none :: t) st σ) : zY M d Q pc (a0 :: a1 :: a2 :: a3 :: a4 :: a5 :: a6 :: t) (zl x :: st) σ := y_lstore hd hn hno hq k
theorem y_iinc_5 {a0 a1 a2 a3 a4 : Option zV} {t : List (Option zV)} {n : Int} {x v : Int32} (hd : decode M.2.1 pc = .ok (.iinc 5 n, 3)) (hn : Nat.ble 6 M.2.2.1 = true) (hv : Int32.ofInt n = v) (hno : zpre (a0 :: a1 :: a2 :: a3 :: a4 :: some (zi x) :: t) 5 = true) (hq : pc + 3 = q) (k : zY M d Q q (a0 :: a1 :: a2 :: a3 :: a4 :: some (zi (x + v)) :: t) st σ) : zY M d Q pc (a0 :: a1 :: a2 :: a3 :: a4 :: some (zi x) :: t) st σ := y_iinc hd hn rfl hv hno hq k
theorem y_istore_6 {a0 a1 a2 a3 a4 a5 a6 : Option zV} {t : List (Option zV)} {x : Int32} (hd : decode M.2.1 pc = .ok (.istore 6, 2)) (hn : Nat.ble 7 M.2.2.1 = true) (hno : zpre (a0 :: a1 :: a2 :: a3 :: a4 :: a5 :: a6 :: t) 6 = true) (hq : pc + 2 = q) (k : zY M d Q q (a0 :: a1 :: a2 :: a3 :: a4 :: a5 :: some (zi x) :: t) st σ) : zY M d Q pc (a0 :: a1 :: a2 :: a3 :: a4 :: a5 :: a6 :: t) (zi x :: st) σ := y_istore hd hn hno hq k
theorem y_astore_6 {a0 a1 a2 a3 a4 a5 a6 : Option zV} {t : List (Option zV)} {kk jj : Nat} (hd : decode M.2.1 pc = .ok (.astore 6, 2)) (hn : Nat.ble 7 M.2.2.1 = true) (hno : zpre (a0 :: a1 :: a2 :: a3 :: a4 :: a5 :: a6 :: t) 6 = true) (hq : pc + 2 = q) (k : zY M d Q q (a0 :: a1 :: a2 :: a3 :: a4 :: a5 :: some (zr kk jj) :: t) st σ) : zY M d Q pc (a0 :: a1 :: a2 :: a3 :: a4 :: a5 :: a6 :: t) (zr kk jj :: st) σ := y_astore hd hn hno hq k
theorem y_astoreN_6 {a0 a1 a2 a3 a4 a5 a6 : Option zV} {t : List (Option zV)} (hd : decode M.2.1 pc = .ok (.astore 6, 2)) (hn : Nat.ble 7 M.2.2.1 = true) (hno : zpre (a0 :: a1 :: a2 :: a3 :: a4 :: a5 :: a6 :: t) 6 = true) (hq : pc + 2 = q) (k : zY M d Q q (a0 :: a1 :: a2 :: a3 :: a4 :: a5 :: some (zn) :: t) st σ) : zY M d Q pc (a0 :: a1 :: a2 :: a3 :: a4 :: a5 :: a6 :: t) (zn :: st) σ := y_astoreN hd hn hno hq k
theorem y_lstore_6 {a0 a1 a2 a3 a4 a5 a6 a7 : Option zV} {t : List (Option zV)} {x : Int64} (hd : decode M.2.1 pc = .ok (.lstore 6, 2)) (hn : Nat.ble 8 M.2.2.1 = true) (hno : zpre (a0 :: a1 :: a2 :: a3 :: a4 :: a5 :: a6 :: a7 :: t) 6 = true) (hq : pc + 2 = q) (k : zY M d Q q (a0 :: a1 :: a2 :: a3 :: a4 :: a5 :: some (zl x) :: none :: t) st σ) : zY M d Q pc (a0 :: a1 :: a2 :: a3 :: a4 :: a5 :: a6 :: a7 :: t) (zl x :: st) σ := y_lstore hd hn hno hq k
theorem y_iinc_6 {a0 a1 a2 a3 a4 a5 : Option zV} {t : List (Option zV)} {n : Int} {x v : Int32} (hd : decode M.2.1 pc = .ok (.iinc 6 n, 3)) (hn : Nat.ble 7 M.2.2.1 = true) (hv : Int32.ofInt n = v) (hno : zpre (a0 :: a1 :: a2 :: a3 :: a4 :: a5 :: some (zi x) :: t) 6 = true) (hq : pc + 3 = q) (k : zY M d Q q (a0 :: a1 :: a2 :: a3 :: a4 :: a5 :: some (zi (x + v)) :: t) st σ) : zY M d Q pc (a0 :: a1 :: a2 :: a3 :: a4 :: a5 :: some (zi x) :: t) st σ := y_iinc hd hn rfl hv hno hq k
theorem y_istore_7 {a0 a1 a2 a3 a4 a5 a6 a7 : Option zV} {t : List (Option zV)} {x : Int32} (hd : decode M.2.1 pc = .ok (.istore 7, 2)) (hn : Nat.ble 8 M.2.2.1 = true) (hno : zpre (a0 :: a1 :: a2 :: a3 :: a4 :: a5 :: a6 :: a7 :: t) 7 = true) (hq : pc + 2 = q) (k : zY M d Q q (a0 :: a1 :: a2 :: a3 :: a4 :: a5 :: a6 :: some (zi x) :: t) st σ) : zY M d Q pc (a0 :: a1 :: a2 :: a3 :: a4 :: a5 :: a6 :: a7 :: t) (zi x :: st) σ := y_istore hd hn hno hq k
theorem y_astore_7 {a0 a1 a2 a3 a4 a5 a6 a7 : Option zV} {t : List (Option zV)} {kk jj : Nat} (hd : decode M.2.1 pc = .ok (.astore 7, 2)) (hn : Nat.ble 8 M.2.2.1 = true) (hno : zpre (a0 :: a1 :: a2 :: a3 :: a4 :: a5 :: a6 :: a7 :: t) 7 = true) (hq : pc + 2 = q) (k : zY M d Q q (a0 :: a1 :: a2 :: a3 :: a4 :: a5 :: a6 :: some (zr kk jj) :: t) st σ) : zY M d Q pc (a0 :: a1 :: a2 :: a3 :: a4 :: a5 :: a6 :: a7 :: t) (zr kk jj :: st) σ := y_astore hd hn hno hq k
theorem y_astoreN_7 {a0 a1 a2 a3 a4 a5 a6 a7 : Option zV} {t : List (Option zV)} (hd : decode M.2.1 pc = .ok (.astore 7, 2)) (hn : Nat.ble 8 M.2.2.1 = true) (hno : zpre (a0 :: a1 :: a2 :: a3 :: a4 :: a5 :: a6 :: a7 :: t) 7 = true) (hq : pc + 2 = q) (k : zY M d Q q (a0 :: a1 :: a2 :: a3 :: a4 :: a5 :: a6 :: some (zn) :: t) st σ) : zY M d Q pc (a0 :: a1 :: a2 :: a3 :: a4 :: a5 :: a6 :: a7 :: t) (zn :: st) σ := y_astoreN hd hn hno hq k
theorem y_lstore_7 {a0 a1 a2 a3 a4 a5 a6 a7 a8 : Option zV} {t : List (Option zV)} {x : Int64} (hd : decode M.2.1 pc = .ok (.lstore 7, 2)) (hn : Nat.ble 9 M.2.2.1 = true) (hno : zpre (a0 :: a1 :: a2 :: a3 :: a4 :: a5 :: a6 :: a7 :: a8 :: t) 7 = true) (hq : pc + 2 = q) (k : zY M d Q q (a0 :: a1 :: a2 :: a3 :: a4 :: a5 :: a6 :: some (zl x) :: none :: t) st σ) : zY M d Q pc (a0 :: a1 :: a2 :: a3 :: a4 :: a5 :: a6 :: a7 :: a8 :: t) (zl x :: st) σ := y_lstore hd hn hno hq k
theorem y_iinc_7 {a0 a1 a2 a3 a4 a5 a6 : Option zV} {t : List (Option zV)} {n : Int} {x v : Int32} (hd : decode M.2.1 pc = .ok (.iinc 7 n, 3)) (hn : Nat.ble 8 M.2.2.1 = true) (hv : Int32.ofInt n = v) (hno : zpre (a0 :: a1 :: a2 :: a3 :: a4 :: a5 :: a6 :: some (zi x) :: t) 7 = true) (hq : pc + 3 = q) (k : zY M d Q q (a0 :: a1 :: a2 :: a3 :: a4 :: a5 :: a6 :: some (zi (x + v)) :: t) st σ) : zY M d Q pc (a0 :: a1 :: a2 :: a3 :: a4 :: a5 :: a6 :: some (zi x) :: t) st σ := y_iinc hd hn rfl hv hno hq k
theorem y_istore_8 {a0 a1 a2 a3 a4 a5 a6 a7 a8 : Option zV} {t : List (Option zV)} {x : Int32} (hd : decode M.2.1 pc = .ok (.istore 8, 2)) (hn : Nat.ble 9 M.2.2.1 = true) (hno : zpre (a0 :: a1 :: a2 :: a3 :: a4 :: a5 :: a6 :: a7 :: a8 :: t) 8 = true) (hq : pc + 2 = q) (k : zY M d Q q (a0 :: a1 :: a2 :: a3 :: a4 :: a5 :: a6 :: a7 :: some (zi x) :: t) st σ) : zY M d Q pc (a0 :: a1 :: a2 :: a3 :: a4 :: a5 :: a6 :: a7 :: a8 :: t) (zi x :: st) σ := y_istore hd hn hno hq k
theorem y_astore_8 {a0 a1 a2 a3 a4 a5 a6 a7 a8 : Option zV} {t : List (Option zV)} {kk jj : Nat} (hd : decode M.2.1 pc = .ok (.astore 8, 2)) (hn : Nat.ble 9 M.2.2.1 = true) (hno : zpre (a0 :: a1 :: a2 :: a3 :: a4 :: a5 :: a6 :: a7 :: a8 :: t) 8 = true) (hq : pc + 2 = q) (k : zY M d Q q (a0 :: a1 :: a2 :: a3 :: a4 :: a5 :: a6 :: a7 :: some (zr kk jj) :: t) st σ) : zY M d Q pc (a0 :: a1 :: a2 :: a3 :: a4 :: a5 :: a6 :: a7 :: a8 :: t) (zr kk jj :: st) σ := y_astore hd hn hno hq k
theorem y_astoreN_8 {a0 a1 a2 a3 a4 a5 a6 a7 a8 : Option zV} {t : List (Option zV)} (hd : decode M.2.1 pc = .ok (.astore 8, 2)) (hn : Nat.ble 9 M.2.2.1 = true) (hno : zpre (a0 :: a1 :: a2 :: a3 :: a4 :: a5 :: a6 :: a7 :: a8 :: t) 8 = true) (hq : pc + 2 = q) (k : zY M d Q q (a0 :: a1 :: a2 :: a3 :: a4 :: a5 :: a6 :: a7 :: some (zn) :: t) st σ) : zY M d Q pc (a0 :: a1 :: a2 :: a3 :: a4 :: a5 :: a6 :: a7 :: a8 :: t) (zn :: st) σ := y_astoreN hd hn hno hq k
theorem y_lstore_8 {a0 a1 a2 a3 a4 a5 a6 a7 a8 a9 : Option zV} {t : List (Option zV)} {x : Int64} (hd : decode M.2.1 pc = .ok (.lstore 8, 2)) (hn : Nat.ble 10 M.2.2.1 = true) (hno : zpre (a0 :: a1 :: a2 :: a3 :: a4 :: a5 :: a6 :: a7 :: a8 :: a9 :: t) 8 = true) (hq : pc + 2 = q) (k : zY M d Q q (a0 :: a1 :: a2 :: a3 :: a4 :: a5 :: a6 :: a7 :: some (zl x) :: none :: t) st σ) : zY M d Q pc (a0 :: a1 :: a2 :: a3 :: a4 :: a5 :: a6 :: a7 :: a8 :: a9 :: t) (zl x :: st) σ := y_lstore hd hn hno hq k
theorem y_iinc_8 {a0 a1 a2 a3 a4 a5 a6 a7 : Option zV} {t : List (Option zV)} {n : Int} {x v : Int32} (hd : decode M.2.1 pc = .ok (.iinc 8 n, 3)) (hn : Nat.ble 9 M.2.2.1 = true) (hv : Int32.ofInt n = v) (hno : zpre (a0 :: a1 :: a2 :: a3 :: a4 :: a5 :: a6 :: a7 :: some (zi x) :: t) 8 = true) (hq : pc + 3 = q) (k : zY M d Q q (a0 :: a1 :: a2 :: a3 :: a4 :: a5 :: a6 :: a7 :: some (zi (x + v)) :: t) st σ) : zY M d Q pc (a0 :: a1 :: a2 :: a3 :: a4 :: a5 :: a6 :: a7 :: some (zi x) :: t) st σ := y_iinc hd hn rfl hv hno hq k
theorem y_istore_9 {a0 a1 a2 a3 a4 a5 a6 a7 a8 a9 : Option zV} {t : List (Option zV)} {x : Int32} (hd : decode M.2.1 pc = .ok (.istore 9, 2)) (hn : Nat.ble 10 M.2.2.1 = true) (hno : zpre (a0 :: a1 :: a2 :: a3 :: a4 :: a5 :: a6 :: a7 :: a8 :: a9 :: t) 9 = true) (hq : pc + 2 = q) (k : zY M d Q q (a0 :: a1 :: a2 :: a3 :: a4 :: a5 :: a6 :: a7 :: a8 :: some (zi x) :: t) st σ) : zY M d Q pc (a0 :: a1 :: a2 :: a3 :: a4 :: a5 :: a6 :: a7 :: a8 :: a9 :: t) (zi x :: st) σ := y_istore hd hn hno hq k
theorem y_astore_9 {a0 a1 a2 a3 a4 a5 a6 a7 a8 a9 : Option zV} {t : List (Option zV)} {kk jj : Nat} (hd : decode M.2.1 pc = .ok (.astore 9, 2)) (hn : Nat.ble 10 M.2.2.1 = true) (hno : zpre (a0 :: a1 :: a2 :: a3 :: a4 :: a5 :: a6 :: a7 :: a8 :: a9 :: t) 9 = true) (hq : pc + 2 = q) (k : zY M d Q q (a0 :: a1 :: a2 :: a3 :: a4 :: a5 :: a6 :: a7 :: a8 :: some (zr kk jj) :: t) st σ) : zY M d Q pc (a0 :: a1 :: a2 :: a3 :: a4 :: a5 :: a6 :: a7 :: a8 :: a9 :: t) (zr kk jj :: st) σ := y_astore hd hn hno hq k
theorem y_astoreN_9 {a0 a1 a2 a3 a4 a5 a6 a7 a8 a9 : Option zV} {t : List (Option zV)} (hd : decode M.2.1 pc = .ok (.astore 9, 2)) (hn : Nat.ble 10 M.2.2.1 = true) (hno : zpre (a0 :: a1 :: a2 :: a3 :: a4 :: a5 :: a6 :: a7 :: a8 :: a9 :: t) 9 = true) (hq : pc + 2 = q) (k : zY M d Q q (a0 :: a1 :: a2 :: a3 :: a4 :: a5 :: a6 :: a7 :: a8 :: some (zn) :: t) st σ) : zY M d Q pc (a0 :: a1 :: a2 :: a3 :: a4 :: a5 :: a6 :: a7 :: a8 :: a9 :: t) (zn :: st) σ := y_astoreN hd hn hno hq k
theorem y_lstore_9 {a0 a1 a2 a3 a4 a5 a6 a7 a8 a9 a10 : Option zV} {t : List (Option zV)} {x : Int64} (hd : decode M.2.1 pc = .ok (.lstore 9, 2)) (hn : Nat.ble 11 M.2.2.1 = true) (hno : zpre (a0 :: a1 :: a2 :: a3 :: a4 :: a5 :: a6 :: a7 :: a8 :: a9 :: a10 :: t) 9 = true) (hq : pc + 2 = q) (k : zY M d Q q (a0 :: a1 :: a2 :: a3 :: a4 :: a5 :: a6 :: a7 :: a8 :: some (zl x) :: none :: t) st σ) : zY M d Q pc (a0 :: a1 :: a2 :: a3 :: a4 :: a5 :: a6 :: a7 :: a8 :: a9 :: a10 :: t) (zl x :: st) σ := y_lstore hd hn hno hq k
theorem y_iinc_9 {a0 a1 a2 a3 a4 a5 a6 a7 a8 : Option zV} {t : List (Option zV)} {n : Int} {x v : Int32} (hd : decode M.2.1 pc = .ok (.iinc 9 n, 3)) (hn : Nat.ble 10 M.2.2.1 = true) (hv : Int32.ofInt n = v) (hno : zpre (a0 :: a1 :: a2 :: a3 :: a4 :: a5 :: a6 :: a7 :: a8 :: some (zi x) :: t) 9 = true) (hq : pc + 3 = q) (k : zY M d Q q (a0 :: a1 :: a2 :: a3 :: a4 :: a5 :: a6 :: a7 :: a8 :: some (zi (x + v)) :: t) st σ) : zY M d Q pc (a0 :: a1 :: a2 :: a3 :: a4 :: a5 :: a6 :: a7 :: a8 :: some (zi x) :: t) st σ := y_iinc hd hn rfl hv hno hq k
theorem y_istore_10 {a0 a1 a2 a3 a4 a5 a6 a7 a8 a9 a10 : Option zV} {t : List (Option zV)} {x : Int32} (hd : decode M.2.1 pc = .ok (.istore 10, 2)) (hn : Nat.ble 11 M.2.2.1 = true) (hno : zpre (a0 :: a1 :: a2 :: a3 :: a4 :: a5 :: a6 :: a7 :: a8 :: a9 :: a10 :: t) 10 = true) (hq : pc + 2 = q) (k : zY M d Q q (a0 :: a1 :: a2 :: a3 :: a4 :: a5 :: a6 :: a7 :: a8 :: a9 :: some (zi x) :: t) st σ) : zY M d Q pc (a0 :: a1 :: a2 :: a3 :: a4 :: a5 :: a6 :: a7 :: a8 :: a9 :: a10 :: t) (zi x :: st) σ := y_istore hd hn hno hq k
theorem y_astore_10 {a0 a1 a2 a3 a4 a5 a6 a7 a8 a9 a10 : Option zV} {t : List (Option zV)} {kk jj : Nat} (hd : decode M.2.1 pc = .ok (.astore 10, 2)) (hn : Nat.ble 11 M.2.2.1 = true) (hno : zpre (a0 :: a1 :: a2 :: a3 :: a4 :: a5 :: a6 :: a7 :: a8 :: a9 :: a10 :: t) 10 = true) (hq : pc + 2 = q) (k : zY M d Q q (a0 :: a1 :: a2 :: a3 :: a4 :: a5 :: a6 :: a7 :: a8 :: a9 :: some (zr kk jj) :: t) st σ) : zY M d Q pc (a0 :: a1 :: a2 :: a3 :: a4 :: a5 :: a6 :: a7 :: a8 :: a9 :: a10 :: t) (zr kk jj :: st) σ := y_astore hd hn hno hq k
theorem y_astoreN_10 {a0 a1 a2 a3 a4 a5 a6 a7 a8 a9 a10 : Option zV} {t : List (Option zV)} (hd : decode M.2.1 pc = .ok (.astore 10, 2)) (hn : Nat.ble 11 M.2.2.1 = true) (hno : zpre (a0 :: a1 :: a2 :: a3 :: a4 :: a5 :: a6 :: a7 :: a8 :: a9 :: a10 :: t) 10 = true) (hq : pc + 2 = q) (k : zY M d Q q (a0 :: a1 :: a2 :: a3 :: a4 :: a5 :: a6 :: a7 :: a8 :: a9 :: some (zn) :: t) st σ) : zY M d Q pc (a0 :: a1 :: a2 :: a3 :: a4 :: a5 :: a6 :: a7 :: a8 :: a9 :: a10 :: t) (zn :: st) σ := y_astoreN hd hn hno hq k
theorem y_lstore_10 {a0 a1 a2 a3 a4 a5 a6 a7 a8 a9 a10 a11 : Option zV} {t : List (Option zV)} {x : Int64} (hd : decode M.2.1 pc = .ok (.lstore 10, 2)) (hn : Nat.ble 12 M.2.2.1 = true) (hno : zpre (a0 :: a1 :: a2 :: a3 :: a4 :: a5 :: a6 :: a7 :: a8 :: a9 :: a10 :: a11 :: t) 10 = true) (hq : pc + 2 = q) (k : zY M d Q q (a0 :: a1 :: a2 :: a3 :: a4 :: a5 :: a6 :: a7 :: a8 :: a9 :: some (zl x) :: none :: t) st σ) : zY M d Q pc (a0 :: a1 :: a2 :: a3 :: a4 :: a5 :: a6 :: a7 :: a8 :: a9 :: a10 :: a11 :: t) (zl x :: st) σ := y_lstore hd hn hno hq k
theorem y_iinc_10 {a0 a1 a2 a3 a4 a5 a6 a7 a8 a9 : Option zV} {t : List (Option zV)} {n : Int} {x v : Int32} (hd : decode M.2.1 pc = .ok (.iinc 10 n, 3)) (hn : Nat.ble 11 M.2.2.1 = true) (hv : Int32.ofInt n = v) (hno : zpre (a0 :: a1 :: a2 :: a3 :: a4 :: a5 :: a6 :: a7 :: a8 :: a9 :: some (zi x) :: t) 10 = true) (hq : pc + 3 = q) (k : zY M d Q q (a0 :: a1 :: a2 :: a3 :: a4 :: a5 :: a6 :: a7 :: a8 :: a9 :: some (zi (x + v)) :: t) st σ) : zY M d Q pc (a0 :: a1 :: a2 :: a3 :: a4 :: a5 :: a6 :: a7 :: a8 :: a9 :: some (zi x) :: t) st σ := y_iinc hd hn rfl hv hno hq k
theorem y_istore_11 {a0 a1 a2 a3 a4 a5 a6 a7 a8 a9 a10 a11 : Option zV} {t : List (Option zV)} {x : Int32} (hd : decode M.2.1 pc = .ok (.istore 11, 2)) (hn : Nat.ble 12 M.2.2.1 = true) (hno : zpre (a0 :: a1 :: a2 :: a3 :: a4 :: a5 :: a6 :: a7 :: a8 :: a9 :: a10 :: a11 :: t) 11 = true) (hq : pc + 2 = q) (k : zY M d Q q (a0 :: a1 :: a2 :: a3 :: a4 :: a5 :: a6 :: a7 :: a8 :: a9 :: a10 :: some (zi x) :: t) st σ) : zY M d Q pc (a0 :: a1 :: a2 :: a3 :: a4 :: a5 :: a6 :: a7 :: a8 :: a9 :: a10 :: a11 :: t) (zi x :: st) σ := y_istore hd hn hno hq k
theorem y_astore_11 {a0 a1 a2 a3 a4 a5 a6 a7 a8 a9 a10 a11 : Option zV} {t : List (Option zV)} {kk jj : Nat} (hd : decode M.2.1 pc = .ok (.astore 11, 2)) (hn : Nat.ble 12 M.2.2.1 = true) (hno : zpre (a0 :: a1 :: a2 :: a3 :: a4 :: a5 :: a6 :: a7 :: a8 :: a9 :: a10 :: a11 :: t) 11 = true) (hq : pc + 2 = q) (k : zY M d Q q (a0 :: a1 :: a2 :: a3 :: a4 :: a5 :: a6 :: a7 :: a8 :: a9 :: a10 :: some (zr kk jj) :: t) st σ) : zY M d Q pc (a0 :: a1 :: a2 :: a3 :: a4 :: a5 :: a6 :: a7 :: a8 :: a9 :: a10 :: a11 :: t) (zr kk jj :: st) σ := y_astore hd hn hno hq k
theorem y_astoreN_11 {a0 a1 a2 a3 a4 a5 a6 a7 a8 a9 a10 a11 : Option zV} {t : List (Option zV)} (hd : decode M.2.1 pc = .ok (.astore 11, 2)) (hn : Nat.ble 12 M.2.2.1 = true) (hno : zpre (a0 :: a1 :: a2 :: a3 :: a4 :: a5 :: a6 :: a7 :: a8 :: a9 :: a10 :: a11 :: t) 11 = true) (hq : pc + 2 = q) (k : zY M d Q q (a0 :: a1 :: a2 :: a3 :: a4 :: a5 :: a6 :: a7 :: a8 :: a9 :: a10 :: some (zn) :: t) st σ) : zY M d Q pc (a0 :: a1 :: a2 :: a3 :: a4 :: a5 :: a6 :: a7 :: a8 :: a9 :: a10 :: a11 :: t) (zn :: st) σ := y_astoreN hd hn hno hq k
theorem y_lstore_11 {a0 a1 a2 a3 a4 a5 a6 a7 a8 a9 a10 a11 a12 : Option zV} {t : List (Option zV)} {x : Int64} (hd : decode M.2.1 pc = .ok (.lstore 11, 2)) (hn : Nat.ble 13 M.2.2.1 = true) (hno : zpre (a0 :: a1 :: a2 :: a3 :: a4 :: a5 :: a6 :: a7 :: a8 :: a9 :: a10 :: a11 :: a12 :: t) 11 = true) (hq : pc + 2 = q) (k : zY M d Q q (a0 :: a1 :: a2 :: a3 :: a4 :: a5 :: a6 :: a7 :: a8 :: a9 :: a10 :: some (zl x) :: none :: t) st σ) : zY M d Q pc (a0 :: a1 :: a2 :: a3 :: a4 :: a5 :: a6 :: a7 :: a8 :: a9 :: a10 :: a11 :: a12 :: t) (zl x :: st) σ := y_lstore hd hn hno hq k
theorem y_iinc_11 {a0 a1 a2 a3 a4 a5 a6 a7 a8 a9 a10 : Option zV} {t : List (Option zV)} {n : Int} {x v : Int32} (hd : decode M.2.1 pc = .ok (.iinc 11 n, 3)) (hn : Nat.ble 12 M.2.2.1 = true) (hv : Int32.ofInt n = v) (hno : zpre (a0 :: a1 :: a2 :: a3 :: a4 :: a5 :: a6 :: a7 :: a8 :: a9 :: a10 :: some (zi x) :: t) 11 = true) (hq : pc + 3 = q) (k : zY M d Q q (a0 :: a1 :: a2 :: a3 :: a4 :: a5 :: a6 :: a7 :: a8 :: a9 :: a10 :: some (zi (x + v)) :: t) st σ) : zY M d Q pc (a0 :: a1 :: a2 :: a3 :: a4 :: a5 :: a6 :: a7 :: a8 :: a9 :: a10 :: some (zi x) :: t) st σ := y_iinc hd hn rfl hv hno hq k
theorem y_istore_12 {a0 a1 a2 a3 a4 a5 a6 a7 a8 a9 a10 a11 a12 : Option zV} {t : List (Option zV)} {x : Int32} (hd : decode M.2.1 pc = .ok (.istore 12, 2)) (hn : Nat.ble 13 M.2.2.1 = true) (hno : zpre (a0 :: a1 :: a2 :: a3 :: a4 :: a5 :: a6 :: a7 :: a8 :: a9 :: a10 :: a11 :: a12 :: t) 12 = true) (hq : pc + 2 = q) (k : zY M d Q q (a0 :: a1 :: a2 :: a3 :: a4 :: a5 :: a6 :: a7 :: a8 :: a9 :: a10 :: a11 :: some (zi x) :: t) st σ) : zY M d Q pc (a0 :: a1 :: a2 :: a3 :: a4 :: a5 :: a6 :: a7 :: a8 :: a9 :: a10 :: a11 :: a12 :: t) (zi x :: st) σ := y_istore hd hn hno hq k
theorem y_astore_12 {a0 a1 a2 a3 a4 a5 a6 a7 a8 a9 a10 a11 a12 : Option zV} {t : List (Option zV)} {kk jj : Nat} (hd : decode M.2.1 pc = .ok (.astore 12, 2)) (hn : Nat.ble 13 M.2.2.1 = true) (hno : zpre (a0 :: a1 :: a2 :: a3 :: a4 :: a5 :: a6 :: a7 :: a8 :: a9 :: a10 :: a11 :: a12 :: t) 12 = true) (hq : pc + 2 = q) (k : zY M d Q q (a0 :: a1 :: a2 :: a3 :: a4 :: a5 :: a6 :: a7 :: a8 :: a9 :: a10 :: a11 :: some (zr kk jj) :: t) st σ) : zY M d Q pc (a0 :: a1 :: a2 :: a3 :: a4 :: a5 :: a6 :: a7 :: a8 :: a9 :: a10 :: a11 :: a12 :: t) (zr kk jj :: st) σ := y_astore hd hn hno hq k
theorem y_astoreN_12 {a0 a1 a2 a3 a4 a5 a6 a7 a8 a9 a10 a11 a12 : Option zV} {t : List (Option zV)} (hd : decode M.2.1 pc = .ok (.astore 12, 2)) (hn : Nat.ble 13 M.2.2.1 = true) (hno : zpre (a0 :: a1 :: a2 :: a3 :: a4 :: a5 :: a6 :: a7 :: a8 :: a9 :: a10 :: a11 :: a12 :: t) 12 = true) (hq : pc + 2 = q) (k : zY M d Q q (a0 :: a1 :: a2 :: a3 :: a4 :: a5 :: a6 :: a7 :: a8 :: a9 :: a10 :: a11 :: some (zn) :: t) st σ) : zY M d Q pc (a0 :: a1 :: a2 :: a3 :: a4 :: a5 :: a6 :: a7 :: a8 :: a9 :: a10 :: a11 :: a12 :: t) (zn :: st) σ := y_astoreN hd hn hno hq k
theorem y_lstore_12 {a0 a1 a2 a3 a4 a5 a6 a7 a8 a9 a10 a11 a12 a13 : Option zV} {t : List (Option zV)} {x : Int64} (hd : decode M.2.1 pc = .ok (.lstore 12, 2)) (hn : Nat.ble 14 M.2.2.1 = true) (hno : zpre (a0 :: a1 :: a2 :: a3 :: a4 :: a5 :: a6 :: a7 :: a8 :: a9 :: a10 :: a11 :: a12 :: a13 :: t) 12 = true) (hq : pc + 2 = q) (k : zY M d Q q (a0 :: a1 :: a2 :: a3 :: a4 :: a5 :: a6 :: a7 :: a8 :: a9 :: a10 :: a11 :: some (zl x) :: none :: t) st σ) : zY M d Q pc (a0 :: a1 :: a2 :: a3 :: a4 :: a5 :: a6 :: a7 :: a8 :: a9 :: a10 :: a11 :: a12 :: a13 :: t) (zl x :: st) σ := y_lstore hd hn hno hq k
theorem y_iinc_12 {a0 a1 a2 a3 a4 a5 a6 a7 a8 a9 a10 a11 : Option zV} {t : List (Option zV)} {n : Int} {x v : Int32} (hd : decode M.2.1 pc = .ok (.iinc 12 n, 3)) (hn : Nat.ble 13 M.2.2.1 = true) (hv : Int32.ofInt n = v) (hno : zpre (a0 :: a1 :: a2 :: a3 :: a4 :: a5 :: a6 :: a7 :: a8 :: a9 :: a10 :: a11 :: some (zi x) :: t) 12 = true) (hq : pc + 3 = q) (k : zY M d Q q (a0 :: a1 :: a2 :: a3 :: a4 :: a5 :: a6 :: a7 :: a8 :: a9 :: a10 :: a11 :: some (zi (x + v)) :: t) st σ) : zY M d Q pc (a0 :: a1 :: a2 :: a3 :: a4 :: a5 :: a6 :: a7 :: a8 :: a9 :: a10 :: a11 :: some (zi x) :: t) st σ := y_iinc hd hn rfl hv hno hq k
theorem y_istore_13 {a0 a1 a2 a3 a4 a5 a6 a7 a8 a9 a10 a11 a12 a13 : Option zV} {t : List (Option zV)} {x : Int32} (hd : decode M.2.1 pc = .ok (.istore 13, 2)) (hn : Nat.ble 14 M.2.2.1 = true) (hno : zpre (a0 :: a1 :: a2 :: a3 :: a4 :: a5 :: a6 :: a7 :: a8 :: a9 :: a10 :: a11 :: a12 :: a13 :: t) 13 = true) (hq : pc + 2 = q) (k : zY M d Q q (a0 :: a1 :: a2 :: a3 :: a4 :: a5 :: a6 :: a7 :: a8 :: a9 :: a10 :: a11 :: a12 :: some (zi x) :: t) st σ) : zY M d Q pc (a0 :: a1 :: a2 :: a3 :: a4 :: a5 :: a6 :: a7 :: a8 :: a9 :: a10 :: a11 :: a12 :: a13 :: t) (zi x :: st) σ := y_istore hd hn hno hq k
theorem y_astore_13 {a0 a1 a2 a3 a4 a5 a6 a7 a8 a9 a10 a11 a12 a13 : Option zV} {t : List (Option zV)} {kk jj : Nat} (hd : decode M.2.1 pc = .ok (.astore 13, 2)) (hn : Nat.ble 14 M.2.2.1 = true) (hno : zpre (a0 :: a1 :: a2 :: a3 :: a4 :: a5 :: a6 :: a7 :: a8 :: a9 :: a10 :: a11 :: a12 :: a13 :: t) 13 = true) (hq : pc + 2 = q) (k : zY M d Q q (a0 :: a1 :: a2 :: a3 :: a4 :: a5 :: a6 :: a7 :: a8 :: a9 :: a10 :: a11 :: a12 :: some (zr kk jj) :: t) st σ) : zY M d Q pc (a0 :: a1 :: a2 :: a3 :: a4 :: a5 :: a6 :: a7 :: a8 :: a9 :: a10 :: a11 :: a12 :: a13 :: t) (zr kk jj :: st) σ := y_astore hd hn hno hq k
theorem y_astoreN_13 {a0 a1 a2 a3 a4 a5 a6 a7 a8 a9 a10 a11 a12 a13 : Option zV} {t : List (Option zV)} (hd : decode M.2.1 pc = .ok (.astore 13, 2)) (hn : Nat.ble 14 M.2.2.1 = true) (hno : zpre (a0 :: a1 :: a2 :: a3 :: a4 :: a5 :: a6 :: a7 :: a8 :: a9 :: a10 :: a11 :: a12 :: a13 :: t) 13 = true) (hq : pc + 2 = q) (k : zY M d Q q (a0 :: a1 :: a2 :: a3 :: a4 :: a5 :: a6 :: a7 :: a8 :: a9 :: a10 :: a11 :: a12 :: some (zn) :: t) st σ) : zY M d Q pc (a0 :: a1 :: a2 :: a3 :: a4 :: a5 :: a6 :: a7 :: a8 :: a9 :: a10 :: a11 :: a12 :: a13 :: t) (zn :: st) σ := y_astoreN hd hn hno hq k
theorem y_lstore_13 {a0 a1 a2 a3 a4 a5 a6 a7 a8 a9 a10 a11 a12 a13 a14 : Option zV} {t : List (Option zV)} {x : Int64} (hd : decode M.2.1 pc = .ok (.lstore 13, 2)) (hn : Nat.ble 15 M.2.2.1 = true) (hno : zpre (a0 :: a1 :: a2 :: a3 :: a4 :: a5 :: a6 :: a7 :: a8 :: a9 :: a10 :: a11 :: a12 :: a13 :: a14 :: t) 13 = true) (hq : pc + 2 = q) (k : zY M d Q q (a0 :: a1 :: a2 :: a3 :: a4 :: a5 :: a6 :: a7 :: a8 :: a9 :: a10 :: a11 :: a12 :: some (zl x) :: none :: t) st σ) : zY M d Q pc (a0 :: a1 :: a2 :: a3 :: a4 :: a5 :: a6 :: a7 :: a8 :: a9 :: a10 :: a11 :: a12 :: a13 :: a14 :: t) (zl x :: st) σ := y_lstore hd hn hno hq k
theorem y_iinc_13 {a0 a1 a2 a3 a4 a5 a6 a7 a8 a9 a10 a11 a12 : Option zV} {t : List (Option zV)} {n : Int} {x v : Int32} (hd : decode M.2.1 pc = .ok (.iinc 13 n, 3)) (hn : Nat.ble 14 M.2.2.1 = true) (hv : Int32.ofInt n = v) (hno : zpre (a0 :: a1 :: a2 :: a3 :: a4 :: a5 :: a6 :: a7 :: a8 :: a9 :: a10 :: a11 :: a12 :: some (zi x) :: t) 13 = true) (hq : pc + 3 = q) (k : zY M d Q q (a0 :: a1 :: a2 :: a3 :: a4 :: a5 :: a6 :: a7 :: a8 :: a9 :: a10 :: a11 :: a12 :: some (zi (x + v)) :: t) st σ) : zY M d Q pc (a0 :: a1 :: a2 :: a3 :: a4 :: a5 :: a6 :: a7 :: a8 :: a9 :: a10 :: a11 :: a12 :: some (zi x) :: t) st σ := y_iinc hd hn rfl hv hno hq k
end
end
section
/-! ===== fields, arrays, calls, returns ===== -/
/-- the link of a field: entry idx of class own's pool is field f of the objects of kind k -/
def zFK (own : String) (idx k f : Nat) : Prop := k < 6 ∧ f < (zcl k).2.2 ∧ Cond.fieldLink own idx ((zcl k).2.1 f).1 ((zcl k).2.1 f).2.1 ((zcl k).2.1 f).2.2.1 ∈ ztbl
section
variable {M : zM} {d : Nat} {Q : zQ} {pc q : Nat} {ls : List (Option zV)} {st : List zV} {σ : zSt}
theorem y_get {k j f idx : Nat} {v : zV} (hF : zFK M.1.cls idx k f) (hk : zok k j) (hv : (zf σ k j)[f]? = some v) (hd : decode M.2.1 pc = .ok (.getfield idx, 3)) (hq : pc + 3 = q) (kk : zY M d Q q ls (v :: st) σ) : zY M d Q pc ls (zr k j :: st) σ := by
  subst hq
  intro G ad A p l e R s m args below meth c cells slots Z C H locs lsc hP hS hL
  obtain ⟨q0, h0⟩ := zids_at hk
  have hz := zw_at (G := G) (ad := ad) (σ := σ) h0
  rw [ze_obj hF.1] at hz
  exact va_get (v := cz ad v) C.1 C.2.1 C.2.2.2.2.1 (zin k) C.2.2.2.1 C.2.2.2.2.2.2.2.2.1 hP q0 hz (zcl_at k) f hF.2.1 (C.2.2.2.2.1 _ hF.2.2) (fun _ h => h) (by rw [List.getElem?_map, hv]; rfl) hd (kk G ad A p l e R s m args below meth c cells slots Z C H locs lsc hP hS hL)
theorem y_putI {k j f idx : Nat} {x : Int32} (hF : zFK M.1.cls idx k f) (hI : (k, f) ∈ zfI) (hk : zok k j) (hd : decode M.2.1 pc = .ok (.putfield idx, 3)) (hq : pc + 3 = q) (kk : zY M d Q q ls st (sI σ k j f x)) : zY M d Q pc ls (zi x :: zr k j :: st) σ := by
  subst hq
  intro G ad A p l e R s m args below meth c cells slots Z C H locs lsc hP hS hL
  obtain ⟨q0, h0⟩ := zids_at hk
  have hz := zw_at (G := G) (ad := ad) (σ := σ) h0
  rw [ze_obj hF.1] at hz
  obtain ⟨t1, t2, t3, -⟩ := zfI_ty hI
  refine va_put (v := .int x) (ty := .int) C.1 C.2.1 C.2.2.2.2.1 (zin k) (ztyp k) (zhty k) (zhnm k) C.2.2.2.1 C.2.2.2.2.2.2.2.2.1 hP (zD σ C.2.2.2.2.2.2.1 C.2.2.2.2.2.2.2.1) hS q0 hz (zcl_at k) f hF.2.1 (C.2.2.2.2.1 _ hF.2.2) (fun _ h => h) t2 t3 rfl rfl (by rw [List.length_map, zf_len]; exact t1) hd (fun H1 locs1 hP1 hD1 hS1 => ?_)
  have e1 : (.inr (zc k, ((zf σ k j).map (cz ad)).set f (.int x)) : va_E) = ze G ad (sI σ k j f x) k j := by
    rw [ze_obj hF.1, zf_sI hI, List.map_set]
    rfl
  rw [e1, zw_set h0 (fun k' j' ho hne => ze_sI_ne σ j x hne hF.1 ho)] at hP1
  exact kk G ad A p l e R s m args below meth c cells slots Z C H1 locs1 lsc hP1 hS1 hL
theorem y_putL {k j f idx : Nat} {x : Int64} (hF : zFK M.1.cls idx k f) (hI : (k, f) ∈ zfL) (hk : zok k j) (hd : decode M.2.1 pc = .ok (.putfield idx, 3)) (hq : pc + 3 = q) (kk : zY M d Q q ls st (sL σ k j f x)) : zY M d Q pc ls (zl x :: zr k j :: st) σ := by
  subst hq
  intro G ad A p l e R s m args below meth c cells slots Z C H locs lsc hP hS hL
  obtain ⟨q0, h0⟩ := zids_at hk
  have hz := zw_at (G := G) (ad := ad) (σ := σ) h0
  rw [ze_obj hF.1] at hz
  obtain ⟨t1, t2, t3, -⟩ := zfL_ty hI
  refine va_put (v := .long x) (ty := .long) C.1 C.2.1 C.2.2.2.2.1 (zin k) (ztyp k) (zhty k) (zhnm k) C.2.2.2.1 C.2.2.2.2.2.2.2.2.1 hP (zD σ C.2.2.2.2.2.2.1 C.2.2.2.2.2.2.2.1) hS q0 hz (zcl_at k) f hF.2.1 (C.2.2.2.2.1 _ hF.2.2) (fun _ h => h) t2 t3 rfl rfl (by rw [List.length_map, zf_len]; exact t1) hd (fun H1 locs1 hP1 hD1 hS1 => ?_)
  have e1 : (.inr (zc k, ((zf σ k j).map (cz ad)).set f (.long x)) : va_E) = ze G ad (sL σ k j f x) k j := by
    rw [ze_obj hF.1, zf_sL hI, List.map_set]
    rfl
  rw [e1, zw_set h0 (fun k' j' ho hne => ze_sL_ne σ j x hne hF.1 ho)] at hP1
  exact kk G ad A p l e R s m args below meth c cells slots Z C H1 locs1 lsc hP1 hS1 hL
theorem y_iald {a : Nat} {i : Int32} (ha : a < 33) (hin : vp_in i (zlen a)) (hd : decode M.2.1 pc = .ok (.iaload, 1)) (hq : pc + 1 = q) (kk : zY M d Q q ls (zi (fA σ a i.toNatClampNeg) :: st) σ) : zY M d Q pc ls (zi i :: zr 6 a :: st) σ := by
  subst hq
  intro G ad A p l e R s m args below meth c cells slots Z C H locs lsc hP hS hL
  obtain ⟨q0, h0⟩ := zids_at (k := 6) (j := a) ⟨by decide, ha⟩
  have hz := zw_at (G := G) (ad := ad) (σ := σ) h0
  exact va_iald C.1 C.2.1 C.2.2.2.2.2.2.2.2.1 hP q0 0 hz rfl hin hd (kk G ad A p l e R s m args below meth c cells slots Z C H locs lsc hP hS hL)
theorem y_iast {a : Nat} {i x : Int32} (ha : a < 33) (hin : vp_in i (zlen a)) (hd : decode M.2.1 pc = .ok (.iastore, 1)) (hq : pc + 1 = q) (kk : zY M d Q q ls st (sA σ a (upd (fA σ a) i.toNatClampNeg x))) : zY M d Q pc ls (zi x :: zi i :: zr 6 a :: st) σ := by
  subst hq
  intro G ad A p l e R s m args below meth c cells slots Z C H locs lsc hP hS hL
  obtain ⟨q0, h0⟩ := zids_at (k := 6) (j := a) ⟨by decide, ha⟩
  have hz := zw_at (G := G) (ad := ad) (σ := σ) h0
  refine va_iast C.1 C.2.1 C.2.2.2.2.2.2.2.2.1 hP (zD σ C.2.2.2.2.2.2.1 C.2.2.2.2.2.2.2.1) hS q0 0 hz rfl hin hd (fun H1 locs1 hP1 hD1 hS1 => ?_)
  have e1 : (.inl (G.2.1, zlen a, .inl (upd (fA σ a) i.toNatClampNeg x)) : va_E) = ze G ad (sA σ a (upd (fA σ a) i.toNatClampNeg x)) 6 a := by
    show _ = (.inl (G.2.1, zlen a, .inl (fA (sA σ a (upd (fA σ a) i.toNatClampNeg x)) a)) : va_E)
    rw [fA_sA, if_pos rfl]
  rw [e1, zw_set h0 (fun k' j' ho hne => ze_sA_ne σ a _ ha hne ho)] at hP1
  exact kk G ad A p l e R s m args below meth c cells slots Z C H1 locs1 lsc hP1 hS1 hL
theorem y_bald {i : Int32} (hin : vp_in i 240) (hd : decode M.2.1 pc = .ok (.baload, 1)) (hq : pc + 1 = q) (kk : zY M d Q q ls (zi (fA σ 33 i.toNatClampNeg) :: st) σ) : zY M d Q pc ls (zi i :: zr 7 0 :: st) σ := by
  subst hq
  intro G ad A p l e R s m args below meth c cells slots Z C H locs lsc hP hS hL
  obtain ⟨q0, h0⟩ := zids_at (k := 7) (j := 0) ⟨by decide, by decide⟩
  have hz := zw_at (G := G) (ad := ad) (σ := σ) h0
  exact va_bald C.1 C.2.1 C.2.2.2.2.2.2.2.2.1 hP q0 1 hz rfl hin hd (kk G ad A p l e R s m args below meth c cells slots Z C H locs lsc hP hS hL)
theorem y_bast {i x : Int32} (hin : vp_in i 240) (hd : decode M.2.1 pc = .ok (.bastore, 1)) (hq : pc + 1 = q) (kk : zY M d Q q ls st (sA σ 33 (upd (fA σ 33) i.toNatClampNeg x.toInt8.toInt32))) : zY M d Q pc ls (zi x :: zi i :: zr 7 0 :: st) σ := by
  subst hq
  intro G ad A p l e R s m args below meth c cells slots Z C H locs lsc hP hS hL
  obtain ⟨q0, h0⟩ := zids_at (k := 7) (j := 0) ⟨by decide, by decide⟩
  have hz := zw_at (G := G) (ad := ad) (σ := σ) h0
  refine va_bast C.1 C.2.1 C.2.2.2.2.2.2.2.2.1 hP (zD σ C.2.2.2.2.2.2.1 C.2.2.2.2.2.2.2.1) hS q0 1 hz rfl hin hd (fun H1 locs1 hP1 hD1 hS1 => ?_)
  have e1 : (.inl (G.2.2.1, zlen 33, .inl (upd (fA σ 33) i.toNatClampNeg (vp_nar .byte x))) : va_E) = ze G ad (sA σ 33 (upd (fA σ 33) i.toNatClampNeg x.toInt8.toInt32)) 7 0 := by
    show _ = (.inl (G.2.2.1, zlen 33, .inl (fA (sA σ 33 (upd (fA σ 33) i.toNatClampNeg x.toInt8.toInt32)) 33)) : va_E)
    rw [fA_sA, if_pos rfl, vp_nar_byte]
  rw [e1, zw_set h0 (fun k' j' ho hne => ze_s33_ne σ _ hne ho)] at hP1
  exact kk G ad A p l e R s m args below meth c cells slots Z C H1 locs1 lsc hP1 hS1 hL
theorem y_aald8 {i : Int32} (hin : vp_in i 6) (hd : decode M.2.1 pc = .ok (.aaload, 1)) (hq : pc + 1 = q) (kk : zY M d Q q ls (zr 4 i.toNatClampNeg :: st) σ) : zY M d Q pc ls (zi i :: zr 8 0 :: st) σ := by
  subst hq
  intro G ad A p l e R s m args below meth c cells slots Z C H locs lsc hP hS hL
  obtain ⟨q0, h0⟩ := zids_at (k := 8) (j := 0) ⟨by decide, by decide⟩
  have hz := zw_at (G := G) (ad := ad) (σ := σ) h0
  exact va_aldq C.1 C.2.1 C.2.2.2.2.2.2.2.2.1 hP q0 2 hz rfl hin hd (kk G ad A p l e R s m args below meth c cells slots Z C H locs lsc hP hS hL)
theorem y_aald81 {i : Int32} (hin : vp_in i 4) (hd : decode M.2.1 pc = .ok (.aaload, 1)) (hq : pc + 1 = q) (kk : zY M d Q q ls (zr 4 (6 + i.toNatClampNeg) :: st) σ) : zY M d Q pc ls (zi i :: zr 8 1 :: st) σ := by
  subst hq
  intro G ad A p l e R s m args below meth c cells slots Z C H locs lsc hP hS hL
  obtain ⟨q0, h0⟩ := zids_at (k := 8) (j := 1) ⟨by decide, by decide⟩
  have hz := zw_at (G := G) (ad := ad) (σ := σ) h0
  exact va_aldq C.1 C.2.1 C.2.2.2.2.2.2.2.2.1 hP q0 2 hz rfl hin hd (kk G ad A p l e R s m args below meth c cells slots Z C H locs lsc hP hS hL)
theorem y_aald9 {i : Int32} (hin : vp_in i 3) (hd : decode M.2.1 pc = .ok (.aaload, 1)) (hq : pc + 1 = q) (kk : zY M d Q q ls (zr 2 i.toNatClampNeg :: st) σ) : zY M d Q pc ls (zi i :: zr 9 0 :: st) σ := by
  subst hq
  intro G ad A p l e R s m args below meth c cells slots Z C H locs lsc hP hS hL
  obtain ⟨q0, h0⟩ := zids_at (k := 9) (j := 0) ⟨by decide, by decide⟩
  have hz := zw_at (G := G) (ad := ad) (σ := σ) h0
  exact va_aldq C.1 C.2.1 C.2.2.2.2.2.2.2.2.1 hP q0 3 hz rfl hin hd (kk G ad A p l e R s m args below meth c cells slots Z C H locs lsc hP hS hL)
theorem y_alen6 {a : Nat} (ha : a < 33) (hd : decode M.2.1 pc = .ok (.arraylength, 1)) (hq : pc + 1 = q) (kk : zY M d Q q ls (zi (nI (zlen a)) :: st) σ) : zY M d Q pc ls (zr 6 a :: st) σ := by
  subst hq
  intro G ad A p l e R s m args below meth c cells slots Z C H locs lsc hP hS hL
  obtain ⟨q0, h0⟩ := zids_at (k := 6) (j := a) ⟨by decide, ha⟩
  have hz := zw_at (G := G) (ad := ad) (σ := σ) h0
  exact va_alen C.1 C.2.1 C.2.2.2.2.2.2.2.2.1 hP q0 0 hz (ty := .int) rfl rfl hd (kk G ad A p l e R s m args below meth c cells slots Z C H locs lsc hP hS hL)
theorem y_alen8 {j : Nat} (hj : j < 2) (hd : decode M.2.1 pc = .ok (.arraylength, 1)) (hq : pc + 1 = q) (kk : zY M d Q q ls (zi (nI (if j = 0 then 6 else 4)) :: st) σ) : zY M d Q pc ls (zr 8 j :: st) σ := by
  subst hq
  intro G ad A p l e R s m args below meth c cells slots Z C H locs lsc hP hS hL
  obtain ⟨q0, h0⟩ := zids_at (k := 8) (j := j) ⟨by decide, hj⟩
  have hz := zw_at (G := G) (ad := ad) (σ := σ) h0
  exact va_alen C.1 C.2.1 C.2.2.2.2.2.2.2.2.1 hP q0 2 hz (ty := .object RX3) rfl rfl hd (kk G ad A p l e R s m args below meth c cells slots Z C H locs lsc hP hS hL)
theorem y_gets {idx : Nat} (hl : Cond.fieldLink M.1.cls idx "TouchedLamps" "TOUCHES" "[I" ∈ ztbl) (hd : decode M.2.1 pc = .ok (.getstatic idx, 3)) (hq : pc + 3 = q) (kk : zY M d Q q ls (zr 11 0 :: st) σ) : zY M d Q pc ls st σ := by
  subst hq
  intro G ad A p l e R s m args below meth c cells slots Z C H locs lsc hP hS hL
  exact va_gets C.1 C.2.1 C.2.2.2.2.2.2.2.2.2.1.1.1 hS C.2.2.2.1 (C.2.2.2.2.1 _ hl) (fun _ h => h) hd (kk G ad A p l e R s m args below meth c cells slots Z C H locs lsc hP hS hL)
theorem y_tlen (hd : decode M.2.1 pc = .ok (.arraylength, 1)) (hq : pc + 1 = q) (kk : zY M d Q q ls (zi 9 :: st) σ) : zY M d Q pc ls (zr 11 0 :: st) σ := by
  subst hq
  intro G ad A p l e R s m args below meth c cells slots Z C H locs lsc hP hS hL
  exact va_tlen C.1 C.2.1 C.2.2.2.2.2.2.2.2.2.1.1.2 hS rfl hd (kk G ad A p l e R s m args below meth c cells slots Z C H locs lsc hP hS hL)
theorem y_tld {i : Int32} (hin : vp_in i 9) (hd : decode M.2.1 pc = .ok (.iaload, 1)) (hq : pc + 1 = q) (kk : zY M d Q q ls (zi (ztou i.toNatClampNeg) :: st) σ) : zY M d Q pc ls (zi i :: zr 11 0 :: st) σ := by
  subst hq
  intro G ad A p l e R s m args below meth c cells slots Z C H locs lsc hP hS hL
  exact va_ti C.1 C.2.1 C.2.2.2.2.2.2.2.2.2.1.1.2 hS hin rfl hd (kk G ad A p l e R s m args below meth c cells slots Z C H locs lsc hP hS hL)
/-! returns -/
theorem y_iret {x : Int32} (hd : decode M.2.1 pc = .ok (.ireturn, 1)) (hr : M.2.2.2 = some .int) (hq : Q (some (zi x)) σ) : zY M d Q pc ls [zi x] σ := by
  intro G ad A p l e R s m args below meth c cells slots Z C H locs lsc hP hS hL
  exact C.2.2.2.2.2.2.2.2.2.2.1 x σ H locs pc lsc hd ⟨_, hr, rfl⟩ hq hP hS
theorem y_zret {x : Int32} (hx : x = 0 ∨ x = 1) (hd : decode M.2.1 pc = .ok (.ireturn, 1)) (hr : M.2.2.2 = some .boolean) (hq : Q (some (zi x)) σ) : zY M d Q pc ls [zi x] σ := by
  intro G ad A p l e R s m args below meth c cells slots Z C H locs lsc hP hS hL
  exact C.2.2.2.2.2.2.2.2.2.2.1 x σ H locs pc lsc hd ⟨_, hr, by rcases hx with rfl | rfl <;> rfl⟩ hq hP hS
theorem y_zret0 (hd : decode M.2.1 pc = .ok (.ireturn, 1)) (hr : M.2.2.2 = some .boolean) (hq : Q (some (zi 0)) σ) : zY M d Q pc ls [zi 0] σ := y_zret (Or.inl rfl) hd hr hq
theorem y_zret1 (hd : decode M.2.1 pc = .ok (.ireturn, 1)) (hr : M.2.2.2 = some .boolean) (hq : Q (some (zi 1)) σ) : zY M d Q pc ls [zi 1] σ := y_zret (Or.inr rfl) hd hr hq
theorem y_lret {x : Int64} (hd : decode M.2.1 pc = .ok (.lreturn, 1)) (hr : M.2.2.2 = some .long) (hq : Q (some (zl x)) σ) : zY M d Q pc ls [zl x] σ := by
  intro G ad A p l e R s m args below meth c cells slots Z C H locs lsc hP hS hL
  exact C.2.2.2.2.2.2.2.2.2.2.2.1 x σ H locs pc lsc hd hr hq hP hS
theorem y_aret {k j : Nat} {n : String} (hd : decode M.2.1 pc = .ok (.areturn, 1)) (hr : M.2.2.2 = some (.object n)) (hq : Q (some (zr k j)) σ) : zY M d Q pc ls [zr k j] σ := by
  intro G ad A p l e R s m args below meth c cells slots Z C H locs lsc hP hS hL
  exact C.2.2.2.2.2.2.2.2.2.2.2.2.1 (zr k j) n σ H locs pc lsc hd hr (Or.inr ⟨k, j, rfl⟩) hq hP hS
theorem y_aretN {n : String} (hd : decode M.2.1 pc = .ok (.areturn, 1)) (hr : M.2.2.2 = some (.object n)) (hq : Q (some zn) σ) : zY M d Q pc ls [zn] σ := by
  intro G ad A p l e R s m args below meth c cells slots Z C H locs lsc hP hS hL
  exact C.2.2.2.2.2.2.2.2.2.2.2.2.1 zn n σ H locs pc lsc hd hr (Or.inl rfl) hq hP hS
theorem y_vret (hd : decode M.2.1 pc = .ok (.return_, 1)) (hr : M.2.2.2 = none) (hq : Q none σ) : zY M d Q pc ls [] σ := by
  intro G ad A p l e R s m args below meth c cells slots Z C H locs lsc hP hS hL
  exact C.2.2.2.2.2.2.2.2.2.2.2.2.2 σ H locs pc lsc hd hr hq hP hS
end
/-! calls -/
theorem zgoodIn {M : zM} (h : Cond.code M.1 M.2.1 M.2.2.1 M.2.2.2 ∈ ztbl) : GoodIn ztbl (zws M) := fun w hw => by
  rcases List.mem_cons.mp hw with rfl | h2
  · exact ⟨h, good_of_word (List.mem_filter.mp h).2⟩
  · exact ⟨h2, good_of_word (List.mem_filter.mp h2).2⟩
def zplain (y : MethodName) (n : Nat) : Prop := y.cls ≠ "java/lang/invoke/MethodHandle" ∧ y.cls ≠ "java/lang/invoke/VarHandle" ∧ (parseMethodDescriptor y.desc).map (fun d => d.parameters.length) = some n
/-- what the tables say of a method that is called: by an object, by its class -/
def zKV (M : zM) (n : Nat) : Prop := (Cond.instanceMethod M.1 ∈ ztbl ∧ Cond.selects M.1.cls M.1 M.1 ∈ ztbl ∧ Cond.initialized M.1.cls ∈ ztbl ∧ Cond.code M.1 M.2.1 M.2.2.1 M.2.2.2 ∈ ztbl) ∧ zplain M.1 n ∧ M.2.2.1 ≤ 40
def zKS (M : zM) (n : Nat) : Prop := (Cond.static M.1 ∈ ztbl ∧ Cond.initialized M.1.cls ∈ ztbl ∧ Cond.code M.1 M.2.1 M.2.2.1 M.2.2.2 ∈ ztbl) ∧ zplain M.1 n ∧ M.2.2.1 ≤ 40
def zLV (own : String) (idx : Nat) (M : zM) (n : Nat) : Prop := Cond.methodLink own idx M.1 ∈ ztbl ∧ zKV M n
def zLS (own : String) (idx : Nat) (M : zM) (n : Nat) : Prop := Cond.methodLink own idx M.1 ∈ ztbl ∧ zKS M n
theorem zblind {as : List Value} {G : zG} {ad : Nat → Nat → Nat} {A : Nat → Prop} {σ : zSt} : FrameBlind (va_Pc as (fun U => zU G ad A σ U)) := by
  intro a U g mk q
  obtain ⟨q0, qP, qK, qT, qN⟩ := q
  exact ⟨q0, qP, va_K.moved (u := U) (U := U.calling g mk a) (Vm.Alike.refl U.vm) qK, zTo.moved (u := U) (U := U.calling g mk a) (Vm.Alike.refl U.vm) qT, va_Nw.same rfl (u := U) (U := U.calling g mk a) rfl qN⟩
theorem zcats (ad : Nat → Nat → Nat) (st : List zV) : ((st.map (cz ad)).map fun v => v.category).sum = (st.map zcat).sum := by
  rw [List.map_map]
  congr 1
  exact List.map_congr_left fun v _ => cz_cat ad v
section
variable {M : zM} {d : Nat} {Q : zQ} {pc q : Nat} {ls : List (Option zV)} {st : List zV} {σ : zSt}
/-- behind a call -/
theorem zcalled {d' : Nat} {M' : zM} {as rest : List zV} {Q' : zQ} {G : zG} {ad : Nat → Nat → Nat} {A : Nat → Prop} {p : Program} {l : Launch} {e : Env} {R : Room} {s : State} {m : MethodId} {args : Array Value} {below : List Frame} {meth : Method} {c : Code} {cells slots : Nat} {Z : State → Prop}
    (C : zC M d Q G ad A p l e R s m args below meth c cells slots Z) {H : Heap} {locs : List Loc} {lsc : Array Slot} (hS : va_S A s.heap H locs) (hL : zL ad M.2.2.1 lsc ls) (kk : ∀ r σ', Q' r σ' → zY M d Q (pc + 3) ls (r.toList ++ rest) σ')
    (hr : va_Run p l e R s m args below meth c H locs cells slots 0 0 (F0 m pc lsc (st.map (cz ad))) (rest.map (cz ad)) (fun (st : State) (o : Outcome) (t : State) => (∃ (r : Option zV) (σ' : zSt), o = .returned (r.map (cz ad)) ∧ Q' r σ' ∧ zU G ad (zA ad) σ' t) ∧ va_F (zA ad) st t) (zA ad)) :
    W p l e R s m args below meth c H locs cells slots Z (F0 m pc lsc (st.map (cz ad))) := by
  intro T hT X
  obtain ⟨v, st₀, t, T', L, h0, X', hLo, e1, e2, ⟨⟨r, σ', hv, hq', hP', -⟩, hz, hk⟩, go⟩ := hr T hT X
  rw [h0] at hz hk
  have hv' : v = r.map (cz ad) := by cases hv; rfl
  subst hv'
  have hA := C.2.2.2.2.2.2.2.1
  have hS' : va_S A s.heap T'.heap (locs ++ L) := ⟨Nat.le_trans hS.1 (by rw [e1]; exact hz), fun q h1 h2 => by rw [e1, hk q (Nat.lt_of_lt_of_le h1 hS.1) (fun z => h2 (hA q z))]; exact hS.2.1 q h1 h2, fun q hq => by
      rcases List.mem_append.mp hq with h | h
      · exact hS.2.2 q h
      · exact hA _ (hLo q h)⟩
  obtain ⟨t2, a1, b1⟩ := kk r σ' hq' G ad A p l e R s m args below meth c cells slots Z C T'.heap (locs ++ L) lsc (by rw [e1]; exact hP') hS' hL T' rfl X'
  refine ⟨t2, go t2 ?_, b1⟩
  have e3 : (r.map (cz ad)).toList ++ rest.map (cz ad) = (r.toList ++ rest).map (cz ad) := by
    rw [List.map_append]
    cases r <;> rfl
  show Steps p.tables e below (T'.setTop { F0 m pc lsc (st.map (cz ad)) with pc := pc + 3, stack := (r.map (cz ad)).toList ++ rest.map (cz ad) }) t2
  rw [e3]
  exact a1
theorem zpreS {as : List zV} {G : zG} {ad : Nat → Nat → Nat} {A : Nat → Prop} {p : Program} {l : Launch} {e : Env} {R : Room} {s : State} {m : MethodId} {args : Array Value} {below : List Frame} {meth : Method} {c : Code} {cells slots : Nat} {Z : State → Prop}
    (C : zC M d Q G ad A p l e R s m args below meth c cells slots Z) {H : Heap} {locs : List Loc} (hP : va_P G.1 vwCl (zw G ad σ) H) (hS : va_S A s.heap H locs) : ∀ U : State, U.heap = H → s.WarmedH U.vm → va_Pc (as.map (cz ad)) (fun U => zU G ad (zA ad) σ U) (as.map (cz ad)).toArray U := by
  intro U hU hW
  refine ⟨rfl, by rw [hU]; exact hP, va_K.moved hW.alike C.2.2.2.2.2.2.2.2.1, ?_, va_Nw.warmM hW C.2.2.2.2.2.2.2.2.2.1.2⟩
  rw [hU]
  exact ((zTo.moved hW.alike (C.2.2.2.2.2.2.2.2.2.1.1.kept hS.2.1))).narrow C.2.2.2.2.2.2.2.1
theorem y_callS {d' idx n : Nat} {M' : zM} {as rest : List zV} {Q' : zQ} (hM : Mt d' M' as σ Q') (hl : zLS M.1.cls idx M' n) (hdd : Nat.ble (d' + 1) d = true) (hn : as.length = n) (hst : st = as.reverse ++ rest) (hroom : Nat.ble (rest.map zcat).sum 8 = true) (hd : decode M.2.1 pc = .ok (.invokestatic idx, 3)) (hq : pc + 3 = q) (kk : ∀ r σ', Q' r σ' → zY M d Q q ls (r.toList ++ rest) σ') : zY M d Q pc ls st σ := by
  subst hq
  intro G ad A p l e R s m args below meth c cells slots Z C H locs lsc hP hS hL
  obtain ⟨w1, ⟨w2, w3, w4⟩, hp, h40⟩ := hl
  have hts := C.2.2.2.2.1
  have hR := C.2.2.2.2.2.1
  have hdd' := Nat.le_of_ble_eq_true hdd
  refine zcalled (M' := M') (as := as) (rest := rest) (d' := d') C hS hL kk (va_runS ⟨C.1, C.2.1, C.2.2.1, C.2.2.2.1, hts⟩ (hM l G ad C.2.2.2.2.2.2.1) ⟨callB_of n hts (zgoodIn w4) rfl rfl rfl (hts _ w3) (hts _ w1) hp ⟨?_, ?_⟩, hts _ w2⟩ ⟨zblind, zpreS C hP hS⟩ rfl (by rw [List.length_map]; exact hn) hL.1 ?_ (lv_room (by rw [zcats]; exact Nat.le_of_ble_eq_true hroom)) hd ⟨hR.2.2.1, hR.2.2.2⟩)
  · show d' + 1 ≤ R.frames
    omega
  · show 8 + (M'.2.2.1 + 11) + 100 * d' ≤ R.locals
    omega
  · show st.map (cz ad) = _
    rw [hst, List.map_append, List.map_reverse]
theorem y_callN {d' idx n : Nat} {M' : zM} {host : String} {as rest : List zV} {Q' : zQ} (hM : Mt d' M' as σ Q') (hl : Cond.methodLinkNest M.1.cls idx M'.1 host = zNL ∧ zKS M' n) (hdd : Nat.ble (d' + 1) d = true) (hn : as.length = n) (hst : st = as.reverse ++ rest) (hroom : Nat.ble (rest.map zcat).sum 8 = true) (hd : decode M.2.1 pc = .ok (.invokestatic idx, 3)) (hq : pc + 3 = q) (kk : ∀ r σ', Q' r σ' → zY M d Q q ls (r.toList ++ rest) σ') : zY M d Q pc ls st σ := by
  subst hq
  intro G ad A p l e R s m args below meth c cells slots Z C H locs lsc hP hS hL
  obtain ⟨w1, ⟨w2, w3, w4⟩, hp, h40⟩ := hl
  have hts := C.2.2.2.2.1
  have hR := C.2.2.2.2.2.1
  have hdd' := Nat.le_of_ble_eq_true hdd
  refine zcalled (M' := M') (as := as) (rest := rest) (d' := d') C hS hL kk (va_runSN (host := host) ⟨C.1, C.2.1, C.2.2.1, C.2.2.2.1, hts⟩ (hM l G ad C.2.2.2.2.2.2.1) ⟨va_cnB n hts (zgoodIn w4) rfl rfl rfl (by rw [w1]; exact C.2.2.2.2.2.2.2.2.2.1.2) (hts _ w3) hp ⟨?_, ?_⟩, hts _ w2, trivial⟩ ⟨zblind, zpreS C hP hS⟩ rfl (by rw [List.length_map]; exact hn) hL.1 ?_ (lv_room (by rw [zcats]; exact Nat.le_of_ble_eq_true hroom)) hd ⟨hR.2.2.1, hR.2.2.2⟩)
  · show d' + 1 ≤ R.frames
    omega
  · show 8 + (M'.2.2.1 + 11) + 100 * d' ≤ R.locals
    omega
  · show st.map (cz ad) = _
    rw [hst, List.map_append, List.map_reverse]
theorem y_callV {d' idx n k j : Nat} {M' : zM} {as rest : List zV} {Q' : zQ} (hM : Mt d' M' (zr k j :: as) σ Q') (hl : zLV M.1.cls idx M' n) (hk : zok k j) (hk6 : k < 6) (hcl : (zcl k).1 = M'.1.cls) (hdd : Nat.ble (d' + 1) d = true) (hn : as.length = n) (hst : st = as.reverse ++ zr k j :: rest) (hroom : Nat.ble (rest.map zcat).sum 8 = true) (hd : decode M.2.1 pc = .ok (.invokevirtual idx, 3)) (hq : pc + 3 = q) (kk : ∀ r σ', Q' r σ' → zY M d Q q ls (r.toList ++ rest) σ') : zY M d Q pc ls st σ := by
  subst hq
  intro G ad A p l e R s m args below meth c cells slots Z C H locs lsc hP hS hL
  obtain ⟨w1, ⟨w2, w3, w4, w5⟩, hp, h40⟩ := hl
  have hts := C.2.2.2.2.1
  have hR := C.2.2.2.2.2.1
  have hdd' := Nat.le_of_ble_eq_true hdd
  obtain ⟨q0, h0⟩ := zids_at hk
  have hz := zw_at (G := G) (ad := ad) (σ := σ) h0
  rw [ze_obj hk6] at hz
  have hrc := va_recv C.2.2.2.2.2.2.2.2.1 hP (zcl_at k) hz
  rw [hcl] at hrc
  refine zcalled (M' := M') (as := as) (rest := rest) (d' := d') C hS hL kk (va_runV (C := M'.1.cls) (b := ad k j) (As := as.map (cz ad)) (n := n) ⟨C.1, C.2.1, C.2.2.1, C.2.2.2.1, hts⟩ (hM l G ad C.2.2.2.2.2.2.1) ⟨callB_of n hts (zgoodIn w5) rfl rfl rfl (hts _ w4) (hts _ w1) hp ⟨?_, ?_⟩, hts _ w2, hts _ w3⟩ ⟨zblind, hrc, zpreS (as := zr k j :: as) C hP hS⟩ rfl (by rw [List.length_map]; exact hn) hL.1 ?_ (lv_room (by rw [zcats]; exact Nat.le_of_ble_eq_true hroom)) hd ⟨hR.2.2.1, hR.2.2.2⟩)
  · show d' + 1 ≤ R.frames
    omega
  · show 8 + (M'.2.2.1 + 11) + 100 * d' ≤ R.locals
    omega
  · show st.map (cz ad) = _
    rw [hst, List.map_append, List.map_reverse]
    rfl
end
end
section
abbrev mi_J6_bitCount_0f7a4 : zM := (yJ6_bitCount_0f7a4, cJ6_bitCount_0f7a4, 1, some .int)
abbrev mi_J9_max_7cf53 : zM := (yJ9_max_7cf53, cJ9_max_7cf53, 2, some .int)
abbrev mi_J9_min_7cf53 : zM := (yJ9_min_7cf53, cJ9_min_7cf53, 2, some .int)
abbrev mi_X0_become : zM := (yX0_become, cX0_become, 3, none)
abbrev mi_X0_behindPress : zM := (yX0_behindPress, cX0_behindPress, 4, some .int)
abbrev mi_X0_behindTouch : zM := (yX0_behindTouch, cX0_behindTouch, 13, some .int)
abbrev mi_X0_changed : zM := (yX0_changed, cX0_changed, 3, some .int)
abbrev mi_X0_init : zM := (yX0_init, cX0_init, 1, none)
abbrev mi_X0_isA : zM := (yX0_isA, cX0_isA, 2, some .boolean)
abbrev mi_X0_kindOf : zM := (yX0_kindOf, cX0_kindOf, 3, some .int)
abbrev mi_X0_lastStep : zM := (yX0_lastStep, cX0_lastStep, 1, some .int)
abbrev mi_X0_showing : zM := (yX0_showing, cX0_showing, 2, some .int)
abbrev mi_X0_takeFrom : zM := (yX0_takeFrom, cX0_takeFrom, 2, none)
abbrev mi_X1_begin : zM := (yX1_begin, cX1_begin, 2, none)
abbrev mi_X1_deeds : zM := (yX1_deeds, cX1_deeds, 1, some .int)
abbrev mi_X1_forget : zM := (yX1_forget, cX1_forget, 1, none)
abbrev mi_X1_go : zM := (yX1_go, cX1_go, 4, none)
abbrev mi_X1_goBack : zM := (yX1_goBack, cX1_goBack, 2, none)
abbrev mi_X1_init : zM := (yX1_init, cX1_init, 1, none)
abbrev mi_X1_isThere : zM := (yX1_isThere, cX1_isThere, 1, some .boolean)
abbrev mi_X1_number : zM := (yX1_number, cX1_number, 1, some .int)
abbrev mi_X1_room : zM := (yX1_room, cX1_room, 1, some .int)
abbrev mi_X1_state : zM := (yX1_state, cX1_state, 1, some .int)
abbrev mi_X1_takeFrom : zM := (yX1_takeFrom, cX1_takeFrom, 3, none)
abbrev mi_X2_faultOf : zM := (yX2_faultOf, cX2_faultOf, 8, some .int)
abbrev mi_X2_init : zM := (yX2_init, cX2_init, 1, none)
abbrev mi_X2_kindBy : zM := (yX2_kindBy, cX2_kindBy, 1, some .int)
abbrev mi_X3_change : zM := (yX3_change, cX3_change, 3, none)
abbrev mi_X3_has : zM := (yX3_has, cX3_has, 2, some .boolean)
abbrev mi_X3_hasRun : zM := (yX3_hasRun, cX3_hasRun, 3, some .boolean)
abbrev mi_X3_init : zM := (yX3_init, cX3_init, 2, none)
abbrev mi_X3_isThere : zM := (yX3_isThere, cX3_isThere, 1, some .boolean)
abbrev mi_X3_make : zM := (yX3_make, cX3_make, 4, none)
abbrev mi_X3_mixedInto : zM := (yX3_mixedInto, cX3_mixedInto, 6, some .long)
abbrev mi_X3_remove : zM := (yX3_remove, cX3_remove, 1, none)
abbrev mi_X3_size : zM := (yX3_size, cX3_size, 1, some .int)
abbrev mi_X3_takeRun : zM := (yX3_takeRun, cX3_takeRun, 5, none)
abbrev mi_X3_total : zM := (yX3_total, cX3_total, 4, some .long)
abbrev mi_X3_valueAt : zM := (yX3_valueAt, cX3_valueAt, 2, some .int)
abbrev mi_X4_above : zM := (yX4_above, cX4_above, 1, some .int)
abbrev mi_X4_broken : zM := (yX4_broken, cX4_broken, 1, some .int)
abbrev mi_X4_join : zM := (yX4_join, cX4_join, 3, some .int)
abbrev mi_X4_of : zM := (yX4_of, cX4_of, 2, some .int)
abbrev mi_X4_ones : zM := (yX4_ones, cX4_ones, 1, some .int)
abbrev mi_X4_total : zM := (yX4_total, cX4_total, 2, some .int)
abbrev mi_X4_twos : zM := (yX4_twos, cX4_twos, 1, some .int)
abbrev mi_X4_with : zM := (yX4_with, cX4_with, 6, some .int)
abbrev mi_X4_withBroken : zM := (yX4_withBroken, cX4_withBroken, 2, some .int)
abbrev mi_X5_asked : zM := (yX5_asked, cX5_asked, 1, some .int)
abbrev mi_X5_at : zM := (yX5_at, cX5_at, 5, some .int)
abbrev mi_X5_commonDivisor : zM := (yX5_commonDivisor, cX5_commonDivisor, 11, some .long)
abbrev mi_X5_copy : zM := (yX5_copy, cX5_copy, 8, some .int)
abbrev mi_X5_count : zM := (yX5_count, cX5_count, 2, some .int)
abbrev mi_X5_countKept : zM := (yX5_countKept, cX5_countKept, 3, some .int)
abbrev mi_X5_countRows : zM := (yX5_countRows, cX5_countRows, 4, some .int)
abbrev mi_X5_counted : zM := (yX5_counted, cX5_counted, 2, some .int)
abbrev mi_X5_countedOfWall : zM := (yX5_countedOfWall, cX5_countedOfWall, 3, some .int)
abbrev mi_X5_crack : zM := (yX5_crack, cX5_crack, 2, some .int)
abbrev mi_X5_digest : zM := (yX5_digest, cX5_digest, 5, some .long)
abbrev mi_X5_doByLot : zM := (yX5_doByLot, cX5_doByLot, 4, none)
abbrev mi_X5_doCrack : zM := (yX5_doCrack, cX5_doCrack, 2, none)
abbrev mi_X5_doPress : zM := (yX5_doPress, cX5_doPress, 2, none)
abbrev mi_X5_doSet : zM := (yX5_doSet, cX5_doSet, 3, none)
abbrev mi_X5_duel : zM := (yX5_duel, cX5_duel, 4, some .int)
abbrev mi_X5_fault : zM := (yX5_fault, cX5_fault, 4, some .int)
abbrev mi_X5_fewest : zM := (yX5_fewest, cX5_fewest, 7, some .int)
abbrev mi_X5_fillBehindSets : zM := (yX5_fillBehindSets, cX5_fillBehindSets, 5, none)
abbrev mi_X5_finding : zM := (yX5_finding, cX5_finding, 1, some .int)
abbrev mi_X5_findings : zM := (yX5_findings, cX5_findings, 2, some .int)
abbrev mi_X5_fits : zM := (yX5_fits, cX5_fits, 5, some .boolean)
abbrev mi_X5_found : zM := (yX5_found, cX5_found, 2, some .int)
abbrev mi_X5_greatestPart : zM := (yX5_greatestPart, cX5_greatestPart, 6, some .int)
abbrev mi_X5_hasStep : zM := (yX5_hasStep, cX5_hasStep, 3, some .boolean)
abbrev mi_X5_init : zM := (yX5_init, cX5_init, 2, none)
abbrev mi_X5_isLamp : zM := (yX5_isLamp, cX5_isLamp, 2, some .boolean)
abbrev mi_X5_keep : zM := (yX5_keep, cX5_keep, 3, some .int)
abbrev mi_X5_keptAt : zM := (yX5_keptAt, cX5_keptAt, 2, some (.object "TouchedLamps$Past"))
abbrev mi_X5_kinds : zM := (yX5_kinds, cX5_kinds, 5, some .int)
abbrev mi_X5_kindsBy : zM := (yX5_kindsBy, cX5_kindsBy, 6, some .int)
abbrev mi_X5_lamp : zM := (yX5_lamp, cX5_lamp, 3, some .int)
abbrev mi_X5_lay : zM := (yX5_lay, cX5_lay, 7, some .int)
abbrev mi_X5_lots : zM := (yX5_lots, cX5_lots, 6, some .int)
abbrev mi_X5_lower : zM := (yX5_lower, cX5_lower, 1, some .long)
abbrev mi_X5_makeAnew : zM := (yX5_makeAnew, cX5_makeAnew, 5, some .int)
abbrev mi_X5_mark : zM := (yX5_mark, cX5_mark, 4, some .int)
abbrev mi_X5_mean : zM := (yX5_mean, cX5_mean, 5, some .int)
abbrev mi_X5_mid : zM := (yX5_mid, cX5_mid, 8, some .int)
abbrev mi_X5_most : zM := (yX5_most, cX5_most, 5, some .int)
abbrev mi_X5_next : zM := (yX5_next, cX5_next, 10, some .int)
abbrev mi_X5_odds : zM := (yX5_odds, cX5_odds, 12, some .int)
abbrev mi_X5_on : zM := (yX5_on, cX5_on, 3, some .int)
abbrev mi_X5_press : zM := (yX5_press, cX5_press, 2, some .int)
abbrev mi_X5_put : zM := (yX5_put, cX5_put, 7, some .int)
abbrev mi_X5_reaches : zM := (yX5_reaches, cX5_reaches, 9, some .boolean)
abbrev mi_X5_refusalOfMissing : zM := (yX5_refusalOfMissing, cX5_refusalOfMissing, 2, some .int)
abbrev mi_X5_refusalOfPairs : zM := (yX5_refusalOfPairs, cX5_refusalOfPairs, 5, some .int)
abbrev mi_X5_refusalOfPlace : zM := (yX5_refusalOfPlace, cX5_refusalOfPlace, 4, some .int)
abbrev mi_X5_refusalOfSet : zM := (yX5_refusalOfSet, cX5_refusalOfSet, 2, some .int)
abbrev mi_X5_row : zM := (yX5_row, cX5_row, 3, some .int)
abbrev mi_X5_rowAt : zM := (yX5_rowAt, cX5_rowAt, 2, some (.object "TouchedLamps$Row"))
abbrev mi_X5_set : zM := (yX5_set, cX5_set, 4, some .int)
abbrev mi_X5_showingBehind : zM := (yX5_showingBehind, cX5_showingBehind, 2, some .int)
abbrev mi_X5_shownAs : zM := (yX5_shownAs, cX5_shownAs, 4, some .int)
abbrev mi_X5_shows : zM := (yX5_shows, cX5_shows, 6, some .int)
abbrev mi_X5_sums : zM := (yX5_sums, cX5_sums, 6, some .int)
abbrev mi_X5_sure : zM := (yX5_sure, cX5_sure, 7, some .int)
abbrev mi_X5_tear : zM := (yX5_tear, cX5_tear, 4, some .int)
abbrev mi_X5_tellAsked : zM := (yX5_tellAsked, cX5_tellAsked, 2, some .int)
abbrev mi_X5_tellParts : zM := (yX5_tellParts, cX5_tellParts, 7, none)
abbrev mi_X5_text : zM := (yX5_text, cX5_text, 3, some .int)
abbrev mi_X5_textAt : zM := (yX5_textAt, cX5_textAt, 2, some (.object "TouchedLamps$Row"))
abbrev mi_X5_toldOfLamp : zM := (yX5_toldOfLamp, cX5_toldOfLamp, 4, some .int)
abbrev mi_X5_touched : zM := (yX5_touched, cX5_touched, 6, some .int)
abbrev mi_X5_touchedBy : zM := (yX5_touchedBy, cX5_touchedBy, 1, some .int)
abbrev mi_X5_twelfths : zM := (yX5_twelfths, cX5_twelfths, 4, some .int)
abbrev mi_X5_undo : zM := (yX5_undo, cX5_undo, 3, some .int)
abbrev mi_X5_upper : zM := (yX5_upper, cX5_upper, 1, some .long)
abbrev mi_X5_wall : zM := (yX5_wall, cX5_wall, 5, some .int)
abbrev mi_X5_ways : zM := (yX5_ways, cX5_ways, 6, some .int)
abbrev mi_X5_which : zM := (yX5_which, cX5_which, 5, some .int)
abbrev mi_X5_wonBy : zM := (yX5_wonBy, cX5_wonBy, 14, some .int)
abbrev mi_X6_after : zM := (yX6_after, cX6_after, 4, some .int)
abbrev mi_X6_allWays : zM := (yX6_allWays, cX6_allWays, 5, some .long)
abbrev mi_X6_asked : zM := (yX6_asked, cX6_asked, 1, some .int)
abbrev mi_X6_at : zM := (yX6_at, cX6_at, 3, some .int)
abbrev mi_X6_begin : zM := (yX6_begin, cX6_begin, 2, none)
abbrev mi_X6_bitsOf : zM := (yX6_bitsOf, cX6_bitsOf, 3, some .int)
abbrev mi_X6_copy : zM := (yX6_copy, cX6_copy, 7, some .int)
abbrev mi_X6_count : zM := (yX6_count, cX6_count, 2, some .int)
abbrev mi_X6_crack : zM := (yX6_crack, cX6_crack, 2, some .int)
abbrev mi_X6_digest : zM := (yX6_digest, cX6_digest, 5, some .long)
abbrev mi_X6_doesShow : zM := (yX6_doesShow, cX6_doesShow, 2, some .boolean)
abbrev mi_X6_doesTouch : zM := (yX6_doesTouch, cX6_doesTouch, 4, some .boolean)
abbrev mi_X6_duel : zM := (yX6_duel, cX6_duel, 10, some .int)
abbrev mi_X6_factOf : zM := (yX6_factOf, cX6_factOf, 3, some .int)
abbrev mi_X6_fault : zM := (yX6_fault, cX6_fault, 2, some .int)
abbrev mi_X6_fewest : zM := (yX6_fewest, cX6_fewest, 8, some .int)
abbrev mi_X6_find : zM := (yX6_find, cX6_find, 2, some .int)
abbrev mi_X6_finding : zM := (yX6_finding, cX6_finding, 1, some .int)
abbrev mi_X6_findings : zM := (yX6_findings, cX6_findings, 2, some .int)
abbrev mi_X6_flipped : zM := (yX6_flipped, cX6_flipped, 2, some .int)
abbrev mi_X6_fraction : zM := (yX6_fraction, cX6_fraction, 11, some .int)
abbrev mi_X6_has : zM := (yX6_has, cX6_has, 2, some .boolean)
abbrev mi_X6_in : zM := (yX6_in, cX6_in, 3, some .boolean)
abbrev mi_X6_init : zM := (yX6_init, cX6_init, 2, none)
abbrev mi_X6_isButton : zM := (yX6_isButton, cX6_isButton, 1, some .boolean)
abbrev mi_X6_isBy : zM := (yX6_isBy, cX6_isBy, 4, some .boolean)
abbrev mi_X6_isLamp : zM := (yX6_isLamp, cX6_isLamp, 2, some .boolean)
abbrev mi_X6_isPicture : zM := (yX6_isPicture, cX6_isPicture, 1, some .boolean)
abbrev mi_X6_isRow : zM := (yX6_isRow, cX6_isRow, 1, some .boolean)
abbrev mi_X6_isText : zM := (yX6_isText, cX6_isText, 1, some .boolean)
abbrev mi_X6_isThree : zM := (yX6_isThree, cX6_isThree, 1, some .boolean)
abbrev mi_X6_keep : zM := (yX6_keep, cX6_keep, 3, some .int)
abbrev mi_X6_kindOf : zM := (yX6_kindOf, cX6_kindOf, 1, some .int)
abbrev mi_X6_kinds : zM := (yX6_kinds, cX6_kinds, 4, some .int)
abbrev mi_X6_kindsBy : zM := (yX6_kindsBy, cX6_kindsBy, 7, some .int)
abbrev mi_X6_lamp : zM := (yX6_lamp, cX6_lamp, 3, some .int)
abbrev mi_X6_lay : zM := (yX6_lay, cX6_lay, 5, some .int)
abbrev mi_X6_lot : zM := (yX6_lot, cX6_lot, 4, none)
abbrev mi_X6_lots : zM := (yX6_lots, cX6_lots, 6, some .int)
abbrev mi_X6_lower : zM := (yX6_lower, cX6_lower, 1, some .long)
abbrev mi_X6_mark : zM := (yX6_mark, cX6_mark, 5, some .int)
abbrev mi_X6_mean : zM := (yX6_mean, cX6_mean, 5, some .int)
abbrev mi_X6_mid : zM := (yX6_mid, cX6_mid, 9, some .int)
abbrev mi_X6_most : zM := (yX6_most, cX6_most, 5, some .int)
abbrev mi_X6_next : zM := (yX6_next, cX6_next, 10, some .int)
abbrev mi_X6_now : zM := (yX6_now, cX6_now, 2, some .int)
abbrev mi_X6_odds : zM := (yX6_odds, cX6_odds, 10, some .int)
abbrev mi_X6_on : zM := (yX6_on, cX6_on, 3, some .int)
abbrev mi_X6_pairs : zM := (yX6_pairs, cX6_pairs, 4, some .int)
abbrev mi_X6_press : zM := (yX6_press, cX6_press, 2, some .int)
abbrev mi_X6_pressOn : zM := (yX6_pressOn, cX6_pressOn, 6, none)
abbrev mi_X6_put : zM := (yX6_put, cX6_put, 5, some .int)
abbrev mi_X6_read : zM := (yX6_read, cX6_read, 5, some .int)
abbrev mi_X6_row : zM := (yX6_row, cX6_row, 4, some .int)
abbrev mi_X6_set : zM := (yX6_set, cX6_set, 4, some .int)
abbrev mi_X6_shown : zM := (yX6_shown, cX6_shown, 1, some .int)
abbrev mi_X6_shownBehind : zM := (yX6_shownBehind, cX6_shownBehind, 2, some .int)
abbrev mi_X6_shownBut : zM := (yX6_shownBut, cX6_shownBut, 3, some .int)
abbrev mi_X6_shownBy : zM := (yX6_shownBy, cX6_shownBy, 5, some .int)
abbrev mi_X6_shownByCode : zM := (yX6_shownByCode, cX6_shownByCode, 5, some .int)
abbrev mi_X6_shows : zM := (yX6_shows, cX6_shows, 4, some .int)
abbrev mi_X6_stepsOf : zM := (yX6_stepsOf, cX6_stepsOf, 1, some .int)
abbrev mi_X6_sumOf : zM := (yX6_sumOf, cX6_sumOf, 4, some .int)
abbrev mi_X6_sums : zM := (yX6_sums, cX6_sums, 7, some .int)
abbrev mi_X6_sure : zM := (yX6_sure, cX6_sure, 6, some .int)
abbrev mi_X6_take : zM := (yX6_take, cX6_take, 2, none)
abbrev mi_X6_tear : zM := (yX6_tear, cX6_tear, 2, some .int)
abbrev mi_X6_text : zM := (yX6_text, cX6_text, 4, some .int)
abbrev mi_X6_thereAre : zM := (yX6_thereAre, cX6_thereAre, 4, some .int)
abbrev mi_X6_told : zM := (yX6_told, cX6_told, 2, some .int)
abbrev mi_X6_touched : zM := (yX6_touched, cX6_touched, 5, some .int)
abbrev mi_X6_touchedBy : zM := (yX6_touchedBy, cX6_touchedBy, 3, some .int)
abbrev mi_X6_undo : zM := (yX6_undo, cX6_undo, 3, some .int)
abbrev mi_X6_upper : zM := (yX6_upper, cX6_upper, 1, some .long)
abbrev mi_X6_wall : zM := (yX6_wall, cX6_wall, 3, some .int)
abbrev mi_X6_ways : zM := (yX6_ways, cX6_ways, 5, some .int)
abbrev mi_X6_waysOf : zM := (yX6_waysOf, cX6_waysOf, 7, some .long)
abbrev mi_X6_which : zM := (yX6_which, cX6_which, 4, some .int)
abbrev mi_X6_worthOf : zM := (yX6_worthOf, cX6_worthOf, 7, some .int)
abbrev mi_X6_wouldShow : zM := (yX6_wouldShow, cX6_wouldShow, 6, some .boolean)
theorem zat {w : Cond} (i : Nat) (h : lw_tbl[i]? = some w) (g : goodWord w = true) : w ∈ ztbl := zmem (List.mem_of_getElem? h) g
theorem mk_J6_bitCount_0f7a4 : zKS mi_J6_bitCount_0f7a4 1 := ⟨⟨zat 413 (by decide +kernel) rfl, zat 62 (by decide +kernel) rfl, zat 414 (by decide +kernel) rfl⟩, ⟨by decide +kernel, by decide +kernel, by decide +kernel⟩, by decide⟩
theorem mk_J9_max_7cf53 : zKS mi_J9_max_7cf53 2 := ⟨⟨zat 139 (by decide +kernel) rfl, zat 58 (by decide +kernel) rfl, zat 140 (by decide +kernel) rfl⟩, ⟨by decide +kernel, by decide +kernel, by decide +kernel⟩, by decide⟩
theorem mk_J9_min_7cf53 : zKS mi_J9_min_7cf53 2 := ⟨⟨zat 593 (by decide +kernel) rfl, zat 58 (by decide +kernel) rfl, zat 594 (by decide +kernel) rfl⟩, ⟨by decide +kernel, by decide +kernel, by decide +kernel⟩, by decide⟩
theorem mk_X0_become : zKV mi_X0_become 2 := ⟨⟨zat 317 (by decide +kernel) rfl, zat 318 (by decide +kernel) rfl, zat 55 (by decide +kernel) rfl, zat 319 (by decide +kernel) rfl⟩, ⟨by decide +kernel, by decide +kernel, by decide +kernel⟩, by decide⟩
theorem mk_X0_behindPress : zKV mi_X0_behindPress 3 := ⟨⟨zat 432 (by decide +kernel) rfl, zat 433 (by decide +kernel) rfl, zat 55 (by decide +kernel) rfl, zat 434 (by decide +kernel) rfl⟩, ⟨by decide +kernel, by decide +kernel, by decide +kernel⟩, by decide⟩
theorem mk_X0_behindTouch : zKV mi_X0_behindTouch 4 := ⟨⟨zat 400 (by decide +kernel) rfl, zat 401 (by decide +kernel) rfl, zat 55 (by decide +kernel) rfl, zat 402 (by decide +kernel) rfl⟩, ⟨by decide +kernel, by decide +kernel, by decide +kernel⟩, by decide⟩
theorem mk_X0_changed : zKS mi_X0_changed 3 := ⟨⟨zat 321 (by decide +kernel) rfl, zat 55 (by decide +kernel) rfl, zat 322 (by decide +kernel) rfl⟩, ⟨by decide +kernel, by decide +kernel, by decide +kernel⟩, by decide⟩
theorem mk_X0_isA : zKS mi_X0_isA 2 := ⟨⟨zat 314 (by decide +kernel) rfl, zat 55 (by decide +kernel) rfl, zat 315 (by decide +kernel) rfl⟩, ⟨by decide +kernel, by decide +kernel, by decide +kernel⟩, by decide⟩
theorem mk_X0_kindOf : zKV mi_X0_kindOf 1 := ⟨⟨zat 375 (by decide +kernel) rfl, zat 376 (by decide +kernel) rfl, zat 55 (by decide +kernel) rfl, zat 377 (by decide +kernel) rfl⟩, ⟨by decide +kernel, by decide +kernel, by decide +kernel⟩, by decide⟩
theorem mk_X0_lastStep : zKS mi_X0_lastStep 1 := ⟨⟨zat 311 (by decide +kernel) rfl, zat 55 (by decide +kernel) rfl, zat 312 (by decide +kernel) rfl⟩, ⟨by decide +kernel, by decide +kernel, by decide +kernel⟩, by decide⟩
theorem mk_X0_showing : zKV mi_X0_showing 1 := ⟨⟨zat 382 (by decide +kernel) rfl, zat 383 (by decide +kernel) rfl, zat 55 (by decide +kernel) rfl, zat 384 (by decide +kernel) rfl⟩, ⟨by decide +kernel, by decide +kernel, by decide +kernel⟩, by decide⟩
theorem mk_X0_takeFrom : zKV mi_X0_takeFrom 1 := ⟨⟨zat 343 (by decide +kernel) rfl, zat 344 (by decide +kernel) rfl, zat 55 (by decide +kernel) rfl, zat 345 (by decide +kernel) rfl⟩, ⟨by decide +kernel, by decide +kernel, by decide +kernel⟩, by decide⟩
theorem mk_X1_begin : zKV mi_X1_begin 1 := ⟨⟨zat 347 (by decide +kernel) rfl, zat 348 (by decide +kernel) rfl, zat 54 (by decide +kernel) rfl, zat 349 (by decide +kernel) rfl⟩, ⟨by decide +kernel, by decide +kernel, by decide +kernel⟩, by decide⟩
theorem mk_X1_deeds : zKV mi_X1_deeds 0 := ⟨⟨zat 473 (by decide +kernel) rfl, zat 474 (by decide +kernel) rfl, zat 54 (by decide +kernel) rfl, zat 475 (by decide +kernel) rfl⟩, ⟨by decide +kernel, by decide +kernel, by decide +kernel⟩, by decide⟩
theorem mk_X1_forget : zKV mi_X1_forget 0 := ⟨⟨zat 351 (by decide +kernel) rfl, zat 352 (by decide +kernel) rfl, zat 54 (by decide +kernel) rfl, zat 353 (by decide +kernel) rfl⟩, ⟨by decide +kernel, by decide +kernel, by decide +kernel⟩, by decide⟩
theorem mk_X1_go : zKV mi_X1_go 2 := ⟨⟨zat 438 (by decide +kernel) rfl, zat 439 (by decide +kernel) rfl, zat 54 (by decide +kernel) rfl, zat 440 (by decide +kernel) rfl⟩, ⟨by decide +kernel, by decide +kernel, by decide +kernel⟩, by decide⟩
theorem mk_X1_goBack : zKV mi_X1_goBack 1 := ⟨⟨zat 478 (by decide +kernel) rfl, zat 479 (by decide +kernel) rfl, zat 54 (by decide +kernel) rfl, zat 480 (by decide +kernel) rfl⟩, ⟨by decide +kernel, by decide +kernel, by decide +kernel⟩, by decide⟩
theorem mk_X1_isThere : zKV mi_X1_isThere 0 := ⟨⟨zat 363 (by decide +kernel) rfl, zat 364 (by decide +kernel) rfl, zat 54 (by decide +kernel) rfl, zat 365 (by decide +kernel) rfl⟩, ⟨by decide +kernel, by decide +kernel, by decide +kernel⟩, by decide⟩
theorem mk_X1_number : zKV mi_X1_number 0 := ⟨⟨zat 396 (by decide +kernel) rfl, zat 397 (by decide +kernel) rfl, zat 54 (by decide +kernel) rfl, zat 398 (by decide +kernel) rfl⟩, ⟨by decide +kernel, by decide +kernel, by decide +kernel⟩, by decide⟩
theorem mk_X1_room : zKV mi_X1_room 0 := ⟨⟨zat 423 (by decide +kernel) rfl, zat 424 (by decide +kernel) rfl, zat 54 (by decide +kernel) rfl, zat 425 (by decide +kernel) rfl⟩, ⟨by decide +kernel, by decide +kernel, by decide +kernel⟩, by decide⟩
theorem mk_X1_state : zKV mi_X1_state 0 := ⟨⟨zat 371 (by decide +kernel) rfl, zat 372 (by decide +kernel) rfl, zat 54 (by decide +kernel) rfl, zat 373 (by decide +kernel) rfl⟩, ⟨by decide +kernel, by decide +kernel, by decide +kernel⟩, by decide⟩
theorem mk_X1_takeFrom : zKV mi_X1_takeFrom 1 := ⟨⟨zat 490 (by decide +kernel) rfl, zat 491 (by decide +kernel) rfl, zat 54 (by decide +kernel) rfl, zat 492 (by decide +kernel) rfl⟩, ⟨by decide +kernel, by decide +kernel, by decide +kernel⟩, by decide⟩
theorem mk_X2_faultOf : zKV mi_X2_faultOf 1 := ⟨⟨zat 302 (by decide +kernel) rfl, zat 303 (by decide +kernel) rfl, zat 56 (by decide +kernel) rfl, zat 304 (by decide +kernel) rfl⟩, ⟨by decide +kernel, by decide +kernel, by decide +kernel⟩, by decide⟩
theorem mk_X2_kindBy : zKS mi_X2_kindBy 1 := ⟨⟨zat 308 (by decide +kernel) rfl, zat 56 (by decide +kernel) rfl, zat 309 (by decide +kernel) rfl⟩, ⟨by decide +kernel, by decide +kernel, by decide +kernel⟩, by decide⟩
theorem mk_X3_change : zKV mi_X3_change 2 := ⟨⟨zat 237 (by decide +kernel) rfl, zat 238 (by decide +kernel) rfl, zat 57 (by decide +kernel) rfl, zat 239 (by decide +kernel) rfl⟩, ⟨by decide +kernel, by decide +kernel, by decide +kernel⟩, by decide⟩
theorem mk_X3_has : zKV mi_X3_has 1 := ⟨⟨zat 228 (by decide +kernel) rfl, zat 229 (by decide +kernel) rfl, zat 57 (by decide +kernel) rfl, zat 230 (by decide +kernel) rfl⟩, ⟨by decide +kernel, by decide +kernel, by decide +kernel⟩, by decide⟩
theorem mk_X3_hasRun : zKV mi_X3_hasRun 2 := ⟨⟨zat 261 (by decide +kernel) rfl, zat 262 (by decide +kernel) rfl, zat 57 (by decide +kernel) rfl, zat 263 (by decide +kernel) rfl⟩, ⟨by decide +kernel, by decide +kernel, by decide +kernel⟩, by decide⟩
theorem mk_X3_isThere : zKV mi_X3_isThere 0 := ⟨⟨zat 224 (by decide +kernel) rfl, zat 225 (by decide +kernel) rfl, zat 57 (by decide +kernel) rfl, zat 226 (by decide +kernel) rfl⟩, ⟨by decide +kernel, by decide +kernel, by decide +kernel⟩, by decide⟩
theorem mk_X3_make : zKV mi_X3_make 2 := ⟨⟨zat 208 (by decide +kernel) rfl, zat 209 (by decide +kernel) rfl, zat 57 (by decide +kernel) rfl, zat 210 (by decide +kernel) rfl⟩, ⟨by decide +kernel, by decide +kernel, by decide +kernel⟩, by decide⟩
theorem mk_X3_mixedInto : zKV mi_X3_mixedInto 1 := ⟨⟨zat 666 (by decide +kernel) rfl, zat 667 (by decide +kernel) rfl, zat 57 (by decide +kernel) rfl, zat 668 (by decide +kernel) rfl⟩, ⟨by decide +kernel, by decide +kernel, by decide +kernel⟩, by decide⟩
theorem mk_X3_remove : zKV mi_X3_remove 0 := ⟨⟨zat 253 (by decide +kernel) rfl, zat 254 (by decide +kernel) rfl, zat 57 (by decide +kernel) rfl, zat 255 (by decide +kernel) rfl⟩, ⟨by decide +kernel, by decide +kernel, by decide +kernel⟩, by decide⟩
theorem mk_X3_size : zKV mi_X3_size 0 := ⟨⟨zat 277 (by decide +kernel) rfl, zat 278 (by decide +kernel) rfl, zat 57 (by decide +kernel) rfl, zat 279 (by decide +kernel) rfl⟩, ⟨by decide +kernel, by decide +kernel, by decide +kernel⟩, by decide⟩
theorem mk_X3_takeRun : zKV mi_X3_takeRun 4 := ⟨⟨zat 265 (by decide +kernel) rfl, zat 266 (by decide +kernel) rfl, zat 57 (by decide +kernel) rfl, zat 267 (by decide +kernel) rfl⟩, ⟨by decide +kernel, by decide +kernel, by decide +kernel⟩, by decide⟩
theorem mk_X3_total : zKV mi_X3_total 0 := ⟨⟨zat 281 (by decide +kernel) rfl, zat 282 (by decide +kernel) rfl, zat 57 (by decide +kernel) rfl, zat 283 (by decide +kernel) rfl⟩, ⟨by decide +kernel, by decide +kernel, by decide +kernel⟩, by decide⟩
theorem mk_X3_valueAt : zKV mi_X3_valueAt 1 := ⟨⟨zat 232 (by decide +kernel) rfl, zat 233 (by decide +kernel) rfl, zat 57 (by decide +kernel) rfl, zat 234 (by decide +kernel) rfl⟩, ⟨by decide +kernel, by decide +kernel, by decide +kernel⟩, by decide⟩
theorem mk_X4_above : zKS mi_X4_above 1 := ⟨⟨zat 386 (by decide +kernel) rfl, zat 61 (by decide +kernel) rfl, zat 387 (by decide +kernel) rfl⟩, ⟨by decide +kernel, by decide +kernel, by decide +kernel⟩, by decide⟩
theorem mk_X4_broken : zKS mi_X4_broken 1 := ⟨⟨zat 333 (by decide +kernel) rfl, zat 61 (by decide +kernel) rfl, zat 334 (by decide +kernel) rfl⟩, ⟨by decide +kernel, by decide +kernel, by decide +kernel⟩, by decide⟩
theorem mk_X4_join : zKS mi_X4_join 3 := ⟨⟨zat 336 (by decide +kernel) rfl, zat 61 (by decide +kernel) rfl, zat 337 (by decide +kernel) rfl⟩, ⟨by decide +kernel, by decide +kernel, by decide +kernel⟩, by decide⟩
theorem mk_X4_of : zKS mi_X4_of 2 := ⟨⟨zat 379 (by decide +kernel) rfl, zat 61 (by decide +kernel) rfl, zat 380 (by decide +kernel) rfl⟩, ⟨by decide +kernel, by decide +kernel, by decide +kernel⟩, by decide⟩
theorem mk_X4_ones : zKS mi_X4_ones 1 := ⟨⟨zat 327 (by decide +kernel) rfl, zat 61 (by decide +kernel) rfl, zat 328 (by decide +kernel) rfl⟩, ⟨by decide +kernel, by decide +kernel, by decide +kernel⟩, by decide⟩
theorem mk_X4_total : zKS mi_X4_total 2 := ⟨⟨zat 582 (by decide +kernel) rfl, zat 61 (by decide +kernel) rfl, zat 583 (by decide +kernel) rfl⟩, ⟨by decide +kernel, by decide +kernel, by decide +kernel⟩, by decide⟩
theorem mk_X4_twos : zKS mi_X4_twos 1 := ⟨⟨zat 330 (by decide +kernel) rfl, zat 61 (by decide +kernel) rfl, zat 331 (by decide +kernel) rfl⟩, ⟨by decide +kernel, by decide +kernel, by decide +kernel⟩, by decide⟩
theorem mk_X4_with : zKS mi_X4_with 3 := ⟨⟨zat 324 (by decide +kernel) rfl, zat 61 (by decide +kernel) rfl, zat 325 (by decide +kernel) rfl⟩, ⟨by decide +kernel, by decide +kernel, by decide +kernel⟩, by decide⟩
theorem mk_X4_withBroken : zKS mi_X4_withBroken 2 := ⟨⟨zat 466 (by decide +kernel) rfl, zat 61 (by decide +kernel) rfl, zat 467 (by decide +kernel) rfl⟩, ⟨by decide +kernel, by decide +kernel, by decide +kernel⟩, by decide⟩
theorem mk_X5_asked : zKV mi_X5_asked 0 := ⟨⟨zat 621 (by decide +kernel) rfl, zat 622 (by decide +kernel) rfl, zat 53 (by decide +kernel) rfl, zat 623 (by decide +kernel) rfl⟩, ⟨by decide +kernel, by decide +kernel, by decide +kernel⟩, by decide⟩
theorem mk_X5_at : zKV mi_X5_at 2 := ⟨⟨zat 245 (by decide +kernel) rfl, zat 246 (by decide +kernel) rfl, zat 53 (by decide +kernel) rfl, zat 247 (by decide +kernel) rfl⟩, ⟨by decide +kernel, by decide +kernel, by decide +kernel⟩, by decide⟩
theorem mk_X5_commonDivisor : zKS mi_X5_commonDivisor 2 := ⟨⟨zat 537 (by decide +kernel) rfl, zat 53 (by decide +kernel) rfl, zat 538 (by decide +kernel) rfl⟩, ⟨by decide +kernel, by decide +kernel, by decide +kernel⟩, by decide⟩
theorem mk_X5_copy : zKV mi_X5_copy 5 := ⟨⟨zat 257 (by decide +kernel) rfl, zat 258 (by decide +kernel) rfl, zat 53 (by decide +kernel) rfl, zat 259 (by decide +kernel) rfl⟩, ⟨by decide +kernel, by decide +kernel, by decide +kernel⟩, by decide⟩
theorem mk_X5_count : zKV mi_X5_count 1 := ⟨⟨zat 633 (by decide +kernel) rfl, zat 634 (by decide +kernel) rfl, zat 53 (by decide +kernel) rfl, zat 635 (by decide +kernel) rfl⟩, ⟨by decide +kernel, by decide +kernel, by decide +kernel⟩, by decide⟩
theorem mk_X5_countKept : zKV mi_X5_countKept 0 := ⟨⟨zat 645 (by decide +kernel) rfl, zat 25 (by decide +kernel) rfl, zat 53 (by decide +kernel) rfl, zat 646 (by decide +kernel) rfl⟩, ⟨by decide +kernel, by decide +kernel, by decide +kernel⟩, by decide⟩
theorem mk_X5_countRows : zKS mi_X5_countRows 2 := ⟨⟨zat 641 (by decide +kernel) rfl, zat 53 (by decide +kernel) rfl, zat 642 (by decide +kernel) rfl⟩, ⟨by decide +kernel, by decide +kernel, by decide +kernel⟩, by decide⟩
theorem mk_X5_counted : zKV mi_X5_counted 1 := ⟨⟨zat 638 (by decide +kernel) rfl, zat 24 (by decide +kernel) rfl, zat 53 (by decide +kernel) rfl, zat 639 (by decide +kernel) rfl⟩, ⟨by decide +kernel, by decide +kernel, by decide +kernel⟩, by decide⟩
theorem mk_X5_countedOfWall : zKV mi_X5_countedOfWall 1 := ⟨⟨zat 649 (by decide +kernel) rfl, zat 26 (by decide +kernel) rfl, zat 53 (by decide +kernel) rfl, zat 650 (by decide +kernel) rfl⟩, ⟨by decide +kernel, by decide +kernel, by decide +kernel⟩, by decide⟩
theorem mk_X5_crack : zKV mi_X5_crack 1 := ⟨⟨zat 458 (by decide +kernel) rfl, zat 459 (by decide +kernel) rfl, zat 53 (by decide +kernel) rfl, zat 460 (by decide +kernel) rfl⟩, ⟨by decide +kernel, by decide +kernel, by decide +kernel⟩, by decide⟩
theorem mk_X5_digest : zKV mi_X5_digest 0 := ⟨⟨zat 660 (by decide +kernel) rfl, zat 661 (by decide +kernel) rfl, zat 53 (by decide +kernel) rfl, zat 662 (by decide +kernel) rfl⟩, ⟨by decide +kernel, by decide +kernel, by decide +kernel⟩, by decide⟩
theorem mk_X5_doByLot : zKV mi_X5_doByLot 2 := ⟨⟨zat 618 (by decide +kernel) rfl, zat 23 (by decide +kernel) rfl, zat 53 (by decide +kernel) rfl, zat 619 (by decide +kernel) rfl⟩, ⟨by decide +kernel, by decide +kernel, by decide +kernel⟩, by decide⟩
theorem mk_X5_doCrack : zKV mi_X5_doCrack 1 := ⟨⟨zat 463 (by decide +kernel) rfl, zat 12 (by decide +kernel) rfl, zat 53 (by decide +kernel) rfl, zat 464 (by decide +kernel) rfl⟩, ⟨by decide +kernel, by decide +kernel, by decide +kernel⟩, by decide⟩
theorem mk_X5_doPress : zKV mi_X5_doPress 1 := ⟨⟨zat 429 (by decide +kernel) rfl, zat 9 (by decide +kernel) rfl, zat 53 (by decide +kernel) rfl, zat 430 (by decide +kernel) rfl⟩, ⟨by decide +kernel, by decide +kernel, by decide +kernel⟩, by decide⟩
theorem mk_X5_doSet : zKV mi_X5_doSet 2 := ⟨⟨zat 454 (by decide +kernel) rfl, zat 11 (by decide +kernel) rfl, zat 53 (by decide +kernel) rfl, zat 455 (by decide +kernel) rfl⟩, ⟨by decide +kernel, by decide +kernel, by decide +kernel⟩, by decide⟩
theorem mk_X5_duel : zKV mi_X5_duel 2 := ⟨⟨zat 586 (by decide +kernel) rfl, zat 587 (by decide +kernel) rfl, zat 53 (by decide +kernel) rfl, zat 588 (by decide +kernel) rfl⟩, ⟨by decide +kernel, by decide +kernel, by decide +kernel⟩, by decide⟩
theorem mk_X5_fault : zKV mi_X5_fault 1 := ⟨⟨zat 298 (by decide +kernel) rfl, zat 299 (by decide +kernel) rfl, zat 53 (by decide +kernel) rfl, zat 300 (by decide +kernel) rfl⟩, ⟨by decide +kernel, by decide +kernel, by decide +kernel⟩, by decide⟩
theorem mk_X5_fewest : zKV mi_X5_fewest 2 := ⟨⟨zat 514 (by decide +kernel) rfl, zat 515 (by decide +kernel) rfl, zat 53 (by decide +kernel) rfl, zat 516 (by decide +kernel) rfl⟩, ⟨by decide +kernel, by decide +kernel, by decide +kernel⟩, by decide⟩
theorem mk_X5_fillBehindSets : zKV mi_X5_fillBehindSets 0 := ⟨⟨zat 530 (by decide +kernel) rfl, zat 16 (by decide +kernel) rfl, zat 53 (by decide +kernel) rfl, zat 531 (by decide +kernel) rfl⟩, ⟨by decide +kernel, by decide +kernel, by decide +kernel⟩, by decide⟩
theorem mk_X5_finding : zKV mi_X5_finding 0 := ⟨⟨zat 652 (by decide +kernel) rfl, zat 653 (by decide +kernel) rfl, zat 53 (by decide +kernel) rfl, zat 654 (by decide +kernel) rfl⟩, ⟨by decide +kernel, by decide +kernel, by decide +kernel⟩, by decide⟩
theorem mk_X5_findings : zKV mi_X5_findings 1 := ⟨⟨zat 656 (by decide +kernel) rfl, zat 657 (by decide +kernel) rfl, zat 53 (by decide +kernel) rfl, zat 658 (by decide +kernel) rfl⟩, ⟨by decide +kernel, by decide +kernel, by decide +kernel⟩, by decide⟩
theorem mk_X5_fits : zKV mi_X5_fits 3 := ⟨⟨zat 561 (by decide +kernel) rfl, zat 20 (by decide +kernel) rfl, zat 53 (by decide +kernel) rfl, zat 562 (by decide +kernel) rfl⟩, ⟨by decide +kernel, by decide +kernel, by decide +kernel⟩, by decide⟩
theorem mk_X5_found : zKV mi_X5_found 1 := ⟨⟨zat 205 (by decide +kernel) rfl, zat 2 (by decide +kernel) rfl, zat 53 (by decide +kernel) rfl, zat 206 (by decide +kernel) rfl⟩, ⟨by decide +kernel, by decide +kernel, by decide +kernel⟩, by decide⟩
theorem mk_X5_greatestPart : zKV mi_X5_greatestPart 3 := ⟨⟨zat 574 (by decide +kernel) rfl, zat 22 (by decide +kernel) rfl, zat 53 (by decide +kernel) rfl, zat 575 (by decide +kernel) rfl⟩, ⟨by decide +kernel, by decide +kernel, by decide +kernel⟩, by decide⟩
theorem mk_X5_hasStep : zKV mi_X5_hasStep 2 := ⟨⟨zat 449 (by decide +kernel) rfl, zat 10 (by decide +kernel) rfl, zat 53 (by decide +kernel) rfl, zat 450 (by decide +kernel) rfl⟩, ⟨by decide +kernel, by decide +kernel, by decide +kernel⟩, by decide⟩
theorem mk_X5_isLamp : zKV mi_X5_isLamp 1 := ⟨⟨zat 360 (by decide +kernel) rfl, zat 7 (by decide +kernel) rfl, zat 53 (by decide +kernel) rfl, zat 361 (by decide +kernel) rfl⟩, ⟨by decide +kernel, by decide +kernel, by decide +kernel⟩, by decide⟩
theorem mk_X5_keep : zKV mi_X5_keep 1 := ⟨⟨zat 482 (by decide +kernel) rfl, zat 483 (by decide +kernel) rfl, zat 53 (by decide +kernel) rfl, zat 484 (by decide +kernel) rfl⟩, ⟨by decide +kernel, by decide +kernel, by decide +kernel⟩, by decide⟩
theorem mk_X5_keptAt : zKV mi_X5_keptAt 1 := ⟨⟨zat 487 (by decide +kernel) rfl, zat 13 (by decide +kernel) rfl, zat 53 (by decide +kernel) rfl, zat 488 (by decide +kernel) rfl⟩, ⟨by decide +kernel, by decide +kernel, by decide +kernel⟩, by decide⟩
theorem mk_X5_kinds : zKV mi_X5_kinds 2 := ⟨⟨zat 548 (by decide +kernel) rfl, zat 549 (by decide +kernel) rfl, zat 53 (by decide +kernel) rfl, zat 550 (by decide +kernel) rfl⟩, ⟨by decide +kernel, by decide +kernel, by decide +kernel⟩, by decide⟩
theorem mk_X5_kindsBy : zKV mi_X5_kindsBy 2 := ⟨⟨zat 557 (by decide +kernel) rfl, zat 19 (by decide +kernel) rfl, zat 53 (by decide +kernel) rfl, zat 558 (by decide +kernel) rfl⟩, ⟨by decide +kernel, by decide +kernel, by decide +kernel⟩, by decide⟩
theorem mk_X5_lamp : zKV mi_X5_lamp 2 := ⟨⟨zat 355 (by decide +kernel) rfl, zat 356 (by decide +kernel) rfl, zat 53 (by decide +kernel) rfl, zat 357 (by decide +kernel) rfl⟩, ⟨by decide +kernel, by decide +kernel, by decide +kernel⟩, by decide⟩
theorem mk_X5_lay : zKV mi_X5_lay 3 := ⟨⟨zat 212 (by decide +kernel) rfl, zat 213 (by decide +kernel) rfl, zat 53 (by decide +kernel) rfl, zat 214 (by decide +kernel) rfl⟩, ⟨by decide +kernel, by decide +kernel, by decide +kernel⟩, by decide⟩
theorem mk_X5_lots : zKV mi_X5_lots 2 := ⟨⟨zat 608 (by decide +kernel) rfl, zat 609 (by decide +kernel) rfl, zat 53 (by decide +kernel) rfl, zat 610 (by decide +kernel) rfl⟩, ⟨by decide +kernel, by decide +kernel, by decide +kernel⟩, by decide⟩
theorem mk_X5_lower : zKV mi_X5_lower 0 := ⟨⟨zat 629 (by decide +kernel) rfl, zat 630 (by decide +kernel) rfl, zat 53 (by decide +kernel) rfl, zat 631 (by decide +kernel) rfl⟩, ⟨by decide +kernel, by decide +kernel, by decide +kernel⟩, by decide⟩
theorem mk_X5_makeAnew : zKV mi_X5_makeAnew 4 := ⟨⟨zat 201 (by decide +kernel) rfl, zat 1 (by decide +kernel) rfl, zat 53 (by decide +kernel) rfl, zat 202 (by decide +kernel) rfl⟩, ⟨by decide +kernel, by decide +kernel, by decide +kernel⟩, by decide⟩
theorem mk_X5_mark : zKV mi_X5_mark 2 := ⟨⟨zat 407 (by decide +kernel) rfl, zat 408 (by decide +kernel) rfl, zat 53 (by decide +kernel) rfl, zat 409 (by decide +kernel) rfl⟩, ⟨by decide +kernel, by decide +kernel, by decide +kernel⟩, by decide⟩
theorem mk_X5_mean : zKV mi_X5_mean 1 := ⟨⟨zat 273 (by decide +kernel) rfl, zat 274 (by decide +kernel) rfl, zat 53 (by decide +kernel) rfl, zat 275 (by decide +kernel) rfl⟩, ⟨by decide +kernel, by decide +kernel, by decide +kernel⟩, by decide⟩
theorem mk_X5_mid : zKV mi_X5_mid 2 := ⟨⟨zat 604 (by decide +kernel) rfl, zat 605 (by decide +kernel) rfl, zat 53 (by decide +kernel) rfl, zat 606 (by decide +kernel) rfl⟩, ⟨by decide +kernel, by decide +kernel, by decide +kernel⟩, by decide⟩
theorem mk_X5_most : zKV mi_X5_most 0 := ⟨⟨zat 506 (by decide +kernel) rfl, zat 507 (by decide +kernel) rfl, zat 53 (by decide +kernel) rfl, zat 508 (by decide +kernel) rfl⟩, ⟨by decide +kernel, by decide +kernel, by decide +kernel⟩, by decide⟩
theorem mk_X5_next : zKV mi_X5_next 2 := ⟨⟨zat 569 (by decide +kernel) rfl, zat 570 (by decide +kernel) rfl, zat 53 (by decide +kernel) rfl, zat 571 (by decide +kernel) rfl⟩, ⟨by decide +kernel, by decide +kernel, by decide +kernel⟩, by decide⟩
theorem mk_X5_odds : zKV mi_X5_odds 3 := ⟨⟨zat 596 (by decide +kernel) rfl, zat 597 (by decide +kernel) rfl, zat 53 (by decide +kernel) rfl, zat 598 (by decide +kernel) rfl⟩, ⟨by decide +kernel, by decide +kernel, by decide +kernel⟩, by decide⟩
theorem mk_X5_on : zKV mi_X5_on 1 := ⟨⟨zat 494 (by decide +kernel) rfl, zat 495 (by decide +kernel) rfl, zat 53 (by decide +kernel) rfl, zat 496 (by decide +kernel) rfl⟩, ⟨by decide +kernel, by decide +kernel, by decide +kernel⟩, by decide⟩
theorem mk_X5_press : zKV mi_X5_press 1 := ⟨⟨zat 419 (by decide +kernel) rfl, zat 420 (by decide +kernel) rfl, zat 53 (by decide +kernel) rfl, zat 421 (by decide +kernel) rfl⟩, ⟨by decide +kernel, by decide +kernel, by decide +kernel⟩, by decide⟩
theorem mk_X5_put : zKV mi_X5_put 3 := ⟨⟨zat 294 (by decide +kernel) rfl, zat 295 (by decide +kernel) rfl, zat 53 (by decide +kernel) rfl, zat 296 (by decide +kernel) rfl⟩, ⟨by decide +kernel, by decide +kernel, by decide +kernel⟩, by decide⟩
theorem mk_X5_reaches : zKS mi_X5_reaches 7 := ⟨⟨zat 522 (by decide +kernel) rfl, zat 53 (by decide +kernel) rfl, zat 523 (by decide +kernel) rfl⟩, ⟨by decide +kernel, by decide +kernel, by decide +kernel⟩, by decide⟩
theorem mk_X5_refusalOfMissing : zKV mi_X5_refusalOfMissing 1 := ⟨⟨zat 221 (by decide +kernel) rfl, zat 4 (by decide +kernel) rfl, zat 53 (by decide +kernel) rfl, zat 222 (by decide +kernel) rfl⟩, ⟨by decide +kernel, by decide +kernel, by decide +kernel⟩, by decide⟩
theorem mk_X5_refusalOfPairs : zKV mi_X5_refusalOfPairs 2 := ⟨⟨zat 553 (by decide +kernel) rfl, zat 18 (by decide +kernel) rfl, zat 53 (by decide +kernel) rfl, zat 554 (by decide +kernel) rfl⟩, ⟨by decide +kernel, by decide +kernel, by decide +kernel⟩, by decide⟩
theorem mk_X5_refusalOfPlace : zKV mi_X5_refusalOfPlace 2 := ⟨⟨zat 217 (by decide +kernel) rfl, zat 3 (by decide +kernel) rfl, zat 53 (by decide +kernel) rfl, zat 218 (by decide +kernel) rfl⟩, ⟨by decide +kernel, by decide +kernel, by decide +kernel⟩, by decide⟩
theorem mk_X5_refusalOfSet : zKV mi_X5_refusalOfSet 1 := ⟨⟨zat 519 (by decide +kernel) rfl, zat 15 (by decide +kernel) rfl, zat 53 (by decide +kernel) rfl, zat 520 (by decide +kernel) rfl⟩, ⟨by decide +kernel, by decide +kernel, by decide +kernel⟩, by decide⟩
theorem mk_X5_row : zKV mi_X5_row 2 := ⟨⟨zat 192 (by decide +kernel) rfl, zat 193 (by decide +kernel) rfl, zat 53 (by decide +kernel) rfl, zat 194 (by decide +kernel) rfl⟩, ⟨by decide +kernel, by decide +kernel, by decide +kernel⟩, by decide⟩
theorem mk_X5_rowAt : zKV mi_X5_rowAt 1 := ⟨⟨zat 197 (by decide +kernel) rfl, zat 0 (by decide +kernel) rfl, zat 53 (by decide +kernel) rfl, zat 198 (by decide +kernel) rfl⟩, ⟨by decide +kernel, by decide +kernel, by decide +kernel⟩, by decide⟩
theorem mk_X5_set : zKV mi_X5_set 2 := ⟨⟨zat 444 (by decide +kernel) rfl, zat 445 (by decide +kernel) rfl, zat 53 (by decide +kernel) rfl, zat 446 (by decide +kernel) rfl⟩, ⟨by decide +kernel, by decide +kernel, by decide +kernel⟩, by decide⟩
theorem mk_X5_showingBehind : zKV mi_X5_showingBehind 1 := ⟨⟨zat 511 (by decide +kernel) rfl, zat 14 (by decide +kernel) rfl, zat 53 (by decide +kernel) rfl, zat 512 (by decide +kernel) rfl⟩, ⟨by decide +kernel, by decide +kernel, by decide +kernel⟩, by decide⟩
theorem mk_X5_shownAs : zKV mi_X5_shownAs 3 := ⟨⟨zat 565 (by decide +kernel) rfl, zat 21 (by decide +kernel) rfl, zat 53 (by decide +kernel) rfl, zat 566 (by decide +kernel) rfl⟩, ⟨by decide +kernel, by decide +kernel, by decide +kernel⟩, by decide⟩
theorem mk_X5_shows : zKV mi_X5_shows 1 := ⟨⟨zat 502 (by decide +kernel) rfl, zat 503 (by decide +kernel) rfl, zat 53 (by decide +kernel) rfl, zat 504 (by decide +kernel) rfl⟩, ⟨by decide +kernel, by decide +kernel, by decide +kernel⟩, by decide⟩
theorem mk_X5_sums : zKV mi_X5_sums 1 := ⟨⟨zat 578 (by decide +kernel) rfl, zat 579 (by decide +kernel) rfl, zat 53 (by decide +kernel) rfl, zat 580 (by decide +kernel) rfl⟩, ⟨by decide +kernel, by decide +kernel, by decide +kernel⟩, by decide⟩
theorem mk_X5_sure : zKV mi_X5_sure 1 := ⟨⟨zat 540 (by decide +kernel) rfl, zat 541 (by decide +kernel) rfl, zat 53 (by decide +kernel) rfl, zat 542 (by decide +kernel) rfl⟩, ⟨by decide +kernel, by decide +kernel, by decide +kernel⟩, by decide⟩
theorem mk_X5_tear : zKV mi_X5_tear 1 := ⟨⟨zat 249 (by decide +kernel) rfl, zat 250 (by decide +kernel) rfl, zat 53 (by decide +kernel) rfl, zat 251 (by decide +kernel) rfl⟩, ⟨by decide +kernel, by decide +kernel, by decide +kernel⟩, by decide⟩
theorem mk_X5_tellAsked : zKV mi_X5_tellAsked 1 := ⟨⟨zat 242 (by decide +kernel) rfl, zat 5 (by decide +kernel) rfl, zat 53 (by decide +kernel) rfl, zat 243 (by decide +kernel) rfl⟩, ⟨by decide +kernel, by decide +kernel, by decide +kernel⟩, by decide⟩
theorem mk_X5_tellParts : zKV mi_X5_tellParts 2 := ⟨⟨zat 534 (by decide +kernel) rfl, zat 17 (by decide +kernel) rfl, zat 53 (by decide +kernel) rfl, zat 535 (by decide +kernel) rfl⟩, ⟨by decide +kernel, by decide +kernel, by decide +kernel⟩, by decide⟩
theorem mk_X5_text : zKV mi_X5_text 2 := ⟨⟨zat 286 (by decide +kernel) rfl, zat 287 (by decide +kernel) rfl, zat 53 (by decide +kernel) rfl, zat 288 (by decide +kernel) rfl⟩, ⟨by decide +kernel, by decide +kernel, by decide +kernel⟩, by decide⟩
theorem mk_X5_textAt : zKV mi_X5_textAt 1 := ⟨⟨zat 291 (by decide +kernel) rfl, zat 6 (by decide +kernel) rfl, zat 53 (by decide +kernel) rfl, zat 292 (by decide +kernel) rfl⟩, ⟨by decide +kernel, by decide +kernel, by decide +kernel⟩, by decide⟩
theorem mk_X5_toldOfLamp : zKV mi_X5_toldOfLamp 2 := ⟨⟨zat 368 (by decide +kernel) rfl, zat 8 (by decide +kernel) rfl, zat 53 (by decide +kernel) rfl, zat 369 (by decide +kernel) rfl⟩, ⟨by decide +kernel, by decide +kernel, by decide +kernel⟩, by decide⟩
theorem mk_X5_touched : zKV mi_X5_touched 4 := ⟨⟨zat 498 (by decide +kernel) rfl, zat 499 (by decide +kernel) rfl, zat 53 (by decide +kernel) rfl, zat 500 (by decide +kernel) rfl⟩, ⟨by decide +kernel, by decide +kernel, by decide +kernel⟩, by decide⟩
theorem mk_X5_touchedBy : zKS mi_X5_touchedBy 1 := ⟨⟨zat 391 (by decide +kernel) rfl, zat 53 (by decide +kernel) rfl, zat 392 (by decide +kernel) rfl⟩, ⟨by decide +kernel, by decide +kernel, by decide +kernel⟩, by decide⟩
theorem mk_X5_twelfths : zKS mi_X5_twelfths 4 := ⟨⟨zat 600 (by decide +kernel) rfl, zat 53 (by decide +kernel) rfl, zat 601 (by decide +kernel) rfl⟩, ⟨by decide +kernel, by decide +kernel, by decide +kernel⟩, by decide⟩
theorem mk_X5_undo : zKV mi_X5_undo 1 := ⟨⟨zat 469 (by decide +kernel) rfl, zat 470 (by decide +kernel) rfl, zat 53 (by decide +kernel) rfl, zat 471 (by decide +kernel) rfl⟩, ⟨by decide +kernel, by decide +kernel, by decide +kernel⟩, by decide⟩
theorem mk_X5_upper : zKV mi_X5_upper 0 := ⟨⟨zat 625 (by decide +kernel) rfl, zat 626 (by decide +kernel) rfl, zat 53 (by decide +kernel) rfl, zat 627 (by decide +kernel) rfl⟩, ⟨by decide +kernel, by decide +kernel, by decide +kernel⟩, by decide⟩
theorem mk_X5_wall : zKV mi_X5_wall 1 := ⟨⟨zat 339 (by decide +kernel) rfl, zat 340 (by decide +kernel) rfl, zat 53 (by decide +kernel) rfl, zat 341 (by decide +kernel) rfl⟩, ⟨by decide +kernel, by decide +kernel, by decide +kernel⟩, by decide⟩
theorem mk_X5_ways : zKV mi_X5_ways 1 := ⟨⟨zat 525 (by decide +kernel) rfl, zat 526 (by decide +kernel) rfl, zat 53 (by decide +kernel) rfl, zat 527 (by decide +kernel) rfl⟩, ⟨by decide +kernel, by decide +kernel, by decide +kernel⟩, by decide⟩
theorem mk_X5_which : zKV mi_X5_which 1 := ⟨⟨zat 544 (by decide +kernel) rfl, zat 545 (by decide +kernel) rfl, zat 53 (by decide +kernel) rfl, zat 546 (by decide +kernel) rfl⟩, ⟨by decide +kernel, by decide +kernel, by decide +kernel⟩, by decide⟩
theorem mk_X5_wonBy : zKS mi_X5_wonBy 7 := ⟨⟨zat 590 (by decide +kernel) rfl, zat 53 (by decide +kernel) rfl, zat 591 (by decide +kernel) rfl⟩, ⟨by decide +kernel, by decide +kernel, by decide +kernel⟩, by decide⟩
theorem mk_X6_after : zKS mi_X6_after 4 := ⟨⟨zat 842 (by decide +kernel) rfl, zat 59 (by decide +kernel) rfl, zat 843 (by decide +kernel) rfl⟩, ⟨by decide +kernel, by decide +kernel, by decide +kernel⟩, by decide⟩
theorem mk_X6_allWays : zKV mi_X6_allWays 1 := ⟨⟨zat 984 (by decide +kernel) rfl, zat 47 (by decide +kernel) rfl, zat 59 (by decide +kernel) rfl, zat 985 (by decide +kernel) rfl⟩, ⟨by decide +kernel, by decide +kernel, by decide +kernel⟩, by decide⟩
theorem mk_X6_asked : zKV mi_X6_asked 0 := ⟨⟨zat 1009 (by decide +kernel) rfl, zat 1010 (by decide +kernel) rfl, zat 59 (by decide +kernel) rfl, zat 1011 (by decide +kernel) rfl⟩, ⟨by decide +kernel, by decide +kernel, by decide +kernel⟩, by decide⟩
theorem mk_X6_at : zKV mi_X6_at 2 := ⟨⟨zat 758 (by decide +kernel) rfl, zat 759 (by decide +kernel) rfl, zat 59 (by decide +kernel) rfl, zat 760 (by decide +kernel) rfl⟩, ⟨by decide +kernel, by decide +kernel, by decide +kernel⟩, by decide⟩
theorem mk_X6_begin : zKV mi_X6_begin 0 := ⟨⟨zat 860 (by decide +kernel) rfl, zat 35 (by decide +kernel) rfl, zat 59 (by decide +kernel) rfl, zat 861 (by decide +kernel) rfl⟩, ⟨by decide +kernel, by decide +kernel, by decide +kernel⟩, by decide⟩
theorem mk_X6_bitsOf : zKS mi_X6_bitsOf 1 := ⟨⟨zat 849 (by decide +kernel) rfl, zat 59 (by decide +kernel) rfl, zat 850 (by decide +kernel) rfl⟩, ⟨by decide +kernel, by decide +kernel, by decide +kernel⟩, by decide⟩
theorem mk_X6_copy : zKV mi_X6_copy 5 := ⟨⟨zat 766 (by decide +kernel) rfl, zat 767 (by decide +kernel) rfl, zat 59 (by decide +kernel) rfl, zat 768 (by decide +kernel) rfl⟩, ⟨by decide +kernel, by decide +kernel, by decide +kernel⟩, by decide⟩
theorem mk_X6_count : zKV mi_X6_count 1 := ⟨⟨zat 1021 (by decide +kernel) rfl, zat 1022 (by decide +kernel) rfl, zat 59 (by decide +kernel) rfl, zat 1023 (by decide +kernel) rfl⟩, ⟨by decide +kernel, by decide +kernel, by decide +kernel⟩, by decide⟩
theorem mk_X6_crack : zKV mi_X6_crack 1 := ⟨⟨zat 871 (by decide +kernel) rfl, zat 872 (by decide +kernel) rfl, zat 59 (by decide +kernel) rfl, zat 873 (by decide +kernel) rfl⟩, ⟨by decide +kernel, by decide +kernel, by decide +kernel⟩, by decide⟩
theorem mk_X6_digest : zKV mi_X6_digest 0 := ⟨⟨zat 1041 (by decide +kernel) rfl, zat 1042 (by decide +kernel) rfl, zat 59 (by decide +kernel) rfl, zat 1043 (by decide +kernel) rfl⟩, ⟨by decide +kernel, by decide +kernel, by decide +kernel⟩, by decide⟩
theorem mk_X6_doesShow : zKS mi_X6_doesShow 2 := ⟨⟨zat 833 (by decide +kernel) rfl, zat 59 (by decide +kernel) rfl, zat 834 (by decide +kernel) rfl⟩, ⟨by decide +kernel, by decide +kernel, by decide +kernel⟩, by decide⟩
theorem mk_X6_doesTouch : zKS mi_X6_doesTouch 2 := ⟨⟨zat 839 (by decide +kernel) rfl, zat 59 (by decide +kernel) rfl, zat 840 (by decide +kernel) rfl⟩, ⟨by decide +kernel, by decide +kernel, by decide +kernel⟩, by decide⟩
theorem mk_X6_duel : zKV mi_X6_duel 2 := ⟨⟨zat 962 (by decide +kernel) rfl, zat 963 (by decide +kernel) rfl, zat 59 (by decide +kernel) rfl, zat 964 (by decide +kernel) rfl⟩, ⟨by decide +kernel, by decide +kernel, by decide +kernel⟩, by decide⟩
theorem mk_X6_factOf : zKV mi_X6_factOf 2 := ⟨⟨zat 815 (by decide +kernel) rfl, zat 31 (by decide +kernel) rfl, zat 59 (by decide +kernel) rfl, zat 816 (by decide +kernel) rfl⟩, ⟨by decide +kernel, by decide +kernel, by decide +kernel⟩, by decide⟩
theorem mk_X6_fault : zKV mi_X6_fault 1 := ⟨⟨zat 785 (by decide +kernel) rfl, zat 786 (by decide +kernel) rfl, zat 59 (by decide +kernel) rfl, zat 787 (by decide +kernel) rfl⟩, ⟨by decide +kernel, by decide +kernel, by decide +kernel⟩, by decide⟩
theorem mk_X6_fewest : zKV mi_X6_fewest 2 := ⟨⟨zat 910 (by decide +kernel) rfl, zat 911 (by decide +kernel) rfl, zat 59 (by decide +kernel) rfl, zat 912 (by decide +kernel) rfl⟩, ⟨by decide +kernel, by decide +kernel, by decide +kernel⟩, by decide⟩
theorem mk_X6_find : zKV mi_X6_find 1 := ⟨⟨zat 747 (by decide +kernel) rfl, zat 27 (by decide +kernel) rfl, zat 59 (by decide +kernel) rfl, zat 748 (by decide +kernel) rfl⟩, ⟨by decide +kernel, by decide +kernel, by decide +kernel⟩, by decide⟩
theorem mk_X6_finding : zKV mi_X6_finding 0 := ⟨⟨zat 1033 (by decide +kernel) rfl, zat 1034 (by decide +kernel) rfl, zat 59 (by decide +kernel) rfl, zat 1035 (by decide +kernel) rfl⟩, ⟨by decide +kernel, by decide +kernel, by decide +kernel⟩, by decide⟩
theorem mk_X6_findings : zKV mi_X6_findings 1 := ⟨⟨zat 1037 (by decide +kernel) rfl, zat 1038 (by decide +kernel) rfl, zat 59 (by decide +kernel) rfl, zat 1039 (by decide +kernel) rfl⟩, ⟨by decide +kernel, by decide +kernel, by decide +kernel⟩, by decide⟩
theorem mk_X6_flipped : zKS mi_X6_flipped 2 := ⟨⟨zat 875 (by decide +kernel) rfl, zat 59 (by decide +kernel) rfl, zat 876 (by decide +kernel) rfl⟩, ⟨by decide +kernel, by decide +kernel, by decide +kernel⟩, by decide⟩
theorem mk_X6_fraction : zKV mi_X6_fraction 2 := ⟨⟨zat 988 (by decide +kernel) rfl, zat 48 (by decide +kernel) rfl, zat 59 (by decide +kernel) rfl, zat 989 (by decide +kernel) rfl⟩, ⟨by decide +kernel, by decide +kernel, by decide +kernel⟩, by decide⟩
theorem mk_X6_has : zKS mi_X6_has 2 := ⟨⟨zat 830 (by decide +kernel) rfl, zat 59 (by decide +kernel) rfl, zat 831 (by decide +kernel) rfl⟩, ⟨by decide +kernel, by decide +kernel, by decide +kernel⟩, by decide⟩
theorem mk_X6_in : zKS mi_X6_in 3 := ⟨⟨zat 743 (by decide +kernel) rfl, zat 59 (by decide +kernel) rfl, zat 744 (by decide +kernel) rfl⟩, ⟨by decide +kernel, by decide +kernel, by decide +kernel⟩, by decide⟩
theorem mk_X6_isButton : zKS mi_X6_isButton 1 := ⟨⟨zat 856 (by decide +kernel) rfl, zat 59 (by decide +kernel) rfl, zat 857 (by decide +kernel) rfl⟩, ⟨by decide +kernel, by decide +kernel, by decide +kernel⟩, by decide⟩
theorem mk_X6_isBy : zKV mi_X6_isBy 2 := ⟨⟨zat 927 (by decide +kernel) rfl, zat 40 (by decide +kernel) rfl, zat 59 (by decide +kernel) rfl, zat 928 (by decide +kernel) rfl⟩, ⟨by decide +kernel, by decide +kernel, by decide +kernel⟩, by decide⟩
theorem mk_X6_isLamp : zKV mi_X6_isLamp 1 := ⟨⟨zat 811 (by decide +kernel) rfl, zat 30 (by decide +kernel) rfl, zat 59 (by decide +kernel) rfl, zat 812 (by decide +kernel) rfl⟩, ⟨by decide +kernel, by decide +kernel, by decide +kernel⟩, by decide⟩
theorem mk_X6_isPicture : zKS mi_X6_isPicture 1 := ⟨⟨zat 914 (by decide +kernel) rfl, zat 59 (by decide +kernel) rfl, zat 915 (by decide +kernel) rfl⟩, ⟨by decide +kernel, by decide +kernel, by decide +kernel⟩, by decide⟩
theorem mk_X6_isRow : zKS mi_X6_isRow 1 := ⟨⟨zat 740 (by decide +kernel) rfl, zat 59 (by decide +kernel) rfl, zat 741 (by decide +kernel) rfl⟩, ⟨by decide +kernel, by decide +kernel, by decide +kernel⟩, by decide⟩
theorem mk_X6_isText : zKS mi_X6_isText 1 := ⟨⟨zat 778 (by decide +kernel) rfl, zat 59 (by decide +kernel) rfl, zat 779 (by decide +kernel) rfl⟩, ⟨by decide +kernel, by decide +kernel, by decide +kernel⟩, by decide⟩
theorem mk_X6_isThree : zKS mi_X6_isThree 1 := ⟨⟨zat 799 (by decide +kernel) rfl, zat 59 (by decide +kernel) rfl, zat 800 (by decide +kernel) rfl⟩, ⟨by decide +kernel, by decide +kernel, by decide +kernel⟩, by decide⟩
theorem mk_X6_keep : zKV mi_X6_keep 1 := ⟨⟨zat 882 (by decide +kernel) rfl, zat 883 (by decide +kernel) rfl, zat 59 (by decide +kernel) rfl, zat 884 (by decide +kernel) rfl⟩, ⟨by decide +kernel, by decide +kernel, by decide +kernel⟩, by decide⟩
theorem mk_X6_kindOf : zKS mi_X6_kindOf 1 := ⟨⟨zat 793 (by decide +kernel) rfl, zat 59 (by decide +kernel) rfl, zat 794 (by decide +kernel) rfl⟩, ⟨by decide +kernel, by decide +kernel, by decide +kernel⟩, by decide⟩
theorem mk_X6_kinds : zKV mi_X6_kinds 2 := ⟨⟨zat 938 (by decide +kernel) rfl, zat 939 (by decide +kernel) rfl, zat 59 (by decide +kernel) rfl, zat 940 (by decide +kernel) rfl⟩, ⟨by decide +kernel, by decide +kernel, by decide +kernel⟩, by decide⟩
theorem mk_X6_kindsBy : zKV mi_X6_kindsBy 2 := ⟨⟨zat 947 (by decide +kernel) rfl, zat 42 (by decide +kernel) rfl, zat 59 (by decide +kernel) rfl, zat 948 (by decide +kernel) rfl⟩, ⟨by decide +kernel, by decide +kernel, by decide +kernel⟩, by decide⟩
theorem mk_X6_lamp : zKV mi_X6_lamp 2 := ⟨⟨zat 806 (by decide +kernel) rfl, zat 807 (by decide +kernel) rfl, zat 59 (by decide +kernel) rfl, zat 808 (by decide +kernel) rfl⟩, ⟨by decide +kernel, by decide +kernel, by decide +kernel⟩, by decide⟩
theorem mk_X6_lay : zKV mi_X6_lay 3 := ⟨⟨zat 750 (by decide +kernel) rfl, zat 751 (by decide +kernel) rfl, zat 59 (by decide +kernel) rfl, zat 752 (by decide +kernel) rfl⟩, ⟨by decide +kernel, by decide +kernel, by decide +kernel⟩, by decide⟩
theorem mk_X6_lot : zKV mi_X6_lot 2 := ⟨⟨zat 1006 (by decide +kernel) rfl, zat 49 (by decide +kernel) rfl, zat 59 (by decide +kernel) rfl, zat 1007 (by decide +kernel) rfl⟩, ⟨by decide +kernel, by decide +kernel, by decide +kernel⟩, by decide⟩
theorem mk_X6_lots : zKV mi_X6_lots 2 := ⟨⟨zat 995 (by decide +kernel) rfl, zat 996 (by decide +kernel) rfl, zat 59 (by decide +kernel) rfl, zat 997 (by decide +kernel) rfl⟩, ⟨by decide +kernel, by decide +kernel, by decide +kernel⟩, by decide⟩
theorem mk_X6_lower : zKV mi_X6_lower 0 := ⟨⟨zat 1017 (by decide +kernel) rfl, zat 1018 (by decide +kernel) rfl, zat 59 (by decide +kernel) rfl, zat 1019 (by decide +kernel) rfl⟩, ⟨by decide +kernel, by decide +kernel, by decide +kernel⟩, by decide⟩
theorem mk_X6_mark : zKV mi_X6_mark 2 := ⟨⟨zat 845 (by decide +kernel) rfl, zat 846 (by decide +kernel) rfl, zat 59 (by decide +kernel) rfl, zat 847 (by decide +kernel) rfl⟩, ⟨by decide +kernel, by decide +kernel, by decide +kernel⟩, by decide⟩
theorem mk_X6_mean : zKV mi_X6_mean 1 := ⟨⟨zat 770 (by decide +kernel) rfl, zat 771 (by decide +kernel) rfl, zat 59 (by decide +kernel) rfl, zat 772 (by decide +kernel) rfl⟩, ⟨by decide +kernel, by decide +kernel, by decide +kernel⟩, by decide⟩
theorem mk_X6_mid : zKV mi_X6_mid 2 := ⟨⟨zat 991 (by decide +kernel) rfl, zat 992 (by decide +kernel) rfl, zat 59 (by decide +kernel) rfl, zat 993 (by decide +kernel) rfl⟩, ⟨by decide +kernel, by decide +kernel, by decide +kernel⟩, by decide⟩
theorem mk_X6_most : zKV mi_X6_most 0 := ⟨⟨zat 902 (by decide +kernel) rfl, zat 903 (by decide +kernel) rfl, zat 59 (by decide +kernel) rfl, zat 904 (by decide +kernel) rfl⟩, ⟨by decide +kernel, by decide +kernel, by decide +kernel⟩, by decide⟩
theorem mk_X6_next : zKV mi_X6_next 2 := ⟨⟨zat 954 (by decide +kernel) rfl, zat 955 (by decide +kernel) rfl, zat 59 (by decide +kernel) rfl, zat 956 (by decide +kernel) rfl⟩, ⟨by decide +kernel, by decide +kernel, by decide +kernel⟩, by decide⟩
theorem mk_X6_now : zKV mi_X6_now 1 := ⟨⟨zat 819 (by decide +kernel) rfl, zat 32 (by decide +kernel) rfl, zat 59 (by decide +kernel) rfl, zat 820 (by decide +kernel) rfl⟩, ⟨by decide +kernel, by decide +kernel, by decide +kernel⟩, by decide⟩
theorem mk_X6_odds : zKV mi_X6_odds 3 := ⟨⟨zat 970 (by decide +kernel) rfl, zat 971 (by decide +kernel) rfl, zat 59 (by decide +kernel) rfl, zat 972 (by decide +kernel) rfl⟩, ⟨by decide +kernel, by decide +kernel, by decide +kernel⟩, by decide⟩
theorem mk_X6_on : zKV mi_X6_on 1 := ⟨⟨zat 886 (by decide +kernel) rfl, zat 887 (by decide +kernel) rfl, zat 59 (by decide +kernel) rfl, zat 888 (by decide +kernel) rfl⟩, ⟨by decide +kernel, by decide +kernel, by decide +kernel⟩, by decide⟩
theorem mk_X6_pairs : zKV mi_X6_pairs 1 := ⟨⟨zat 943 (by decide +kernel) rfl, zat 41 (by decide +kernel) rfl, zat 59 (by decide +kernel) rfl, zat 944 (by decide +kernel) rfl⟩, ⟨by decide +kernel, by decide +kernel, by decide +kernel⟩, by decide⟩
theorem mk_X6_press : zKV mi_X6_press 1 := ⟨⟨zat 852 (by decide +kernel) rfl, zat 853 (by decide +kernel) rfl, zat 59 (by decide +kernel) rfl, zat 854 (by decide +kernel) rfl⟩, ⟨by decide +kernel, by decide +kernel, by decide +kernel⟩, by decide⟩
theorem mk_X6_pressOn : zKV mi_X6_pressOn 4 := ⟨⟨zat 864 (by decide +kernel) rfl, zat 36 (by decide +kernel) rfl, zat 59 (by decide +kernel) rfl, zat 865 (by decide +kernel) rfl⟩, ⟨by decide +kernel, by decide +kernel, by decide +kernel⟩, by decide⟩
theorem mk_X6_put : zKV mi_X6_put 3 := ⟨⟨zat 781 (by decide +kernel) rfl, zat 782 (by decide +kernel) rfl, zat 59 (by decide +kernel) rfl, zat 783 (by decide +kernel) rfl⟩, ⟨by decide +kernel, by decide +kernel, by decide +kernel⟩, by decide⟩
theorem mk_X6_read : zKV mi_X6_read 1 := ⟨⟨zat 790 (by decide +kernel) rfl, zat 29 (by decide +kernel) rfl, zat 59 (by decide +kernel) rfl, zat 791 (by decide +kernel) rfl⟩, ⟨by decide +kernel, by decide +kernel, by decide +kernel⟩, by decide⟩
theorem mk_X6_row : zKV mi_X6_row 2 := ⟨⟨zat 736 (by decide +kernel) rfl, zat 737 (by decide +kernel) rfl, zat 59 (by decide +kernel) rfl, zat 738 (by decide +kernel) rfl⟩, ⟨by decide +kernel, by decide +kernel, by decide +kernel⟩, by decide⟩
theorem mk_X6_set : zKV mi_X6_set 2 := ⟨⟨zat 867 (by decide +kernel) rfl, zat 868 (by decide +kernel) rfl, zat 59 (by decide +kernel) rfl, zat 869 (by decide +kernel) rfl⟩, ⟨by decide +kernel, by decide +kernel, by decide +kernel⟩, by decide⟩
theorem mk_X6_shown : zKV mi_X6_shown 0 := ⟨⟨zat 823 (by decide +kernel) rfl, zat 33 (by decide +kernel) rfl, zat 59 (by decide +kernel) rfl, zat 824 (by decide +kernel) rfl⟩, ⟨by decide +kernel, by decide +kernel, by decide +kernel⟩, by decide⟩
theorem mk_X6_shownBehind : zKV mi_X6_shownBehind 1 := ⟨⟨zat 907 (by decide +kernel) rfl, zat 38 (by decide +kernel) rfl, zat 59 (by decide +kernel) rfl, zat 908 (by decide +kernel) rfl⟩, ⟨by decide +kernel, by decide +kernel, by decide +kernel⟩, by decide⟩
theorem mk_X6_shownBut : zKV mi_X6_shownBut 2 := ⟨⟨zat 980 (by decide +kernel) rfl, zat 46 (by decide +kernel) rfl, zat 59 (by decide +kernel) rfl, zat 981 (by decide +kernel) rfl⟩, ⟨by decide +kernel, by decide +kernel, by decide +kernel⟩, by decide⟩
theorem mk_X6_shownBy : zKV mi_X6_shownBy 2 := ⟨⟨zat 827 (by decide +kernel) rfl, zat 34 (by decide +kernel) rfl, zat 59 (by decide +kernel) rfl, zat 828 (by decide +kernel) rfl⟩, ⟨by decide +kernel, by decide +kernel, by decide +kernel⟩, by decide⟩
theorem mk_X6_shownByCode : zKV mi_X6_shownByCode 2 := ⟨⟨zat 918 (by decide +kernel) rfl, zat 39 (by decide +kernel) rfl, zat 59 (by decide +kernel) rfl, zat 919 (by decide +kernel) rfl⟩, ⟨by decide +kernel, by decide +kernel, by decide +kernel⟩, by decide⟩
theorem mk_X6_shows : zKV mi_X6_shows 1 := ⟨⟨zat 894 (by decide +kernel) rfl, zat 895 (by decide +kernel) rfl, zat 59 (by decide +kernel) rfl, zat 896 (by decide +kernel) rfl⟩, ⟨by decide +kernel, by decide +kernel, by decide +kernel⟩, by decide⟩
theorem mk_X6_stepsOf : zKS mi_X6_stepsOf 1 := ⟨⟨zat 796 (by decide +kernel) rfl, zat 59 (by decide +kernel) rfl, zat 797 (by decide +kernel) rfl⟩, ⟨by decide +kernel, by decide +kernel, by decide +kernel⟩, by decide⟩
theorem mk_X6_sumOf : zKV mi_X6_sumOf 1 := ⟨⟨zat 1026 (by decide +kernel) rfl, zat 50 (by decide +kernel) rfl, zat 59 (by decide +kernel) rfl, zat 1027 (by decide +kernel) rfl⟩, ⟨by decide +kernel, by decide +kernel, by decide +kernel⟩, by decide⟩
theorem mk_X6_sums : zKV mi_X6_sums 1 := ⟨⟨zat 958 (by decide +kernel) rfl, zat 959 (by decide +kernel) rfl, zat 59 (by decide +kernel) rfl, zat 960 (by decide +kernel) rfl⟩, ⟨by decide +kernel, by decide +kernel, by decide +kernel⟩, by decide⟩
theorem mk_X6_sure : zKV mi_X6_sure 1 := ⟨⟨zat 930 (by decide +kernel) rfl, zat 931 (by decide +kernel) rfl, zat 59 (by decide +kernel) rfl, zat 932 (by decide +kernel) rfl⟩, ⟨by decide +kernel, by decide +kernel, by decide +kernel⟩, by decide⟩
theorem mk_X6_take : zKV mi_X6_take 0 := ⟨⟨zat 899 (by decide +kernel) rfl, zat 37 (by decide +kernel) rfl, zat 59 (by decide +kernel) rfl, zat 900 (by decide +kernel) rfl⟩, ⟨by decide +kernel, by decide +kernel, by decide +kernel⟩, by decide⟩
theorem mk_X6_tear : zKV mi_X6_tear 1 := ⟨⟨zat 762 (by decide +kernel) rfl, zat 763 (by decide +kernel) rfl, zat 59 (by decide +kernel) rfl, zat 764 (by decide +kernel) rfl⟩, ⟨by decide +kernel, by decide +kernel, by decide +kernel⟩, by decide⟩
theorem mk_X6_text : zKV mi_X6_text 2 := ⟨⟨zat 774 (by decide +kernel) rfl, zat 775 (by decide +kernel) rfl, zat 59 (by decide +kernel) rfl, zat 776 (by decide +kernel) rfl⟩, ⟨by decide +kernel, by decide +kernel, by decide +kernel⟩, by decide⟩
theorem mk_X6_thereAre : zKV mi_X6_thereAre 1 := ⟨⟨zat 1030 (by decide +kernel) rfl, zat 51 (by decide +kernel) rfl, zat 59 (by decide +kernel) rfl, zat 1031 (by decide +kernel) rfl⟩, ⟨by decide +kernel, by decide +kernel, by decide +kernel⟩, by decide⟩
theorem mk_X6_told : zKV mi_X6_told 1 := ⟨⟨zat 755 (by decide +kernel) rfl, zat 28 (by decide +kernel) rfl, zat 59 (by decide +kernel) rfl, zat 756 (by decide +kernel) rfl⟩, ⟨by decide +kernel, by decide +kernel, by decide +kernel⟩, by decide⟩
theorem mk_X6_touched : zKV mi_X6_touched 4 := ⟨⟨zat 890 (by decide +kernel) rfl, zat 891 (by decide +kernel) rfl, zat 59 (by decide +kernel) rfl, zat 892 (by decide +kernel) rfl⟩, ⟨by decide +kernel, by decide +kernel, by decide +kernel⟩, by decide⟩
theorem mk_X6_touchedBy : zKS mi_X6_touchedBy 1 := ⟨⟨zat 836 (by decide +kernel) rfl, zat 59 (by decide +kernel) rfl, zat 837 (by decide +kernel) rfl⟩, ⟨by decide +kernel, by decide +kernel, by decide +kernel⟩, by decide⟩
theorem mk_X6_undo : zKV mi_X6_undo 1 := ⟨⟨zat 878 (by decide +kernel) rfl, zat 879 (by decide +kernel) rfl, zat 59 (by decide +kernel) rfl, zat 880 (by decide +kernel) rfl⟩, ⟨by decide +kernel, by decide +kernel, by decide +kernel⟩, by decide⟩
theorem mk_X6_upper : zKV mi_X6_upper 0 := ⟨⟨zat 1013 (by decide +kernel) rfl, zat 1014 (by decide +kernel) rfl, zat 59 (by decide +kernel) rfl, zat 1015 (by decide +kernel) rfl⟩, ⟨by decide +kernel, by decide +kernel, by decide +kernel⟩, by decide⟩
theorem mk_X6_wall : zKV mi_X6_wall 1 := ⟨⟨zat 802 (by decide +kernel) rfl, zat 803 (by decide +kernel) rfl, zat 59 (by decide +kernel) rfl, zat 804 (by decide +kernel) rfl⟩, ⟨by decide +kernel, by decide +kernel, by decide +kernel⟩, by decide⟩
theorem mk_X6_ways : zKV mi_X6_ways 1 := ⟨⟨zat 922 (by decide +kernel) rfl, zat 923 (by decide +kernel) rfl, zat 59 (by decide +kernel) rfl, zat 924 (by decide +kernel) rfl⟩, ⟨by decide +kernel, by decide +kernel, by decide +kernel⟩, by decide⟩
theorem mk_X6_waysOf : zKV mi_X6_waysOf 3 := ⟨⟨zat 975 (by decide +kernel) rfl, zat 45 (by decide +kernel) rfl, zat 59 (by decide +kernel) rfl, zat 976 (by decide +kernel) rfl⟩, ⟨by decide +kernel, by decide +kernel, by decide +kernel⟩, by decide⟩
theorem mk_X6_which : zKV mi_X6_which 1 := ⟨⟨zat 934 (by decide +kernel) rfl, zat 935 (by decide +kernel) rfl, zat 59 (by decide +kernel) rfl, zat 936 (by decide +kernel) rfl⟩, ⟨by decide +kernel, by decide +kernel, by decide +kernel⟩, by decide⟩
theorem mk_X6_worthOf : zKV mi_X6_worthOf 3 := ⟨⟨zat 967 (by decide +kernel) rfl, zat 44 (by decide +kernel) rfl, zat 59 (by decide +kernel) rfl, zat 968 (by decide +kernel) rfl⟩, ⟨by decide +kernel, by decide +kernel, by decide +kernel⟩, by decide⟩
theorem mk_X6_wouldShow : zKV mi_X6_wouldShow 3 := ⟨⟨zat 951 (by decide +kernel) rfl, zat 43 (by decide +kernel) rfl, zat 59 (by decide +kernel) rfl, zat 952 (by decide +kernel) rfl⟩, ⟨by decide +kernel, by decide +kernel, by decide +kernel⟩, by decide⟩
theorem ck_J6_265 : Cond.constant RJ6 265 (1431655765) ∈ ztbl := zat 415 (by decide +kernel) rfl
theorem ck_J6_266 : Cond.constant RJ6 266 (858993459) ∈ ztbl := zat 416 (by decide +kernel) rfl
theorem ck_J6_267 : Cond.constant RJ6 267 (252645135) ∈ ztbl := zat 417 (by decide +kernel) rfl
theorem ck_X3_43 : Cond.constantLong RX3 43 (31) ∈ ztbl := zat 669 (by decide +kernel) rfl
theorem ck_X5_269 : Cond.constantLong RX5 269 (12) ∈ ztbl := zat 602 (by decide +kernel) rfl
theorem ck_X5_271 : Cond.constantLong RX5 271 (2147483647) ∈ ztbl := zat 611 (by decide +kernel) rfl
theorem ck_X5_273 : Cond.constantLong RX5 273 (48271) ∈ ztbl := zat 612 (by decide +kernel) rfl
theorem ck_X5_275 : Cond.constantLong RX5 275 (9) ∈ ztbl := zat 613 (by decide +kernel) rfl
theorem ck_X5_277 : Cond.constantLong RX5 277 (16) ∈ ztbl := zat 614 (by decide +kernel) rfl
theorem ck_X5_279 : Cond.constantLong RX5 279 (8) ∈ ztbl := zat 615 (by decide +kernel) rfl
theorem ck_X5_287 : Cond.constantLong RX5 287 (17) ∈ ztbl := zat 663 (by decide +kernel) rfl
theorem ck_X5_289 : Cond.constantLong RX5 289 (31) ∈ ztbl := zat 664 (by decide +kernel) rfl
theorem ck_X6_182 : Cond.constantLong RX6 182 (12) ∈ ztbl := zat 977 (by decide +kernel) rfl
theorem ck_X6_199 : Cond.constant RX6 199 (2147483646) ∈ ztbl := zat 998 (by decide +kernel) rfl
theorem ck_X6_200 : Cond.constantLong RX6 200 (48271) ∈ ztbl := zat 999 (by decide +kernel) rfl
theorem ck_X6_202 : Cond.constantLong RX6 202 (2147483647) ∈ ztbl := zat 1000 (by decide +kernel) rfl
theorem ck_X6_204 : Cond.constantLong RX6 204 (16) ∈ ztbl := zat 1001 (by decide +kernel) rfl
theorem ck_X6_206 : Cond.constantLong RX6 206 (8) ∈ ztbl := zat 1002 (by decide +kernel) rfl
theorem ck_X6_208 : Cond.constantLong RX6 208 (9) ∈ ztbl := zat 1003 (by decide +kernel) rfl
theorem ck_X6_220 : Cond.constantLong RX6 220 (17) ∈ ztbl := zat 1044 (by decide +kernel) rfl
theorem ck_X6_222 : Cond.constantLong RX6 222 (31) ∈ ztbl := zat 1045 (by decide +kernel) rfl
theorem fk_X0_15 : zFK RX0 15 1 0 := ⟨by decide, by decide, zat 97 (by decide +kernel) rfl⟩
theorem fk_X0_19 : zFK RX0 19 1 1 := ⟨by decide, by decide, zat 99 (by decide +kernel) rfl⟩
theorem fk_X0_22 : zFK RX0 22 1 2 := ⟨by decide, by decide, zat 101 (by decide +kernel) rfl⟩
theorem fk_X0_25 : zFK RX0 25 1 3 := ⟨by decide, by decide, zat 103 (by decide +kernel) rfl⟩
theorem fk_X0_28 : zFK RX0 28 1 4 := ⟨by decide, by decide, zat 104 (by decide +kernel) rfl⟩
theorem fk_X1_9 : zFK RX1 9 2 0 := ⟨by decide, by decide, zat 80 (by decide +kernel) rfl⟩
theorem fk_X1_15 : zFK RX1 15 2 1 := ⟨by decide, by decide, zat 81 (by decide +kernel) rfl⟩
theorem fk_X1_18 : zFK RX1 18 2 2 := ⟨by decide, by decide, zat 82 (by decide +kernel) rfl⟩
theorem fk_X2_12 : zFK RX2 12 3 0 := ⟨by decide, by decide, zat 124 (by decide +kernel) rfl⟩
theorem fk_X2_18 : zFK RX2 18 3 1 := ⟨by decide, by decide, zat 126 (by decide +kernel) rfl⟩
theorem fk_X3_9 : zFK RX3 9 4 1 := ⟨by decide, by decide, zat 142 (by decide +kernel) rfl⟩
theorem fk_X3_21 : zFK RX3 21 4 0 := ⟨by decide, by decide, zat 141 (by decide +kernel) rfl⟩
theorem fk_X5_11 : zFK RX5 11 0 0 := ⟨by decide, by decide, zat 148 (by decide +kernel) rfl⟩
theorem fk_X5_15 : zFK RX5 15 0 1 := ⟨by decide, by decide, zat 149 (by decide +kernel) rfl⟩
theorem fk_X5_20 : zFK RX5 20 0 2 := ⟨by decide, by decide, zat 150 (by decide +kernel) rfl⟩
theorem fk_X5_25 : zFK RX5 25 0 3 := ⟨by decide, by decide, zat 151 (by decide +kernel) rfl⟩
theorem fk_X5_32 : zFK RX5 32 0 4 := ⟨by decide, by decide, zat 152 (by decide +kernel) rfl⟩
theorem fk_X5_36 : zFK RX5 36 0 5 := ⟨by decide, by decide, zat 153 (by decide +kernel) rfl⟩
theorem fk_X5_42 : zFK RX5 42 0 6 := ⟨by decide, by decide, zat 154 (by decide +kernel) rfl⟩
theorem fk_X5_46 : zFK RX5 46 0 7 := ⟨by decide, by decide, zat 155 (by decide +kernel) rfl⟩
theorem fk_X5_50 : zFK RX5 50 0 8 := ⟨by decide, by decide, zat 156 (by decide +kernel) rfl⟩
theorem fk_X5_53 : zFK RX5 53 0 9 := ⟨by decide, by decide, zat 157 (by decide +kernel) rfl⟩
theorem fk_X5_56 : zFK RX5 56 0 10 := ⟨by decide, by decide, zat 158 (by decide +kernel) rfl⟩
theorem fk_X5_60 : zFK RX5 60 0 11 := ⟨by decide, by decide, zat 159 (by decide +kernel) rfl⟩
theorem fk_X5_63 : zFK RX5 63 0 12 := ⟨by decide, by decide, zat 160 (by decide +kernel) rfl⟩
theorem fk_X5_67 : zFK RX5 67 0 13 := ⟨by decide, by decide, zat 161 (by decide +kernel) rfl⟩
theorem fk_X5_132 : zFK RX5 132 3 0 := ⟨by decide, by decide, zat 125 (by decide +kernel) rfl⟩
theorem fk_X5_137 : zFK RX5 137 3 1 := ⟨by decide, by decide, zat 127 (by decide +kernel) rfl⟩
theorem fk_X5_167 : zFK RX5 167 1 1 := ⟨by decide, by decide, zat 100 (by decide +kernel) rfl⟩
theorem fk_X5_318 : zFK RX5 318 1 0 := ⟨by decide, by decide, zat 98 (by decide +kernel) rfl⟩
theorem fk_X5_321 : zFK RX5 321 1 2 := ⟨by decide, by decide, zat 102 (by decide +kernel) rfl⟩
theorem fk_X6_7 : zFK RX6 7 5 1 := ⟨by decide, by decide, zat 677 (by decide +kernel) rfl⟩
theorem fk_X6_13 : zFK RX6 13 5 4 := ⟨by decide, by decide, zat 680 (by decide +kernel) rfl⟩
theorem fk_X6_17 : zFK RX6 17 5 5 := ⟨by decide, by decide, zat 681 (by decide +kernel) rfl⟩
theorem fk_X6_20 : zFK RX6 20 5 6 := ⟨by decide, by decide, zat 682 (by decide +kernel) rfl⟩
theorem fk_X6_23 : zFK RX6 23 5 7 := ⟨by decide, by decide, zat 683 (by decide +kernel) rfl⟩
theorem fk_X6_26 : zFK RX6 26 5 8 := ⟨by decide, by decide, zat 684 (by decide +kernel) rfl⟩
theorem fk_X6_30 : zFK RX6 30 5 9 := ⟨by decide, by decide, zat 685 (by decide +kernel) rfl⟩
theorem fk_X6_33 : zFK RX6 33 5 11 := ⟨by decide, by decide, zat 687 (by decide +kernel) rfl⟩
theorem fk_X6_36 : zFK RX6 36 5 12 := ⟨by decide, by decide, zat 688 (by decide +kernel) rfl⟩
theorem fk_X6_39 : zFK RX6 39 5 13 := ⟨by decide, by decide, zat 689 (by decide +kernel) rfl⟩
theorem fk_X6_42 : zFK RX6 42 5 15 := ⟨by decide, by decide, zat 691 (by decide +kernel) rfl⟩
theorem fk_X6_45 : zFK RX6 45 5 16 := ⟨by decide, by decide, zat 692 (by decide +kernel) rfl⟩
theorem fk_X6_48 : zFK RX6 48 5 17 := ⟨by decide, by decide, zat 693 (by decide +kernel) rfl⟩
theorem fk_X6_51 : zFK RX6 51 5 18 := ⟨by decide, by decide, zat 694 (by decide +kernel) rfl⟩
theorem fk_X6_54 : zFK RX6 54 5 0 := ⟨by decide, by decide, zat 676 (by decide +kernel) rfl⟩
theorem fk_X6_58 : zFK RX6 58 5 2 := ⟨by decide, by decide, zat 678 (by decide +kernel) rfl⟩
theorem fk_X6_61 : zFK RX6 61 5 3 := ⟨by decide, by decide, zat 679 (by decide +kernel) rfl⟩
theorem fk_X6_94 : zFK RX6 94 5 10 := ⟨by decide, by decide, zat 686 (by decide +kernel) rfl⟩
theorem fk_X6_97 : zFK RX6 97 5 14 := ⟨by decide, by decide, zat 690 (by decide +kernel) rfl⟩
theorem lk_X0_9 : zLS RX0 9 mi_X0_isA 2 := ⟨zat 313 (by decide +kernel) rfl, mk_X0_isA⟩
theorem lk_X0_31 : zLS RX0 31 mi_X0_changed 3 := ⟨zat 320 (by decide +kernel) rfl, mk_X0_changed⟩
theorem lk_X0_35 : zLS RX0 35 mi_X4_above 1 := ⟨zat 385 (by decide +kernel) rfl, mk_X4_above⟩
theorem lk_X0_41 : zLS RX0 41 mi_X4_broken 1 := ⟨zat 388 (by decide +kernel) rfl, mk_X4_broken⟩
theorem lk_X0_44 : Cond.methodLinkNest RX0 44 mi_X5_touchedBy.1 "TouchedLamps" = zNL ∧ zKS mi_X5_touchedBy 1 := ⟨rfl, mk_X5_touchedBy⟩
theorem lk_X0_51 : zLS RX0 51 mi_X4_ones 1 := ⟨zat 403 (by decide +kernel) rfl, mk_X4_ones⟩
theorem lk_X0_54 : zLS RX0 54 mi_X4_twos 1 := ⟨zat 404 (by decide +kernel) rfl, mk_X4_twos⟩
theorem lk_X0_57 : zLS RX0 57 mi_X4_join 3 := ⟨zat 405 (by decide +kernel) rfl, mk_X4_join⟩
theorem lk_X1_22 : zLS RX1 22 mi_J9_max_7cf53 2 := ⟨zat 476 (by decide +kernel) rfl, mk_J9_max_7cf53⟩
theorem lk_X2_32 : zLS RX2 32 mi_X2_kindBy 1 := ⟨zat 307 (by decide +kernel) rfl, mk_X2_kindBy⟩
theorem lk_X2_35 : zLS RX2 35 mi_X0_lastStep 1 := ⟨zat 310 (by decide +kernel) rfl, mk_X0_lastStep⟩
theorem lk_X2_42 : zLS RX2 42 mi_X4_with 3 := ⟨zat 323 (by decide +kernel) rfl, mk_X4_with⟩
theorem lk_X3_15 : zLS RX3 15 mi_J9_max_7cf53 2 := ⟨zat 138 (by decide +kernel) rfl, mk_J9_max_7cf53⟩
theorem lk_X4_11 : zLS RX4 11 mi_X4_ones 1 := ⟨zat 326 (by decide +kernel) rfl, mk_X4_ones⟩
theorem lk_X4_15 : zLS RX4 15 mi_X4_twos 1 := ⟨zat 329 (by decide +kernel) rfl, mk_X4_twos⟩
theorem lk_X4_18 : zLS RX4 18 mi_X4_broken 1 := ⟨zat 332 (by decide +kernel) rfl, mk_X4_broken⟩
theorem lk_X4_21 : zLS RX4 21 mi_X4_join 3 := ⟨zat 335 (by decide +kernel) rfl, mk_X4_join⟩
theorem lk_X4_25 : zLS RX4 25 mi_J6_bitCount_0f7a4 1 := ⟨zat 584 (by decide +kernel) rfl, mk_J6_bitCount_0f7a4⟩
theorem lk_X5_157 : zLS RX5 157 mi_X0_isA 2 := ⟨zat 410 (by decide +kernel) rfl, mk_X0_isA⟩
theorem lk_X5_162 : zLS RX5 162 mi_X4_of 2 := ⟨zat 378 (by decide +kernel) rfl, mk_X4_of⟩
theorem lk_X5_170 : zLS RX5 170 mi_X4_above 1 := ⟨zat 411 (by decide +kernel) rfl, mk_X4_above⟩
theorem lk_X5_173 : zLS RX5 173 mi_J6_bitCount_0f7a4 1 := ⟨zat 412 (by decide +kernel) rfl, mk_J6_bitCount_0f7a4⟩
theorem lk_X5_178 : zLS RX5 178 mi_X5_touchedBy 1 := ⟨zat 390 (by decide +kernel) rfl, mk_X5_touchedBy⟩
theorem lk_X5_203 : zLS RX5 203 mi_X4_broken 1 := ⟨zat 389 (by decide +kernel) rfl, mk_X4_broken⟩
theorem lk_X5_219 : zLS RX5 219 mi_X4_with 3 := ⟨zat 456 (by decide +kernel) rfl, mk_X4_with⟩
theorem lk_X5_236 : zLS RX5 236 mi_X5_reaches 7 := ⟨zat 521 (by decide +kernel) rfl, mk_X5_reaches⟩
theorem lk_X5_260 : zLS RX5 260 mi_X4_total 2 := ⟨zat 581 (by decide +kernel) rfl, mk_X4_total⟩
theorem lk_X5_262 : zLS RX5 262 mi_X5_wonBy 7 := ⟨zat 589 (by decide +kernel) rfl, mk_X5_wonBy⟩
theorem lk_X5_266 : zLS RX5 266 mi_X5_twelfths 4 := ⟨zat 599 (by decide +kernel) rfl, mk_X5_twelfths⟩
theorem lk_X5_298 : zLS RX5 298 mi_X0_lastStep 1 := ⟨zat 451 (by decide +kernel) rfl, mk_X0_lastStep⟩
theorem lk_X5_304 : zLS RX5 304 mi_X5_commonDivisor 2 := ⟨zat 536 (by decide +kernel) rfl, mk_X5_commonDivisor⟩
theorem lk_X5_308 : zLS RX5 308 mi_X5_countRows 2 := ⟨zat 640 (by decide +kernel) rfl, mk_X5_countRows⟩
theorem lk_X5_327 : zLS RX5 327 mi_X4_withBroken 2 := ⟨zat 465 (by decide +kernel) rfl, mk_X4_withBroken⟩
theorem lk_X5_340 : zLS RX5 340 mi_J9_max_7cf53 2 := ⟨zat 576 (by decide +kernel) rfl, mk_J9_max_7cf53⟩
theorem lk_X5_345 : zLS RX5 345 mi_J9_min_7cf53 2 := ⟨zat 592 (by decide +kernel) rfl, mk_J9_min_7cf53⟩
theorem lk_X6_64 : zLS RX6 64 mi_X6_in 3 := ⟨zat 742 (by decide +kernel) rfl, mk_X6_in⟩
theorem lk_X6_68 : zLS RX6 68 mi_X6_isRow 1 := ⟨zat 739 (by decide +kernel) rfl, mk_X6_isRow⟩
theorem lk_X6_79 : zLS RX6 79 mi_X6_isText 1 := ⟨zat 777 (by decide +kernel) rfl, mk_X6_isText⟩
theorem lk_X6_82 : zLS RX6 82 mi_X6_isThree 1 := ⟨zat 798 (by decide +kernel) rfl, mk_X6_isThree⟩
theorem lk_X6_85 : zLS RX6 85 mi_X6_kindOf 1 := ⟨zat 792 (by decide +kernel) rfl, mk_X6_kindOf⟩
theorem lk_X6_88 : zLS RX6 88 mi_X6_stepsOf 1 := ⟨zat 795 (by decide +kernel) rfl, mk_X6_stepsOf⟩
theorem lk_X6_100 : zLS RX6 100 mi_X6_doesTouch 2 := ⟨zat 838 (by decide +kernel) rfl, mk_X6_doesTouch⟩
theorem lk_X6_104 : zLS RX6 104 mi_X6_has 2 := ⟨zat 829 (by decide +kernel) rfl, mk_X6_has⟩
theorem lk_X6_107 : zLS RX6 107 mi_X6_doesShow 2 := ⟨zat 832 (by decide +kernel) rfl, mk_X6_doesShow⟩
theorem lk_X6_114 : zLS RX6 114 mi_X6_after 4 := ⟨zat 841 (by decide +kernel) rfl, mk_X6_after⟩
theorem lk_X6_125 : zLS RX6 125 mi_X6_touchedBy 1 := ⟨zat 835 (by decide +kernel) rfl, mk_X6_touchedBy⟩
theorem lk_X6_135 : zLS RX6 135 mi_X6_bitsOf 1 := ⟨zat 848 (by decide +kernel) rfl, mk_X6_bitsOf⟩
theorem lk_X6_138 : zLS RX6 138 mi_X6_isButton 1 := ⟨zat 855 (by decide +kernel) rfl, mk_X6_isButton⟩
theorem lk_X6_148 : zLS RX6 148 mi_X6_flipped 2 := ⟨zat 874 (by decide +kernel) rfl, mk_X6_flipped⟩
theorem lk_X6_157 : zLS RX6 157 mi_X6_isPicture 1 := ⟨zat 913 (by decide +kernel) rfl, mk_X6_isPicture⟩
theorem lk_L_13 : zLV RL 13 mi_X5_row 2 := ⟨zat 191 (by decide +kernel) rfl, mk_X5_row⟩
theorem lk_L_17 : zLV RL 17 mi_X6_row 2 := ⟨zat 735 (by decide +kernel) rfl, mk_X6_row⟩
theorem lk_L_18 : zLV RL 18 mi_X5_lay 3 := ⟨zat 211 (by decide +kernel) rfl, mk_X5_lay⟩
theorem lk_L_22 : zLV RL 22 mi_X6_lay 3 := ⟨zat 749 (by decide +kernel) rfl, mk_X6_lay⟩
theorem lk_L_23 : zLV RL 23 mi_X5_at 2 := ⟨zat 244 (by decide +kernel) rfl, mk_X5_at⟩
theorem lk_L_26 : zLV RL 26 mi_X6_at 2 := ⟨zat 757 (by decide +kernel) rfl, mk_X6_at⟩
theorem lk_L_27 : zLV RL 27 mi_X5_tear 1 := ⟨zat 248 (by decide +kernel) rfl, mk_X5_tear⟩
theorem lk_L_31 : zLV RL 31 mi_X6_tear 1 := ⟨zat 761 (by decide +kernel) rfl, mk_X6_tear⟩
theorem lk_L_32 : zLV RL 32 mi_X5_copy 5 := ⟨zat 256 (by decide +kernel) rfl, mk_X5_copy⟩
theorem lk_L_36 : zLV RL 36 mi_X6_copy 5 := ⟨zat 765 (by decide +kernel) rfl, mk_X6_copy⟩
theorem lk_L_37 : zLV RL 37 mi_X5_mean 1 := ⟨zat 272 (by decide +kernel) rfl, mk_X5_mean⟩
theorem lk_L_40 : zLV RL 40 mi_X6_mean 1 := ⟨zat 769 (by decide +kernel) rfl, mk_X6_mean⟩
theorem lk_L_41 : zLV RL 41 mi_X5_text 2 := ⟨zat 285 (by decide +kernel) rfl, mk_X5_text⟩
theorem lk_L_44 : zLV RL 44 mi_X6_text 2 := ⟨zat 773 (by decide +kernel) rfl, mk_X6_text⟩
theorem lk_L_45 : zLV RL 45 mi_X5_put 3 := ⟨zat 293 (by decide +kernel) rfl, mk_X5_put⟩
theorem lk_L_48 : zLV RL 48 mi_X6_put 3 := ⟨zat 780 (by decide +kernel) rfl, mk_X6_put⟩
theorem lk_L_49 : zLV RL 49 mi_X5_fault 1 := ⟨zat 297 (by decide +kernel) rfl, mk_X5_fault⟩
theorem lk_L_52 : zLV RL 52 mi_X6_fault 1 := ⟨zat 784 (by decide +kernel) rfl, mk_X6_fault⟩
theorem lk_L_53 : zLV RL 53 mi_X5_wall 1 := ⟨zat 338 (by decide +kernel) rfl, mk_X5_wall⟩
theorem lk_L_56 : zLV RL 56 mi_X6_wall 1 := ⟨zat 801 (by decide +kernel) rfl, mk_X6_wall⟩
theorem lk_L_57 : zLV RL 57 mi_X5_lamp 2 := ⟨zat 354 (by decide +kernel) rfl, mk_X5_lamp⟩
theorem lk_L_60 : zLV RL 60 mi_X6_lamp 2 := ⟨zat 805 (by decide +kernel) rfl, mk_X6_lamp⟩
theorem lk_L_61 : zLV RL 61 mi_X5_mark 2 := ⟨zat 406 (by decide +kernel) rfl, mk_X5_mark⟩
theorem lk_L_64 : zLV RL 64 mi_X6_mark 2 := ⟨zat 844 (by decide +kernel) rfl, mk_X6_mark⟩
theorem lk_L_65 : zLV RL 65 mi_X5_press 1 := ⟨zat 418 (by decide +kernel) rfl, mk_X5_press⟩
theorem lk_L_68 : zLV RL 68 mi_X6_press 1 := ⟨zat 851 (by decide +kernel) rfl, mk_X6_press⟩
theorem lk_L_69 : zLV RL 69 mi_X5_set 2 := ⟨zat 443 (by decide +kernel) rfl, mk_X5_set⟩
theorem lk_L_72 : zLV RL 72 mi_X6_set 2 := ⟨zat 866 (by decide +kernel) rfl, mk_X6_set⟩
theorem lk_L_73 : zLV RL 73 mi_X5_crack 1 := ⟨zat 457 (by decide +kernel) rfl, mk_X5_crack⟩
theorem lk_L_76 : zLV RL 76 mi_X6_crack 1 := ⟨zat 870 (by decide +kernel) rfl, mk_X6_crack⟩
theorem lk_L_77 : zLV RL 77 mi_X5_undo 1 := ⟨zat 468 (by decide +kernel) rfl, mk_X5_undo⟩
theorem lk_L_80 : zLV RL 80 mi_X6_undo 1 := ⟨zat 877 (by decide +kernel) rfl, mk_X6_undo⟩
theorem lk_L_81 : zLV RL 81 mi_X5_keep 1 := ⟨zat 481 (by decide +kernel) rfl, mk_X5_keep⟩
theorem lk_L_84 : zLV RL 84 mi_X6_keep 1 := ⟨zat 881 (by decide +kernel) rfl, mk_X6_keep⟩
theorem lk_L_85 : zLV RL 85 mi_X5_on 1 := ⟨zat 493 (by decide +kernel) rfl, mk_X5_on⟩
theorem lk_L_88 : zLV RL 88 mi_X6_on 1 := ⟨zat 885 (by decide +kernel) rfl, mk_X6_on⟩
theorem lk_L_89 : zLV RL 89 mi_X5_touched 4 := ⟨zat 497 (by decide +kernel) rfl, mk_X5_touched⟩
theorem lk_L_93 : zLV RL 93 mi_X6_touched 4 := ⟨zat 889 (by decide +kernel) rfl, mk_X6_touched⟩
theorem lk_L_94 : zLV RL 94 mi_X5_shows 1 := ⟨zat 501 (by decide +kernel) rfl, mk_X5_shows⟩
theorem lk_L_97 : zLV RL 97 mi_X6_shows 1 := ⟨zat 893 (by decide +kernel) rfl, mk_X6_shows⟩
theorem lk_L_98 : zLV RL 98 mi_X5_most 0 := ⟨zat 505 (by decide +kernel) rfl, mk_X5_most⟩
theorem lk_L_102 : zLV RL 102 mi_X6_most 0 := ⟨zat 901 (by decide +kernel) rfl, mk_X6_most⟩
theorem lk_L_103 : zLV RL 103 mi_X5_fewest 2 := ⟨zat 513 (by decide +kernel) rfl, mk_X5_fewest⟩
theorem lk_L_106 : zLV RL 106 mi_X6_fewest 2 := ⟨zat 909 (by decide +kernel) rfl, mk_X6_fewest⟩
theorem lk_L_107 : zLV RL 107 mi_X5_ways 1 := ⟨zat 524 (by decide +kernel) rfl, mk_X5_ways⟩
theorem lk_L_110 : zLV RL 110 mi_X6_ways 1 := ⟨zat 921 (by decide +kernel) rfl, mk_X6_ways⟩
theorem lk_L_111 : zLV RL 111 mi_X5_sure 1 := ⟨zat 539 (by decide +kernel) rfl, mk_X5_sure⟩
theorem lk_L_114 : zLV RL 114 mi_X6_sure 1 := ⟨zat 929 (by decide +kernel) rfl, mk_X6_sure⟩
theorem lk_L_115 : zLV RL 115 mi_X5_which 1 := ⟨zat 543 (by decide +kernel) rfl, mk_X5_which⟩
theorem lk_L_118 : zLV RL 118 mi_X6_which 1 := ⟨zat 933 (by decide +kernel) rfl, mk_X6_which⟩
theorem lk_L_119 : zLV RL 119 mi_X5_kinds 2 := ⟨zat 547 (by decide +kernel) rfl, mk_X5_kinds⟩
theorem lk_L_122 : zLV RL 122 mi_X6_kinds 2 := ⟨zat 937 (by decide +kernel) rfl, mk_X6_kinds⟩
theorem lk_L_123 : zLV RL 123 mi_X5_next 2 := ⟨zat 568 (by decide +kernel) rfl, mk_X5_next⟩
theorem lk_L_126 : zLV RL 126 mi_X6_next 2 := ⟨zat 953 (by decide +kernel) rfl, mk_X6_next⟩
theorem lk_L_127 : zLV RL 127 mi_X5_sums 1 := ⟨zat 577 (by decide +kernel) rfl, mk_X5_sums⟩
theorem lk_L_130 : zLV RL 130 mi_X6_sums 1 := ⟨zat 957 (by decide +kernel) rfl, mk_X6_sums⟩
theorem lk_L_131 : zLV RL 131 mi_X5_duel 2 := ⟨zat 585 (by decide +kernel) rfl, mk_X5_duel⟩
theorem lk_L_134 : zLV RL 134 mi_X6_duel 2 := ⟨zat 961 (by decide +kernel) rfl, mk_X6_duel⟩
theorem lk_L_135 : zLV RL 135 mi_X5_odds 3 := ⟨zat 595 (by decide +kernel) rfl, mk_X5_odds⟩
theorem lk_L_138 : zLV RL 138 mi_X6_odds 3 := ⟨zat 969 (by decide +kernel) rfl, mk_X6_odds⟩
theorem lk_L_139 : zLV RL 139 mi_X5_mid 2 := ⟨zat 603 (by decide +kernel) rfl, mk_X5_mid⟩
theorem lk_L_142 : zLV RL 142 mi_X6_mid 2 := ⟨zat 990 (by decide +kernel) rfl, mk_X6_mid⟩
theorem lk_L_143 : zLV RL 143 mi_X5_lots 2 := ⟨zat 607 (by decide +kernel) rfl, mk_X5_lots⟩
theorem lk_L_146 : zLV RL 146 mi_X6_lots 2 := ⟨zat 994 (by decide +kernel) rfl, mk_X6_lots⟩
theorem lk_L_147 : zLV RL 147 mi_X5_asked 0 := ⟨zat 620 (by decide +kernel) rfl, mk_X5_asked⟩
theorem lk_L_150 : zLV RL 150 mi_X6_asked 0 := ⟨zat 1008 (by decide +kernel) rfl, mk_X6_asked⟩
theorem lk_L_151 : zLV RL 151 mi_X5_upper 0 := ⟨zat 624 (by decide +kernel) rfl, mk_X5_upper⟩
theorem lk_L_155 : zLV RL 155 mi_X6_upper 0 := ⟨zat 1012 (by decide +kernel) rfl, mk_X6_upper⟩
theorem lk_L_156 : zLV RL 156 mi_X5_lower 0 := ⟨zat 628 (by decide +kernel) rfl, mk_X5_lower⟩
theorem lk_L_159 : zLV RL 159 mi_X6_lower 0 := ⟨zat 1016 (by decide +kernel) rfl, mk_X6_lower⟩
theorem lk_L_160 : zLV RL 160 mi_X5_count 1 := ⟨zat 632 (by decide +kernel) rfl, mk_X5_count⟩
theorem lk_L_163 : zLV RL 163 mi_X6_count 1 := ⟨zat 1020 (by decide +kernel) rfl, mk_X6_count⟩
theorem lk_L_164 : zLV RL 164 mi_X5_finding 0 := ⟨zat 651 (by decide +kernel) rfl, mk_X5_finding⟩
theorem lk_L_167 : zLV RL 167 mi_X6_finding 0 := ⟨zat 1032 (by decide +kernel) rfl, mk_X6_finding⟩
theorem lk_L_168 : zLV RL 168 mi_X5_findings 1 := ⟨zat 655 (by decide +kernel) rfl, mk_X5_findings⟩
theorem lk_L_171 : zLV RL 171 mi_X6_findings 1 := ⟨zat 1036 (by decide +kernel) rfl, mk_X6_findings⟩
theorem lk_L_172 : zLV RL 172 mi_X5_digest 0 := ⟨zat 659 (by decide +kernel) rfl, mk_X5_digest⟩
theorem lk_L_175 : zLV RL 175 mi_X6_digest 0 := ⟨zat 1040 (by decide +kernel) rfl, mk_X6_digest⟩
theorem lk_X0_47 : zLV RX0 47 mi_X0_behindTouch 4 := ⟨zat 436 (by decide +kernel) rfl, mk_X0_behindTouch⟩
theorem lk_X1_28 : zLV RX1 28 mi_X1_isThere 0 := ⟨zat 426 (by decide +kernel) rfl, mk_X1_isThere⟩
theorem lk_X1_32 : zLV RX1 32 mi_X1_room 0 := ⟨zat 441 (by decide +kernel) rfl, mk_X1_room⟩
theorem lk_X1_36 : zLV RX1 36 mi_X1_number 0 := ⟨zat 442 (by decide +kernel) rfl, mk_X1_number⟩
theorem lk_X2_22 : zLV RX2 22 mi_X3_size 0 := ⟨zat 305 (by decide +kernel) rfl, mk_X3_size⟩
theorem lk_X2_28 : zLV RX2 28 mi_X3_valueAt 1 := ⟨zat 306 (by decide +kernel) rfl, mk_X3_valueAt⟩
theorem lk_X2_38 : zLV RX2 38 mi_X0_become 2 := ⟨zat 316 (by decide +kernel) rfl, mk_X0_become⟩
theorem lk_X3_25 : zLV RX3 25 mi_X3_has 1 := ⟨zat 235 (by decide +kernel) rfl, mk_X3_has⟩
theorem lk_X3_29 : zLV RX3 29 mi_X3_hasRun 2 := ⟨zat 268 (by decide +kernel) rfl, mk_X3_hasRun⟩
theorem lk_X3_39 : zLV RX3 39 mi_X3_valueAt 1 := ⟨zat 284 (by decide +kernel) rfl, mk_X3_valueAt⟩
theorem lk_X5_73 : zLV RX5 73 mi_X5_rowAt 1 := ⟨zat 195 (by decide +kernel) rfl, mk_X5_rowAt⟩
theorem lk_X5_77 : zLV RX5 77 mi_X5_makeAnew 4 := ⟨zat 199 (by decide +kernel) rfl, mk_X5_makeAnew⟩
theorem lk_X5_81 : zLV RX5 81 mi_X5_refusalOfPlace 2 := ⟨zat 215 (by decide +kernel) rfl, mk_X5_refusalOfPlace⟩
theorem lk_X5_85 : zLV RX5 85 mi_X3_valueAt 1 := ⟨zat 231 (by decide +kernel) rfl, mk_X3_valueAt⟩
theorem lk_X5_89 : zLV RX5 89 mi_X3_change 2 := ⟨zat 236 (by decide +kernel) rfl, mk_X3_change⟩
theorem lk_X5_93 : zLV RX5 93 mi_X5_tellAsked 1 := ⟨zat 240 (by decide +kernel) rfl, mk_X5_tellAsked⟩
theorem lk_X5_96 : zLV RX5 96 mi_X5_refusalOfMissing 1 := ⟨zat 219 (by decide +kernel) rfl, mk_X5_refusalOfMissing⟩
theorem lk_X5_100 : zLV RX5 100 mi_X3_remove 0 := ⟨zat 252 (by decide +kernel) rfl, mk_X3_remove⟩
theorem lk_X5_103 : zLV RX5 103 mi_X5_found 1 := ⟨zat 203 (by decide +kernel) rfl, mk_X5_found⟩
theorem lk_X5_106 : zLV RX5 106 mi_X3_isThere 0 := ⟨zat 223 (by decide +kernel) rfl, mk_X3_isThere⟩
theorem lk_X5_110 : zLV RX5 110 mi_X3_hasRun 2 := ⟨zat 260 (by decide +kernel) rfl, mk_X3_hasRun⟩
theorem lk_X5_114 : zLV RX5 114 mi_X3_takeRun 4 := ⟨zat 264 (by decide +kernel) rfl, mk_X3_takeRun⟩
theorem lk_X5_118 : zLV RX5 118 mi_X3_size 0 := ⟨zat 276 (by decide +kernel) rfl, mk_X3_size⟩
theorem lk_X5_122 : zLV RX5 122 mi_X3_total 0 := ⟨zat 280 (by decide +kernel) rfl, mk_X3_total⟩
theorem lk_X5_126 : zLV RX5 126 mi_X5_textAt 1 := ⟨zat 289 (by decide +kernel) rfl, mk_X5_textAt⟩
theorem lk_X5_129 : zLV RX5 129 mi_X2_faultOf 1 := ⟨zat 301 (by decide +kernel) rfl, mk_X2_faultOf⟩
theorem lk_X5_133 : zLV RX5 133 mi_X0_takeFrom 1 := ⟨zat 342 (by decide +kernel) rfl, mk_X0_takeFrom⟩
theorem lk_X5_140 : zLV RX5 140 mi_X1_begin 1 := ⟨zat 346 (by decide +kernel) rfl, mk_X1_begin⟩
theorem lk_X5_143 : zLV RX5 143 mi_X1_forget 0 := ⟨zat 350 (by decide +kernel) rfl, mk_X1_forget⟩
theorem lk_X5_146 : zLV RX5 146 mi_X5_isLamp 1 := ⟨zat 358 (by decide +kernel) rfl, mk_X5_isLamp⟩
theorem lk_X5_150 : zLV RX5 150 mi_X5_toldOfLamp 2 := ⟨zat 366 (by decide +kernel) rfl, mk_X5_toldOfLamp⟩
theorem lk_X5_154 : zLV RX5 154 mi_X0_kindOf 1 := ⟨zat 374 (by decide +kernel) rfl, mk_X0_kindOf⟩
theorem lk_X5_160 : zLV RX5 160 mi_X1_state 0 := ⟨zat 370 (by decide +kernel) rfl, mk_X1_state⟩
theorem lk_X5_181 : zLV RX5 181 mi_X1_number 0 := ⟨zat 395 (by decide +kernel) rfl, mk_X1_number⟩
theorem lk_X5_184 : zLV RX5 184 mi_X0_showing 1 := ⟨zat 381 (by decide +kernel) rfl, mk_X0_showing⟩
theorem lk_X5_187 : zLV RX5 187 mi_X1_isThere 0 := ⟨zat 362 (by decide +kernel) rfl, mk_X1_isThere⟩
theorem lk_X5_188 : zLV RX5 188 mi_X1_room 0 := ⟨zat 422 (by decide +kernel) rfl, mk_X1_room⟩
theorem lk_X5_191 : zLV RX5 191 mi_X5_doPress 1 := ⟨zat 427 (by decide +kernel) rfl, mk_X5_doPress⟩
theorem lk_X5_194 : zLV RX5 194 mi_X5_hasStep 2 := ⟨zat 447 (by decide +kernel) rfl, mk_X5_hasStep⟩
theorem lk_X5_197 : zLV RX5 197 mi_X5_doSet 2 := ⟨zat 452 (by decide +kernel) rfl, mk_X5_doSet⟩
theorem lk_X5_200 : zLV RX5 200 mi_X5_doCrack 1 := ⟨zat 461 (by decide +kernel) rfl, mk_X5_doCrack⟩
theorem lk_X5_206 : zLV RX5 206 mi_X1_deeds 0 := ⟨zat 472 (by decide +kernel) rfl, mk_X1_deeds⟩
theorem lk_X5_209 : zLV RX5 209 mi_X1_goBack 1 := ⟨zat 477 (by decide +kernel) rfl, mk_X1_goBack⟩
theorem lk_X5_212 : zLV RX5 212 mi_X5_keptAt 1 := ⟨zat 485 (by decide +kernel) rfl, mk_X5_keptAt⟩
theorem lk_X5_216 : zLV RX5 216 mi_X1_takeFrom 1 := ⟨zat 489 (by decide +kernel) rfl, mk_X1_takeFrom⟩
theorem lk_X5_223 : zLV RX5 223 mi_X0_behindTouch 4 := ⟨zat 399 (by decide +kernel) rfl, mk_X0_behindTouch⟩
theorem lk_X5_227 : zLV RX5 227 mi_X0_behindPress 3 := ⟨zat 431 (by decide +kernel) rfl, mk_X0_behindPress⟩
theorem lk_X5_230 : zLV RX5 230 mi_X5_showingBehind 1 := ⟨zat 509 (by decide +kernel) rfl, mk_X5_showingBehind⟩
theorem lk_X5_233 : zLV RX5 233 mi_X5_refusalOfSet 1 := ⟨zat 517 (by decide +kernel) rfl, mk_X5_refusalOfSet⟩
theorem lk_X5_240 : zLV RX5 240 mi_X3_make 2 := ⟨zat 207 (by decide +kernel) rfl, mk_X3_make⟩
theorem lk_X5_243 : zLV RX5 243 mi_X5_fillBehindSets 0 := ⟨zat 528 (by decide +kernel) rfl, mk_X5_fillBehindSets⟩
theorem lk_X5_246 : zLV RX5 246 mi_X5_tellParts 2 := ⟨zat 532 (by decide +kernel) rfl, mk_X5_tellParts⟩
theorem lk_X5_250 : zLV RX5 250 mi_X5_refusalOfPairs 2 := ⟨zat 551 (by decide +kernel) rfl, mk_X5_refusalOfPairs⟩
theorem lk_X5_254 : zLV RX5 254 mi_X5_kindsBy 2 := ⟨zat 555 (by decide +kernel) rfl, mk_X5_kindsBy⟩
theorem lk_X5_257 : zLV RX5 257 mi_X5_greatestPart 3 := ⟨zat 572 (by decide +kernel) rfl, mk_X5_greatestPart⟩
theorem lk_X5_281 : zLV RX5 281 mi_X5_doByLot 2 := ⟨zat 616 (by decide +kernel) rfl, mk_X5_doByLot⟩
theorem lk_X5_284 : zLV RX5 284 mi_X5_counted 1 := ⟨zat 636 (by decide +kernel) rfl, mk_X5_counted⟩
theorem lk_X5_291 : zLV RX5 291 mi_X3_mixedInto 1 := ⟨zat 665 (by decide +kernel) rfl, mk_X3_mixedInto⟩
theorem lk_X5_295 : zLV RX5 295 mi_X3_has 1 := ⟨zat 227 (by decide +kernel) rfl, mk_X3_has⟩
theorem lk_X5_312 : zLV RX5 312 mi_X5_countKept 0 := ⟨zat 643 (by decide +kernel) rfl, mk_X5_countKept⟩
theorem lk_X5_315 : zLV RX5 315 mi_X5_countedOfWall 1 := ⟨zat 647 (by decide +kernel) rfl, mk_X5_countedOfWall⟩
theorem lk_X5_324 : zLV RX5 324 mi_X1_go 2 := ⟨zat 437 (by decide +kernel) rfl, mk_X1_go⟩
theorem lk_X5_330 : zLV RX5 330 mi_X5_fits 3 := ⟨zat 559 (by decide +kernel) rfl, mk_X5_fits⟩
theorem lk_X5_334 : zLV RX5 334 mi_X5_shownAs 3 := ⟨zat 563 (by decide +kernel) rfl, mk_X5_shownAs⟩
theorem lk_X5_337 : zLV RX5 337 mi_X0_become 2 := ⟨zat 567 (by decide +kernel) rfl, mk_X0_become⟩
theorem lk_X6_72 : zLV RX6 72 mi_X6_find 1 := ⟨zat 745 (by decide +kernel) rfl, mk_X6_find⟩
theorem lk_X6_76 : zLV RX6 76 mi_X6_told 1 := ⟨zat 753 (by decide +kernel) rfl, mk_X6_told⟩
theorem lk_X6_91 : zLV RX6 91 mi_X6_read 1 := ⟨zat 788 (by decide +kernel) rfl, mk_X6_read⟩
theorem lk_X6_110 : zLV RX6 110 mi_X6_shownBy 2 := ⟨zat 825 (by decide +kernel) rfl, mk_X6_shownBy⟩
theorem lk_X6_118 : zLV RX6 118 mi_X6_now 1 := ⟨zat 817 (by decide +kernel) rfl, mk_X6_now⟩
theorem lk_X6_121 : zLV RX6 121 mi_X6_shown 0 := ⟨zat 821 (by decide +kernel) rfl, mk_X6_shown⟩
theorem lk_X6_128 : zLV RX6 128 mi_X6_isLamp 1 := ⟨zat 809 (by decide +kernel) rfl, mk_X6_isLamp⟩
theorem lk_X6_131 : zLV RX6 131 mi_X6_factOf 2 := ⟨zat 813 (by decide +kernel) rfl, mk_X6_factOf⟩
theorem lk_X6_141 : zLV RX6 141 mi_X6_begin 0 := ⟨zat 858 (by decide +kernel) rfl, mk_X6_begin⟩
theorem lk_X6_144 : zLV RX6 144 mi_X6_pressOn 4 := ⟨zat 862 (by decide +kernel) rfl, mk_X6_pressOn⟩
theorem lk_X6_151 : zLV RX6 151 mi_X6_take 0 := ⟨zat 897 (by decide +kernel) rfl, mk_X6_take⟩
theorem lk_X6_154 : zLV RX6 154 mi_X6_shownBehind 1 := ⟨zat 905 (by decide +kernel) rfl, mk_X6_shownBehind⟩
theorem lk_X6_160 : zLV RX6 160 mi_X6_shownByCode 2 := ⟨zat 916 (by decide +kernel) rfl, mk_X6_shownByCode⟩
theorem lk_X6_163 : zLV RX6 163 mi_X6_row 2 := ⟨zat 920 (by decide +kernel) rfl, mk_X6_row⟩
theorem lk_X6_166 : zLV RX6 166 mi_X6_isBy 2 := ⟨zat 925 (by decide +kernel) rfl, mk_X6_isBy⟩
theorem lk_X6_169 : zLV RX6 169 mi_X6_wouldShow 3 := ⟨zat 949 (by decide +kernel) rfl, mk_X6_wouldShow⟩
theorem lk_X6_172 : zLV RX6 172 mi_X6_pairs 1 := ⟨zat 941 (by decide +kernel) rfl, mk_X6_pairs⟩
theorem lk_X6_175 : zLV RX6 175 mi_X6_kindsBy 2 := ⟨zat 945 (by decide +kernel) rfl, mk_X6_kindsBy⟩
theorem lk_X6_178 : zLV RX6 178 mi_X6_worthOf 3 := ⟨zat 965 (by decide +kernel) rfl, mk_X6_worthOf⟩
theorem lk_X6_184 : zLV RX6 184 mi_X6_waysOf 3 := ⟨zat 973 (by decide +kernel) rfl, mk_X6_waysOf⟩
theorem lk_X6_188 : zLV RX6 188 mi_X6_shownBut 2 := ⟨zat 978 (by decide +kernel) rfl, mk_X6_shownBut⟩
theorem lk_X6_191 : zLV RX6 191 mi_X6_allWays 1 := ⟨zat 982 (by decide +kernel) rfl, mk_X6_allWays⟩
theorem lk_X6_195 : zLV RX6 195 mi_X6_fraction 2 := ⟨zat 986 (by decide +kernel) rfl, mk_X6_fraction⟩
theorem lk_X6_210 : zLV RX6 210 mi_X6_lot 2 := ⟨zat 1004 (by decide +kernel) rfl, mk_X6_lot⟩
theorem lk_X6_214 : zLV RX6 214 mi_X6_sumOf 1 := ⟨zat 1024 (by decide +kernel) rfl, mk_X6_sumOf⟩
theorem lk_X6_217 : zLV RX6 217 mi_X6_thereAre 1 := ⟨zat 1028 (by decide +kernel) rfl, mk_X6_thereAre⟩
theorem lk_X6_224 : zLV RX6 224 mi_X6_count 1 := ⟨zat 1046 (by decide +kernel) rfl, mk_X6_count⟩
theorem gv_0_0 (σ : zSt) (j : Nat) : (zf σ 0 j)[0]? = some (zr 8 0) := rfl
theorem gv_0_1 (σ : zSt) (j : Nat) : (zf σ 0 j)[1]? = some (zr 8 1) := rfl
theorem gv_0_2 (σ : zSt) (j : Nat) : (zf σ 0 j)[2]? = some (zr 9 0) := rfl
theorem gv_0_3 (σ : zSt) (j : Nat) : (zf σ 0 j)[3]? = some (zr 2 3) := rfl
theorem gv_0_4 (σ : zSt) (j : Nat) : (zf σ 0 j)[4]? = some (zr 1 0) := rfl
theorem gv_0_5 (σ : zSt) (j : Nat) : (zf σ 0 j)[5]? = some (zr 1 1) := rfl
theorem gv_0_6 (σ : zSt) (j : Nat) : (zf σ 0 j)[6]? = some (zr 3 0) := rfl
theorem gv_0_7 (σ : zSt) (j : Nat) : (zf σ 0 j)[7]? = some (zr 6 18) := rfl
theorem gv_0_8 (σ : zSt) (j : Nat) : (zf σ 0 j)[8]? = some (zr 6 19) := rfl
theorem gv_0_9 (σ : zSt) (j : Nat) : (zf σ 0 j)[9]? = some (zr 6 20) := rfl
theorem gv_0_10 (σ : zSt) (j : Nat) : (zf σ 0 j)[10]? = some (zi (fI σ 0 j 10)) := rfl
theorem gv_0_11 (σ : zSt) (j : Nat) : (zf σ 0 j)[11]? = some (zi (fI σ 0 j 11)) := rfl
theorem gv_0_12 (σ : zSt) (j : Nat) : (zf σ 0 j)[12]? = some (zl (fL σ 0 j 12)) := rfl
theorem gv_0_13 (σ : zSt) (j : Nat) : (zf σ 0 j)[13]? = some (zl (fL σ 0 j 13)) := rfl
theorem gv_1_0 (σ : zSt) (j : Nat) : (zf σ 1 j)[0]? = some (zi (fI σ 1 j 0)) := rfl
theorem gv_1_1 (σ : zSt) (j : Nat) : (zf σ 1 j)[1]? = some (zi (fI σ 1 j 1)) := rfl
theorem gv_1_2 (σ : zSt) (j : Nat) : (zf σ 1 j)[2]? = some (zi (fI σ 1 j 2)) := rfl
theorem gv_1_3 (σ : zSt) (j : Nat) : (zf σ 1 j)[3]? = some (zi (fI σ 1 j 3)) := rfl
theorem gv_1_4 (σ : zSt) (j : Nat) : (zf σ 1 j)[4]? = some (zi (fI σ 1 j 4)) := rfl
theorem gv_2_0 (σ : zSt) (j : Nat) : (zf σ 2 j)[0]? = some (zr 6 (10 + j)) := rfl
theorem gv_2_1 (σ : zSt) (j : Nat) : (zf σ 2 j)[1]? = some (zr 6 (14 + j)) := rfl
theorem gv_2_2 (σ : zSt) (j : Nat) : (zf σ 2 j)[2]? = some (zi (fI σ 2 j 2)) := rfl
theorem gv_3_0 (σ : zSt) (j : Nat) : (zf σ 3 j)[0]? = some (zr 1 2) := rfl
theorem gv_3_1 (σ : zSt) (j : Nat) : (zf σ 3 j)[1]? = some (zi (fI σ 3 j 1)) := rfl
theorem gv_4_0 (σ : zSt) (j : Nat) : (zf σ 4 j)[0]? = some (zr 6 j) := rfl
theorem gv_4_1 (σ : zSt) (j : Nat) : (zf σ 4 j)[1]? = some (zi (fI σ 4 j 1)) := rfl
theorem gv_5_0 (σ : zSt) (j : Nat) : (zf σ 5 j)[0]? = some (zi (fI σ 5 j 0)) := rfl
theorem gv_5_1 (σ : zSt) (j : Nat) : (zf σ 5 j)[1]? = some (zr 6 21) := rfl
theorem gv_5_2 (σ : zSt) (j : Nat) : (zf σ 5 j)[2]? = some (zi (fI σ 5 j 2)) := rfl
theorem gv_5_3 (σ : zSt) (j : Nat) : (zf σ 5 j)[3]? = some (zl (fL σ 5 j 3)) := rfl
theorem gv_5_4 (σ : zSt) (j : Nat) : (zf σ 5 j)[4]? = some (zl (fL σ 5 j 4)) := rfl
theorem gv_5_5 (σ : zSt) (j : Nat) : (zf σ 5 j)[5]? = some (zr 6 22) := rfl
theorem gv_5_6 (σ : zSt) (j : Nat) : (zf σ 5 j)[6]? = some (zr 6 23) := rfl
theorem gv_5_7 (σ : zSt) (j : Nat) : (zf σ 5 j)[7]? = some (zr 6 24) := rfl
theorem gv_5_8 (σ : zSt) (j : Nat) : (zf σ 5 j)[8]? = some (zr 7 0) := rfl
theorem gv_5_9 (σ : zSt) (j : Nat) : (zf σ 5 j)[9]? = some (zr 6 25) := rfl
theorem gv_5_10 (σ : zSt) (j : Nat) : (zf σ 5 j)[10]? = some (zi (fI σ 5 j 10)) := rfl
theorem gv_5_11 (σ : zSt) (j : Nat) : (zf σ 5 j)[11]? = some (zr 6 26) := rfl
theorem gv_5_12 (σ : zSt) (j : Nat) : (zf σ 5 j)[12]? = some (zr 6 27) := rfl
theorem gv_5_13 (σ : zSt) (j : Nat) : (zf σ 5 j)[13]? = some (zr 6 28) := rfl
theorem gv_5_14 (σ : zSt) (j : Nat) : (zf σ 5 j)[14]? = some (zi (fI σ 5 j 14)) := rfl
theorem gv_5_15 (σ : zSt) (j : Nat) : (zf σ 5 j)[15]? = some (zr 6 29) := rfl
theorem gv_5_16 (σ : zSt) (j : Nat) : (zf σ 5 j)[16]? = some (zr 6 30) := rfl
theorem gv_5_17 (σ : zSt) (j : Nat) : (zf σ 5 j)[17]? = some (zr 6 31) := rfl
theorem gv_5_18 (σ : zSt) (j : Nat) : (zf σ 5 j)[18]? = some (zr 6 32) := rfl
theorem bp_m2 : (Int8.ofInt (-2)).toInt32 = (-2) := by decide
theorem bp_m3 : (Int8.ofInt (-3)).toInt32 = (-3) := by decide
theorem bp_m4 : (Int8.ofInt (-4)).toInt32 = (-4) := by decide
theorem bp_m9 : (Int8.ofInt (-9)).toInt32 = (-9) := by decide
theorem bp_10 : (Int8.ofInt 10).toInt32 = 10 := by decide
theorem bp_102 : (Int8.ofInt 102).toInt32 = 102 := by decide
theorem bp_104 : (Int8.ofInt 104).toInt32 = 104 := by decide
theorem bp_107 : (Int8.ofInt 107).toInt32 = 107 := by decide
theorem bp_108 : (Int8.ofInt 108).toInt32 = 108 := by decide
theorem bp_11 : (Int8.ofInt 11).toInt32 = 11 := by decide
theorem bp_116 : (Int8.ofInt 116).toInt32 = 116 := by decide
theorem bp_119 : (Int8.ofInt 119).toInt32 = 119 := by decide
theorem bp_12 : (Int8.ofInt 12).toInt32 = 12 := by decide
theorem bp_16 : (Int8.ofInt 16).toInt32 = 16 := by decide
theorem bp_18 : (Int8.ofInt 18).toInt32 = 18 := by decide
theorem bp_20 : (Int8.ofInt 20).toInt32 = 20 := by decide
theorem bp_32 : (Int8.ofInt 32).toInt32 = 32 := by decide
theorem bp_40 : (Int8.ofInt 40).toInt32 = 40 := by decide
theorem bp_41 : (Int8.ofInt 41).toInt32 = 41 := by decide
theorem bp_48 : (Int8.ofInt 48).toInt32 = 48 := by decide
theorem bp_6 : (Int8.ofInt 6).toInt32 = 6 := by decide
theorem bp_60 : (Int8.ofInt 60).toInt32 = 60 := by decide
theorem bp_63 : (Int8.ofInt 63).toInt32 = 63 := by decide
theorem bp_7 : (Int8.ofInt 7).toInt32 = 7 := by decide
theorem bp_8 : (Int8.ofInt 8).toInt32 = 8 := by decide
theorem bp_9 : (Int8.ofInt 9).toInt32 = 9 := by decide
theorem ic_m1 : Int32.ofInt (-1) = (-1) := by decide
theorem ic_0 : Int32.ofInt 0 = 0 := by decide
theorem ic_1 : Int32.ofInt 1 = 1 := by decide
theorem ic_2 : Int32.ofInt 2 = 2 := by decide
theorem ic_3 : Int32.ofInt 3 = 3 := by decide
theorem ic_4 : Int32.ofInt 4 = 4 := by decide
theorem ic_5 : Int32.ofInt 5 = 5 := by decide
theorem ic_6 : Int32.ofInt 6 = 6 := by decide
theorem sp_1000 : (Int16.ofInt 1000).toInt32 = 1000 := by decide
theorem sp_10000 : (Int16.ofInt 10000).toInt32 = 10000 := by decide
theorem sp_1353 : (Int16.ofInt 1353).toInt32 = 1353 := by decide
theorem sp_200 : (Int16.ofInt 200).toInt32 = 200 := by decide
theorem sp_240 : (Int16.ofInt 240).toInt32 = 240 := by decide
theorem sp_451 : (Int16.ofInt 451).toInt32 = 451 := by decide
theorem sp_511 : (Int16.ofInt 511).toInt32 = 511 := by decide
theorem sp_512 : (Int16.ofInt 512).toInt32 = 512 := by decide
theorem sp_999 : (Int16.ofInt 999).toInt32 = 999 := by decide
theorem lc_0 : Int64.ofNat ((0 : Fin 2) : Nat) = 0 := by decide
theorem lc_1 : Int64.ofNat ((1 : Fin 2) : Nat) = 1 := by decide
def b2i (c : Prop) [Decidable c] : Int32 := if c then 1 else 0
theorem b2i_t {c : Prop} [Decidable c] (h : c) : b2i c = 1 := if_pos h
theorem b2i_f {c : Prop} [Decidable c] (h : ¬ c) : b2i c = 0 := if_neg h
theorem b2i_0 {c : Prop} [Decidable c] : b2i c = 0 ↔ ¬ c := by
  unfold b2i
  by_cases h : c <;> simp [h]
theorem b2i_1 {c : Prop} [Decidable c] : b2i c = 1 ↔ c := by
  unfold b2i
  by_cases h : c <;> simp [h]
theorem b2i_or (c : Prop) [Decidable c] : b2i c = 0 ∨ b2i c = 1 := by
  unfold b2i
  by_cases h : c <;> simp [h]
theorem b2i_c {c e : Prop} [Decidable c] [Decidable e] (h : c ↔ e) : b2i c = b2i e := by
  unfold b2i
  by_cases hc : c
  · rw [if_pos hc, if_pos (h.mp hc)]
  · rw [if_neg hc, if_neg (fun x => hc (h.mpr x))]
section
variable {M : zM} {d : Nat} {Q : zQ} {pc q : Nat} {ls : List (Option zV)} {st : List zV} {σ : zSt}
theorem y_if_eqB {c : Prop} [Decidable c] {off : Int} (tgt : Nat) (hd : decode M.2.1 pc = .ok (.ifCond .eq off, 3)) (ht : (pc : Int) + off = (tgt : Int)) (hq : pc + 3 = q) (kt : ¬ c → zY M d Q tgt ls st σ) (kf : c → zY M d Q q ls st σ) : zY M d Q pc ls (zi (b2i c) :: st) σ := y_if_eq tgt hd ht hq (fun h => kt (b2i_0.mp h)) (fun h => kf (Decidable.not_not.mp fun x => h (b2i_0.mpr x)))
theorem y_if_neB {c : Prop} [Decidable c] {off : Int} (tgt : Nat) (hd : decode M.2.1 pc = .ok (.ifCond .ne off, 3)) (ht : (pc : Int) + off = (tgt : Int)) (hq : pc + 3 = q) (kt : c → zY M d Q tgt ls st σ) (kf : ¬ c → zY M d Q q ls st σ) : zY M d Q pc ls (zi (b2i c) :: st) σ := y_if_ne tgt hd ht hq (fun h => kt (Decidable.not_not.mp fun x => h (b2i_0.mpr x))) (fun h => kf (b2i_0.mp h))
theorem y_zretB {c : Prop} [Decidable c] (hd : decode M.2.1 pc = .ok (.ireturn, 1)) (hr : M.2.2.2 = some .boolean) (hq : Q (some (zi (b2i c))) σ) : zY M d Q pc ls [zi (b2i c)] σ := y_zret (b2i_or c) hd hr hq
theorem y_cV {d' idx n k j : Nat} {M' : zM} {as rest : List zV} {v : zV} {σ' : zSt} (hM : Mf d' M' (zr k j :: as) σ (some v) σ') (hl : zLV M.1.cls idx M' n) (hk : zok k j) (hk6 : k < 6) (hcl : (zcl k).1 = M'.1.cls) (hdd : Nat.ble (d' + 1) d = true) (hn : as.length = n) (hst : st = as.reverse ++ zr k j :: rest) (hroom : Nat.ble (rest.map zcat).sum 8 = true) (hd : decode M.2.1 pc = .ok (.invokevirtual idx, 3)) (hq : pc + 3 = q) (kk : zY M d Q q ls (v :: rest) σ') : zY M d Q pc ls st σ :=
  y_callV hM hl hk hk6 hcl hdd hn hst hroom hd hq (fun r σ'' h => by obtain ⟨rfl, rfl⟩ := h; exact kk)
theorem y_cV0 {d' idx n k j : Nat} {M' : zM} {as rest : List zV} {σ' : zSt} (hM : Mf d' M' (zr k j :: as) σ none σ') (hl : zLV M.1.cls idx M' n) (hk : zok k j) (hk6 : k < 6) (hcl : (zcl k).1 = M'.1.cls) (hdd : Nat.ble (d' + 1) d = true) (hn : as.length = n) (hst : st = as.reverse ++ zr k j :: rest) (hroom : Nat.ble (rest.map zcat).sum 8 = true) (hd : decode M.2.1 pc = .ok (.invokevirtual idx, 3)) (hq : pc + 3 = q) (kk : zY M d Q q ls rest σ') : zY M d Q pc ls st σ :=
  y_callV hM hl hk hk6 hcl hdd hn hst hroom hd hq (fun r σ'' h => by obtain ⟨rfl, rfl⟩ := h; exact kk)
theorem y_cS {d' idx n : Nat} {M' : zM} {as rest : List zV} {v : zV} {σ' : zSt} (hM : Mf d' M' as σ (some v) σ') (hl : zLS M.1.cls idx M' n) (hdd : Nat.ble (d' + 1) d = true) (hn : as.length = n) (hst : st = as.reverse ++ rest) (hroom : Nat.ble (rest.map zcat).sum 8 = true) (hd : decode M.2.1 pc = .ok (.invokestatic idx, 3)) (hq : pc + 3 = q) (kk : zY M d Q q ls (v :: rest) σ') : zY M d Q pc ls st σ :=
  y_callS hM hl hdd hn hst hroom hd hq (fun r σ'' h => by obtain ⟨rfl, rfl⟩ := h; exact kk)
theorem y_cN {d' idx n : Nat} {M' : zM} {host : String} {as rest : List zV} {v : zV} {σ' : zSt} (hM : Mf d' M' as σ (some v) σ') (hl : Cond.methodLinkNest M.1.cls idx M'.1 host = zNL ∧ zKS M' n) (hdd : Nat.ble (d' + 1) d = true) (hn : as.length = n) (hst : st = as.reverse ++ rest) (hroom : Nat.ble (rest.map zcat).sum 8 = true) (hd : decode M.2.1 pc = .ok (.invokestatic idx, 3)) (hq : pc + 3 = q) (kk : zY M d Q q ls (v :: rest) σ') : zY M d Q pc ls st σ :=
  y_callN hM hl hdd hn hst hroom hd hq (fun r σ'' h => by obtain ⟨rfl, rfl⟩ := h; exact kk)
end
theorem zok0 : zok 0 0 := by decide
theorem zok1 {j : Nat} (h : j < 3) : zok 1 j := ⟨by decide, h⟩
theorem zok2 {j : Nat} (h : j < 4) : zok 2 j := ⟨by decide, h⟩
theorem zok3 : zok 3 0 := by decide
theorem zok4 {j : Nat} (h : j < 10) : zok 4 j := ⟨by decide, h⟩
theorem zok5 : zok 5 0 := by decide
end
section
/-! ===== small laws of the state and of numbers ===== -/
theorem fI_same (σ : zSt) (k j f : Nat) (x : Int32) : fI (sI σ k j f x) k j f = x := by rw [fI_sI, if_pos ⟨rfl, rfl, rfl⟩]
theorem fL_same (σ : zSt) (k j f : Nat) (x : Int64) : fL (sL σ k j f x) k j f = x := by rw [fL_sL, if_pos ⟨rfl, rfl, rfl⟩]
theorem fA_same (σ : zSt) (a : Nat) (g : Nat → Int32) : fA (sA σ a g) a = g := by rw [fA_sA, if_pos rfl]
theorem fA_ne (σ : zSt) {a b : Nat} (g : Nat → Int32) (h : b ≠ a) : fA (sA σ a g) b = fA σ b := by rw [fA_sA, if_neg h]
theorem sA_sA (σ : zSt) (a : Nat) (g g' : Nat → Int32) : sA (sA σ a g) a g' = sA σ a g' := by
  unfold sA
  congr 2
  funext a'
  by_cases h : a' = a <;> simp [h]
theorem sA_self (σ : zSt) (a : Nat) : sA σ a (fA σ a) = σ := by
  unfold sA fA
  obtain ⟨i, l, ar⟩ := σ
  congr 2
  funext a'
  by_cases h : a' = a <;> simp [h]
theorem sI_sI (σ : zSt) (k j f : Nat) (x y : Int32) : sI (sI σ k j f x) k j f y = sI σ k j f y := by
  unfold sI
  congr 1
  funext k' j' f'
  by_cases h : k' = k ∧ j' = j ∧ f' = f <;> simp [h]
theorem sA_sI (σ : zSt) (a k j f : Nat) (g : Nat → Int32) (x : Int32) : sA (sI σ k j f x) a g = sI (sA σ a g) k j f x := rfl
theorem sA_sL (σ : zSt) (a k j f : Nat) (g : Nat → Int32) (x : Int64) : sA (sL σ k j f x) a g = sL (sA σ a g) k j f x := rfl
theorem sL_sI (σ : zSt) (k j f k' j' f' : Nat) (x : Int32) (y : Int64) : sL (sI σ k j f x) k' j' f' y = sI (sL σ k' j' f' y) k j f x := rfl
theorem sA_com (σ : zSt) {a b : Nat} (g g' : Nat → Int32) (h : a ≠ b) : sA (sA σ a g) b g' = sA (sA σ b g') a g := by
  unfold sA
  congr 2
  funext a'
  by_cases h1 : a' = a
  · subst h1
    simp [h]
  · simp [h1]
theorem zlen_le (a : Nat) : zlen a ≤ 10000 := by
  by_cases h : a < 34
  · have h0 : ∀ a, a < 34 → zlen a ≤ 10000 := by decide
    exact h0 a h
  · unfold zlen
    rw [List.getD_eq_getElem?_getD, List.getElem?_eq_none (by simpa using h)]
    exact Nat.zero_le _
theorem zlen_lt (a : Nat) : zlen a < 2 ^ 31 := Nat.lt_of_le_of_lt (zlen_le a) (by decide)
theorem i32lt {x y : Int32} : x < y ↔ x.toInt < y.toInt := Int32.lt_iff_toInt_lt
theorem i32le {x y : Int32} : x ≤ y ↔ x.toInt ≤ y.toInt := Int32.le_iff_toInt_le
theorem i32z : (0 : Int32).toInt = 0 := by decide
theorem zvin {x : Int32} {n : Nat} (h0 : ¬ x < 0) (h : ¬ nI n ≤ x) (hn : n < 2 ^ 31) : vp_in x n := by
  rw [vp_in_iff]
  rw [i32lt, i32z] at h0
  rw [i32le, nI_toInt hn] at h
  omega
theorem zvinA {x : Int32} {a : Nat} (h0 : ¬ x < 0) (h : ¬ nI (zlen a) ≤ x) : vp_in x (zlen a) := zvin h0 h (zlen_lt a)
theorem zvinN {k n : Nat} (h : k < n) (hn : n ≤ 10000) : vp_in (nI k) n := vp_in_nI h (Nat.lt_of_le_of_lt hn (by decide))
theorem zlen10 {j : Nat} (h : j < 4) : zlen (10 + j) = 41 := by
  rcases j with _ | _ | _ | _ | j
  · rfl
  · rfl
  · rfl
  · rfl
  · omega
theorem zlen14 {j : Nat} (h : j < 4) : zlen (14 + j) = 41 := by
  rcases j with _ | _ | _ | _ | j
  · rfl
  · rfl
  · rfl
  · rfl
  · omega
theorem upd_same (f : Nat → Int32) (k : Nat) (x : Int32) : upd f k x k = x := pk_us
theorem upd_at (f : Nat → Int32) (k j : Nat) (x : Int32) : upd f k x j = if j = k then x else f j := by
  by_cases h : j = k
  · subst h
    rw [pk_us, if_pos rfl]
  · rw [pk_un h, if_neg h]
def zfill (f : Nat → Int32) (i n : Nat) (v : Int32) : Nat → Int32 := fun k => if i ≤ k ∧ k < n then v else f k
theorem zfill_end (f : Nat → Int32) (n : Nat) (v : Int32) : zfill f n n v = f := by
  funext k
  unfold zfill
  rw [if_neg (by omega)]
theorem zfill_step {f : Nat → Int32} {i n : Nat} {v : Int32} (h : i < n) : zfill (upd f i v) (i + 1) n v = zfill f i n v := by
  funext k
  unfold zfill
  rw [upd_at]
  by_cases h1 : k = i
  · subst h1
    rw [if_neg (by omega), if_pos rfl, if_pos ⟨Nat.le_refl _, h⟩]
  · rw [if_neg h1]
    by_cases h2 : i + 1 ≤ k ∧ k < n
    · rw [if_pos h2, if_pos (by omega)]
    · rw [if_neg h2, if_neg (by omega)]
/-- part of an array copied from another -/
def zcpy (f g : Nat → Int32) (i n : Nat) : Nat → Int32 := fun k => if i ≤ k ∧ k < n then g k else f k
theorem zcpy_end (f g : Nat → Int32) (n : Nat) : zcpy f g n n = f := by
  funext k
  unfold zcpy
  rw [if_neg (by omega)]
theorem zcpy_step {f g : Nat → Int32} {i n : Nat} (h : i < n) : zcpy (upd f i (g i)) g (i + 1) n = zcpy f g i n := by
  funext k
  unfold zcpy
  rw [upd_at]
  by_cases h1 : k = i
  · subst h1
    rw [if_neg (by omega), if_pos rfl, if_pos ⟨Nat.le_refl _, h⟩]
  · rw [if_neg h1]
    by_cases h2 : i + 1 ≤ k ∧ k < n
    · rw [if_pos h2, if_pos (by omega)]
    · rw [if_neg h2, if_neg (by omega)]
section
variable {M : zM} {d : Nat} {Q : zQ} {pc q : Nat} {ls : List (Option zV)} {st : List zV} {σ : zSt}
theorem y_topi {x : Int32} (k : ∀ y : Int32, y = x → zY M d Q pc ls (zi y :: st) σ) : zY M d Q pc ls (zi x :: st) σ := k x rfl
theorem y_tope {x y : Int32} (e : x = y) (k : zY M d Q pc ls (zi y :: st) σ) : zY M d Q pc ls (zi x :: st) σ := e ▸ k
theorem y_tope2 {x y : Int32} {v : zV} (e : x = y) (k : zY M d Q pc ls (v :: zi y :: st) σ) : zY M d Q pc ls (v :: zi x :: st) σ := e ▸ k
theorem y_topl {x y : Int64} (e : x = y) (k : zY M d Q pc ls (zl y :: st) σ) : zY M d Q pc ls (zl x :: st) σ := e ▸ k
theorem y_topr {a x y : Nat} (e : x = y) (k : zY M d Q pc ls (zr a y :: st) σ) : zY M d Q pc ls (zr a x :: st) σ := e ▸ k
theorem y_state {σ' : zSt} (e : σ = σ') (k : zY M d Q pc ls st σ') : zY M d Q pc ls st σ := e ▸ k
theorem y_copy {idx a b : Nat} {sp dp n : Int32} (hw : Cond.methodLink M.1.cls idx arraycopyName ∈ ztbl ∧ Cond.native arraycopyName ∈ ztbl ∧ Cond.static arraycopyName ∈ ztbl ∧ Cond.initialized "java/lang/System" ∈ ztbl) (ha : a < 33) (hb : b < 33) (h1 : ¬ sp < 0) (h2 : ¬ dp < 0) (h3 : ¬ n < 0) (h4 : sp.toNatClampNeg + n.toNatClampNeg ≤ zlen a) (h5 : dp.toNatClampNeg + n.toNatClampNeg ≤ zlen b) (hdd : Nat.ble 1 d = true) (hroom : Nat.ble (st.map zcat).sum 8 = true) (hd : decode M.2.1 pc = .ok (.invokestatic idx, 3)) (hq : pc + 3 = q)
    (kk : zY M d Q q ls st (sA σ b (va_cpy (fA σ a) (fA σ b) sp.toNatClampNeg dp.toNatClampNeg n.toNatClampNeg))) : zY M d Q pc ls (zi n :: zi dp :: zr 6 b :: zi sp :: zr 6 a :: st) σ := by
  subst hq
  intro G ad A p l e R s m args below meth c cells slots Z C H locs lsc hP hS hL
  have hts := C.2.2.2.2.1
  have hR := C.2.2.2.2.2.1
  have e1 := Nat.le_of_ble_eq_true hdd
  have e2 := Nat.le_of_ble_eq_true hroom
  have hnf : nativeFrameWords "java/lang/System" "arraycopy" 5 + 11 ≤ 60 := by decide +kernel
  obtain ⟨q0, h0⟩ := zids_at (k := 6) (j := a) ⟨by decide, ha⟩
  obtain ⟨q1, h01⟩ := zids_at (k := 6) (j := b) ⟨by decide, hb⟩
  have hz := zw_at (G := G) (ad := ad) (σ := σ) h0
  have hz1 := zw_at (G := G) (ad := ad) (σ := σ) h01
  refine va_copyi (ty := .int) C.1 C.2.1 (C.2.2.1.trans hL.1.symm) C.2.2.2.1 (hts _ hw.1) (hts _ hw.2.1) (hts _ hw.2.2.1) (hts _ hw.2.2.2) C.2.2.2.2.2.2.2.2.1 hP (zD σ C.2.2.2.2.2.2.1 C.2.2.2.2.2.2.2.1) hS q0 q1 0 0 hz hz1 rfl rfl rfl h1 h2 h3 h4 h5 (fun _ _ => rfl) (by omega) (by rw [zcats]; omega) hd (fun H1 locs1 hP1 hD1 hS1 => ?_)
  have e3 : (.inl (G.2.1, zlen b, .inl (va_cpy (fA σ a) (fA σ b) sp.toNatClampNeg dp.toNatClampNeg n.toNatClampNeg)) : va_E) = ze G ad (sA σ b (va_cpy (fA σ a) (fA σ b) sp.toNatClampNeg dp.toNatClampNeg n.toNatClampNeg)) 6 b := by
    show _ = (.inl (G.2.1, zlen b, .inl (fA (sA σ b (va_cpy (fA σ a) (fA σ b) sp.toNatClampNeg dp.toNatClampNeg n.toNatClampNeg)) b)) : va_E)
    rw [fA_same]
  rw [e3, zw_set h01 (fun k' j' ho hne => ze_sA_ne σ b _ hb hne ho)] at hP1
  exact kk G ad A p l e R s m args below meth c cells slots Z C H1 locs1 lsc hP1 hS1 hL
end
theorem cpk_X3_33 : Cond.methodLink RX3 33 arraycopyName ∈ ztbl ∧ Cond.native arraycopyName ∈ ztbl ∧ Cond.static arraycopyName ∈ ztbl ∧ Cond.initialized "java/lang/System" ∈ ztbl := ⟨zmem (by decide +kernel) rfl, zmem (by decide +kernel) rfl, zmem (by decide +kernel) rfl, zmem (by decide +kernel) rfl⟩
end
section
def zmax (x y : Int32) : Int32 := if x < y then y else x
def zmin (x y : Int32) : Int32 := if y < x then y else x
def zbc1 (x : Int32) : Int32 := x - (zushr x 1 &&& 1431655765)
def zbc2 (x : Int32) : Int32 := (x &&& 858993459) + (zushr x 2 &&& 858993459)
def zbc3 (x : Int32) : Int32 := (x + zushr x 4) &&& 252645135
def zbc4 (x : Int32) : Int32 := x + zushr x 8
def zbc5 (x : Int32) : Int32 := x + zushr x 16
/-- Integer.bitCount, as it is computed -/
def zbc (x : Int32) : Int32 := zbc5 (zbc4 (zbc3 (zbc2 (zbc1 x)))) &&& 63
def st_join (a b c : Int32) : Int32 := a ||| zshl b 9 ||| zshl c 18
def st_ones (s : Int32) : Int32 := s &&& 511
def st_twos (s : Int32) : Int32 := zshr s 9 &&& 511
def st_broken (s : Int32) : Int32 := zshr s 18 &&& 511
def st_above (s : Int32) : Int32 := st_ones s ||| st_twos s
def st_of (s l : Int32) : Int32 := (zshr (st_ones s) l &&& 1) + 2 * (zshr (st_twos s) l &&& 1)
def zcom (x : Int32) : Int32 := x ^^^ (-1)
def st_with (s l t : Int32) : Int32 := st_join ((st_ones s &&& zcom (zshl 1 l)) ||| zshl (t &&& 1) l) ((st_twos s &&& zcom (zshl 1 l)) ||| zshl (zshr t 1 &&& 1) l) (st_broken s)
def st_withBroken (s b : Int32) : Int32 := st_join (st_ones s) (st_twos s) b
def st_total (s t : Int32) : Int32 := zbc (st_ones s &&& t) + 2 * zbc (st_twos s &&& t)
section
variable {M : zM} {d : Nat} {Q : zQ} {pc q : Nat} {ls : List (Option zV)} {st : List zV} {σ : zSt}
theorem y_mmax {idx : Nat} {x y : Int32} (hl : zLS M.1.cls idx mi_J9_max_7cf53 2) (hdd : Nat.ble 1 d = true) (hroom : Nat.ble (st.map zcat).sum 8 = true) (hd : decode M.2.1 pc = .ok (.invokestatic idx, 3)) (hq : pc + 3 = q) (kk : zY M d Q q ls (zi (zmax x y) :: st) σ) : zY M d Q pc ls (zi y :: zi x :: st) σ := by
  subst hq
  intro G ad A p l e R s m args below meth c cells slots Z C H locs lsc hP hS hL
  have hts := C.2.2.2.2.1
  have hR := C.2.2.2.2.2.1
  have h1 := Nat.le_of_ble_eq_true hdd
  have h2 := Nat.le_of_ble_eq_true hroom
  exact va_mmax C.1 C.2.1 (C.2.2.1.trans hL.1.symm) C.2.2.2.1 (hts _ hl.1) (hts _ hl.2.1.1) (hts _ hl.2.1.2.1) (hts _ hl.2.1.2.2) (by omega) (by rw [zcats]; omega) hR.2.2.1 hR.2.2.2 hd (kk G ad A p l e R s m args below meth c cells slots Z C H locs lsc hP hS hL)
theorem y_mmin {idx : Nat} {x y : Int32} (hl : zLS M.1.cls idx mi_J9_min_7cf53 2) (hdd : Nat.ble 1 d = true) (hroom : Nat.ble (st.map zcat).sum 8 = true) (hd : decode M.2.1 pc = .ok (.invokestatic idx, 3)) (hq : pc + 3 = q) (kk : zY M d Q q ls (zi (zmin x y) :: st) σ) : zY M d Q pc ls (zi y :: zi x :: st) σ := by
  subst hq
  intro G ad A p l e R s m args below meth c cells slots Z C H locs lsc hP hS hL
  have hts := C.2.2.2.2.1
  have hR := C.2.2.2.2.2.1
  have h1 := Nat.le_of_ble_eq_true hdd
  have h2 := Nat.le_of_ble_eq_true hroom
  exact va_mmin C.1 C.2.1 (C.2.2.1.trans hL.1.symm) C.2.2.2.1 (hts _ hl.1) (hts _ hl.2.1.1) (hts _ hl.2.1.2.1) (hts _ hl.2.1.2.2) (by omega) (by rw [zcats]; omega) hR.2.2.1 hR.2.2.2 hd (kk G ad A p l e R s m args below meth c cells slots Z C H locs lsc hP hS hL)
end
theorem c_J6_bitCount_0f7a4 (σ : zSt) (x : Int32) : Mf 0 mi_J6_bitCount_0f7a4 [zi x] σ (some (zi (zbc x))) σ := by
  refine Mt_of (ls := [some (zi x)]) (by decide +kernel) rfl rfl ?_
  refine y_iload_n (q := 1) dJ6_bitCount_0f7a4_0 rfl rfl rfl ?_
  refine y_iload_n (q := 2) dJ6_bitCount_0f7a4_1 rfl rfl rfl ?_
  refine y_iconst (q := 3) dJ6_bitCount_0f7a4_2 ic_1 rfl ?_
  refine y_iushr (q := 4) dJ6_bitCount_0f7a4_3 rfl ?_
  refine y_ldc_w (q := 7) dJ6_bitCount_0f7a4_4 ck_J6_265 rfl ?_
  refine y_iand (q := 8) dJ6_bitCount_0f7a4_7 rfl ?_
  refine y_isub (q := 9) dJ6_bitCount_0f7a4_8 rfl ?_
  refine y_istore_n0 (q := 10) dJ6_bitCount_0f7a4_9 rfl rfl rfl ?_
  refine y_iload_n (q := 11) dJ6_bitCount_0f7a4_10 rfl rfl rfl ?_
  refine y_ldc_w (q := 14) dJ6_bitCount_0f7a4_11 ck_J6_266 rfl ?_
  refine y_iand (q := 15) dJ6_bitCount_0f7a4_14 rfl ?_
  refine y_iload_n (q := 16) dJ6_bitCount_0f7a4_15 rfl rfl rfl ?_
  refine y_iconst (q := 17) dJ6_bitCount_0f7a4_16 ic_2 rfl ?_
  refine y_iushr (q := 18) dJ6_bitCount_0f7a4_17 rfl ?_
  refine y_ldc_w (q := 21) dJ6_bitCount_0f7a4_18 ck_J6_266 rfl ?_
  refine y_iand (q := 22) dJ6_bitCount_0f7a4_21 rfl ?_
  refine y_iadd (q := 23) dJ6_bitCount_0f7a4_22 rfl ?_
  refine y_istore_n0 (q := 24) dJ6_bitCount_0f7a4_23 rfl rfl rfl ?_
  refine y_iload_n (q := 25) dJ6_bitCount_0f7a4_24 rfl rfl rfl ?_
  refine y_iload_n (q := 26) dJ6_bitCount_0f7a4_25 rfl rfl rfl ?_
  refine y_iconst (q := 27) dJ6_bitCount_0f7a4_26 ic_4 rfl ?_
  refine y_iushr (q := 28) dJ6_bitCount_0f7a4_27 rfl ?_
  refine y_iadd (q := 29) dJ6_bitCount_0f7a4_28 rfl ?_
  refine y_ldc_w (q := 32) dJ6_bitCount_0f7a4_29 ck_J6_267 rfl ?_
  refine y_iand (q := 33) dJ6_bitCount_0f7a4_32 rfl ?_
  refine y_istore_n0 (q := 34) dJ6_bitCount_0f7a4_33 rfl rfl rfl ?_
  refine y_iload_n (q := 35) dJ6_bitCount_0f7a4_34 rfl rfl rfl ?_
  refine y_iload_n (q := 36) dJ6_bitCount_0f7a4_35 rfl rfl rfl ?_
  refine y_bipush (q := 38) dJ6_bitCount_0f7a4_36 bp_8 rfl ?_
  refine y_iushr (q := 39) dJ6_bitCount_0f7a4_38 rfl ?_
  refine y_iadd (q := 40) dJ6_bitCount_0f7a4_39 rfl ?_
  refine y_istore_n0 (q := 41) dJ6_bitCount_0f7a4_40 rfl rfl rfl ?_
  refine y_iload_n (q := 42) dJ6_bitCount_0f7a4_41 rfl rfl rfl ?_
  refine y_iload_n (q := 43) dJ6_bitCount_0f7a4_42 rfl rfl rfl ?_
  refine y_bipush (q := 45) dJ6_bitCount_0f7a4_43 bp_16 rfl ?_
  refine y_iushr (q := 46) dJ6_bitCount_0f7a4_45 rfl ?_
  refine y_iadd (q := 47) dJ6_bitCount_0f7a4_46 rfl ?_
  refine y_istore_n0 (q := 48) dJ6_bitCount_0f7a4_47 rfl rfl rfl ?_
  refine y_iload_n (q := 49) dJ6_bitCount_0f7a4_48 rfl rfl rfl ?_
  refine y_bipush (q := 51) dJ6_bitCount_0f7a4_49 bp_63 rfl ?_
  refine y_iand (q := 52) dJ6_bitCount_0f7a4_51 rfl ?_
  exact y_iret dJ6_bitCount_0f7a4_52 rfl (by first | exact ⟨rfl, rfl⟩ | exact ⟨by simp [*], rfl⟩)
theorem c_X4_join (σ : zSt) (a b c : Int32) : Mf 0 mi_X4_join [zi a, zi b, zi c] σ (some (zi (st_join a b c))) σ := by
  refine Mt_of (ls := [some (zi a), some (zi b), some (zi c)]) (by decide +kernel) rfl rfl ?_
  refine y_iload_n (q := 1) dX4_join_0 rfl rfl rfl ?_
  refine y_iload_n (q := 2) dX4_join_1 rfl rfl rfl ?_
  refine y_bipush (q := 4) dX4_join_2 bp_9 rfl ?_
  refine y_ishl (q := 5) dX4_join_4 rfl ?_
  refine y_ior (q := 6) dX4_join_5 rfl ?_
  refine y_iload_n (q := 7) dX4_join_6 rfl rfl rfl ?_
  refine y_bipush (q := 9) dX4_join_7 bp_18 rfl ?_
  refine y_ishl (q := 10) dX4_join_9 rfl ?_
  refine y_ior (q := 11) dX4_join_10 rfl ?_
  exact y_iret dX4_join_11 rfl (by first | exact ⟨rfl, rfl⟩ | exact ⟨by simp [*], rfl⟩)
theorem c_X4_ones (σ : zSt) (s : Int32) : Mf 0 mi_X4_ones [zi s] σ (some (zi (st_ones s))) σ := by
  refine Mt_of (ls := [some (zi s)]) (by decide +kernel) rfl rfl ?_
  refine y_iload_n (q := 1) dX4_ones_0 rfl rfl rfl ?_
  refine y_sipush (q := 4) dX4_ones_1 sp_511 rfl ?_
  refine y_iand (q := 5) dX4_ones_4 rfl ?_
  exact y_iret dX4_ones_5 rfl (by first | exact ⟨rfl, rfl⟩ | exact ⟨by simp [*], rfl⟩)
theorem c_X4_twos (σ : zSt) (s : Int32) : Mf 0 mi_X4_twos [zi s] σ (some (zi (st_twos s))) σ := by
  refine Mt_of (ls := [some (zi s)]) (by decide +kernel) rfl rfl ?_
  refine y_iload_n (q := 1) dX4_twos_0 rfl rfl rfl ?_
  refine y_bipush (q := 3) dX4_twos_1 bp_9 rfl ?_
  refine y_ishr (q := 4) dX4_twos_3 rfl ?_
  refine y_sipush (q := 7) dX4_twos_4 sp_511 rfl ?_
  refine y_iand (q := 8) dX4_twos_7 rfl ?_
  exact y_iret dX4_twos_8 rfl (by first | exact ⟨rfl, rfl⟩ | exact ⟨by simp [*], rfl⟩)
theorem c_X4_broken (σ : zSt) (s : Int32) : Mf 0 mi_X4_broken [zi s] σ (some (zi (st_broken s))) σ := by
  refine Mt_of (ls := [some (zi s)]) (by decide +kernel) rfl rfl ?_
  refine y_iload_n (q := 1) dX4_broken_0 rfl rfl rfl ?_
  refine y_bipush (q := 3) dX4_broken_1 bp_18 rfl ?_
  refine y_ishr (q := 4) dX4_broken_3 rfl ?_
  refine y_sipush (q := 7) dX4_broken_4 sp_511 rfl ?_
  refine y_iand (q := 8) dX4_broken_7 rfl ?_
  exact y_iret dX4_broken_8 rfl (by first | exact ⟨rfl, rfl⟩ | exact ⟨by simp [*], rfl⟩)
theorem c_X4_above (σ : zSt) (s : Int32) : Mf 1 mi_X4_above [zi s] σ (some (zi (st_above s))) σ := by
  refine Mt_of (ls := [some (zi s)]) (by decide +kernel) rfl rfl ?_
  refine y_iload_n (q := 1) dX4_above_0 rfl rfl rfl ?_
  refine y_cS (q := 4) (c_X4_ones _ _) lk_X4_11 rfl rfl rfl rfl dX4_above_1 rfl ?_
  refine y_iload_n (q := 5) dX4_above_4 rfl rfl rfl ?_
  refine y_cS (q := 8) (c_X4_twos _ _) lk_X4_15 rfl rfl rfl rfl dX4_above_5 rfl ?_
  refine y_ior (q := 9) dX4_above_8 rfl ?_
  exact y_iret dX4_above_9 rfl (by first | exact ⟨rfl, rfl⟩ | exact ⟨by simp [*], rfl⟩)
theorem c_X4_of (σ : zSt) (s l : Int32) : Mf 1 mi_X4_of [zi s, zi l] σ (some (zi (st_of s l))) σ := by
  refine Mt_of (ls := [some (zi s), some (zi l)]) (by decide +kernel) rfl rfl ?_
  refine y_iload_n (q := 1) dX4_of_0 rfl rfl rfl ?_
  refine y_cS (q := 4) (c_X4_ones _ _) lk_X4_11 rfl rfl rfl rfl dX4_of_1 rfl ?_
  refine y_iload_n (q := 5) dX4_of_4 rfl rfl rfl ?_
  refine y_ishr (q := 6) dX4_of_5 rfl ?_
  refine y_iconst (q := 7) dX4_of_6 ic_1 rfl ?_
  refine y_iand (q := 8) dX4_of_7 rfl ?_
  refine y_iconst (q := 9) dX4_of_8 ic_2 rfl ?_
  refine y_iload_n (q := 10) dX4_of_9 rfl rfl rfl ?_
  refine y_cS (q := 13) (c_X4_twos _ _) lk_X4_15 rfl rfl rfl rfl dX4_of_10 rfl ?_
  refine y_iload_n (q := 14) dX4_of_13 rfl rfl rfl ?_
  refine y_ishr (q := 15) dX4_of_14 rfl ?_
  refine y_iconst (q := 16) dX4_of_15 ic_1 rfl ?_
  refine y_iand (q := 17) dX4_of_16 rfl ?_
  refine y_imul (q := 18) dX4_of_17 rfl ?_
  refine y_iadd (q := 19) dX4_of_18 rfl ?_
  exact y_iret dX4_of_19 rfl (by first | exact ⟨rfl, rfl⟩ | exact ⟨by simp [*], rfl⟩)
theorem c_X4_with (σ : zSt) (s l t : Int32) : Mf 1 mi_X4_with [zi s, zi l, zi t] σ (some (zi (st_with s l t))) σ := by
  refine Mt_of (ls := [some (zi s), some (zi l), some (zi t), none, none, none]) (by decide +kernel) rfl rfl ?_
  refine y_iconst (q := 1) dX4_with_0 ic_1 rfl ?_
  refine y_iload_n (q := 2) dX4_with_1 rfl rfl rfl ?_
  refine y_ishl (q := 3) dX4_with_2 rfl ?_
  refine y_iconst (q := 4) dX4_with_3 ic_m1 rfl ?_
  refine y_ixor (q := 5) dX4_with_4 rfl ?_
  refine y_istore_n3 (q := 6) dX4_with_5 rfl rfl rfl ?_
  refine y_iload_n (q := 7) dX4_with_6 rfl rfl rfl ?_
  refine y_cS (q := 10) (c_X4_ones _ _) lk_X4_11 rfl rfl rfl rfl dX4_with_7 rfl ?_
  refine y_iload_n (q := 11) dX4_with_10 rfl rfl rfl ?_
  refine y_iand (q := 12) dX4_with_11 rfl ?_
  refine y_iload_n (q := 13) dX4_with_12 rfl rfl rfl ?_
  refine y_iconst (q := 14) dX4_with_13 ic_1 rfl ?_
  refine y_iand (q := 15) dX4_with_14 rfl ?_
  refine y_iload_n (q := 16) dX4_with_15 rfl rfl rfl ?_
  refine y_ishl (q := 17) dX4_with_16 rfl ?_
  refine y_ior (q := 18) dX4_with_17 rfl ?_
  refine y_istore_4 (q := 20) dX4_with_18 rfl rfl rfl ?_
  refine y_iload_n (q := 21) dX4_with_20 rfl rfl rfl ?_
  refine y_cS (q := 24) (c_X4_twos _ _) lk_X4_15 rfl rfl rfl rfl dX4_with_21 rfl ?_
  refine y_iload_n (q := 25) dX4_with_24 rfl rfl rfl ?_
  refine y_iand (q := 26) dX4_with_25 rfl ?_
  refine y_iload_n (q := 27) dX4_with_26 rfl rfl rfl ?_
  refine y_iconst (q := 28) dX4_with_27 ic_1 rfl ?_
  refine y_ishr (q := 29) dX4_with_28 rfl ?_
  refine y_iconst (q := 30) dX4_with_29 ic_1 rfl ?_
  refine y_iand (q := 31) dX4_with_30 rfl ?_
  refine y_iload_n (q := 32) dX4_with_31 rfl rfl rfl ?_
  refine y_ishl (q := 33) dX4_with_32 rfl ?_
  refine y_ior (q := 34) dX4_with_33 rfl ?_
  refine y_istore_5 (q := 36) dX4_with_34 rfl rfl rfl ?_
  refine y_iload (q := 38) dX4_with_36 rfl rfl ?_
  refine y_iload (q := 40) dX4_with_38 rfl rfl ?_
  refine y_iload_n (q := 41) dX4_with_40 rfl rfl rfl ?_
  refine y_cS (q := 44) (c_X4_broken _ _) lk_X4_18 rfl rfl rfl rfl dX4_with_41 rfl ?_
  refine y_cS (q := 47) (c_X4_join _ _ _ _) lk_X4_21 rfl rfl rfl rfl dX4_with_44 rfl ?_
  exact y_iret dX4_with_47 rfl (by first | exact ⟨rfl, rfl⟩ | exact ⟨by simp [*], rfl⟩)
theorem c_X4_withBroken (σ : zSt) (s b : Int32) : Mf 1 mi_X4_withBroken [zi s, zi b] σ (some (zi (st_withBroken s b))) σ := by
  refine Mt_of (ls := [some (zi s), some (zi b)]) (by decide +kernel) rfl rfl ?_
  refine y_iload_n (q := 1) dX4_withBroken_0 rfl rfl rfl ?_
  refine y_cS (q := 4) (c_X4_ones _ _) lk_X4_11 rfl rfl rfl rfl dX4_withBroken_1 rfl ?_
  refine y_iload_n (q := 5) dX4_withBroken_4 rfl rfl rfl ?_
  refine y_cS (q := 8) (c_X4_twos _ _) lk_X4_15 rfl rfl rfl rfl dX4_withBroken_5 rfl ?_
  refine y_iload_n (q := 9) dX4_withBroken_8 rfl rfl rfl ?_
  refine y_cS (q := 12) (c_X4_join _ _ _ _) lk_X4_21 rfl rfl rfl rfl dX4_withBroken_9 rfl ?_
  exact y_iret dX4_withBroken_12 rfl (by first | exact ⟨rfl, rfl⟩ | exact ⟨by simp [*], rfl⟩)
theorem c_X4_total (σ : zSt) (s t : Int32) : Mf 1 mi_X4_total [zi s, zi t] σ (some (zi (st_total s t))) σ := by
  refine Mt_of (ls := [some (zi s), some (zi t)]) (by decide +kernel) rfl rfl ?_
  refine y_iload_n (q := 1) dX4_total_0 rfl rfl rfl ?_
  refine y_cS (q := 4) (c_X4_ones _ _) lk_X4_11 rfl rfl rfl rfl dX4_total_1 rfl ?_
  refine y_iload_n (q := 5) dX4_total_4 rfl rfl rfl ?_
  refine y_iand (q := 6) dX4_total_5 rfl ?_
  refine y_cS (q := 9) (c_J6_bitCount_0f7a4 _ _) lk_X4_25 rfl rfl rfl rfl dX4_total_6 rfl ?_
  refine y_iconst (q := 10) dX4_total_9 ic_2 rfl ?_
  refine y_iload_n (q := 11) dX4_total_10 rfl rfl rfl ?_
  refine y_cS (q := 14) (c_X4_twos _ _) lk_X4_15 rfl rfl rfl rfl dX4_total_11 rfl ?_
  refine y_iload_n (q := 15) dX4_total_14 rfl rfl rfl ?_
  refine y_iand (q := 16) dX4_total_15 rfl ?_
  refine y_cS (q := 19) (c_J6_bitCount_0f7a4 _ _) lk_X4_25 rfl rfl rfl rfl dX4_total_16 rfl ?_
  refine y_imul (q := 20) dX4_total_19 rfl ?_
  refine y_iadd (q := 21) dX4_total_20 rfl ?_
  exact y_iret dX4_total_21 rfl (by first | exact ⟨rfl, rfl⟩ | exact ⟨by simp [*], rfl⟩)
end
section
/-! ===== Row ===== -/
abbrev r_has (σ : zSt) (j : Nat) (i : Int32) : Prop := ¬ i < 0 ∧ ¬ fI σ 4 j 1 ≤ i ∧ ¬ nI (zlen j) ≤ i
abbrev r_run (σ : zSt) (j : Nat) (i n : Int32) : Prop := ¬ i < 0 ∧ ¬ n < 0 ∧ ¬ 0 < lg_cmp (i.toInt64 + n.toInt64) (fI σ 4 j 1).toInt64
def r_val (σ : zSt) (j : Nat) (i : Int32) : Int32 := if r_has σ j i then fA σ j i.toNatClampNeg else 0
def r_change (σ : zSt) (j : Nat) (i v : Int32) : zSt := if r_has σ j i then sA σ j (upd (fA σ j) i.toNatClampNeg v) else σ
def r_lsum (f : Nat → Int32) : Nat → Int64
  | 0 => 0
  | n + 1 => r_lsum f n + (f n).toInt64
def r_mix (f : Nat → Int32) (h : Int64) : Nat → Int64
  | 0 => h
  | n + 1 => 31 * r_mix f h n + (f n).toInt64
theorem c_X3_isThere (σ : zSt) (j : Nat) (hj : j < 10) : Mf 0 mi_X3_isThere [zr 4 j] σ (some (zi (b2i (0 ≤ fI σ 4 j 1)))) σ := by
  refine Mt_of (ls := [some (zr 4 j)]) (by decide +kernel) rfl rfl ?_
  refine y_aload_n (q := 1) dX3_isThere_0 rfl rfl rfl ?_
  refine y_get (q := 4) fk_X3_9 (by first | decide | exact zok4 (by assumption) | exact zok4 (by omega)) (gv_4_1 _ _) dX3_isThere_1 rfl ?_
  refine y_if_lt (q := 7) 11 dX3_isThere_4 rfl rfl (fun h4 => ?_) (fun h4 => ?_)
  · refine y_iconst (q := 12) dX3_isThere_11 ic_0 rfl ?_
    exact y_zret (by first | exact Or.inl rfl | exact Or.inr rfl | assumption) dX3_isThere_12 rfl (by first | exact ⟨by rw [b2i_f (Int32.not_le.mpr h4)], rfl⟩ | exact ⟨by rw [b2i_t (Int32.not_lt.mp h4)], rfl⟩)
  · refine y_iconst (q := 8) dX3_isThere_7 ic_1 rfl ?_
    refine y_goto 12 dX3_isThere_8 rfl ?_
    exact y_zret (by first | exact Or.inl rfl | exact Or.inr rfl | assumption) dX3_isThere_12 rfl (by first | exact ⟨by rw [b2i_f (Int32.not_le.mpr h4)], rfl⟩ | exact ⟨by rw [b2i_t (Int32.not_lt.mp h4)], rfl⟩)
theorem c_X3_size (σ : zSt) (j : Nat) (hj : j < 10) : Mf 1 mi_X3_size [zr 4 j] σ (some (zi (zmax (fI σ 4 j 1) 0))) σ := by
  refine Mt_of (ls := [some (zr 4 j)]) (by decide +kernel) rfl rfl ?_
  refine y_aload_n (q := 1) dX3_size_0 rfl rfl rfl ?_
  refine y_get (q := 4) fk_X3_9 (by first | decide | exact zok4 (by assumption) | exact zok4 (by omega)) (gv_4_1 _ _) dX3_size_1 rfl ?_
  refine y_iconst (q := 5) dX3_size_4 ic_0 rfl ?_
  refine y_mmax (q := 8) lk_X3_15 rfl rfl dX3_size_5 rfl ?_
  exact y_iret dX3_size_8 rfl (by first | exact ⟨rfl, rfl⟩ | exact ⟨by simp [b2i, r_has, r_run, *], rfl⟩ | exact ⟨by simp_all [b2i, r_has, r_run], rfl⟩)
theorem c_X3_has (σ : zSt) (j : Nat) (i : Int32) (hj : j < 10) : Mf 0 mi_X3_has [zr 4 j, zi i] σ (some (zi (b2i (r_has σ j i)))) σ := by
  refine Mt_of (ls := [some (zr 4 j), some (zi i)]) (by decide +kernel) rfl rfl ?_
  refine y_iload_n (q := 1) dX3_has_0 rfl rfl rfl ?_
  refine y_if_lt (q := 4) 25 dX3_has_1 rfl rfl (fun h1 => ?_) (fun h1 => ?_)
  · refine y_iconst (q := 26) dX3_has_25 ic_0 rfl ?_
    exact y_zret (by first | exact Or.inl rfl | exact Or.inr rfl | assumption) dX3_has_26 rfl (by first | exact ⟨rfl, rfl⟩ | exact ⟨by simp [b2i, r_has, r_run, *], rfl⟩ | exact ⟨by simp_all [b2i, r_has, r_run], rfl⟩)
  · refine y_iload_n (q := 5) dX3_has_4 rfl rfl rfl ?_
    refine y_aload_n (q := 6) dX3_has_5 rfl rfl rfl ?_
    refine y_get (q := 9) fk_X3_9 (by first | decide | exact zok4 (by assumption) | exact zok4 (by omega)) (gv_4_1 _ _) dX3_has_6 rfl ?_
    refine y_icmp_ge (q := 12) 25 dX3_has_9 rfl rfl (fun h9 => ?_) (fun h9 => ?_)
    · refine y_iconst (q := 26) dX3_has_25 ic_0 rfl ?_
      exact y_zret (by first | exact Or.inl rfl | exact Or.inr rfl | assumption) dX3_has_26 rfl (by first | exact ⟨rfl, rfl⟩ | exact ⟨by simp [b2i, r_has, r_run, *], rfl⟩ | exact ⟨by simp_all [b2i, r_has, r_run], rfl⟩)
    · refine y_iload_n (q := 13) dX3_has_12 rfl rfl rfl ?_
      refine y_aload_n (q := 14) dX3_has_13 rfl rfl rfl ?_
      refine y_get (q := 17) fk_X3_21 (by first | decide | exact zok4 (by assumption) | exact zok4 (by omega)) (gv_4_0 _ _) dX3_has_14 rfl ?_
      refine y_alen6 (q := 18) (by first | decide | assumption | omega) dX3_has_17 rfl ?_
      refine y_icmp_ge (q := 21) 25 dX3_has_18 rfl rfl (fun h18 => ?_) (fun h18 => ?_)
      · refine y_iconst (q := 26) dX3_has_25 ic_0 rfl ?_
        exact y_zret (by first | exact Or.inl rfl | exact Or.inr rfl | assumption) dX3_has_26 rfl (by first | exact ⟨rfl, rfl⟩ | exact ⟨by simp [b2i, r_has, r_run, *], rfl⟩ | exact ⟨by simp_all [b2i, r_has, r_run], rfl⟩)
      · refine y_iconst (q := 22) dX3_has_21 ic_1 rfl ?_
        refine y_goto 26 dX3_has_22 rfl ?_
        exact y_zret (by first | exact Or.inl rfl | exact Or.inr rfl | assumption) dX3_has_26 rfl (by first | exact ⟨rfl, rfl⟩ | exact ⟨by simp [b2i, r_has, r_run, *], rfl⟩ | exact ⟨by simp_all [b2i, r_has, r_run], rfl⟩)
theorem c_X3_hasRun (σ : zSt) (j : Nat) (i n : Int32) (hj : j < 10) : Mf 0 mi_X3_hasRun [zr 4 j, zi i, zi n] σ (some (zi (b2i (r_run σ j i n)))) σ := by
  refine Mt_of (ls := [some (zr 4 j), some (zi i), some (zi n)]) (by decide +kernel) rfl rfl ?_
  refine y_iload_n (q := 1) dX3_hasRun_0 rfl rfl rfl ?_
  refine y_if_lt (q := 4) 26 dX3_hasRun_1 rfl rfl (fun h1 => ?_) (fun h1 => ?_)
  · refine y_iconst (q := 27) dX3_hasRun_26 ic_0 rfl ?_
    exact y_zret (by first | exact Or.inl rfl | exact Or.inr rfl | assumption) dX3_hasRun_27 rfl (by first | exact ⟨rfl, rfl⟩ | exact ⟨by simp [b2i, r_has, r_run, *], rfl⟩ | exact ⟨by simp_all [b2i, r_has, r_run], rfl⟩)
  · refine y_iload_n (q := 5) dX3_hasRun_4 rfl rfl rfl ?_
    refine y_if_lt (q := 8) 26 dX3_hasRun_5 rfl rfl (fun h5 => ?_) (fun h5 => ?_)
    · refine y_iconst (q := 27) dX3_hasRun_26 ic_0 rfl ?_
      exact y_zret (by first | exact Or.inl rfl | exact Or.inr rfl | assumption) dX3_hasRun_27 rfl (by first | exact ⟨rfl, rfl⟩ | exact ⟨by simp [b2i, r_has, r_run, *], rfl⟩ | exact ⟨by simp_all [b2i, r_has, r_run], rfl⟩)
    · refine y_iload_n (q := 9) dX3_hasRun_8 rfl rfl rfl ?_
      refine y_i2l (q := 10) dX3_hasRun_9 rfl ?_
      refine y_iload_n (q := 11) dX3_hasRun_10 rfl rfl rfl ?_
      refine y_i2l (q := 12) dX3_hasRun_11 rfl ?_
      refine y_ladd (q := 13) dX3_hasRun_12 rfl ?_
      refine y_aload_n (q := 14) dX3_hasRun_13 rfl rfl rfl ?_
      refine y_get (q := 17) fk_X3_9 (by first | decide | exact zok4 (by assumption) | exact zok4 (by omega)) (gv_4_1 _ _) dX3_hasRun_14 rfl ?_
      refine y_i2l (q := 18) dX3_hasRun_17 rfl ?_
      refine y_lcmp (q := 19) dX3_hasRun_18 rfl ?_
      refine y_if_gt (q := 22) 26 dX3_hasRun_19 rfl rfl (fun h19 => ?_) (fun h19 => ?_)
      · refine y_iconst (q := 27) dX3_hasRun_26 ic_0 rfl ?_
        exact y_zret (by first | exact Or.inl rfl | exact Or.inr rfl | assumption) dX3_hasRun_27 rfl (by first | exact ⟨rfl, rfl⟩ | exact ⟨by simp [b2i, r_has, r_run, *], rfl⟩ | exact ⟨by simp_all [b2i, r_has, r_run], rfl⟩)
      · refine y_iconst (q := 23) dX3_hasRun_22 ic_1 rfl ?_
        refine y_goto 27 dX3_hasRun_23 rfl ?_
        exact y_zret (by first | exact Or.inl rfl | exact Or.inr rfl | assumption) dX3_hasRun_27 rfl (by first | exact ⟨rfl, rfl⟩ | exact ⟨by simp [b2i, r_has, r_run, *], rfl⟩ | exact ⟨by simp_all [b2i, r_has, r_run], rfl⟩)
theorem c_X3_valueAt (σ : zSt) (j : Nat) (i : Int32) (hj : j < 10) : Mf 1 mi_X3_valueAt [zr 4 j, zi i] σ (some (zi (r_val σ j i))) σ := by
  refine Mt_of (ls := [some (zr 4 j), some (zi i)]) (by decide +kernel) rfl rfl ?_
  refine y_aload_n (q := 1) dX3_valueAt_0 rfl rfl rfl ?_
  refine y_iload_n (q := 2) dX3_valueAt_1 rfl rfl rfl ?_
  refine y_cV (q := 5) (c_X3_has _ _ _ (by first | assumption | decide | omega)) lk_X3_25 (by first | decide | exact zok4 (by assumption) | exact zok4 (by omega)) (by decide) rfl rfl rfl rfl rfl dX3_valueAt_2 rfl ?_
  refine y_if_eqB (q := 8) 17 dX3_valueAt_5 rfl rfl (fun h5 => ?_) (fun h5 => ?_)
  · refine y_iconst (q := 18) dX3_valueAt_17 ic_0 rfl ?_
    exact y_iret dX3_valueAt_18 rfl (by first | exact ⟨by rw [r_val, if_pos h5], rfl⟩ | exact ⟨by rw [r_val, if_neg h5], rfl⟩)
  · refine y_aload_n (q := 9) dX3_valueAt_8 rfl rfl rfl ?_
    refine y_get (q := 12) fk_X3_21 (by first | decide | exact zok4 (by assumption) | exact zok4 (by omega)) (gv_4_0 _ _) dX3_valueAt_9 rfl ?_
    refine y_iload_n (q := 13) dX3_valueAt_12 rfl rfl rfl ?_
    refine y_iald (q := 14) (by first | decide | assumption | omega) (zvinA h5.1 h5.2.2) dX3_valueAt_13 rfl ?_
    refine y_goto 18 dX3_valueAt_14 rfl ?_
    exact y_iret dX3_valueAt_18 rfl (by first | exact ⟨by rw [r_val, if_pos h5], rfl⟩ | exact ⟨by rw [r_val, if_neg h5], rfl⟩)
theorem c_X3_change (σ : zSt) (j : Nat) (i v : Int32) (hj : j < 10) : Mf 1 mi_X3_change [zr 4 j, zi i, zi v] σ none (r_change σ j i v) := by
  refine Mt_of (ls := [some (zr 4 j), some (zi i), some (zi v)]) (by decide +kernel) rfl rfl ?_
  refine y_aload_n (q := 1) dX3_change_0 rfl rfl rfl ?_
  refine y_iload_n (q := 2) dX3_change_1 rfl rfl rfl ?_
  refine y_cV (q := 5) (c_X3_has _ _ _ (by first | assumption | decide | omega)) lk_X3_25 (by first | decide | exact zok4 (by assumption) | exact zok4 (by omega)) (by decide) rfl rfl rfl rfl rfl dX3_change_2 rfl ?_
  refine y_if_eqB (q := 8) 15 dX3_change_5 rfl rfl (fun h5 => ?_) (fun h5 => ?_)
  · exact y_vret dX3_change_15 rfl (by first | exact ⟨rfl, by rw [r_change, if_pos h5]⟩ | exact ⟨rfl, by rw [r_change, if_neg h5]⟩)
  · refine y_aload_n (q := 9) dX3_change_8 rfl rfl rfl ?_
    refine y_get (q := 12) fk_X3_21 (by first | decide | exact zok4 (by assumption) | exact zok4 (by omega)) (gv_4_0 _ _) dX3_change_9 rfl ?_
    refine y_iload_n (q := 13) dX3_change_12 rfl rfl rfl ?_
    refine y_iload_n (q := 14) dX3_change_13 rfl rfl rfl ?_
    refine y_iast (q := 15) (by first | decide | assumption | omega) (zvinA h5.1 h5.2.2) dX3_change_14 rfl ?_
    exact y_vret dX3_change_15 rfl (by first | exact ⟨rfl, by rw [r_change, if_pos h5]⟩ | exact ⟨rfl, by rw [r_change, if_neg h5]⟩)
theorem c_X3_remove (σ : zSt) (j : Nat) (hj : j < 10) : Mf 0 mi_X3_remove [zr 4 j] σ none (sI σ 4 j 1 (-1)) := by
  refine Mt_of (ls := [some (zr 4 j)]) (by decide +kernel) rfl rfl ?_
  refine y_aload_n (q := 1) dX3_remove_0 rfl rfl rfl ?_
  refine y_iconst (q := 2) dX3_remove_1 ic_m1 rfl ?_
  refine y_putI (q := 5) fk_X3_9 (by decide) (by first | decide | exact zok4 (by assumption) | exact zok4 (by omega)) dX3_remove_2 rfl ?_
  exact y_vret dX3_remove_5 rfl (by first | exact ⟨rfl, rfl⟩ | exact ⟨by simp [*], rfl⟩)
theorem lp_X3_make {d : Nat} {Q : zQ} (j N : Nat) (v : Int32) (hj : j < 10) (hN : N ≤ zlen j) : ∀ (m i : Nat) (σ : zSt), i + m = N → Q none (sA σ j (zfill (fA σ j) i N v)) → zY mi_X3_make d Q 20 [some (zr 4 j), some (zi (nI N)), some (zi v), some (zi (nI i))] [] σ := by
  have hz := zlen_le j
  intro m
  induction m with
  | zero =>
    intro i σ hi hQ
    obtain rfl : i = N := by omega
    rw [zfill_end, sA_self] at hQ
    refine y_iload_n (q := 21) dX3_make_20 rfl rfl rfl ?_
    refine y_iload_n (q := 22) dX3_make_21 rfl rfl rfl ?_
    refine y_icmp_ge (q := 25) 38 dX3_make_22 rfl rfl (fun h22 => ?_) (fun h22 => ?_)
    · exact y_vret dX3_make_38 rfl (by exact hQ)
    · exact absurd (nI_le (Nat.le_refl i) (by omega)) h22
  | succ m ih =>
    intro i σ hi hQ
    refine y_iload_n (q := 21) dX3_make_20 rfl rfl rfl ?_
    refine y_iload_n (q := 22) dX3_make_21 rfl rfl rfl ?_
    refine y_icmp_ge (q := 25) 38 dX3_make_22 rfl rfl (fun h22 => ?_) (fun h22 => ?_)
    · exact absurd h22 (nI_ge (by omega) (by omega))
    · refine y_aload_n (q := 26) dX3_make_25 rfl rfl rfl ?_
      refine y_get (q := 29) fk_X3_21 (by first | decide | exact zok4 (by assumption) | exact zok4 (by omega)) (gv_4_0 _ _) dX3_make_26 rfl ?_
      refine y_iload_n (q := 30) dX3_make_29 rfl rfl rfl ?_
      refine y_iload_n (q := 31) dX3_make_30 rfl rfl rfl ?_
      refine y_iast (q := 32) (by first | decide | assumption | omega) (zvinN (by omega) hz) dX3_make_31 rfl ?_
      refine y_iinc_3 (q := 35) dX3_make_32 rfl ic_1 rfl rfl ?_
      refine y_goto 20 dX3_make_35 rfl ?_
      rw [nI_1]
      refine ih (i + 1) _ (by omega) ?_
      rw [nI_clamp (by omega), fA_same, sA_sA, zfill_step (by omega)]
      exact hQ
theorem c_X3_make (σ : zSt) (j N : Nat) (v : Int32) (hj : j < 10) (hN : N ≤ zlen j) : Mf 1 mi_X3_make [zr 4 j, zi (nI N), zi v] σ none (sA (sI σ 4 j 1 (nI N)) j (zfill (fA σ j) 0 N v)) := by
  have hz := zlen_le j
  refine Mt_of (ls := [some (zr 4 j), some (zi (nI N)), some (zi v), none]) (by decide +kernel) rfl rfl ?_
  refine y_iload_n (q := 1) dX3_make_0 rfl rfl rfl ?_
  refine y_if_lt (q := 4) 38 dX3_make_1 rfl rfl (fun h1 => ?_) (fun h1 => ?_)
  · exact absurd h1 (nI_pos (by omega))
  · refine y_iload_n (q := 5) dX3_make_4 rfl rfl rfl ?_
    refine y_aload_n (q := 6) dX3_make_5 rfl rfl rfl ?_
    refine y_get (q := 9) fk_X3_21 (by first | decide | exact zok4 (by assumption) | exact zok4 (by omega)) (gv_4_0 _ _) dX3_make_6 rfl ?_
    refine y_alen6 (q := 10) (by first | decide | assumption | omega) dX3_make_9 rfl ?_
    refine y_icmp_gt (q := 13) 38 dX3_make_10 rfl rfl (fun h10 => ?_) (fun h10 => ?_)
    · exact absurd h10 (by rw [i32lt, nI_toInt (by omega), nI_toInt (by omega)]; omega)
    · refine y_aload_n (q := 14) dX3_make_13 rfl rfl rfl ?_
      refine y_iload_n (q := 15) dX3_make_14 rfl rfl rfl ?_
      refine y_putI (q := 18) fk_X3_9 (by decide) (by first | decide | exact zok4 (by assumption) | exact zok4 (by omega)) dX3_make_15 rfl ?_
      refine y_iconst (q := 19) dX3_make_18 ic_0 rfl ?_
      refine y_istore_n3 (q := 20) dX3_make_19 rfl rfl rfl ?_
      exact lp_X3_make j N v hj hN N 0 _ (by omega) ⟨rfl, rfl⟩
theorem r_val_in {σ : zSt} {j n i : Nat} (hs : fI σ 4 j 1 = nI n) (hn : n ≤ zlen j) (hi : i < n) : r_val σ j (nI i) = fA σ j i := by
  have hz := zlen_le j
  have h : r_has σ j (nI i) := ⟨nI_pos (by omega), by rw [hs]; exact nI_ge hi (by omega), nI_ge (by omega) (by omega)⟩
  rw [r_val, if_pos h, nI_clamp (by omega)]
theorem lp_X3_total {d : Nat} {Q : zQ} (σ : zSt) (j n : Nat) (hd2 : Nat.ble 2 d = true) (hj : j < 10) (hs : fI σ 4 j 1 = nI n) (hn : n ≤ zlen j) (hQ : Q (some (zl (r_lsum (fA σ j) n))) σ) : ∀ (m i : Nat), i + m = n → zY mi_X3_total d Q 4 [some (zr 4 j), some (zl (r_lsum (fA σ j) i)), none, some (zi (nI i))] [] σ := by
  have hz := zlen_le j
  intro m
  induction m with
  | zero =>
    intro i hi
    obtain rfl : i = n := by omega
    refine y_iload_n (q := 5) dX3_total_4 rfl rfl rfl ?_
    refine y_aload_n (q := 6) dX3_total_5 rfl rfl rfl ?_
    refine y_get (q := 9) fk_X3_9 (by first | decide | exact zok4 (by assumption) | exact zok4 (by omega)) (gv_4_1 _ _) dX3_total_6 rfl ?_
    refine y_icmp_ge (q := 12) 27 dX3_total_9 rfl rfl (fun h9 => ?_) (fun h9 => ?_)
    · refine y_lload_n (q := 28) dX3_total_27 rfl rfl rfl ?_
      exact y_lret dX3_total_28 rfl (by exact hQ)
    · exact absurd (by rw [hs]; exact nI_le (Nat.le_refl i) (by omega)) h9
  | succ m ih =>
    intro i hi
    refine y_iload_n (q := 5) dX3_total_4 rfl rfl rfl ?_
    refine y_aload_n (q := 6) dX3_total_5 rfl rfl rfl ?_
    refine y_get (q := 9) fk_X3_9 (by first | decide | exact zok4 (by assumption) | exact zok4 (by omega)) (gv_4_1 _ _) dX3_total_6 rfl ?_
    refine y_icmp_ge (q := 12) 27 dX3_total_9 rfl rfl (fun h9 => ?_) (fun h9 => ?_)
    · exact absurd h9 (by rw [hs]; exact nI_ge (by omega) (by omega))
    · refine y_lload_n (q := 13) dX3_total_12 rfl rfl rfl ?_
      refine y_aload_n (q := 14) dX3_total_13 rfl rfl rfl ?_
      refine y_iload_n (q := 15) dX3_total_14 rfl rfl rfl ?_
      refine y_cV (q := 18) (c_X3_valueAt _ _ _ (by first | assumption | decide | omega)) lk_X3_39 (by first | decide | exact zok4 (by assumption) | exact zok4 (by omega)) (by decide) rfl hd2 rfl rfl rfl dX3_total_15 rfl ?_
      rw [r_val_in hs hn (by omega)]
      refine y_i2l (q := 19) dX3_total_18 rfl ?_
      refine y_ladd (q := 20) dX3_total_19 rfl ?_
      refine y_lstore_n1 (q := 21) dX3_total_20 rfl rfl rfl ?_
      refine y_iinc_3 (q := 24) dX3_total_21 rfl ic_1 rfl rfl ?_
      refine y_goto 4 dX3_total_24 rfl ?_
      rw [nI_1]
      exact ih (i + 1) (by omega)
theorem c_X3_total (σ : zSt) (j n : Nat) (hj : j < 10) (hs : fI σ 4 j 1 = nI n) (hn : n ≤ zlen j) : Mf 2 mi_X3_total [zr 4 j] σ (some (zl (r_lsum (fA σ j) n))) σ := by
  refine Mt_of (ls := [some (zr 4 j), none, none, none]) (by decide +kernel) rfl rfl ?_
  refine y_lconst (q := 1) dX3_total_0 lc_0 rfl ?_
  refine y_lstore_n1 (q := 2) dX3_total_1 rfl rfl rfl ?_
  refine y_iconst (q := 3) dX3_total_2 ic_0 rfl ?_
  refine y_istore_n3 (q := 4) dX3_total_3 rfl rfl rfl ?_
  exact lp_X3_total σ j n rfl hj hs hn ⟨rfl, rfl⟩ n 0 (by omega)
theorem lp_X3_mixedInto {d : Nat} {Q : zQ} (σ : zSt) (j n : Nat) (h h0 : Int64) (hd2 : Nat.ble 2 d = true) (hj : j < 10) (hs : fI σ 4 j 1 = nI n) (hn : n ≤ zlen j) (hQ : Q (some (zl (r_mix (fA σ j) h n))) σ) : ∀ (m i : Nat), i + m = n → zY mi_X3_mixedInto d Q 15 [some (zr 4 j), some (zl h0), none, some (zl (r_mix (fA σ j) h i)), none, some (zi (nI i))] [] σ := by
  have hz := zlen_le j
  intro m
  induction m with
  | zero =>
    intro i hi
    obtain rfl : i = n := by omega
    refine y_iload (q := 17) dX3_mixedInto_15 rfl rfl ?_
    refine y_aload_n (q := 18) dX3_mixedInto_17 rfl rfl rfl ?_
    refine y_get (q := 21) fk_X3_9 (by first | decide | exact zok4 (by assumption) | exact zok4 (by omega)) (gv_4_1 _ _) dX3_mixedInto_18 rfl ?_
    refine y_icmp_ge (q := 24) 44 dX3_mixedInto_21 rfl rfl (fun h21 => ?_) (fun h21 => ?_)
    · refine y_lload_n (q := 45) dX3_mixedInto_44 rfl rfl rfl ?_
      exact y_lret dX3_mixedInto_45 rfl (by exact hQ)
    · exact absurd (by rw [hs]; exact nI_le (Nat.le_refl i) (by omega)) h21
  | succ m ih =>
    intro i hi
    refine y_iload (q := 17) dX3_mixedInto_15 rfl rfl ?_
    refine y_aload_n (q := 18) dX3_mixedInto_17 rfl rfl rfl ?_
    refine y_get (q := 21) fk_X3_9 (by first | decide | exact zok4 (by assumption) | exact zok4 (by omega)) (gv_4_1 _ _) dX3_mixedInto_18 rfl ?_
    refine y_icmp_ge (q := 24) 44 dX3_mixedInto_21 rfl rfl (fun h21 => ?_) (fun h21 => ?_)
    · exact absurd h21 (by rw [hs]; exact nI_ge (by omega) (by omega))
    · refine y_ldc2_w (q := 27) dX3_mixedInto_24 ck_X3_43 rfl ?_
      refine y_lload_n (q := 28) dX3_mixedInto_27 rfl rfl rfl ?_
      refine y_lmul (q := 29) dX3_mixedInto_28 rfl ?_
      refine y_aload_n (q := 30) dX3_mixedInto_29 rfl rfl rfl ?_
      refine y_iload (q := 32) dX3_mixedInto_30 rfl rfl ?_
      refine y_cV (q := 35) (c_X3_valueAt _ _ _ (by first | assumption | decide | omega)) lk_X3_39 (by first | decide | exact zok4 (by assumption) | exact zok4 (by omega)) (by decide) rfl hd2 rfl rfl rfl dX3_mixedInto_32 rfl ?_
      rw [r_val_in hs hn (by omega)]
      refine y_i2l (q := 36) dX3_mixedInto_35 rfl ?_
      refine y_ladd (q := 37) dX3_mixedInto_36 rfl ?_
      refine y_lstore_n3 (q := 38) dX3_mixedInto_37 rfl rfl rfl ?_
      refine y_iinc_5 (q := 41) dX3_mixedInto_38 rfl ic_1 rfl rfl ?_
      refine y_goto 15 dX3_mixedInto_41 rfl ?_
      rw [nI_1]
      exact ih (i + 1) (by omega)
theorem c_X3_mixedInto (σ : zSt) (j n : Nat) (h : Int64) (hj : j < 10) (hs : fI σ 4 j 1 = nI n) (hn : n ≤ zlen j) : Mf 2 mi_X3_mixedInto [zr 4 j, zl h] σ (some (zl (r_mix (fA σ j) (31 * h + (nI n).toInt64) n))) σ := by
  refine Mt_of (ls := [some (zr 4 j), some (zl h), none, none, none, none]) (by decide +kernel) rfl rfl ?_
  refine y_ldc2_w (q := 3) dX3_mixedInto_0 ck_X3_43 rfl ?_
  refine y_lload_n (q := 4) dX3_mixedInto_3 rfl rfl rfl ?_
  refine y_lmul (q := 5) dX3_mixedInto_4 rfl ?_
  refine y_aload_n (q := 6) dX3_mixedInto_5 rfl rfl rfl ?_
  refine y_get (q := 9) fk_X3_9 (by first | decide | exact zok4 (by assumption) | exact zok4 (by omega)) (gv_4_1 _ _) dX3_mixedInto_6 rfl ?_
  rw [hs]
  refine y_i2l (q := 10) dX3_mixedInto_9 rfl ?_
  refine y_ladd (q := 11) dX3_mixedInto_10 rfl ?_
  refine y_lstore_n3 (q := 12) dX3_mixedInto_11 rfl rfl rfl ?_
  refine y_iconst (q := 13) dX3_mixedInto_12 ic_0 rfl ?_
  refine y_istore_5 (q := 15) dX3_mixedInto_13 rfl rfl rfl ?_
  exact lp_X3_mixedInto σ j n _ _ rfl hj hs hn ⟨rfl, rfl⟩ n 0 (by omega)
theorem c_X3_mixedInto_no (σ : zSt) (j : Nat) (h : Int64) (hj : j < 10) (hs : fI σ 4 j 1 = -1) : Mf 2 mi_X3_mixedInto [zr 4 j, zl h] σ (some (zl (31 * h + (-1 : Int32).toInt64))) σ := by
  refine Mt_of (ls := [some (zr 4 j), some (zl h), none, none, none, none]) (by decide +kernel) rfl rfl ?_
  refine y_ldc2_w (q := 3) dX3_mixedInto_0 ck_X3_43 rfl ?_
  refine y_lload_n (q := 4) dX3_mixedInto_3 rfl rfl rfl ?_
  refine y_lmul (q := 5) dX3_mixedInto_4 rfl ?_
  refine y_aload_n (q := 6) dX3_mixedInto_5 rfl rfl rfl ?_
  refine y_get (q := 9) fk_X3_9 (by first | decide | exact zok4 (by assumption) | exact zok4 (by omega)) (gv_4_1 _ _) dX3_mixedInto_6 rfl ?_
  rw [hs]
  refine y_i2l (q := 10) dX3_mixedInto_9 rfl ?_
  refine y_ladd (q := 11) dX3_mixedInto_10 rfl ?_
  refine y_lstore_n3 (q := 12) dX3_mixedInto_11 rfl rfl rfl ?_
  refine y_iconst (q := 13) dX3_mixedInto_12 ic_0 rfl ?_
  refine y_istore_5 (q := 15) dX3_mixedInto_13 rfl rfl rfl ?_
  refine y_iload (q := 17) dX3_mixedInto_15 rfl rfl ?_
  refine y_aload_n (q := 18) dX3_mixedInto_17 rfl rfl rfl ?_
  refine y_get (q := 21) fk_X3_9 (by first | decide | exact zok4 (by assumption) | exact zok4 (by omega)) (gv_4_1 _ _) dX3_mixedInto_18 rfl ?_
  refine y_icmp_ge (q := 24) 44 dX3_mixedInto_21 rfl rfl (fun h21 => ?_) (fun h21 => ?_)
  · refine y_lload_n (q := 45) dX3_mixedInto_44 rfl rfl rfl ?_
    exact y_lret dX3_mixedInto_45 rfl (by first | exact ⟨rfl, rfl⟩ | exact ⟨by simp [*], rfl⟩)
  · exact absurd (by rw [hs]; decide) h21
theorem c_X3_takeRun (σ : zSt) (j j2 : Nat) (i k n : Int32) (hj : j < 10) (hj2 : j2 < 10) (hr1 : r_run σ j2 i n) (hr2 : r_run σ j k n) (h4 : i.toNatClampNeg + n.toNatClampNeg ≤ zlen j2) (h5 : k.toNatClampNeg + n.toNatClampNeg ≤ zlen j) : Mf 1 mi_X3_takeRun [zr 4 j, zr 4 j2, zi i, zi k, zi n] σ none (sA σ j (va_cpy (fA σ j2) (fA σ j) i.toNatClampNeg k.toNatClampNeg n.toNatClampNeg)) := by
  refine Mt_of (ls := [some (zr 4 j), some (zr 4 j2), some (zi i), some (zi k), some (zi n)]) (by decide +kernel) rfl rfl ?_
  refine y_aload_n (q := 1) dX3_takeRun_0 rfl rfl rfl ?_
  refine y_iload_n (q := 2) dX3_takeRun_1 rfl rfl rfl ?_
  refine y_iload (q := 4) dX3_takeRun_2 rfl rfl ?_
  refine y_cV (q := 7) (c_X3_hasRun _ _ _ _ (by first | assumption | decide | omega)) lk_X3_29 (by first | decide | exact zok4 (by assumption) | exact zok4 (by omega)) (by decide) rfl rfl rfl rfl rfl dX3_takeRun_4 rfl ?_
  refine y_if_eqB (q := 10) 35 dX3_takeRun_7 rfl rfl (fun h7 => ?_) (fun h7 => ?_)
  · exact absurd hr1 h7
  · refine y_aload_n (q := 11) dX3_takeRun_10 rfl rfl rfl ?_
    refine y_iload_n (q := 12) dX3_takeRun_11 rfl rfl rfl ?_
    refine y_iload (q := 14) dX3_takeRun_12 rfl rfl ?_
    refine y_cV (q := 17) (c_X3_hasRun _ _ _ _ (by first | assumption | decide | omega)) lk_X3_29 (by first | decide | exact zok4 (by assumption) | exact zok4 (by omega)) (by decide) rfl rfl rfl rfl rfl dX3_takeRun_14 rfl ?_
    refine y_if_eqB (q := 20) 35 dX3_takeRun_17 rfl rfl (fun h17 => ?_) (fun h17 => ?_)
    · exact absurd hr2 h17
    · refine y_aload_n (q := 21) dX3_takeRun_20 rfl rfl rfl ?_
      refine y_get (q := 24) fk_X3_21 (by first | decide | exact zok4 (by assumption) | exact zok4 (by omega)) (gv_4_0 _ _) dX3_takeRun_21 rfl ?_
      refine y_iload_n (q := 25) dX3_takeRun_24 rfl rfl rfl ?_
      refine y_aload_n (q := 26) dX3_takeRun_25 rfl rfl rfl ?_
      refine y_get (q := 29) fk_X3_21 (by first | decide | exact zok4 (by assumption) | exact zok4 (by omega)) (gv_4_0 _ _) dX3_takeRun_26 rfl ?_
      refine y_iload_n (q := 30) dX3_takeRun_29 rfl rfl rfl ?_
      refine y_iload (q := 32) dX3_takeRun_30 rfl rfl ?_
      refine y_copy cpk_X3_33 (by omega) (by omega) hr1.1 hr2.1 hr1.2.1 h4 h5 rfl rfl dX3_takeRun_32 rfl ?_
      exact y_vret dX3_takeRun_35 rfl ⟨rfl, rfl⟩
/-! ===== Past ===== -/
def p_room (σ : zSt) (j : Nat) : Int32 := if fI σ 2 j 2 < 0 then 0 else 40 - fI σ 2 j 2
def p_state (σ : zSt) (j : Nat) : Int32 := if fI σ 2 j 2 < 0 ∨ nI 41 ≤ fI σ 2 j 2 then 0 else fA σ (10 + j) (fI σ 2 j 2).toNatClampNeg
def p_number (σ : zSt) (j : Nat) : Int32 := if fI σ 2 j 2 < 0 ∨ nI 41 ≤ fI σ 2 j 2 then 0 else fA σ (14 + j) (fI σ 2 j 2).toNatClampNeg
theorem p_state_at {σ : zSt} {j n : Nat} (hs : fI σ 2 j 2 = nI n) (hn : n ≤ 40) : p_state σ j = fA σ (10 + j) n := by
  rw [p_state, hs, if_neg, nI_clamp (by omega)]
  intro h
  rcases h with h | h
  · exact absurd h (nI_pos (by omega))
  · exact absurd h (nI_ge (by omega) (by omega))
theorem p_number_at {σ : zSt} {j n : Nat} (hs : fI σ 2 j 2 = nI n) (hn : n ≤ 40) : p_number σ j = fA σ (14 + j) n := by
  rw [p_number, hs, if_neg, nI_clamp (by omega)]
  intro h
  rcases h with h | h
  · exact absurd h (nI_pos (by omega))
  · exact absurd h (nI_ge (by omega) (by omega))
theorem c_X1_isThere (σ : zSt) (j : Nat) (hj : j < 4) : Mf 0 mi_X1_isThere [zr 2 j] σ (some (zi (b2i (0 ≤ fI σ 2 j 2)))) σ := by
  refine Mt_of (ls := [some (zr 2 j)]) (by decide +kernel) rfl rfl ?_
  refine y_aload_n (q := 1) dX1_isThere_0 rfl rfl rfl ?_
  refine y_get (q := 4) fk_X1_18 (by first | decide | exact zok2 (by assumption) | exact zok2 (by omega)) (gv_2_2 _ _) dX1_isThere_1 rfl ?_
  refine y_if_lt (q := 7) 11 dX1_isThere_4 rfl rfl (fun h4 => ?_) (fun h4 => ?_)
  · refine y_iconst (q := 12) dX1_isThere_11 ic_0 rfl ?_
    exact y_zret (by first | exact Or.inl rfl | exact Or.inr rfl | assumption) dX1_isThere_12 rfl (by first | exact ⟨by rw [b2i_f (Int32.not_le.mpr h4)], rfl⟩ | exact ⟨by rw [b2i_t (Int32.not_lt.mp h4)], rfl⟩)
  · refine y_iconst (q := 8) dX1_isThere_7 ic_1 rfl ?_
    refine y_goto 12 dX1_isThere_8 rfl ?_
    exact y_zret (by first | exact Or.inl rfl | exact Or.inr rfl | assumption) dX1_isThere_12 rfl (by first | exact ⟨by rw [b2i_f (Int32.not_le.mpr h4)], rfl⟩ | exact ⟨by rw [b2i_t (Int32.not_lt.mp h4)], rfl⟩)
theorem c_X1_deeds (σ : zSt) (j : Nat) (hj : j < 4) : Mf 1 mi_X1_deeds [zr 2 j] σ (some (zi (zmax (fI σ 2 j 2) 0))) σ := by
  refine Mt_of (ls := [some (zr 2 j)]) (by decide +kernel) rfl rfl ?_
  refine y_aload_n (q := 1) dX1_deeds_0 rfl rfl rfl ?_
  refine y_get (q := 4) fk_X1_18 (by first | decide | exact zok2 (by assumption) | exact zok2 (by omega)) (gv_2_2 _ _) dX1_deeds_1 rfl ?_
  refine y_iconst (q := 5) dX1_deeds_4 ic_0 rfl ?_
  refine y_mmax (q := 8) lk_X1_22 rfl rfl dX1_deeds_5 rfl ?_
  exact y_iret dX1_deeds_8 rfl (by first | exact ⟨rfl, rfl⟩ | exact ⟨by simp [b2i, r_has, r_run, *], rfl⟩ | exact ⟨by simp_all [b2i, r_has, r_run], rfl⟩)
theorem c_X1_room (σ : zSt) (j : Nat) (hj : j < 4) : Mf 1 mi_X1_room [zr 2 j] σ (some (zi (p_room σ j))) σ := by
  refine Mt_of (ls := [some (zr 2 j)]) (by decide +kernel) rfl rfl ?_
  refine y_aload_n (q := 1) dX1_room_0 rfl rfl rfl ?_
  refine y_cV (q := 4) (c_X1_isThere _ _ (by first | assumption | decide | omega)) lk_X1_28 (by first | decide | exact zok2 (by assumption) | exact zok2 (by omega)) (by decide) rfl rfl rfl rfl rfl dX1_room_1 rfl ?_
  refine y_if_eqB (q := 7) 17 dX1_room_4 rfl rfl (fun h4 => ?_) (fun h4 => ?_)
  · refine y_iconst (q := 18) dX1_room_17 ic_0 rfl ?_
    exact y_iret dX1_room_18 rfl (by first | exact ⟨by rw [p_room, if_neg (Int32.not_lt.mpr h4)], rfl⟩ | exact ⟨by rw [p_room, if_pos (Int32.not_le.mp h4)], rfl⟩)
  · refine y_bipush (q := 9) dX1_room_7 bp_40 rfl ?_
    refine y_aload_n (q := 10) dX1_room_9 rfl rfl rfl ?_
    refine y_get (q := 13) fk_X1_18 (by first | decide | exact zok2 (by assumption) | exact zok2 (by omega)) (gv_2_2 _ _) dX1_room_10 rfl ?_
    refine y_isub (q := 14) dX1_room_13 rfl ?_
    refine y_goto 18 dX1_room_14 rfl ?_
    exact y_iret dX1_room_18 rfl (by first | exact ⟨by rw [p_room, if_neg (Int32.not_lt.mpr h4)], rfl⟩ | exact ⟨by rw [p_room, if_pos (Int32.not_le.mp h4)], rfl⟩)
theorem c_X1_state (σ : zSt) (j : Nat) (hj : j < 4) : Mf 0 mi_X1_state [zr 2 j] σ (some (zi (p_state σ j))) σ := by
  refine Mt_of (ls := [some (zr 2 j)]) (by decide +kernel) rfl rfl ?_
  refine y_aload_n (q := 1) dX1_state_0 rfl rfl rfl ?_
  refine y_get (q := 4) fk_X1_18 (by first | decide | exact zok2 (by assumption) | exact zok2 (by omega)) (gv_2_2 _ _) dX1_state_1 rfl ?_
  refine y_if_lt (q := 7) 31 dX1_state_4 rfl rfl (fun h4 => ?_) (fun h4 => ?_)
  · refine y_iconst (q := 32) dX1_state_31 ic_0 rfl ?_
    exact y_iret dX1_state_32 rfl (by exact ⟨by simp [p_state, *], rfl⟩)
  · refine y_aload_n (q := 8) dX1_state_7 rfl rfl rfl ?_
    refine y_get (q := 11) fk_X1_18 (by first | decide | exact zok2 (by assumption) | exact zok2 (by omega)) (gv_2_2 _ _) dX1_state_8 rfl ?_
    refine y_aload_n (q := 12) dX1_state_11 rfl rfl rfl ?_
    refine y_get (q := 15) fk_X1_9 (by first | decide | exact zok2 (by assumption) | exact zok2 (by omega)) (gv_2_0 _ _) dX1_state_12 rfl ?_
    refine y_alen6 (q := 16) (by first | decide | assumption | omega) dX1_state_15 rfl ?_
    rw [zlen10 hj]
    refine y_icmp_ge (q := 19) 31 dX1_state_16 rfl rfl (fun h16 => ?_) (fun h16 => ?_)
    · refine y_iconst (q := 32) dX1_state_31 ic_0 rfl ?_
      exact y_iret dX1_state_32 rfl (by exact ⟨by simp [p_state, *], rfl⟩)
    · refine y_aload_n (q := 20) dX1_state_19 rfl rfl rfl ?_
      refine y_get (q := 23) fk_X1_9 (by first | decide | exact zok2 (by assumption) | exact zok2 (by omega)) (gv_2_0 _ _) dX1_state_20 rfl ?_
      refine y_aload_n (q := 24) dX1_state_23 rfl rfl rfl ?_
      refine y_get (q := 27) fk_X1_18 (by first | decide | exact zok2 (by assumption) | exact zok2 (by omega)) (gv_2_2 _ _) dX1_state_24 rfl ?_
      refine y_iald (q := 28) (by first | decide | assumption | omega) (by rw [zlen10 hj]; exact zvin h4 h16 (by decide)) dX1_state_27 rfl ?_
      refine y_goto 32 dX1_state_28 rfl ?_
      exact y_iret dX1_state_32 rfl (by exact ⟨by simp [p_state, *], rfl⟩)
theorem c_X1_number (σ : zSt) (j : Nat) (hj : j < 4) : Mf 0 mi_X1_number [zr 2 j] σ (some (zi (p_number σ j))) σ := by
  refine Mt_of (ls := [some (zr 2 j)]) (by decide +kernel) rfl rfl ?_
  refine y_aload_n (q := 1) dX1_number_0 rfl rfl rfl ?_
  refine y_get (q := 4) fk_X1_18 (by first | decide | exact zok2 (by assumption) | exact zok2 (by omega)) (gv_2_2 _ _) dX1_number_1 rfl ?_
  refine y_if_lt (q := 7) 31 dX1_number_4 rfl rfl (fun h4 => ?_) (fun h4 => ?_)
  · refine y_iconst (q := 32) dX1_number_31 ic_0 rfl ?_
    exact y_iret dX1_number_32 rfl (by exact ⟨by simp [p_number, *], rfl⟩)
  · refine y_aload_n (q := 8) dX1_number_7 rfl rfl rfl ?_
    refine y_get (q := 11) fk_X1_18 (by first | decide | exact zok2 (by assumption) | exact zok2 (by omega)) (gv_2_2 _ _) dX1_number_8 rfl ?_
    refine y_aload_n (q := 12) dX1_number_11 rfl rfl rfl ?_
    refine y_get (q := 15) fk_X1_15 (by first | decide | exact zok2 (by assumption) | exact zok2 (by omega)) (gv_2_1 _ _) dX1_number_12 rfl ?_
    refine y_alen6 (q := 16) (by first | decide | assumption | omega) dX1_number_15 rfl ?_
    rw [zlen14 hj]
    refine y_icmp_ge (q := 19) 31 dX1_number_16 rfl rfl (fun h16 => ?_) (fun h16 => ?_)
    · refine y_iconst (q := 32) dX1_number_31 ic_0 rfl ?_
      exact y_iret dX1_number_32 rfl (by exact ⟨by simp [p_number, *], rfl⟩)
    · refine y_aload_n (q := 20) dX1_number_19 rfl rfl rfl ?_
      refine y_get (q := 23) fk_X1_15 (by first | decide | exact zok2 (by assumption) | exact zok2 (by omega)) (gv_2_1 _ _) dX1_number_20 rfl ?_
      refine y_aload_n (q := 24) dX1_number_23 rfl rfl rfl ?_
      refine y_get (q := 27) fk_X1_18 (by first | decide | exact zok2 (by assumption) | exact zok2 (by omega)) (gv_2_2 _ _) dX1_number_24 rfl ?_
      refine y_iald (q := 28) (by first | decide | assumption | omega) (by rw [zlen14 hj]; exact zvin h4 h16 (by decide)) dX1_number_27 rfl ?_
      refine y_goto 32 dX1_number_28 rfl ?_
      exact y_iret dX1_number_32 rfl (by exact ⟨by simp [p_number, *], rfl⟩)
theorem c_X1_forget (σ : zSt) (j : Nat) (hj : j < 4) : Mf 0 mi_X1_forget [zr 2 j] σ none (sI σ 2 j 2 (-1)) := by
  refine Mt_of (ls := [some (zr 2 j)]) (by decide +kernel) rfl rfl ?_
  refine y_aload_n (q := 1) dX1_forget_0 rfl rfl rfl ?_
  refine y_iconst (q := 2) dX1_forget_1 ic_m1 rfl ?_
  refine y_putI (q := 5) fk_X1_18 (by decide) (by first | decide | exact zok2 (by assumption) | exact zok2 (by omega)) dX1_forget_2 rfl ?_
  exact y_vret dX1_forget_5 rfl (by first | exact ⟨rfl, rfl⟩ | exact ⟨by simp [*], rfl⟩)
theorem z0cl : (0 : Int32).toNatClampNeg = 0 := by decide
theorem z0in {n : Nat} (h : 0 < n) : vp_in 0 n := by
  rw [vp_in_iff, i32z]
  omega
def p_begin (σ : zSt) (j : Nat) (s : Int32) : zSt := sI (sA (sA σ (10 + j) (upd (fA σ (10 + j)) 0 s)) (14 + j) (upd (fA σ (14 + j)) 0 0)) 2 j 2 0
def p_go (σ : zSt) (j n : Nat) (s x : Int32) : zSt := sI (sA (sA σ (10 + j) (upd (fA σ (10 + j)) (n + 1) s)) (14 + j) (upd (fA σ (14 + j)) (n + 1) x)) 2 j 2 (nI (n + 1))
theorem c_X1_begin (σ : zSt) (j : Nat) (s : Int32) (hj : j < 4) : Mf 0 mi_X1_begin [zr 2 j, zi s] σ none (p_begin σ j s) := by
  refine Mt_of (ls := [some (zr 2 j), some (zi s)]) (by decide +kernel) rfl rfl ?_
  refine y_aload_n (q := 1) dX1_begin_0 rfl rfl rfl ?_
  refine y_iconst (q := 2) dX1_begin_1 ic_0 rfl ?_
  refine y_putI (q := 5) fk_X1_18 (by decide) (by first | decide | exact zok2 (by assumption) | exact zok2 (by omega)) dX1_begin_2 rfl ?_
  refine y_aload_n (q := 6) dX1_begin_5 rfl rfl rfl ?_
  refine y_get (q := 9) fk_X1_9 (by first | decide | exact zok2 (by assumption) | exact zok2 (by omega)) (gv_2_0 _ _) dX1_begin_6 rfl ?_
  refine y_iconst (q := 10) dX1_begin_9 ic_0 rfl ?_
  refine y_iload_n (q := 11) dX1_begin_10 rfl rfl rfl ?_
  refine y_iast (q := 12) (by first | decide | assumption | omega) (by rw [zlen10 hj]; exact z0in (by decide)) dX1_begin_11 rfl ?_
  refine y_aload_n (q := 13) dX1_begin_12 rfl rfl rfl ?_
  refine y_get (q := 16) fk_X1_15 (by first | decide | exact zok2 (by assumption) | exact zok2 (by omega)) (gv_2_1 _ _) dX1_begin_13 rfl ?_
  refine y_iconst (q := 17) dX1_begin_16 ic_0 rfl ?_
  refine y_iconst (q := 18) dX1_begin_17 ic_0 rfl ?_
  refine y_iast (q := 19) (by first | decide | assumption | omega) (by rw [zlen14 hj]; exact z0in (by decide)) dX1_begin_18 rfl ?_
  exact y_vret dX1_begin_19 rfl (by exact ⟨rfl, by rw [z0cl, fA_sA, if_neg (by omega)]; rfl⟩)
theorem c_X1_go (σ : zSt) (j n : Nat) (s x : Int32) (hj : j < 4) (hs : fI σ 2 j 2 = nI n) (hn : n < 40) : Mf 2 mi_X1_go [zr 2 j, zi s, zi x] σ none (p_go σ j n s (p_number σ j + x)) := by
  refine Mt_of (ls := [some (zr 2 j), some (zi s), some (zi x), none]) (by decide +kernel) rfl rfl ?_
  refine y_aload_n (q := 1) dX1_go_0 rfl rfl rfl ?_
  refine y_cV (q := 4) (c_X1_room _ _ (by first | assumption | decide | omega)) lk_X1_32 (by first | decide | exact zok2 (by assumption) | exact zok2 (by omega)) (by decide) rfl rfl rfl rfl rfl dX1_go_1 rfl ?_
  refine y_if_le (q := 7) 44 dX1_go_4 rfl rfl (fun h4 => ?_) (fun h4 => ?_)
  · exact absurd h4 (by rw [p_room, hs, if_neg (nI_pos (by omega)), i32le, i32z, show (40 : Int32) = nI 40 from rfl, pk_sub_toInt (by omega) (by omega)]; omega)
  · refine y_aload_n (q := 8) dX1_go_7 rfl rfl rfl ?_
    refine y_cV (q := 11) (c_X1_number _ _ (by first | assumption | decide | omega)) lk_X1_36 (by first | decide | exact zok2 (by assumption) | exact zok2 (by omega)) (by decide) rfl rfl rfl rfl rfl dX1_go_8 rfl ?_
    refine y_iload_n (q := 12) dX1_go_11 rfl rfl rfl ?_
    refine y_iadd (q := 13) dX1_go_12 rfl ?_
    refine y_istore_n3 (q := 14) dX1_go_13 rfl rfl rfl ?_
    refine y_aload_n (q := 15) dX1_go_14 rfl rfl rfl ?_
    refine y_dupR (q := 16) dX1_go_15 rfl ?_
    refine y_get (q := 19) fk_X1_18 (by first | decide | exact zok2 (by assumption) | exact zok2 (by omega)) (gv_2_2 _ _) dX1_go_16 rfl ?_
    rw [hs]
    refine y_iconst (q := 20) dX1_go_19 ic_1 rfl ?_
    refine y_iadd (q := 21) dX1_go_20 rfl ?_
    rw [nI_1]
    refine y_putI (q := 24) fk_X1_18 (by decide) (by first | decide | exact zok2 (by assumption) | exact zok2 (by omega)) dX1_go_21 rfl ?_
    refine y_aload_n (q := 25) dX1_go_24 rfl rfl rfl ?_
    refine y_get (q := 28) fk_X1_9 (by first | decide | exact zok2 (by assumption) | exact zok2 (by omega)) (gv_2_0 _ _) dX1_go_25 rfl ?_
    refine y_aload_n (q := 29) dX1_go_28 rfl rfl rfl ?_
    refine y_get (q := 32) fk_X1_18 (by first | decide | exact zok2 (by assumption) | exact zok2 (by omega)) (gv_2_2 _ _) dX1_go_29 rfl ?_
    rw [fI_same]
    refine y_iload_n (q := 33) dX1_go_32 rfl rfl rfl ?_
    refine y_iast (q := 34) (by first | decide | assumption | omega) (by rw [zlen10 hj]; exact zvinN (by omega) (by omega)) dX1_go_33 rfl ?_
    refine y_aload_n (q := 35) dX1_go_34 rfl rfl rfl ?_
    refine y_get (q := 38) fk_X1_15 (by first | decide | exact zok2 (by assumption) | exact zok2 (by omega)) (gv_2_1 _ _) dX1_go_35 rfl ?_
    refine y_aload_n (q := 39) dX1_go_38 rfl rfl rfl ?_
    refine y_get (q := 42) fk_X1_18 (by first | decide | exact zok2 (by assumption) | exact zok2 (by omega)) (gv_2_2 _ _) dX1_go_39 rfl ?_
    rw [fI_sA, fI_same]
    refine y_iload_n (q := 43) dX1_go_42 rfl rfl rfl ?_
    refine y_iast (q := 44) (by first | decide | assumption | omega) (by rw [zlen14 hj]; exact zvinN (by omega) (by omega)) dX1_go_43 rfl ?_
    exact y_vret dX1_go_44 rfl (by exact ⟨rfl, by rw [nI_clamp (by omega), fA_sA, if_neg (by omega)]; rfl⟩)
theorem c_X1_goBack (σ : zSt) (j : Nat) (n : Int32) (hj : j < 4) (hA : ¬ n < 0) (hB : ¬ fI σ 2 j 2 < n) : Mf 0 mi_X1_goBack [zr 2 j, zi n] σ none (sI σ 2 j 2 n) := by
  refine Mt_of (ls := [some (zr 2 j), some (zi n)]) (by decide +kernel) rfl rfl ?_
  refine y_iload_n (q := 1) dX1_goBack_0 rfl rfl rfl ?_
  refine y_if_lt (q := 4) 17 dX1_goBack_1 rfl rfl (fun h1 => ?_) (fun h1 => ?_)
  · exact absurd h1 hA
  · refine y_iload_n (q := 5) dX1_goBack_4 rfl rfl rfl ?_
    refine y_aload_n (q := 6) dX1_goBack_5 rfl rfl rfl ?_
    refine y_get (q := 9) fk_X1_18 (by first | decide | exact zok2 (by assumption) | exact zok2 (by omega)) (gv_2_2 _ _) dX1_goBack_6 rfl ?_
    refine y_icmp_gt (q := 12) 17 dX1_goBack_9 rfl rfl (fun h9 => ?_) (fun h9 => ?_)
    · exact absurd h9 hB
    · refine y_aload_n (q := 13) dX1_goBack_12 rfl rfl rfl ?_
      refine y_iload_n (q := 14) dX1_goBack_13 rfl rfl rfl ?_
      refine y_putI (q := 17) fk_X1_18 (by decide) (by first | decide | exact zok2 (by assumption) | exact zok2 (by omega)) dX1_goBack_14 rfl ?_
      exact y_vret dX1_goBack_17 rfl (by exact ⟨rfl, rfl⟩)
theorem c_X1_goBack_no (σ : zSt) (j : Nat) (n : Int32) (hj : j < 4) (hA : ¬ n < 0) (hB : fI σ 2 j 2 < n) : Mf 0 mi_X1_goBack [zr 2 j, zi n] σ none σ := by
  refine Mt_of (ls := [some (zr 2 j), some (zi n)]) (by decide +kernel) rfl rfl ?_
  refine y_iload_n (q := 1) dX1_goBack_0 rfl rfl rfl ?_
  refine y_if_lt (q := 4) 17 dX1_goBack_1 rfl rfl (fun h1 => ?_) (fun h1 => ?_)
  · exact absurd h1 hA
  · refine y_iload_n (q := 5) dX1_goBack_4 rfl rfl rfl ?_
    refine y_aload_n (q := 6) dX1_goBack_5 rfl rfl rfl ?_
    refine y_get (q := 9) fk_X1_18 (by first | decide | exact zok2 (by assumption) | exact zok2 (by omega)) (gv_2_2 _ _) dX1_goBack_6 rfl ?_
    refine y_icmp_gt (q := 12) 17 dX1_goBack_9 rfl rfl (fun h9 => ?_) (fun h9 => ?_)
    · exact y_vret dX1_goBack_17 rfl (by exact ⟨rfl, rfl⟩)
    · exact absurd hB h9
theorem lp_X1_takeFrom {d : Nat} {Q : zQ} (j k n : Nat) (hj : j < 4) (hk : k < 4) (hjk : j ≠ k) (hn : n ≤ 40) : ∀ (m i : Nat) (σ : zSt), i + m = n + 1 → fI σ 2 j 2 = nI n → Q none (sA (sA σ (10 + j) (zcpy (fA σ (10 + j)) (fA σ (10 + k)) i (n + 1))) (14 + j) (zcpy (fA σ (14 + j)) (fA σ (14 + k)) i (n + 1))) → zY mi_X1_takeFrom d Q 10 [some (zr 2 j), some (zr 2 k), some (zi (nI i))] [] σ := by
  intro m
  induction m with
  | zero =>
    intro i σ hi hs hQ
    obtain rfl : i = n + 1 := by omega
    rw [zcpy_end, zcpy_end, sA_self, sA_self] at hQ
    refine y_iload_n (q := 11) dX1_takeFrom_10 rfl rfl rfl ?_
    refine y_aload_n (q := 12) dX1_takeFrom_11 rfl rfl rfl ?_
    refine y_get (q := 15) fk_X1_18 (by first | decide | exact zok2 (by assumption) | exact zok2 (by omega)) (gv_2_2 _ _) dX1_takeFrom_12 rfl ?_
    refine y_icmp_gt (q := 18) 54 dX1_takeFrom_15 rfl rfl (fun h15 => ?_) (fun h15 => ?_)
    · exact y_vret dX1_takeFrom_54 rfl (by exact hQ)
    · exact absurd (by rw [hs]; exact nI_lt (Nat.lt_succ_self n) (by omega)) h15
  | succ m ih =>
    intro i σ hi hs hQ
    refine y_iload_n (q := 11) dX1_takeFrom_10 rfl rfl rfl ?_
    refine y_aload_n (q := 12) dX1_takeFrom_11 rfl rfl rfl ?_
    refine y_get (q := 15) fk_X1_18 (by first | decide | exact zok2 (by assumption) | exact zok2 (by omega)) (gv_2_2 _ _) dX1_takeFrom_12 rfl ?_
    refine y_icmp_gt (q := 18) 54 dX1_takeFrom_15 rfl rfl (fun h15 => ?_) (fun h15 => ?_)
    · exact absurd h15 (by rw [hs]; exact nI_nlt (by omega) (by omega))
    · refine y_iload_n (q := 19) dX1_takeFrom_18 rfl rfl rfl ?_
      refine y_bipush (q := 21) dX1_takeFrom_19 bp_40 rfl ?_
      refine y_icmp_gt (q := 24) 54 dX1_takeFrom_21 rfl rfl (fun h21 => ?_) (fun h21 => ?_)
      · exact absurd h21 (nI_nlt (a := 40) (b := i) (by omega) (by omega))
      · refine y_aload_n (q := 25) dX1_takeFrom_24 rfl rfl rfl ?_
        refine y_get (q := 28) fk_X1_9 (by first | decide | exact zok2 (by assumption) | exact zok2 (by omega)) (gv_2_0 _ _) dX1_takeFrom_25 rfl ?_
        refine y_iload_n (q := 29) dX1_takeFrom_28 rfl rfl rfl ?_
        refine y_aload_n (q := 30) dX1_takeFrom_29 rfl rfl rfl ?_
        refine y_get (q := 33) fk_X1_9 (by first | decide | exact zok2 (by assumption) | exact zok2 (by omega)) (gv_2_0 _ _) dX1_takeFrom_30 rfl ?_
        refine y_iload_n (q := 34) dX1_takeFrom_33 rfl rfl rfl ?_
        refine y_iald (q := 35) (by first | decide | assumption | omega) (by rw [zlen10 hk]; exact zvinN (by omega) (by omega)) dX1_takeFrom_34 rfl ?_
        refine y_iast (q := 36) (by first | decide | assumption | omega) (by rw [zlen10 hj]; exact zvinN (by omega) (by omega)) dX1_takeFrom_35 rfl ?_
        refine y_aload_n (q := 37) dX1_takeFrom_36 rfl rfl rfl ?_
        refine y_get (q := 40) fk_X1_15 (by first | decide | exact zok2 (by assumption) | exact zok2 (by omega)) (gv_2_1 _ _) dX1_takeFrom_37 rfl ?_
        refine y_iload_n (q := 41) dX1_takeFrom_40 rfl rfl rfl ?_
        refine y_aload_n (q := 42) dX1_takeFrom_41 rfl rfl rfl ?_
        refine y_get (q := 45) fk_X1_15 (by first | decide | exact zok2 (by assumption) | exact zok2 (by omega)) (gv_2_1 _ _) dX1_takeFrom_42 rfl ?_
        refine y_iload_n (q := 46) dX1_takeFrom_45 rfl rfl rfl ?_
        refine y_iald (q := 47) (by first | decide | assumption | omega) (by rw [zlen14 hk]; exact zvinN (by omega) (by omega)) dX1_takeFrom_46 rfl ?_
        refine y_iast (q := 48) (by first | decide | assumption | omega) (by rw [zlen14 hj]; exact zvinN (by omega) (by omega)) dX1_takeFrom_47 rfl ?_
        refine y_iinc_2 (q := 51) dX1_takeFrom_48 rfl ic_1 rfl rfl ?_
        refine y_goto 10 dX1_takeFrom_51 rfl ?_
        rw [nI_1, nI_clamp (by omega)]
        refine ih (i + 1) _ (by omega) hs ?_
        have e1 : fA (sA σ (10 + j) (upd (fA σ (10 + j)) i (fA σ (10 + k) i))) (14 + k) = fA σ (14 + k) := fA_ne _ _ (by omega)
        have e2 : fA (sA σ (10 + j) (upd (fA σ (10 + j)) i (fA σ (10 + k) i))) (14 + j) = fA σ (14 + j) := fA_ne _ _ (by omega)
        rw [e1, e2]
        generalize hσ1 : sA σ (10 + j) (upd (fA σ (10 + j)) i (fA σ (10 + k) i)) = σ1 at *
        have e3 : fA (sA σ1 (14 + j) (upd (fA σ (14 + j)) i (fA σ (14 + k) i))) (10 + j) = upd (fA σ (10 + j)) i (fA σ (10 + k) i) := by rw [fA_ne _ _ (by omega), ← hσ1, fA_same]
        have e4 : fA (sA σ1 (14 + j) (upd (fA σ (14 + j)) i (fA σ (14 + k) i))) (10 + k) = fA σ (10 + k) := by rw [fA_ne _ _ (by omega), ← hσ1, fA_ne _ _ (by omega)]
        have e5 : fA (sA σ1 (14 + j) (upd (fA σ (14 + j)) i (fA σ (14 + k) i))) (14 + k) = fA σ (14 + k) := by rw [fA_ne _ _ (by omega), e1]
        rw [e3, e4, e5, fA_same, zcpy_step (by omega), zcpy_step (by omega), sA_com _ _ _ (by omega), sA_sA, ← hσ1]
        rw [sA_com _ _ _ (by omega), sA_sA]
        exact hQ
def p_take (σ : zSt) (j k n : Nat) : zSt := sI (sA (sA σ (10 + j) (zcpy (fA σ (10 + j)) (fA σ (10 + k)) 0 (n + 1))) (14 + j) (zcpy (fA σ (14 + j)) (fA σ (14 + k)) 0 (n + 1))) 2 j 2 (nI n)
theorem c_X1_takeFrom (σ : zSt) (j k n : Nat) (hj : j < 4) (hk : k < 4) (hjk : j ≠ k) (hs : fI σ 2 k 2 = nI n) (hn : n ≤ 40) : Mf 0 mi_X1_takeFrom [zr 2 j, zr 2 k] σ none (p_take σ j k n) := by
  refine Mt_of (ls := [some (zr 2 j), some (zr 2 k), none]) (by decide +kernel) rfl rfl ?_
  refine y_aload_n (q := 1) dX1_takeFrom_0 rfl rfl rfl ?_
  refine y_aload_n (q := 2) dX1_takeFrom_1 rfl rfl rfl ?_
  refine y_get (q := 5) fk_X1_18 (by first | decide | exact zok2 (by assumption) | exact zok2 (by omega)) (gv_2_2 _ _) dX1_takeFrom_2 rfl ?_
  rw [hs]
  refine y_putI (q := 8) fk_X1_18 (by decide) (by first | decide | exact zok2 (by assumption) | exact zok2 (by omega)) dX1_takeFrom_5 rfl ?_
  refine y_iconst (q := 9) dX1_takeFrom_8 ic_0 rfl ?_
  refine y_istore_n2 (q := 10) dX1_takeFrom_9 rfl rfl rfl ?_
  exact lp_X1_takeFrom j k n hj hk hjk hn (n + 1) 0 _ (by omega) (fI_same _ _ _ _ _) ⟨rfl, rfl⟩
end
